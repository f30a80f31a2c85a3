section LWC
variable {p : Program} {l : Launch} {e : Env} {R : Room} {s : State} {m : MethodId} {args : Array Value} {below : List Frame} {meth : Method} {c : Code} {E : EE} {H : Heap} {locs : List Loc} {cells slots : Nat} {Q : State → Prop} {h g h' : Hp}
variable {b mm ao sc X0 pc0 pu0 L DD : Nat} {xs : Nat → Int32} {i : Int32} {ls : Array Slot}
theorem lc_0 (l : Launch) (hlt : l.stackTraces = false) (X : CxL p E DD R s m args c cL_law RL 8) (hDD : 19 ≤ DD) (HX : va_X sc L xs s s.heap) (hbl : sc < s.heap.size) (hin : vp_in (i + 1) L ∧ vp_in (i + 2) L ∧ vp_in (i + 3) L ∧ vp_in (i + 4) L ∧ vp_in (i + 5) L) (S : StL E s h g H []) (hl : lv_has ls 8 [(4, .int i), (3, rv ao), (2, rv mm), (1, rv b), (0, .ref sc)]) (iv : IV b mm ao X0 pc0 pu0 h g) (hXl : X0 ≤ H.size) (hrc : cells + pc0 + 1 ≤ R.cells) (hrs : slots + pu0 + 6 ≤ R.slots)
    (kk : ∀ {h' g' : Hp} {H' : Heap} {X' pc' pu' : Nat} {ls' : Array Slot} {cells' slots' : Nat}, StL E s h' g' H' [] → lv_has ls' 8 [(4, .int i), (3, rv ao), (2, rv mm), (1, rv b), (0, .ref sc)] → IV b mm ao X' pc' pu' h' g' → X' ≤ H'.size → cells' + pc' ≤ cells + pc0 + 1 → slots' + pu' ≤ slots + pu0 + 6 → W p l e R s m args below meth c H' [] cells' slots' Q (F0 m 2048 ls' [])) : W p l e R s m args below meth c H [] cells slots Q (F0 m 196 ls []) := by
  obtain ⟨z1, hz1⟩ : ∃ z, xs (i + 1).toNatClampNeg = z := ⟨_, rfl⟩
  obtain ⟨z2, hz2⟩ : ∃ z, xs (i + 2).toNatClampNeg = z := ⟨_, rfl⟩
  obtain ⟨z3, hz3⟩ : ∃ z, xs (i + 3).toNatClampNeg = z := ⟨_, rfl⟩
  obtain ⟨z4, hz4⟩ : ∃ z, xs (i + 4).toNatClampNeg = z := ⟨_, rfl⟩
  obtain ⟨z5, hz5⟩ : ∃ z, xs (i + 5).toNatClampNeg = z := ⟨_, rfl⟩
  obtain ⟨v, h1, g1, e1, e2, iv1⟩ := dc_feed (z0 := z1) (z1 := z2) (z2 := z3) (z3 := z4) (z4 := z5) iv
  have r1 : cells ≤ R.cells := by omega
  have r2 : slots ≤ R.slots := by omega
  refine g_aloadL X (or_rv _) dL_law_196 rfl (lv_at hl 3 rfl) ?_
  refine g_arg (k := 1) X S HX hbl (lv_at hl 4 rfl) (lv_at hl 0 rfl) hin.1 rfl hz1 dL_law_197 dL_law_198 dL_law_200 dL_law_201 dL_law_202 ?_
  refine g_arg (k := 2) X S HX hbl (lv_at hl 4 rfl) (lv_at hl 0 rfl) hin.2.1 rfl hz2 dL_law_203 dL_law_204 dL_law_206 dL_law_207 dL_law_208 ?_
  refine g_arg (k := 3) X S HX hbl (lv_at hl 4 rfl) (lv_at hl 0 rfl) hin.2.2.1 rfl hz3 dL_law_209 dL_law_210 dL_law_212 dL_law_213 dL_law_214 ?_
  refine g_arg (k := 4) X S HX hbl (lv_at hl 4 rfl) (lv_at hl 0 rfl) hin.2.2.2.1 rfl hz4 dL_law_215 dL_law_216 dL_law_218 dL_law_219 dL_law_220 ?_
  refine g_arg (k := 5) X S HX hbl (lv_at hl 4 rfl) (lv_at hl 0 rfl) hin.2.2.2.2 rfl hz5 dL_law_221 dL_law_222 dL_law_224 dL_law_225 dL_law_226 ?_
  refine g_ciS S (runVL (As := [.int z1, .int z2, .int z3, .int z4, .int z5]) (rest := []) X S coL_90 (Nat.le_trans (by decide) hDD) (cX12_feed_m l e1) (tkX12_feed e1) rfl hl.1 (by simp [cat_rv, cat_wv, cat_sv, cat_i, cat_l, cat_a]) rfl ⟨r1, r2⟩ dL_law_227) (fun H1 S1 y1 => ?_)
  refine g_aloadL X (or_rv _) dL_law_230 rfl (lv_at hl 2 rfl) ?_
  clear S
  rename StL E s h1 g H1 [] => S
  refine g_arg (k := 1) X S HX hbl (lv_at hl 4 rfl) (lv_at hl 0 rfl) hin.1 rfl hz1 dL_law_231 dL_law_232 dL_law_234 dL_law_235 dL_law_236 ?_
  refine g_arg (k := 2) X S HX hbl (lv_at hl 4 rfl) (lv_at hl 0 rfl) hin.2.1 rfl hz2 dL_law_237 dL_law_238 dL_law_240 dL_law_241 dL_law_242 ?_
  refine g_arg (k := 3) X S HX hbl (lv_at hl 4 rfl) (lv_at hl 0 rfl) hin.2.2.1 rfl hz3 dL_law_243 dL_law_244 dL_law_246 dL_law_247 dL_law_248 ?_
  refine g_arg (k := 4) X S HX hbl (lv_at hl 4 rfl) (lv_at hl 0 rfl) hin.2.2.2.1 rfl hz4 dL_law_249 dL_law_250 dL_law_252 dL_law_253 dL_law_254 ?_
  refine g_arg (k := 5) X S HX hbl (lv_at hl 4 rfl) (lv_at hl 0 rfl) hin.2.2.2.2 rfl hz5 dL_law_255 dL_law_256 dL_law_258 dL_law_259 dL_law_260 ?_
  refine g_ciS S.swap (runVL (As := [.int z1, .int z2, .int z3, .int z4, .int z5]) (rest := [.int v]) X S.swap coL_93 (Nat.le_trans (by decide) hDD) (cX13_feed_m l e2) (tkX13_feed e2) rfl hl.1 (by simp [cat_rv, cat_wv, cat_sv, cat_i, cat_l, cat_a]) rfl ⟨r1, r2⟩ dL_law_261) (fun H2 S2 y2 => ?_)
  refine lv_icmp_eq (tgt := 2048) X.1 X.2.1 dL_law_264 (by decide) (fun _ => ?_) (fun x => absurd rfl x)
  exact kk S2.swap hl iv1 (Nat.le_trans hXl (Nat.le_trans y1 y2)) (by omega) (by omega)
theorem lc_1 (l : Launch) (hlt : l.stackTraces = false) (X : CxL p E DD R s m args c cL_law RL 8) (hDD : 19 ≤ DD) (HX : va_X sc L xs s s.heap) (hbl : sc < s.heap.size) (hin : vp_in (i + 1) L ∧ vp_in (i + 2) L ∧ vp_in (i + 3) L ∧ vp_in (i + 4) L ∧ vp_in (i + 5) L) (S : StL E s h g H []) (hl : lv_has ls 8 [(4, .int i), (3, rv ao), (2, rv mm), (1, rv b), (0, .ref sc)]) (iv : IV b mm ao X0 pc0 pu0 h g) (hXl : X0 ≤ H.size) (hrc : cells + pc0 + 1 ≤ R.cells) (hrs : slots + pu0 + 6 ≤ R.slots)
    (kk : ∀ {h' g' : Hp} {H' : Heap} {X' pc' pu' : Nat} {ls' : Array Slot} {cells' slots' : Nat}, StL E s h' g' H' [] → lv_has ls' 8 [(4, .int i), (3, rv ao), (2, rv mm), (1, rv b), (0, .ref sc)] → IV b mm ao X' pc' pu' h' g' → X' ≤ H'.size → cells' + pc' ≤ cells + pc0 + 1 → slots' + pu' ≤ slots + pu0 + 6 → W p l e R s m args below meth c H' [] cells' slots' Q (F0 m 2048 ls' [])) : W p l e R s m args below meth c H [] cells slots Q (F0 m 269 ls []) := by
  obtain ⟨z1, hz1⟩ : ∃ z, xs (i + 1).toNatClampNeg = z := ⟨_, rfl⟩
  refine W_know fun w1 _ _ => ?_
  have w4 := S.2.2.1
  obtain ⟨h8, e8⟩ : ∃ x : Hp, x = (h.1, h.2.1, h.2.2.1, h.2.2.2.1, h.2.2.2.2.1, (H.size, 0, H.size + pc0, pu0)) := ⟨_, rfl⟩
  have iv8 := IV_rs iv hXl
  have pr := da_program (z0 := z1) iv8
  have S8 : StL E s h8 g H [] := by rw [e8]; exact S
  have x8 : H.size = hX h8 := by rw [e8]; rfl
  have m8 : pc0 + hX h8 = hC h8 := by rw [e8]; exact Nat.add_comm _ _
  have n8 : pu0 + hU h8 = hZ h8 := by rw [e8]; rfl
  have u8 : hU h8 = 0 := by rw [e8]; rfl
  rw [← e8] at pr iv8
  clear e8
  refine g_aloadL X (or_rv _) dL_law_269 rfl (lv_at hl 3 rfl) ?_
  refine g_arg (k := 1) X S HX hbl (lv_at hl 4 rfl) (lv_at hl 0 rfl) hin.1 rfl hz1 dL_law_270 dL_law_271 dL_law_273 dL_law_274 dL_law_275 ?_
  refine g_aloadL X (or_rv _) dL_law_276 rfl (lv_at hl 1 rfl) ?_
  rcases pr with ⟨v, g1, e1, e2, e3, iv1⟩ | ⟨v, h7, h1, g1, pc1, pu1, e1, ok, eq, e4, e2, e3, q1, q2, q3, iv1⟩
  · have r1 : cells + 1 ≤ R.cells := by omega
    have r2 : slots + 6 ≤ R.slots := by omega
    refine g_ciS S8 (runHL (Pc := PcL E (AX s g) h8 [rv b, .int z1, rv ao]) (As := [rv b, .int z1, rv ao]) (rest := []) (n := 3) X blindL (pre_okL X S8 _) (uw_4 124 rfl rfl) (uw_4 126 rfl rfl) (uw_1 0 rfl rfl) (by decide) (by decide +kernel) (by decide) (uw_4 125 rfl rfl) (Nat.le_trans (by decide) hDD) (cL_program_x l hlt e1) rfl hl.1 (by simp [cat_rv, cat_wv, cat_sv, cat_i, cat_l, cat_a]) rfl ⟨r1, r2⟩ dL_law_277) (fun H1 S1 y1 => ?_)
    clear S8
    refine lv_istore (lv' := [(5, .int 1), (4, .int i), (3, rv ao), (2, rv mm), (1, rv b), (0, .ref sc)]) X.1 X.2.1 dL_law_280 hl (by decide) (by simp [List.filter, cat_rv, cat_wv, cat_sv, cat_i, cat_l]) (fun ls hl => ?_)
    refine g_aloadL X (or_rv _) dL_law_282 rfl (lv_at hl 3 rfl) ?_
    clear S
    rename StL E s h8 g H1 [] => S
    refine g_arg (k := 1) X S HX hbl (lv_at hl 5 rfl) (lv_at hl 1 rfl) hin.1 rfl hz1 dL_law_283 dL_law_284 dL_law_286 dL_law_287 dL_law_288 ?_
    refine g_ciS S.swap (runVL (As := [.int z1]) (rest := []) X S.swap coL_99 (Nat.le_trans (by decide) hDD) (cX13_program_m l e2) (tkX13_program e2) rfl hl.1 (by simp [cat_rv, cat_wv, cat_sv, cat_i, cat_l, cat_a]) rfl ⟨r1, r2⟩ dL_law_289) (fun H2 S2 y2 => ?_)
    exact lw_tail X hDD S2.swap hl iv1 e3 (fun x => absurd x (by decide)) r1 r2 dL_law_292 dL_law_294 dL_law_295 dL_law_298 dL_law_300 dL_law_305 dL_law_307 dL_law_310 dL_law_311 dL_law_312 dL_law_313 dL_law_315 dL_law_316 dL_law_317 dL_law_322 (by decide) (fun H3 ls S3 y3 hl3 => kk S3 hl3 iv1 (Nat.le_trans y1 (Nat.le_trans y2 y3)) (by omega) (by omega))
  · have r1 : cells + pc0 ≤ R.cells := by omega
    have r2 : slots + pu0 ≤ R.slots := by omega
    refine g_ciLA S8 (runHL (Pc := PcLF E (AX s g) h8 [rv b, .int z1, rv ao]) (As := [rv b, .int z1, rv ao]) (rest := []) (n := 3) X blindLF (fun U hU hW => ⟨pre_okL X S8 _ U hU hW, by rw [hU]; exact x8⟩) (uw_4 124 rfl rfl) (uw_4 126 rfl rfl) (uw_1 0 rfl rfl) (by decide) (by decide +kernel) (by decide) (uw_4 125 rfl rfl) (Nat.le_trans (by decide) hDD) (cL_program_m l m8 n8 e1 ok eq) rfl hl.1 (by simp [cat_rv, cat_wv, cat_sv, cat_i, cat_l, cat_a]) rfl ⟨r1, r2⟩ dL_law_277) (fun H1 locs1 S1 y1 => S1.drop fun S1 => ?_)
    clear S8
    have r3 : hX h1 - s.heap.size ≤ R.cells := by omega
    have r4 : slots + (hU h1 - hU h8) ≤ R.slots := by omega
    refine lv_istore (lv' := [(5, .int 0), (4, .int i), (3, rv ao), (2, rv mm), (1, rv b), (0, .ref sc)]) X.1 X.2.1 dL_law_280 hl (by decide) (by simp [List.filter, cat_rv, cat_wv, cat_sv, cat_i, cat_l]) (fun ls hl => ?_)
    refine g_aloadL X (or_rv _) dL_law_282 rfl (lv_at hl 3 rfl) ?_
    clear S
    rename StL E s h1 g H1 [] => S
    refine g_arg (k := 1) X S HX hbl (lv_at hl 5 rfl) (lv_at hl 1 rfl) hin.1 rfl hz1 dL_law_283 dL_law_284 dL_law_286 dL_law_287 dL_law_288 ?_
    refine g_ciS S.swap (runVL (As := [.int z1]) (rest := []) X S.swap coL_99 (Nat.le_trans (by decide) hDD) (cX13_program_m l e2) (tkX13_program e2) rfl hl.1 (by simp [cat_rv, cat_wv, cat_sv, cat_i, cat_l, cat_a]) rfl ⟨r3, r4⟩ dL_law_289) (fun H2 S2 y2 => ?_)
    exact lw_tail X hDD S2.swap hl iv1 e3 (fun _ => e4) r3 r4 dL_law_292 dL_law_294 dL_law_295 dL_law_298 dL_law_300 dL_law_305 dL_law_307 dL_law_310 dL_law_311 dL_law_312 dL_law_313 dL_law_315 dL_law_316 dL_law_317 dL_law_322 (by decide) (fun H3 ls S3 y3 hl3 => kk S3 hl3 iv1 (Nat.le_trans (Nat.le_of_eq y1.symm) (Nat.le_trans y2 y3)) (by omega) (by omega))
theorem lc_2 (l : Launch) (hlt : l.stackTraces = false) (X : CxL p E DD R s m args c cL_law RL 8) (hDD : 19 ≤ DD) (HX : va_X sc L xs s s.heap) (hbl : sc < s.heap.size) (hin : vp_in (i + 1) L ∧ vp_in (i + 2) L ∧ vp_in (i + 3) L ∧ vp_in (i + 4) L ∧ vp_in (i + 5) L) (S : StL E s h g H []) (hl : lv_has ls 8 [(4, .int i), (3, rv ao), (2, rv mm), (1, rv b), (0, .ref sc)]) (iv : IV b mm ao X0 pc0 pu0 h g) (hXl : X0 ≤ H.size) (hrc : cells + pc0 + 1 ≤ R.cells) (hrs : slots + pu0 + 6 ≤ R.slots)
    (kk : ∀ {h' g' : Hp} {H' : Heap} {X' pc' pu' : Nat} {ls' : Array Slot} {cells' slots' : Nat}, StL E s h' g' H' [] → lv_has ls' 8 [(4, .int i), (3, rv ao), (2, rv mm), (1, rv b), (0, .ref sc)] → IV b mm ao X' pc' pu' h' g' → X' ≤ H'.size → cells' + pc' ≤ cells + pc0 + 1 → slots' + pu' ≤ slots + pu0 + 6 → W p l e R s m args below meth c H' [] cells' slots' Q (F0 m 2048 ls' [])) : W p l e R s m args below meth c H [] cells slots Q (F0 m 325 ls []) := by
  obtain ⟨v, g1, e1, e2, iv1⟩ := dc_fault iv
  have r1 : cells ≤ R.cells := by omega
  have r2 : slots ≤ R.slots := by omega
  refine g_aloadL X (or_rv _) dL_law_325 rfl (lv_at hl 3 rfl) ?_
  refine g_ciS S (runVL (As := []) (rest := []) X S coL_104 (Nat.le_trans (by decide) hDD) (cX12_fault_m l e1) (tkX12_fault e1) rfl hl.1 (by simp [cat_rv, cat_wv, cat_sv, cat_i, cat_l, cat_a]) rfl ⟨r1, r2⟩ dL_law_326) (fun H1 S1 y1 => ?_)
  refine g_aloadL X (or_rv _) dL_law_329 rfl (lv_at hl 2 rfl) ?_
  clear S
  rename StL E s h g H1 [] => S
  refine g_ciS S.swap (runVL (As := []) (rest := [.int v]) X S.swap coL_107 (Nat.le_trans (by decide) hDD) (cX13_fault_m l e2) (tkX13_fault e2) rfl hl.1 (by simp [cat_rv, cat_wv, cat_sv, cat_i, cat_l, cat_a]) rfl ⟨r1, r2⟩ dL_law_330) (fun H2 S2 y2 => ?_)
  refine lv_icmp_eq (tgt := 2048) X.1 X.2.1 dL_law_333 (by decide) (fun _ => ?_) (fun x => absurd rfl x)
  exact kk S2.swap hl iv1 (Nat.le_trans hXl (Nat.le_trans y1 y2)) (by omega) (by omega)
theorem lc_3 (l : Launch) (hlt : l.stackTraces = false) (X : CxL p E DD R s m args c cL_law RL 8) (hDD : 19 ≤ DD) (HX : va_X sc L xs s s.heap) (hbl : sc < s.heap.size) (hin : vp_in (i + 1) L ∧ vp_in (i + 2) L ∧ vp_in (i + 3) L ∧ vp_in (i + 4) L ∧ vp_in (i + 5) L) (S : StL E s h g H []) (hl : lv_has ls 8 [(4, .int i), (3, rv ao), (2, rv mm), (1, rv b), (0, .ref sc)]) (iv : IV b mm ao X0 pc0 pu0 h g) (hXl : X0 ≤ H.size) (hrc : cells + pc0 + 1 ≤ R.cells) (hrs : slots + pu0 + 6 ≤ R.slots)
    (kk : ∀ {h' g' : Hp} {H' : Heap} {X' pc' pu' : Nat} {ls' : Array Slot} {cells' slots' : Nat}, StL E s h' g' H' [] → lv_has ls' 8 [(4, .int i), (3, rv ao), (2, rv mm), (1, rv b), (0, .ref sc)] → IV b mm ao X' pc' pu' h' g' → X' ≤ H'.size → cells' + pc' ≤ cells + pc0 + 1 → slots' + pu' ≤ slots + pu0 + 6 → W p l e R s m args below meth c H' [] cells' slots' Q (F0 m 2048 ls' [])) : W p l e R s m args below meth c H [] cells slots Q (F0 m 338 ls []) := by
  obtain ⟨z1, hz1⟩ : ∃ z, xs (i + 1).toNatClampNeg = z := ⟨_, rfl⟩
  obtain ⟨kk1, h1, v, g1, e1, e2, e3, e4, iv1⟩ := hc_count (z0 := z1) iv
  have r1 : cells + 1 ≤ R.cells := by omega
  have r2 : slots + 6 ≤ R.slots := by omega
  refine g_aloadL X (or_rv _) dL_law_338 rfl (lv_at hl 3 rfl) ?_
  refine g_arg (k := 1) X S HX hbl (lv_at hl 4 rfl) (lv_at hl 0 rfl) hin.1 rfl hz1 dL_law_339 dL_law_340 dL_law_342 dL_law_343 dL_law_344 ?_
  refine g_aloadL X (or_rv _) dL_law_345 rfl (lv_at hl 1 rfl) ?_
  refine g_ciS S (runHL (Pc := PcL E (AX s g) h [rv b, .int z1, rv ao]) (As := [rv b, .int z1, rv ao]) (rest := []) (n := 3) X blindL (pre_okL X S _) (uw_5 162 rfl rfl) (uw_5 164 rfl rfl) (uw_1 0 rfl rfl) (by decide) (by decide +kernel) (by decide) (uw_5 163 rfl rfl) (Nat.le_trans (by decide) hDD) (cL_count_h l hlt e1) rfl hl.1 (by simp [cat_rv, cat_wv, cat_sv, cat_i, cat_l, cat_a]) rfl ⟨r1, r2⟩ dL_law_346) (fun H1 S1 y1 => ?_)
  refine lv_istore (lv' := [(5, .int kk1), (4, .int i), (3, rv ao), (2, rv mm), (1, rv b), (0, .ref sc)]) X.1 X.2.1 dL_law_349 hl (by decide) (by simp [List.filter, cat_rv, cat_wv, cat_sv, cat_i, cat_l]) (fun ls hl => ?_)
  refine g_aloadL X (or_rv _) dL_law_351 rfl (lv_at hl 3 rfl) ?_
  clear S
  rename StL E s h1 g H1 [] => S
  refine g_arg (k := 1) X S HX hbl (lv_at hl 5 rfl) (lv_at hl 1 rfl) hin.1 rfl hz1 dL_law_352 dL_law_353 dL_law_355 dL_law_356 dL_law_357 ?_
  refine g_ciS S.swap (runVL (As := [.int z1]) (rest := []) X S.swap coL_110 (Nat.le_trans (by decide) hDD) (cX13_count_m l e2) (tkX13_count e2) rfl hl.1 (by simp [cat_rv, cat_wv, cat_sv, cat_i, cat_l, cat_a]) rfl ⟨r1, r2⟩ dL_law_358) (fun H2 S2 y2 => ?_)
  exact lw_tail X hDD S2.swap hl iv1 e3 e4 r1 r2 dL_law_361 dL_law_363 dL_law_364 dL_law_367 dL_law_369 dL_law_374 dL_law_376 dL_law_379 dL_law_380 dL_law_381 dL_law_382 dL_law_384 dL_law_385 dL_law_386 dL_law_391 (by decide) (fun H3 ls S3 y3 hl3 => kk S3 hl3 iv1 (Nat.le_trans hXl (Nat.le_trans y1 (Nat.le_trans y2 y3))) (by omega) (by omega))
theorem lc_4 (l : Launch) (hlt : l.stackTraces = false) (X : CxL p E DD R s m args c cL_law RL 8) (hDD : 19 ≤ DD) (HX : va_X sc L xs s s.heap) (hbl : sc < s.heap.size) (hin : vp_in (i + 1) L ∧ vp_in (i + 2) L ∧ vp_in (i + 3) L ∧ vp_in (i + 4) L ∧ vp_in (i + 5) L) (S : StL E s h g H []) (hl : lv_has ls 8 [(4, .int i), (3, rv ao), (2, rv mm), (1, rv b), (0, .ref sc)]) (iv : IV b mm ao X0 pc0 pu0 h g) (hXl : X0 ≤ H.size) (hrc : cells + pc0 + 1 ≤ R.cells) (hrs : slots + pu0 + 6 ≤ R.slots)
    (kk : ∀ {h' g' : Hp} {H' : Heap} {X' pc' pu' : Nat} {ls' : Array Slot} {cells' slots' : Nat}, StL E s h' g' H' [] → lv_has ls' 8 [(4, .int i), (3, rv ao), (2, rv mm), (1, rv b), (0, .ref sc)] → IV b mm ao X' pc' pu' h' g' → X' ≤ H'.size → cells' + pc' ≤ cells + pc0 + 1 → slots' + pu' ≤ slots + pu0 + 6 → W p l e R s m args below meth c H' [] cells' slots' Q (F0 m 2048 ls' [])) : W p l e R s m args below meth c H [] cells slots Q (F0 m 394 ls []) := by
  obtain ⟨z1, hz1⟩ : ∃ z, xs (i + 1).toNatClampNeg = z := ⟨_, rfl⟩
  obtain ⟨kk1, h1, v, g1, e1, e2, e3, e4, iv1⟩ := hc_at (z0 := z1) iv
  have r1 : cells + 1 ≤ R.cells := by omega
  have r2 : slots + 6 ≤ R.slots := by omega
  refine g_aloadL X (or_rv _) dL_law_394 rfl (lv_at hl 3 rfl) ?_
  refine g_arg (k := 1) X S HX hbl (lv_at hl 4 rfl) (lv_at hl 0 rfl) hin.1 rfl hz1 dL_law_395 dL_law_396 dL_law_398 dL_law_399 dL_law_400 ?_
  refine g_aloadL X (or_rv _) dL_law_401 rfl (lv_at hl 1 rfl) ?_
  refine g_ciS S (runHL (Pc := PcL E (AX s g) h [rv b, .int z1, rv ao]) (As := [rv b, .int z1, rv ao]) (rest := []) (n := 3) X blindL (pre_okL X S _) (uw_5 199 rfl rfl) (uw_5 201 rfl rfl) (uw_1 0 rfl rfl) (by decide) (by decide +kernel) (by decide) (uw_5 200 rfl rfl) (Nat.le_trans (by decide) hDD) (cL_at_h l hlt e1) rfl hl.1 (by simp [cat_rv, cat_wv, cat_sv, cat_i, cat_l, cat_a]) rfl ⟨r1, r2⟩ dL_law_402) (fun H1 S1 y1 => ?_)
  refine lv_istore (lv' := [(5, .int kk1), (4, .int i), (3, rv ao), (2, rv mm), (1, rv b), (0, .ref sc)]) X.1 X.2.1 dL_law_405 hl (by decide) (by simp [List.filter, cat_rv, cat_wv, cat_sv, cat_i, cat_l]) (fun ls hl => ?_)
  refine g_aloadL X (or_rv _) dL_law_407 rfl (lv_at hl 3 rfl) ?_
  clear S
  rename StL E s h1 g H1 [] => S
  refine g_arg (k := 1) X S HX hbl (lv_at hl 5 rfl) (lv_at hl 1 rfl) hin.1 rfl hz1 dL_law_408 dL_law_409 dL_law_411 dL_law_412 dL_law_413 ?_
  refine g_ciS S.swap (runVL (As := [.int z1]) (rest := []) X S.swap coL_113 (Nat.le_trans (by decide) hDD) (cX13_at_m l e2) (tkX13_at e2) rfl hl.1 (by simp [cat_rv, cat_wv, cat_sv, cat_i, cat_l, cat_a]) rfl ⟨r1, r2⟩ dL_law_414) (fun H2 S2 y2 => ?_)
  exact lw_tail X hDD S2.swap hl iv1 e3 e4 r1 r2 dL_law_417 dL_law_419 dL_law_420 dL_law_423 dL_law_425 dL_law_430 dL_law_432 dL_law_435 dL_law_436 dL_law_437 dL_law_438 dL_law_440 dL_law_441 dL_law_442 dL_law_447 (by decide) (fun H3 ls S3 y3 hl3 => kk S3 hl3 iv1 (Nat.le_trans hXl (Nat.le_trans y1 (Nat.le_trans y2 y3))) (by omega) (by omega))
end LWC
