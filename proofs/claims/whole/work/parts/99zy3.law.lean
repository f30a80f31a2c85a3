section LWC
variable {p : Program} {l : Launch} {e : Env} {R : Room} {s : State} {m : MethodId} {args : Array Value} {below : List Frame} {meth : Method} {c : Code} {E : EE} {H : Heap} {locs : List Loc} {cells slots : Nat} {Q : State → Prop} {h g h' : Hp}
variable {b mm ao sc X0 pc0 pu0 L DD : Nat} {xs : Nat → Int32} {i : Int32} {ls : Array Slot}
theorem lc_15 (l : Launch) (hlt : l.stackTraces = false) (X : CxL p E DD R s m args c cL_law RL 8) (hDD : 19 ≤ DD) (HX : va_X sc L xs s s.heap) (hbl : sc < s.heap.size) (hin : vp_in (i + 1) L ∧ vp_in (i + 2) L ∧ vp_in (i + 3) L ∧ vp_in (i + 4) L ∧ vp_in (i + 5) L) (S : StL E s h g H []) (hl : lv_has ls 8 [(4, .int i), (3, rv ao), (2, rv mm), (1, rv b), (0, .ref sc)]) (iv : IV b mm ao X0 pc0 pu0 h g) (hXl : X0 ≤ H.size) (hrc : cells + pc0 + 1 ≤ R.cells) (hrs : slots + pu0 + 6 ≤ R.slots)
    (kk : ∀ {h' g' : Hp} {H' : Heap} {X' pc' pu' : Nat} {ls' : Array Slot} {cells' slots' : Nat}, StL E s h' g' H' [] → lv_has ls' 8 [(4, .int i), (3, rv ao), (2, rv mm), (1, rv b), (0, .ref sc)] → IV b mm ao X' pc' pu' h' g' → X' ≤ H'.size → cells' + pc' ≤ cells + pc0 + 1 → slots' + pu' ≤ slots + pu0 + 6 → W p l e R s m args below meth c H' [] cells' slots' Q (F0 m 2048 ls' [])) : W p l e R s m args below meth c H [] cells slots Q (F0 m 1220 ls []) := by
  obtain ⟨z1, hz1⟩ : ∃ z, xs (i + 1).toNatClampNeg = z := ⟨_, rfl⟩
  refine W_know fun w1 _ _ => ?_
  have w4 := S.2.2.1
  obtain ⟨h8, e8⟩ : ∃ x : Hp, x = (h.1, h.2.1, h.2.2.1, h.2.2.2.1, h.2.2.2.2.1, (H.size, 0, H.size + pc0, pu0)) := ⟨_, rfl⟩
  have pr := da_steps (z0 := z1) (IV_rs iv hXl)
  have S8 : StL E s h8 g H [] := by rw [e8]; exact S
  have x8 : H.size = hX h8 := by rw [e8]; rfl
  have m8 : pc0 + hX h8 = hC h8 := by rw [e8]; exact Nat.add_comm _ _
  have n8 : pu0 + hU h8 = hZ h8 := by rw [e8]; rfl
  have u8 : hU h8 = 0 := by rw [e8]; rfl
  rw [← e8] at pr
  clear e8
  obtain ⟨v, h1, g1, pc1, pu1, e1, e2, q1, q2, q3, iv1⟩ := pr
  have r1 : cells + pc0 ≤ R.cells := by omega
  have r2 : slots + pu0 ≤ R.slots := by omega
  refine g_aloadL X (or_rv _) dL_law_1220 rfl (lv_at hl 3 rfl) ?_
  refine g_arg (k := 1) X S HX hbl (lv_at hl 4 rfl) (lv_at hl 0 rfl) hin.1 rfl hz1 dL_law_1221 dL_law_1222 dL_law_1224 dL_law_1225 dL_law_1226 ?_
  refine g_ciLA S8 (runVLF (As := [.int z1]) (rest := []) X S8 x8 coL_150 (Nat.le_trans (by decide) hDD) (cX12_steps_m l m8 n8 e1) (tkX12_steps e1) rfl hl.1 (by simp [cat_rv, cat_wv, cat_sv, cat_i, cat_l, cat_a]) rfl ⟨r1, r2⟩ dL_law_1227) (fun H1 locs1 S1 y1 => S1.drop fun S1 => ?_)
  clear S8
  have r3 : hX h1 - s.heap.size ≤ R.cells := by omega
  have r4 : slots + (hU h1 - hU h8) ≤ R.slots := by omega
  refine g_aloadL X (or_rv _) dL_law_1230 rfl (lv_at hl 2 rfl) ?_
  clear S
  rename StL E s h1 g H1 [] => S
  refine g_arg (k := 1) X S HX hbl (lv_at hl 4 rfl) (lv_at hl 0 rfl) hin.1 rfl hz1 dL_law_1231 dL_law_1232 dL_law_1234 dL_law_1235 dL_law_1236 ?_
  refine g_ciS S.swap (runVL (As := [.int z1]) (rest := [.int v]) X S.swap coL_153 (Nat.le_trans (by decide) hDD) (cX13_steps_m l e2) (tkX13_steps e2) rfl hl.1 (by simp [cat_rv, cat_wv, cat_sv, cat_i, cat_l, cat_a]) rfl ⟨r3, r4⟩ dL_law_1237) (fun H2 S2 y2 => ?_)
  refine lv_icmp_eq (tgt := 2048) X.1 X.2.1 dL_law_1240 (by decide) (fun _ => ?_) (fun x => absurd rfl x)
  exact kk S2.swap hl iv1 (Nat.le_trans (Nat.le_of_eq y1.symm) y2) (by omega) (by omega)
theorem lc_16 (l : Launch) (hlt : l.stackTraces = false) (X : CxL p E DD R s m args c cL_law RL 8) (hDD : 19 ≤ DD) (HX : va_X sc L xs s s.heap) (hbl : sc < s.heap.size) (hin : vp_in (i + 1) L ∧ vp_in (i + 2) L ∧ vp_in (i + 3) L ∧ vp_in (i + 4) L ∧ vp_in (i + 5) L) (S : StL E s h g H []) (hl : lv_has ls 8 [(4, .int i), (3, rv ao), (2, rv mm), (1, rv b), (0, .ref sc)]) (iv : IV b mm ao X0 pc0 pu0 h g) (hXl : X0 ≤ H.size) (hrc : cells + pc0 + 1 ≤ R.cells) (hrs : slots + pu0 + 6 ≤ R.slots)
    (kk : ∀ {h' g' : Hp} {H' : Heap} {X' pc' pu' : Nat} {ls' : Array Slot} {cells' slots' : Nat}, StL E s h' g' H' [] → lv_has ls' 8 [(4, .int i), (3, rv ao), (2, rv mm), (1, rv b), (0, .ref sc)] → IV b mm ao X' pc' pu' h' g' → X' ≤ H'.size → cells' + pc' ≤ cells + pc0 + 1 → slots' + pu' ≤ slots + pu0 + 6 → W p l e R s m args below meth c H' [] cells' slots' Q (F0 m 2048 ls' [])) : W p l e R s m args below meth c H [] cells slots Q (F0 m 1245 ls []) := by
  obtain ⟨z1, hz1⟩ : ∃ z, xs (i + 1).toNatClampNeg = z := ⟨_, rfl⟩
  obtain ⟨z2, hz2⟩ : ∃ z, xs (i + 2).toNatClampNeg = z := ⟨_, rfl⟩
  refine W_know fun w1 _ _ => ?_
  have w4 := S.2.2.1
  obtain ⟨h8, e8⟩ : ∃ x : Hp, x = (h.1, h.2.1, h.2.2.1, h.2.2.2.1, h.2.2.2.2.1, (H.size, 0, H.size + pc0, pu0)) := ⟨_, rfl⟩
  have pr := da_lay (z0 := z1) (z1 := z2) (IV_rs iv hXl)
  have S8 : StL E s h8 g H [] := by rw [e8]; exact S
  have x8 : H.size = hX h8 := by rw [e8]; rfl
  have m8 : pc0 + hX h8 = hC h8 := by rw [e8]; exact Nat.add_comm _ _
  have n8 : pu0 + hU h8 = hZ h8 := by rw [e8]; rfl
  have u8 : hU h8 = 0 := by rw [e8]; rfl
  rw [← e8] at pr
  clear e8
  obtain ⟨v, h1, g1, pc1, pu1, e1, e2, q1, q2, q3, iv1⟩ := pr
  have r1 : cells + pc0 ≤ R.cells := by omega
  have r2 : slots + pu0 ≤ R.slots := by omega
  refine g_aloadL X (or_rv _) dL_law_1245 rfl (lv_at hl 3 rfl) ?_
  refine g_arg (k := 1) X S HX hbl (lv_at hl 4 rfl) (lv_at hl 0 rfl) hin.1 rfl hz1 dL_law_1246 dL_law_1247 dL_law_1249 dL_law_1250 dL_law_1251 ?_
  refine g_arg (k := 2) X S HX hbl (lv_at hl 4 rfl) (lv_at hl 0 rfl) hin.2.1 rfl hz2 dL_law_1252 dL_law_1253 dL_law_1255 dL_law_1256 dL_law_1257 ?_
  refine g_ciLA S8 (runVLF (As := [.int z1, .int z2]) (rest := []) X S8 x8 coL_154 (Nat.le_trans (by decide) hDD) (cX12_lay_m l m8 n8 e1) (tkX12_lay e1) rfl hl.1 (by simp [cat_rv, cat_wv, cat_sv, cat_i, cat_l, cat_a]) rfl ⟨r1, r2⟩ dL_law_1258) (fun H1 locs1 S1 y1 => S1.drop fun S1 => ?_)
  clear S8
  have r3 : hX h1 - s.heap.size ≤ R.cells := by omega
  have r4 : slots + (hU h1 - hU h8) ≤ R.slots := by omega
  refine g_aloadL X (or_rv _) dL_law_1261 rfl (lv_at hl 2 rfl) ?_
  clear S
  rename StL E s h1 g H1 [] => S
  refine g_arg (k := 1) X S HX hbl (lv_at hl 4 rfl) (lv_at hl 0 rfl) hin.1 rfl hz1 dL_law_1262 dL_law_1263 dL_law_1265 dL_law_1266 dL_law_1267 ?_
  refine g_arg (k := 2) X S HX hbl (lv_at hl 4 rfl) (lv_at hl 0 rfl) hin.2.1 rfl hz2 dL_law_1268 dL_law_1269 dL_law_1271 dL_law_1272 dL_law_1273 ?_
  refine g_ciS S.swap (runVL (As := [.int z1, .int z2]) (rest := [.int v]) X S.swap coL_157 (Nat.le_trans (by decide) hDD) (cX13_lay_m l e2) (tkX13_lay e2) rfl hl.1 (by simp [cat_rv, cat_wv, cat_sv, cat_i, cat_l, cat_a]) rfl ⟨r3, r4⟩ dL_law_1274) (fun H2 S2 y2 => ?_)
  refine lv_icmp_eq (tgt := 2048) X.1 X.2.1 dL_law_1277 (by decide) (fun _ => ?_) (fun x => absurd rfl x)
  exact kk S2.swap hl iv1 (Nat.le_trans (Nat.le_of_eq y1.symm) y2) (by omega) (by omega)
theorem lc_17 (l : Launch) (hlt : l.stackTraces = false) (X : CxL p E DD R s m args c cL_law RL 8) (hDD : 19 ≤ DD) (HX : va_X sc L xs s s.heap) (hbl : sc < s.heap.size) (hin : vp_in (i + 1) L ∧ vp_in (i + 2) L ∧ vp_in (i + 3) L ∧ vp_in (i + 4) L ∧ vp_in (i + 5) L) (S : StL E s h g H []) (hl : lv_has ls 8 [(4, .int i), (3, rv ao), (2, rv mm), (1, rv b), (0, .ref sc)]) (iv : IV b mm ao X0 pc0 pu0 h g) (hXl : X0 ≤ H.size) (hrc : cells + pc0 + 1 ≤ R.cells) (hrs : slots + pu0 + 6 ≤ R.slots)
    (kk : ∀ {h' g' : Hp} {H' : Heap} {X' pc' pu' : Nat} {ls' : Array Slot} {cells' slots' : Nat}, StL E s h' g' H' [] → lv_has ls' 8 [(4, .int i), (3, rv ao), (2, rv mm), (1, rv b), (0, .ref sc)] → IV b mm ao X' pc' pu' h' g' → X' ≤ H'.size → cells' + pc' ≤ cells + pc0 + 1 → slots' + pu' ≤ slots + pu0 + 6 → W p l e R s m args below meth c H' [] cells' slots' Q (F0 m 2048 ls' [])) : W p l e R s m args below meth c H [] cells slots Q (F0 m 1282 ls []) := by
  obtain ⟨z1, hz1⟩ : ∃ z, xs (i + 1).toNatClampNeg = z := ⟨_, rfl⟩
  obtain ⟨z2, hz2⟩ : ∃ z, xs (i + 2).toNatClampNeg = z := ⟨_, rfl⟩
  refine W_know fun w1 _ _ => ?_
  have w4 := S.2.2.1
  obtain ⟨h8, e8⟩ : ∃ x : Hp, x = (h.1, h.2.1, h.2.2.1, h.2.2.2.1, h.2.2.2.2.1, (H.size, 0, H.size + pc0, pu0)) := ⟨_, rfl⟩
  have pr := da_set (z0 := z1) (z1 := z2) (IV_rs iv hXl)
  have S8 : StL E s h8 g H [] := by rw [e8]; exact S
  have x8 : H.size = hX h8 := by rw [e8]; rfl
  have m8 : pc0 + hX h8 = hC h8 := by rw [e8]; exact Nat.add_comm _ _
  have n8 : pu0 + hU h8 = hZ h8 := by rw [e8]; rfl
  have u8 : hU h8 = 0 := by rw [e8]; rfl
  rw [← e8] at pr
  clear e8
  obtain ⟨v, h1, g1, pc1, pu1, e1, e2, q1, q2, q3, iv1⟩ := pr
  have r1 : cells + pc0 ≤ R.cells := by omega
  have r2 : slots + pu0 ≤ R.slots := by omega
  refine g_aloadL X (or_rv _) dL_law_1282 rfl (lv_at hl 3 rfl) ?_
  refine g_arg (k := 1) X S HX hbl (lv_at hl 4 rfl) (lv_at hl 0 rfl) hin.1 rfl hz1 dL_law_1283 dL_law_1284 dL_law_1286 dL_law_1287 dL_law_1288 ?_
  refine g_arg (k := 2) X S HX hbl (lv_at hl 4 rfl) (lv_at hl 0 rfl) hin.2.1 rfl hz2 dL_law_1289 dL_law_1290 dL_law_1292 dL_law_1293 dL_law_1294 ?_
  refine g_ciLA S8 (runVLF (As := [.int z1, .int z2]) (rest := []) X S8 x8 coL_158 (Nat.le_trans (by decide) hDD) (cX12_set_m l m8 n8 e1) (tkX12_set e1) rfl hl.1 (by simp [cat_rv, cat_wv, cat_sv, cat_i, cat_l, cat_a]) rfl ⟨r1, r2⟩ dL_law_1295) (fun H1 locs1 S1 y1 => S1.drop fun S1 => ?_)
  clear S8
  have r3 : hX h1 - s.heap.size ≤ R.cells := by omega
  have r4 : slots + (hU h1 - hU h8) ≤ R.slots := by omega
  refine g_aloadL X (or_rv _) dL_law_1298 rfl (lv_at hl 2 rfl) ?_
  clear S
  rename StL E s h1 g H1 [] => S
  refine g_arg (k := 1) X S HX hbl (lv_at hl 4 rfl) (lv_at hl 0 rfl) hin.1 rfl hz1 dL_law_1299 dL_law_1300 dL_law_1302 dL_law_1303 dL_law_1304 ?_
  refine g_arg (k := 2) X S HX hbl (lv_at hl 4 rfl) (lv_at hl 0 rfl) hin.2.1 rfl hz2 dL_law_1305 dL_law_1306 dL_law_1308 dL_law_1309 dL_law_1310 ?_
  refine g_ciS S.swap (runVL (As := [.int z1, .int z2]) (rest := [.int v]) X S.swap coL_162 (Nat.le_trans (by decide) hDD) (cX13_set_m l e2) (tkX13_set e2) rfl hl.1 (by simp [cat_rv, cat_wv, cat_sv, cat_i, cat_l, cat_a]) rfl ⟨r3, r4⟩ dL_law_1311) (fun H2 S2 y2 => ?_)
  refine lv_icmp_eq (tgt := 2048) X.1 X.2.1 dL_law_1314 (by decide) (fun _ => ?_) (fun x => absurd rfl x)
  exact kk S2.swap hl iv1 (Nat.le_trans (Nat.le_of_eq y1.symm) y2) (by omega) (by omega)
theorem lc_18 (l : Launch) (hlt : l.stackTraces = false) (X : CxL p E DD R s m args c cL_law RL 8) (hDD : 19 ≤ DD) (HX : va_X sc L xs s s.heap) (hbl : sc < s.heap.size) (hin : vp_in (i + 1) L ∧ vp_in (i + 2) L ∧ vp_in (i + 3) L ∧ vp_in (i + 4) L ∧ vp_in (i + 5) L) (S : StL E s h g H []) (hl : lv_has ls 8 [(4, .int i), (3, rv ao), (2, rv mm), (1, rv b), (0, .ref sc)]) (iv : IV b mm ao X0 pc0 pu0 h g) (hXl : X0 ≤ H.size) (hrc : cells + pc0 + 1 ≤ R.cells) (hrs : slots + pu0 + 6 ≤ R.slots)
    (kk : ∀ {h' g' : Hp} {H' : Heap} {X' pc' pu' : Nat} {ls' : Array Slot} {cells' slots' : Nat}, StL E s h' g' H' [] → lv_has ls' 8 [(4, .int i), (3, rv ao), (2, rv mm), (1, rv b), (0, .ref sc)] → IV b mm ao X' pc' pu' h' g' → X' ≤ H'.size → cells' + pc' ≤ cells + pc0 + 1 → slots' + pu' ≤ slots + pu0 + 6 → W p l e R s m args below meth c H' [] cells' slots' Q (F0 m 2048 ls' [])) : W p l e R s m args below meth c H [] cells slots Q (F0 m 1319 ls []) := by
  obtain ⟨z1, hz1⟩ : ∃ z, xs (i + 1).toNatClampNeg = z := ⟨_, rfl⟩
  refine W_know fun w1 _ _ => ?_
  have w4 := S.2.2.1
  obtain ⟨h8, e8⟩ : ∃ x : Hp, x = (h.1, h.2.1, h.2.2.1, h.2.2.2.1, h.2.2.2.2.1, (H.size, 0, H.size + pc0, pu0)) := ⟨_, rfl⟩
  have pr := da_next (z0 := z1) (IV_rs iv hXl)
  have S8 : StL E s h8 g H [] := by rw [e8]; exact S
  have x8 : H.size = hX h8 := by rw [e8]; rfl
  have m8 : pc0 + hX h8 = hC h8 := by rw [e8]; exact Nat.add_comm _ _
  have n8 : pu0 + hU h8 = hZ h8 := by rw [e8]; rfl
  have u8 : hU h8 = 0 := by rw [e8]; rfl
  rw [← e8] at pr
  clear e8
  obtain ⟨v, h1, g1, pc1, pu1, e1, e2, q1, q2, q3, iv1⟩ := pr
  have r1 : cells + pc0 ≤ R.cells := by omega
  have r2 : slots + pu0 ≤ R.slots := by omega
  refine g_aloadL X (or_rv _) dL_law_1319 rfl (lv_at hl 3 rfl) ?_
  refine g_arg (k := 1) X S HX hbl (lv_at hl 4 rfl) (lv_at hl 0 rfl) hin.1 rfl hz1 dL_law_1320 dL_law_1321 dL_law_1323 dL_law_1324 dL_law_1325 ?_
  refine g_ciLA S8 (runVLF (As := [.int z1]) (rest := []) X S8 x8 coL_163 (Nat.le_trans (by decide) hDD) (cX12_next_m l m8 n8 e1) (tkX12_next e1) rfl hl.1 (by simp [cat_rv, cat_wv, cat_sv, cat_i, cat_l, cat_a]) rfl ⟨r1, r2⟩ dL_law_1326) (fun H1 locs1 S1 y1 => S1.drop fun S1 => ?_)
  clear S8
  have r3 : hX h1 - s.heap.size ≤ R.cells := by omega
  have r4 : slots + (hU h1 - hU h8) ≤ R.slots := by omega
  refine g_aloadL X (or_rv _) dL_law_1329 rfl (lv_at hl 2 rfl) ?_
  clear S
  rename StL E s h1 g H1 [] => S
  refine g_arg (k := 1) X S HX hbl (lv_at hl 4 rfl) (lv_at hl 0 rfl) hin.1 rfl hz1 dL_law_1330 dL_law_1331 dL_law_1333 dL_law_1334 dL_law_1335 ?_
  refine g_ciS S.swap (runVL (As := [.int z1]) (rest := [.int v]) X S.swap coL_166 (Nat.le_trans (by decide) hDD) (cX13_next_m l e2) (tkX13_next e2) rfl hl.1 (by simp [cat_rv, cat_wv, cat_sv, cat_i, cat_l, cat_a]) rfl ⟨r3, r4⟩ dL_law_1336) (fun H2 S2 y2 => ?_)
  refine lv_icmp_eq (tgt := 2048) X.1 X.2.1 dL_law_1339 (by decide) (fun _ => ?_) (fun x => absurd rfl x)
  exact kk S2.swap hl iv1 (Nat.le_trans (Nat.le_of_eq y1.symm) y2) (by omega) (by omega)
theorem lc_19 (l : Launch) (hlt : l.stackTraces = false) (X : CxL p E DD R s m args c cL_law RL 8) (hDD : 19 ≤ DD) (HX : va_X sc L xs s s.heap) (hbl : sc < s.heap.size) (hin : vp_in (i + 1) L ∧ vp_in (i + 2) L ∧ vp_in (i + 3) L ∧ vp_in (i + 4) L ∧ vp_in (i + 5) L) (S : StL E s h g H []) (hl : lv_has ls 8 [(4, .int i), (3, rv ao), (2, rv mm), (1, rv b), (0, .ref sc)]) (iv : IV b mm ao X0 pc0 pu0 h g) (hXl : X0 ≤ H.size) (hrc : cells + pc0 + 1 ≤ R.cells) (hrs : slots + pu0 + 6 ≤ R.slots)
    (kk : ∀ {h' g' : Hp} {H' : Heap} {X' pc' pu' : Nat} {ls' : Array Slot} {cells' slots' : Nat}, StL E s h' g' H' [] → lv_has ls' 8 [(4, .int i), (3, rv ao), (2, rv mm), (1, rv b), (0, .ref sc)] → IV b mm ao X' pc' pu' h' g' → X' ≤ H'.size → cells' + pc' ≤ cells + pc0 + 1 → slots' + pu' ≤ slots + pu0 + 6 → W p l e R s m args below meth c H' [] cells' slots' Q (F0 m 2048 ls' [])) : W p l e R s m args below meth c H [] cells slots Q (F0 m 1344 ls []) := by
  refine W_know fun w1 _ _ => ?_
  have w4 := S.2.2.1
  obtain ⟨h8, e8⟩ : ∃ x : Hp, x = (h.1, h.2.1, h.2.2.1, h.2.2.2.1, h.2.2.2.2.1, (H.size, 0, H.size + pc0, pu0)) := ⟨_, rfl⟩
  have pr := da_begin (IV_rs iv hXl)
  have S8 : StL E s h8 g H [] := by rw [e8]; exact S
  have x8 : H.size = hX h8 := by rw [e8]; rfl
  have m8 : pc0 + hX h8 = hC h8 := by rw [e8]; exact Nat.add_comm _ _
  have n8 : pu0 + hU h8 = hZ h8 := by rw [e8]; rfl
  have u8 : hU h8 = 0 := by rw [e8]; rfl
  rw [← e8] at pr
  clear e8
  obtain ⟨v, h1, g1, pc1, pu1, e1, e2, q1, q2, q3, iv1⟩ := pr
  have r1 : cells + pc0 ≤ R.cells := by omega
  have r2 : slots + pu0 ≤ R.slots := by omega
  refine g_aloadL X (or_rv _) dL_law_1344 rfl (lv_at hl 3 rfl) ?_
  refine g_ciLA S8 (runVLF (As := []) (rest := []) X S8 x8 coL_167 (Nat.le_trans (by decide) hDD) (cX12_begin_m l m8 n8 e1) (tkX12_begin e1) rfl hl.1 (by simp [cat_rv, cat_wv, cat_sv, cat_i, cat_l, cat_a]) rfl ⟨r1, r2⟩ dL_law_1345) (fun H1 locs1 S1 y1 => S1.drop fun S1 => ?_)
  clear S8
  have r3 : hX h1 - s.heap.size ≤ R.cells := by omega
  have r4 : slots + (hU h1 - hU h8) ≤ R.slots := by omega
  refine g_aloadL X (or_rv _) dL_law_1348 rfl (lv_at hl 2 rfl) ?_
  clear S
  rename StL E s h1 g H1 [] => S
  refine g_ciS S.swap (runVL (As := []) (rest := [.int v]) X S.swap coL_170 (Nat.le_trans (by decide) hDD) (cX13_begin_m l e2) (tkX13_begin e2) rfl hl.1 (by simp [cat_rv, cat_wv, cat_sv, cat_i, cat_l, cat_a]) rfl ⟨r3, r4⟩ dL_law_1349) (fun H2 S2 y2 => ?_)
  refine lv_icmp_eq (tgt := 2048) X.1 X.2.1 dL_law_1352 (by decide) (fun _ => ?_) (fun x => absurd rfl x)
  exact kk S2.swap hl iv1 (Nat.le_trans (Nat.le_of_eq y1.symm) y2) (by omega) (by omega)
end LWC
