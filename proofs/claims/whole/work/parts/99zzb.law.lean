section LWG
variable {p : Program} {l : Launch} {e : Env} {R : Room} {s : State} {m : MethodId} {args : Array Value} {below : List Frame} {meth : Method} {c : Code} {E : EE} {H : Heap} {locs : List Loc} {cells slots : Nat} {Q : State → Prop} {h g h' : Hp}
variable {b mm ao sc X0 pc0 pu0 L DD : Nat} {xs : Nat → Int32} {i : Int32} {ls : Array Slot}

/-- the law's first part, then its loop -/
theorem lw_all (l : Launch) (hlt : l.stackTraces = false) (X : CxL p E DD R s m args c cL_law RL 8) (hDD : 19 ≤ DD) (HX : va_X sc L xs s s.heap) (hbl : sc < s.heap.size) (hL : L ≤ 3072) (hR1 : 100000 ≤ R.cells) (hR2 : 1000000 ≤ R.slots)
    (fin : ∀ (H' : Heap) (ls' : Array Slot) (cells' slots' : Nat), cells' ≤ R.cells → slots' ≤ R.slots → W p l e R s m args below meth c H' [] cells' slots' Q (F0 m 2055 ls' [.int 1])) (hl : lv_has ls 8 [(0, .ref sc)]) : W p l e R s m args below meth c s.heap [] 0 0 Q (F0 m 0 ls []) := by
  obtain ⟨x, ex⟩ : ∃ x, s.heap.size = x := ⟨_, rfl⟩
  have x0 : 0 < x := by omega
  obtain ⟨h9, e9, x9, u9, iv⟩ := IV_0 (x := x) (C := R.cells + x) (Z := R.slots + 0) x0 (by omega) (by omega)
  have Y := X.one
  have S : St E (fun q => s.heap.size ≤ q) s (hp0 x 0 (R.cells + x) (R.slots + 0)) s.heap [] := St.zero
  have AI : AlI R s (hp0 x 0 (R.cells + x) (R.slots + 0)) (hp0 x 0 (R.cells + x) (R.slots + 0)) 0 0 := AlI.zero ex
  have hf := e9
  unfold law0 at hf
  refine g_newO Y S AI noL_8 dL_law_0 hf (fun b h H cells slots hkb hf S AI => ?_)
  refine lv_dup X.1 X.2.1 dL_law_3 (cat_rv _) ?_
  obtain ⟨h, hc, hok, hf⟩ := oba_some hf
  refine g_cvA S AI hok (fun hsz => runIF (As := []) (rest := [rv b]) Y S hsz coL_86 (Nat.le_trans (by decide) hDD) (cX12_init_m l AI.mcs.1 AI.mcs.2 hc) (tkX12_init hc) (by decide) rfl hl.1 (by simp [cat_rv, cat_wv, cat_sv, cat_i, cat_l, cat_a]) rfl AI.room dL_law_4) (fun H locs cells slots S AI => ?_)
  refine g_astore_n (i := 1) (lv' := [(1, rv b), (0, .ref sc)]) Y (or_rv _) dL_law_7 rfl hl (by decide) (by simp [List.filter, cat_rv, cat_a]) (fun ls hl => ?_)
  refine g_newO Y S AI noL_87 dL_law_8 hf (fun mm h H cells slots hkm hf S AI => ?_)
  refine lv_dup X.1 X.2.1 dL_law_11 (cat_rv _) ?_
  obtain ⟨h, hc, hok, hf⟩ := oba_some hf
  refine g_cvA S AI hok (fun hsz => runIF (As := []) (rest := [rv mm]) Y S hsz coL_89 (Nat.le_trans (by decide) hDD) (cX13_init_m l AI.mcs.1 AI.mcs.2 hc) (tkX13_init hc) (by decide) rfl hl.1 (by simp [cat_rv, cat_wv, cat_sv, cat_i, cat_l, cat_a]) rfl AI.room dL_law_12) (fun H locs cells slots S AI => ?_)
  refine g_astore_n (i := 2) (lv' := [(2, rv mm), (1, rv b), (0, .ref sc)]) Y (or_rv _) dL_law_15 rfl hl (by decide) (by simp [List.filter, cat_rv, cat_a]) (fun ls hl => ?_)
  refine lv_iconst (v := 1) X.1 X.2.1 dL_law_16 (by decide) ?_
  refine g_newL Y S AI dL_law_17 hf (fun ao h H cells slots hf S AI => ?_)
  refine g_astore_n (i := 3) (lv' := [(3, rv ao), (2, rv mm), (1, rv b), (0, .ref sc)]) Y (or_rv _) dL_law_19 rfl hl (by decide) (by simp [List.filter, cat_rv, cat_a]) (fun ls hl => ?_)
  refine lv_iconst (v := 0) X.1 X.2.1 dL_law_20 (by decide) ?_
  refine lv_istore (lv' := [(4, .int (jI ((0 : Nat) : Int))), (3, rv ao), (2, rv mm), (1, rv b), (0, .ref sc)]) X.1 X.2.1 dL_law_21 hl (by decide) (by simp [List.filter, cat_rv, cat_a]; rfl) (fun ls hl => ?_)
  cases hf
  refine W_know fun w1 _ _ => ?_
  have hsz := al_size S AI w1
  have hcl : cells = 97 := by
    have a4 := AI.2.2.2.1
    have : hX (hp0 x 0 (R.cells + x) (R.slots + 0)) = x := rfl
    omega
  have hsl : slots ≤ 43259 := by
    have a5 := AI.2.2.2.2.1
    have u0 : hU (hp0 x 0 (R.cells + x) (R.slots + 0)) = 0 := rfl
    omega
  refine (StL.cut (fun a => decide (a < x + 59 ∨ a = x + 96)) S).drop fun S => ?_
  exact lw_loop l hlt X hDD HX hbl hL fin 512 0 (by omega) (by omega) S hl iv (by omega) (by omega) (by omega)
end LWG
