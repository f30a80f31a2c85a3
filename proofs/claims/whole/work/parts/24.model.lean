section GM
variable {p : Program} {l : Launch} {e : Env} {R : Room} {s : State} {m : MethodId} {args : Array Value} {below : List Frame} {meth : Method} {c : Code} {E : EE} {A : Nat → Prop}
def fX13_undo_26 (k26 : Nat → Int32 → Hp → Option (Int32 × Hp)) (x0 : Nat) (x1 : Int32) (h : Hp) : Option (Int32 × Hp) := if 414 ≤ x1 then ob (gI 11 x0 58 h) fun v2 => some (v2, h) else ob (gR 11 x0 3 h) fun v3 => ob (gR 11 x0 60 h) fun v4 => ob (gI 11 x0 58 h) fun v5 => ob (aI v4 ((414 * v5) + x1) h) fun v6 => ob (qI v3 x1 v6 h) fun h => lt (x1 + 1) fun z7 => k26 x0 z7 h
theorem wfX13_undo_26 {k26 : Nat → Int32 → Hp → Option (Int32 × Hp)} {r9 : Int32} {h9 : Hp} (X : Cx p E A 8 R s m args c cX13_undo yX13_undo.cls 2) (hr : meth.sig.returnType = (some .int)) (hlk : meth.locks = false) (hnm : meth.name = yX13_undo.name) (hk26 : ∀ (x0 : Nat) (x1 : Int32) (h : Hp) (H : Heap) (locs : List Loc) (ls : Array Slot), lv_has ls 2 [(0, rv x0), (1, .int x1)] → St E A s h H locs → k26 x0 x1 h = some (r9, h9) → W p l e R s m args below meth c H locs 0 0 (MQ below (Qi E A h9 r9) args s 0 0 A) (F0 m 26 ls [])) :
    ∀ (x0 : Nat) (x1 : Int32) (h : Hp) (H : Heap) (locs : List Loc) (ls : Array Slot), lv_has ls 2 [(0, rv x0), (1, .int x1)] → St E A s h H locs → fX13_undo_26 k26 x0 x1 h = some (r9, h9) → W p l e R s m args below meth c H locs 0 0 (MQ below (Qi E A h9 r9) args s 0 0 A) (F0 m 26 ls []) := by
  intro x0 x1 h H locs ls hl S hf
  unfold fX13_undo_26 at hf
  refine lv_iload_n X.1 X.2.1 dX13_undo_26 rfl (lv_at hl 1 rfl) ?_
  refine lv_sipush (v := 414) X.1 X.2.1 dX13_undo_27 (by decide) ?_
  refine lv_icmp_ge (tgt := 60) X.1 X.2.1 dX13_undo_30 (by decide) (fun c1 => ?_) (fun c1 => ?_)
  · replace hf := (if_pos c1).symm.trans hf
    refine g_aload_n X (or_rv _) dX13_undo_60 rfl (lv_at hl 0 rfl) ?_
    refine g_gI X S foX13_348 rfl dX13_undo_61 hf (fun v2 hf => ?_)
    cases hf; exact g_ri X S hr hlk dX13_undo_64
  · replace hf := (if_neg c1).symm.trans hf
    refine g_aload_n X (or_rv _) dX13_undo_33 rfl (lv_at hl 0 rfl) ?_
    refine g_gR X S foX13_76 dX13_undo_34 hf (fun v3 hf => ?_)
    refine lv_iload_n X.1 X.2.1 dX13_undo_37 rfl (lv_at hl 1 rfl) ?_
    refine g_aload_n X (or_rv _) dX13_undo_38 rfl (lv_at hl 0 rfl) ?_
    refine g_gR X S foX13_148 dX13_undo_39 hf (fun v4 hf => ?_)
    refine lv_sipush (v := 414) X.1 X.2.1 dX13_undo_42 (by decide) ?_
    refine g_aload_n X (or_rv _) dX13_undo_45 rfl (lv_at hl 0 rfl) ?_
    refine g_gI X S foX13_348 rfl dX13_undo_46 hf (fun v5 hf => ?_)
    refine lv_imul X.1 X.2.1 dX13_undo_49 ?_
    refine lv_iload_n X.1 X.2.1 dX13_undo_50 rfl (lv_at hl 1 rfl) ?_
    refine lv_iadd X.1 X.2.1 dX13_undo_51 ?_
    refine g_aI X S dX13_undo_52 hf (fun v6 hf => ?_)
    refine g_qI X S dX13_undo_53 hf (fun h H locs hm hf S => ?_)
    obtain ⟨z7, ez7, hf⟩ := lt_some hf
    refine lv_iinc (v := z7) (lv' := [(1, .int z7), (0, rv x0)]) X.1 X.2.1 dX13_undo_54 hl (k := 1) rfl (by rw [← ez7]; rfl) (by decide) (by simp [List.filter, cat_rv, cat_wv, cat_sv]) (fun ls hl => ?_)
    refine lv_goto (tgt := 26) X.1 X.2.1 dX13_undo_57 (by decide) ?_
    exact hk26 _ _ _ _ _ _ (lv_sub hl [1, 0] rfl) S hf
theorem wfX13_undo_26_l {r9 : Int32} {h9 : Hp} (X : Cx p E A 8 R s m args c cX13_undo yX13_undo.cls 2) (hr : meth.sig.returnType = (some .int)) (hlk : meth.locks = false) (hnm : meth.name = yX13_undo.name) :
    ∀ (n : Nat) (x0 : Nat) (x1 : Int32) (h : Hp) (H : Heap) (locs : List Loc) (ls : Array Slot), lv_has ls 2 [(0, rv x0), (1, .int x1)] → St E A s h H locs → lp (fun _ _ _ => none) (fX13_undo_26) n x0 x1 h = some (r9, h9) → W p l e R s m args below meth c H locs 0 0 (MQ below (Qi E A h9 r9) args s 0 0 A) (F0 m 26 ls []) := by
  intro n
  induction n with
  | zero =>
    intro x0 x1 h H locs ls hl S hf
    exact nomatch hf
  | succ n ih =>
    intro x0 x1 h H locs ls hl S hf
    exact wfX13_undo_26 X hr hlk hnm ih x0 x1 h H locs ls hl S hf
def fX13_undo (a0 : Nat) (h : Hp) : Option (Int32 × Hp) := gd 11 a0 h (ob (pI 11 a0 2 0 h) fun h => ob (gI 11 a0 58 h) fun v1 => if v1 = 0 then some ((-1), h) else ob (gI 11 a0 58 h) fun v3 => ob (pI 11 a0 58 (v3 - 1) h) fun h => lp (fun _ _ _ => none) (fX13_undo_26) FU a0 0 h)
theorem tkX13_undo {a0 : Nat} {h : Hp} {r9 : Int32 × Hp} (e : fX13_undo a0 h = some r9) : hK h a0 = 11 := by
  unfold fX13_undo at e
  exact (gd_some e).1
theorem cX13_undo_m (l : Launch) {E : EE} {A : Nat → Prop} {a0 : Nat} {h : Hp} {r9 : Int32} {h9 : Hp} (hf : fX13_undo a0 h = some (r9, h9)) : Met l yX13_undo (wsM yX13_undo cX13_undo 2 (some .int)) (rmm 8 0 0) (PcE E A h [rv a0]) (Qi E A h9 r9) 0 0 A := by
  refine met_of (by decide +kernel) (by simp [lg_sl, cat_rv, cat_wv, cat_sv, cat_i, cat_l, cat_a]) (fun p e s m args below meth c ls X hr hlk hnm S hl => ?_)
  have hl : lv_has ls 2 [(0, rv a0)] := by simpa [lv_args, cat_rv, cat_wv, cat_sv, cat_i, cat_l, cat_a] using hl
  generalize hH : s.heap = H at S ⊢
  generalize hlo : ([] : List Loc) = locs at S ⊢
  clear hH hlo
  unfold fX13_undo at hf
  obtain ⟨hth, hf⟩ := gd_some hf
  refine g_aload_n X (or_rv _) dX13_undo_0 rfl (lv_at hl 0 rfl) ?_
  refine lv_iconst (v := 0) X.1 X.2.1 dX13_undo_1 (by decide) ?_
  refine g_pI X S fpX13_187 (Or.inl rfl) dX13_undo_2 hf (fun h H locs hm hf S => ?_)
  refine g_aload_n X (or_rv _) dX13_undo_5 rfl (lv_at hl 0 rfl) ?_
  refine g_gI X S foX13_348 rfl dX13_undo_6 hf (fun v1 hf => ?_)
  refine lv_if_ne (tgt := 14) X.1 X.2.1 dX13_undo_9 (by decide) (fun c2 => ?_) (fun c2 => ?_)
  · replace hf := (if_neg c2).symm.trans hf
    refine g_aload_n X (or_rv _) dX13_undo_14 rfl (lv_at hl 0 rfl) ?_
    refine lv_dup X.1 X.2.1 dX13_undo_15 (cat_rv _) ?_
    refine g_gI X S foX13_348 rfl dX13_undo_16 hf (fun v3 hf => ?_)
    refine lv_iconst (v := 1) X.1 X.2.1 dX13_undo_19 (by decide) ?_
    refine lv_isub X.1 X.2.1 dX13_undo_20 ?_
    refine g_pI X S fpX13_348 (Or.inl rfl) dX13_undo_21 hf (fun h H locs hm hf S => ?_)
    refine lv_iconst (v := 0) X.1 X.2.1 dX13_undo_24 (by decide) ?_
    refine lv_istore_n (i := 1) (lv' := [(1, .int 0), (0, rv a0)]) X.1 X.2.1 dX13_undo_25 rfl hl (by decide) (by simp [List.filter, cat_rv, cat_wv, cat_sv]) (fun ls hl => ?_)
    exact wfX13_undo_26_l X hr hlk hnm FU _ _ _ _ _ _ (lv_sub hl [1, 0] rfl) S hf
  · replace hf := (if_pos c2).symm.trans hf
    refine lv_iconst (v := (-1)) X.1 X.2.1 dX13_undo_12 (by decide) ?_
    cases hf; exact g_ri X S hr hlk dX13_undo_13
def fX13_rememberNow (a0 : Nat) (h : Hp) : Option (Hp) := gd 11 a0 h (ob (gR 11 a0 61 h) fun v1 => ob (gR 11 a0 3 h) fun v2 => ob (fX13_copyTo v1 v2 h) fun h => some h)
theorem tkX13_rememberNow {a0 : Nat} {h : Hp} {r9 : Hp} (e : fX13_rememberNow a0 h = some r9) : hK h a0 = 11 := by
  unfold fX13_rememberNow at e
  exact (gd_some e).1
theorem cX13_rememberNow_m (l : Launch) {E : EE} {A : Nat → Prop} {a0 : Nat} {h : Hp} {h9 : Hp} (hf : fX13_rememberNow a0 h = some h9) : Met l yX13_rememberNow (wsM yX13_rememberNow cX13_rememberNow 1 none) (rmm 9 0 0) (PcE E A h [rv a0]) (Qv E A h9) 0 0 A := by
  refine met_of (by decide +kernel) (by simp [lg_sl, cat_rv, cat_wv, cat_sv, cat_i, cat_l, cat_a]) (fun p e s m args below meth c ls X hr hlk hnm S hl => ?_)
  have hl : lv_has ls 1 [(0, rv a0)] := by simpa [lv_args, cat_rv, cat_wv, cat_sv, cat_i, cat_l, cat_a] using hl
  generalize hH : s.heap = H at S ⊢
  generalize hlo : ([] : List Loc) = locs at S ⊢
  clear hH hlo
  unfold fX13_rememberNow at hf
  obtain ⟨hth, hf⟩ := gd_some hf
  refine g_aload_n X (or_rv _) dX13_rememberNow_0 rfl (lv_at hl 0 rfl) ?_
  refine g_gR X S foX13_151 dX13_rememberNow_1 hf (fun v1 hf => ?_)
  refine g_aload_n X (or_rv _) dX13_rememberNow_4 rfl (lv_at hl 0 rfl) ?_
  refine g_gR X S foX13_76 dX13_rememberNow_5 hf (fun v2 hf => ?_)
  obtain ⟨h, hc, hf⟩ := ob_some hf
  refine g_cv S (runS (As := [rv v1, rv v2]) (rest := []) X S coX13_660 (by decide) (cX13_copyTo_m l hc) rfl hl.1 (by decide) rfl ⟨Nat.zero_le _, Nat.zero_le _⟩ dX13_rememberNow_8) (fun H locs S => ?_)
  cases hf; exact g_rv X S hr hlk dX13_rememberNow_11
def fX13_back (a0 : Nat) (a1 : Int32) (h : Hp) : Option (Int32 × Hp) := gd 11 a0 h (ob (gR 11 a0 3 h) fun v1 => ob (gR 11 a0 61 h) fun v2 => ob (fX13_copyTo v1 v2 h) fun h => some (a1, h))
theorem tkX13_back {a0 : Nat} {a1 : Int32} {h : Hp} {r9 : Int32 × Hp} (e : fX13_back a0 a1 h = some r9) : hK h a0 = 11 := by
  unfold fX13_back at e
  exact (gd_some e).1
theorem cX13_back_m (l : Launch) {E : EE} {A : Nat → Prop} {a0 : Nat} {a1 : Int32} {h : Hp} {r9 : Int32} {h9 : Hp} (hf : fX13_back a0 a1 h = some (r9, h9)) : Met l yX13_back (wsM yX13_back cX13_back 2 (some .int)) (rmm 9 0 0) (PcE E A h [rv a0, .int a1]) (Qi E A h9 r9) 0 0 A := by
  refine met_of (by decide +kernel) (by simp [lg_sl, cat_rv, cat_wv, cat_sv, cat_i, cat_l, cat_a]) (fun p e s m args below meth c ls X hr hlk hnm S hl => ?_)
  have hl : lv_has ls 2 [(0, rv a0), (1, .int a1)] := by simpa [lv_args, cat_rv, cat_wv, cat_sv, cat_i, cat_l, cat_a] using hl
  generalize hH : s.heap = H at S ⊢
  generalize hlo : ([] : List Loc) = locs at S ⊢
  clear hH hlo
  unfold fX13_back at hf
  obtain ⟨hth, hf⟩ := gd_some hf
  refine g_aload_n X (or_rv _) dX13_back_0 rfl (lv_at hl 0 rfl) ?_
  refine g_gR X S foX13_76 dX13_back_1 hf (fun v1 hf => ?_)
  refine g_aload_n X (or_rv _) dX13_back_4 rfl (lv_at hl 0 rfl) ?_
  refine g_gR X S foX13_151 dX13_back_5 hf (fun v2 hf => ?_)
  obtain ⟨h, hc, hf⟩ := ob_some hf
  refine g_cv S (runS (As := [rv v1, rv v2]) (rest := []) X S coX13_660 (by decide) (cX13_copyTo_m l hc) rfl hl.1 (by decide) rfl ⟨Nat.zero_le _, Nat.zero_le _⟩ dX13_back_8) (fun H locs S => ?_)
  refine lv_iload_n X.1 X.2.1 dX13_back_11 rfl (lv_at hl 1 rfl) ?_
  cases hf; exact g_ri X S hr hlk dX13_back_12
def fX13_behind (a0 : Nat) (a1 : Int32) (a2 : Int32) (h : Hp) : Option (Int32 × Hp) := gd 11 a0 h (ob (fX13_rememberNow a0 h) fun h => ob (fX13_goOn a0 a1 h) fun h => ob (gR 11 a0 3 h) fun v3 => ob (aI v3 a2 h) fun v4 => ob2 (fX13_back a0 v4 h) fun v5 h => some (v5, h))
theorem tkX13_behind {a0 : Nat} {a1 : Int32} {a2 : Int32} {h : Hp} {r9 : Int32 × Hp} (e : fX13_behind a0 a1 a2 h = some r9) : hK h a0 = 11 := by
  unfold fX13_behind at e
  exact (gd_some e).1
theorem cX13_behind_m (l : Launch) {E : EE} {A : Nat → Prop} {a0 : Nat} {a1 : Int32} {a2 : Int32} {h : Hp} {r9 : Int32} {h9 : Hp} (hf : fX13_behind a0 a1 a2 h = some (r9, h9)) : Met l yX13_behind (wsM yX13_behind cX13_behind 3 (some .int)) (rmm 17 0 0) (PcE E A h [rv a0, .int a1, .int a2]) (Qi E A h9 r9) 0 0 A := by
  refine met_of (by decide +kernel) (by simp [lg_sl, cat_rv, cat_wv, cat_sv, cat_i, cat_l, cat_a]) (fun p e s m args below meth c ls X hr hlk hnm S hl => ?_)
  have hl : lv_has ls 3 [(0, rv a0), (1, .int a1), (2, .int a2)] := by simpa [lv_args, cat_rv, cat_wv, cat_sv, cat_i, cat_l, cat_a] using hl
  generalize hH : s.heap = H at S ⊢
  generalize hlo : ([] : List Loc) = locs at S ⊢
  clear hH hlo
  unfold fX13_behind at hf
  obtain ⟨hth, hf⟩ := gd_some hf
  refine g_aload_n X (or_rv _) dX13_behind_0 rfl (lv_at hl 0 rfl) ?_
  obtain ⟨h, hc, hf⟩ := ob_some hf
  refine g_cv S (runV (As := []) (rest := []) X S coX13_664 (by decide) (cX13_rememberNow_m l hc) (tkX13_rememberNow hc) rfl hl.1 (by decide) rfl ⟨Nat.zero_le _, Nat.zero_le _⟩ dX13_behind_1) (fun H locs S => ?_)
  refine g_aload_n X (or_rv _) dX13_behind_4 rfl (lv_at hl 0 rfl) ?_
  refine lv_iload_n X.1 X.2.1 dX13_behind_5 rfl (lv_at hl 1 rfl) ?_
  obtain ⟨h, hc, hf⟩ := ob_some hf
  refine g_cv S (runV (As := [.int a1]) (rest := []) X S coX13_657 (by decide) (cX13_goOn_m l hc) (tkX13_goOn hc) rfl hl.1 (by decide) rfl ⟨Nat.zero_le _, Nat.zero_le _⟩ dX13_behind_6) (fun H locs S => ?_)
  refine g_aload_n X (or_rv _) dX13_behind_9 rfl (lv_at hl 0 rfl) ?_
  refine g_aload_n X (or_rv _) dX13_behind_10 rfl (lv_at hl 0 rfl) ?_
  refine g_gR X S foX13_76 dX13_behind_11 hf (fun v3 hf => ?_)
  refine lv_iload_n X.1 X.2.1 dX13_behind_14 rfl (lv_at hl 2 rfl) ?_
  refine g_aI X S dX13_behind_15 hf (fun v4 hf => ?_)
  obtain ⟨v5, h, hc, hf⟩ := ob2_some hf
  refine g_ci S (runV (As := [.int v4]) (rest := []) X S coX13_667 (by decide) (cX13_back_m l hc) (tkX13_back hc) rfl hl.1 (by decide) rfl ⟨Nat.zero_le _, Nat.zero_le _⟩ dX13_behind_16) (fun H locs S => ?_)
  cases hf; exact g_ri X S hr hlk dX13_behind_19
def fX13_then (a0 : Nat) (a1 : Int32) (a2 : Int32) (h : Hp) : Option (Int32 × Hp) := gd 11 a0 h (ob (pI 11 a0 2 0 h) fun h => ob (fX13_isIn (Int32.toInt64 a2) 0 255) fun v1 => if v1 = 0 then ob2 (fX13_fail a0 1 h) fun v7 h => some (v7, h) else ob (fX13_isIn (Int32.toInt64 a1) 0 100) fun v3 => if v3 = 0 then ob2 (fX13_fail a0 2 h) fun v5 h => some (v5, h) else ob2 (fX13_behind a0 a1 a2 h) fun v6 h => some (v6, h))
theorem tkX13_then {a0 : Nat} {a1 : Int32} {a2 : Int32} {h : Hp} {r9 : Int32 × Hp} (e : fX13_then a0 a1 a2 h = some r9) : hK h a0 = 11 := by
  unfold fX13_then at e
  exact (gd_some e).1
theorem cX13_then_m (l : Launch) {E : EE} {A : Nat → Prop} {a0 : Nat} {a1 : Int32} {a2 : Int32} {h : Hp} {r9 : Int32} {h9 : Hp} (hf : fX13_then a0 a1 a2 h = some (r9, h9)) : Met l yX13_then (wsM yX13_then cX13_then 3 (some .int)) (rmm 18 0 0) (PcE E A h [rv a0, .int a1, .int a2]) (Qi E A h9 r9) 0 0 A := by
  refine met_of (by decide +kernel) (by simp [lg_sl, cat_rv, cat_wv, cat_sv, cat_i, cat_l, cat_a]) (fun p e s m args below meth c ls X hr hlk hnm S hl => ?_)
  have hl : lv_has ls 3 [(0, rv a0), (1, .int a1), (2, .int a2)] := by simpa [lv_args, cat_rv, cat_wv, cat_sv, cat_i, cat_l, cat_a] using hl
  generalize hH : s.heap = H at S ⊢
  generalize hlo : ([] : List Loc) = locs at S ⊢
  clear hH hlo
  unfold fX13_then at hf
  obtain ⟨hth, hf⟩ := gd_some hf
  refine g_aload_n X (or_rv _) dX13_then_0 rfl (lv_at hl 0 rfl) ?_
  refine lv_iconst (v := 0) X.1 X.2.1 dX13_then_1 (by decide) ?_
  refine g_pI X S fpX13_187 (Or.inl rfl) dX13_then_2 hf (fun h H locs hm hf S => ?_)
  refine lv_iload_n X.1 X.2.1 dX13_then_5 rfl (lv_at hl 2 rfl) ?_
  refine lv_i2l (v := Int32.toInt64 a2) X.1 X.2.1 dX13_then_6 rfl ?_
  refine lv_lconst (v := 0) X.1 X.2.1 dX13_then_7 (by decide) ?_
  refine lv_ldc2 X.1 X.2.1 X.2.2.2.1 (X.2.2.1 _ kuX13_593) dX13_then_8 ?_
  obtain ⟨v1, hc, hf⟩ := ob_some hf
  refine g_ci S (runS (As := [.long (Int32.toInt64 a2), .long 0, .long 255]) (rest := []) X S coX13_287 (by decide) (cX13_isIn_m l hc) rfl hl.1 (by decide) rfl ⟨Nat.zero_le _, Nat.zero_le _⟩ dX13_then_11) (fun H locs S => ?_)
  refine lv_if_ne (tgt := 23) X.1 X.2.1 dX13_then_14 (by decide) (fun c2 => ?_) (fun c2 => ?_)
  · replace hf := (if_neg c2).symm.trans hf
    refine lv_iload_n X.1 X.2.1 dX13_then_23 rfl (lv_at hl 1 rfl) ?_
    refine lv_i2l (v := Int32.toInt64 a1) X.1 X.2.1 dX13_then_24 rfl ?_
    refine lv_lconst (v := 0) X.1 X.2.1 dX13_then_25 (by decide) ?_
    refine lv_ldc2 X.1 X.2.1 X.2.2.2.1 (X.2.2.1 _ kuX13_669) dX13_then_26 ?_
    obtain ⟨v3, hc, hf⟩ := ob_some hf
    refine g_ci S (runS (As := [.long (Int32.toInt64 a1), .long 0, .long 100]) (rest := []) X S coX13_287 (by decide) (cX13_isIn_m l hc) rfl hl.1 (by decide) rfl ⟨Nat.zero_le _, Nat.zero_le _⟩ dX13_then_29) (fun H locs S => ?_)
    refine lv_if_eq (tgt := 44) X.1 X.2.1 dX13_then_32 (by decide) (fun c4 => ?_) (fun c4 => ?_)
    · replace hf := (if_pos c4).symm.trans hf
      refine g_aload_n X (or_rv _) dX13_then_44 rfl (lv_at hl 0 rfl) ?_
      refine lv_iconst (v := 2) X.1 X.2.1 dX13_then_45 (by decide) ?_
      obtain ⟨v5, h, hc, hf⟩ := ob2_some hf
      refine g_ci S (runV (As := [.int 2]) (rest := []) X S coX13_329 (by decide) (cX13_fail_m l hc) (tkX13_fail hc) rfl hl.1 (by decide) rfl ⟨Nat.zero_le _, Nat.zero_le _⟩ dX13_then_46) (fun H locs S => ?_)
      cases hf; exact g_ri X S hr hlk dX13_then_49
    · replace hf := (if_neg c4).symm.trans hf
      refine g_aload_n X (or_rv _) dX13_then_35 rfl (lv_at hl 0 rfl) ?_
      refine lv_iload_n X.1 X.2.1 dX13_then_36 rfl (lv_at hl 1 rfl) ?_
      refine lv_iload_n X.1 X.2.1 dX13_then_37 rfl (lv_at hl 2 rfl) ?_
      obtain ⟨v6, h, hc, hf⟩ := ob2_some hf
      refine g_ci S (runV (As := [.int a1, .int a2]) (rest := []) X S coX13_671 (by decide) (cX13_behind_m l hc) (tkX13_behind hc) rfl hl.1 (by decide) rfl ⟨Nat.zero_le _, Nat.zero_le _⟩ dX13_then_38) (fun H locs S => ?_)
      refine lv_goto (tgt := 49) X.1 X.2.1 dX13_then_41 (by decide) ?_
      cases hf; exact g_ri X S hr hlk dX13_then_49
  · replace hf := (if_pos c2).symm.trans hf
    refine g_aload_n X (or_rv _) dX13_then_17 rfl (lv_at hl 0 rfl) ?_
    refine lv_iconst (v := 1) X.1 X.2.1 dX13_then_18 (by decide) ?_
    obtain ⟨v7, h, hc, hf⟩ := ob2_some hf
    refine g_ci S (runV (As := [.int 1]) (rest := []) X S coX13_329 (by decide) (cX13_fail_m l hc) (tkX13_fail hc) rfl hl.1 (by decide) rfl ⟨Nat.zero_le _, Nat.zero_le _⟩ dX13_then_19) (fun H locs S => ?_)
    cases hf; exact g_ri X S hr hlk dX13_then_22
def fX13_holds (a0 : Nat) (a1 : Int32) (a2 : Int32) (h : Hp) : Option (Int32 × Hp) := gd 11 a0 h (ob (pI 11 a0 2 0 h) fun h => ob (fX13_isIn (Int32.toInt64 a2) 0 7) fun v1 => if v1 = 0 then ob2 (fX13_fail a0 1 h) fun v7 h => some (v7, h) else ob (fX13_isIn (Int32.toInt64 a1) 0 100) fun v3 => if v3 = 0 then ob2 (fX13_fail a0 2 h) fun v5 h => some (v5, h) else ob2 (fX13_behind a0 a1 (256 + a2) h) fun v6 h => some (v6, h))
theorem tkX13_holds {a0 : Nat} {a1 : Int32} {a2 : Int32} {h : Hp} {r9 : Int32 × Hp} (e : fX13_holds a0 a1 a2 h = some r9) : hK h a0 = 11 := by
  unfold fX13_holds at e
  exact (gd_some e).1
theorem cX13_holds_m (l : Launch) {E : EE} {A : Nat → Prop} {a0 : Nat} {a1 : Int32} {a2 : Int32} {h : Hp} {r9 : Int32} {h9 : Hp} (hf : fX13_holds a0 a1 a2 h = some (r9, h9)) : Met l yX13_holds (wsM yX13_holds cX13_holds 3 (some .int)) (rmm 18 0 0) (PcE E A h [rv a0, .int a1, .int a2]) (Qi E A h9 r9) 0 0 A := by
  refine met_of (by decide +kernel) (by simp [lg_sl, cat_rv, cat_wv, cat_sv, cat_i, cat_l, cat_a]) (fun p e s m args below meth c ls X hr hlk hnm S hl => ?_)
  have hl : lv_has ls 3 [(0, rv a0), (1, .int a1), (2, .int a2)] := by simpa [lv_args, cat_rv, cat_wv, cat_sv, cat_i, cat_l, cat_a] using hl
  generalize hH : s.heap = H at S ⊢
  generalize hlo : ([] : List Loc) = locs at S ⊢
  clear hH hlo
  unfold fX13_holds at hf
  obtain ⟨hth, hf⟩ := gd_some hf
  refine g_aload_n X (or_rv _) dX13_holds_0 rfl (lv_at hl 0 rfl) ?_
  refine lv_iconst (v := 0) X.1 X.2.1 dX13_holds_1 (by decide) ?_
  refine g_pI X S fpX13_187 (Or.inl rfl) dX13_holds_2 hf (fun h H locs hm hf S => ?_)
  refine lv_iload_n X.1 X.2.1 dX13_holds_5 rfl (lv_at hl 2 rfl) ?_
  refine lv_i2l (v := Int32.toInt64 a2) X.1 X.2.1 dX13_holds_6 rfl ?_
  refine lv_lconst (v := 0) X.1 X.2.1 dX13_holds_7 (by decide) ?_
  refine lv_ldc2 X.1 X.2.1 X.2.2.2.1 (X.2.2.1 _ kuX13_595) dX13_holds_8 ?_
  obtain ⟨v1, hc, hf⟩ := ob_some hf
  refine g_ci S (runS (As := [.long (Int32.toInt64 a2), .long 0, .long 7]) (rest := []) X S coX13_287 (by decide) (cX13_isIn_m l hc) rfl hl.1 (by decide) rfl ⟨Nat.zero_le _, Nat.zero_le _⟩ dX13_holds_11) (fun H locs S => ?_)
  refine lv_if_ne (tgt := 23) X.1 X.2.1 dX13_holds_14 (by decide) (fun c2 => ?_) (fun c2 => ?_)
  · replace hf := (if_neg c2).symm.trans hf
    refine lv_iload_n X.1 X.2.1 dX13_holds_23 rfl (lv_at hl 1 rfl) ?_
    refine lv_i2l (v := Int32.toInt64 a1) X.1 X.2.1 dX13_holds_24 rfl ?_
    refine lv_lconst (v := 0) X.1 X.2.1 dX13_holds_25 (by decide) ?_
    refine lv_ldc2 X.1 X.2.1 X.2.2.2.1 (X.2.2.1 _ kuX13_669) dX13_holds_26 ?_
    obtain ⟨v3, hc, hf⟩ := ob_some hf
    refine g_ci S (runS (As := [.long (Int32.toInt64 a1), .long 0, .long 100]) (rest := []) X S coX13_287 (by decide) (cX13_isIn_m l hc) rfl hl.1 (by decide) rfl ⟨Nat.zero_le _, Nat.zero_le _⟩ dX13_holds_29) (fun H locs S => ?_)
    refine lv_if_eq (tgt := 48) X.1 X.2.1 dX13_holds_32 (by decide) (fun c4 => ?_) (fun c4 => ?_)
    · replace hf := (if_pos c4).symm.trans hf
      refine g_aload_n X (or_rv _) dX13_holds_48 rfl (lv_at hl 0 rfl) ?_
      refine lv_iconst (v := 2) X.1 X.2.1 dX13_holds_49 (by decide) ?_
      obtain ⟨v5, h, hc, hf⟩ := ob2_some hf
      refine g_ci S (runV (As := [.int 2]) (rest := []) X S coX13_329 (by decide) (cX13_fail_m l hc) (tkX13_fail hc) rfl hl.1 (by decide) rfl ⟨Nat.zero_le _, Nat.zero_le _⟩ dX13_holds_50) (fun H locs S => ?_)
      cases hf; exact g_ri X S hr hlk dX13_holds_53
    · replace hf := (if_neg c4).symm.trans hf
      refine g_aload_n X (or_rv _) dX13_holds_35 rfl (lv_at hl 0 rfl) ?_
      refine lv_iload_n X.1 X.2.1 dX13_holds_36 rfl (lv_at hl 1 rfl) ?_
      refine lv_sipush (v := 256) X.1 X.2.1 dX13_holds_37 (by decide) ?_
      refine lv_iload_n X.1 X.2.1 dX13_holds_40 rfl (lv_at hl 2 rfl) ?_
      refine lv_iadd X.1 X.2.1 dX13_holds_41 ?_
      obtain ⟨v6, h, hc, hf⟩ := ob2_some hf
      refine g_ci S (runV (As := [.int a1, .int (256 + a2)]) (rest := []) X S coX13_671 (by decide) (cX13_behind_m l hc) (tkX13_behind hc) rfl hl.1 (by decide) rfl ⟨Nat.zero_le _, Nat.zero_le _⟩ dX13_holds_42) (fun H locs S => ?_)
      refine lv_goto (tgt := 53) X.1 X.2.1 dX13_holds_45 (by decide) ?_
      cases hf; exact g_ri X S hr hlk dX13_holds_53
  · replace hf := (if_pos c2).symm.trans hf
    refine g_aload_n X (or_rv _) dX13_holds_17 rfl (lv_at hl 0 rfl) ?_
    refine lv_iconst (v := 1) X.1 X.2.1 dX13_holds_18 (by decide) ?_
    obtain ⟨v7, h, hc, hf⟩ := ob2_some hf
    refine g_ci S (runV (As := [.int 1]) (rest := []) X S coX13_329 (by decide) (cX13_fail_m l hc) (tkX13_fail hc) rfl hl.1 (by decide) rfl ⟨Nat.zero_le _, Nat.zero_le _⟩ dX13_holds_19) (fun H locs S => ?_)
    cases hf; exact g_ri X S hr hlk dX13_holds_22
def fX13_where_72 (y0 : Int32) (y1 : Int32) (y2 : Nat) (h : Hp) : Option (Int32 × Hp) := ob2 (fX13_behind y2 y1 y0 h) fun v1 h => some (v1, h)
theorem wfX13_where_72 {r9 : Int32} {h9 : Hp} (X : Cx p E A 18 R s m args c cX13_where yX13_where.cls 3) (hr : meth.sig.returnType = (some .int)) (hlk : meth.locks = false) (hnm : meth.name = yX13_where.name) :
    ∀ (y0 : Int32) (y1 : Int32) (y2 : Nat) (h : Hp) (H : Heap) (locs : List Loc) (ls : Array Slot), lv_has ls 3 [] → St E A s h H locs → fX13_where_72 y0 y1 y2 h = some (r9, h9) → W p l e R s m args below meth c H locs 0 0 (MQ below (Qi E A h9 r9) args s 0 0 A) (F0 m 72 ls [.int y0, .int y1, rv y2]) := by
  intro y0 y1 y2 h H locs ls hl S hf
  unfold fX13_where_72 at hf
  obtain ⟨v1, h, hc, hf⟩ := ob2_some hf
  refine g_ci S (runV (As := [.int y1, .int y0]) (rest := []) X S coX13_671 (by decide) (cX13_behind_m l hc) (tkX13_behind hc) rfl hl.1 (by decide) rfl ⟨Nat.zero_le _, Nat.zero_le _⟩ dX13_where_72) (fun H locs S => ?_)
  refine lv_goto (tgt := 83) X.1 X.2.1 dX13_where_75 (by decide) ?_
  cases hf; exact g_ri X S hr hlk dX13_where_83
def fX13_where (a0 : Nat) (a1 : Int32) (a2 : Int32) (h : Hp) : Option (Int32 × Hp) := gd 11 a0 h (ob (pI 11 a0 2 0 h) fun h => ob (fX13_isIn (Int32.toInt64 a2) 0 3) fun v1 => if v1 = 0 then ob2 (fX13_fail a0 1 h) fun v9 h => some (v9, h) else ob (fX13_isIn (Int32.toInt64 a1) 0 100) fun v3 => if v3 = 0 then ob2 (fX13_fail a0 2 h) fun v5 h => some (v5, h) else if a2 = 0 then fX13_where_72 265 a1 a0 h else if a2 = 1 then fX13_where_72 264 a1 a0 h else if a2 = 2 then fX13_where_72 276 a1 a0 h else fX13_where_72 278 a1 a0 h)
theorem tkX13_where {a0 : Nat} {a1 : Int32} {a2 : Int32} {h : Hp} {r9 : Int32 × Hp} (e : fX13_where a0 a1 a2 h = some r9) : hK h a0 = 11 := by
  unfold fX13_where at e
  exact (gd_some e).1
theorem cX13_where_m (l : Launch) {E : EE} {A : Nat → Prop} {a0 : Nat} {a1 : Int32} {a2 : Int32} {h : Hp} {r9 : Int32} {h9 : Hp} (hf : fX13_where a0 a1 a2 h = some (r9, h9)) : Met l yX13_where (wsM yX13_where cX13_where 3 (some .int)) (rmm 18 0 0) (PcE E A h [rv a0, .int a1, .int a2]) (Qi E A h9 r9) 0 0 A := by
  refine met_of (by decide +kernel) (by simp [lg_sl, cat_rv, cat_wv, cat_sv, cat_i, cat_l, cat_a]) (fun p e s m args below meth c ls X hr hlk hnm S hl => ?_)
  have hl : lv_has ls 3 [(0, rv a0), (1, .int a1), (2, .int a2)] := by simpa [lv_args, cat_rv, cat_wv, cat_sv, cat_i, cat_l, cat_a] using hl
  generalize hH : s.heap = H at S ⊢
  generalize hlo : ([] : List Loc) = locs at S ⊢
  clear hH hlo
  unfold fX13_where at hf
  obtain ⟨hth, hf⟩ := gd_some hf
  refine g_aload_n X (or_rv _) dX13_where_0 rfl (lv_at hl 0 rfl) ?_
  refine lv_iconst (v := 0) X.1 X.2.1 dX13_where_1 (by decide) ?_
  refine g_pI X S fpX13_187 (Or.inl rfl) dX13_where_2 hf (fun h H locs hm hf S => ?_)
  refine lv_iload_n X.1 X.2.1 dX13_where_5 rfl (lv_at hl 2 rfl) ?_
  refine lv_i2l (v := Int32.toInt64 a2) X.1 X.2.1 dX13_where_6 rfl ?_
  refine lv_lconst (v := 0) X.1 X.2.1 dX13_where_7 (by decide) ?_
  refine lv_ldc2 X.1 X.2.1 X.2.2.2.1 (X.2.2.1 _ kuX13_451) dX13_where_8 ?_
  obtain ⟨v1, hc, hf⟩ := ob_some hf
  refine g_ci S (runS (As := [.long (Int32.toInt64 a2), .long 0, .long 3]) (rest := []) X S coX13_287 (by decide) (cX13_isIn_m l hc) rfl hl.1 (by decide) rfl ⟨Nat.zero_le _, Nat.zero_le _⟩ dX13_where_11) (fun H locs S => ?_)
  refine lv_if_ne (tgt := 23) X.1 X.2.1 dX13_where_14 (by decide) (fun c2 => ?_) (fun c2 => ?_)
  · replace hf := (if_neg c2).symm.trans hf
    refine lv_iload_n X.1 X.2.1 dX13_where_23 rfl (lv_at hl 1 rfl) ?_
    refine lv_i2l (v := Int32.toInt64 a1) X.1 X.2.1 dX13_where_24 rfl ?_
    refine lv_lconst (v := 0) X.1 X.2.1 dX13_where_25 (by decide) ?_
    refine lv_ldc2 X.1 X.2.1 X.2.2.2.1 (X.2.2.1 _ kuX13_669) dX13_where_26 ?_
    obtain ⟨v3, hc, hf⟩ := ob_some hf
    refine g_ci S (runS (As := [.long (Int32.toInt64 a1), .long 0, .long 100]) (rest := []) X S coX13_287 (by decide) (cX13_isIn_m l hc) rfl hl.1 (by decide) rfl ⟨Nat.zero_le _, Nat.zero_le _⟩ dX13_where_29) (fun H locs S => ?_)
    refine lv_if_eq (tgt := 78) X.1 X.2.1 dX13_where_32 (by decide) (fun c4 => ?_) (fun c4 => ?_)
    · replace hf := (if_pos c4).symm.trans hf
      refine g_aload_n X (or_rv _) dX13_where_78 rfl (lv_at hl 0 rfl) ?_
      refine lv_iconst (v := 2) X.1 X.2.1 dX13_where_79 (by decide) ?_
      obtain ⟨v5, h, hc, hf⟩ := ob2_some hf
      refine g_ci S (runV (As := [.int 2]) (rest := []) X S coX13_329 (by decide) (cX13_fail_m l hc) (tkX13_fail hc) rfl hl.1 (by decide) rfl ⟨Nat.zero_le _, Nat.zero_le _⟩ dX13_where_80) (fun H locs S => ?_)
      cases hf; exact g_ri X S hr hlk dX13_where_83
    · replace hf := (if_neg c4).symm.trans hf
      refine g_aload_n X (or_rv _) dX13_where_35 rfl (lv_at hl 0 rfl) ?_
      refine lv_iload_n X.1 X.2.1 dX13_where_36 rfl (lv_at hl 1 rfl) ?_
      refine lv_iload_n X.1 X.2.1 dX13_where_37 rfl (lv_at hl 2 rfl) ?_
      refine lv_if_ne (tgt := 47) X.1 X.2.1 dX13_where_38 (by decide) (fun c6 => ?_) (fun c6 => ?_)
      · replace hf := (if_neg c6).symm.trans hf
        refine lv_iload_n X.1 X.2.1 dX13_where_47 rfl (lv_at hl 2 rfl) ?_
        refine lv_iconst (v := 1) X.1 X.2.1 dX13_where_48 (by decide) ?_
        refine lv_icmp_ne (tgt := 58) X.1 X.2.1 dX13_where_49 (by decide) (fun c7 => ?_) (fun c7 => ?_)
        · replace hf := (if_neg c7).symm.trans hf
          refine lv_iload_n X.1 X.2.1 dX13_where_58 rfl (lv_at hl 2 rfl) ?_
          refine lv_iconst (v := 2) X.1 X.2.1 dX13_where_59 (by decide) ?_
          refine lv_icmp_ne (tgt := 69) X.1 X.2.1 dX13_where_60 (by decide) (fun c8 => ?_) (fun c8 => ?_)
          · replace hf := (if_neg c8).symm.trans hf
            refine lv_sipush (v := 278) X.1 X.2.1 dX13_where_69 (by decide) ?_
            exact wfX13_where_72 X hr hlk hnm _ _ _ _ _ _ _ (lv_sub hl [] rfl) S hf
          · replace hf := (if_pos c8).symm.trans hf
            refine lv_sipush (v := 276) X.1 X.2.1 dX13_where_63 (by decide) ?_
            refine lv_goto (tgt := 72) X.1 X.2.1 dX13_where_66 (by decide) ?_
            exact wfX13_where_72 X hr hlk hnm _ _ _ _ _ _ _ (lv_sub hl [] rfl) S hf
        · replace hf := (if_pos c7).symm.trans hf
          refine lv_sipush (v := 264) X.1 X.2.1 dX13_where_52 (by decide) ?_
          refine lv_goto (tgt := 72) X.1 X.2.1 dX13_where_55 (by decide) ?_
          exact wfX13_where_72 X hr hlk hnm _ _ _ _ _ _ _ (lv_sub hl [] rfl) S hf
      · replace hf := (if_pos c6).symm.trans hf
        refine lv_sipush (v := 265) X.1 X.2.1 dX13_where_41 (by decide) ?_
        refine lv_goto (tgt := 72) X.1 X.2.1 dX13_where_44 (by decide) ?_
        exact wfX13_where_72 X hr hlk hnm _ _ _ _ _ _ _ (lv_sub hl [] rfl) S hf
  · replace hf := (if_pos c2).symm.trans hf
    refine g_aload_n X (or_rv _) dX13_where_17 rfl (lv_at hl 0 rfl) ?_
    refine lv_iconst (v := 1) X.1 X.2.1 dX13_where_18 (by decide) ?_
    obtain ⟨v9, h, hc, hf⟩ := ob2_some hf
    refine g_ci S (runV (As := [.int 1]) (rest := []) X S coX13_329 (by decide) (cX13_fail_m l hc) (tkX13_fail hc) rfl hl.1 (by decide) rfl ⟨Nat.zero_le _, Nat.zero_le _⟩ dX13_where_19) (fun H locs S => ?_)
    cases hf; exact g_ri X S hr hlk dX13_where_22
def fX13_faults_29 (k29 : Nat → Int32 → Int32 → Hp → Option (Int32 × Hp)) (x0 : Nat) (x1 : Int32) (x2 : Int32) (h : Hp) : Option (Int32 × Hp) := if 100 < x2 then ob2 (fX13_back x0 (-1) h) fun v2 h => some (v2, h) else ob (gR 11 x0 3 h) fun v3 => ob (aI v3 278 h) fun v4 => ob (fX13_aStep x0 h) fun h => ob (gR 11 x0 3 h) fun v6 => ob (aI v6 278 h) fun v7 => if v7 ≤ v4 then lt (x2 + 1) fun z9 => k29 x0 x1 z9 h else ob (gR 11 x0 3 h) fun v10 => ob (aI v10 280 h) fun v11 => if v11 = x1 then ob2 (fX13_back x0 x2 h) fun v14 h => some (v14, h) else lt (x2 + 1) fun z13 => k29 x0 x1 z13 h
theorem wfX13_faults_29 {k29 : Nat → Int32 → Int32 → Hp → Option (Int32 × Hp)} {r9 : Int32} {h9 : Hp} (X : Cx p E A 16 R s m args c cX13_faults yX13_faults.cls 4) (hr : meth.sig.returnType = (some .int)) (hlk : meth.locks = false) (hnm : meth.name = yX13_faults.name) (hk29 : ∀ (x0 : Nat) (x1 : Int32) (x2 : Int32) (h : Hp) (H : Heap) (locs : List Loc) (ls : Array Slot), lv_has ls 4 [(0, rv x0), (1, .int x1), (2, .int x2)] → St E A s h H locs → k29 x0 x1 x2 h = some (r9, h9) → W p l e R s m args below meth c H locs 0 0 (MQ below (Qi E A h9 r9) args s 0 0 A) (F0 m 29 ls [])) :
    ∀ (x0 : Nat) (x1 : Int32) (x2 : Int32) (h : Hp) (H : Heap) (locs : List Loc) (ls : Array Slot), lv_has ls 4 [(0, rv x0), (1, .int x1), (2, .int x2)] → St E A s h H locs → fX13_faults_29 k29 x0 x1 x2 h = some (r9, h9) → W p l e R s m args below meth c H locs 0 0 (MQ below (Qi E A h9 r9) args s 0 0 A) (F0 m 29 ls []) := by
  intro x0 x1 x2 h H locs ls hl S hf
  unfold fX13_faults_29 at hf
  refine lv_iload_n X.1 X.2.1 dX13_faults_29 rfl (lv_at hl 2 rfl) ?_
  refine lv_bipush (v := 100) X.1 X.2.1 dX13_faults_30 (by decide) ?_
  refine lv_icmp_gt (tgt := 84) X.1 X.2.1 dX13_faults_32 (by decide) (fun c1 => ?_) (fun c1 => ?_)
  · replace hf := (if_pos c1).symm.trans hf
    refine g_aload_n X (or_rv _) dX13_faults_84 rfl (lv_at hl 0 rfl) ?_
    refine lv_iconst (v := (-1)) X.1 X.2.1 dX13_faults_85 (by decide) ?_
    obtain ⟨v2, h, hc, hf⟩ := ob2_some hf
    refine g_ci S (runV (As := [.int (-1)]) (rest := []) X S coX13_667 (by decide) (cX13_back_m l hc) (tkX13_back hc) rfl hl.1 (by decide) rfl ⟨Nat.zero_le _, Nat.zero_le _⟩ dX13_faults_86) (fun H locs S => ?_)
    cases hf; exact g_ri X S hr hlk dX13_faults_89
  · replace hf := (if_neg c1).symm.trans hf
    refine g_aload_n X (or_rv _) dX13_faults_35 rfl (lv_at hl 0 rfl) ?_
    refine g_gR X S foX13_76 dX13_faults_36 hf (fun v3 hf => ?_)
    refine lv_sipush (v := 278) X.1 X.2.1 dX13_faults_39 (by decide) ?_
    refine g_aI X S dX13_faults_42 hf (fun v4 hf => ?_)
    refine lv_istore_n (i := 3) (lv' := [(3, .int v4), (0, rv x0), (1, .int x1), (2, .int x2)]) X.1 X.2.1 dX13_faults_43 rfl hl (by decide) rfl (fun ls hl => ?_)
    refine g_aload_n X (or_rv _) dX13_faults_44 rfl (lv_at hl 1 rfl) ?_
    obtain ⟨h, hc, hf⟩ := ob_some hf
    refine g_cv S (runV (As := []) (rest := []) X S coX13_587 (by decide) (cX13_aStep_m l hc) (tkX13_aStep hc) rfl hl.1 (by decide) rfl ⟨Nat.zero_le _, Nat.zero_le _⟩ dX13_faults_45) (fun H locs S => ?_)
    refine g_aload_n X (or_rv _) dX13_faults_48 rfl (lv_at hl 1 rfl) ?_
    refine g_gR X S foX13_76 dX13_faults_49 hf (fun v6 hf => ?_)
    refine lv_sipush (v := 278) X.1 X.2.1 dX13_faults_52 (by decide) ?_
    refine g_aI X S dX13_faults_55 hf (fun v7 hf => ?_)
    refine lv_iload_n X.1 X.2.1 dX13_faults_56 rfl (lv_at hl 0 rfl) ?_
    refine lv_icmp_le (tgt := 78) X.1 X.2.1 dX13_faults_57 (by decide) (fun c8 => ?_) (fun c8 => ?_)
    · replace hf := (if_pos c8).symm.trans hf
      obtain ⟨z9, ez9, hf⟩ := lt_some hf
      refine lv_iinc (v := z9) (lv' := [(2, .int z9), (3, .int v4), (0, rv x0), (1, .int x1)]) X.1 X.2.1 dX13_faults_78 hl (k := 3) rfl (by rw [← ez9]; rfl) (by decide) rfl (fun ls hl => ?_)
      refine lv_goto (tgt := 29) X.1 X.2.1 dX13_faults_81 (by decide) ?_
      exact hk29 _ _ _ _ _ _ _ (lv_sub hl [2, 3, 0] rfl) S hf
    · replace hf := (if_neg c8).symm.trans hf
      refine g_aload_n X (or_rv _) dX13_faults_60 rfl (lv_at hl 1 rfl) ?_
      refine g_gR X S foX13_76 dX13_faults_61 hf (fun v10 hf => ?_)
      refine lv_sipush (v := 280) X.1 X.2.1 dX13_faults_64 (by decide) ?_
      refine g_aI X S dX13_faults_67 hf (fun v11 hf => ?_)
      refine lv_iload_n X.1 X.2.1 dX13_faults_68 rfl (lv_at hl 2 rfl) ?_
      refine lv_icmp_ne (tgt := 78) X.1 X.2.1 dX13_faults_69 (by decide) (fun c12 => ?_) (fun c12 => ?_)
      · replace hf := (if_neg c12).symm.trans hf
        obtain ⟨z13, ez13, hf⟩ := lt_some hf
        refine lv_iinc (v := z13) (lv' := [(2, .int z13), (3, .int v4), (0, rv x0), (1, .int x1)]) X.1 X.2.1 dX13_faults_78 hl (k := 3) rfl (by rw [← ez13]; rfl) (by decide) rfl (fun ls hl => ?_)
        refine lv_goto (tgt := 29) X.1 X.2.1 dX13_faults_81 (by decide) ?_
        exact hk29 _ _ _ _ _ _ _ (lv_sub hl [2, 3, 0] rfl) S hf
      · replace hf := (if_pos c12).symm.trans hf
        refine g_aload_n X (or_rv _) dX13_faults_72 rfl (lv_at hl 1 rfl) ?_
        refine lv_iload_n X.1 X.2.1 dX13_faults_73 rfl (lv_at hl 3 rfl) ?_
        obtain ⟨v14, h, hc, hf⟩ := ob2_some hf
        refine g_ci S (runV (As := [.int x2]) (rest := []) X S coX13_667 (by decide) (cX13_back_m l hc) (tkX13_back hc) rfl hl.1 (by decide) rfl ⟨Nat.zero_le _, Nat.zero_le _⟩ dX13_faults_74) (fun H locs S => ?_)
        cases hf; exact g_ri X S hr hlk dX13_faults_77
theorem wfX13_faults_29_l {r9 : Int32} {h9 : Hp} (X : Cx p E A 16 R s m args c cX13_faults yX13_faults.cls 4) (hr : meth.sig.returnType = (some .int)) (hlk : meth.locks = false) (hnm : meth.name = yX13_faults.name) :
    ∀ (n : Nat) (x0 : Nat) (x1 : Int32) (x2 : Int32) (h : Hp) (H : Heap) (locs : List Loc) (ls : Array Slot), lv_has ls 4 [(0, rv x0), (1, .int x1), (2, .int x2)] → St E A s h H locs → lp (fun _ _ _ _ => none) (fX13_faults_29) n x0 x1 x2 h = some (r9, h9) → W p l e R s m args below meth c H locs 0 0 (MQ below (Qi E A h9 r9) args s 0 0 A) (F0 m 29 ls []) := by
  intro n
  induction n with
  | zero =>
    intro x0 x1 x2 h H locs ls hl S hf
    exact nomatch hf
  | succ n ih =>
    intro x0 x1 x2 h H locs ls hl S hf
    exact wfX13_faults_29 X hr hlk hnm ih x0 x1 x2 h H locs ls hl S hf
def fX13_faults (a0 : Nat) (a1 : Int32) (h : Hp) : Option (Int32 × Hp) := gd 11 a0 h (ob (pI 11 a0 2 0 h) fun h => ob (fX13_isIn (Int32.toInt64 a1) 1 8) fun v1 => if v1 = 0 then ob2 (fX13_fail a0 1 h) fun v4 h => some (v4, h) else ob (fX13_rememberNow a0 h) fun h => lp (fun _ _ _ _ => none) (fX13_faults_29) FU a0 a1 1 h)
theorem tkX13_faults {a0 : Nat} {a1 : Int32} {h : Hp} {r9 : Int32 × Hp} (e : fX13_faults a0 a1 h = some r9) : hK h a0 = 11 := by
  unfold fX13_faults at e
  exact (gd_some e).1
theorem cX13_faults_m (l : Launch) {E : EE} {A : Nat → Prop} {a0 : Nat} {a1 : Int32} {h : Hp} {r9 : Int32} {h9 : Hp} (hf : fX13_faults a0 a1 h = some (r9, h9)) : Met l yX13_faults (wsM yX13_faults cX13_faults 4 (some .int)) (rmm 16 0 0) (PcE E A h [rv a0, .int a1]) (Qi E A h9 r9) 0 0 A := by
  refine met_of (by decide +kernel) (by simp [lg_sl, cat_rv, cat_wv, cat_sv, cat_i, cat_l, cat_a]) (fun p e s m args below meth c ls X hr hlk hnm S hl => ?_)
  have hl : lv_has ls 4 [(0, rv a0), (1, .int a1)] := by simpa [lv_args, cat_rv, cat_wv, cat_sv, cat_i, cat_l, cat_a] using hl
  generalize hH : s.heap = H at S ⊢
  generalize hlo : ([] : List Loc) = locs at S ⊢
  clear hH hlo
  unfold fX13_faults at hf
  obtain ⟨hth, hf⟩ := gd_some hf
  refine g_aload_n X (or_rv _) dX13_faults_0 rfl (lv_at hl 0 rfl) ?_
  refine lv_iconst (v := 0) X.1 X.2.1 dX13_faults_1 (by decide) ?_
  refine g_pI X S fpX13_187 (Or.inl rfl) dX13_faults_2 hf (fun h H locs hm hf S => ?_)
  refine lv_iload_n X.1 X.2.1 dX13_faults_5 rfl (lv_at hl 1 rfl) ?_
  refine lv_i2l (v := Int32.toInt64 a1) X.1 X.2.1 dX13_faults_6 rfl ?_
  refine lv_lconst (v := 1) X.1 X.2.1 dX13_faults_7 (by decide) ?_
  refine lv_ldc2 X.1 X.2.1 X.2.2.2.1 (X.2.2.1 _ kuX13_446) dX13_faults_8 ?_
  obtain ⟨v1, hc, hf⟩ := ob_some hf
  refine g_ci S (runS (As := [.long (Int32.toInt64 a1), .long 1, .long 8]) (rest := []) X S coX13_287 (by decide) (cX13_isIn_m l hc) rfl hl.1 (by decide) rfl ⟨Nat.zero_le _, Nat.zero_le _⟩ dX13_faults_11) (fun H locs S => ?_)
  refine lv_if_ne (tgt := 23) X.1 X.2.1 dX13_faults_14 (by decide) (fun c2 => ?_) (fun c2 => ?_)
  · replace hf := (if_neg c2).symm.trans hf
    refine g_aload_n X (or_rv _) dX13_faults_23 rfl (lv_at hl 0 rfl) ?_
    obtain ⟨h, hc, hf⟩ := ob_some hf
    refine g_cv S (runV (As := []) (rest := []) X S coX13_664 (by decide) (cX13_rememberNow_m l hc) (tkX13_rememberNow hc) rfl hl.1 (by decide) rfl ⟨Nat.zero_le _, Nat.zero_le _⟩ dX13_faults_24) (fun H locs S => ?_)
    refine lv_iconst (v := 1) X.1 X.2.1 dX13_faults_27 (by decide) ?_
    refine lv_istore_n (i := 2) (lv' := [(2, .int 1), (0, rv a0), (1, .int a1)]) X.1 X.2.1 dX13_faults_28 rfl hl (by decide) rfl (fun ls hl => ?_)
    exact wfX13_faults_29_l X hr hlk hnm FU _ _ _ _ _ _ _ (lv_sub hl [1, 2, 0] rfl) S hf
  · replace hf := (if_pos c2).symm.trans hf
    refine g_aload_n X (or_rv _) dX13_faults_17 rfl (lv_at hl 0 rfl) ?_
    refine lv_iconst (v := 1) X.1 X.2.1 dX13_faults_18 (by decide) ?_
    obtain ⟨v4, h, hc, hf⟩ := ob2_some hf
    refine g_ci S (runV (As := [.int 1]) (rest := []) X S coX13_329 (by decide) (cX13_fail_m l hc) (tkX13_fail hc) rfl hl.1 (by decide) rfl ⟨Nat.zero_le _, Nat.zero_le _⟩ dX13_faults_19) (fun H locs S => ?_)
    cases hf; exact g_ri X S hr hlk dX13_faults_22
def fX13_halts_11 (k11 : Nat → Int32 → Hp → Option (Int32 × Hp)) (x0 : Nat) (x1 : Int32) (h : Hp) : Option (Int32 × Hp) := if 100 < x1 then ob2 (fX13_back x0 (-1) h) fun v2 h => some (v2, h) else ob (gR 11 x0 3 h) fun v3 => ob (aI v3 276 h) fun v4 => if v4 = 0 then ob (fX13_aStep x0 h) fun h => lt (x1 + 1) fun z7 => k11 x0 z7 h else ob2 (fX13_back x0 x1 h) fun v8 h => some (v8, h)
theorem wfX13_halts_11 {k11 : Nat → Int32 → Hp → Option (Int32 × Hp)} {r9 : Int32} {h9 : Hp} (X : Cx p E A 16 R s m args c cX13_halts yX13_halts.cls 2) (hr : meth.sig.returnType = (some .int)) (hlk : meth.locks = false) (hnm : meth.name = yX13_halts.name) (hk11 : ∀ (x0 : Nat) (x1 : Int32) (h : Hp) (H : Heap) (locs : List Loc) (ls : Array Slot), lv_has ls 2 [(0, rv x0), (1, .int x1)] → St E A s h H locs → k11 x0 x1 h = some (r9, h9) → W p l e R s m args below meth c H locs 0 0 (MQ below (Qi E A h9 r9) args s 0 0 A) (F0 m 11 ls [])) :
    ∀ (x0 : Nat) (x1 : Int32) (h : Hp) (H : Heap) (locs : List Loc) (ls : Array Slot), lv_has ls 2 [(0, rv x0), (1, .int x1)] → St E A s h H locs → fX13_halts_11 k11 x0 x1 h = some (r9, h9) → W p l e R s m args below meth c H locs 0 0 (MQ below (Qi E A h9 r9) args s 0 0 A) (F0 m 11 ls []) := by
  intro x0 x1 h H locs ls hl S hf
  unfold fX13_halts_11 at hf
  refine lv_iload_n X.1 X.2.1 dX13_halts_11 rfl (lv_at hl 1 rfl) ?_
  refine lv_bipush (v := 100) X.1 X.2.1 dX13_halts_12 (by decide) ?_
  refine lv_icmp_gt (tgt := 44) X.1 X.2.1 dX13_halts_14 (by decide) (fun c1 => ?_) (fun c1 => ?_)
  · replace hf := (if_pos c1).symm.trans hf
    refine g_aload_n X (or_rv _) dX13_halts_44 rfl (lv_at hl 0 rfl) ?_
    refine lv_iconst (v := (-1)) X.1 X.2.1 dX13_halts_45 (by decide) ?_
    obtain ⟨v2, h, hc, hf⟩ := ob2_some hf
    refine g_ci S (runV (As := [.int (-1)]) (rest := []) X S coX13_667 (by decide) (cX13_back_m l hc) (tkX13_back hc) rfl hl.1 (by decide) rfl ⟨Nat.zero_le _, Nat.zero_le _⟩ dX13_halts_46) (fun H locs S => ?_)
    cases hf; exact g_ri X S hr hlk dX13_halts_49
  · replace hf := (if_neg c1).symm.trans hf
    refine g_aload_n X (or_rv _) dX13_halts_17 rfl (lv_at hl 0 rfl) ?_
    refine g_gR X S foX13_76 dX13_halts_18 hf (fun v3 hf => ?_)
    refine lv_sipush (v := 276) X.1 X.2.1 dX13_halts_21 (by decide) ?_
    refine g_aI X S dX13_halts_24 hf (fun v4 hf => ?_)
    refine lv_if_eq (tgt := 34) X.1 X.2.1 dX13_halts_25 (by decide) (fun c5 => ?_) (fun c5 => ?_)
    · replace hf := (if_pos c5).symm.trans hf
      refine g_aload_n X (or_rv _) dX13_halts_34 rfl (lv_at hl 0 rfl) ?_
      obtain ⟨h, hc, hf⟩ := ob_some hf
      refine g_cv S (runV (As := []) (rest := []) X S coX13_587 (by decide) (cX13_aStep_m l hc) (tkX13_aStep hc) rfl hl.1 (by decide) rfl ⟨Nat.zero_le _, Nat.zero_le _⟩ dX13_halts_35) (fun H locs S => ?_)
      obtain ⟨z7, ez7, hf⟩ := lt_some hf
      refine lv_iinc (v := z7) (lv' := [(1, .int z7), (0, rv x0)]) X.1 X.2.1 dX13_halts_38 hl (k := 1) rfl (by rw [← ez7]; rfl) (by decide) (by simp [List.filter, cat_rv, cat_wv, cat_sv]) (fun ls hl => ?_)
      refine lv_goto (tgt := 11) X.1 X.2.1 dX13_halts_41 (by decide) ?_
      exact hk11 _ _ _ _ _ _ (lv_sub hl [1, 0] rfl) S hf
    · replace hf := (if_neg c5).symm.trans hf
      refine g_aload_n X (or_rv _) dX13_halts_28 rfl (lv_at hl 0 rfl) ?_
      refine lv_iload_n X.1 X.2.1 dX13_halts_29 rfl (lv_at hl 1 rfl) ?_
      obtain ⟨v8, h, hc, hf⟩ := ob2_some hf
      refine g_ci S (runV (As := [.int x1]) (rest := []) X S coX13_667 (by decide) (cX13_back_m l hc) (tkX13_back hc) rfl hl.1 (by decide) rfl ⟨Nat.zero_le _, Nat.zero_le _⟩ dX13_halts_30) (fun H locs S => ?_)
      cases hf; exact g_ri X S hr hlk dX13_halts_33
theorem wfX13_halts_11_l {r9 : Int32} {h9 : Hp} (X : Cx p E A 16 R s m args c cX13_halts yX13_halts.cls 2) (hr : meth.sig.returnType = (some .int)) (hlk : meth.locks = false) (hnm : meth.name = yX13_halts.name) :
    ∀ (n : Nat) (x0 : Nat) (x1 : Int32) (h : Hp) (H : Heap) (locs : List Loc) (ls : Array Slot), lv_has ls 2 [(0, rv x0), (1, .int x1)] → St E A s h H locs → lp (fun _ _ _ => none) (fX13_halts_11) n x0 x1 h = some (r9, h9) → W p l e R s m args below meth c H locs 0 0 (MQ below (Qi E A h9 r9) args s 0 0 A) (F0 m 11 ls []) := by
  intro n
  induction n with
  | zero =>
    intro x0 x1 h H locs ls hl S hf
    exact nomatch hf
  | succ n ih =>
    intro x0 x1 h H locs ls hl S hf
    exact wfX13_halts_11 X hr hlk hnm ih x0 x1 h H locs ls hl S hf
def fX13_halts (a0 : Nat) (h : Hp) : Option (Int32 × Hp) := gd 11 a0 h (ob (pI 11 a0 2 0 h) fun h => ob (fX13_rememberNow a0 h) fun h => lp (fun _ _ _ => none) (fX13_halts_11) FU a0 0 h)
theorem tkX13_halts {a0 : Nat} {h : Hp} {r9 : Int32 × Hp} (e : fX13_halts a0 h = some r9) : hK h a0 = 11 := by
  unfold fX13_halts at e
  exact (gd_some e).1
theorem cX13_halts_m (l : Launch) {E : EE} {A : Nat → Prop} {a0 : Nat} {h : Hp} {r9 : Int32} {h9 : Hp} (hf : fX13_halts a0 h = some (r9, h9)) : Met l yX13_halts (wsM yX13_halts cX13_halts 2 (some .int)) (rmm 16 0 0) (PcE E A h [rv a0]) (Qi E A h9 r9) 0 0 A := by
  refine met_of (by decide +kernel) (by simp [lg_sl, cat_rv, cat_wv, cat_sv, cat_i, cat_l, cat_a]) (fun p e s m args below meth c ls X hr hlk hnm S hl => ?_)
  have hl : lv_has ls 2 [(0, rv a0)] := by simpa [lv_args, cat_rv, cat_wv, cat_sv, cat_i, cat_l, cat_a] using hl
  generalize hH : s.heap = H at S ⊢
  generalize hlo : ([] : List Loc) = locs at S ⊢
  clear hH hlo
  unfold fX13_halts at hf
  obtain ⟨hth, hf⟩ := gd_some hf
  refine g_aload_n X (or_rv _) dX13_halts_0 rfl (lv_at hl 0 rfl) ?_
  refine lv_iconst (v := 0) X.1 X.2.1 dX13_halts_1 (by decide) ?_
  refine g_pI X S fpX13_187 (Or.inl rfl) dX13_halts_2 hf (fun h H locs hm hf S => ?_)
  refine g_aload_n X (or_rv _) dX13_halts_5 rfl (lv_at hl 0 rfl) ?_
  obtain ⟨h, hc, hf⟩ := ob_some hf
  refine g_cv S (runV (As := []) (rest := []) X S coX13_664 (by decide) (cX13_rememberNow_m l hc) (tkX13_rememberNow hc) rfl hl.1 (by decide) rfl ⟨Nat.zero_le _, Nat.zero_le _⟩ dX13_halts_6) (fun H locs S => ?_)
  refine lv_iconst (v := 0) X.1 X.2.1 dX13_halts_9 (by decide) ?_
  refine lv_istore_n (i := 1) (lv' := [(1, .int 0), (0, rv a0)]) X.1 X.2.1 dX13_halts_10 rfl hl (by decide) (by simp [List.filter, cat_rv, cat_wv, cat_sv]) (fun ls hl => ?_)
  exact wfX13_halts_11_l X hr hlk hnm FU _ _ _ _ _ _ (lv_sub hl [1, 0] rfl) S hf
def fX13_changes_29 (k29 : Nat → Int32 → Int32 → Hp → Option (Int32 × Hp)) (x0 : Nat) (x1 : Int32) (x2 : Int32) (h : Hp) : Option (Int32 × Hp) := if 100 < x2 then ob2 (fX13_back x0 (-1) h) fun v2 h => some (v2, h) else ob (fX13_aStep x0 h) fun h => ob (gR 11 x0 3 h) fun v4 => ob (aI v4 x1 h) fun v5 => ob (gR 11 x0 61 h) fun v6 => ob (aI v6 x1 h) fun v7 => if v5 = v7 then lt (x2 + 1) fun z9 => k29 x0 x1 z9 h else ob2 (fX13_back x0 x2 h) fun v10 h => some (v10, h)
theorem wfX13_changes_29 {k29 : Nat → Int32 → Int32 → Hp → Option (Int32 × Hp)} {r9 : Int32} {h9 : Hp} (X : Cx p E A 16 R s m args c cX13_changes yX13_changes.cls 3) (hr : meth.sig.returnType = (some .int)) (hlk : meth.locks = false) (hnm : meth.name = yX13_changes.name) (hk29 : ∀ (x0 : Nat) (x1 : Int32) (x2 : Int32) (h : Hp) (H : Heap) (locs : List Loc) (ls : Array Slot), lv_has ls 3 [(0, rv x0), (1, .int x1), (2, .int x2)] → St E A s h H locs → k29 x0 x1 x2 h = some (r9, h9) → W p l e R s m args below meth c H locs 0 0 (MQ below (Qi E A h9 r9) args s 0 0 A) (F0 m 29 ls [])) :
    ∀ (x0 : Nat) (x1 : Int32) (x2 : Int32) (h : Hp) (H : Heap) (locs : List Loc) (ls : Array Slot), lv_has ls 3 [(0, rv x0), (1, .int x1), (2, .int x2)] → St E A s h H locs → fX13_changes_29 k29 x0 x1 x2 h = some (r9, h9) → W p l e R s m args below meth c H locs 0 0 (MQ below (Qi E A h9 r9) args s 0 0 A) (F0 m 29 ls []) := by
  intro x0 x1 x2 h H locs ls hl S hf
  unfold fX13_changes_29 at hf
  refine lv_iload_n X.1 X.2.1 dX13_changes_29 rfl (lv_at hl 2 rfl) ?_
  refine lv_bipush (v := 100) X.1 X.2.1 dX13_changes_30 (by decide) ?_
  refine lv_icmp_gt (tgt := 66) X.1 X.2.1 dX13_changes_32 (by decide) (fun c1 => ?_) (fun c1 => ?_)
  · replace hf := (if_pos c1).symm.trans hf
    refine g_aload_n X (or_rv _) dX13_changes_66 rfl (lv_at hl 0 rfl) ?_
    refine lv_iconst (v := (-1)) X.1 X.2.1 dX13_changes_67 (by decide) ?_
    obtain ⟨v2, h, hc, hf⟩ := ob2_some hf
    refine g_ci S (runV (As := [.int (-1)]) (rest := []) X S coX13_667 (by decide) (cX13_back_m l hc) (tkX13_back hc) rfl hl.1 (by decide) rfl ⟨Nat.zero_le _, Nat.zero_le _⟩ dX13_changes_68) (fun H locs S => ?_)
    cases hf; exact g_ri X S hr hlk dX13_changes_71
  · replace hf := (if_neg c1).symm.trans hf
    refine g_aload_n X (or_rv _) dX13_changes_35 rfl (lv_at hl 0 rfl) ?_
    obtain ⟨h, hc, hf⟩ := ob_some hf
    refine g_cv S (runV (As := []) (rest := []) X S coX13_587 (by decide) (cX13_aStep_m l hc) (tkX13_aStep hc) rfl hl.1 (by decide) rfl ⟨Nat.zero_le _, Nat.zero_le _⟩ dX13_changes_36) (fun H locs S => ?_)
    refine g_aload_n X (or_rv _) dX13_changes_39 rfl (lv_at hl 0 rfl) ?_
    refine g_gR X S foX13_76 dX13_changes_40 hf (fun v4 hf => ?_)
    refine lv_iload_n X.1 X.2.1 dX13_changes_43 rfl (lv_at hl 1 rfl) ?_
    refine g_aI X S dX13_changes_44 hf (fun v5 hf => ?_)
    refine g_aload_n X (or_rv _) dX13_changes_45 rfl (lv_at hl 0 rfl) ?_
    refine g_gR X S foX13_151 dX13_changes_46 hf (fun v6 hf => ?_)
    refine lv_iload_n X.1 X.2.1 dX13_changes_49 rfl (lv_at hl 1 rfl) ?_
    refine g_aI X S dX13_changes_50 hf (fun v7 hf => ?_)
    refine lv_icmp_eq (tgt := 60) X.1 X.2.1 dX13_changes_51 (by decide) (fun c8 => ?_) (fun c8 => ?_)
    · replace hf := (if_pos c8).symm.trans hf
      obtain ⟨z9, ez9, hf⟩ := lt_some hf
      refine lv_iinc (v := z9) (lv' := [(2, .int z9), (0, rv x0), (1, .int x1)]) X.1 X.2.1 dX13_changes_60 hl (k := 2) rfl (by rw [← ez9]; rfl) (by decide) rfl (fun ls hl => ?_)
      refine lv_goto (tgt := 29) X.1 X.2.1 dX13_changes_63 (by decide) ?_
      exact hk29 _ _ _ _ _ _ _ (lv_sub hl [1, 2, 0] rfl) S hf
    · replace hf := (if_neg c8).symm.trans hf
      refine g_aload_n X (or_rv _) dX13_changes_54 rfl (lv_at hl 0 rfl) ?_
      refine lv_iload_n X.1 X.2.1 dX13_changes_55 rfl (lv_at hl 2 rfl) ?_
      obtain ⟨v10, h, hc, hf⟩ := ob2_some hf
      refine g_ci S (runV (As := [.int x2]) (rest := []) X S coX13_667 (by decide) (cX13_back_m l hc) (tkX13_back hc) rfl hl.1 (by decide) rfl ⟨Nat.zero_le _, Nat.zero_le _⟩ dX13_changes_56) (fun H locs S => ?_)
      cases hf; exact g_ri X S hr hlk dX13_changes_59
theorem wfX13_changes_29_l {r9 : Int32} {h9 : Hp} (X : Cx p E A 16 R s m args c cX13_changes yX13_changes.cls 3) (hr : meth.sig.returnType = (some .int)) (hlk : meth.locks = false) (hnm : meth.name = yX13_changes.name) :
    ∀ (n : Nat) (x0 : Nat) (x1 : Int32) (x2 : Int32) (h : Hp) (H : Heap) (locs : List Loc) (ls : Array Slot), lv_has ls 3 [(0, rv x0), (1, .int x1), (2, .int x2)] → St E A s h H locs → lp (fun _ _ _ _ => none) (fX13_changes_29) n x0 x1 x2 h = some (r9, h9) → W p l e R s m args below meth c H locs 0 0 (MQ below (Qi E A h9 r9) args s 0 0 A) (F0 m 29 ls []) := by
  intro n
  induction n with
  | zero =>
    intro x0 x1 x2 h H locs ls hl S hf
    exact nomatch hf
  | succ n ih =>
    intro x0 x1 x2 h H locs ls hl S hf
    exact wfX13_changes_29 X hr hlk hnm ih x0 x1 x2 h H locs ls hl S hf
def fX13_changes (a0 : Nat) (a1 : Int32) (h : Hp) : Option (Int32 × Hp) := gd 11 a0 h (ob (pI 11 a0 2 0 h) fun h => ob (fX13_isIn (Int32.toInt64 a1) 0 255) fun v1 => if v1 = 0 then ob2 (fX13_fail a0 1 h) fun v4 h => some (v4, h) else ob (fX13_rememberNow a0 h) fun h => lp (fun _ _ _ _ => none) (fX13_changes_29) FU a0 a1 1 h)
theorem tkX13_changes {a0 : Nat} {a1 : Int32} {h : Hp} {r9 : Int32 × Hp} (e : fX13_changes a0 a1 h = some r9) : hK h a0 = 11 := by
  unfold fX13_changes at e
  exact (gd_some e).1
theorem cX13_changes_m (l : Launch) {E : EE} {A : Nat → Prop} {a0 : Nat} {a1 : Int32} {h : Hp} {r9 : Int32} {h9 : Hp} (hf : fX13_changes a0 a1 h = some (r9, h9)) : Met l yX13_changes (wsM yX13_changes cX13_changes 3 (some .int)) (rmm 16 0 0) (PcE E A h [rv a0, .int a1]) (Qi E A h9 r9) 0 0 A := by
  refine met_of (by decide +kernel) (by simp [lg_sl, cat_rv, cat_wv, cat_sv, cat_i, cat_l, cat_a]) (fun p e s m args below meth c ls X hr hlk hnm S hl => ?_)
  have hl : lv_has ls 3 [(0, rv a0), (1, .int a1)] := by simpa [lv_args, cat_rv, cat_wv, cat_sv, cat_i, cat_l, cat_a] using hl
  generalize hH : s.heap = H at S ⊢
  generalize hlo : ([] : List Loc) = locs at S ⊢
  clear hH hlo
  unfold fX13_changes at hf
  obtain ⟨hth, hf⟩ := gd_some hf
  refine g_aload_n X (or_rv _) dX13_changes_0 rfl (lv_at hl 0 rfl) ?_
  refine lv_iconst (v := 0) X.1 X.2.1 dX13_changes_1 (by decide) ?_
  refine g_pI X S fpX13_187 (Or.inl rfl) dX13_changes_2 hf (fun h H locs hm hf S => ?_)
  refine lv_iload_n X.1 X.2.1 dX13_changes_5 rfl (lv_at hl 1 rfl) ?_
  refine lv_i2l (v := Int32.toInt64 a1) X.1 X.2.1 dX13_changes_6 rfl ?_
  refine lv_lconst (v := 0) X.1 X.2.1 dX13_changes_7 (by decide) ?_
  refine lv_ldc2 X.1 X.2.1 X.2.2.2.1 (X.2.2.1 _ kuX13_593) dX13_changes_8 ?_
  obtain ⟨v1, hc, hf⟩ := ob_some hf
  refine g_ci S (runS (As := [.long (Int32.toInt64 a1), .long 0, .long 255]) (rest := []) X S coX13_287 (by decide) (cX13_isIn_m l hc) rfl hl.1 (by decide) rfl ⟨Nat.zero_le _, Nat.zero_le _⟩ dX13_changes_11) (fun H locs S => ?_)
  refine lv_if_ne (tgt := 23) X.1 X.2.1 dX13_changes_14 (by decide) (fun c2 => ?_) (fun c2 => ?_)
  · replace hf := (if_neg c2).symm.trans hf
    refine g_aload_n X (or_rv _) dX13_changes_23 rfl (lv_at hl 0 rfl) ?_
    obtain ⟨h, hc, hf⟩ := ob_some hf
    refine g_cv S (runV (As := []) (rest := []) X S coX13_664 (by decide) (cX13_rememberNow_m l hc) (tkX13_rememberNow hc) rfl hl.1 (by decide) rfl ⟨Nat.zero_le _, Nat.zero_le _⟩ dX13_changes_24) (fun H locs S => ?_)
    refine lv_iconst (v := 1) X.1 X.2.1 dX13_changes_27 (by decide) ?_
    refine lv_istore_n (i := 2) (lv' := [(2, .int 1), (0, rv a0), (1, .int a1)]) X.1 X.2.1 dX13_changes_28 rfl hl (by decide) rfl (fun ls hl => ?_)
    exact wfX13_changes_29_l X hr hlk hnm FU _ _ _ _ _ _ _ (lv_sub hl [1, 2, 0] rfl) S hf
  · replace hf := (if_pos c2).symm.trans hf
    refine g_aload_n X (or_rv _) dX13_changes_17 rfl (lv_at hl 0 rfl) ?_
    refine lv_iconst (v := 1) X.1 X.2.1 dX13_changes_18 (by decide) ?_
    obtain ⟨v4, h, hc, hf⟩ := ob2_some hf
    refine g_ci S (runV (As := [.int 1]) (rest := []) X S coX13_329 (by decide) (cX13_fail_m l hc) (tkX13_fail hc) rfl hl.1 (by decide) rfl ⟨Nat.zero_le _, Nat.zero_le _⟩ dX13_changes_19) (fun H locs S => ?_)
    cases hf; exact g_ri X S hr hlk dX13_changes_22
def fX13_isAlike_2 (h : Hp) (k2 : Nat → Nat → Int32 → Int32 → Option (Int32)) (x0 : Nat) (x1 : Nat) (x2 : Int32) (x3 : Int32) : Option (Int32) := if 277 ≤ x3 then some 1 else if x3 = x2 then lt (x3 + 1) fun z3 => k2 x0 x1 x2 z3 else ob (aI x1 x3 h) fun v4 => ob (gR 11 x0 3 h) fun v5 => ob (aI v5 x3 h) fun v6 => if v4 = v6 then lt (x3 + 1) fun z8 => k2 x0 x1 x2 z8 else some 0
theorem wfX13_isAlike_2 {h : Hp} {k2 : Nat → Nat → Int32 → Int32 → Option (Int32)} {r9 : Int32} (X : Cx p E A 8 R s m args c cX13_isAlike yX13_isAlike.cls 4) (hr : meth.sig.returnType = (some .boolean)) (hlk : meth.locks = false) (hnm : meth.name = yX13_isAlike.name) (hk2 : ∀ (x0 : Nat) (x1 : Nat) (x2 : Int32) (x3 : Int32) (H : Heap) (locs : List Loc) (ls : Array Slot), lv_has ls 4 [(0, rv x0), (1, rv x1), (2, .int x2), (3, .int x3)] → St E A s h H locs → k2 x0 x1 x2 x3 = some r9 → W p l e R s m args below meth c H locs 0 0 (MQ below (Qi E A h r9) args s 0 0 A) (F0 m 2 ls [])) :
    ∀ (x0 : Nat) (x1 : Nat) (x2 : Int32) (x3 : Int32) (H : Heap) (locs : List Loc) (ls : Array Slot), lv_has ls 4 [(0, rv x0), (1, rv x1), (2, .int x2), (3, .int x3)] → St E A s h H locs → fX13_isAlike_2 h k2 x0 x1 x2 x3 = some r9 → W p l e R s m args below meth c H locs 0 0 (MQ below (Qi E A h r9) args s 0 0 A) (F0 m 2 ls []) := by
  intro x0 x1 x2 x3 H locs ls hl S hf
  unfold fX13_isAlike_2 at hf
  refine lv_iload_n X.1 X.2.1 dX13_isAlike_2 rfl (lv_at hl 3 rfl) ?_
  refine lv_sipush (v := 277) X.1 X.2.1 dX13_isAlike_3 (by decide) ?_
  refine lv_icmp_ge (tgt := 34) X.1 X.2.1 dX13_isAlike_6 (by decide) (fun c1 => ?_) (fun c1 => ?_)
  · replace hf := (if_pos c1).symm.trans hf
    refine lv_iconst (v := 1) X.1 X.2.1 dX13_isAlike_34 (by decide) ?_
    cases hf; exact g_rz X S hr hlk (by decide) dX13_isAlike_35
  · replace hf := (if_neg c1).symm.trans hf
    refine lv_iload_n X.1 X.2.1 dX13_isAlike_9 rfl (lv_at hl 3 rfl) ?_
    refine lv_iload_n X.1 X.2.1 dX13_isAlike_10 rfl (lv_at hl 2 rfl) ?_
    refine lv_icmp_eq (tgt := 28) X.1 X.2.1 dX13_isAlike_11 (by decide) (fun c2 => ?_) (fun c2 => ?_)
    · replace hf := (if_pos c2).symm.trans hf
      obtain ⟨z3, ez3, hf⟩ := lt_some hf
      refine lv_iinc (v := z3) (lv' := [(3, .int z3), (0, rv x0), (1, rv x1), (2, .int x2)]) X.1 X.2.1 dX13_isAlike_28 hl (k := 3) rfl (by rw [← ez3]; rfl) (by decide) rfl (fun ls hl => ?_)
      refine lv_goto (tgt := 2) X.1 X.2.1 dX13_isAlike_31 (by decide) ?_
      exact hk2 _ _ _ _ _ _ _ (lv_sub hl [1, 2, 3, 0] rfl) S hf
    · replace hf := (if_neg c2).symm.trans hf
      refine g_aload_n X (or_rv _) dX13_isAlike_14 rfl (lv_at hl 1 rfl) ?_
      refine lv_iload_n X.1 X.2.1 dX13_isAlike_15 rfl (lv_at hl 3 rfl) ?_
      refine g_aI X S dX13_isAlike_16 hf (fun v4 hf => ?_)
      refine g_aload_n X (or_rv _) dX13_isAlike_17 rfl (lv_at hl 0 rfl) ?_
      refine g_gR X S foX13_76 dX13_isAlike_18 hf (fun v5 hf => ?_)
      refine lv_iload_n X.1 X.2.1 dX13_isAlike_21 rfl (lv_at hl 3 rfl) ?_
      refine g_aI X S dX13_isAlike_22 hf (fun v6 hf => ?_)
      refine lv_icmp_eq (tgt := 28) X.1 X.2.1 dX13_isAlike_23 (by decide) (fun c7 => ?_) (fun c7 => ?_)
      · replace hf := (if_pos c7).symm.trans hf
        obtain ⟨z8, ez8, hf⟩ := lt_some hf
        refine lv_iinc (v := z8) (lv' := [(3, .int z8), (0, rv x0), (1, rv x1), (2, .int x2)]) X.1 X.2.1 dX13_isAlike_28 hl (k := 3) rfl (by rw [← ez8]; rfl) (by decide) rfl (fun ls hl => ?_)
        refine lv_goto (tgt := 2) X.1 X.2.1 dX13_isAlike_31 (by decide) ?_
        exact hk2 _ _ _ _ _ _ _ (lv_sub hl [1, 2, 3, 0] rfl) S hf
      · replace hf := (if_neg c7).symm.trans hf
        refine lv_iconst (v := 0) X.1 X.2.1 dX13_isAlike_26 (by decide) ?_
        cases hf; exact g_rz X S hr hlk (by decide) dX13_isAlike_27
theorem wfX13_isAlike_2_l {h : Hp} {r9 : Int32} (X : Cx p E A 8 R s m args c cX13_isAlike yX13_isAlike.cls 4) (hr : meth.sig.returnType = (some .boolean)) (hlk : meth.locks = false) (hnm : meth.name = yX13_isAlike.name) :
    ∀ (n : Nat) (x0 : Nat) (x1 : Nat) (x2 : Int32) (x3 : Int32) (H : Heap) (locs : List Loc) (ls : Array Slot), lv_has ls 4 [(0, rv x0), (1, rv x1), (2, .int x2), (3, .int x3)] → St E A s h H locs → lp (fun _ _ _ _ => none) (fX13_isAlike_2 h) n x0 x1 x2 x3 = some r9 → W p l e R s m args below meth c H locs 0 0 (MQ below (Qi E A h r9) args s 0 0 A) (F0 m 2 ls []) := by
  intro n
  induction n with
  | zero =>
    intro x0 x1 x2 x3 H locs ls hl S hf
    exact nomatch hf
  | succ n ih =>
    intro x0 x1 x2 x3 H locs ls hl S hf
    exact wfX13_isAlike_2 X hr hlk hnm ih x0 x1 x2 x3 H locs ls hl S hf
def fX13_isAlike (a0 : Nat) (a1 : Nat) (a2 : Int32) (h : Hp) : Option (Int32) := gd 11 a0 h (lp (fun _ _ _ _ => none) (fX13_isAlike_2 h) FU a0 a1 a2 0)
theorem tkX13_isAlike {a0 : Nat} {a1 : Nat} {a2 : Int32} {h : Hp} {r9 : Int32} (e : fX13_isAlike a0 a1 a2 h = some r9) : hK h a0 = 11 := by
  unfold fX13_isAlike at e
  exact (gd_some e).1
theorem cX13_isAlike_m (l : Launch) {E : EE} {A : Nat → Prop} {a0 : Nat} {a1 : Nat} {a2 : Int32} {h : Hp} {r9 : Int32} (hf : fX13_isAlike a0 a1 a2 h = some r9) : Met l yX13_isAlike (wsM yX13_isAlike cX13_isAlike 4 (some .boolean)) (rmm 8 0 0) (PcE E A h [rv a0, rv a1, .int a2]) (Qi E A h r9) 0 0 A := by
  refine met_of (by decide +kernel) (by simp [lg_sl, cat_rv, cat_wv, cat_sv, cat_i, cat_l, cat_a]) (fun p e s m args below meth c ls X hr hlk hnm S hl => ?_)
  have hl : lv_has ls 4 [(0, rv a0), (1, rv a1), (2, .int a2)] := by simpa [lv_args, cat_rv, cat_wv, cat_sv, cat_i, cat_l, cat_a] using hl
  generalize hH : s.heap = H at S ⊢
  generalize hlo : ([] : List Loc) = locs at S ⊢
  clear hH hlo
  unfold fX13_isAlike at hf
  obtain ⟨hth, hf⟩ := gd_some hf
  refine lv_iconst (v := 0) X.1 X.2.1 dX13_isAlike_0 (by decide) ?_
  refine lv_istore_n (i := 3) (lv' := [(3, .int 0), (0, rv a0), (1, rv a1), (2, .int a2)]) X.1 X.2.1 dX13_isAlike_1 rfl hl (by decide) rfl (fun ls hl => ?_)
  exact wfX13_isAlike_2_l X hr hlk hnm FU _ _ _ _ _ _ _ (lv_sub hl [1, 2, 3, 0] rfl) S hf
def fX13_round_11 (k11 : Nat → Int32 → Hp → Option (Int32 × Hp)) (x0 : Nat) (x1 : Int32) (h : Hp) : Option (Int32 × Hp) := if 100 < x1 then ob2 (fX13_back x0 (-1) h) fun v2 h => some (v2, h) else ob (fX13_aStep x0 h) fun h => ob (gR 11 x0 61 h) fun v4 => ob (fX13_isAlike x0 v4 (-1) h) fun v5 => if v5 = 0 then lt (x1 + 1) fun z7 => k11 x0 z7 h else ob2 (fX13_back x0 x1 h) fun v8 h => some (v8, h)
theorem wfX13_round_11 {k11 : Nat → Int32 → Hp → Option (Int32 × Hp)} {r9 : Int32} {h9 : Hp} (X : Cx p E A 16 R s m args c cX13_round yX13_round.cls 2) (hr : meth.sig.returnType = (some .int)) (hlk : meth.locks = false) (hnm : meth.name = yX13_round.name) (hk11 : ∀ (x0 : Nat) (x1 : Int32) (h : Hp) (H : Heap) (locs : List Loc) (ls : Array Slot), lv_has ls 2 [(0, rv x0), (1, .int x1)] → St E A s h H locs → k11 x0 x1 h = some (r9, h9) → W p l e R s m args below meth c H locs 0 0 (MQ below (Qi E A h9 r9) args s 0 0 A) (F0 m 11 ls [])) :
    ∀ (x0 : Nat) (x1 : Int32) (h : Hp) (H : Heap) (locs : List Loc) (ls : Array Slot), lv_has ls 2 [(0, rv x0), (1, .int x1)] → St E A s h H locs → fX13_round_11 k11 x0 x1 h = some (r9, h9) → W p l e R s m args below meth c H locs 0 0 (MQ below (Qi E A h9 r9) args s 0 0 A) (F0 m 11 ls []) := by
  intro x0 x1 h H locs ls hl S hf
  unfold fX13_round_11 at hf
  refine lv_iload_n X.1 X.2.1 dX13_round_11 rfl (lv_at hl 1 rfl) ?_
  refine lv_bipush (v := 100) X.1 X.2.1 dX13_round_12 (by decide) ?_
  refine lv_icmp_gt (tgt := 45) X.1 X.2.1 dX13_round_14 (by decide) (fun c1 => ?_) (fun c1 => ?_)
  · replace hf := (if_pos c1).symm.trans hf
    refine g_aload_n X (or_rv _) dX13_round_45 rfl (lv_at hl 0 rfl) ?_
    refine lv_iconst (v := (-1)) X.1 X.2.1 dX13_round_46 (by decide) ?_
    obtain ⟨v2, h, hc, hf⟩ := ob2_some hf
    refine g_ci S (runV (As := [.int (-1)]) (rest := []) X S coX13_667 (by decide) (cX13_back_m l hc) (tkX13_back hc) rfl hl.1 (by decide) rfl ⟨Nat.zero_le _, Nat.zero_le _⟩ dX13_round_47) (fun H locs S => ?_)
    cases hf; exact g_ri X S hr hlk dX13_round_50
  · replace hf := (if_neg c1).symm.trans hf
    refine g_aload_n X (or_rv _) dX13_round_17 rfl (lv_at hl 0 rfl) ?_
    obtain ⟨h, hc, hf⟩ := ob_some hf
    refine g_cv S (runV (As := []) (rest := []) X S coX13_587 (by decide) (cX13_aStep_m l hc) (tkX13_aStep hc) rfl hl.1 (by decide) rfl ⟨Nat.zero_le _, Nat.zero_le _⟩ dX13_round_18) (fun H locs S => ?_)
    refine g_aload_n X (or_rv _) dX13_round_21 rfl (lv_at hl 0 rfl) ?_
    refine g_aload_n X (or_rv _) dX13_round_22 rfl (lv_at hl 0 rfl) ?_
    refine g_gR X S foX13_151 dX13_round_23 hf (fun v4 hf => ?_)
    refine lv_iconst (v := (-1)) X.1 X.2.1 dX13_round_26 (by decide) ?_
    obtain ⟨v5, hc, hf⟩ := ob_some hf
    refine g_ci S (runV (As := [rv v4, .int (-1)]) (rest := []) X S coX13_674 (by decide) (cX13_isAlike_m l hc) (tkX13_isAlike hc) rfl hl.1 (by decide) rfl ⟨Nat.zero_le _, Nat.zero_le _⟩ dX13_round_27) (fun H locs S => ?_)
    refine lv_if_eq (tgt := 39) X.1 X.2.1 dX13_round_30 (by decide) (fun c6 => ?_) (fun c6 => ?_)
    · replace hf := (if_pos c6).symm.trans hf
      obtain ⟨z7, ez7, hf⟩ := lt_some hf
      refine lv_iinc (v := z7) (lv' := [(1, .int z7), (0, rv x0)]) X.1 X.2.1 dX13_round_39 hl (k := 1) rfl (by rw [← ez7]; rfl) (by decide) (by simp [List.filter, cat_rv, cat_wv, cat_sv]) (fun ls hl => ?_)
      refine lv_goto (tgt := 11) X.1 X.2.1 dX13_round_42 (by decide) ?_
      exact hk11 _ _ _ _ _ _ (lv_sub hl [1, 0] rfl) S hf
    · replace hf := (if_neg c6).symm.trans hf
      refine g_aload_n X (or_rv _) dX13_round_33 rfl (lv_at hl 0 rfl) ?_
      refine lv_iload_n X.1 X.2.1 dX13_round_34 rfl (lv_at hl 1 rfl) ?_
      obtain ⟨v8, h, hc, hf⟩ := ob2_some hf
      refine g_ci S (runV (As := [.int x1]) (rest := []) X S coX13_667 (by decide) (cX13_back_m l hc) (tkX13_back hc) rfl hl.1 (by decide) rfl ⟨Nat.zero_le _, Nat.zero_le _⟩ dX13_round_35) (fun H locs S => ?_)
      cases hf; exact g_ri X S hr hlk dX13_round_38
theorem wfX13_round_11_l {r9 : Int32} {h9 : Hp} (X : Cx p E A 16 R s m args c cX13_round yX13_round.cls 2) (hr : meth.sig.returnType = (some .int)) (hlk : meth.locks = false) (hnm : meth.name = yX13_round.name) :
    ∀ (n : Nat) (x0 : Nat) (x1 : Int32) (h : Hp) (H : Heap) (locs : List Loc) (ls : Array Slot), lv_has ls 2 [(0, rv x0), (1, .int x1)] → St E A s h H locs → lp (fun _ _ _ => none) (fX13_round_11) n x0 x1 h = some (r9, h9) → W p l e R s m args below meth c H locs 0 0 (MQ below (Qi E A h9 r9) args s 0 0 A) (F0 m 11 ls []) := by
  intro n
  induction n with
  | zero =>
    intro x0 x1 h H locs ls hl S hf
    exact nomatch hf
  | succ n ih =>
    intro x0 x1 h H locs ls hl S hf
    exact wfX13_round_11 X hr hlk hnm ih x0 x1 h H locs ls hl S hf
def fX13_round (a0 : Nat) (h : Hp) : Option (Int32 × Hp) := gd 11 a0 h (ob (pI 11 a0 2 0 h) fun h => ob (fX13_rememberNow a0 h) fun h => lp (fun _ _ _ => none) (fX13_round_11) FU a0 1 h)
theorem tkX13_round {a0 : Nat} {h : Hp} {r9 : Int32 × Hp} (e : fX13_round a0 h = some r9) : hK h a0 = 11 := by
  unfold fX13_round at e
  exact (gd_some e).1
theorem cX13_round_m (l : Launch) {E : EE} {A : Nat → Prop} {a0 : Nat} {h : Hp} {r9 : Int32} {h9 : Hp} (hf : fX13_round a0 h = some (r9, h9)) : Met l yX13_round (wsM yX13_round cX13_round 2 (some .int)) (rmm 16 0 0) (PcE E A h [rv a0]) (Qi E A h9 r9) 0 0 A := by
  refine met_of (by decide +kernel) (by simp [lg_sl, cat_rv, cat_wv, cat_sv, cat_i, cat_l, cat_a]) (fun p e s m args below meth c ls X hr hlk hnm S hl => ?_)
  have hl : lv_has ls 2 [(0, rv a0)] := by simpa [lv_args, cat_rv, cat_wv, cat_sv, cat_i, cat_l, cat_a] using hl
  generalize hH : s.heap = H at S ⊢
  generalize hlo : ([] : List Loc) = locs at S ⊢
  clear hH hlo
  unfold fX13_round at hf
  obtain ⟨hth, hf⟩ := gd_some hf
  refine g_aload_n X (or_rv _) dX13_round_0 rfl (lv_at hl 0 rfl) ?_
  refine lv_iconst (v := 0) X.1 X.2.1 dX13_round_1 (by decide) ?_
  refine g_pI X S fpX13_187 (Or.inl rfl) dX13_round_2 hf (fun h H locs hm hf S => ?_)
  refine g_aload_n X (or_rv _) dX13_round_5 rfl (lv_at hl 0 rfl) ?_
  obtain ⟨h, hc, hf⟩ := ob_some hf
  refine g_cv S (runV (As := []) (rest := []) X S coX13_664 (by decide) (cX13_rememberNow_m l hc) (tkX13_rememberNow hc) rfl hl.1 (by decide) rfl ⟨Nat.zero_le _, Nat.zero_le _⟩ dX13_round_6) (fun H locs S => ?_)
  refine lv_iconst (v := 1) X.1 X.2.1 dX13_round_9 (by decide) ?_
  refine lv_istore_n (i := 1) (lv' := [(1, .int 1), (0, rv a0)]) X.1 X.2.1 dX13_round_10 rfl hl (by decide) (by simp [List.filter, cat_rv, cat_wv, cat_sv]) (fun ls hl => ?_)
  exact wfX13_round_11_l X hr hlk hnm FU _ _ _ _ _ _ (lv_sub hl [1, 0] rfl) S hf
def fX13_goToFault_38 (x0 : Nat) (x2 : Int32) (h : Hp) : Option (Int32 × Hp) := ob (gR 11 x0 3 h) fun v1 => ob (aI v1 278 h) fun v2 => if v2 ≤ x2 then some (0, h) else some (1, h)
theorem wfX13_goToFault_38 {r9 : Int32} {h9 : Hp} (X : Cx p E A 16 R s m args c cX13_goToFault yX13_goToFault.cls 4) (hr : meth.sig.returnType = (some .boolean)) (hlk : meth.locks = false) (hnm : meth.name = yX13_goToFault.name) :
    ∀ (x0 : Nat) (x2 : Int32) (h : Hp) (H : Heap) (locs : List Loc) (ls : Array Slot), lv_has ls 4 [(0, rv x0), (2, .int x2)] → St E A s h H locs → fX13_goToFault_38 x0 x2 h = some (r9, h9) → W p l e R s m args below meth c H locs 0 0 (MQ below (Qi E A h9 r9) args s 0 0 A) (F0 m 38 ls []) := by
  intro x0 x2 h H locs ls hl S hf
  unfold fX13_goToFault_38 at hf
  refine g_aload_n X (or_rv _) dX13_goToFault_38 rfl (lv_at hl 0 rfl) ?_
  refine g_gR X S foX13_76 dX13_goToFault_39 hf (fun v1 hf => ?_)
  refine lv_sipush (v := 278) X.1 X.2.1 dX13_goToFault_42 (by decide) ?_
  refine g_aI X S dX13_goToFault_45 hf (fun v2 hf => ?_)
  refine lv_iload_n X.1 X.2.1 dX13_goToFault_46 rfl (lv_at hl 1 rfl) ?_
  refine lv_icmp_le (tgt := 54) X.1 X.2.1 dX13_goToFault_47 (by decide) (fun c3 => ?_) (fun c3 => ?_)
  · replace hf := (if_pos c3).symm.trans hf
    refine lv_iconst (v := 0) X.1 X.2.1 dX13_goToFault_54 (by decide) ?_
    cases hf; exact g_rz X S hr hlk (by decide) dX13_goToFault_55
  · replace hf := (if_neg c3).symm.trans hf
    refine lv_iconst (v := 1) X.1 X.2.1 dX13_goToFault_50 (by decide) ?_
    refine lv_goto (tgt := 55) X.1 X.2.1 dX13_goToFault_51 (by decide) ?_
    cases hf; exact g_rz X S hr hlk (by decide) dX13_goToFault_55
def fX13_goToFault_11 (k11 : Nat → Int32 → Int32 → Int32 → Hp → Option (Int32 × Hp)) (x0 : Nat) (x1 : Int32) (x2 : Int32) (x3 : Int32) (h : Hp) : Option (Int32 × Hp) := if x1 ≤ x3 then fX13_goToFault_38 x0 x2 h else ob (gR 11 x0 3 h) fun v2 => ob (aI v2 278 h) fun v3 => if v3 = x2 then ob (fX13_aStep x0 h) fun h => lt (x3 + 1) fun z6 => k11 x0 x1 x2 z6 h else fX13_goToFault_38 x0 x2 h
theorem wfX13_goToFault_11 {k11 : Nat → Int32 → Int32 → Int32 → Hp → Option (Int32 × Hp)} {r9 : Int32} {h9 : Hp} (X : Cx p E A 16 R s m args c cX13_goToFault yX13_goToFault.cls 4) (hr : meth.sig.returnType = (some .boolean)) (hlk : meth.locks = false) (hnm : meth.name = yX13_goToFault.name) (hk11 : ∀ (x0 : Nat) (x1 : Int32) (x2 : Int32) (x3 : Int32) (h : Hp) (H : Heap) (locs : List Loc) (ls : Array Slot), lv_has ls 4 [(0, rv x0), (1, .int x1), (2, .int x2), (3, .int x3)] → St E A s h H locs → k11 x0 x1 x2 x3 h = some (r9, h9) → W p l e R s m args below meth c H locs 0 0 (MQ below (Qi E A h9 r9) args s 0 0 A) (F0 m 11 ls [])) :
    ∀ (x0 : Nat) (x1 : Int32) (x2 : Int32) (x3 : Int32) (h : Hp) (H : Heap) (locs : List Loc) (ls : Array Slot), lv_has ls 4 [(0, rv x0), (1, .int x1), (2, .int x2), (3, .int x3)] → St E A s h H locs → fX13_goToFault_11 k11 x0 x1 x2 x3 h = some (r9, h9) → W p l e R s m args below meth c H locs 0 0 (MQ below (Qi E A h9 r9) args s 0 0 A) (F0 m 11 ls []) := by
  intro x0 x1 x2 x3 h H locs ls hl S hf
  unfold fX13_goToFault_11 at hf
  refine lv_iload_n X.1 X.2.1 dX13_goToFault_11 rfl (lv_at hl 3 rfl) ?_
  refine lv_iload_n X.1 X.2.1 dX13_goToFault_12 rfl (lv_at hl 1 rfl) ?_
  refine lv_icmp_ge (tgt := 38) X.1 X.2.1 dX13_goToFault_13 (by decide) (fun c1 => ?_) (fun c1 => ?_)
  · replace hf := (if_pos c1).symm.trans hf
    exact wfX13_goToFault_38 X hr hlk hnm _ _ _ _ _ _ (lv_sub hl [0, 2] rfl) S hf
  · replace hf := (if_neg c1).symm.trans hf
    refine g_aload_n X (or_rv _) dX13_goToFault_16 rfl (lv_at hl 0 rfl) ?_
    refine g_gR X S foX13_76 dX13_goToFault_17 hf (fun v2 hf => ?_)
    refine lv_sipush (v := 278) X.1 X.2.1 dX13_goToFault_20 (by decide) ?_
    refine g_aI X S dX13_goToFault_23 hf (fun v3 hf => ?_)
    refine lv_iload_n X.1 X.2.1 dX13_goToFault_24 rfl (lv_at hl 2 rfl) ?_
    refine lv_icmp_ne (tgt := 38) X.1 X.2.1 dX13_goToFault_25 (by decide) (fun c4 => ?_) (fun c4 => ?_)
    · replace hf := (if_neg c4).symm.trans hf
      exact wfX13_goToFault_38 X hr hlk hnm _ _ _ _ _ _ (lv_sub hl [0, 2] rfl) S hf
    · replace hf := (if_pos c4).symm.trans hf
      refine g_aload_n X (or_rv _) dX13_goToFault_28 rfl (lv_at hl 0 rfl) ?_
      obtain ⟨h, hc, hf⟩ := ob_some hf
      refine g_cv S (runV (As := []) (rest := []) X S coX13_587 (by decide) (cX13_aStep_m l hc) (tkX13_aStep hc) rfl hl.1 (by decide) rfl ⟨Nat.zero_le _, Nat.zero_le _⟩ dX13_goToFault_29) (fun H locs S => ?_)
      obtain ⟨z6, ez6, hf⟩ := lt_some hf
      refine lv_iinc (v := z6) (lv' := [(3, .int z6), (0, rv x0), (1, .int x1), (2, .int x2)]) X.1 X.2.1 dX13_goToFault_32 hl (k := 3) rfl (by rw [← ez6]; rfl) (by decide) rfl (fun ls hl => ?_)
      refine lv_goto (tgt := 11) X.1 X.2.1 dX13_goToFault_35 (by decide) ?_
      exact hk11 _ _ _ _ _ _ _ _ (lv_sub hl [1, 2, 3, 0] rfl) S hf
theorem wfX13_goToFault_11_l {r9 : Int32} {h9 : Hp} (X : Cx p E A 16 R s m args c cX13_goToFault yX13_goToFault.cls 4) (hr : meth.sig.returnType = (some .boolean)) (hlk : meth.locks = false) (hnm : meth.name = yX13_goToFault.name) :
    ∀ (n : Nat) (x0 : Nat) (x1 : Int32) (x2 : Int32) (x3 : Int32) (h : Hp) (H : Heap) (locs : List Loc) (ls : Array Slot), lv_has ls 4 [(0, rv x0), (1, .int x1), (2, .int x2), (3, .int x3)] → St E A s h H locs → lp (fun _ _ _ _ _ => none) (fX13_goToFault_11) n x0 x1 x2 x3 h = some (r9, h9) → W p l e R s m args below meth c H locs 0 0 (MQ below (Qi E A h9 r9) args s 0 0 A) (F0 m 11 ls []) := by
  intro n
  induction n with
  | zero =>
    intro x0 x1 x2 x3 h H locs ls hl S hf
    exact nomatch hf
  | succ n ih =>
    intro x0 x1 x2 x3 h H locs ls hl S hf
    exact wfX13_goToFault_11 X hr hlk hnm ih x0 x1 x2 x3 h H locs ls hl S hf
def fX13_goToFault (a0 : Nat) (a1 : Int32) (h : Hp) : Option (Int32 × Hp) := gd 11 a0 h (ob (gR 11 a0 3 h) fun v1 => ob (aI v1 278 h) fun v2 => lp (fun _ _ _ _ _ => none) (fX13_goToFault_11) FU a0 a1 v2 0 h)
theorem tkX13_goToFault {a0 : Nat} {a1 : Int32} {h : Hp} {r9 : Int32 × Hp} (e : fX13_goToFault a0 a1 h = some r9) : hK h a0 = 11 := by
  unfold fX13_goToFault at e
  exact (gd_some e).1
theorem cX13_goToFault_m (l : Launch) {E : EE} {A : Nat → Prop} {a0 : Nat} {a1 : Int32} {h : Hp} {r9 : Int32} {h9 : Hp} (hf : fX13_goToFault a0 a1 h = some (r9, h9)) : Met l yX13_goToFault (wsM yX13_goToFault cX13_goToFault 4 (some .boolean)) (rmm 16 0 0) (PcE E A h [rv a0, .int a1]) (Qi E A h9 r9) 0 0 A := by
  refine met_of (by decide +kernel) (by simp [lg_sl, cat_rv, cat_wv, cat_sv, cat_i, cat_l, cat_a]) (fun p e s m args below meth c ls X hr hlk hnm S hl => ?_)
  have hl : lv_has ls 4 [(0, rv a0), (1, .int a1)] := by simpa [lv_args, cat_rv, cat_wv, cat_sv, cat_i, cat_l, cat_a] using hl
  generalize hH : s.heap = H at S ⊢
  generalize hlo : ([] : List Loc) = locs at S ⊢
  clear hH hlo
  unfold fX13_goToFault at hf
  obtain ⟨hth, hf⟩ := gd_some hf
  refine g_aload_n X (or_rv _) dX13_goToFault_0 rfl (lv_at hl 0 rfl) ?_
  refine g_gR X S foX13_76 dX13_goToFault_1 hf (fun v1 hf => ?_)
  refine lv_sipush (v := 278) X.1 X.2.1 dX13_goToFault_4 (by decide) ?_
  refine g_aI X S dX13_goToFault_7 hf (fun v2 hf => ?_)
  refine lv_istore_n (i := 2) (lv' := [(2, .int v2), (0, rv a0), (1, .int a1)]) X.1 X.2.1 dX13_goToFault_8 rfl hl (by decide) rfl (fun ls hl => ?_)
  refine lv_iconst (v := 0) X.1 X.2.1 dX13_goToFault_9 (by decide) ?_
  refine lv_istore_n (i := 3) (lv' := [(3, .int 0), (2, .int v2), (0, rv a0), (1, .int a1)]) X.1 X.2.1 dX13_goToFault_10 rfl hl (by decide) rfl (fun ls hl => ?_)
  exact wfX13_goToFault_11_l X hr hlk hnm FU _ _ _ _ _ _ _ _ (lv_sub hl [2, 3, 1, 0] rfl) S hf
def fX13_isNamed_24 (h : Hp) (x0 : Nat) (x1 : Int32) : Option (Int32) := ob (gR 11 x0 3 h) fun v1 => ob (aI v1 286 h) fun v2 => if v2 = (x1 / 2) then ob (gR 11 x0 3 h) fun v4 => ob (aI v4 287 h) fun v5 => if v5 = (irm x1 2) then some 1 else some 0 else some 0
theorem wfX13_isNamed_24 {h : Hp} {r9 : Int32} (X : Cx p E A 8 R s m args c cX13_isNamed yX13_isNamed.cls 2) (hr : meth.sig.returnType = (some .boolean)) (hlk : meth.locks = false) (hnm : meth.name = yX13_isNamed.name) :
    ∀ (x0 : Nat) (x1 : Int32) (H : Heap) (locs : List Loc) (ls : Array Slot), lv_has ls 2 [(0, rv x0), (1, .int x1)] → St E A s h H locs → fX13_isNamed_24 h x0 x1 = some r9 → W p l e R s m args below meth c H locs 0 0 (MQ below (Qi E A h r9) args s 0 0 A) (F0 m 24 ls []) := by
  intro x0 x1 H locs ls hl S hf
  unfold fX13_isNamed_24 at hf
  refine g_aload_n X (or_rv _) dX13_isNamed_24 rfl (lv_at hl 0 rfl) ?_
  refine g_gR X S foX13_76 dX13_isNamed_25 hf (fun v1 hf => ?_)
  refine lv_sipush (v := 286) X.1 X.2.1 dX13_isNamed_28 (by decide) ?_
  refine g_aI X S dX13_isNamed_31 hf (fun v2 hf => ?_)
  refine lv_iload_n X.1 X.2.1 dX13_isNamed_32 rfl (lv_at hl 1 rfl) ?_
  refine lv_iconst (v := 2) X.1 X.2.1 dX13_isNamed_33 (by decide) ?_
  refine g_idiv X (by decide) dX13_isNamed_34 ?_
  refine lv_icmp_ne (tgt := 56) X.1 X.2.1 dX13_isNamed_35 (by decide) (fun c3 => ?_) (fun c3 => ?_)
  · replace hf := (if_neg c3).symm.trans hf
    refine lv_iconst (v := 0) X.1 X.2.1 dX13_isNamed_56 (by decide) ?_
    cases hf; exact g_rz X S hr hlk (by decide) dX13_isNamed_57
  · replace hf := (if_pos c3).symm.trans hf
    refine g_aload_n X (or_rv _) dX13_isNamed_38 rfl (lv_at hl 0 rfl) ?_
    refine g_gR X S foX13_76 dX13_isNamed_39 hf (fun v4 hf => ?_)
    refine lv_sipush (v := 287) X.1 X.2.1 dX13_isNamed_42 (by decide) ?_
    refine g_aI X S dX13_isNamed_45 hf (fun v5 hf => ?_)
    refine lv_iload_n X.1 X.2.1 dX13_isNamed_46 rfl (lv_at hl 1 rfl) ?_
    refine lv_iconst (v := 2) X.1 X.2.1 dX13_isNamed_47 (by decide) ?_
    refine g_irem X (by decide) dX13_isNamed_48 ?_
    refine lv_icmp_ne (tgt := 56) X.1 X.2.1 dX13_isNamed_49 (by decide) (fun c6 => ?_) (fun c6 => ?_)
    · replace hf := (if_neg c6).symm.trans hf
      refine lv_iconst (v := 0) X.1 X.2.1 dX13_isNamed_56 (by decide) ?_
      cases hf; exact g_rz X S hr hlk (by decide) dX13_isNamed_57
    · replace hf := (if_pos c6).symm.trans hf
      refine lv_iconst (v := 1) X.1 X.2.1 dX13_isNamed_52 (by decide) ?_
      refine lv_goto (tgt := 57) X.1 X.2.1 dX13_isNamed_53 (by decide) ?_
      cases hf; exact g_rz X S hr hlk (by decide) dX13_isNamed_57
def fX13_isNamed (a0 : Nat) (a1 : Int32) (h : Hp) : Option (Int32) := gd 11 a0 h (ob (gR 11 a0 3 h) fun v1 => ob (aI v1 280 h) fun v2 => if v2 = 4 then fX13_isNamed_24 h a0 a1 else ob (gR 11 a0 3 h) fun v4 => ob (aI v4 280 h) fun v5 => if v5 = 5 then fX13_isNamed_24 h a0 a1 else some 0)
theorem tkX13_isNamed {a0 : Nat} {a1 : Int32} {h : Hp} {r9 : Int32} (e : fX13_isNamed a0 a1 h = some r9) : hK h a0 = 11 := by
  unfold fX13_isNamed at e
  exact (gd_some e).1
theorem cX13_isNamed_m (l : Launch) {E : EE} {A : Nat → Prop} {a0 : Nat} {a1 : Int32} {h : Hp} {r9 : Int32} (hf : fX13_isNamed a0 a1 h = some r9) : Met l yX13_isNamed (wsM yX13_isNamed cX13_isNamed 2 (some .boolean)) (rmm 8 0 0) (PcE E A h [rv a0, .int a1]) (Qi E A h r9) 0 0 A := by
  refine met_of (by decide +kernel) (by simp [lg_sl, cat_rv, cat_wv, cat_sv, cat_i, cat_l, cat_a]) (fun p e s m args below meth c ls X hr hlk hnm S hl => ?_)
  have hl : lv_has ls 2 [(0, rv a0), (1, .int a1)] := by simpa [lv_args, cat_rv, cat_wv, cat_sv, cat_i, cat_l, cat_a] using hl
  generalize hH : s.heap = H at S ⊢
  generalize hlo : ([] : List Loc) = locs at S ⊢
  clear hH hlo
  unfold fX13_isNamed at hf
  obtain ⟨hth, hf⟩ := gd_some hf
  refine g_aload_n X (or_rv _) dX13_isNamed_0 rfl (lv_at hl 0 rfl) ?_
  refine g_gR X S foX13_76 dX13_isNamed_1 hf (fun v1 hf => ?_)
  refine lv_sipush (v := 280) X.1 X.2.1 dX13_isNamed_4 (by decide) ?_
  refine g_aI X S dX13_isNamed_7 hf (fun v2 hf => ?_)
  refine lv_iconst (v := 4) X.1 X.2.1 dX13_isNamed_8 (by decide) ?_
  refine lv_icmp_eq (tgt := 24) X.1 X.2.1 dX13_isNamed_9 (by decide) (fun c3 => ?_) (fun c3 => ?_)
  · replace hf := (if_pos c3).symm.trans hf
    exact wfX13_isNamed_24 X hr hlk hnm _ _ _ _ _ hl S hf
  · replace hf := (if_neg c3).symm.trans hf
    refine g_aload_n X (or_rv _) dX13_isNamed_12 rfl (lv_at hl 0 rfl) ?_
    refine g_gR X S foX13_76 dX13_isNamed_13 hf (fun v4 hf => ?_)
    refine lv_sipush (v := 280) X.1 X.2.1 dX13_isNamed_16 (by decide) ?_
    refine g_aI X S dX13_isNamed_19 hf (fun v5 hf => ?_)
    refine lv_iconst (v := 5) X.1 X.2.1 dX13_isNamed_20 (by decide) ?_
    refine lv_icmp_ne (tgt := 56) X.1 X.2.1 dX13_isNamed_21 (by decide) (fun c6 => ?_) (fun c6 => ?_)
    · replace hf := (if_neg c6).symm.trans hf
      refine lv_iconst (v := 0) X.1 X.2.1 dX13_isNamed_56 (by decide) ?_
      cases hf; exact g_rz X S hr hlk (by decide) dX13_isNamed_57
    · replace hf := (if_pos c6).symm.trans hf
      exact wfX13_isNamed_24 X hr hlk hnm _ _ _ _ _ hl S hf
def fX13_isHarmless_2 (h : Hp) (k2 : Nat → Int32 → Int32 → Option (Int32)) (x0 : Nat) (x1 : Int32) (x2 : Int32) : Option (Int32) := if 265 < x2 then some 1 else if x2 = x1 then lt (x2 + 1) fun z3 => k2 x0 x1 z3 else ob (gR 11 x0 3 h) fun v4 => ob (aI v4 x2 h) fun v5 => ob (gR 11 x0 62 h) fun v6 => ob (aI v6 x2 h) fun v7 => if v5 = v7 then lt (x2 + 1) fun z9 => k2 x0 x1 z9 else some 0
theorem wfX13_isHarmless_2 {h : Hp} {k2 : Nat → Int32 → Int32 → Option (Int32)} {r9 : Int32} (X : Cx p E A 8 R s m args c cX13_isHarmless yX13_isHarmless.cls 3) (hr : meth.sig.returnType = (some .boolean)) (hlk : meth.locks = false) (hnm : meth.name = yX13_isHarmless.name) (hk2 : ∀ (x0 : Nat) (x1 : Int32) (x2 : Int32) (H : Heap) (locs : List Loc) (ls : Array Slot), lv_has ls 3 [(0, rv x0), (1, .int x1), (2, .int x2)] → St E A s h H locs → k2 x0 x1 x2 = some r9 → W p l e R s m args below meth c H locs 0 0 (MQ below (Qi E A h r9) args s 0 0 A) (F0 m 2 ls [])) :
    ∀ (x0 : Nat) (x1 : Int32) (x2 : Int32) (H : Heap) (locs : List Loc) (ls : Array Slot), lv_has ls 3 [(0, rv x0), (1, .int x1), (2, .int x2)] → St E A s h H locs → fX13_isHarmless_2 h k2 x0 x1 x2 = some r9 → W p l e R s m args below meth c H locs 0 0 (MQ below (Qi E A h r9) args s 0 0 A) (F0 m 2 ls []) := by
  intro x0 x1 x2 H locs ls hl S hf
  unfold fX13_isHarmless_2 at hf
  refine lv_iload_n X.1 X.2.1 dX13_isHarmless_2 rfl (lv_at hl 2 rfl) ?_
  refine lv_sipush (v := 265) X.1 X.2.1 dX13_isHarmless_3 (by decide) ?_
  refine lv_icmp_gt (tgt := 37) X.1 X.2.1 dX13_isHarmless_6 (by decide) (fun c1 => ?_) (fun c1 => ?_)
  · replace hf := (if_pos c1).symm.trans hf
    refine lv_iconst (v := 1) X.1 X.2.1 dX13_isHarmless_37 (by decide) ?_
    cases hf; exact g_rz X S hr hlk (by decide) dX13_isHarmless_38
  · replace hf := (if_neg c1).symm.trans hf
    refine lv_iload_n X.1 X.2.1 dX13_isHarmless_9 rfl (lv_at hl 2 rfl) ?_
    refine lv_iload_n X.1 X.2.1 dX13_isHarmless_10 rfl (lv_at hl 1 rfl) ?_
    refine lv_icmp_eq (tgt := 31) X.1 X.2.1 dX13_isHarmless_11 (by decide) (fun c2 => ?_) (fun c2 => ?_)
    · replace hf := (if_pos c2).symm.trans hf
      obtain ⟨z3, ez3, hf⟩ := lt_some hf
      refine lv_iinc (v := z3) (lv' := [(2, .int z3), (0, rv x0), (1, .int x1)]) X.1 X.2.1 dX13_isHarmless_31 hl (k := 2) rfl (by rw [← ez3]; rfl) (by decide) rfl (fun ls hl => ?_)
      refine lv_goto (tgt := 2) X.1 X.2.1 dX13_isHarmless_34 (by decide) ?_
      exact hk2 _ _ _ _ _ _ (lv_sub hl [1, 2, 0] rfl) S hf
    · replace hf := (if_neg c2).symm.trans hf
      refine g_aload_n X (or_rv _) dX13_isHarmless_14 rfl (lv_at hl 0 rfl) ?_
      refine g_gR X S foX13_76 dX13_isHarmless_15 hf (fun v4 hf => ?_)
      refine lv_iload_n X.1 X.2.1 dX13_isHarmless_18 rfl (lv_at hl 2 rfl) ?_
      refine g_aI X S dX13_isHarmless_19 hf (fun v5 hf => ?_)
      refine g_aload_n X (or_rv _) dX13_isHarmless_20 rfl (lv_at hl 0 rfl) ?_
      refine g_gR X S foX13_154 dX13_isHarmless_21 hf (fun v6 hf => ?_)
      refine lv_iload_n X.1 X.2.1 dX13_isHarmless_24 rfl (lv_at hl 2 rfl) ?_
      refine g_aI X S dX13_isHarmless_25 hf (fun v7 hf => ?_)
      refine lv_icmp_eq (tgt := 31) X.1 X.2.1 dX13_isHarmless_26 (by decide) (fun c8 => ?_) (fun c8 => ?_)
      · replace hf := (if_pos c8).symm.trans hf
        obtain ⟨z9, ez9, hf⟩ := lt_some hf
        refine lv_iinc (v := z9) (lv' := [(2, .int z9), (0, rv x0), (1, .int x1)]) X.1 X.2.1 dX13_isHarmless_31 hl (k := 2) rfl (by rw [← ez9]; rfl) (by decide) rfl (fun ls hl => ?_)
        refine lv_goto (tgt := 2) X.1 X.2.1 dX13_isHarmless_34 (by decide) ?_
        exact hk2 _ _ _ _ _ _ (lv_sub hl [1, 2, 0] rfl) S hf
      · replace hf := (if_neg c8).symm.trans hf
        refine lv_iconst (v := 0) X.1 X.2.1 dX13_isHarmless_29 (by decide) ?_
        cases hf; exact g_rz X S hr hlk (by decide) dX13_isHarmless_30
theorem wfX13_isHarmless_2_l {h : Hp} {r9 : Int32} (X : Cx p E A 8 R s m args c cX13_isHarmless yX13_isHarmless.cls 3) (hr : meth.sig.returnType = (some .boolean)) (hlk : meth.locks = false) (hnm : meth.name = yX13_isHarmless.name) :
    ∀ (n : Nat) (x0 : Nat) (x1 : Int32) (x2 : Int32) (H : Heap) (locs : List Loc) (ls : Array Slot), lv_has ls 3 [(0, rv x0), (1, .int x1), (2, .int x2)] → St E A s h H locs → lp (fun _ _ _ => none) (fX13_isHarmless_2 h) n x0 x1 x2 = some r9 → W p l e R s m args below meth c H locs 0 0 (MQ below (Qi E A h r9) args s 0 0 A) (F0 m 2 ls []) := by
  intro n
  induction n with
  | zero =>
    intro x0 x1 x2 H locs ls hl S hf
    exact nomatch hf
  | succ n ih =>
    intro x0 x1 x2 H locs ls hl S hf
    exact wfX13_isHarmless_2 X hr hlk hnm ih x0 x1 x2 H locs ls hl S hf
def fX13_isHarmless (a0 : Nat) (a1 : Int32) (h : Hp) : Option (Int32) := gd 11 a0 h (lp (fun _ _ _ => none) (fX13_isHarmless_2 h) FU a0 a1 0)
theorem tkX13_isHarmless {a0 : Nat} {a1 : Int32} {h : Hp} {r9 : Int32} (e : fX13_isHarmless a0 a1 h = some r9) : hK h a0 = 11 := by
  unfold fX13_isHarmless at e
  exact (gd_some e).1
theorem cX13_isHarmless_m (l : Launch) {E : EE} {A : Nat → Prop} {a0 : Nat} {a1 : Int32} {h : Hp} {r9 : Int32} (hf : fX13_isHarmless a0 a1 h = some r9) : Met l yX13_isHarmless (wsM yX13_isHarmless cX13_isHarmless 3 (some .boolean)) (rmm 8 0 0) (PcE E A h [rv a0, .int a1]) (Qi E A h r9) 0 0 A := by
  refine met_of (by decide +kernel) (by simp [lg_sl, cat_rv, cat_wv, cat_sv, cat_i, cat_l, cat_a]) (fun p e s m args below meth c ls X hr hlk hnm S hl => ?_)
  have hl : lv_has ls 3 [(0, rv a0), (1, .int a1)] := by simpa [lv_args, cat_rv, cat_wv, cat_sv, cat_i, cat_l, cat_a] using hl
  generalize hH : s.heap = H at S ⊢
  generalize hlo : ([] : List Loc) = locs at S ⊢
  clear hH hlo
  unfold fX13_isHarmless at hf
  obtain ⟨hth, hf⟩ := gd_some hf
  refine lv_iconst (v := 0) X.1 X.2.1 dX13_isHarmless_0 (by decide) ?_
  refine lv_istore_n (i := 2) (lv' := [(2, .int 0), (0, rv a0), (1, .int a1)]) X.1 X.2.1 dX13_isHarmless_1 rfl hl (by decide) rfl (fun ls hl => ?_)
  exact wfX13_isHarmless_2_l X hr hlk hnm FU _ _ _ _ _ _ (lv_sub hl [1, 2, 0] rfl) S hf
def fX13_spoil_54 (k55 : Nat → Int32 → Hp → Option (Int32 × Hp)) (x0 : Nat) (h : Hp) : Option (Int32 × Hp) := k55 x0 2 h
theorem wfX13_spoil_54 {k55 : Nat → Int32 → Hp → Option (Int32 × Hp)} {r9 : Int32} {h9 : Hp} (X : Cx p E A 17 R s m args c cX13_spoil yX13_spoil.cls 7) (hr : meth.sig.returnType = (some .int)) (hlk : meth.locks = false) (hnm : meth.name = yX13_spoil.name) (hk55 : ∀ (x0 : Nat) (y0 : Int32) (h : Hp) (H : Heap) (locs : List Loc) (ls : Array Slot), lv_has ls 7 [(0, rv x0)] → St E A s h H locs → k55 x0 y0 h = some (r9, h9) → W p l e R s m args below meth c H locs 0 0 (MQ below (Qi E A h9 r9) args s 0 0 A) (F0 m 55 ls [.int y0])) :
    ∀ (x0 : Nat) (h : Hp) (H : Heap) (locs : List Loc) (ls : Array Slot), lv_has ls 7 [(0, rv x0)] → St E A s h H locs → fX13_spoil_54 k55 x0 h = some (r9, h9) → W p l e R s m args below meth c H locs 0 0 (MQ below (Qi E A h9 r9) args s 0 0 A) (F0 m 54 ls []) := by
  intro x0 h H locs ls hl S hf
  unfold fX13_spoil_54 at hf
  refine lv_iconst (v := 2) X.1 X.2.1 dX13_spoil_54 (by decide) ?_
  exact hk55 _ _ _ _ _ _ hl S hf
def fX13_spoil_30 (k55 : Nat → Int32 → Hp → Option (Int32 × Hp)) (x0 : Nat) (x1 : Int32) (x4 : Int32) (x5 : Int32) (h : Hp) : Option (Int32 × Hp) := if x5 = 0 then if x4 = 0 then ob (fX13_isHarmless x0 (x1 / 2) h) fun v3 => if v3 = 0 then fX13_spoil_54 k55 x0 h else k55 x0 1 h else fX13_spoil_54 k55 x0 h else fX13_spoil_54 k55 x0 h
theorem wfX13_spoil_30 {k55 : Nat → Int32 → Hp → Option (Int32 × Hp)} {r9 : Int32} {h9 : Hp} (X : Cx p E A 17 R s m args c cX13_spoil yX13_spoil.cls 7) (hr : meth.sig.returnType = (some .int)) (hlk : meth.locks = false) (hnm : meth.name = yX13_spoil.name) (hk55 : ∀ (x0 : Nat) (y0 : Int32) (h : Hp) (H : Heap) (locs : List Loc) (ls : Array Slot), lv_has ls 7 [(0, rv x0)] → St E A s h H locs → k55 x0 y0 h = some (r9, h9) → W p l e R s m args below meth c H locs 0 0 (MQ below (Qi E A h9 r9) args s 0 0 A) (F0 m 55 ls [.int y0])) :
    ∀ (x0 : Nat) (x1 : Int32) (x4 : Int32) (x5 : Int32) (h : Hp) (H : Heap) (locs : List Loc) (ls : Array Slot), lv_has ls 7 [(0, rv x0), (1, .int x1), (4, .int x4), (5, .int x5)] → St E A s h H locs → fX13_spoil_30 k55 x0 x1 x4 x5 h = some (r9, h9) → W p l e R s m args below meth c H locs 0 0 (MQ below (Qi E A h9 r9) args s 0 0 A) (F0 m 30 ls []) := by
  intro x0 x1 x4 x5 h H locs ls hl S hf
  unfold fX13_spoil_30 at hf
  refine lv_iload X.1 X.2.1 dX13_spoil_30 (lv_at hl 3 rfl) ?_
  refine lv_if_ne (tgt := 54) X.1 X.2.1 dX13_spoil_32 (by decide) (fun c1 => ?_) (fun c1 => ?_)
  · replace hf := (if_neg c1).symm.trans hf
    exact wfX13_spoil_54 X hr hlk hnm hk55 _ _ _ _ _ (lv_sub hl [0] rfl) S hf
  · replace hf := (if_pos c1).symm.trans hf
    refine lv_iload X.1 X.2.1 dX13_spoil_35 (lv_at hl 2 rfl) ?_
    refine lv_if_ne (tgt := 54) X.1 X.2.1 dX13_spoil_37 (by decide) (fun c2 => ?_) (fun c2 => ?_)
    · replace hf := (if_neg c2).symm.trans hf
      exact wfX13_spoil_54 X hr hlk hnm hk55 _ _ _ _ _ (lv_sub hl [0] rfl) S hf
    · replace hf := (if_pos c2).symm.trans hf
      refine g_aload_n X (or_rv _) dX13_spoil_40 rfl (lv_at hl 0 rfl) ?_
      refine lv_iload_n X.1 X.2.1 dX13_spoil_41 rfl (lv_at hl 1 rfl) ?_
      refine lv_iconst (v := 2) X.1 X.2.1 dX13_spoil_42 (by decide) ?_
      refine g_idiv X (by decide) dX13_spoil_43 ?_
      obtain ⟨v3, hc, hf⟩ := ob_some hf
      refine g_ci S (runV (As := [.int (x1 / 2)]) (rest := []) X S coX13_684 (by decide) (cX13_isHarmless_m l hc) (tkX13_isHarmless hc) rfl hl.1 (by decide) rfl ⟨Nat.zero_le _, Nat.zero_le _⟩ dX13_spoil_44) (fun H locs S => ?_)
      refine lv_if_eq (tgt := 54) X.1 X.2.1 dX13_spoil_47 (by decide) (fun c4 => ?_) (fun c4 => ?_)
      · replace hf := (if_pos c4).symm.trans hf
        exact wfX13_spoil_54 X hr hlk hnm hk55 _ _ _ _ _ (lv_sub hl [0] rfl) S hf
      · replace hf := (if_neg c4).symm.trans hf
        refine lv_iconst (v := 1) X.1 X.2.1 dX13_spoil_50 (by decide) ?_
        refine lv_goto (tgt := 55) X.1 X.2.1 dX13_spoil_51 (by decide) ?_
        exact hk55 _ _ _ _ _ _ (lv_sub hl [0] rfl) S hf
def fX13_spoil_55 (x0 : Nat) (y0 : Int32) (h : Hp) : Option (Int32 × Hp) := ob2 (fX13_back x0 y0 h) fun v1 h => some (v1, h)
theorem wfX13_spoil_55 {r9 : Int32} {h9 : Hp} (X : Cx p E A 17 R s m args c cX13_spoil yX13_spoil.cls 7) (hr : meth.sig.returnType = (some .int)) (hlk : meth.locks = false) (hnm : meth.name = yX13_spoil.name) :
    ∀ (x0 : Nat) (y0 : Int32) (h : Hp) (H : Heap) (locs : List Loc) (ls : Array Slot), lv_has ls 7 [(0, rv x0)] → St E A s h H locs → fX13_spoil_55 x0 y0 h = some (r9, h9) → W p l e R s m args below meth c H locs 0 0 (MQ below (Qi E A h9 r9) args s 0 0 A) (F0 m 55 ls [.int y0]) := by
  intro x0 y0 h H locs ls hl S hf
  unfold fX13_spoil_55 at hf
  refine lv_istore (lv' := [(6, .int y0), (0, rv x0)]) X.1 X.2.1 dX13_spoil_55 hl (by decide) rfl (fun ls hl => ?_)
  refine g_aload_n X (or_rv _) dX13_spoil_57 rfl (lv_at hl 1 rfl) ?_
  refine lv_iload X.1 X.2.1 dX13_spoil_58 (lv_at hl 0 rfl) ?_
  obtain ⟨v1, h, hc, hf⟩ := ob2_some hf
  refine g_ci S (runV (As := [.int y0]) (rest := []) X S coX13_667 (by decide) (cX13_back_m l hc) (tkX13_back hc) rfl hl.1 (by decide) rfl ⟨Nat.zero_le _, Nat.zero_le _⟩ dX13_spoil_60) (fun H locs S => ?_)
  cases hf; exact g_ri X S hr hlk dX13_spoil_63
def fX13_spoil (a0 : Nat) (a1 : Int32) (a2 : Int32) (a3 : Int32) (a4 : Int32) (h : Hp) : Option (Int32 × Hp) := gd 11 a0 h (ob (fX13_layHalf a0 a1 a2 h) fun h => ob2 (fX13_goToFault a0 a3 h) fun v2 h => if v2 = 0 then fX13_spoil_30 fX13_spoil_55 a0 a1 a4 v2 h else ob (fX13_isNamed a0 a1 h) fun v4 => if v4 = 0 then fX13_spoil_30 fX13_spoil_55 a0 a1 a4 v2 h else fX13_spoil_55 a0 0 h)
theorem tkX13_spoil {a0 : Nat} {a1 : Int32} {a2 : Int32} {a3 : Int32} {a4 : Int32} {h : Hp} {r9 : Int32 × Hp} (e : fX13_spoil a0 a1 a2 a3 a4 h = some r9) : hK h a0 = 11 := by
  unfold fX13_spoil at e
  exact (gd_some e).1
theorem cX13_spoil_m (l : Launch) {E : EE} {A : Nat → Prop} {a0 : Nat} {a1 : Int32} {a2 : Int32} {a3 : Int32} {a4 : Int32} {h : Hp} {r9 : Int32} {h9 : Hp} (hf : fX13_spoil a0 a1 a2 a3 a4 h = some (r9, h9)) : Met l yX13_spoil (wsM yX13_spoil cX13_spoil 7 (some .int)) (rmm 17 0 0) (PcE E A h [rv a0, .int a1, .int a2, .int a3, .int a4]) (Qi E A h9 r9) 0 0 A := by
  refine met_of (by decide +kernel) (by simp [lg_sl, cat_rv, cat_wv, cat_sv, cat_i, cat_l, cat_a]) (fun p e s m args below meth c ls X hr hlk hnm S hl => ?_)
  have hl : lv_has ls 7 [(0, rv a0), (1, .int a1), (2, .int a2), (3, .int a3), (4, .int a4)] := by simpa [lv_args, cat_rv, cat_wv, cat_sv, cat_i, cat_l, cat_a] using hl
  generalize hH : s.heap = H at S ⊢
  generalize hlo : ([] : List Loc) = locs at S ⊢
  clear hH hlo
  unfold fX13_spoil at hf
  obtain ⟨hth, hf⟩ := gd_some hf
  refine g_aload_n X (or_rv _) dX13_spoil_0 rfl (lv_at hl 0 rfl) ?_
  refine lv_iload_n X.1 X.2.1 dX13_spoil_1 rfl (lv_at hl 1 rfl) ?_
  refine lv_iload_n X.1 X.2.1 dX13_spoil_2 rfl (lv_at hl 2 rfl) ?_
  obtain ⟨h, hc, hf⟩ := ob_some hf
  refine g_cv S (runV (As := [.int a1, .int a2]) (rest := []) X S coX13_381 (by decide) (cX13_layHalf_m l hc) (tkX13_layHalf hc) rfl hl.1 (by decide) rfl ⟨Nat.zero_le _, Nat.zero_le _⟩ dX13_spoil_3) (fun H locs S => ?_)
  refine g_aload_n X (or_rv _) dX13_spoil_6 rfl (lv_at hl 0 rfl) ?_
  refine lv_iload_n X.1 X.2.1 dX13_spoil_7 rfl (lv_at hl 3 rfl) ?_
  obtain ⟨v2, h, hc, hf⟩ := ob2_some hf
  refine g_ci S (runV (As := [.int a3]) (rest := []) X S coX13_678 (by decide) (cX13_goToFault_m l hc) (tkX13_goToFault hc) rfl hl.1 (by decide) rfl ⟨Nat.zero_le _, Nat.zero_le _⟩ dX13_spoil_8) (fun H locs S => ?_)
  refine lv_istore (lv' := [(5, .int v2), (0, rv a0), (1, .int a1), (2, .int a2), (3, .int a3), (4, .int a4)]) X.1 X.2.1 dX13_spoil_11 hl (by decide) rfl (fun ls hl => ?_)
  refine lv_iload X.1 X.2.1 dX13_spoil_13 (lv_at hl 0 rfl) ?_
  refine lv_if_eq (tgt := 30) X.1 X.2.1 dX13_spoil_15 (by decide) (fun c3 => ?_) (fun c3 => ?_)
  · replace hf := (if_pos c3).symm.trans hf
    exact wfX13_spoil_30 X hr hlk hnm (wfX13_spoil_55 X hr hlk hnm) _ _ _ _ _ _ _ _ (lv_sub hl [1, 2, 5, 0] rfl) S hf
  · replace hf := (if_neg c3).symm.trans hf
    refine g_aload_n X (or_rv _) dX13_spoil_18 rfl (lv_at hl 1 rfl) ?_
    refine lv_iload_n X.1 X.2.1 dX13_spoil_19 rfl (lv_at hl 2 rfl) ?_
    obtain ⟨v4, hc, hf⟩ := ob_some hf
    refine g_ci S (runV (As := [.int a1]) (rest := []) X S coX13_681 (by decide) (cX13_isNamed_m l hc) (tkX13_isNamed hc) rfl hl.1 (by decide) rfl ⟨Nat.zero_le _, Nat.zero_le _⟩ dX13_spoil_20) (fun H locs S => ?_)
    refine lv_if_eq (tgt := 30) X.1 X.2.1 dX13_spoil_23 (by decide) (fun c5 => ?_) (fun c5 => ?_)
    · replace hf := (if_pos c5).symm.trans hf
      exact wfX13_spoil_30 X hr hlk hnm (wfX13_spoil_55 X hr hlk hnm) _ _ _ _ _ _ _ _ (lv_sub hl [1, 2, 5, 0] rfl) S hf
    · replace hf := (if_neg c5).symm.trans hf
      refine lv_iconst (v := 0) X.1 X.2.1 dX13_spoil_26 (by decide) ?_
      refine lv_goto (tgt := 55) X.1 X.2.1 dX13_spoil_27 (by decide) ?_
      exact wfX13_spoil_55 X hr hlk hnm _ _ _ _ _ _ (lv_sub hl [1] rfl) S hf
def fX13_spoilt_46 (x0 : Nat) (h : Hp) : Option (Int32 × Hp) := ob2 (fX13_fail x0 2 h) fun v1 h => some (v1, h)
theorem wfX13_spoilt_46 {r9 : Int32} {h9 : Hp} (X : Cx p E A 18 R s m args c cX13_spoilt yX13_spoilt.cls 11) (hr : meth.sig.returnType = (some .int)) (hlk : meth.locks = false) (hnm : meth.name = yX13_spoilt.name) :
    ∀ (x0 : Nat) (h : Hp) (H : Heap) (locs : List Loc) (ls : Array Slot), lv_has ls 11 [(0, rv x0)] → St E A s h H locs → fX13_spoilt_46 x0 h = some (r9, h9) → W p l e R s m args below meth c H locs 0 0 (MQ below (Qi E A h9 r9) args s 0 0 A) (F0 m 46 ls []) := by
  intro x0 h H locs ls hl S hf
  unfold fX13_spoilt_46 at hf
  refine g_aload_n X (or_rv _) dX13_spoilt_46 rfl (lv_at hl 0 rfl) ?_
  refine lv_iconst (v := 2) X.1 X.2.1 dX13_spoilt_47 (by decide) ?_
  obtain ⟨v1, h, hc, hf⟩ := ob2_some hf
  refine g_ci S (runV (As := [.int 2]) (rest := []) X S coX13_329 (by decide) (cX13_fail_m l hc) (tkX13_fail hc) rfl hl.1 (by decide) rfl ⟨Nat.zero_le _, Nat.zero_le _⟩ dX13_spoilt_48) (fun H locs S => ?_)
  cases hf; exact g_ri X S hr hlk dX13_spoilt_51
def fX13_spoilt_152 (k104 : Nat → Int32 → Int32 → Int32 → Int32 → Int32 → Int32 → Int32 → Int32 → Int32 → Hp → Option (Int32 × Hp)) (x0 : Nat) (x1 : Int32) (x2 : Int32) (x3 : Int32) (x4 : Int32) (x6 : Int32) (x7 : Int32) (x8 : Int32) (x9 : Int32) (x10 : Int32) (y0 : Int32) (y1 : Int32) (h : Hp) : Option (Int32 × Hp) := lt (y1 + y0) fun z1 => if x10 = 2 then if x6 = (-1) then lt ((100 * x8) + x9) fun z6 => lt (x9 + 1) fun z7 => k104 x0 x1 x2 x3 x4 z1 z6 x7 x8 z7 h else lt (x9 + 1) fun z5 => k104 x0 x1 x2 x3 x4 z1 x6 x7 x8 z5 h else lt (x9 + 1) fun z3 => k104 x0 x1 x2 x3 x4 z1 x6 x7 x8 z3 h
theorem wfX13_spoilt_152 {k104 : Nat → Int32 → Int32 → Int32 → Int32 → Int32 → Int32 → Int32 → Int32 → Int32 → Hp → Option (Int32 × Hp)} {r9 : Int32} {h9 : Hp} (X : Cx p E A 18 R s m args c cX13_spoilt yX13_spoilt.cls 11) (hr : meth.sig.returnType = (some .int)) (hlk : meth.locks = false) (hnm : meth.name = yX13_spoilt.name) (hk104 : ∀ (x0 : Nat) (x1 : Int32) (x2 : Int32) (x3 : Int32) (x4 : Int32) (x5 : Int32) (x6 : Int32) (x7 : Int32) (x8 : Int32) (x9 : Int32) (h : Hp) (H : Heap) (locs : List Loc) (ls : Array Slot), lv_has ls 11 [(0, rv x0), (1, .int x1), (2, .int x2), (3, .int x3), (4, .int x4), (5, .int x5), (6, .int x6), (7, .int x7), (8, .int x8), (9, .int x9)] → St E A s h H locs → k104 x0 x1 x2 x3 x4 x5 x6 x7 x8 x9 h = some (r9, h9) → W p l e R s m args below meth c H locs 0 0 (MQ below (Qi E A h9 r9) args s 0 0 A) (F0 m 104 ls [])) :
    ∀ (x0 : Nat) (x1 : Int32) (x2 : Int32) (x3 : Int32) (x4 : Int32) (x6 : Int32) (x7 : Int32) (x8 : Int32) (x9 : Int32) (x10 : Int32) (y0 : Int32) (y1 : Int32) (h : Hp) (H : Heap) (locs : List Loc) (ls : Array Slot), lv_has ls 11 [(0, rv x0), (1, .int x1), (2, .int x2), (3, .int x3), (4, .int x4), (6, .int x6), (7, .int x7), (8, .int x8), (9, .int x9), (10, .int x10)] → St E A s h H locs → fX13_spoilt_152 k104 x0 x1 x2 x3 x4 x6 x7 x8 x9 x10 y0 y1 h = some (r9, h9) → W p l e R s m args below meth c H locs 0 0 (MQ below (Qi E A h9 r9) args s 0 0 A) (F0 m 152 ls [.int y0, .int y1]) := by
  intro x0 x1 x2 x3 x4 x6 x7 x8 x9 x10 y0 y1 h H locs ls hl S hf
  unfold fX13_spoilt_152 at hf
  refine lv_iadd X.1 X.2.1 dX13_spoilt_152 ?_
  refine g_lti hf (fun z1 hf => ?_)
  refine lv_istore (lv' := [(5, .int z1), (0, rv x0), (1, .int x1), (2, .int x2), (3, .int x3), (4, .int x4), (6, .int x6), (7, .int x7), (8, .int x8), (9, .int x9), (10, .int x10)]) X.1 X.2.1 dX13_spoilt_153 hl (by decide) rfl (fun ls hl => ?_)
  refine lv_iload X.1 X.2.1 dX13_spoilt_155 (lv_at hl 10 rfl) ?_
  refine lv_iconst (v := 2) X.1 X.2.1 dX13_spoilt_157 (by decide) ?_
  refine lv_icmp_ne (tgt := 177) X.1 X.2.1 dX13_spoilt_158 (by decide) (fun c2 => ?_) (fun c2 => ?_)
  · replace hf := (if_neg c2).symm.trans hf
    obtain ⟨z3, ez3, hf⟩ := lt_some hf
    refine lv_iinc (v := z3) (lv' := [(9, .int z3), (5, .int z1), (0, rv x0), (1, .int x1), (2, .int x2), (3, .int x3), (4, .int x4), (6, .int x6), (7, .int x7), (8, .int x8), (10, .int x10)]) X.1 X.2.1 dX13_spoilt_177 hl (k := 9) rfl (by rw [← ez3]; rfl) (by decide) rfl (fun ls hl => ?_)
    refine lv_goto (tgt := 104) X.1 X.2.1 dX13_spoilt_180 (by decide) ?_
    exact hk104 _ _ _ _ _ _ _ _ _ _ _ _ _ _ (lv_sub hl [2, 3, 4, 5, 6, 1, 7, 8, 9, 0] rfl) S hf
  · replace hf := (if_pos c2).symm.trans hf
    refine lv_iload X.1 X.2.1 dX13_spoilt_161 (lv_at hl 6 rfl) ?_
    refine lv_iconst (v := (-1)) X.1 X.2.1 dX13_spoilt_163 (by decide) ?_
    refine lv_icmp_ne (tgt := 177) X.1 X.2.1 dX13_spoilt_164 (by decide) (fun c4 => ?_) (fun c4 => ?_)
    · replace hf := (if_neg c4).symm.trans hf
      obtain ⟨z5, ez5, hf⟩ := lt_some hf
      refine lv_iinc (v := z5) (lv' := [(9, .int z5), (5, .int z1), (0, rv x0), (1, .int x1), (2, .int x2), (3, .int x3), (4, .int x4), (6, .int x6), (7, .int x7), (8, .int x8), (10, .int x10)]) X.1 X.2.1 dX13_spoilt_177 hl (k := 9) rfl (by rw [← ez5]; rfl) (by decide) rfl (fun ls hl => ?_)
      refine lv_goto (tgt := 104) X.1 X.2.1 dX13_spoilt_180 (by decide) ?_
      exact hk104 _ _ _ _ _ _ _ _ _ _ _ _ _ _ (lv_sub hl [2, 3, 4, 5, 6, 1, 7, 8, 9, 0] rfl) S hf
    · replace hf := (if_pos c4).symm.trans hf
      refine lv_bipush (v := 100) X.1 X.2.1 dX13_spoilt_167 (by decide) ?_
      refine lv_iload X.1 X.2.1 dX13_spoilt_169 (lv_at hl 8 rfl) ?_
      refine lv_imul X.1 X.2.1 dX13_spoilt_171 ?_
      refine lv_iload X.1 X.2.1 dX13_spoilt_172 (lv_at hl 9 rfl) ?_
      refine lv_iadd X.1 X.2.1 dX13_spoilt_174 ?_
      refine g_lti hf (fun z6 hf => ?_)
      refine lv_istore (lv' := [(6, .int z6), (5, .int z1), (0, rv x0), (1, .int x1), (2, .int x2), (3, .int x3), (4, .int x4), (7, .int x7), (8, .int x8), (9, .int x9), (10, .int x10)]) X.1 X.2.1 dX13_spoilt_175 hl (by decide) rfl (fun ls hl => ?_)
      obtain ⟨z7, ez7, hf⟩ := lt_some hf
      refine lv_iinc (v := z7) (lv' := [(9, .int z7), (6, .int z6), (5, .int z1), (0, rv x0), (1, .int x1), (2, .int x2), (3, .int x3), (4, .int x4), (7, .int x7), (8, .int x8), (10, .int x10)]) X.1 X.2.1 dX13_spoilt_177 hl (k := 9) rfl (by rw [← ez7]; rfl) (by decide) rfl (fun ls hl => ?_)
      refine lv_goto (tgt := 104) X.1 X.2.1 dX13_spoilt_180 (by decide) ?_
      exact hk104 _ _ _ _ _ _ _ _ _ _ _ _ _ _ (lv_sub hl [3, 4, 5, 6, 7, 2, 1, 8, 9, 0] rfl) S hf
def fX13_spoilt_104 (k91 : Nat → Int32 → Int32 → Int32 → Int32 → Int32 → Int32 → Int32 → Int32 → Hp → Option (Int32 × Hp)) (k104 : Nat → Int32 → Int32 → Int32 → Int32 → Int32 → Int32 → Int32 → Int32 → Int32 → Hp → Option (Int32 × Hp)) (x0 : Nat) (x1 : Int32) (x2 : Int32) (x3 : Int32) (x4 : Int32) (x5 : Int32) (x6 : Int32) (x7 : Int32) (x8 : Int32) (x9 : Int32) (h : Hp) : Option (Int32 × Hp) := if 16 ≤ x9 then lt (x8 + 1) fun z2 => k91 x0 x1 x2 x3 x4 x5 x6 x7 z2 h else ob (fX13_halfAt x0 x8 h) fun v3 => if x9 = v3 then lt (x9 + 1) fun z7 => k104 x0 x1 x2 x3 x4 x5 x6 x7 x8 z7 h else ob2 (fX13_spoil x0 x8 x9 x3 x7 h) fun v5 h => if v5 = x4 then fX13_spoilt_152 k104 x0 x1 x2 x3 x4 x6 x7 x8 x9 v5 1 x5 h else fX13_spoilt_152 k104 x0 x1 x2 x3 x4 x6 x7 x8 x9 v5 0 x5 h
theorem wfX13_spoilt_104 {k91 : Nat → Int32 → Int32 → Int32 → Int32 → Int32 → Int32 → Int32 → Int32 → Hp → Option (Int32 × Hp)} {k104 : Nat → Int32 → Int32 → Int32 → Int32 → Int32 → Int32 → Int32 → Int32 → Int32 → Hp → Option (Int32 × Hp)} {r9 : Int32} {h9 : Hp} (X : Cx p E A 18 R s m args c cX13_spoilt yX13_spoilt.cls 11) (hr : meth.sig.returnType = (some .int)) (hlk : meth.locks = false) (hnm : meth.name = yX13_spoilt.name) (hk91 : ∀ (x0 : Nat) (x1 : Int32) (x2 : Int32) (x3 : Int32) (x4 : Int32) (x5 : Int32) (x6 : Int32) (x7 : Int32) (x8 : Int32) (h : Hp) (H : Heap) (locs : List Loc) (ls : Array Slot), lv_has ls 11 [(0, rv x0), (1, .int x1), (2, .int x2), (3, .int x3), (4, .int x4), (5, .int x5), (6, .int x6), (7, .int x7), (8, .int x8)] → St E A s h H locs → k91 x0 x1 x2 x3 x4 x5 x6 x7 x8 h = some (r9, h9) → W p l e R s m args below meth c H locs 0 0 (MQ below (Qi E A h9 r9) args s 0 0 A) (F0 m 91 ls [])) (hk104 : ∀ (x0 : Nat) (x1 : Int32) (x2 : Int32) (x3 : Int32) (x4 : Int32) (x5 : Int32) (x6 : Int32) (x7 : Int32) (x8 : Int32) (x9 : Int32) (h : Hp) (H : Heap) (locs : List Loc) (ls : Array Slot), lv_has ls 11 [(0, rv x0), (1, .int x1), (2, .int x2), (3, .int x3), (4, .int x4), (5, .int x5), (6, .int x6), (7, .int x7), (8, .int x8), (9, .int x9)] → St E A s h H locs → k104 x0 x1 x2 x3 x4 x5 x6 x7 x8 x9 h = some (r9, h9) → W p l e R s m args below meth c H locs 0 0 (MQ below (Qi E A h9 r9) args s 0 0 A) (F0 m 104 ls [])) :
    ∀ (x0 : Nat) (x1 : Int32) (x2 : Int32) (x3 : Int32) (x4 : Int32) (x5 : Int32) (x6 : Int32) (x7 : Int32) (x8 : Int32) (x9 : Int32) (h : Hp) (H : Heap) (locs : List Loc) (ls : Array Slot), lv_has ls 11 [(0, rv x0), (1, .int x1), (2, .int x2), (3, .int x3), (4, .int x4), (5, .int x5), (6, .int x6), (7, .int x7), (8, .int x8), (9, .int x9)] → St E A s h H locs → fX13_spoilt_104 k91 k104 x0 x1 x2 x3 x4 x5 x6 x7 x8 x9 h = some (r9, h9) → W p l e R s m args below meth c H locs 0 0 (MQ below (Qi E A h9 r9) args s 0 0 A) (F0 m 104 ls []) := by
  intro x0 x1 x2 x3 x4 x5 x6 x7 x8 x9 h H locs ls hl S hf
  unfold fX13_spoilt_104 at hf
  refine lv_iload X.1 X.2.1 dX13_spoilt_104 (lv_at hl 9 rfl) ?_
  refine lv_bipush (v := 16) X.1 X.2.1 dX13_spoilt_106 (by decide) ?_
  refine lv_icmp_ge (tgt := 183) X.1 X.2.1 dX13_spoilt_108 (by decide) (fun c1 => ?_) (fun c1 => ?_)
  · replace hf := (if_pos c1).symm.trans hf
    obtain ⟨z2, ez2, hf⟩ := lt_some hf
    refine lv_iinc (v := z2) (lv' := [(8, .int z2), (0, rv x0), (1, .int x1), (2, .int x2), (3, .int x3), (4, .int x4), (5, .int x5), (6, .int x6), (7, .int x7), (9, .int x9)]) X.1 X.2.1 dX13_spoilt_183 hl (k := 8) rfl (by rw [← ez2]; rfl) (by decide) rfl (fun ls hl => ?_)
    refine lv_goto (tgt := 91) X.1 X.2.1 dX13_spoilt_186 (by decide) ?_
    exact hk91 _ _ _ _ _ _ _ _ _ _ _ _ _ (lv_sub hl [1, 2, 3, 4, 5, 6, 7, 8, 0] rfl) S hf
  · replace hf := (if_neg c1).symm.trans hf
    refine lv_iload X.1 X.2.1 dX13_spoilt_111 (lv_at hl 9 rfl) ?_
    refine g_aload_n X (or_rv _) dX13_spoilt_113 rfl (lv_at hl 0 rfl) ?_
    refine lv_iload X.1 X.2.1 dX13_spoilt_114 (lv_at hl 8 rfl) ?_
    obtain ⟨v3, hc, hf⟩ := ob_some hf
    refine g_ci S (runV (As := [.int x8]) (rest := [.int x9]) X S coX13_374 (by decide) (cX13_halfAt_m l hc) (tkX13_halfAt hc) rfl hl.1 (by simp [cat_rv, cat_wv, cat_sv, cat_i, cat_l, cat_a]) rfl ⟨Nat.zero_le _, Nat.zero_le _⟩ dX13_spoilt_116) (fun H locs S => ?_)
    refine lv_icmp_ne (tgt := 125) X.1 X.2.1 dX13_spoilt_119 (by decide) (fun c4 => ?_) (fun c4 => ?_)
    · replace hf := (if_neg c4).symm.trans hf
      refine g_aload_n X (or_rv _) dX13_spoilt_125 rfl (lv_at hl 0 rfl) ?_
      refine lv_iload X.1 X.2.1 dX13_spoilt_126 (lv_at hl 8 rfl) ?_
      refine lv_iload X.1 X.2.1 dX13_spoilt_128 (lv_at hl 9 rfl) ?_
      refine lv_iload_n X.1 X.2.1 dX13_spoilt_130 rfl (lv_at hl 3 rfl) ?_
      refine lv_iload X.1 X.2.1 dX13_spoilt_131 (lv_at hl 7 rfl) ?_
      obtain ⟨v5, h, hc, hf⟩ := ob2_some hf
      refine g_ci S (runV (As := [.int x8, .int x9, .int x3, .int x7]) (rest := []) X S coX13_689 (by decide) (cX13_spoil_m l hc) (tkX13_spoil hc) rfl hl.1 (by decide) rfl ⟨Nat.zero_le _, Nat.zero_le _⟩ dX13_spoilt_133) (fun H locs S => ?_)
      refine lv_istore (lv' := [(10, .int v5), (0, rv x0), (1, .int x1), (2, .int x2), (3, .int x3), (4, .int x4), (5, .int x5), (6, .int x6), (7, .int x7), (8, .int x8), (9, .int x9)]) X.1 X.2.1 dX13_spoilt_136 hl (by decide) rfl (fun ls hl => ?_)
      refine lv_iload X.1 X.2.1 dX13_spoilt_138 (lv_at hl 6 rfl) ?_
      refine lv_iload X.1 X.2.1 dX13_spoilt_140 (lv_at hl 0 rfl) ?_
      refine lv_iload X.1 X.2.1 dX13_spoilt_142 (lv_at hl 5 rfl) ?_
      refine lv_icmp_ne (tgt := 151) X.1 X.2.1 dX13_spoilt_144 (by decide) (fun c6 => ?_) (fun c6 => ?_)
      · replace hf := (if_neg c6).symm.trans hf
        refine lv_iconst (v := 0) X.1 X.2.1 dX13_spoilt_151 (by decide) ?_
        exact wfX13_spoilt_152 X hr hlk hnm hk104 _ _ _ _ _ _ _ _ _ _ _ _ _ _ _ _ (lv_sub hl [1, 2, 3, 4, 5, 7, 8, 9, 10, 0] rfl) S hf
      · replace hf := (if_pos c6).symm.trans hf
        refine lv_iconst (v := 1) X.1 X.2.1 dX13_spoilt_147 (by decide) ?_
        refine lv_goto (tgt := 152) X.1 X.2.1 dX13_spoilt_148 (by decide) ?_
        exact wfX13_spoilt_152 X hr hlk hnm hk104 _ _ _ _ _ _ _ _ _ _ _ _ _ _ _ _ (lv_sub hl [1, 2, 3, 4, 5, 7, 8, 9, 10, 0] rfl) S hf
    · replace hf := (if_pos c4).symm.trans hf
      refine lv_goto (tgt := 177) X.1 X.2.1 dX13_spoilt_122 (by decide) ?_
      obtain ⟨z7, ez7, hf⟩ := lt_some hf
      refine lv_iinc (v := z7) (lv' := [(9, .int z7), (0, rv x0), (1, .int x1), (2, .int x2), (3, .int x3), (4, .int x4), (5, .int x5), (6, .int x6), (7, .int x7), (8, .int x8)]) X.1 X.2.1 dX13_spoilt_177 hl (k := 9) rfl (by rw [← ez7]; rfl) (by decide) rfl (fun ls hl => ?_)
      refine lv_goto (tgt := 104) X.1 X.2.1 dX13_spoilt_180 (by decide) ?_
      exact hk104 _ _ _ _ _ _ _ _ _ _ _ _ _ _ (lv_sub hl [1, 2, 3, 4, 5, 6, 7, 8, 9, 0] rfl) S hf
theorem wfX13_spoilt_104_l {k91 : Nat → Int32 → Int32 → Int32 → Int32 → Int32 → Int32 → Int32 → Int32 → Hp → Option (Int32 × Hp)} {r9 : Int32} {h9 : Hp} (X : Cx p E A 18 R s m args c cX13_spoilt yX13_spoilt.cls 11) (hr : meth.sig.returnType = (some .int)) (hlk : meth.locks = false) (hnm : meth.name = yX13_spoilt.name) (hk91 : ∀ (x0 : Nat) (x1 : Int32) (x2 : Int32) (x3 : Int32) (x4 : Int32) (x5 : Int32) (x6 : Int32) (x7 : Int32) (x8 : Int32) (h : Hp) (H : Heap) (locs : List Loc) (ls : Array Slot), lv_has ls 11 [(0, rv x0), (1, .int x1), (2, .int x2), (3, .int x3), (4, .int x4), (5, .int x5), (6, .int x6), (7, .int x7), (8, .int x8)] → St E A s h H locs → k91 x0 x1 x2 x3 x4 x5 x6 x7 x8 h = some (r9, h9) → W p l e R s m args below meth c H locs 0 0 (MQ below (Qi E A h9 r9) args s 0 0 A) (F0 m 91 ls [])) :
    ∀ (n : Nat) (x0 : Nat) (x1 : Int32) (x2 : Int32) (x3 : Int32) (x4 : Int32) (x5 : Int32) (x6 : Int32) (x7 : Int32) (x8 : Int32) (x9 : Int32) (h : Hp) (H : Heap) (locs : List Loc) (ls : Array Slot), lv_has ls 11 [(0, rv x0), (1, .int x1), (2, .int x2), (3, .int x3), (4, .int x4), (5, .int x5), (6, .int x6), (7, .int x7), (8, .int x8), (9, .int x9)] → St E A s h H locs → lp (fun _ _ _ _ _ _ _ _ _ _ _ => none) (fX13_spoilt_104 k91) n x0 x1 x2 x3 x4 x5 x6 x7 x8 x9 h = some (r9, h9) → W p l e R s m args below meth c H locs 0 0 (MQ below (Qi E A h9 r9) args s 0 0 A) (F0 m 104 ls []) := by
  intro n
  induction n with
  | zero =>
    intro x0 x1 x2 x3 x4 x5 x6 x7 x8 x9 h H locs ls hl S hf
    exact nomatch hf
  | succ n ih =>
    intro x0 x1 x2 x3 x4 x5 x6 x7 x8 x9 h H locs ls hl S hf
    exact wfX13_spoilt_104 X hr hlk hnm hk91 ih x0 x1 x2 x3 x4 x5 x6 x7 x8 x9 h H locs ls hl S hf
def fX13_spoilt_91 (k91 : Nat → Int32 → Int32 → Int32 → Int32 → Int32 → Int32 → Int32 → Int32 → Hp → Option (Int32 × Hp)) (x0 : Nat) (x1 : Int32) (x2 : Int32) (x3 : Int32) (x4 : Int32) (x5 : Int32) (x6 : Int32) (x7 : Int32) (x8 : Int32) (h : Hp) : Option (Int32 × Hp) := if (2 * (x1 + x2)) ≤ x8 then if x4 = 3 then some (x6, h) else some (x5, h) else lp (fun _ _ _ _ _ _ _ _ _ _ _ => none) (fX13_spoilt_104 k91) FU x0 x1 x2 x3 x4 x5 x6 x7 x8 0 h
theorem wfX13_spoilt_91 {k91 : Nat → Int32 → Int32 → Int32 → Int32 → Int32 → Int32 → Int32 → Int32 → Hp → Option (Int32 × Hp)} {r9 : Int32} {h9 : Hp} (X : Cx p E A 18 R s m args c cX13_spoilt yX13_spoilt.cls 11) (hr : meth.sig.returnType = (some .int)) (hlk : meth.locks = false) (hnm : meth.name = yX13_spoilt.name) (hk91 : ∀ (x0 : Nat) (x1 : Int32) (x2 : Int32) (x3 : Int32) (x4 : Int32) (x5 : Int32) (x6 : Int32) (x7 : Int32) (x8 : Int32) (h : Hp) (H : Heap) (locs : List Loc) (ls : Array Slot), lv_has ls 11 [(0, rv x0), (1, .int x1), (2, .int x2), (3, .int x3), (4, .int x4), (5, .int x5), (6, .int x6), (7, .int x7), (8, .int x8)] → St E A s h H locs → k91 x0 x1 x2 x3 x4 x5 x6 x7 x8 h = some (r9, h9) → W p l e R s m args below meth c H locs 0 0 (MQ below (Qi E A h9 r9) args s 0 0 A) (F0 m 91 ls [])) :
    ∀ (x0 : Nat) (x1 : Int32) (x2 : Int32) (x3 : Int32) (x4 : Int32) (x5 : Int32) (x6 : Int32) (x7 : Int32) (x8 : Int32) (h : Hp) (H : Heap) (locs : List Loc) (ls : Array Slot), lv_has ls 11 [(0, rv x0), (1, .int x1), (2, .int x2), (3, .int x3), (4, .int x4), (5, .int x5), (6, .int x6), (7, .int x7), (8, .int x8)] → St E A s h H locs → fX13_spoilt_91 k91 x0 x1 x2 x3 x4 x5 x6 x7 x8 h = some (r9, h9) → W p l e R s m args below meth c H locs 0 0 (MQ below (Qi E A h9 r9) args s 0 0 A) (F0 m 91 ls []) := by
  intro x0 x1 x2 x3 x4 x5 x6 x7 x8 h H locs ls hl S hf
  unfold fX13_spoilt_91 at hf
  refine lv_iload X.1 X.2.1 dX13_spoilt_91 (lv_at hl 8 rfl) ?_
  refine lv_iconst (v := 2) X.1 X.2.1 dX13_spoilt_93 (by decide) ?_
  refine lv_iload_n X.1 X.2.1 dX13_spoilt_94 rfl (lv_at hl 1 rfl) ?_
  refine lv_iload_n X.1 X.2.1 dX13_spoilt_95 rfl (lv_at hl 2 rfl) ?_
  refine lv_iadd X.1 X.2.1 dX13_spoilt_96 ?_
  refine lv_imul X.1 X.2.1 dX13_spoilt_97 ?_
  refine lv_icmp_ge (tgt := 189) X.1 X.2.1 dX13_spoilt_98 (by decide) (fun c1 => ?_) (fun c1 => ?_)
  · replace hf := (if_pos c1).symm.trans hf
    refine lv_iload X.1 X.2.1 dX13_spoilt_189 (lv_at hl 4 rfl) ?_
    refine lv_iconst (v := 3) X.1 X.2.1 dX13_spoilt_191 (by decide) ?_
    refine lv_icmp_ne (tgt := 200) X.1 X.2.1 dX13_spoilt_192 (by decide) (fun c2 => ?_) (fun c2 => ?_)
    · replace hf := (if_neg c2).symm.trans hf
      refine lv_iload X.1 X.2.1 dX13_spoilt_200 (lv_at hl 5 rfl) ?_
      cases hf; exact g_ri X S hr hlk dX13_spoilt_202
    · replace hf := (if_pos c2).symm.trans hf
      refine lv_iload X.1 X.2.1 dX13_spoilt_195 (lv_at hl 6 rfl) ?_
      refine lv_goto (tgt := 202) X.1 X.2.1 dX13_spoilt_197 (by decide) ?_
      cases hf; exact g_ri X S hr hlk dX13_spoilt_202
  · replace hf := (if_neg c1).symm.trans hf
    refine lv_iconst (v := 0) X.1 X.2.1 dX13_spoilt_101 (by decide) ?_
    refine lv_istore (lv' := [(9, .int 0), (0, rv x0), (1, .int x1), (2, .int x2), (3, .int x3), (4, .int x4), (5, .int x5), (6, .int x6), (7, .int x7), (8, .int x8)]) X.1 X.2.1 dX13_spoilt_102 hl (by decide) rfl (fun ls hl => ?_)
    exact wfX13_spoilt_104_l X hr hlk hnm hk91 FU _ _ _ _ _ _ _ _ _ _ _ _ _ _ (lv_sub hl [1, 2, 3, 4, 5, 6, 7, 8, 9, 0] rfl) S hf
theorem wfX13_spoilt_91_l {r9 : Int32} {h9 : Hp} (X : Cx p E A 18 R s m args c cX13_spoilt yX13_spoilt.cls 11) (hr : meth.sig.returnType = (some .int)) (hlk : meth.locks = false) (hnm : meth.name = yX13_spoilt.name) :
    ∀ (n : Nat) (x0 : Nat) (x1 : Int32) (x2 : Int32) (x3 : Int32) (x4 : Int32) (x5 : Int32) (x6 : Int32) (x7 : Int32) (x8 : Int32) (h : Hp) (H : Heap) (locs : List Loc) (ls : Array Slot), lv_has ls 11 [(0, rv x0), (1, .int x1), (2, .int x2), (3, .int x3), (4, .int x4), (5, .int x5), (6, .int x6), (7, .int x7), (8, .int x8)] → St E A s h H locs → lp (fun _ _ _ _ _ _ _ _ _ _ => none) (fX13_spoilt_91) n x0 x1 x2 x3 x4 x5 x6 x7 x8 h = some (r9, h9) → W p l e R s m args below meth c H locs 0 0 (MQ below (Qi E A h9 r9) args s 0 0 A) (F0 m 91 ls []) := by
  intro n
  induction n with
  | zero =>
    intro x0 x1 x2 x3 x4 x5 x6 x7 x8 h H locs ls hl S hf
    exact nomatch hf
  | succ n ih =>
    intro x0 x1 x2 x3 x4 x5 x6 x7 x8 h H locs ls hl S hf
    exact wfX13_spoilt_91 X hr hlk hnm ih x0 x1 x2 x3 x4 x5 x6 x7 x8 h H locs ls hl S hf
def fX13_spoilt (a0 : Nat) (a1 : Int32) (a2 : Int32) (a3 : Int32) (a4 : Int32) (h : Hp) : Option (Int32 × Hp) := gd 11 a0 h (ob (pI 11 a0 2 0 h) fun h => ob (fX13_isIn (Int32.toInt64 a4) 0 3) fun v1 => if v1 = 0 then ob2 (fX13_fail a0 1 h) fun v14 h => some (v14, h) else ob (fX13_isField a0 a1 a2 3 h) fun v3 => if v3 = 0 then fX13_spoilt_46 a0 h else ob (fX13_isIn (Int32.toInt64 a3) 1 60) fun v5 => if v5 = 0 then fX13_spoilt_46 a0 h else ob (fX13_rememberNow a0 h) fun h => ob2 (fX13_goToFault a0 a3 h) fun v8 h => ob (gR 11 a0 62 h) fun v9 => ob (gR 11 a0 3 h) fun v10 => ob (fX13_copyTo v9 v10 h) fun h => ob2 (fX13_back a0 0 h) fun v12 h => lt (2 * a1) fun z13 => lp (fun _ _ _ _ _ _ _ _ _ _ => none) (fX13_spoilt_91) FU a0 a1 a2 a3 a4 0 (-1) v8 z13 h)
theorem tkX13_spoilt {a0 : Nat} {a1 : Int32} {a2 : Int32} {a3 : Int32} {a4 : Int32} {h : Hp} {r9 : Int32 × Hp} (e : fX13_spoilt a0 a1 a2 a3 a4 h = some r9) : hK h a0 = 11 := by
  unfold fX13_spoilt at e
  exact (gd_some e).1
theorem cX13_spoilt_m (l : Launch) {E : EE} {A : Nat → Prop} {a0 : Nat} {a1 : Int32} {a2 : Int32} {a3 : Int32} {a4 : Int32} {h : Hp} {r9 : Int32} {h9 : Hp} (hf : fX13_spoilt a0 a1 a2 a3 a4 h = some (r9, h9)) : Met l yX13_spoilt (wsM yX13_spoilt cX13_spoilt 11 (some .int)) (rmm 18 0 0) (PcE E A h [rv a0, .int a1, .int a2, .int a3, .int a4]) (Qi E A h9 r9) 0 0 A := by
  refine met_of (by decide +kernel) (by simp [lg_sl, cat_rv, cat_wv, cat_sv, cat_i, cat_l, cat_a]) (fun p e s m args below meth c ls X hr hlk hnm S hl => ?_)
  have hl : lv_has ls 11 [(0, rv a0), (1, .int a1), (2, .int a2), (3, .int a3), (4, .int a4)] := by simpa [lv_args, cat_rv, cat_wv, cat_sv, cat_i, cat_l, cat_a] using hl
  generalize hH : s.heap = H at S ⊢
  generalize hlo : ([] : List Loc) = locs at S ⊢
  clear hH hlo
  unfold fX13_spoilt at hf
  obtain ⟨hth, hf⟩ := gd_some hf
  refine g_aload_n X (or_rv _) dX13_spoilt_0 rfl (lv_at hl 0 rfl) ?_
  refine lv_iconst (v := 0) X.1 X.2.1 dX13_spoilt_1 (by decide) ?_
  refine g_pI X S fpX13_187 (Or.inl rfl) dX13_spoilt_2 hf (fun h H locs hm hf S => ?_)
  refine lv_iload X.1 X.2.1 dX13_spoilt_5 (lv_at hl 4 rfl) ?_
  refine lv_i2l (v := Int32.toInt64 a4) X.1 X.2.1 dX13_spoilt_7 rfl ?_
  refine lv_lconst (v := 0) X.1 X.2.1 dX13_spoilt_8 (by decide) ?_
  refine lv_ldc2 X.1 X.2.1 X.2.2.2.1 (X.2.2.1 _ kuX13_451) dX13_spoilt_9 ?_
  obtain ⟨v1, hc, hf⟩ := ob_some hf
  refine g_ci S (runS (As := [.long (Int32.toInt64 a4), .long 0, .long 3]) (rest := []) X S coX13_287 (by decide) (cX13_isIn_m l hc) rfl hl.1 (by decide) rfl ⟨Nat.zero_le _, Nat.zero_le _⟩ dX13_spoilt_12) (fun H locs S => ?_)
  refine lv_if_ne (tgt := 24) X.1 X.2.1 dX13_spoilt_15 (by decide) (fun c2 => ?_) (fun c2 => ?_)
  · replace hf := (if_neg c2).symm.trans hf
    refine g_aload_n X (or_rv _) dX13_spoilt_24 rfl (lv_at hl 0 rfl) ?_
    refine lv_iload_n X.1 X.2.1 dX13_spoilt_25 rfl (lv_at hl 1 rfl) ?_
    refine lv_iload_n X.1 X.2.1 dX13_spoilt_26 rfl (lv_at hl 2 rfl) ?_
    refine lv_iconst (v := 3) X.1 X.2.1 dX13_spoilt_27 (by decide) ?_
    obtain ⟨v3, hc, hf⟩ := ob_some hf
    refine g_ci S (runV (As := [.int a1, .int a2, .int 3]) (rest := []) X S coX13_603 (by decide) (cX13_isField_m l hc) (tkX13_isField hc) rfl hl.1 (by decide) rfl ⟨Nat.zero_le _, Nat.zero_le _⟩ dX13_spoilt_28) (fun H locs S => ?_)
    refine lv_if_eq (tgt := 46) X.1 X.2.1 dX13_spoilt_31 (by decide) (fun c4 => ?_) (fun c4 => ?_)
    · replace hf := (if_pos c4).symm.trans hf
      exact wfX13_spoilt_46 X hr hlk hnm _ _ _ _ _ (lv_sub hl [0] rfl) S hf
    · replace hf := (if_neg c4).symm.trans hf
      refine lv_iload_n X.1 X.2.1 dX13_spoilt_34 rfl (lv_at hl 3 rfl) ?_
      refine lv_i2l (v := Int32.toInt64 a3) X.1 X.2.1 dX13_spoilt_35 rfl ?_
      refine lv_lconst (v := 1) X.1 X.2.1 dX13_spoilt_36 (by decide) ?_
      refine lv_ldc2 X.1 X.2.1 X.2.2.2.1 (X.2.2.1 _ kuX13_687) dX13_spoilt_37 ?_
      obtain ⟨v5, hc, hf⟩ := ob_some hf
      refine g_ci S (runS (As := [.long (Int32.toInt64 a3), .long 1, .long 60]) (rest := []) X S coX13_287 (by decide) (cX13_isIn_m l hc) rfl hl.1 (by decide) rfl ⟨Nat.zero_le _, Nat.zero_le _⟩ dX13_spoilt_40) (fun H locs S => ?_)
      refine lv_if_ne (tgt := 52) X.1 X.2.1 dX13_spoilt_43 (by decide) (fun c6 => ?_) (fun c6 => ?_)
      · replace hf := (if_neg c6).symm.trans hf
        refine lv_iconst (v := 0) X.1 X.2.1 dX13_spoilt_52 (by decide) ?_
        refine lv_istore (lv' := [(5, .int 0), (0, rv a0), (1, .int a1), (2, .int a2), (3, .int a3), (4, .int a4)]) X.1 X.2.1 dX13_spoilt_53 hl (by decide) rfl (fun ls hl => ?_)
        refine lv_iconst (v := (-1)) X.1 X.2.1 dX13_spoilt_55 (by decide) ?_
        refine lv_istore (lv' := [(6, .int (-1)), (5, .int 0), (0, rv a0), (1, .int a1), (2, .int a2), (3, .int a3), (4, .int a4)]) X.1 X.2.1 dX13_spoilt_56 hl (by decide) rfl (fun ls hl => ?_)
        refine g_aload_n X (or_rv _) dX13_spoilt_58 rfl (lv_at hl 2 rfl) ?_
        obtain ⟨h, hc, hf⟩ := ob_some hf
        refine g_cv S (runV (As := []) (rest := []) X S coX13_664 (by decide) (cX13_rememberNow_m l hc) (tkX13_rememberNow hc) rfl hl.1 (by decide) rfl ⟨Nat.zero_le _, Nat.zero_le _⟩ dX13_spoilt_59) (fun H locs S => ?_)
        refine g_aload_n X (or_rv _) dX13_spoilt_62 rfl (lv_at hl 2 rfl) ?_
        refine lv_iload_n X.1 X.2.1 dX13_spoilt_63 rfl (lv_at hl 5 rfl) ?_
        obtain ⟨v8, h, hc, hf⟩ := ob2_some hf
        refine g_ci S (runV (As := [.int a3]) (rest := []) X S coX13_678 (by decide) (cX13_goToFault_m l hc) (tkX13_goToFault hc) rfl hl.1 (by decide) rfl ⟨Nat.zero_le _, Nat.zero_le _⟩ dX13_spoilt_64) (fun H locs S => ?_)
        refine lv_istore (lv' := [(7, .int v8), (6, .int (-1)), (5, .int 0), (0, rv a0), (1, .int a1), (2, .int a2), (3, .int a3), (4, .int a4)]) X.1 X.2.1 dX13_spoilt_67 hl (by decide) rfl (fun ls hl => ?_)
        refine g_aload_n X (or_rv _) dX13_spoilt_69 rfl (lv_at hl 3 rfl) ?_
        refine g_gR X S foX13_154 dX13_spoilt_70 hf (fun v9 hf => ?_)
        refine g_aload_n X (or_rv _) dX13_spoilt_73 rfl (lv_at hl 3 rfl) ?_
        refine g_gR X S foX13_76 dX13_spoilt_74 hf (fun v10 hf => ?_)
        obtain ⟨h, hc, hf⟩ := ob_some hf
        refine g_cv S (runS (As := [rv v9, rv v10]) (rest := []) X S coX13_660 (by decide) (cX13_copyTo_m l hc) rfl hl.1 (by decide) rfl ⟨Nat.zero_le _, Nat.zero_le _⟩ dX13_spoilt_77) (fun H locs S => ?_)
        refine g_aload_n X (or_rv _) dX13_spoilt_80 rfl (lv_at hl 3 rfl) ?_
        refine lv_iconst (v := 0) X.1 X.2.1 dX13_spoilt_81 (by decide) ?_
        obtain ⟨v12, h, hc, hf⟩ := ob2_some hf
        refine g_ci S (runV (As := [.int 0]) (rest := []) X S coX13_667 (by decide) (cX13_back_m l hc) (tkX13_back hc) rfl hl.1 (by decide) rfl ⟨Nat.zero_le _, Nat.zero_le _⟩ dX13_spoilt_82) (fun H locs S => ?_)
        refine lv_pop X.1 X.2.1 dX13_spoilt_85 rfl ?_
        refine lv_iconst (v := 2) X.1 X.2.1 dX13_spoilt_86 (by decide) ?_
        refine lv_iload_n X.1 X.2.1 dX13_spoilt_87 rfl (lv_at hl 4 rfl) ?_
        refine lv_imul X.1 X.2.1 dX13_spoilt_88 ?_
        refine g_lti hf (fun z13 hf => ?_)
        refine lv_istore (lv' := [(8, .int z13), (7, .int v8), (6, .int (-1)), (5, .int 0), (0, rv a0), (1, .int a1), (2, .int a2), (3, .int a3), (4, .int a4)]) X.1 X.2.1 dX13_spoilt_89 hl (by decide) rfl (fun ls hl => ?_)
        exact wfX13_spoilt_91_l X hr hlk hnm FU _ _ _ _ _ _ _ _ _ _ _ _ _ (lv_sub hl [4, 5, 6, 7, 8, 3, 2, 1, 0] rfl) S hf
      · replace hf := (if_pos c6).symm.trans hf
        exact wfX13_spoilt_46 X hr hlk hnm _ _ _ _ _ (lv_sub hl [0] rfl) S hf
  · replace hf := (if_pos c2).symm.trans hf
    refine g_aload_n X (or_rv _) dX13_spoilt_18 rfl (lv_at hl 0 rfl) ?_
    refine lv_iconst (v := 1) X.1 X.2.1 dX13_spoilt_19 (by decide) ?_
    obtain ⟨v14, h, hc, hf⟩ := ob2_some hf
    refine g_ci S (runV (As := [.int 1]) (rest := []) X S coX13_329 (by decide) (cX13_fail_m l hc) (tkX13_fail hc) rfl hl.1 (by decide) rfl ⟨Nat.zero_le _, Nat.zero_le _⟩ dX13_spoilt_20) (fun H locs S => ?_)
    cases hf; exact g_ri X S hr hlk dX13_spoilt_23
def fX13_note_50 (x0 : Nat) (h : Hp) : Option (Int32 × Hp) := ob2 (fX13_refuse x0 2 h) fun v1 h => some (v1, h)
theorem wfX13_note_50 {r9 : Int32} {h9 : Hp} (X : Cx p E A 9 R s m args c cX13_note yX13_note.cls 4) (hr : meth.sig.returnType = (some .int)) (hlk : meth.locks = false) (hnm : meth.name = yX13_note.name) :
    ∀ (x0 : Nat) (h : Hp) (H : Heap) (locs : List Loc) (ls : Array Slot), lv_has ls 4 [(0, rv x0)] → St E A s h H locs → fX13_note_50 x0 h = some (r9, h9) → W p l e R s m args below meth c H locs 0 0 (MQ below (Qi E A h9 r9) args s 0 0 A) (F0 m 50 ls []) := by
  intro x0 h H locs ls hl S hf
  unfold fX13_note_50 at hf
  refine g_aload_n X (or_rv _) dX13_note_50 rfl (lv_at hl 0 rfl) ?_
  refine lv_iconst (v := 2) X.1 X.2.1 dX13_note_51 (by decide) ?_
  obtain ⟨v1, h, hc, hf⟩ := ob2_some hf
  refine g_ci S (runV (As := [.int 2]) (rest := []) X S coX13_651 (by decide) (cX13_refuse_m l hc) (tkX13_refuse hc) rfl hl.1 (by decide) rfl ⟨Nat.zero_le _, Nat.zero_le _⟩ dX13_note_52) (fun H locs S => ?_)
  cases hf; exact g_ri X S hr hlk dX13_note_55
def fX13_note (a0 : Nat) (a1 : Int32) (a2 : Int32) (a3 : Int32) (h : Hp) : Option (Int32 × Hp) := gd 11 a0 h (ob (pI 11 a0 2 0 h) fun h => ob (gI 11 a0 59 h) fun v1 => if v1 = 8 then fX13_note_50 a0 h else ob (fX13_isIn (Int32.toInt64 a1) 0 60) fun v3 => if v3 = 0 then fX13_note_50 a0 h else ob (fX13_isIn (Int32.toInt64 a2) 0 255) fun v5 => if v5 = 0 then fX13_note_50 a0 h else ob (fX13_isIn (Int32.toInt64 a3) 0 255) fun v7 => if v7 = 0 then fX13_note_50 a0 h else ob (gR 11 a0 63 h) fun v9 => ob (gI 11 a0 59 h) fun v10 => ob (qI v9 v10 a1 h) fun h => ob (gR 11 a0 64 h) fun v11 => ob (gI 11 a0 59 h) fun v12 => ob (qI v11 v12 a2 h) fun h => ob (gR 11 a0 65 h) fun v13 => ob (gI 11 a0 59 h) fun v14 => ob (qI v13 v14 a3 h) fun h => ob (gI 11 a0 59 h) fun v15 => ob (pI 11 a0 59 (v15 + 1) h) fun h => ob (gI 11 a0 59 h) fun v16 => some (v16, h))
theorem tkX13_note {a0 : Nat} {a1 : Int32} {a2 : Int32} {a3 : Int32} {h : Hp} {r9 : Int32 × Hp} (e : fX13_note a0 a1 a2 a3 h = some r9) : hK h a0 = 11 := by
  unfold fX13_note at e
  exact (gd_some e).1
theorem cX13_note_m (l : Launch) {E : EE} {A : Nat → Prop} {a0 : Nat} {a1 : Int32} {a2 : Int32} {a3 : Int32} {h : Hp} {r9 : Int32} {h9 : Hp} (hf : fX13_note a0 a1 a2 a3 h = some (r9, h9)) : Met l yX13_note (wsM yX13_note cX13_note 4 (some .int)) (rmm 9 0 0) (PcE E A h [rv a0, .int a1, .int a2, .int a3]) (Qi E A h9 r9) 0 0 A := by
  refine met_of (by decide +kernel) (by simp [lg_sl, cat_rv, cat_wv, cat_sv, cat_i, cat_l, cat_a]) (fun p e s m args below meth c ls X hr hlk hnm S hl => ?_)
  have hl : lv_has ls 4 [(0, rv a0), (1, .int a1), (2, .int a2), (3, .int a3)] := by simpa [lv_args, cat_rv, cat_wv, cat_sv, cat_i, cat_l, cat_a] using hl
  generalize hH : s.heap = H at S ⊢
  generalize hlo : ([] : List Loc) = locs at S ⊢
  clear hH hlo
  unfold fX13_note at hf
  obtain ⟨hth, hf⟩ := gd_some hf
  refine g_aload_n X (or_rv _) dX13_note_0 rfl (lv_at hl 0 rfl) ?_
  refine lv_iconst (v := 0) X.1 X.2.1 dX13_note_1 (by decide) ?_
  refine g_pI X S fpX13_187 (Or.inl rfl) dX13_note_2 hf (fun h H locs hm hf S => ?_)
  refine g_aload_n X (or_rv _) dX13_note_5 rfl (lv_at hl 0 rfl) ?_
  refine g_gI X S foX13_351 rfl dX13_note_6 hf (fun v1 hf => ?_)
  refine lv_bipush (v := 8) X.1 X.2.1 dX13_note_9 (by decide) ?_
  refine lv_icmp_eq (tgt := 50) X.1 X.2.1 dX13_note_11 (by decide) (fun c2 => ?_) (fun c2 => ?_)
  · replace hf := (if_pos c2).symm.trans hf
    exact wfX13_note_50 X hr hlk hnm _ _ _ _ _ (lv_sub hl [0] rfl) S hf
  · replace hf := (if_neg c2).symm.trans hf
    refine lv_iload_n X.1 X.2.1 dX13_note_14 rfl (lv_at hl 1 rfl) ?_
    refine lv_i2l (v := Int32.toInt64 a1) X.1 X.2.1 dX13_note_15 rfl ?_
    refine lv_lconst (v := 0) X.1 X.2.1 dX13_note_16 (by decide) ?_
    refine lv_ldc2 X.1 X.2.1 X.2.2.2.1 (X.2.2.1 _ kuX13_687) dX13_note_17 ?_
    obtain ⟨v3, hc, hf⟩ := ob_some hf
    refine g_ci S (runS (As := [.long (Int32.toInt64 a1), .long 0, .long 60]) (rest := []) X S coX13_287 (by decide) (cX13_isIn_m l hc) rfl hl.1 (by decide) rfl ⟨Nat.zero_le _, Nat.zero_le _⟩ dX13_note_20) (fun H locs S => ?_)
    refine lv_if_eq (tgt := 50) X.1 X.2.1 dX13_note_23 (by decide) (fun c4 => ?_) (fun c4 => ?_)
    · replace hf := (if_pos c4).symm.trans hf
      exact wfX13_note_50 X hr hlk hnm _ _ _ _ _ (lv_sub hl [0] rfl) S hf
    · replace hf := (if_neg c4).symm.trans hf
      refine lv_iload_n X.1 X.2.1 dX13_note_26 rfl (lv_at hl 2 rfl) ?_
      refine lv_i2l (v := Int32.toInt64 a2) X.1 X.2.1 dX13_note_27 rfl ?_
      refine lv_lconst (v := 0) X.1 X.2.1 dX13_note_28 (by decide) ?_
      refine lv_ldc2 X.1 X.2.1 X.2.2.2.1 (X.2.2.1 _ kuX13_593) dX13_note_29 ?_
      obtain ⟨v5, hc, hf⟩ := ob_some hf
      refine g_ci S (runS (As := [.long (Int32.toInt64 a2), .long 0, .long 255]) (rest := []) X S coX13_287 (by decide) (cX13_isIn_m l hc) rfl hl.1 (by decide) rfl ⟨Nat.zero_le _, Nat.zero_le _⟩ dX13_note_32) (fun H locs S => ?_)
      refine lv_if_eq (tgt := 50) X.1 X.2.1 dX13_note_35 (by decide) (fun c6 => ?_) (fun c6 => ?_)
      · replace hf := (if_pos c6).symm.trans hf
        exact wfX13_note_50 X hr hlk hnm _ _ _ _ _ (lv_sub hl [0] rfl) S hf
      · replace hf := (if_neg c6).symm.trans hf
        refine lv_iload_n X.1 X.2.1 dX13_note_38 rfl (lv_at hl 3 rfl) ?_
        refine lv_i2l (v := Int32.toInt64 a3) X.1 X.2.1 dX13_note_39 rfl ?_
        refine lv_lconst (v := 0) X.1 X.2.1 dX13_note_40 (by decide) ?_
        refine lv_ldc2 X.1 X.2.1 X.2.2.2.1 (X.2.2.1 _ kuX13_593) dX13_note_41 ?_
        obtain ⟨v7, hc, hf⟩ := ob_some hf
        refine g_ci S (runS (As := [.long (Int32.toInt64 a3), .long 0, .long 255]) (rest := []) X S coX13_287 (by decide) (cX13_isIn_m l hc) rfl hl.1 (by decide) rfl ⟨Nat.zero_le _, Nat.zero_le _⟩ dX13_note_44) (fun H locs S => ?_)
        refine lv_if_ne (tgt := 56) X.1 X.2.1 dX13_note_47 (by decide) (fun c8 => ?_) (fun c8 => ?_)
        · replace hf := (if_neg c8).symm.trans hf
          refine g_aload_n X (or_rv _) dX13_note_56 rfl (lv_at hl 0 rfl) ?_
          refine g_gR X S foX13_157 dX13_note_57 hf (fun v9 hf => ?_)
          refine g_aload_n X (or_rv _) dX13_note_60 rfl (lv_at hl 0 rfl) ?_
          refine g_gI X S foX13_351 rfl dX13_note_61 hf (fun v10 hf => ?_)
          refine lv_iload_n X.1 X.2.1 dX13_note_64 rfl (lv_at hl 1 rfl) ?_
          refine g_qI X S dX13_note_65 hf (fun h H locs hm hf S => ?_)
          refine g_aload_n X (or_rv _) dX13_note_66 rfl (lv_at hl 0 rfl) ?_
          refine g_gR X S foX13_160 dX13_note_67 hf (fun v11 hf => ?_)
          refine g_aload_n X (or_rv _) dX13_note_70 rfl (lv_at hl 0 rfl) ?_
          refine g_gI X S foX13_351 rfl dX13_note_71 hf (fun v12 hf => ?_)
          refine lv_iload_n X.1 X.2.1 dX13_note_74 rfl (lv_at hl 2 rfl) ?_
          refine g_qI X S dX13_note_75 hf (fun h H locs hm hf S => ?_)
          refine g_aload_n X (or_rv _) dX13_note_76 rfl (lv_at hl 0 rfl) ?_
          refine g_gR X S foX13_163 dX13_note_77 hf (fun v13 hf => ?_)
          refine g_aload_n X (or_rv _) dX13_note_80 rfl (lv_at hl 0 rfl) ?_
          refine g_gI X S foX13_351 rfl dX13_note_81 hf (fun v14 hf => ?_)
          refine lv_iload_n X.1 X.2.1 dX13_note_84 rfl (lv_at hl 3 rfl) ?_
          refine g_qI X S dX13_note_85 hf (fun h H locs hm hf S => ?_)
          refine g_aload_n X (or_rv _) dX13_note_86 rfl (lv_at hl 0 rfl) ?_
          refine lv_dup X.1 X.2.1 dX13_note_87 (cat_rv _) ?_
          refine g_gI X S foX13_351 rfl dX13_note_88 hf (fun v15 hf => ?_)
          refine lv_iconst (v := 1) X.1 X.2.1 dX13_note_91 (by decide) ?_
          refine lv_iadd X.1 X.2.1 dX13_note_92 ?_
          refine g_pI X S fpX13_351 (Or.inl rfl) dX13_note_93 hf (fun h H locs hm hf S => ?_)
          refine g_aload_n X (or_rv _) dX13_note_96 rfl (lv_at hl 0 rfl) ?_
          refine g_gI X S foX13_351 rfl dX13_note_97 hf (fun v16 hf => ?_)
          cases hf; exact g_ri X S hr hlk dX13_note_100
        · replace hf := (if_pos c8).symm.trans hf
          exact wfX13_note_50 X hr hlk hnm _ _ _ _ _ (lv_sub hl [0] rfl) S hf
def fX13_forget (a0 : Nat) (h : Hp) : Option (Hp) := gd 11 a0 h (ob (pI 11 a0 2 0 h) fun h => ob (pI 11 a0 59 0 h) fun h => some h)
theorem tkX13_forget {a0 : Nat} {h : Hp} {r9 : Hp} (e : fX13_forget a0 h = some r9) : hK h a0 = 11 := by
  unfold fX13_forget at e
  exact (gd_some e).1
theorem cX13_forget_m (l : Launch) {E : EE} {A : Nat → Prop} {a0 : Nat} {h : Hp} {h9 : Hp} (hf : fX13_forget a0 h = some h9) : Met l yX13_forget (wsM yX13_forget cX13_forget 1 none) (rmm 8 0 0) (PcE E A h [rv a0]) (Qv E A h9) 0 0 A := by
  refine met_of (by decide +kernel) (by simp [lg_sl, cat_rv, cat_wv, cat_sv, cat_i, cat_l, cat_a]) (fun p e s m args below meth c ls X hr hlk hnm S hl => ?_)
  have hl : lv_has ls 1 [(0, rv a0)] := by simpa [lv_args, cat_rv, cat_wv, cat_sv, cat_i, cat_l, cat_a] using hl
  generalize hH : s.heap = H at S ⊢
  generalize hlo : ([] : List Loc) = locs at S ⊢
  clear hH hlo
  unfold fX13_forget at hf
  obtain ⟨hth, hf⟩ := gd_some hf
  refine g_aload_n X (or_rv _) dX13_forget_0 rfl (lv_at hl 0 rfl) ?_
  refine lv_iconst (v := 0) X.1 X.2.1 dX13_forget_1 (by decide) ?_
  refine g_pI X S fpX13_187 (Or.inl rfl) dX13_forget_2 hf (fun h H locs hm hf S => ?_)
  refine g_aload_n X (or_rv _) dX13_forget_5 rfl (lv_at hl 0 rfl) ?_
  refine lv_iconst (v := 0) X.1 X.2.1 dX13_forget_6 (by decide) ?_
  refine g_pI X S fpX13_351 (Or.inl rfl) dX13_forget_7 hf (fun h H locs hm hf S => ?_)
  cases hf; exact g_rv X S hr hlk dX13_forget_10
def fX13_isAsNoted_22 (k13 : Nat → Int32 → Int32 → Int32 → Hp → Option (Int32 × Hp)) (k22 : Nat → Int32 → Int32 → Int32 → Int32 → Hp → Option (Int32 × Hp)) (x0 : Nat) (x1 : Int32) (x2 : Int32) (x3 : Int32) (x4 : Int32) (h : Hp) : Option (Int32 × Hp) := ob (gI 11 x0 59 h) fun v1 => if v1 ≤ x4 then ob (gR 11 x0 3 h) fun v3 => ob (aI v3 278 h) fun v4 => if v4 = x2 then ob (fX13_aStep x0 h) fun h => lt (x3 + 1) fun z8 => k13 x0 x1 x2 z8 h else lt (x3 + 1) fun z6 => k13 x0 x1 x2 z6 h else if x1 = 0 then lt (x4 + 1) fun z10 => k22 x0 0 x2 x3 z10 h else ob (gR 11 x0 63 h) fun v11 => ob (aI v11 x4 h) fun v12 => if v12 = x3 then ob (gR 11 x0 3 h) fun v15 => ob (gR 11 x0 64 h) fun v16 => ob (aI v16 x4 h) fun v17 => ob (aI v15 v17 h) fun v18 => ob (gR 11 x0 65 h) fun v19 => ob (aI v19 x4 h) fun v20 => if v18 = v20 then lt (x4 + 1) fun z23 => k22 x0 1 x2 x3 z23 h else lt (x4 + 1) fun z22 => k22 x0 0 x2 x3 z22 h else lt (x4 + 1) fun z14 => k22 x0 1 x2 x3 z14 h
theorem wfX13_isAsNoted_22 {k13 : Nat → Int32 → Int32 → Int32 → Hp → Option (Int32 × Hp)} {k22 : Nat → Int32 → Int32 → Int32 → Int32 → Hp → Option (Int32 × Hp)} {r9 : Int32} {h9 : Hp} (X : Cx p E A 16 R s m args c cX13_isAsNoted yX13_isAsNoted.cls 5) (hr : meth.sig.returnType = (some .boolean)) (hlk : meth.locks = false) (hnm : meth.name = yX13_isAsNoted.name) (hk13 : ∀ (x0 : Nat) (x1 : Int32) (x2 : Int32) (x3 : Int32) (h : Hp) (H : Heap) (locs : List Loc) (ls : Array Slot), lv_has ls 5 [(0, rv x0), (1, .int x1), (2, .int x2), (3, .int x3)] → St E A s h H locs → k13 x0 x1 x2 x3 h = some (r9, h9) → W p l e R s m args below meth c H locs 0 0 (MQ below (Qi E A h9 r9) args s 0 0 A) (F0 m 13 ls [])) (hk22 : ∀ (x0 : Nat) (x1 : Int32) (x2 : Int32) (x3 : Int32) (x4 : Int32) (h : Hp) (H : Heap) (locs : List Loc) (ls : Array Slot), lv_has ls 5 [(0, rv x0), (1, .int x1), (2, .int x2), (3, .int x3), (4, .int x4)] → St E A s h H locs → k22 x0 x1 x2 x3 x4 h = some (r9, h9) → W p l e R s m args below meth c H locs 0 0 (MQ below (Qi E A h9 r9) args s 0 0 A) (F0 m 22 ls [])) :
    ∀ (x0 : Nat) (x1 : Int32) (x2 : Int32) (x3 : Int32) (x4 : Int32) (h : Hp) (H : Heap) (locs : List Loc) (ls : Array Slot), lv_has ls 5 [(0, rv x0), (1, .int x1), (2, .int x2), (3, .int x3), (4, .int x4)] → St E A s h H locs → fX13_isAsNoted_22 k13 k22 x0 x1 x2 x3 x4 h = some (r9, h9) → W p l e R s m args below meth c H locs 0 0 (MQ below (Qi E A h9 r9) args s 0 0 A) (F0 m 22 ls []) := by
  intro x0 x1 x2 x3 x4 h H locs ls hl S hf
  unfold fX13_isAsNoted_22 at hf
  refine lv_iload X.1 X.2.1 dX13_isAsNoted_22 (lv_at hl 4 rfl) ?_
  refine g_aload_n X (or_rv _) dX13_isAsNoted_24 rfl (lv_at hl 0 rfl) ?_
  refine g_gI X S foX13_351 rfl dX13_isAsNoted_25 hf (fun v1 hf => ?_)
  refine lv_icmp_ge (tgt := 80) X.1 X.2.1 dX13_isAsNoted_28 (by decide) (fun c2 => ?_) (fun c2 => ?_)
  · replace hf := (if_pos c2).symm.trans hf
    refine g_aload_n X (or_rv _) dX13_isAsNoted_80 rfl (lv_at hl 0 rfl) ?_
    refine g_gR X S foX13_76 dX13_isAsNoted_81 hf (fun v3 hf => ?_)
    refine lv_sipush (v := 278) X.1 X.2.1 dX13_isAsNoted_84 (by decide) ?_
    refine g_aI X S dX13_isAsNoted_87 hf (fun v4 hf => ?_)
    refine lv_iload_n X.1 X.2.1 dX13_isAsNoted_88 rfl (lv_at hl 2 rfl) ?_
    refine lv_icmp_ne (tgt := 96) X.1 X.2.1 dX13_isAsNoted_89 (by decide) (fun c5 => ?_) (fun c5 => ?_)
    · replace hf := (if_neg c5).symm.trans hf
      obtain ⟨z6, ez6, hf⟩ := lt_some hf
      refine lv_iinc (v := z6) (lv' := [(3, .int z6), (0, rv x0), (1, .int x1), (2, .int x2), (4, .int x4)]) X.1 X.2.1 dX13_isAsNoted_96 hl (k := 3) rfl (by rw [← ez6]; rfl) (by decide) rfl (fun ls hl => ?_)
      refine lv_goto (tgt := 13) X.1 X.2.1 dX13_isAsNoted_99 (by decide) ?_
      exact hk13 _ _ _ _ _ _ _ _ (lv_sub hl [1, 2, 3, 0] rfl) S hf
    · replace hf := (if_pos c5).symm.trans hf
      refine g_aload_n X (or_rv _) dX13_isAsNoted_92 rfl (lv_at hl 0 rfl) ?_
      obtain ⟨h, hc, hf⟩ := ob_some hf
      refine g_cv S (runV (As := []) (rest := []) X S coX13_587 (by decide) (cX13_aStep_m l hc) (tkX13_aStep hc) rfl hl.1 (by decide) rfl ⟨Nat.zero_le _, Nat.zero_le _⟩ dX13_isAsNoted_93) (fun H locs S => ?_)
      obtain ⟨z8, ez8, hf⟩ := lt_some hf
      refine lv_iinc (v := z8) (lv' := [(3, .int z8), (0, rv x0), (1, .int x1), (2, .int x2), (4, .int x4)]) X.1 X.2.1 dX13_isAsNoted_96 hl (k := 3) rfl (by rw [← ez8]; rfl) (by decide) rfl (fun ls hl => ?_)
      refine lv_goto (tgt := 13) X.1 X.2.1 dX13_isAsNoted_99 (by decide) ?_
      exact hk13 _ _ _ _ _ _ _ _ (lv_sub hl [1, 2, 3, 0] rfl) S hf
  · replace hf := (if_neg c2).symm.trans hf
    refine lv_iload_n X.1 X.2.1 dX13_isAsNoted_31 rfl (lv_at hl 1 rfl) ?_
    refine lv_if_eq (tgt := 72) X.1 X.2.1 dX13_isAsNoted_32 (by decide) (fun c9 => ?_) (fun c9 => ?_)
    · replace hf := (if_pos c9).symm.trans hf
      refine lv_iconst (v := 0) X.1 X.2.1 dX13_isAsNoted_72 (by decide) ?_
      refine lv_istore_n (i := 1) (lv' := [(1, .int 0), (0, rv x0), (2, .int x2), (3, .int x3), (4, .int x4)]) X.1 X.2.1 dX13_isAsNoted_73 rfl hl (by decide) (by simp [List.filter, cat_rv, cat_wv, cat_sv]) (fun ls hl => ?_)
      obtain ⟨z10, ez10, hf⟩ := lt_some hf
      refine lv_iinc (v := z10) (lv' := [(4, .int z10), (1, .int 0), (0, rv x0), (2, .int x2), (3, .int x3)]) X.1 X.2.1 dX13_isAsNoted_74 hl (k := 4) rfl (by rw [← ez10]; rfl) (by decide) rfl (fun ls hl => ?_)
      refine lv_goto (tgt := 22) X.1 X.2.1 dX13_isAsNoted_77 (by decide) ?_
      exact hk22 _ _ _ _ _ _ _ _ _ (lv_sub hl [2, 1, 3, 4, 0] rfl) S hf
    · replace hf := (if_neg c9).symm.trans hf
      refine g_aload_n X (or_rv _) dX13_isAsNoted_35 rfl (lv_at hl 0 rfl) ?_
      refine g_gR X S foX13_157 dX13_isAsNoted_36 hf (fun v11 hf => ?_)
      refine lv_iload X.1 X.2.1 dX13_isAsNoted_39 (lv_at hl 4 rfl) ?_
      refine g_aI X S dX13_isAsNoted_41 hf (fun v12 hf => ?_)
      refine lv_iload_n X.1 X.2.1 dX13_isAsNoted_42 rfl (lv_at hl 3 rfl) ?_
      refine lv_icmp_ne (tgt := 68) X.1 X.2.1 dX13_isAsNoted_43 (by decide) (fun c13 => ?_) (fun c13 => ?_)
      · replace hf := (if_neg c13).symm.trans hf
        refine lv_iconst (v := 1) X.1 X.2.1 dX13_isAsNoted_68 (by decide) ?_
        refine lv_goto (tgt := 73) X.1 X.2.1 dX13_isAsNoted_69 (by decide) ?_
        refine lv_istore_n (i := 1) (lv' := [(1, .int 1), (0, rv x0), (2, .int x2), (3, .int x3), (4, .int x4)]) X.1 X.2.1 dX13_isAsNoted_73 rfl hl (by decide) (by simp [List.filter, cat_rv, cat_wv, cat_sv]) (fun ls hl => ?_)
        obtain ⟨z14, ez14, hf⟩ := lt_some hf
        refine lv_iinc (v := z14) (lv' := [(4, .int z14), (1, .int 1), (0, rv x0), (2, .int x2), (3, .int x3)]) X.1 X.2.1 dX13_isAsNoted_74 hl (k := 4) rfl (by rw [← ez14]; rfl) (by decide) rfl (fun ls hl => ?_)
        refine lv_goto (tgt := 22) X.1 X.2.1 dX13_isAsNoted_77 (by decide) ?_
        exact hk22 _ _ _ _ _ _ _ _ _ (lv_sub hl [2, 1, 3, 4, 0] rfl) S hf
      · replace hf := (if_pos c13).symm.trans hf
        refine g_aload_n X (or_rv _) dX13_isAsNoted_46 rfl (lv_at hl 0 rfl) ?_
        refine g_gR X S foX13_76 dX13_isAsNoted_47 hf (fun v15 hf => ?_)
        refine g_aload_n X (or_rv _) dX13_isAsNoted_50 rfl (lv_at hl 0 rfl) ?_
        refine g_gR X S foX13_160 dX13_isAsNoted_51 hf (fun v16 hf => ?_)
        refine lv_iload X.1 X.2.1 dX13_isAsNoted_54 (lv_at hl 4 rfl) ?_
        refine g_aI X S dX13_isAsNoted_56 hf (fun v17 hf => ?_)
        refine g_aI X S dX13_isAsNoted_57 hf (fun v18 hf => ?_)
        refine g_aload_n X (or_rv _) dX13_isAsNoted_58 rfl (lv_at hl 0 rfl) ?_
        refine g_gR X S foX13_163 dX13_isAsNoted_59 hf (fun v19 hf => ?_)
        refine lv_iload X.1 X.2.1 dX13_isAsNoted_62 (lv_at hl 4 rfl) ?_
        refine g_aI X S dX13_isAsNoted_64 hf (fun v20 hf => ?_)
        refine lv_icmp_ne (tgt := 72) X.1 X.2.1 dX13_isAsNoted_65 (by decide) (fun c21 => ?_) (fun c21 => ?_)
        · replace hf := (if_neg c21).symm.trans hf
          refine lv_iconst (v := 0) X.1 X.2.1 dX13_isAsNoted_72 (by decide) ?_
          refine lv_istore_n (i := 1) (lv' := [(1, .int 0), (0, rv x0), (2, .int x2), (3, .int x3), (4, .int x4)]) X.1 X.2.1 dX13_isAsNoted_73 rfl hl (by decide) (by simp [List.filter, cat_rv, cat_wv, cat_sv]) (fun ls hl => ?_)
          obtain ⟨z22, ez22, hf⟩ := lt_some hf
          refine lv_iinc (v := z22) (lv' := [(4, .int z22), (1, .int 0), (0, rv x0), (2, .int x2), (3, .int x3)]) X.1 X.2.1 dX13_isAsNoted_74 hl (k := 4) rfl (by rw [← ez22]; rfl) (by decide) rfl (fun ls hl => ?_)
          refine lv_goto (tgt := 22) X.1 X.2.1 dX13_isAsNoted_77 (by decide) ?_
          exact hk22 _ _ _ _ _ _ _ _ _ (lv_sub hl [2, 1, 3, 4, 0] rfl) S hf
        · replace hf := (if_pos c21).symm.trans hf
          refine lv_iconst (v := 1) X.1 X.2.1 dX13_isAsNoted_68 (by decide) ?_
          refine lv_goto (tgt := 73) X.1 X.2.1 dX13_isAsNoted_69 (by decide) ?_
          refine lv_istore_n (i := 1) (lv' := [(1, .int 1), (0, rv x0), (2, .int x2), (3, .int x3), (4, .int x4)]) X.1 X.2.1 dX13_isAsNoted_73 rfl hl (by decide) (by simp [List.filter, cat_rv, cat_wv, cat_sv]) (fun ls hl => ?_)
          obtain ⟨z23, ez23, hf⟩ := lt_some hf
          refine lv_iinc (v := z23) (lv' := [(4, .int z23), (1, .int 1), (0, rv x0), (2, .int x2), (3, .int x3)]) X.1 X.2.1 dX13_isAsNoted_74 hl (k := 4) rfl (by rw [← ez23]; rfl) (by decide) rfl (fun ls hl => ?_)
          refine lv_goto (tgt := 22) X.1 X.2.1 dX13_isAsNoted_77 (by decide) ?_
          exact hk22 _ _ _ _ _ _ _ _ _ (lv_sub hl [2, 1, 3, 4, 0] rfl) S hf
theorem wfX13_isAsNoted_22_l {k13 : Nat → Int32 → Int32 → Int32 → Hp → Option (Int32 × Hp)} {r9 : Int32} {h9 : Hp} (X : Cx p E A 16 R s m args c cX13_isAsNoted yX13_isAsNoted.cls 5) (hr : meth.sig.returnType = (some .boolean)) (hlk : meth.locks = false) (hnm : meth.name = yX13_isAsNoted.name) (hk13 : ∀ (x0 : Nat) (x1 : Int32) (x2 : Int32) (x3 : Int32) (h : Hp) (H : Heap) (locs : List Loc) (ls : Array Slot), lv_has ls 5 [(0, rv x0), (1, .int x1), (2, .int x2), (3, .int x3)] → St E A s h H locs → k13 x0 x1 x2 x3 h = some (r9, h9) → W p l e R s m args below meth c H locs 0 0 (MQ below (Qi E A h9 r9) args s 0 0 A) (F0 m 13 ls [])) :
    ∀ (n : Nat) (x0 : Nat) (x1 : Int32) (x2 : Int32) (x3 : Int32) (x4 : Int32) (h : Hp) (H : Heap) (locs : List Loc) (ls : Array Slot), lv_has ls 5 [(0, rv x0), (1, .int x1), (2, .int x2), (3, .int x3), (4, .int x4)] → St E A s h H locs → lp (fun _ _ _ _ _ _ => none) (fX13_isAsNoted_22 k13) n x0 x1 x2 x3 x4 h = some (r9, h9) → W p l e R s m args below meth c H locs 0 0 (MQ below (Qi E A h9 r9) args s 0 0 A) (F0 m 22 ls []) := by
  intro n
  induction n with
  | zero =>
    intro x0 x1 x2 x3 x4 h H locs ls hl S hf
    exact nomatch hf
  | succ n ih =>
    intro x0 x1 x2 x3 x4 h H locs ls hl S hf
    exact wfX13_isAsNoted_22 X hr hlk hnm hk13 ih x0 x1 x2 x3 x4 h H locs ls hl S hf
def fX13_isAsNoted_13 (k13 : Nat → Int32 → Int32 → Int32 → Hp → Option (Int32 × Hp)) (x0 : Nat) (x1 : Int32) (x2 : Int32) (x3 : Int32) (h : Hp) : Option (Int32 × Hp) := if 60 < x3 then ob2 (fX13_back x0 0 h) fun v2 h => rz x1 (some (x1, h)) else lp (fun _ _ _ _ _ _ => none) (fX13_isAsNoted_22 k13) FU x0 x1 x2 x3 0 h
theorem wfX13_isAsNoted_13 {k13 : Nat → Int32 → Int32 → Int32 → Hp → Option (Int32 × Hp)} {r9 : Int32} {h9 : Hp} (X : Cx p E A 16 R s m args c cX13_isAsNoted yX13_isAsNoted.cls 5) (hr : meth.sig.returnType = (some .boolean)) (hlk : meth.locks = false) (hnm : meth.name = yX13_isAsNoted.name) (hk13 : ∀ (x0 : Nat) (x1 : Int32) (x2 : Int32) (x3 : Int32) (h : Hp) (H : Heap) (locs : List Loc) (ls : Array Slot), lv_has ls 5 [(0, rv x0), (1, .int x1), (2, .int x2), (3, .int x3)] → St E A s h H locs → k13 x0 x1 x2 x3 h = some (r9, h9) → W p l e R s m args below meth c H locs 0 0 (MQ below (Qi E A h9 r9) args s 0 0 A) (F0 m 13 ls [])) :
    ∀ (x0 : Nat) (x1 : Int32) (x2 : Int32) (x3 : Int32) (h : Hp) (H : Heap) (locs : List Loc) (ls : Array Slot), lv_has ls 5 [(0, rv x0), (1, .int x1), (2, .int x2), (3, .int x3)] → St E A s h H locs → fX13_isAsNoted_13 k13 x0 x1 x2 x3 h = some (r9, h9) → W p l e R s m args below meth c H locs 0 0 (MQ below (Qi E A h9 r9) args s 0 0 A) (F0 m 13 ls []) := by
  intro x0 x1 x2 x3 h H locs ls hl S hf
  unfold fX13_isAsNoted_13 at hf
  refine lv_iload_n X.1 X.2.1 dX13_isAsNoted_13 rfl (lv_at hl 3 rfl) ?_
  refine lv_bipush (v := 60) X.1 X.2.1 dX13_isAsNoted_14 (by decide) ?_
  refine lv_icmp_gt (tgt := 102) X.1 X.2.1 dX13_isAsNoted_16 (by decide) (fun c1 => ?_) (fun c1 => ?_)
  · replace hf := (if_pos c1).symm.trans hf
    refine g_aload_n X (or_rv _) dX13_isAsNoted_102 rfl (lv_at hl 0 rfl) ?_
    refine lv_iconst (v := 0) X.1 X.2.1 dX13_isAsNoted_103 (by decide) ?_
    obtain ⟨v2, h, hc, hf⟩ := ob2_some hf
    refine g_ci S (runV (As := [.int 0]) (rest := []) X S coX13_667 (by decide) (cX13_back_m l hc) (tkX13_back hc) rfl hl.1 (by decide) rfl ⟨Nat.zero_le _, Nat.zero_le _⟩ dX13_isAsNoted_104) (fun H locs S => ?_)
    refine lv_pop X.1 X.2.1 dX13_isAsNoted_107 rfl ?_
    refine lv_iload_n X.1 X.2.1 dX13_isAsNoted_108 rfl (lv_at hl 1 rfl) ?_
    obtain ⟨hz, hf⟩ := rz_some hf
    cases hf; exact g_rz X S hr hlk hz dX13_isAsNoted_109
  · replace hf := (if_neg c1).symm.trans hf
    refine lv_iconst (v := 0) X.1 X.2.1 dX13_isAsNoted_19 (by decide) ?_
    refine lv_istore (lv' := [(4, .int 0), (0, rv x0), (1, .int x1), (2, .int x2), (3, .int x3)]) X.1 X.2.1 dX13_isAsNoted_20 hl (by decide) rfl (fun ls hl => ?_)
    exact wfX13_isAsNoted_22_l X hr hlk hnm hk13 FU _ _ _ _ _ _ _ _ _ (lv_sub hl [1, 2, 3, 4, 0] rfl) S hf
theorem wfX13_isAsNoted_13_l {r9 : Int32} {h9 : Hp} (X : Cx p E A 16 R s m args c cX13_isAsNoted yX13_isAsNoted.cls 5) (hr : meth.sig.returnType = (some .boolean)) (hlk : meth.locks = false) (hnm : meth.name = yX13_isAsNoted.name) :
    ∀ (n : Nat) (x0 : Nat) (x1 : Int32) (x2 : Int32) (x3 : Int32) (h : Hp) (H : Heap) (locs : List Loc) (ls : Array Slot), lv_has ls 5 [(0, rv x0), (1, .int x1), (2, .int x2), (3, .int x3)] → St E A s h H locs → lp (fun _ _ _ _ _ => none) (fX13_isAsNoted_13) n x0 x1 x2 x3 h = some (r9, h9) → W p l e R s m args below meth c H locs 0 0 (MQ below (Qi E A h9 r9) args s 0 0 A) (F0 m 13 ls []) := by
  intro n
  induction n with
  | zero =>
    intro x0 x1 x2 x3 h H locs ls hl S hf
    exact nomatch hf
  | succ n ih =>
    intro x0 x1 x2 x3 h H locs ls hl S hf
    exact wfX13_isAsNoted_13 X hr hlk hnm ih x0 x1 x2 x3 h H locs ls hl S hf
def fX13_isAsNoted (a0 : Nat) (h : Hp) : Option (Int32 × Hp) := gd 11 a0 h (ob (gR 11 a0 3 h) fun v1 => ob (aI v1 278 h) fun v2 => lp (fun _ _ _ _ _ => none) (fX13_isAsNoted_13) FU a0 1 v2 0 h)
theorem tkX13_isAsNoted {a0 : Nat} {h : Hp} {r9 : Int32 × Hp} (e : fX13_isAsNoted a0 h = some r9) : hK h a0 = 11 := by
  unfold fX13_isAsNoted at e
  exact (gd_some e).1
theorem cX13_isAsNoted_m (l : Launch) {E : EE} {A : Nat → Prop} {a0 : Nat} {h : Hp} {r9 : Int32} {h9 : Hp} (hf : fX13_isAsNoted a0 h = some (r9, h9)) : Met l yX13_isAsNoted (wsM yX13_isAsNoted cX13_isAsNoted 5 (some .boolean)) (rmm 16 0 0) (PcE E A h [rv a0]) (Qi E A h9 r9) 0 0 A := by
  refine met_of (by decide +kernel) (by simp [lg_sl, cat_rv, cat_wv, cat_sv, cat_i, cat_l, cat_a]) (fun p e s m args below meth c ls X hr hlk hnm S hl => ?_)
  have hl : lv_has ls 5 [(0, rv a0)] := by simpa [lv_args, cat_rv, cat_wv, cat_sv, cat_i, cat_l, cat_a] using hl
  generalize hH : s.heap = H at S ⊢
  generalize hlo : ([] : List Loc) = locs at S ⊢
  clear hH hlo
  unfold fX13_isAsNoted at hf
  obtain ⟨hth, hf⟩ := gd_some hf
  refine lv_iconst (v := 1) X.1 X.2.1 dX13_isAsNoted_0 (by decide) ?_
  refine lv_istore_n (i := 1) (lv' := [(1, .int 1), (0, rv a0)]) X.1 X.2.1 dX13_isAsNoted_1 rfl hl (by decide) (by simp [List.filter, cat_rv, cat_wv, cat_sv]) (fun ls hl => ?_)
  refine g_aload_n X (or_rv _) dX13_isAsNoted_2 rfl (lv_at hl 1 rfl) ?_
  refine g_gR X S foX13_76 dX13_isAsNoted_3 hf (fun v1 hf => ?_)
  refine lv_sipush (v := 278) X.1 X.2.1 dX13_isAsNoted_6 (by decide) ?_
  refine g_aI X S dX13_isAsNoted_9 hf (fun v2 hf => ?_)
  refine lv_istore_n (i := 2) (lv' := [(2, .int v2), (1, .int 1), (0, rv a0)]) X.1 X.2.1 dX13_isAsNoted_10 rfl hl (by decide) rfl (fun ls hl => ?_)
  refine lv_iconst (v := 0) X.1 X.2.1 dX13_isAsNoted_11 (by decide) ?_
  refine lv_istore_n (i := 3) (lv' := [(3, .int 0), (2, .int v2), (1, .int 1), (0, rv a0)]) X.1 X.2.1 dX13_isAsNoted_12 rfl hl (by decide) rfl (fun ls hl => ?_)
  exact wfX13_isAsNoted_13_l X hr hlk hnm FU _ _ _ _ _ _ _ _ (lv_sub hl [3, 2, 1, 0] rfl) S hf
def fX13_blamed_85 (k72 : Nat → Int32 → Int32 → Int32 → Int32 → Int32 → Int32 → Hp → Option (Int32 × Hp)) (k85 : Nat → Int32 → Int32 → Int32 → Int32 → Int32 → Int32 → Int32 → Hp → Option (Int32 × Hp)) (x0 : Nat) (x1 : Int32) (x2 : Int32) (x3 : Int32) (x4 : Int32) (x5 : Int32) (x6 : Int32) (x7 : Int32) (h : Hp) : Option (Int32 × Hp) := if 16 ≤ x7 then lt (x6 + 1) fun z2 => k72 x0 x1 x2 x3 x4 x5 z2 h else ob (fX13_halfAt x0 x6 h) fun v3 => if x7 = v3 then lt (x7 + 1) fun z14 => k85 x0 x1 x2 x3 x4 x5 x6 z14 h else ob (fX13_layHalf x0 x6 x7 h) fun h => ob2 (fX13_isAsNoted x0 h) fun v6 h => if v6 = 0 then lt (x7 + 1) fun z13 => k85 x0 x1 x2 x3 x4 x5 x6 z13 h else lt (x4 + 1) fun z8 => if x5 = (-1) then lt ((100 * x6) + x7) fun z11 => lt (x7 + 1) fun z12 => k85 x0 x1 x2 x3 z8 z11 x6 z12 h else lt (x7 + 1) fun z10 => k85 x0 x1 x2 x3 z8 x5 x6 z10 h
theorem wfX13_blamed_85 {k72 : Nat → Int32 → Int32 → Int32 → Int32 → Int32 → Int32 → Hp → Option (Int32 × Hp)} {k85 : Nat → Int32 → Int32 → Int32 → Int32 → Int32 → Int32 → Int32 → Hp → Option (Int32 × Hp)} {r9 : Int32} {h9 : Hp} (X : Cx p E A 17 R s m args c cX13_blamed yX13_blamed.cls 8) (hr : meth.sig.returnType = (some .int)) (hlk : meth.locks = false) (hnm : meth.name = yX13_blamed.name) (hk72 : ∀ (x0 : Nat) (x1 : Int32) (x2 : Int32) (x3 : Int32) (x4 : Int32) (x5 : Int32) (x6 : Int32) (h : Hp) (H : Heap) (locs : List Loc) (ls : Array Slot), lv_has ls 8 [(0, rv x0), (1, .int x1), (2, .int x2), (3, .int x3), (4, .int x4), (5, .int x5), (6, .int x6)] → St E A s h H locs → k72 x0 x1 x2 x3 x4 x5 x6 h = some (r9, h9) → W p l e R s m args below meth c H locs 0 0 (MQ below (Qi E A h9 r9) args s 0 0 A) (F0 m 72 ls [])) (hk85 : ∀ (x0 : Nat) (x1 : Int32) (x2 : Int32) (x3 : Int32) (x4 : Int32) (x5 : Int32) (x6 : Int32) (x7 : Int32) (h : Hp) (H : Heap) (locs : List Loc) (ls : Array Slot), lv_has ls 8 [(0, rv x0), (1, .int x1), (2, .int x2), (3, .int x3), (4, .int x4), (5, .int x5), (6, .int x6), (7, .int x7)] → St E A s h H locs → k85 x0 x1 x2 x3 x4 x5 x6 x7 h = some (r9, h9) → W p l e R s m args below meth c H locs 0 0 (MQ below (Qi E A h9 r9) args s 0 0 A) (F0 m 85 ls [])) :
    ∀ (x0 : Nat) (x1 : Int32) (x2 : Int32) (x3 : Int32) (x4 : Int32) (x5 : Int32) (x6 : Int32) (x7 : Int32) (h : Hp) (H : Heap) (locs : List Loc) (ls : Array Slot), lv_has ls 8 [(0, rv x0), (1, .int x1), (2, .int x2), (3, .int x3), (4, .int x4), (5, .int x5), (6, .int x6), (7, .int x7)] → St E A s h H locs → fX13_blamed_85 k72 k85 x0 x1 x2 x3 x4 x5 x6 x7 h = some (r9, h9) → W p l e R s m args below meth c H locs 0 0 (MQ below (Qi E A h9 r9) args s 0 0 A) (F0 m 85 ls []) := by
  intro x0 x1 x2 x3 x4 x5 x6 x7 h H locs ls hl S hf
  unfold fX13_blamed_85 at hf
  refine lv_iload X.1 X.2.1 dX13_blamed_85 (lv_at hl 7 rfl) ?_
  refine lv_bipush (v := 16) X.1 X.2.1 dX13_blamed_87 (by decide) ?_
  refine lv_icmp_ge (tgt := 154) X.1 X.2.1 dX13_blamed_89 (by decide) (fun c1 => ?_) (fun c1 => ?_)
  · replace hf := (if_pos c1).symm.trans hf
    obtain ⟨z2, ez2, hf⟩ := lt_some hf
    refine lv_iinc (v := z2) (lv' := [(6, .int z2), (0, rv x0), (1, .int x1), (2, .int x2), (3, .int x3), (4, .int x4), (5, .int x5), (7, .int x7)]) X.1 X.2.1 dX13_blamed_154 hl (k := 6) rfl (by rw [← ez2]; rfl) (by decide) rfl (fun ls hl => ?_)
    refine lv_goto (tgt := 72) X.1 X.2.1 dX13_blamed_157 (by decide) ?_
    exact hk72 _ _ _ _ _ _ _ _ _ _ _ (lv_sub hl [1, 2, 3, 4, 5, 6, 0] rfl) S hf
  · replace hf := (if_neg c1).symm.trans hf
    refine lv_iload X.1 X.2.1 dX13_blamed_92 (lv_at hl 7 rfl) ?_
    refine g_aload_n X (or_rv _) dX13_blamed_94 rfl (lv_at hl 0 rfl) ?_
    refine lv_iload X.1 X.2.1 dX13_blamed_95 (lv_at hl 6 rfl) ?_
    obtain ⟨v3, hc, hf⟩ := ob_some hf
    refine g_ci S (runV (As := [.int x6]) (rest := [.int x7]) X S coX13_374 (by decide) (cX13_halfAt_m l hc) (tkX13_halfAt hc) rfl hl.1 (by simp [cat_rv, cat_wv, cat_sv, cat_i, cat_l, cat_a]) rfl ⟨Nat.zero_le _, Nat.zero_le _⟩ dX13_blamed_97) (fun H locs S => ?_)
    refine lv_icmp_ne (tgt := 106) X.1 X.2.1 dX13_blamed_100 (by decide) (fun c4 => ?_) (fun c4 => ?_)
    · replace hf := (if_neg c4).symm.trans hf
      refine g_aload_n X (or_rv _) dX13_blamed_106 rfl (lv_at hl 0 rfl) ?_
      refine lv_iload X.1 X.2.1 dX13_blamed_107 (lv_at hl 6 rfl) ?_
      refine lv_iload X.1 X.2.1 dX13_blamed_109 (lv_at hl 7 rfl) ?_
      obtain ⟨h, hc, hf⟩ := ob_some hf
      refine g_cv S (runV (As := [.int x6, .int x7]) (rest := []) X S coX13_381 (by decide) (cX13_layHalf_m l hc) (tkX13_layHalf hc) rfl hl.1 (by decide) rfl ⟨Nat.zero_le _, Nat.zero_le _⟩ dX13_blamed_111) (fun H locs S => ?_)
      refine g_aload_n X (or_rv _) dX13_blamed_114 rfl (lv_at hl 0 rfl) ?_
      obtain ⟨v6, h, hc, hf⟩ := ob2_some hf
      refine g_ci S (runV (As := []) (rest := []) X S coX13_693 (by decide) (cX13_isAsNoted_m l hc) (tkX13_isAsNoted hc) rfl hl.1 (by decide) rfl ⟨Nat.zero_le _, Nat.zero_le _⟩ dX13_blamed_115) (fun H locs S => ?_)
      refine lv_if_ne (tgt := 124) X.1 X.2.1 dX13_blamed_118 (by decide) (fun c7 => ?_) (fun c7 => ?_)
      · replace hf := (if_neg c7).symm.trans hf
        obtain ⟨z8, ez8, hf⟩ := lt_some hf
        refine lv_iinc (v := z8) (lv' := [(4, .int z8), (0, rv x0), (1, .int x1), (2, .int x2), (3, .int x3), (5, .int x5), (6, .int x6), (7, .int x7)]) X.1 X.2.1 dX13_blamed_124 hl (k := 4) rfl (by rw [← ez8]; rfl) (by decide) rfl (fun ls hl => ?_)
        refine lv_iload X.1 X.2.1 dX13_blamed_127 (lv_at hl 5 rfl) ?_
        refine lv_iconst (v := (-1)) X.1 X.2.1 dX13_blamed_129 (by decide) ?_
        refine lv_icmp_ne (tgt := 144) X.1 X.2.1 dX13_blamed_130 (by decide) (fun c9 => ?_) (fun c9 => ?_)
        · replace hf := (if_neg c9).symm.trans hf
          refine lv_iload X.1 X.2.1 dX13_blamed_144 (lv_at hl 5 rfl) ?_
          refine lv_istore (lv' := [(5, .int x5), (4, .int z8), (0, rv x0), (1, .int x1), (2, .int x2), (3, .int x3), (6, .int x6), (7, .int x7)]) X.1 X.2.1 dX13_blamed_146 hl (by decide) rfl (fun ls hl => ?_)
          obtain ⟨z10, ez10, hf⟩ := lt_some hf
          refine lv_iinc (v := z10) (lv' := [(7, .int z10), (5, .int x5), (4, .int z8), (0, rv x0), (1, .int x1), (2, .int x2), (3, .int x3), (6, .int x6)]) X.1 X.2.1 dX13_blamed_148 hl (k := 7) rfl (by rw [← ez10]; rfl) (by decide) rfl (fun ls hl => ?_)
          refine lv_goto (tgt := 85) X.1 X.2.1 dX13_blamed_151 (by decide) ?_
          exact hk85 _ _ _ _ _ _ _ _ _ _ _ _ (lv_sub hl [3, 4, 5, 6, 2, 1, 7, 0] rfl) S hf
        · replace hf := (if_pos c9).symm.trans hf
          refine lv_bipush (v := 100) X.1 X.2.1 dX13_blamed_133 (by decide) ?_
          refine lv_iload X.1 X.2.1 dX13_blamed_135 (lv_at hl 6 rfl) ?_
          refine lv_imul X.1 X.2.1 dX13_blamed_137 ?_
          refine lv_iload X.1 X.2.1 dX13_blamed_138 (lv_at hl 7 rfl) ?_
          refine lv_iadd X.1 X.2.1 dX13_blamed_140 ?_
          refine lv_goto (tgt := 146) X.1 X.2.1 dX13_blamed_141 (by decide) ?_
          refine g_lti hf (fun z11 hf => ?_)
          refine lv_istore (lv' := [(5, .int z11), (4, .int z8), (0, rv x0), (1, .int x1), (2, .int x2), (3, .int x3), (6, .int x6), (7, .int x7)]) X.1 X.2.1 dX13_blamed_146 hl (by decide) rfl (fun ls hl => ?_)
          obtain ⟨z12, ez12, hf⟩ := lt_some hf
          refine lv_iinc (v := z12) (lv' := [(7, .int z12), (5, .int z11), (4, .int z8), (0, rv x0), (1, .int x1), (2, .int x2), (3, .int x3), (6, .int x6)]) X.1 X.2.1 dX13_blamed_148 hl (k := 7) rfl (by rw [← ez12]; rfl) (by decide) rfl (fun ls hl => ?_)
          refine lv_goto (tgt := 85) X.1 X.2.1 dX13_blamed_151 (by decide) ?_
          exact hk85 _ _ _ _ _ _ _ _ _ _ _ _ (lv_sub hl [3, 4, 5, 6, 2, 1, 7, 0] rfl) S hf
      · replace hf := (if_pos c7).symm.trans hf
        refine lv_goto (tgt := 148) X.1 X.2.1 dX13_blamed_121 (by decide) ?_
        obtain ⟨z13, ez13, hf⟩ := lt_some hf
        refine lv_iinc (v := z13) (lv' := [(7, .int z13), (0, rv x0), (1, .int x1), (2, .int x2), (3, .int x3), (4, .int x4), (5, .int x5), (6, .int x6)]) X.1 X.2.1 dX13_blamed_148 hl (k := 7) rfl (by rw [← ez13]; rfl) (by decide) rfl (fun ls hl => ?_)
        refine lv_goto (tgt := 85) X.1 X.2.1 dX13_blamed_151 (by decide) ?_
        exact hk85 _ _ _ _ _ _ _ _ _ _ _ _ (lv_sub hl [1, 2, 3, 4, 5, 6, 7, 0] rfl) S hf
    · replace hf := (if_pos c4).symm.trans hf
      refine lv_goto (tgt := 148) X.1 X.2.1 dX13_blamed_103 (by decide) ?_
      obtain ⟨z14, ez14, hf⟩ := lt_some hf
      refine lv_iinc (v := z14) (lv' := [(7, .int z14), (0, rv x0), (1, .int x1), (2, .int x2), (3, .int x3), (4, .int x4), (5, .int x5), (6, .int x6)]) X.1 X.2.1 dX13_blamed_148 hl (k := 7) rfl (by rw [← ez14]; rfl) (by decide) rfl (fun ls hl => ?_)
      refine lv_goto (tgt := 85) X.1 X.2.1 dX13_blamed_151 (by decide) ?_
      exact hk85 _ _ _ _ _ _ _ _ _ _ _ _ (lv_sub hl [1, 2, 3, 4, 5, 6, 7, 0] rfl) S hf
theorem wfX13_blamed_85_l {k72 : Nat → Int32 → Int32 → Int32 → Int32 → Int32 → Int32 → Hp → Option (Int32 × Hp)} {r9 : Int32} {h9 : Hp} (X : Cx p E A 17 R s m args c cX13_blamed yX13_blamed.cls 8) (hr : meth.sig.returnType = (some .int)) (hlk : meth.locks = false) (hnm : meth.name = yX13_blamed.name) (hk72 : ∀ (x0 : Nat) (x1 : Int32) (x2 : Int32) (x3 : Int32) (x4 : Int32) (x5 : Int32) (x6 : Int32) (h : Hp) (H : Heap) (locs : List Loc) (ls : Array Slot), lv_has ls 8 [(0, rv x0), (1, .int x1), (2, .int x2), (3, .int x3), (4, .int x4), (5, .int x5), (6, .int x6)] → St E A s h H locs → k72 x0 x1 x2 x3 x4 x5 x6 h = some (r9, h9) → W p l e R s m args below meth c H locs 0 0 (MQ below (Qi E A h9 r9) args s 0 0 A) (F0 m 72 ls [])) :
    ∀ (n : Nat) (x0 : Nat) (x1 : Int32) (x2 : Int32) (x3 : Int32) (x4 : Int32) (x5 : Int32) (x6 : Int32) (x7 : Int32) (h : Hp) (H : Heap) (locs : List Loc) (ls : Array Slot), lv_has ls 8 [(0, rv x0), (1, .int x1), (2, .int x2), (3, .int x3), (4, .int x4), (5, .int x5), (6, .int x6), (7, .int x7)] → St E A s h H locs → lp (fun _ _ _ _ _ _ _ _ _ => none) (fX13_blamed_85 k72) n x0 x1 x2 x3 x4 x5 x6 x7 h = some (r9, h9) → W p l e R s m args below meth c H locs 0 0 (MQ below (Qi E A h9 r9) args s 0 0 A) (F0 m 85 ls []) := by
  intro n
  induction n with
  | zero =>
    intro x0 x1 x2 x3 x4 x5 x6 x7 h H locs ls hl S hf
    exact nomatch hf
  | succ n ih =>
    intro x0 x1 x2 x3 x4 x5 x6 x7 h H locs ls hl S hf
    exact wfX13_blamed_85 X hr hlk hnm hk72 ih x0 x1 x2 x3 x4 x5 x6 x7 h H locs ls hl S hf
def fX13_blamed_72 (k72 : Nat → Int32 → Int32 → Int32 → Int32 → Int32 → Int32 → Hp → Option (Int32 × Hp)) (x0 : Nat) (x1 : Int32) (x2 : Int32) (x3 : Int32) (x4 : Int32) (x5 : Int32) (x6 : Int32) (h : Hp) : Option (Int32 × Hp) := if (2 * (x1 + x2)) ≤ x6 then if x3 = 0 then some (x4, h) else some (x5, h) else lp (fun _ _ _ _ _ _ _ _ _ => none) (fX13_blamed_85 k72) FU x0 x1 x2 x3 x4 x5 x6 0 h
theorem wfX13_blamed_72 {k72 : Nat → Int32 → Int32 → Int32 → Int32 → Int32 → Int32 → Hp → Option (Int32 × Hp)} {r9 : Int32} {h9 : Hp} (X : Cx p E A 17 R s m args c cX13_blamed yX13_blamed.cls 8) (hr : meth.sig.returnType = (some .int)) (hlk : meth.locks = false) (hnm : meth.name = yX13_blamed.name) (hk72 : ∀ (x0 : Nat) (x1 : Int32) (x2 : Int32) (x3 : Int32) (x4 : Int32) (x5 : Int32) (x6 : Int32) (h : Hp) (H : Heap) (locs : List Loc) (ls : Array Slot), lv_has ls 8 [(0, rv x0), (1, .int x1), (2, .int x2), (3, .int x3), (4, .int x4), (5, .int x5), (6, .int x6)] → St E A s h H locs → k72 x0 x1 x2 x3 x4 x5 x6 h = some (r9, h9) → W p l e R s m args below meth c H locs 0 0 (MQ below (Qi E A h9 r9) args s 0 0 A) (F0 m 72 ls [])) :
    ∀ (x0 : Nat) (x1 : Int32) (x2 : Int32) (x3 : Int32) (x4 : Int32) (x5 : Int32) (x6 : Int32) (h : Hp) (H : Heap) (locs : List Loc) (ls : Array Slot), lv_has ls 8 [(0, rv x0), (1, .int x1), (2, .int x2), (3, .int x3), (4, .int x4), (5, .int x5), (6, .int x6)] → St E A s h H locs → fX13_blamed_72 k72 x0 x1 x2 x3 x4 x5 x6 h = some (r9, h9) → W p l e R s m args below meth c H locs 0 0 (MQ below (Qi E A h9 r9) args s 0 0 A) (F0 m 72 ls []) := by
  intro x0 x1 x2 x3 x4 x5 x6 h H locs ls hl S hf
  unfold fX13_blamed_72 at hf
  refine lv_iload X.1 X.2.1 dX13_blamed_72 (lv_at hl 6 rfl) ?_
  refine lv_iconst (v := 2) X.1 X.2.1 dX13_blamed_74 (by decide) ?_
  refine lv_iload_n X.1 X.2.1 dX13_blamed_75 rfl (lv_at hl 1 rfl) ?_
  refine lv_iload_n X.1 X.2.1 dX13_blamed_76 rfl (lv_at hl 2 rfl) ?_
  refine lv_iadd X.1 X.2.1 dX13_blamed_77 ?_
  refine lv_imul X.1 X.2.1 dX13_blamed_78 ?_
  refine lv_icmp_ge (tgt := 160) X.1 X.2.1 dX13_blamed_79 (by decide) (fun c1 => ?_) (fun c1 => ?_)
  · replace hf := (if_pos c1).symm.trans hf
    refine lv_iload_n X.1 X.2.1 dX13_blamed_160 rfl (lv_at hl 3 rfl) ?_
    refine lv_if_ne (tgt := 169) X.1 X.2.1 dX13_blamed_161 (by decide) (fun c2 => ?_) (fun c2 => ?_)
    · replace hf := (if_neg c2).symm.trans hf
      refine lv_iload X.1 X.2.1 dX13_blamed_169 (lv_at hl 5 rfl) ?_
      cases hf; exact g_ri X S hr hlk dX13_blamed_171
    · replace hf := (if_pos c2).symm.trans hf
      refine lv_iload X.1 X.2.1 dX13_blamed_164 (lv_at hl 4 rfl) ?_
      refine lv_goto (tgt := 171) X.1 X.2.1 dX13_blamed_166 (by decide) ?_
      cases hf; exact g_ri X S hr hlk dX13_blamed_171
  · replace hf := (if_neg c1).symm.trans hf
    refine lv_iconst (v := 0) X.1 X.2.1 dX13_blamed_82 (by decide) ?_
    refine lv_istore (lv' := [(7, .int 0), (0, rv x0), (1, .int x1), (2, .int x2), (3, .int x3), (4, .int x4), (5, .int x5), (6, .int x6)]) X.1 X.2.1 dX13_blamed_83 hl (by decide) rfl (fun ls hl => ?_)
    exact wfX13_blamed_85_l X hr hlk hnm hk72 FU _ _ _ _ _ _ _ _ _ _ _ _ (lv_sub hl [1, 2, 3, 4, 5, 6, 7, 0] rfl) S hf
theorem wfX13_blamed_72_l {r9 : Int32} {h9 : Hp} (X : Cx p E A 17 R s m args c cX13_blamed yX13_blamed.cls 8) (hr : meth.sig.returnType = (some .int)) (hlk : meth.locks = false) (hnm : meth.name = yX13_blamed.name) :
    ∀ (n : Nat) (x0 : Nat) (x1 : Int32) (x2 : Int32) (x3 : Int32) (x4 : Int32) (x5 : Int32) (x6 : Int32) (h : Hp) (H : Heap) (locs : List Loc) (ls : Array Slot), lv_has ls 8 [(0, rv x0), (1, .int x1), (2, .int x2), (3, .int x3), (4, .int x4), (5, .int x5), (6, .int x6)] → St E A s h H locs → lp (fun _ _ _ _ _ _ _ _ => none) (fX13_blamed_72) n x0 x1 x2 x3 x4 x5 x6 h = some (r9, h9) → W p l e R s m args below meth c H locs 0 0 (MQ below (Qi E A h9 r9) args s 0 0 A) (F0 m 72 ls []) := by
  intro n
  induction n with
  | zero =>
    intro x0 x1 x2 x3 x4 x5 x6 h H locs ls hl S hf
    exact nomatch hf
  | succ n ih =>
    intro x0 x1 x2 x3 x4 x5 x6 h H locs ls hl S hf
    exact wfX13_blamed_72 X hr hlk hnm ih x0 x1 x2 x3 x4 x5 x6 h H locs ls hl S hf
def fX13_blamed (a0 : Nat) (a1 : Int32) (a2 : Int32) (a3 : Int32) (h : Hp) : Option (Int32 × Hp) := gd 11 a0 h (ob (pI 11 a0 2 0 h) fun h => ob (fX13_isIn (Int32.toInt64 a3) 0 2) fun v1 => if v1 = 0 then ob2 (fX13_fail a0 1 h) fun v11 h => some (v11, h) else ob (fX13_isField a0 a1 a2 3 h) fun v3 => if v3 = 0 then ob2 (fX13_fail a0 2 h) fun v10 h => some (v10, h) else ob (fX13_rememberNow a0 h) fun h => if a3 = 2 then ob2 (fX13_isAsNoted a0 h) fun v8 h => if v8 = 0 then some (0, h) else some (1, h) else lt (2 * a1) fun z7 => lp (fun _ _ _ _ _ _ _ _ => none) (fX13_blamed_72) FU a0 a1 a2 a3 0 (-1) z7 h)
theorem tkX13_blamed {a0 : Nat} {a1 : Int32} {a2 : Int32} {a3 : Int32} {h : Hp} {r9 : Int32 × Hp} (e : fX13_blamed a0 a1 a2 a3 h = some r9) : hK h a0 = 11 := by
  unfold fX13_blamed at e
  exact (gd_some e).1
theorem cX13_blamed_m (l : Launch) {E : EE} {A : Nat → Prop} {a0 : Nat} {a1 : Int32} {a2 : Int32} {a3 : Int32} {h : Hp} {r9 : Int32} {h9 : Hp} (hf : fX13_blamed a0 a1 a2 a3 h = some (r9, h9)) : Met l yX13_blamed (wsM yX13_blamed cX13_blamed 8 (some .int)) (rmm 17 0 0) (PcE E A h [rv a0, .int a1, .int a2, .int a3]) (Qi E A h9 r9) 0 0 A := by
  refine met_of (by decide +kernel) (by simp [lg_sl, cat_rv, cat_wv, cat_sv, cat_i, cat_l, cat_a]) (fun p e s m args below meth c ls X hr hlk hnm S hl => ?_)
  have hl : lv_has ls 8 [(0, rv a0), (1, .int a1), (2, .int a2), (3, .int a3)] := by simpa [lv_args, cat_rv, cat_wv, cat_sv, cat_i, cat_l, cat_a] using hl
  generalize hH : s.heap = H at S ⊢
  generalize hlo : ([] : List Loc) = locs at S ⊢
  clear hH hlo
  unfold fX13_blamed at hf
  obtain ⟨hth, hf⟩ := gd_some hf
  refine g_aload_n X (or_rv _) dX13_blamed_0 rfl (lv_at hl 0 rfl) ?_
  refine lv_iconst (v := 0) X.1 X.2.1 dX13_blamed_1 (by decide) ?_
  refine g_pI X S fpX13_187 (Or.inl rfl) dX13_blamed_2 hf (fun h H locs hm hf S => ?_)
  refine lv_iload_n X.1 X.2.1 dX13_blamed_5 rfl (lv_at hl 3 rfl) ?_
  refine lv_i2l (v := Int32.toInt64 a3) X.1 X.2.1 dX13_blamed_6 rfl ?_
  refine lv_lconst (v := 0) X.1 X.2.1 dX13_blamed_7 (by decide) ?_
  refine lv_ldc2 X.1 X.2.1 X.2.2.2.1 (X.2.2.1 _ kuX13_597) dX13_blamed_8 ?_
  obtain ⟨v1, hc, hf⟩ := ob_some hf
  refine g_ci S (runS (As := [.long (Int32.toInt64 a3), .long 0, .long 2]) (rest := []) X S coX13_287 (by decide) (cX13_isIn_m l hc) rfl hl.1 (by decide) rfl ⟨Nat.zero_le _, Nat.zero_le _⟩ dX13_blamed_11) (fun H locs S => ?_)
  refine lv_if_ne (tgt := 23) X.1 X.2.1 dX13_blamed_14 (by decide) (fun c2 => ?_) (fun c2 => ?_)
  · replace hf := (if_neg c2).symm.trans hf
    refine g_aload_n X (or_rv _) dX13_blamed_23 rfl (lv_at hl 0 rfl) ?_
    refine lv_iload_n X.1 X.2.1 dX13_blamed_24 rfl (lv_at hl 1 rfl) ?_
    refine lv_iload_n X.1 X.2.1 dX13_blamed_25 rfl (lv_at hl 2 rfl) ?_
    refine lv_iconst (v := 3) X.1 X.2.1 dX13_blamed_26 (by decide) ?_
    obtain ⟨v3, hc, hf⟩ := ob_some hf
    refine g_ci S (runV (As := [.int a1, .int a2, .int 3]) (rest := []) X S coX13_603 (by decide) (cX13_isField_m l hc) (tkX13_isField hc) rfl hl.1 (by decide) rfl ⟨Nat.zero_le _, Nat.zero_le _⟩ dX13_blamed_27) (fun H locs S => ?_)
    refine lv_if_ne (tgt := 39) X.1 X.2.1 dX13_blamed_30 (by decide) (fun c4 => ?_) (fun c4 => ?_)
    · replace hf := (if_neg c4).symm.trans hf
      refine g_aload_n X (or_rv _) dX13_blamed_39 rfl (lv_at hl 0 rfl) ?_
      obtain ⟨h, hc, hf⟩ := ob_some hf
      refine g_cv S (runV (As := []) (rest := []) X S coX13_664 (by decide) (cX13_rememberNow_m l hc) (tkX13_rememberNow hc) rfl hl.1 (by decide) rfl ⟨Nat.zero_le _, Nat.zero_le _⟩ dX13_blamed_40) (fun H locs S => ?_)
      refine lv_iload_n X.1 X.2.1 dX13_blamed_43 rfl (lv_at hl 3 rfl) ?_
      refine lv_iconst (v := 2) X.1 X.2.1 dX13_blamed_44 (by decide) ?_
      refine lv_icmp_ne (tgt := 61) X.1 X.2.1 dX13_blamed_45 (by decide) (fun c6 => ?_) (fun c6 => ?_)
      · replace hf := (if_neg c6).symm.trans hf
        refine lv_iconst (v := 0) X.1 X.2.1 dX13_blamed_61 (by decide) ?_
        refine lv_istore (lv' := [(4, .int 0), (0, rv a0), (1, .int a1), (2, .int a2), (3, .int a3)]) X.1 X.2.1 dX13_blamed_62 hl (by decide) rfl (fun ls hl => ?_)
        refine lv_iconst (v := (-1)) X.1 X.2.1 dX13_blamed_64 (by decide) ?_
        refine lv_istore (lv' := [(5, .int (-1)), (4, .int 0), (0, rv a0), (1, .int a1), (2, .int a2), (3, .int a3)]) X.1 X.2.1 dX13_blamed_65 hl (by decide) rfl (fun ls hl => ?_)
        refine lv_iconst (v := 2) X.1 X.2.1 dX13_blamed_67 (by decide) ?_
        refine lv_iload_n X.1 X.2.1 dX13_blamed_68 rfl (lv_at hl 3 rfl) ?_
        refine lv_imul X.1 X.2.1 dX13_blamed_69 ?_
        refine g_lti hf (fun z7 hf => ?_)
        refine lv_istore (lv' := [(6, .int z7), (5, .int (-1)), (4, .int 0), (0, rv a0), (1, .int a1), (2, .int a2), (3, .int a3)]) X.1 X.2.1 dX13_blamed_70 hl (by decide) rfl (fun ls hl => ?_)
        exact wfX13_blamed_72_l X hr hlk hnm FU _ _ _ _ _ _ _ _ _ _ _ (lv_sub hl [3, 4, 5, 6, 2, 1, 0] rfl) S hf
      · replace hf := (if_pos c6).symm.trans hf
        refine g_aload_n X (or_rv _) dX13_blamed_48 rfl (lv_at hl 0 rfl) ?_
        obtain ⟨v8, h, hc, hf⟩ := ob2_some hf
        refine g_ci S (runV (As := []) (rest := []) X S coX13_693 (by decide) (cX13_isAsNoted_m l hc) (tkX13_isAsNoted hc) rfl hl.1 (by decide) rfl ⟨Nat.zero_le _, Nat.zero_le _⟩ dX13_blamed_49) (fun H locs S => ?_)
        refine lv_if_eq (tgt := 59) X.1 X.2.1 dX13_blamed_52 (by decide) (fun c9 => ?_) (fun c9 => ?_)
        · replace hf := (if_pos c9).symm.trans hf
          refine lv_iconst (v := 0) X.1 X.2.1 dX13_blamed_59 (by decide) ?_
          cases hf; exact g_ri X S hr hlk dX13_blamed_60
        · replace hf := (if_neg c9).symm.trans hf
          refine lv_iconst (v := 1) X.1 X.2.1 dX13_blamed_55 (by decide) ?_
          refine lv_goto (tgt := 60) X.1 X.2.1 dX13_blamed_56 (by decide) ?_
          cases hf; exact g_ri X S hr hlk dX13_blamed_60
    · replace hf := (if_pos c4).symm.trans hf
      refine g_aload_n X (or_rv _) dX13_blamed_33 rfl (lv_at hl 0 rfl) ?_
      refine lv_iconst (v := 2) X.1 X.2.1 dX13_blamed_34 (by decide) ?_
      obtain ⟨v10, h, hc, hf⟩ := ob2_some hf
      refine g_ci S (runV (As := [.int 2]) (rest := []) X S coX13_329 (by decide) (cX13_fail_m l hc) (tkX13_fail hc) rfl hl.1 (by decide) rfl ⟨Nat.zero_le _, Nat.zero_le _⟩ dX13_blamed_35) (fun H locs S => ?_)
      cases hf; exact g_ri X S hr hlk dX13_blamed_38
  · replace hf := (if_pos c2).symm.trans hf
    refine g_aload_n X (or_rv _) dX13_blamed_17 rfl (lv_at hl 0 rfl) ?_
    refine lv_iconst (v := 1) X.1 X.2.1 dX13_blamed_18 (by decide) ?_
    obtain ⟨v11, h, hc, hf⟩ := ob2_some hf
    refine g_ci S (runV (As := [.int 1]) (rest := []) X S coX13_329 (by decide) (cX13_fail_m l hc) (tkX13_fail hc) rfl hl.1 (by decide) rfl ⟨Nat.zero_le _, Nat.zero_le _⟩ dX13_blamed_19) (fun H locs S => ?_)
    cases hf; exact g_ri X S hr hlk dX13_blamed_22
def fX13_drawOf (a0 : Nat) (a1 : Int32) (h : Hp) : Option (Int32 × Hp) := gd 11 a0 h (ob (gI 11 a0 66 h) fun v1 => ob (pI 11 a0 66 ((v1 * 1103515245) + 12345) h) fun h => ob (gI 11 a0 66 h) fun v2 => nz (a1 = 0) (some ((irm ((v2 >>> ((16 : Int32) &&& 31)) &&& (32767 : Int32)) a1), h)))
theorem tkX13_drawOf {a0 : Nat} {a1 : Int32} {h : Hp} {r9 : Int32 × Hp} (e : fX13_drawOf a0 a1 h = some r9) : hK h a0 = 11 := by
  unfold fX13_drawOf at e
  exact (gd_some e).1
theorem cX13_drawOf_m (l : Launch) {E : EE} {A : Nat → Prop} {a0 : Nat} {a1 : Int32} {h : Hp} {r9 : Int32} {h9 : Hp} (hf : fX13_drawOf a0 a1 h = some (r9, h9)) : Met l yX13_drawOf (wsM yX13_drawOf cX13_drawOf 2 (some .int)) (rmm 8 0 0) (PcE E A h [rv a0, .int a1]) (Qi E A h9 r9) 0 0 A := by
  refine met_of (by decide +kernel) (by simp [lg_sl, cat_rv, cat_wv, cat_sv, cat_i, cat_l, cat_a]) (fun p e s m args below meth c ls X hr hlk hnm S hl => ?_)
  have hl : lv_has ls 2 [(0, rv a0), (1, .int a1)] := by simpa [lv_args, cat_rv, cat_wv, cat_sv, cat_i, cat_l, cat_a] using hl
  generalize hH : s.heap = H at S ⊢
  generalize hlo : ([] : List Loc) = locs at S ⊢
  clear hH hlo
  unfold fX13_drawOf at hf
  obtain ⟨hth, hf⟩ := gd_some hf
  refine g_aload_n X (or_rv _) dX13_drawOf_0 rfl (lv_at hl 0 rfl) ?_
  refine g_aload_n X (or_rv _) dX13_drawOf_1 rfl (lv_at hl 0 rfl) ?_
  refine g_gI X S foX13_696 rfl dX13_drawOf_2 hf (fun v1 hf => ?_)
  refine lv_ldcw X.1 X.2.1 X.2.2.2.1 (X.2.2.1 _ kuX13_699) dX13_drawOf_5 ?_
  refine lv_imul X.1 X.2.1 dX13_drawOf_8 ?_
  refine lv_sipush (v := 12345) X.1 X.2.1 dX13_drawOf_9 (by decide) ?_
  refine lv_iadd X.1 X.2.1 dX13_drawOf_12 ?_
  refine g_pI X S fpX13_696 (Or.inl rfl) dX13_drawOf_13 hf (fun h H locs hm hf S => ?_)
  refine g_aload_n X (or_rv _) dX13_drawOf_16 rfl (lv_at hl 0 rfl) ?_
  refine g_gI X S foX13_696 rfl dX13_drawOf_17 hf (fun v2 hf => ?_)
  refine lv_bipush (v := 16) X.1 X.2.1 dX13_drawOf_20 (by decide) ?_
  refine lv_ishr X.1 X.2.1 dX13_drawOf_22 ?_
  refine lv_sipush (v := 32767) X.1 X.2.1 dX13_drawOf_23 (by decide) ?_
  refine lv_iand X.1 X.2.1 dX13_drawOf_26 ?_
  refine lv_iload_n X.1 X.2.1 dX13_drawOf_27 rfl (lv_at hl 1 rfl) ?_
  obtain ⟨c3, hf⟩ := nz_some hf
  refine g_irem X c3 dX13_drawOf_28 ?_
  cases hf; exact g_ri X S hr hlk dX13_drawOf_29
def fX13_years_124 (k56 : Nat → Int32 → Int32 → Int32 → Int32 → Hp → Option (Int32 × Hp)) (x0 : Nat) (x2 : Int32) (x3 : Int32) (x4 : Int32) (x5 : Int32) (h : Hp) : Option (Int32 × Hp) := ob (fX13_goOn x0 5 h) fun h => lt (x5 + 1) fun z2 => k56 x0 x2 x3 x4 z2 h
theorem wfX13_years_124 {k56 : Nat → Int32 → Int32 → Int32 → Int32 → Hp → Option (Int32 × Hp)} {r9 : Int32} {h9 : Hp} (X : Cx p E A 17 R s m args c cX13_years yX13_years.cls 8) (hr : meth.sig.returnType = (some .int)) (hlk : meth.locks = false) (hnm : meth.name = yX13_years.name) (hk56 : ∀ (x0 : Nat) (x2 : Int32) (x3 : Int32) (x4 : Int32) (x5 : Int32) (h : Hp) (H : Heap) (locs : List Loc) (ls : Array Slot), lv_has ls 8 [(0, rv x0), (2, .int x2), (3, .int x3), (4, .int x4), (5, .int x5)] → St E A s h H locs → k56 x0 x2 x3 x4 x5 h = some (r9, h9) → W p l e R s m args below meth c H locs 0 0 (MQ below (Qi E A h9 r9) args s 0 0 A) (F0 m 56 ls [])) :
    ∀ (x0 : Nat) (x2 : Int32) (x3 : Int32) (x4 : Int32) (x5 : Int32) (h : Hp) (H : Heap) (locs : List Loc) (ls : Array Slot), lv_has ls 8 [(0, rv x0), (2, .int x2), (3, .int x3), (4, .int x4), (5, .int x5)] → St E A s h H locs → fX13_years_124 k56 x0 x2 x3 x4 x5 h = some (r9, h9) → W p l e R s m args below meth c H locs 0 0 (MQ below (Qi E A h9 r9) args s 0 0 A) (F0 m 124 ls []) := by
  intro x0 x2 x3 x4 x5 h H locs ls hl S hf
  unfold fX13_years_124 at hf
  refine g_aload_n X (or_rv _) dX13_years_124 rfl (lv_at hl 0 rfl) ?_
  refine lv_iconst (v := 5) X.1 X.2.1 dX13_years_125 (by decide) ?_
  obtain ⟨h, hc, hf⟩ := ob_some hf
  refine g_cv S (runV (As := [.int 5]) (rest := []) X S coX13_657 (by decide) (cX13_goOn_m l hc) (tkX13_goOn hc) rfl hl.1 (by decide) rfl ⟨Nat.zero_le _, Nat.zero_le _⟩ dX13_years_126) (fun H locs S => ?_)
  obtain ⟨z2, ez2, hf⟩ := lt_some hf
  refine lv_iinc (v := z2) (lv' := [(5, .int z2), (0, rv x0), (2, .int x2), (3, .int x3), (4, .int x4)]) X.1 X.2.1 dX13_years_129 hl (k := 4) rfl (by rw [← ez2]; rfl) (by decide) rfl (fun ls hl => ?_)
  refine lv_goto (tgt := 56) X.1 X.2.1 dX13_years_132 (by decide) ?_
  exact hk56 _ _ _ _ _ _ _ _ _ (lv_sub hl [1, 2, 3, 4, 0] rfl) S hf
def fX13_years_219 (y0 : Int32) (y1 : Nat) (h : Hp) : Option (Int32 × Hp) := ob2 (fX13_back y1 y0 h) fun v1 h => some (v1, h)
theorem wfX13_years_219 {r9 : Int32} {h9 : Hp} (X : Cx p E A 17 R s m args c cX13_years yX13_years.cls 8) (hr : meth.sig.returnType = (some .int)) (hlk : meth.locks = false) (hnm : meth.name = yX13_years.name) :
    ∀ (y0 : Int32) (y1 : Nat) (h : Hp) (H : Heap) (locs : List Loc) (ls : Array Slot), lv_has ls 8 [] → St E A s h H locs → fX13_years_219 y0 y1 h = some (r9, h9) → W p l e R s m args below meth c H locs 0 0 (MQ below (Qi E A h9 r9) args s 0 0 A) (F0 m 219 ls [.int y0, rv y1]) := by
  intro y0 y1 h H locs ls hl S hf
  unfold fX13_years_219 at hf
  obtain ⟨v1, h, hc, hf⟩ := ob2_some hf
  refine g_ci S (runV (As := [.int y0]) (rest := []) X S coX13_667 (by decide) (cX13_back_m l hc) (tkX13_back hc) rfl hl.1 (by decide) rfl ⟨Nat.zero_le _, Nat.zero_le _⟩ dX13_years_219) (fun H locs S => ?_)
  cases hf; exact g_ri X S hr hlk dX13_years_222
def fX13_years_141 (k141 : Nat → Int32 → Int32 → Int32 → Int32 → Hp → Option (Int32 × Hp)) (x0 : Nat) (x3 : Int32) (x4 : Int32) (x5 : Int32) (x6 : Int32) (h : Hp) : Option (Int32 × Hp) := if 256 ≤ x6 then if x3 = 0 then ob (gR 11 x0 3 h) fun v4 => ob (aI v4 278 h) fun v5 => ob (gR 11 x0 61 h) fun v6 => ob (aI v6 278 h) fun v7 => fX13_years_219 (v5 - v7) x0 h else if x3 = 1 then fX13_years_219 x4 x0 h else fX13_years_219 x5 x0 h else ob (gR 11 x0 3 h) fun v8 => ob (aI v8 x6 h) fun v9 => ob (gR 11 x0 61 h) fun v10 => ob (aI v10 x6 h) fun v11 => if v9 = v11 then lt (x5 + 0) fun z13 => lt (x6 + 1) fun z14 => k141 x0 x3 x4 z13 z14 h else lt (x5 + 1) fun z15 => lt (x6 + 1) fun z16 => k141 x0 x3 x4 z15 z16 h
theorem wfX13_years_141 {k141 : Nat → Int32 → Int32 → Int32 → Int32 → Hp → Option (Int32 × Hp)} {r9 : Int32} {h9 : Hp} (X : Cx p E A 17 R s m args c cX13_years yX13_years.cls 8) (hr : meth.sig.returnType = (some .int)) (hlk : meth.locks = false) (hnm : meth.name = yX13_years.name) (hk141 : ∀ (x0 : Nat) (x3 : Int32) (x4 : Int32) (x5 : Int32) (x6 : Int32) (h : Hp) (H : Heap) (locs : List Loc) (ls : Array Slot), lv_has ls 8 [(0, rv x0), (3, .int x3), (4, .int x4), (5, .int x5), (6, .int x6)] → St E A s h H locs → k141 x0 x3 x4 x5 x6 h = some (r9, h9) → W p l e R s m args below meth c H locs 0 0 (MQ below (Qi E A h9 r9) args s 0 0 A) (F0 m 141 ls [])) :
    ∀ (x0 : Nat) (x3 : Int32) (x4 : Int32) (x5 : Int32) (x6 : Int32) (h : Hp) (H : Heap) (locs : List Loc) (ls : Array Slot), lv_has ls 8 [(0, rv x0), (3, .int x3), (4, .int x4), (5, .int x5), (6, .int x6)] → St E A s h H locs → fX13_years_141 k141 x0 x3 x4 x5 x6 h = some (r9, h9) → W p l e R s m args below meth c H locs 0 0 (MQ below (Qi E A h9 r9) args s 0 0 A) (F0 m 141 ls []) := by
  intro x0 x3 x4 x5 x6 h H locs ls hl S hf
  unfold fX13_years_141 at hf
  refine lv_iload X.1 X.2.1 dX13_years_141 (lv_at hl 4 rfl) ?_
  refine lv_sipush (v := 256) X.1 X.2.1 dX13_years_143 (by decide) ?_
  refine lv_icmp_ge (tgt := 182) X.1 X.2.1 dX13_years_146 (by decide) (fun c1 => ?_) (fun c1 => ?_)
  · replace hf := (if_pos c1).symm.trans hf
    refine g_aload_n X (or_rv _) dX13_years_182 rfl (lv_at hl 0 rfl) ?_
    refine lv_iload_n X.1 X.2.1 dX13_years_183 rfl (lv_at hl 1 rfl) ?_
    refine lv_if_ne (tgt := 207) X.1 X.2.1 dX13_years_184 (by decide) (fun c2 => ?_) (fun c2 => ?_)
    · replace hf := (if_neg c2).symm.trans hf
      refine lv_iload_n X.1 X.2.1 dX13_years_207 rfl (lv_at hl 1 rfl) ?_
      refine lv_iconst (v := 1) X.1 X.2.1 dX13_years_208 (by decide) ?_
      refine lv_icmp_ne (tgt := 217) X.1 X.2.1 dX13_years_209 (by decide) (fun c3 => ?_) (fun c3 => ?_)
      · replace hf := (if_neg c3).symm.trans hf
        refine lv_iload X.1 X.2.1 dX13_years_217 (lv_at hl 3 rfl) ?_
        exact wfX13_years_219 X hr hlk hnm _ _ _ _ _ _ (lv_sub hl [] rfl) S hf
      · replace hf := (if_pos c3).symm.trans hf
        refine lv_iload X.1 X.2.1 dX13_years_212 (lv_at hl 2 rfl) ?_
        refine lv_goto (tgt := 219) X.1 X.2.1 dX13_years_214 (by decide) ?_
        exact wfX13_years_219 X hr hlk hnm _ _ _ _ _ _ (lv_sub hl [] rfl) S hf
    · replace hf := (if_pos c2).symm.trans hf
      refine g_aload_n X (or_rv _) dX13_years_187 rfl (lv_at hl 0 rfl) ?_
      refine g_gR X S foX13_76 dX13_years_188 hf (fun v4 hf => ?_)
      refine lv_sipush (v := 278) X.1 X.2.1 dX13_years_191 (by decide) ?_
      refine g_aI X S dX13_years_194 hf (fun v5 hf => ?_)
      refine g_aload_n X (or_rv _) dX13_years_195 rfl (lv_at hl 0 rfl) ?_
      refine g_gR X S foX13_151 dX13_years_196 hf (fun v6 hf => ?_)
      refine lv_sipush (v := 278) X.1 X.2.1 dX13_years_199 (by decide) ?_
      refine g_aI X S dX13_years_202 hf (fun v7 hf => ?_)
      refine lv_isub X.1 X.2.1 dX13_years_203 ?_
      refine lv_goto (tgt := 219) X.1 X.2.1 dX13_years_204 (by decide) ?_
      exact wfX13_years_219 X hr hlk hnm _ _ _ _ _ _ (lv_sub hl [] rfl) S hf
  · replace hf := (if_neg c1).symm.trans hf
    refine lv_iload X.1 X.2.1 dX13_years_149 (lv_at hl 3 rfl) ?_
    refine g_aload_n X (or_rv _) dX13_years_151 rfl (lv_at hl 0 rfl) ?_
    refine g_gR X S foX13_76 dX13_years_152 hf (fun v8 hf => ?_)
    refine lv_iload X.1 X.2.1 dX13_years_155 (lv_at hl 4 rfl) ?_
    refine g_aI X S dX13_years_157 hf (fun v9 hf => ?_)
    refine g_aload_n X (or_rv _) dX13_years_158 rfl (lv_at hl 0 rfl) ?_
    refine g_gR X S foX13_151 dX13_years_159 hf (fun v10 hf => ?_)
    refine lv_iload X.1 X.2.1 dX13_years_162 (lv_at hl 4 rfl) ?_
    refine g_aI X S dX13_years_164 hf (fun v11 hf => ?_)
    refine lv_icmp_eq (tgt := 172) X.1 X.2.1 dX13_years_165 (by decide) (fun c12 => ?_) (fun c12 => ?_)
    · replace hf := (if_pos c12).symm.trans hf
      refine lv_iconst (v := 0) X.1 X.2.1 dX13_years_172 (by decide) ?_
      refine lv_iadd X.1 X.2.1 dX13_years_173 ?_
      refine g_lti hf (fun z13 hf => ?_)
      refine lv_istore (lv' := [(5, .int z13), (0, rv x0), (3, .int x3), (4, .int x4), (6, .int x6)]) X.1 X.2.1 dX13_years_174 hl (by decide) rfl (fun ls hl => ?_)
      obtain ⟨z14, ez14, hf⟩ := lt_some hf
      refine lv_iinc (v := z14) (lv' := [(6, .int z14), (5, .int z13), (0, rv x0), (3, .int x3), (4, .int x4)]) X.1 X.2.1 dX13_years_176 hl (k := 4) rfl (by rw [← ez14]; rfl) (by decide) rfl (fun ls hl => ?_)
      refine lv_goto (tgt := 141) X.1 X.2.1 dX13_years_179 (by decide) ?_
      exact hk141 _ _ _ _ _ _ _ _ _ (lv_sub hl [2, 3, 4, 1, 0] rfl) S hf
    · replace hf := (if_neg c12).symm.trans hf
      refine lv_iconst (v := 1) X.1 X.2.1 dX13_years_168 (by decide) ?_
      refine lv_goto (tgt := 173) X.1 X.2.1 dX13_years_169 (by decide) ?_
      refine lv_iadd X.1 X.2.1 dX13_years_173 ?_
      refine g_lti hf (fun z15 hf => ?_)
      refine lv_istore (lv' := [(5, .int z15), (0, rv x0), (3, .int x3), (4, .int x4), (6, .int x6)]) X.1 X.2.1 dX13_years_174 hl (by decide) rfl (fun ls hl => ?_)
      obtain ⟨z16, ez16, hf⟩ := lt_some hf
      refine lv_iinc (v := z16) (lv' := [(6, .int z16), (5, .int z15), (0, rv x0), (3, .int x3), (4, .int x4)]) X.1 X.2.1 dX13_years_176 hl (k := 4) rfl (by rw [← ez16]; rfl) (by decide) rfl (fun ls hl => ?_)
      refine lv_goto (tgt := 141) X.1 X.2.1 dX13_years_179 (by decide) ?_
      exact hk141 _ _ _ _ _ _ _ _ _ (lv_sub hl [2, 3, 4, 1, 0] rfl) S hf
theorem wfX13_years_141_l {r9 : Int32} {h9 : Hp} (X : Cx p E A 17 R s m args c cX13_years yX13_years.cls 8) (hr : meth.sig.returnType = (some .int)) (hlk : meth.locks = false) (hnm : meth.name = yX13_years.name) :
    ∀ (n : Nat) (x0 : Nat) (x3 : Int32) (x4 : Int32) (x5 : Int32) (x6 : Int32) (h : Hp) (H : Heap) (locs : List Loc) (ls : Array Slot), lv_has ls 8 [(0, rv x0), (3, .int x3), (4, .int x4), (5, .int x5), (6, .int x6)] → St E A s h H locs → lp (fun _ _ _ _ _ _ => none) (fX13_years_141) n x0 x3 x4 x5 x6 h = some (r9, h9) → W p l e R s m args below meth c H locs 0 0 (MQ below (Qi E A h9 r9) args s 0 0 A) (F0 m 141 ls []) := by
  intro n
  induction n with
  | zero =>
    intro x0 x3 x4 x5 x6 h H locs ls hl S hf
    exact nomatch hf
  | succ n ih =>
    intro x0 x3 x4 x5 x6 h H locs ls hl S hf
    exact wfX13_years_141 X hr hlk hnm ih x0 x3 x4 x5 x6 h H locs ls hl S hf
def fX13_years_56 (k56 : Nat → Int32 → Int32 → Int32 → Int32 → Hp → Option (Int32 × Hp)) (x0 : Nat) (x2 : Int32) (x3 : Int32) (x4 : Int32) (x5 : Int32) (h : Hp) : Option (Int32 × Hp) := if x2 ≤ x5 then lp (fun _ _ _ _ _ _ => none) (fX13_years_141) FU x0 x3 x4 0 0 h else ob2 (fX13_drawOf x0 3 h) fun v2 h => if v2 = 0 then ob2 (fX13_drawOf x0 256 h) fun v10 h => ob (gR 11 x0 3 h) fun v11 => ob2 (fX13_drawOf x0 256 h) fun v12 h => ob (qI v11 v10 v12 h) fun h => fX13_years_124 k56 x0 x2 x3 x4 x5 h else if v2 = 1 then ob (gR 11 x0 3 h) fun v5 => ob (aI v5 276 h) fun v6 => if v6 = 0 then fX13_years_124 k56 x0 x2 x3 x4 x5 h else ob (fX13_beginNow x0 h) fun h => lt (x4 + 1) fun z9 => fX13_years_124 k56 x0 x2 x3 z9 x5 h else fX13_years_124 k56 x0 x2 x3 x4 x5 h
theorem wfX13_years_56 {k56 : Nat → Int32 → Int32 → Int32 → Int32 → Hp → Option (Int32 × Hp)} {r9 : Int32} {h9 : Hp} (X : Cx p E A 17 R s m args c cX13_years yX13_years.cls 8) (hr : meth.sig.returnType = (some .int)) (hlk : meth.locks = false) (hnm : meth.name = yX13_years.name) (hk56 : ∀ (x0 : Nat) (x2 : Int32) (x3 : Int32) (x4 : Int32) (x5 : Int32) (h : Hp) (H : Heap) (locs : List Loc) (ls : Array Slot), lv_has ls 8 [(0, rv x0), (2, .int x2), (3, .int x3), (4, .int x4), (5, .int x5)] → St E A s h H locs → k56 x0 x2 x3 x4 x5 h = some (r9, h9) → W p l e R s m args below meth c H locs 0 0 (MQ below (Qi E A h9 r9) args s 0 0 A) (F0 m 56 ls [])) :
    ∀ (x0 : Nat) (x2 : Int32) (x3 : Int32) (x4 : Int32) (x5 : Int32) (h : Hp) (H : Heap) (locs : List Loc) (ls : Array Slot), lv_has ls 8 [(0, rv x0), (2, .int x2), (3, .int x3), (4, .int x4), (5, .int x5)] → St E A s h H locs → fX13_years_56 k56 x0 x2 x3 x4 x5 h = some (r9, h9) → W p l e R s m args below meth c H locs 0 0 (MQ below (Qi E A h9 r9) args s 0 0 A) (F0 m 56 ls []) := by
  intro x0 x2 x3 x4 x5 h H locs ls hl S hf
  unfold fX13_years_56 at hf
  refine lv_iload X.1 X.2.1 dX13_years_56 (lv_at hl 4 rfl) ?_
  refine lv_iload_n X.1 X.2.1 dX13_years_58 rfl (lv_at hl 1 rfl) ?_
  refine lv_icmp_ge (tgt := 135) X.1 X.2.1 dX13_years_59 (by decide) (fun c1 => ?_) (fun c1 => ?_)
  · replace hf := (if_pos c1).symm.trans hf
    refine lv_iconst (v := 0) X.1 X.2.1 dX13_years_135 (by decide) ?_
    refine lv_istore (lv' := [(5, .int 0), (0, rv x0), (2, .int x2), (3, .int x3), (4, .int x4)]) X.1 X.2.1 dX13_years_136 hl (by decide) rfl (fun ls hl => ?_)
    refine lv_iconst (v := 0) X.1 X.2.1 dX13_years_138 (by decide) ?_
    refine lv_istore (lv' := [(6, .int 0), (5, .int 0), (0, rv x0), (2, .int x2), (3, .int x3), (4, .int x4)]) X.1 X.2.1 dX13_years_139 hl (by decide) rfl (fun ls hl => ?_)
    exact wfX13_years_141_l X hr hlk hnm FU _ _ _ _ _ _ _ _ _ (lv_sub hl [2, 4, 5, 1, 0] rfl) S hf
  · replace hf := (if_neg c1).symm.trans hf
    refine g_aload_n X (or_rv _) dX13_years_62 rfl (lv_at hl 0 rfl) ?_
    refine lv_iconst (v := 3) X.1 X.2.1 dX13_years_63 (by decide) ?_
    obtain ⟨v2, h, hc, hf⟩ := ob2_some hf
    refine g_ci S (runV (As := [.int 3]) (rest := []) X S coX13_702 (by decide) (cX13_drawOf_m l hc) (tkX13_drawOf hc) rfl hl.1 (by decide) rfl ⟨Nat.zero_le _, Nat.zero_le _⟩ dX13_years_64) (fun H locs S => ?_)
    refine lv_istore (lv' := [(6, .int v2), (0, rv x0), (2, .int x2), (3, .int x3), (4, .int x4), (5, .int x5)]) X.1 X.2.1 dX13_years_67 hl (by decide) rfl (fun ls hl => ?_)
    refine lv_iload X.1 X.2.1 dX13_years_69 (lv_at hl 0 rfl) ?_
    refine lv_if_ne (tgt := 100) X.1 X.2.1 dX13_years_71 (by decide) (fun c3 => ?_) (fun c3 => ?_)
    · replace hf := (if_neg c3).symm.trans hf
      refine lv_iload X.1 X.2.1 dX13_years_100 (lv_at hl 0 rfl) ?_
      refine lv_iconst (v := 1) X.1 X.2.1 dX13_years_102 (by decide) ?_
      refine lv_icmp_ne (tgt := 124) X.1 X.2.1 dX13_years_103 (by decide) (fun c4 => ?_) (fun c4 => ?_)
      · replace hf := (if_neg c4).symm.trans hf
        exact wfX13_years_124 X hr hlk hnm hk56 _ _ _ _ _ _ _ _ _ (lv_sub hl [1, 2, 3, 4, 5] rfl) S hf
      · replace hf := (if_pos c4).symm.trans hf
        refine g_aload_n X (or_rv _) dX13_years_106 rfl (lv_at hl 1 rfl) ?_
        refine g_gR X S foX13_76 dX13_years_107 hf (fun v5 hf => ?_)
        refine lv_sipush (v := 276) X.1 X.2.1 dX13_years_110 (by decide) ?_
        refine g_aI X S dX13_years_113 hf (fun v6 hf => ?_)
        refine lv_if_eq (tgt := 124) X.1 X.2.1 dX13_years_114 (by decide) (fun c7 => ?_) (fun c7 => ?_)
        · replace hf := (if_pos c7).symm.trans hf
          exact wfX13_years_124 X hr hlk hnm hk56 _ _ _ _ _ _ _ _ _ (lv_sub hl [1, 2, 3, 4, 5] rfl) S hf
        · replace hf := (if_neg c7).symm.trans hf
          refine g_aload_n X (or_rv _) dX13_years_117 rfl (lv_at hl 1 rfl) ?_
          obtain ⟨h, hc, hf⟩ := ob_some hf
          refine g_cv S (runV (As := []) (rest := []) X S coX13_184 (by decide) (cX13_beginNow_m l hc) (tkX13_beginNow hc) rfl hl.1 (by decide) rfl ⟨Nat.zero_le _, Nat.zero_le _⟩ dX13_years_118) (fun H locs S => ?_)
          obtain ⟨z9, ez9, hf⟩ := lt_some hf
          refine lv_iinc (v := z9) (lv' := [(4, .int z9), (6, .int v2), (0, rv x0), (2, .int x2), (3, .int x3), (5, .int x5)]) X.1 X.2.1 dX13_years_121 hl (k := 4) rfl (by rw [← ez9]; rfl) (by decide) rfl (fun ls hl => ?_)
          exact wfX13_years_124 X hr hlk hnm hk56 _ _ _ _ _ _ _ _ _ (lv_sub hl [2, 3, 4, 0, 5] rfl) S hf
    · replace hf := (if_pos c3).symm.trans hf
      refine g_aload_n X (or_rv _) dX13_years_74 rfl (lv_at hl 1 rfl) ?_
      refine lv_sipush (v := 256) X.1 X.2.1 dX13_years_75 (by decide) ?_
      obtain ⟨v10, h, hc, hf⟩ := ob2_some hf
      refine g_ci S (runV (As := [.int 256]) (rest := []) X S coX13_702 (by decide) (cX13_drawOf_m l hc) (tkX13_drawOf hc) rfl hl.1 (by decide) rfl ⟨Nat.zero_le _, Nat.zero_le _⟩ dX13_years_78) (fun H locs S => ?_)
      refine lv_istore (lv' := [(7, .int v10), (6, .int v2), (0, rv x0), (2, .int x2), (3, .int x3), (4, .int x4), (5, .int x5)]) X.1 X.2.1 dX13_years_81 hl (by decide) rfl (fun ls hl => ?_)
      refine g_aload_n X (or_rv _) dX13_years_83 rfl (lv_at hl 2 rfl) ?_
      refine g_gR X S foX13_76 dX13_years_84 hf (fun v11 hf => ?_)
      refine lv_iload X.1 X.2.1 dX13_years_87 (lv_at hl 0 rfl) ?_
      refine g_aload_n X (or_rv _) dX13_years_89 rfl (lv_at hl 2 rfl) ?_
      refine lv_sipush (v := 256) X.1 X.2.1 dX13_years_90 (by decide) ?_
      obtain ⟨v12, h, hc, hf⟩ := ob2_some hf
      refine g_ci S (runV (As := [.int 256]) (rest := [.int v10, rv v11]) X S coX13_702 (by decide) (cX13_drawOf_m l hc) (tkX13_drawOf hc) rfl hl.1 (by simp [cat_rv, cat_wv, cat_sv, cat_i, cat_l, cat_a]) rfl ⟨Nat.zero_le _, Nat.zero_le _⟩ dX13_years_93) (fun H locs S => ?_)
      refine g_qI X S dX13_years_96 hf (fun h H locs hm hf S => ?_)
      refine lv_goto (tgt := 124) X.1 X.2.1 dX13_years_97 (by decide) ?_
      exact wfX13_years_124 X hr hlk hnm hk56 _ _ _ _ _ _ _ _ _ (lv_sub hl [2, 3, 4, 5, 6] rfl) S hf
theorem wfX13_years_56_l {r9 : Int32} {h9 : Hp} (X : Cx p E A 17 R s m args c cX13_years yX13_years.cls 8) (hr : meth.sig.returnType = (some .int)) (hlk : meth.locks = false) (hnm : meth.name = yX13_years.name) :
    ∀ (n : Nat) (x0 : Nat) (x2 : Int32) (x3 : Int32) (x4 : Int32) (x5 : Int32) (h : Hp) (H : Heap) (locs : List Loc) (ls : Array Slot), lv_has ls 8 [(0, rv x0), (2, .int x2), (3, .int x3), (4, .int x4), (5, .int x5)] → St E A s h H locs → lp (fun _ _ _ _ _ _ => none) (fX13_years_56) n x0 x2 x3 x4 x5 h = some (r9, h9) → W p l e R s m args below meth c H locs 0 0 (MQ below (Qi E A h9 r9) args s 0 0 A) (F0 m 56 ls []) := by
  intro n
  induction n with
  | zero =>
    intro x0 x2 x3 x4 x5 h H locs ls hl S hf
    exact nomatch hf
  | succ n ih =>
    intro x0 x2 x3 x4 x5 h H locs ls hl S hf
    exact wfX13_years_56 X hr hlk hnm ih x0 x2 x3 x4 x5 h H locs ls hl S hf
def fX13_years (a0 : Nat) (a1 : Int32) (a2 : Int32) (a3 : Int32) (h : Hp) : Option (Int32 × Hp) := gd 11 a0 h (ob (pI 11 a0 2 0 h) fun h => ob (fX13_isIn (Int32.toInt64 a3) 0 2) fun v1 => if v1 = 0 then ob2 (fX13_fail a0 1 h) fun v7 h => some (v7, h) else ob (fX13_isIn (Int32.toInt64 a2) 0 20) fun v3 => if v3 = 0 then ob2 (fX13_fail a0 2 h) fun v6 h => some (v6, h) else ob (fX13_rememberNow a0 h) fun h => ob (pI 11 a0 66 a1 h) fun h => lp (fun _ _ _ _ _ _ => none) (fX13_years_56) FU a0 a2 a3 0 0 h)
theorem tkX13_years {a0 : Nat} {a1 : Int32} {a2 : Int32} {a3 : Int32} {h : Hp} {r9 : Int32 × Hp} (e : fX13_years a0 a1 a2 a3 h = some r9) : hK h a0 = 11 := by
  unfold fX13_years at e
  exact (gd_some e).1
theorem cX13_years_m (l : Launch) {E : EE} {A : Nat → Prop} {a0 : Nat} {a1 : Int32} {a2 : Int32} {a3 : Int32} {h : Hp} {r9 : Int32} {h9 : Hp} (hf : fX13_years a0 a1 a2 a3 h = some (r9, h9)) : Met l yX13_years (wsM yX13_years cX13_years 8 (some .int)) (rmm 17 0 0) (PcE E A h [rv a0, .int a1, .int a2, .int a3]) (Qi E A h9 r9) 0 0 A := by
  refine met_of (by decide +kernel) (by simp [lg_sl, cat_rv, cat_wv, cat_sv, cat_i, cat_l, cat_a]) (fun p e s m args below meth c ls X hr hlk hnm S hl => ?_)
  have hl : lv_has ls 8 [(0, rv a0), (1, .int a1), (2, .int a2), (3, .int a3)] := by simpa [lv_args, cat_rv, cat_wv, cat_sv, cat_i, cat_l, cat_a] using hl
  generalize hH : s.heap = H at S ⊢
  generalize hlo : ([] : List Loc) = locs at S ⊢
  clear hH hlo
  unfold fX13_years at hf
  obtain ⟨hth, hf⟩ := gd_some hf
  refine g_aload_n X (or_rv _) dX13_years_0 rfl (lv_at hl 0 rfl) ?_
  refine lv_iconst (v := 0) X.1 X.2.1 dX13_years_1 (by decide) ?_
  refine g_pI X S fpX13_187 (Or.inl rfl) dX13_years_2 hf (fun h H locs hm hf S => ?_)
  refine lv_iload_n X.1 X.2.1 dX13_years_5 rfl (lv_at hl 3 rfl) ?_
  refine lv_i2l (v := Int32.toInt64 a3) X.1 X.2.1 dX13_years_6 rfl ?_
  refine lv_lconst (v := 0) X.1 X.2.1 dX13_years_7 (by decide) ?_
  refine lv_ldc2 X.1 X.2.1 X.2.2.2.1 (X.2.2.1 _ kuX13_597) dX13_years_8 ?_
  obtain ⟨v1, hc, hf⟩ := ob_some hf
  refine g_ci S (runS (As := [.long (Int32.toInt64 a3), .long 0, .long 2]) (rest := []) X S coX13_287 (by decide) (cX13_isIn_m l hc) rfl hl.1 (by decide) rfl ⟨Nat.zero_le _, Nat.zero_le _⟩ dX13_years_11) (fun H locs S => ?_)
  refine lv_if_ne (tgt := 23) X.1 X.2.1 dX13_years_14 (by decide) (fun c2 => ?_) (fun c2 => ?_)
  · replace hf := (if_neg c2).symm.trans hf
    refine lv_iload_n X.1 X.2.1 dX13_years_23 rfl (lv_at hl 2 rfl) ?_
    refine lv_i2l (v := Int32.toInt64 a2) X.1 X.2.1 dX13_years_24 rfl ?_
    refine lv_lconst (v := 0) X.1 X.2.1 dX13_years_25 (by decide) ?_
    refine lv_ldc2 X.1 X.2.1 X.2.2.2.1 (X.2.2.1 _ kuX13_700) dX13_years_26 ?_
    obtain ⟨v3, hc, hf⟩ := ob_some hf
    refine g_ci S (runS (As := [.long (Int32.toInt64 a2), .long 0, .long 20]) (rest := []) X S coX13_287 (by decide) (cX13_isIn_m l hc) rfl hl.1 (by decide) rfl ⟨Nat.zero_le _, Nat.zero_le _⟩ dX13_years_29) (fun H locs S => ?_)
    refine lv_if_ne (tgt := 41) X.1 X.2.1 dX13_years_32 (by decide) (fun c4 => ?_) (fun c4 => ?_)
    · replace hf := (if_neg c4).symm.trans hf
      refine g_aload_n X (or_rv _) dX13_years_41 rfl (lv_at hl 0 rfl) ?_
      obtain ⟨h, hc, hf⟩ := ob_some hf
      refine g_cv S (runV (As := []) (rest := []) X S coX13_664 (by decide) (cX13_rememberNow_m l hc) (tkX13_rememberNow hc) rfl hl.1 (by decide) rfl ⟨Nat.zero_le _, Nat.zero_le _⟩ dX13_years_42) (fun H locs S => ?_)
      refine g_aload_n X (or_rv _) dX13_years_45 rfl (lv_at hl 0 rfl) ?_
      refine lv_iload_n X.1 X.2.1 dX13_years_46 rfl (lv_at hl 1 rfl) ?_
      refine g_pI X S fpX13_696 (Or.inl rfl) dX13_years_47 hf (fun h H locs hm hf S => ?_)
      refine lv_iconst (v := 0) X.1 X.2.1 dX13_years_50 (by decide) ?_
      refine lv_istore (lv' := [(4, .int 0), (0, rv a0), (1, .int a1), (2, .int a2), (3, .int a3)]) X.1 X.2.1 dX13_years_51 hl (by decide) rfl (fun ls hl => ?_)
      refine lv_iconst (v := 0) X.1 X.2.1 dX13_years_53 (by decide) ?_
      refine lv_istore (lv' := [(5, .int 0), (4, .int 0), (0, rv a0), (1, .int a1), (2, .int a2), (3, .int a3)]) X.1 X.2.1 dX13_years_54 hl (by decide) rfl (fun ls hl => ?_)
      exact wfX13_years_56_l X hr hlk hnm FU _ _ _ _ _ _ _ _ _ (lv_sub hl [2, 4, 5, 1, 0] rfl) S hf
    · replace hf := (if_pos c4).symm.trans hf
      refine g_aload_n X (or_rv _) dX13_years_35 rfl (lv_at hl 0 rfl) ?_
      refine lv_iconst (v := 2) X.1 X.2.1 dX13_years_36 (by decide) ?_
      obtain ⟨v6, h, hc, hf⟩ := ob2_some hf
      refine g_ci S (runV (As := [.int 2]) (rest := []) X S coX13_329 (by decide) (cX13_fail_m l hc) (tkX13_fail hc) rfl hl.1 (by decide) rfl ⟨Nat.zero_le _, Nat.zero_le _⟩ dX13_years_37) (fun H locs S => ?_)
      cases hf; exact g_ri X S hr hlk dX13_years_40
  · replace hf := (if_pos c2).symm.trans hf
    refine g_aload_n X (or_rv _) dX13_years_17 rfl (lv_at hl 0 rfl) ?_
    refine lv_iconst (v := 1) X.1 X.2.1 dX13_years_18 (by decide) ?_
    obtain ⟨v7, h, hc, hf⟩ := ob2_some hf
    refine g_ci S (runV (As := [.int 1]) (rest := []) X S coX13_329 (by decide) (cX13_fail_m l hc) (tkX13_fail hc) rfl hl.1 (by decide) rfl ⟨Nat.zero_le _, Nat.zero_le _⟩ dX13_years_19) (fun H locs S => ?_)
    cases hf; exact g_ri X S hr hlk dX13_years_22
def fX13_image (a0 : Nat) (h : Hp) : Option (Hp) := gd 11 a0 h (ob (pI 11 a0 2 0 h) fun h => ob (pZ 11 a0 67 1 h) fun h => ob (gI 11 a0 58 h) fun v1 => ob (pI 11 a0 68 v1 h) fun h => ob (gI 11 a0 59 h) fun v2 => ob (pI 11 a0 69 v2 h) fun h => ob (gR 11 a0 70 h) fun v3 => ob (gR 11 a0 3 h) fun v4 => ob (fX13_copyTo v3 v4 h) fun h => ob (gR 11 a0 71 h) fun v6 => ob (gR 11 a0 60 h) fun v7 => ob (fX13_copyTo v6 v7 h) fun h => ob (gR 11 a0 72 h) fun v9 => ob (gR 11 a0 63 h) fun v10 => ob (fX13_copyTo v9 v10 h) fun h => ob (gR 11 a0 73 h) fun v12 => ob (gR 11 a0 64 h) fun v13 => ob (fX13_copyTo v12 v13 h) fun h => ob (gR 11 a0 74 h) fun v15 => ob (gR 11 a0 65 h) fun v16 => ob (fX13_copyTo v15 v16 h) fun h => ob (gR 11 a0 75 h) fun v18 => ob (gR 11 a0 4 h) fun v19 => ob (fX13_copyTo v18 v19 h) fun h => some h)
theorem tkX13_image {a0 : Nat} {h : Hp} {r9 : Hp} (e : fX13_image a0 h = some r9) : hK h a0 = 11 := by
  unfold fX13_image at e
  exact (gd_some e).1
theorem cX13_image_m (l : Launch) {E : EE} {A : Nat → Prop} {a0 : Nat} {h : Hp} {h9 : Hp} (hf : fX13_image a0 h = some h9) : Met l yX13_image (wsM yX13_image cX13_image 1 none) (rmm 9 0 0) (PcE E A h [rv a0]) (Qv E A h9) 0 0 A := by
  refine met_of (by decide +kernel) (by simp [lg_sl, cat_rv, cat_wv, cat_sv, cat_i, cat_l, cat_a]) (fun p e s m args below meth c ls X hr hlk hnm S hl => ?_)
  have hl : lv_has ls 1 [(0, rv a0)] := by simpa [lv_args, cat_rv, cat_wv, cat_sv, cat_i, cat_l, cat_a] using hl
  generalize hH : s.heap = H at S ⊢
  generalize hlo : ([] : List Loc) = locs at S ⊢
  clear hH hlo
  unfold fX13_image at hf
  obtain ⟨hth, hf⟩ := gd_some hf
  refine g_aload_n X (or_rv _) dX13_image_0 rfl (lv_at hl 0 rfl) ?_
  refine lv_iconst (v := 0) X.1 X.2.1 dX13_image_1 (by decide) ?_
  refine g_pI X S fpX13_187 (Or.inl rfl) dX13_image_2 hf (fun h H locs hm hf S => ?_)
  refine g_aload_n X (or_rv _) dX13_image_5 rfl (lv_at hl 0 rfl) ?_
  refine lv_iconst (v := 1) X.1 X.2.1 dX13_image_6 (by decide) ?_
  refine g_pZ X S fpX13_354 (Or.inl rfl) dX13_image_7 hf (fun h H locs hm hf S => ?_)
  refine g_aload_n X (or_rv _) dX13_image_10 rfl (lv_at hl 0 rfl) ?_
  refine g_aload_n X (or_rv _) dX13_image_11 rfl (lv_at hl 0 rfl) ?_
  refine g_gI X S foX13_348 rfl dX13_image_12 hf (fun v1 hf => ?_)
  refine g_pI X S fpX13_705 (Or.inl rfl) dX13_image_15 hf (fun h H locs hm hf S => ?_)
  refine g_aload_n X (or_rv _) dX13_image_18 rfl (lv_at hl 0 rfl) ?_
  refine g_aload_n X (or_rv _) dX13_image_19 rfl (lv_at hl 0 rfl) ?_
  refine g_gI X S foX13_351 rfl dX13_image_20 hf (fun v2 hf => ?_)
  refine g_pI X S fpX13_708 (Or.inl rfl) dX13_image_23 hf (fun h H locs hm hf S => ?_)
  refine g_aload_n X (or_rv _) dX13_image_26 rfl (lv_at hl 0 rfl) ?_
  refine g_gR X S foX13_166 dX13_image_27 hf (fun v3 hf => ?_)
  refine g_aload_n X (or_rv _) dX13_image_30 rfl (lv_at hl 0 rfl) ?_
  refine g_gR X S foX13_76 dX13_image_31 hf (fun v4 hf => ?_)
  obtain ⟨h, hc, hf⟩ := ob_some hf
  refine g_cv S (runS (As := [rv v3, rv v4]) (rest := []) X S coX13_660 (by decide) (cX13_copyTo_m l hc) rfl hl.1 (by decide) rfl ⟨Nat.zero_le _, Nat.zero_le _⟩ dX13_image_34) (fun H locs S => ?_)
  refine g_aload_n X (or_rv _) dX13_image_37 rfl (lv_at hl 0 rfl) ?_
  refine g_gR X S foX13_169 dX13_image_38 hf (fun v6 hf => ?_)
  refine g_aload_n X (or_rv _) dX13_image_41 rfl (lv_at hl 0 rfl) ?_
  refine g_gR X S foX13_148 dX13_image_42 hf (fun v7 hf => ?_)
  obtain ⟨h, hc, hf⟩ := ob_some hf
  refine g_cv S (runS (As := [rv v6, rv v7]) (rest := []) X S coX13_660 (by decide) (cX13_copyTo_m l hc) rfl hl.1 (by decide) rfl ⟨Nat.zero_le _, Nat.zero_le _⟩ dX13_image_45) (fun H locs S => ?_)
  refine g_aload_n X (or_rv _) dX13_image_48 rfl (lv_at hl 0 rfl) ?_
  refine g_gR X S foX13_172 dX13_image_49 hf (fun v9 hf => ?_)
  refine g_aload_n X (or_rv _) dX13_image_52 rfl (lv_at hl 0 rfl) ?_
  refine g_gR X S foX13_157 dX13_image_53 hf (fun v10 hf => ?_)
  obtain ⟨h, hc, hf⟩ := ob_some hf
  refine g_cv S (runS (As := [rv v9, rv v10]) (rest := []) X S coX13_660 (by decide) (cX13_copyTo_m l hc) rfl hl.1 (by decide) rfl ⟨Nat.zero_le _, Nat.zero_le _⟩ dX13_image_56) (fun H locs S => ?_)
  refine g_aload_n X (or_rv _) dX13_image_59 rfl (lv_at hl 0 rfl) ?_
  refine g_gR X S foX13_175 dX13_image_60 hf (fun v12 hf => ?_)
  refine g_aload_n X (or_rv _) dX13_image_63 rfl (lv_at hl 0 rfl) ?_
  refine g_gR X S foX13_160 dX13_image_64 hf (fun v13 hf => ?_)
  obtain ⟨h, hc, hf⟩ := ob_some hf
  refine g_cv S (runS (As := [rv v12, rv v13]) (rest := []) X S coX13_660 (by decide) (cX13_copyTo_m l hc) rfl hl.1 (by decide) rfl ⟨Nat.zero_le _, Nat.zero_le _⟩ dX13_image_67) (fun H locs S => ?_)
  refine g_aload_n X (or_rv _) dX13_image_70 rfl (lv_at hl 0 rfl) ?_
  refine g_gR X S foX13_178 dX13_image_71 hf (fun v15 hf => ?_)
  refine g_aload_n X (or_rv _) dX13_image_74 rfl (lv_at hl 0 rfl) ?_
  refine g_gR X S foX13_163 dX13_image_75 hf (fun v16 hf => ?_)
  obtain ⟨h, hc, hf⟩ := ob_some hf
  refine g_cv S (runS (As := [rv v15, rv v16]) (rest := []) X S coX13_660 (by decide) (cX13_copyTo_m l hc) rfl hl.1 (by decide) rfl ⟨Nat.zero_le _, Nat.zero_le _⟩ dX13_image_78) (fun H locs S => ?_)
  refine g_aload_n X (or_rv _) dX13_image_81 rfl (lv_at hl 0 rfl) ?_
  refine g_gR X S foX13_181 dX13_image_82 hf (fun v18 hf => ?_)
  refine g_aload_n X (or_rv _) dX13_image_85 rfl (lv_at hl 0 rfl) ?_
  refine g_gR X S foX13_80 dX13_image_86 hf (fun v19 hf => ?_)
  obtain ⟨h, hc, hf⟩ := ob_some hf
  refine g_cv S (runS (As := [rv v18, rv v19]) (rest := []) X S coX13_660 (by decide) (cX13_copyTo_m l hc) rfl hl.1 (by decide) rfl ⟨Nat.zero_le _, Nat.zero_le _⟩ dX13_image_89) (fun H locs S => ?_)
  cases hf; exact g_rv X S hr hlk dX13_image_92
def fX13_restore (a0 : Nat) (h : Hp) : Option (Int32 × Hp) := gd 11 a0 h (ob (pI 11 a0 2 0 h) fun h => ob (gI 11 a0 67 h) fun v1 => if v1 = 0 then some (0, h) else ob (gI 11 a0 68 h) fun v3 => ob (pI 11 a0 58 v3 h) fun h => ob (gI 11 a0 69 h) fun v4 => ob (pI 11 a0 59 v4 h) fun h => ob (gR 11 a0 3 h) fun v5 => ob (gR 11 a0 70 h) fun v6 => ob (fX13_copyTo v5 v6 h) fun h => ob (gR 11 a0 60 h) fun v8 => ob (gR 11 a0 71 h) fun v9 => ob (fX13_copyTo v8 v9 h) fun h => ob (gR 11 a0 63 h) fun v11 => ob (gR 11 a0 72 h) fun v12 => ob (fX13_copyTo v11 v12 h) fun h => ob (gR 11 a0 64 h) fun v14 => ob (gR 11 a0 73 h) fun v15 => ob (fX13_copyTo v14 v15 h) fun h => ob (gR 11 a0 65 h) fun v17 => ob (gR 11 a0 74 h) fun v18 => ob (fX13_copyTo v17 v18 h) fun h => ob (gR 11 a0 4 h) fun v20 => ob (gR 11 a0 75 h) fun v21 => ob (fX13_copyTo v20 v21 h) fun h => some (1, h))
theorem tkX13_restore {a0 : Nat} {h : Hp} {r9 : Int32 × Hp} (e : fX13_restore a0 h = some r9) : hK h a0 = 11 := by
  unfold fX13_restore at e
  exact (gd_some e).1
theorem cX13_restore_m (l : Launch) {E : EE} {A : Nat → Prop} {a0 : Nat} {h : Hp} {r9 : Int32} {h9 : Hp} (hf : fX13_restore a0 h = some (r9, h9)) : Met l yX13_restore (wsM yX13_restore cX13_restore 1 (some .boolean)) (rmm 9 0 0) (PcE E A h [rv a0]) (Qi E A h9 r9) 0 0 A := by
  refine met_of (by decide +kernel) (by simp [lg_sl, cat_rv, cat_wv, cat_sv, cat_i, cat_l, cat_a]) (fun p e s m args below meth c ls X hr hlk hnm S hl => ?_)
  have hl : lv_has ls 1 [(0, rv a0)] := by simpa [lv_args, cat_rv, cat_wv, cat_sv, cat_i, cat_l, cat_a] using hl
  generalize hH : s.heap = H at S ⊢
  generalize hlo : ([] : List Loc) = locs at S ⊢
  clear hH hlo
  unfold fX13_restore at hf
  obtain ⟨hth, hf⟩ := gd_some hf
  refine g_aload_n X (or_rv _) dX13_restore_0 rfl (lv_at hl 0 rfl) ?_
  refine lv_iconst (v := 0) X.1 X.2.1 dX13_restore_1 (by decide) ?_
  refine g_pI X S fpX13_187 (Or.inl rfl) dX13_restore_2 hf (fun h H locs hm hf S => ?_)
  refine g_aload_n X (or_rv _) dX13_restore_5 rfl (lv_at hl 0 rfl) ?_
  refine g_gI X S foX13_354 rfl dX13_restore_6 hf (fun v1 hf => ?_)
  refine lv_if_ne (tgt := 14) X.1 X.2.1 dX13_restore_9 (by decide) (fun c2 => ?_) (fun c2 => ?_)
  · replace hf := (if_neg c2).symm.trans hf
    refine g_aload_n X (or_rv _) dX13_restore_14 rfl (lv_at hl 0 rfl) ?_
    refine g_aload_n X (or_rv _) dX13_restore_15 rfl (lv_at hl 0 rfl) ?_
    refine g_gI X S foX13_705 rfl dX13_restore_16 hf (fun v3 hf => ?_)
    refine g_pI X S fpX13_348 (Or.inl rfl) dX13_restore_19 hf (fun h H locs hm hf S => ?_)
    refine g_aload_n X (or_rv _) dX13_restore_22 rfl (lv_at hl 0 rfl) ?_
    refine g_aload_n X (or_rv _) dX13_restore_23 rfl (lv_at hl 0 rfl) ?_
    refine g_gI X S foX13_708 rfl dX13_restore_24 hf (fun v4 hf => ?_)
    refine g_pI X S fpX13_351 (Or.inl rfl) dX13_restore_27 hf (fun h H locs hm hf S => ?_)
    refine g_aload_n X (or_rv _) dX13_restore_30 rfl (lv_at hl 0 rfl) ?_
    refine g_gR X S foX13_76 dX13_restore_31 hf (fun v5 hf => ?_)
    refine g_aload_n X (or_rv _) dX13_restore_34 rfl (lv_at hl 0 rfl) ?_
    refine g_gR X S foX13_166 dX13_restore_35 hf (fun v6 hf => ?_)
    obtain ⟨h, hc, hf⟩ := ob_some hf
    refine g_cv S (runS (As := [rv v5, rv v6]) (rest := []) X S coX13_660 (by decide) (cX13_copyTo_m l hc) rfl hl.1 (by decide) rfl ⟨Nat.zero_le _, Nat.zero_le _⟩ dX13_restore_38) (fun H locs S => ?_)
    refine g_aload_n X (or_rv _) dX13_restore_41 rfl (lv_at hl 0 rfl) ?_
    refine g_gR X S foX13_148 dX13_restore_42 hf (fun v8 hf => ?_)
    refine g_aload_n X (or_rv _) dX13_restore_45 rfl (lv_at hl 0 rfl) ?_
    refine g_gR X S foX13_169 dX13_restore_46 hf (fun v9 hf => ?_)
    obtain ⟨h, hc, hf⟩ := ob_some hf
    refine g_cv S (runS (As := [rv v8, rv v9]) (rest := []) X S coX13_660 (by decide) (cX13_copyTo_m l hc) rfl hl.1 (by decide) rfl ⟨Nat.zero_le _, Nat.zero_le _⟩ dX13_restore_49) (fun H locs S => ?_)
    refine g_aload_n X (or_rv _) dX13_restore_52 rfl (lv_at hl 0 rfl) ?_
    refine g_gR X S foX13_157 dX13_restore_53 hf (fun v11 hf => ?_)
    refine g_aload_n X (or_rv _) dX13_restore_56 rfl (lv_at hl 0 rfl) ?_
    refine g_gR X S foX13_172 dX13_restore_57 hf (fun v12 hf => ?_)
    obtain ⟨h, hc, hf⟩ := ob_some hf
    refine g_cv S (runS (As := [rv v11, rv v12]) (rest := []) X S coX13_660 (by decide) (cX13_copyTo_m l hc) rfl hl.1 (by decide) rfl ⟨Nat.zero_le _, Nat.zero_le _⟩ dX13_restore_60) (fun H locs S => ?_)
    refine g_aload_n X (or_rv _) dX13_restore_63 rfl (lv_at hl 0 rfl) ?_
    refine g_gR X S foX13_160 dX13_restore_64 hf (fun v14 hf => ?_)
    refine g_aload_n X (or_rv _) dX13_restore_67 rfl (lv_at hl 0 rfl) ?_
    refine g_gR X S foX13_175 dX13_restore_68 hf (fun v15 hf => ?_)
    obtain ⟨h, hc, hf⟩ := ob_some hf
    refine g_cv S (runS (As := [rv v14, rv v15]) (rest := []) X S coX13_660 (by decide) (cX13_copyTo_m l hc) rfl hl.1 (by decide) rfl ⟨Nat.zero_le _, Nat.zero_le _⟩ dX13_restore_71) (fun H locs S => ?_)
    refine g_aload_n X (or_rv _) dX13_restore_74 rfl (lv_at hl 0 rfl) ?_
    refine g_gR X S foX13_163 dX13_restore_75 hf (fun v17 hf => ?_)
    refine g_aload_n X (or_rv _) dX13_restore_78 rfl (lv_at hl 0 rfl) ?_
    refine g_gR X S foX13_178 dX13_restore_79 hf (fun v18 hf => ?_)
    obtain ⟨h, hc, hf⟩ := ob_some hf
    refine g_cv S (runS (As := [rv v17, rv v18]) (rest := []) X S coX13_660 (by decide) (cX13_copyTo_m l hc) rfl hl.1 (by decide) rfl ⟨Nat.zero_le _, Nat.zero_le _⟩ dX13_restore_82) (fun H locs S => ?_)
    refine g_aload_n X (or_rv _) dX13_restore_85 rfl (lv_at hl 0 rfl) ?_
    refine g_gR X S foX13_80 dX13_restore_86 hf (fun v20 hf => ?_)
    refine g_aload_n X (or_rv _) dX13_restore_89 rfl (lv_at hl 0 rfl) ?_
    refine g_gR X S foX13_181 dX13_restore_90 hf (fun v21 hf => ?_)
    obtain ⟨h, hc, hf⟩ := ob_some hf
    refine g_cv S (runS (As := [rv v20, rv v21]) (rest := []) X S coX13_660 (by decide) (cX13_copyTo_m l hc) rfl hl.1 (by decide) rfl ⟨Nat.zero_le _, Nat.zero_le _⟩ dX13_restore_93) (fun H locs S => ?_)
    refine lv_iconst (v := 1) X.1 X.2.1 dX13_restore_96 (by decide) ?_
    cases hf; exact g_rz X S hr hlk (by decide) dX13_restore_97
  · replace hf := (if_pos c2).symm.trans hf
    refine lv_iconst (v := 0) X.1 X.2.1 dX13_restore_12 (by decide) ?_
    cases hf; exact g_rz X S hr hlk (by decide) dX13_restore_13
end GM
