section GM
variable {p : Program} {l : Launch} {e : Env} {R : Room} {s : State} {m : MethodId} {args : Array Value} {below : List Frame} {meth : Method} {c : Code} {E : EE} {A : Nat → Prop}
def fX13_isEditing (a0 : Int32) : Option (Int32) := if a0 = 12 then some 1 else if a0 = 13 then some 1 else some 0
theorem cX13_isEditing_m (l : Launch) {E : EE} {A : Nat → Prop} {a0 : Int32} {h : Hp} {r9 : Int32} (hf : fX13_isEditing a0 = some r9) : Met l yX13_isEditing (wsM yX13_isEditing cX13_isEditing 1 (some .boolean)) (rmm 8 0 0) (PcE E A h [.int a0]) (Qi E A h r9) 0 0 A := by
  refine met_of (by decide +kernel) (by simp [lg_sl, cat_rv, cat_wv, cat_sv, cat_i, cat_l, cat_a]) (fun p e s m args below meth c ls X hr hlk hnm S hl => ?_)
  have hl : lv_has ls 1 [(0, .int a0)] := by simpa [lv_args, cat_rv, cat_wv, cat_sv, cat_i, cat_l, cat_a] using hl
  generalize hH : s.heap = H at S ⊢
  generalize hlo : ([] : List Loc) = locs at S ⊢
  clear hH hlo
  unfold fX13_isEditing at hf
  refine lv_iload_n X.1 X.2.1 dX13_isEditing_0 rfl (lv_at hl 0 rfl) ?_
  refine lv_bipush (v := 12) X.1 X.2.1 dX13_isEditing_1 (by decide) ?_
  refine lv_icmp_eq (tgt := 12) X.1 X.2.1 dX13_isEditing_3 (by decide) (fun c1 => ?_) (fun c1 => ?_)
  · replace hf := (if_pos c1).symm.trans hf
    refine lv_iconst (v := 1) X.1 X.2.1 dX13_isEditing_12 (by decide) ?_
    refine lv_goto (tgt := 17) X.1 X.2.1 dX13_isEditing_13 (by decide) ?_
    cases hf; exact g_rz X S hr hlk (by decide) dX13_isEditing_17
  · replace hf := (if_neg c1).symm.trans hf
    refine lv_iload_n X.1 X.2.1 dX13_isEditing_6 rfl (lv_at hl 0 rfl) ?_
    refine lv_bipush (v := 13) X.1 X.2.1 dX13_isEditing_7 (by decide) ?_
    refine lv_icmp_ne (tgt := 16) X.1 X.2.1 dX13_isEditing_9 (by decide) (fun c2 => ?_) (fun c2 => ?_)
    · replace hf := (if_neg c2).symm.trans hf
      refine lv_iconst (v := 0) X.1 X.2.1 dX13_isEditing_16 (by decide) ?_
      cases hf; exact g_rz X S hr hlk (by decide) dX13_isEditing_17
    · replace hf := (if_pos c2).symm.trans hf
      refine lv_iconst (v := 1) X.1 X.2.1 dX13_isEditing_12 (by decide) ?_
      refine lv_goto (tgt := 17) X.1 X.2.1 dX13_isEditing_13 (by decide) ?_
      cases hf; exact g_rz X S hr hlk (by decide) dX13_isEditing_17
def fX13_isTwofold (a0 : Int32) : Option (Int32) := if 13 < a0 then some 0 else some 1
theorem cX13_isTwofold_m (l : Launch) {E : EE} {A : Nat → Prop} {a0 : Int32} {h : Hp} {r9 : Int32} (hf : fX13_isTwofold a0 = some r9) : Met l yX13_isTwofold (wsM yX13_isTwofold cX13_isTwofold 1 (some .boolean)) (rmm 8 0 0) (PcE E A h [.int a0]) (Qi E A h r9) 0 0 A := by
  refine met_of (by decide +kernel) (by simp [lg_sl, cat_rv, cat_wv, cat_sv, cat_i, cat_l, cat_a]) (fun p e s m args below meth c ls X hr hlk hnm S hl => ?_)
  have hl : lv_has ls 1 [(0, .int a0)] := by simpa [lv_args, cat_rv, cat_wv, cat_sv, cat_i, cat_l, cat_a] using hl
  generalize hH : s.heap = H at S ⊢
  generalize hlo : ([] : List Loc) = locs at S ⊢
  clear hH hlo
  unfold fX13_isTwofold at hf
  refine lv_iload_n X.1 X.2.1 dX13_isTwofold_0 rfl (lv_at hl 0 rfl) ?_
  refine lv_bipush (v := 13) X.1 X.2.1 dX13_isTwofold_1 (by decide) ?_
  refine lv_icmp_gt (tgt := 10) X.1 X.2.1 dX13_isTwofold_3 (by decide) (fun c1 => ?_) (fun c1 => ?_)
  · replace hf := (if_pos c1).symm.trans hf
    refine lv_iconst (v := 0) X.1 X.2.1 dX13_isTwofold_10 (by decide) ?_
    cases hf; exact g_rz X S hr hlk (by decide) dX13_isTwofold_11
  · replace hf := (if_neg c1).symm.trans hf
    refine lv_iconst (v := 1) X.1 X.2.1 dX13_isTwofold_6 (by decide) ?_
    refine lv_goto (tgt := 11) X.1 X.2.1 dX13_isTwofold_7 (by decide) ?_
    cases hf; exact g_rz X S hr hlk (by decide) dX13_isTwofold_11
def fX13_findOperands_33 (k46 : Nat → Int32 → Int32 → Int32 → Nat → Hp → Option (Hp)) (x0 : Nat) (x1 : Int32) (x2 : Int32) (y0 : Nat) (h : Hp) : Option (Hp) := k46 x0 x1 x2 8 y0 h
theorem wfX13_findOperands_33 {k46 : Nat → Int32 → Int32 → Int32 → Nat → Hp → Option (Hp)} {h9 : Hp} (X : Cx p E A 9 R s m args c cX13_findOperands yX13_findOperands.cls 3) (hr : meth.sig.returnType = none) (hlk : meth.locks = false) (hnm : meth.name = yX13_findOperands.name) (hk46 : ∀ (x0 : Nat) (x1 : Int32) (x2 : Int32) (y0 : Int32) (y1 : Nat) (h : Hp) (H : Heap) (locs : List Loc) (ls : Array Slot), lv_has ls 3 [(0, rv x0), (1, .int x1), (2, .int x2)] → St E A s h H locs → k46 x0 x1 x2 y0 y1 h = some h9 → W p l e R s m args below meth c H locs 0 0 (MQ below (Qv E A h9) args s 0 0 A) (F0 m 46 ls [.int y0, rv y1])) :
    ∀ (x0 : Nat) (x1 : Int32) (x2 : Int32) (y0 : Nat) (h : Hp) (H : Heap) (locs : List Loc) (ls : Array Slot), lv_has ls 3 [(0, rv x0), (1, .int x1), (2, .int x2)] → St E A s h H locs → fX13_findOperands_33 k46 x0 x1 x2 y0 h = some h9 → W p l e R s m args below meth c H locs 0 0 (MQ below (Qv E A h9) args s 0 0 A) (F0 m 33 ls [rv y0]) := by
  intro x0 x1 x2 y0 h H locs ls hl S hf
  unfold fX13_findOperands_33 at hf
  refine lv_bipush (v := 8) X.1 X.2.1 dX13_findOperands_33 (by decide) ?_
  refine lv_goto (tgt := 46) X.1 X.2.1 dX13_findOperands_35 (by decide) ?_
  exact hk46 _ _ _ _ _ _ _ _ _ hl S hf
def fX13_findOperands_123 (x0 : Nat) (x2 : Int32) (h : Hp) : Option (Hp) := ob (fX13_isTwofold x2) fun v1 => if v1 = 0 then some h else ob (fX13_isEditing x2) fun v3 => if v3 = 0 then ob (gI 11 x0 36 h) fun v5 => ob (gI 11 x0 37 h) fun v6 => ob (fX13_isThere v5 v6) fun v7 => if v7 = 0 then ob (fX13_raise x0 1 1 h) fun h => some h else some h else some h
theorem wfX13_findOperands_123 {h9 : Hp} (X : Cx p E A 9 R s m args c cX13_findOperands yX13_findOperands.cls 3) (hr : meth.sig.returnType = none) (hlk : meth.locks = false) (hnm : meth.name = yX13_findOperands.name) :
    ∀ (x0 : Nat) (x2 : Int32) (h : Hp) (H : Heap) (locs : List Loc) (ls : Array Slot), lv_has ls 3 [(0, rv x0), (2, .int x2)] → St E A s h H locs → fX13_findOperands_123 x0 x2 h = some h9 → W p l e R s m args below meth c H locs 0 0 (MQ below (Qv E A h9) args s 0 0 A) (F0 m 123 ls []) := by
  intro x0 x2 h H locs ls hl S hf
  unfold fX13_findOperands_123 at hf
  refine lv_iload_n X.1 X.2.1 dX13_findOperands_123 rfl (lv_at hl 1 rfl) ?_
  obtain ⟨v1, hc, hf⟩ := ob_some hf
  refine g_ci S (runS (As := [.int x2]) (rest := []) X S coX13_424 (by decide) (cX13_isTwofold_m l hc) rfl hl.1 (by decide) rfl ⟨Nat.zero_le _, Nat.zero_le _⟩ dX13_findOperands_124) (fun H locs S => ?_)
  refine lv_if_eq (tgt := 157) X.1 X.2.1 dX13_findOperands_127 (by decide) (fun c2 => ?_) (fun c2 => ?_)
  · replace hf := (if_pos c2).symm.trans hf
    cases hf; exact g_rv X S hr hlk dX13_findOperands_157
  · replace hf := (if_neg c2).symm.trans hf
    refine lv_iload_n X.1 X.2.1 dX13_findOperands_130 rfl (lv_at hl 1 rfl) ?_
    obtain ⟨v3, hc, hf⟩ := ob_some hf
    refine g_ci S (runS (As := [.int x2]) (rest := []) X S coX13_431 (by decide) (cX13_isEditing_m l hc) rfl hl.1 (by decide) rfl ⟨Nat.zero_le _, Nat.zero_le _⟩ dX13_findOperands_131) (fun H locs S => ?_)
    refine lv_if_ne (tgt := 157) X.1 X.2.1 dX13_findOperands_134 (by decide) (fun c4 => ?_) (fun c4 => ?_)
    · replace hf := (if_neg c4).symm.trans hf
      cases hf; exact g_rv X S hr hlk dX13_findOperands_157
    · replace hf := (if_pos c4).symm.trans hf
      refine g_aload_n X (or_rv _) dX13_findOperands_137 rfl (lv_at hl 0 rfl) ?_
      refine g_gI X S foX13_397 rfl dX13_findOperands_138 hf (fun v5 hf => ?_)
      refine g_aload_n X (or_rv _) dX13_findOperands_141 rfl (lv_at hl 0 rfl) ?_
      refine g_gI X S foX13_406 rfl dX13_findOperands_142 hf (fun v6 hf => ?_)
      obtain ⟨v7, hc, hf⟩ := ob_some hf
      refine g_ci S (runS (As := [.int v5, .int v6]) (rest := []) X S coX13_427 (by decide) (cX13_isThere_m l hc) rfl hl.1 (by decide) rfl ⟨Nat.zero_le _, Nat.zero_le _⟩ dX13_findOperands_145) (fun H locs S => ?_)
      refine lv_if_ne (tgt := 157) X.1 X.2.1 dX13_findOperands_148 (by decide) (fun c8 => ?_) (fun c8 => ?_)
      · replace hf := (if_neg c8).symm.trans hf
        cases hf; exact g_rv X S hr hlk dX13_findOperands_157
      · replace hf := (if_pos c8).symm.trans hf
        refine g_aload_n X (or_rv _) dX13_findOperands_151 rfl (lv_at hl 0 rfl) ?_
        refine lv_iconst (v := 1) X.1 X.2.1 dX13_findOperands_152 (by decide) ?_
        refine lv_iconst (v := 1) X.1 X.2.1 dX13_findOperands_153 (by decide) ?_
        obtain ⟨h, hc, hf⟩ := ob_some hf
        refine g_cv S (runV (As := [.int 1, .int 1]) (rest := []) X S coX13_415 (by decide) (cX13_raise_m l hc) (tkX13_raise hc) rfl hl.1 (by decide) rfl ⟨Nat.zero_le _, Nat.zero_le _⟩ dX13_findOperands_154) (fun H locs S => ?_)
        cases hf; exact g_rv X S hr hlk dX13_findOperands_157
def fX13_findOperands_94 (x0 : Nat) (x2 : Int32) (y0 : Int32) (y1 : Nat) (h : Hp) : Option (Hp) := ob (pI 11 y1 37 y0 h) fun h => if 17 < x2 then fX13_findOperands_123 x0 x2 h else ob (gI 11 x0 34 h) fun v2 => ob (gI 11 x0 35 h) fun v3 => ob (fX13_isThere v2 v3) fun v4 => if v4 = 0 then ob (fX13_raise x0 1 0 h) fun h => fX13_findOperands_123 x0 x2 h else fX13_findOperands_123 x0 x2 h
theorem wfX13_findOperands_94 {h9 : Hp} (X : Cx p E A 9 R s m args c cX13_findOperands yX13_findOperands.cls 3) (hr : meth.sig.returnType = none) (hlk : meth.locks = false) (hnm : meth.name = yX13_findOperands.name) :
    ∀ (x0 : Nat) (x2 : Int32) (y0 : Int32) (y1 : Nat) (h : Hp) (H : Heap) (locs : List Loc) (ls : Array Slot), lv_has ls 3 [(0, rv x0), (2, .int x2)] → St E A s h H locs → fX13_findOperands_94 x0 x2 y0 y1 h = some h9 → W p l e R s m args below meth c H locs 0 0 (MQ below (Qv E A h9) args s 0 0 A) (F0 m 94 ls [.int y0, rv y1]) := by
  intro x0 x2 y0 y1 h H locs ls hl S hf
  unfold fX13_findOperands_94 at hf
  refine g_pI X S fpX13_406 (Or.inl rfl) dX13_findOperands_94 hf (fun h H locs hm hf S => ?_)
  refine lv_iload_n X.1 X.2.1 dX13_findOperands_97 rfl (lv_at hl 1 rfl) ?_
  refine lv_bipush (v := 17) X.1 X.2.1 dX13_findOperands_98 (by decide) ?_
  refine lv_icmp_gt (tgt := 123) X.1 X.2.1 dX13_findOperands_100 (by decide) (fun c1 => ?_) (fun c1 => ?_)
  · replace hf := (if_pos c1).symm.trans hf
    exact wfX13_findOperands_123 X hr hlk hnm _ _ _ _ _ _ hl S hf
  · replace hf := (if_neg c1).symm.trans hf
    refine g_aload_n X (or_rv _) dX13_findOperands_103 rfl (lv_at hl 0 rfl) ?_
    refine g_gI X S foX13_394 rfl dX13_findOperands_104 hf (fun v2 hf => ?_)
    refine g_aload_n X (or_rv _) dX13_findOperands_107 rfl (lv_at hl 0 rfl) ?_
    refine g_gI X S foX13_403 rfl dX13_findOperands_108 hf (fun v3 hf => ?_)
    obtain ⟨v4, hc, hf⟩ := ob_some hf
    refine g_ci S (runS (As := [.int v2, .int v3]) (rest := []) X S coX13_427 (by decide) (cX13_isThere_m l hc) rfl hl.1 (by decide) rfl ⟨Nat.zero_le _, Nat.zero_le _⟩ dX13_findOperands_111) (fun H locs S => ?_)
    refine lv_if_ne (tgt := 123) X.1 X.2.1 dX13_findOperands_114 (by decide) (fun c5 => ?_) (fun c5 => ?_)
    · replace hf := (if_neg c5).symm.trans hf
      exact wfX13_findOperands_123 X hr hlk hnm _ _ _ _ _ _ hl S hf
    · replace hf := (if_pos c5).symm.trans hf
      refine g_aload_n X (or_rv _) dX13_findOperands_117 rfl (lv_at hl 0 rfl) ?_
      refine lv_iconst (v := 1) X.1 X.2.1 dX13_findOperands_118 (by decide) ?_
      refine lv_iconst (v := 0) X.1 X.2.1 dX13_findOperands_119 (by decide) ?_
      obtain ⟨h, hc, hf⟩ := ob_some hf
      refine g_cv S (runV (As := [.int 1, .int 0]) (rest := []) X S coX13_415 (by decide) (cX13_raise_m l hc) (tkX13_raise hc) rfl hl.1 (by decide) rfl ⟨Nat.zero_le _, Nat.zero_le _⟩ dX13_findOperands_120) (fun H locs S => ?_)
      exact wfX13_findOperands_123 X hr hlk hnm _ _ _ _ _ _ hl S hf
def fX13_findOperands_67 (x0 : Nat) (x1 : Int32) (x2 : Int32) (y0 : Int32) (y1 : Nat) (h : Hp) : Option (Hp) := ob (pI 11 y1 36 y0 h) fun h => if 8 < x2 then ob (gI 11 x0 35 h) fun v2 => fX13_findOperands_94 x0 x2 v2 x0 h else ob (gR 11 x0 8 h) fun v3 => ob (aI v3 ((2 * x1) + 1) h) fun v4 => fX13_findOperands_94 x0 x2 v4 x0 h
theorem wfX13_findOperands_67 {h9 : Hp} (X : Cx p E A 9 R s m args c cX13_findOperands yX13_findOperands.cls 3) (hr : meth.sig.returnType = none) (hlk : meth.locks = false) (hnm : meth.name = yX13_findOperands.name) :
    ∀ (x0 : Nat) (x1 : Int32) (x2 : Int32) (y0 : Int32) (y1 : Nat) (h : Hp) (H : Heap) (locs : List Loc) (ls : Array Slot), lv_has ls 3 [(0, rv x0), (1, .int x1), (2, .int x2)] → St E A s h H locs → fX13_findOperands_67 x0 x1 x2 y0 y1 h = some h9 → W p l e R s m args below meth c H locs 0 0 (MQ below (Qv E A h9) args s 0 0 A) (F0 m 67 ls [.int y0, rv y1]) := by
  intro x0 x1 x2 y0 y1 h H locs ls hl S hf
  unfold fX13_findOperands_67 at hf
  refine g_pI X S fpX13_397 (Or.inl rfl) dX13_findOperands_67 hf (fun h H locs hm hf S => ?_)
  refine g_aload_n X (or_rv _) dX13_findOperands_70 rfl (lv_at hl 0 rfl) ?_
  refine lv_iload_n X.1 X.2.1 dX13_findOperands_71 rfl (lv_at hl 2 rfl) ?_
  refine lv_bipush (v := 8) X.1 X.2.1 dX13_findOperands_72 (by decide) ?_
  refine lv_icmp_gt (tgt := 90) X.1 X.2.1 dX13_findOperands_74 (by decide) (fun c1 => ?_) (fun c1 => ?_)
  · replace hf := (if_pos c1).symm.trans hf
    refine g_aload_n X (or_rv _) dX13_findOperands_90 rfl (lv_at hl 0 rfl) ?_
    refine g_gI X S foX13_403 rfl dX13_findOperands_91 hf (fun v2 hf => ?_)
    exact wfX13_findOperands_94 X hr hlk hnm _ _ _ _ _ _ _ _ (lv_sub hl [0, 2] rfl) S hf
  · replace hf := (if_neg c1).symm.trans hf
    refine g_aload_n X (or_rv _) dX13_findOperands_77 rfl (lv_at hl 0 rfl) ?_
    refine g_gR X S foX13_92 dX13_findOperands_78 hf (fun v3 hf => ?_)
    refine lv_iconst (v := 2) X.1 X.2.1 dX13_findOperands_81 (by decide) ?_
    refine lv_iload_n X.1 X.2.1 dX13_findOperands_82 rfl (lv_at hl 1 rfl) ?_
    refine lv_imul X.1 X.2.1 dX13_findOperands_83 ?_
    refine lv_iconst (v := 1) X.1 X.2.1 dX13_findOperands_84 (by decide) ?_
    refine lv_iadd X.1 X.2.1 dX13_findOperands_85 ?_
    refine g_aI X S dX13_findOperands_86 hf (fun v4 hf => ?_)
    refine lv_goto (tgt := 94) X.1 X.2.1 dX13_findOperands_87 (by decide) ?_
    exact wfX13_findOperands_94 X hr hlk hnm _ _ _ _ _ _ _ _ (lv_sub hl [0, 2] rfl) S hf
def fX13_findOperands_46 (x0 : Nat) (x1 : Int32) (x2 : Int32) (y0 : Int32) (y1 : Nat) (h : Hp) : Option (Hp) := ob (pI 11 y1 35 y0 h) fun h => ob (fX13_isTwofold x2) fun v1 => if v1 = 0 then fX13_findOperands_67 x0 x1 x2 0 x0 h else ob (fX13_addressOf x0 x1 1 h) fun v3 => fX13_findOperands_67 x0 x1 x2 v3 x0 h
theorem wfX13_findOperands_46 {h9 : Hp} (X : Cx p E A 9 R s m args c cX13_findOperands yX13_findOperands.cls 3) (hr : meth.sig.returnType = none) (hlk : meth.locks = false) (hnm : meth.name = yX13_findOperands.name) :
    ∀ (x0 : Nat) (x1 : Int32) (x2 : Int32) (y0 : Int32) (y1 : Nat) (h : Hp) (H : Heap) (locs : List Loc) (ls : Array Slot), lv_has ls 3 [(0, rv x0), (1, .int x1), (2, .int x2)] → St E A s h H locs → fX13_findOperands_46 x0 x1 x2 y0 y1 h = some h9 → W p l e R s m args below meth c H locs 0 0 (MQ below (Qv E A h9) args s 0 0 A) (F0 m 46 ls [.int y0, rv y1]) := by
  intro x0 x1 x2 y0 y1 h H locs ls hl S hf
  unfold fX13_findOperands_46 at hf
  refine g_pI X S fpX13_403 (Or.inl rfl) dX13_findOperands_46 hf (fun h H locs hm hf S => ?_)
  refine g_aload_n X (or_rv _) dX13_findOperands_49 rfl (lv_at hl 0 rfl) ?_
  refine lv_iload_n X.1 X.2.1 dX13_findOperands_50 rfl (lv_at hl 2 rfl) ?_
  obtain ⟨v1, hc, hf⟩ := ob_some hf
  refine g_ci S (runS (As := [.int x2]) (rest := [rv x0]) X S coX13_424 (by decide) (cX13_isTwofold_m l hc) rfl hl.1 (by simp [cat_rv, cat_wv, cat_sv, cat_i, cat_l, cat_a]) rfl ⟨Nat.zero_le _, Nat.zero_le _⟩ dX13_findOperands_51) (fun H locs S => ?_)
  refine lv_if_eq (tgt := 66) X.1 X.2.1 dX13_findOperands_54 (by decide) (fun c2 => ?_) (fun c2 => ?_)
  · replace hf := (if_pos c2).symm.trans hf
    refine lv_iconst (v := 0) X.1 X.2.1 dX13_findOperands_66 (by decide) ?_
    exact wfX13_findOperands_67 X hr hlk hnm _ _ _ _ _ _ _ _ _ hl S hf
  · replace hf := (if_neg c2).symm.trans hf
    refine g_aload_n X (or_rv _) dX13_findOperands_57 rfl (lv_at hl 0 rfl) ?_
    refine lv_iload_n X.1 X.2.1 dX13_findOperands_58 rfl (lv_at hl 1 rfl) ?_
    refine lv_iconst (v := 1) X.1 X.2.1 dX13_findOperands_59 (by decide) ?_
    obtain ⟨v3, hc, hf⟩ := ob_some hf
    refine g_ci S (runV (As := [.int x1, .int 1]) (rest := [rv x0]) X S coX13_421 (by decide) (cX13_addressOf_m l hc) (tkX13_addressOf hc) rfl hl.1 (by simp [cat_rv, cat_wv, cat_sv, cat_i, cat_l, cat_a]) rfl ⟨Nat.zero_le _, Nat.zero_le _⟩ dX13_findOperands_60) (fun H locs S => ?_)
    refine lv_goto (tgt := 67) X.1 X.2.1 dX13_findOperands_63 (by decide) ?_
    exact wfX13_findOperands_67 X hr hlk hnm _ _ _ _ _ _ _ _ _ hl S hf
def fX13_findOperands_17 (x0 : Nat) (x1 : Int32) (x2 : Int32) (y0 : Int32) (y1 : Nat) (h : Hp) : Option (Hp) := ob (pI 11 y1 34 y0 h) fun h => if x2 = 16 then fX13_findOperands_33 fX13_findOperands_46 x0 x1 x2 x0 h else if x2 = 17 then fX13_findOperands_33 fX13_findOperands_46 x0 x1 x2 x0 h else ob (gR 11 x0 8 h) fun v3 => ob (aI v3 (2 * x1) h) fun v4 => fX13_findOperands_46 x0 x1 x2 v4 x0 h
theorem wfX13_findOperands_17 {h9 : Hp} (X : Cx p E A 9 R s m args c cX13_findOperands yX13_findOperands.cls 3) (hr : meth.sig.returnType = none) (hlk : meth.locks = false) (hnm : meth.name = yX13_findOperands.name) :
    ∀ (x0 : Nat) (x1 : Int32) (x2 : Int32) (y0 : Int32) (y1 : Nat) (h : Hp) (H : Heap) (locs : List Loc) (ls : Array Slot), lv_has ls 3 [(0, rv x0), (1, .int x1), (2, .int x2)] → St E A s h H locs → fX13_findOperands_17 x0 x1 x2 y0 y1 h = some h9 → W p l e R s m args below meth c H locs 0 0 (MQ below (Qv E A h9) args s 0 0 A) (F0 m 17 ls [.int y0, rv y1]) := by
  intro x0 x1 x2 y0 y1 h H locs ls hl S hf
  unfold fX13_findOperands_17 at hf
  refine g_pI X S fpX13_394 (Or.inl rfl) dX13_findOperands_17 hf (fun h H locs hm hf S => ?_)
  refine g_aload_n X (or_rv _) dX13_findOperands_20 rfl (lv_at hl 0 rfl) ?_
  refine lv_iload_n X.1 X.2.1 dX13_findOperands_21 rfl (lv_at hl 2 rfl) ?_
  refine lv_bipush (v := 16) X.1 X.2.1 dX13_findOperands_22 (by decide) ?_
  refine lv_icmp_eq (tgt := 33) X.1 X.2.1 dX13_findOperands_24 (by decide) (fun c1 => ?_) (fun c1 => ?_)
  · replace hf := (if_pos c1).symm.trans hf
    exact wfX13_findOperands_33 X hr hlk hnm (wfX13_findOperands_46 X hr hlk hnm) _ _ _ _ _ _ _ _ hl S hf
  · replace hf := (if_neg c1).symm.trans hf
    refine lv_iload_n X.1 X.2.1 dX13_findOperands_27 rfl (lv_at hl 2 rfl) ?_
    refine lv_bipush (v := 17) X.1 X.2.1 dX13_findOperands_28 (by decide) ?_
    refine lv_icmp_ne (tgt := 38) X.1 X.2.1 dX13_findOperands_30 (by decide) (fun c2 => ?_) (fun c2 => ?_)
    · replace hf := (if_neg c2).symm.trans hf
      refine g_aload_n X (or_rv _) dX13_findOperands_38 rfl (lv_at hl 0 rfl) ?_
      refine g_gR X S foX13_92 dX13_findOperands_39 hf (fun v3 hf => ?_)
      refine lv_iconst (v := 2) X.1 X.2.1 dX13_findOperands_42 (by decide) ?_
      refine lv_iload_n X.1 X.2.1 dX13_findOperands_43 rfl (lv_at hl 1 rfl) ?_
      refine lv_imul X.1 X.2.1 dX13_findOperands_44 ?_
      refine g_aI X S dX13_findOperands_45 hf (fun v4 hf => ?_)
      exact wfX13_findOperands_46 X hr hlk hnm _ _ _ _ _ _ _ _ _ hl S hf
    · replace hf := (if_pos c2).symm.trans hf
      exact wfX13_findOperands_33 X hr hlk hnm (wfX13_findOperands_46 X hr hlk hnm) _ _ _ _ _ _ _ _ hl S hf
def fX13_findOperands (a0 : Nat) (a1 : Int32) (a2 : Int32) (h : Hp) : Option (Hp) := gd 11 a0 h (if 17 < a2 then fX13_findOperands_17 a0 a1 a2 0 a0 h else ob (fX13_addressOf a0 a1 0 h) fun v2 => fX13_findOperands_17 a0 a1 a2 v2 a0 h)
theorem tkX13_findOperands {a0 : Nat} {a1 : Int32} {a2 : Int32} {h : Hp} {r9 : Hp} (e : fX13_findOperands a0 a1 a2 h = some r9) : hK h a0 = 11 := by
  unfold fX13_findOperands at e
  exact (gd_some e).1
theorem cX13_findOperands_m (l : Launch) {E : EE} {A : Nat → Prop} {a0 : Nat} {a1 : Int32} {a2 : Int32} {h : Hp} {h9 : Hp} (hf : fX13_findOperands a0 a1 a2 h = some h9) : Met l yX13_findOperands (wsM yX13_findOperands cX13_findOperands 3 none) (rmm 9 0 0) (PcE E A h [rv a0, .int a1, .int a2]) (Qv E A h9) 0 0 A := by
  refine met_of (by decide +kernel) (by simp [lg_sl, cat_rv, cat_wv, cat_sv, cat_i, cat_l, cat_a]) (fun p e s m args below meth c ls X hr hlk hnm S hl => ?_)
  have hl : lv_has ls 3 [(0, rv a0), (1, .int a1), (2, .int a2)] := by simpa [lv_args, cat_rv, cat_wv, cat_sv, cat_i, cat_l, cat_a] using hl
  generalize hH : s.heap = H at S ⊢
  generalize hlo : ([] : List Loc) = locs at S ⊢
  clear hH hlo
  unfold fX13_findOperands at hf
  obtain ⟨hth, hf⟩ := gd_some hf
  refine g_aload_n X (or_rv _) dX13_findOperands_0 rfl (lv_at hl 0 rfl) ?_
  refine lv_iload_n X.1 X.2.1 dX13_findOperands_1 rfl (lv_at hl 2 rfl) ?_
  refine lv_bipush (v := 17) X.1 X.2.1 dX13_findOperands_2 (by decide) ?_
  refine lv_icmp_gt (tgt := 16) X.1 X.2.1 dX13_findOperands_4 (by decide) (fun c1 => ?_) (fun c1 => ?_)
  · replace hf := (if_pos c1).symm.trans hf
    refine lv_iconst (v := 0) X.1 X.2.1 dX13_findOperands_16 (by decide) ?_
    exact wfX13_findOperands_17 X hr hlk hnm _ _ _ _ _ _ _ _ _ hl S hf
  · replace hf := (if_neg c1).symm.trans hf
    refine g_aload_n X (or_rv _) dX13_findOperands_7 rfl (lv_at hl 0 rfl) ?_
    refine lv_iload_n X.1 X.2.1 dX13_findOperands_8 rfl (lv_at hl 1 rfl) ?_
    refine lv_iconst (v := 0) X.1 X.2.1 dX13_findOperands_9 (by decide) ?_
    obtain ⟨v2, hc, hf⟩ := ob_some hf
    refine g_ci S (runV (As := [.int a1, .int 0]) (rest := [rv a0]) X S coX13_421 (by decide) (cX13_addressOf_m l hc) (tkX13_addressOf hc) rfl hl.1 (by simp [cat_rv, cat_wv, cat_sv, cat_i, cat_l, cat_a]) rfl ⟨Nat.zero_le _, Nat.zero_le _⟩ dX13_findOperands_10) (fun H locs S => ?_)
    refine lv_goto (tgt := 17) X.1 X.2.1 dX13_findOperands_13 (by decide) ?_
    exact wfX13_findOperands_17 X hr hlk hnm _ _ _ _ _ _ _ _ _ hl S hf
def fX13_doMeet (a0 : Nat) (h : Hp) : Option (Int32) := gd 11 a0 h (ob (gI 11 a0 34 h) fun v1 => ob (gI 11 a0 36 h) fun v2 => ob (gI 11 a0 37 h) fun v3 => if (v2 + v3) ≤ v1 then some 0 else ob (gI 11 a0 36 h) fun v5 => ob (gI 11 a0 34 h) fun v6 => ob (gI 11 a0 35 h) fun v7 => if (v6 + v7) ≤ v5 then some 0 else some 1)
theorem tkX13_doMeet {a0 : Nat} {h : Hp} {r9 : Int32} (e : fX13_doMeet a0 h = some r9) : hK h a0 = 11 := by
  unfold fX13_doMeet at e
  exact (gd_some e).1
theorem cX13_doMeet_m (l : Launch) {E : EE} {A : Nat → Prop} {a0 : Nat} {h : Hp} {r9 : Int32} (hf : fX13_doMeet a0 h = some r9) : Met l yX13_doMeet (wsM yX13_doMeet cX13_doMeet 1 (some .boolean)) (rmm 8 0 0) (PcE E A h [rv a0]) (Qi E A h r9) 0 0 A := by
  refine met_of (by decide +kernel) (by simp [lg_sl, cat_rv, cat_wv, cat_sv, cat_i, cat_l, cat_a]) (fun p e s m args below meth c ls X hr hlk hnm S hl => ?_)
  have hl : lv_has ls 1 [(0, rv a0)] := by simpa [lv_args, cat_rv, cat_wv, cat_sv, cat_i, cat_l, cat_a] using hl
  generalize hH : s.heap = H at S ⊢
  generalize hlo : ([] : List Loc) = locs at S ⊢
  clear hH hlo
  unfold fX13_doMeet at hf
  obtain ⟨hth, hf⟩ := gd_some hf
  refine g_aload_n X (or_rv _) dX13_doMeet_0 rfl (lv_at hl 0 rfl) ?_
  refine g_gI X S foX13_394 rfl dX13_doMeet_1 hf (fun v1 hf => ?_)
  refine g_aload_n X (or_rv _) dX13_doMeet_4 rfl (lv_at hl 0 rfl) ?_
  refine g_gI X S foX13_397 rfl dX13_doMeet_5 hf (fun v2 hf => ?_)
  refine g_aload_n X (or_rv _) dX13_doMeet_8 rfl (lv_at hl 0 rfl) ?_
  refine g_gI X S foX13_406 rfl dX13_doMeet_9 hf (fun v3 hf => ?_)
  refine lv_iadd X.1 X.2.1 dX13_doMeet_12 ?_
  refine lv_icmp_ge (tgt := 36) X.1 X.2.1 dX13_doMeet_13 (by decide) (fun c4 => ?_) (fun c4 => ?_)
  · replace hf := (if_pos c4).symm.trans hf
    refine lv_iconst (v := 0) X.1 X.2.1 dX13_doMeet_36 (by decide) ?_
    cases hf; exact g_rz X S hr hlk (by decide) dX13_doMeet_37
  · replace hf := (if_neg c4).symm.trans hf
    refine g_aload_n X (or_rv _) dX13_doMeet_16 rfl (lv_at hl 0 rfl) ?_
    refine g_gI X S foX13_397 rfl dX13_doMeet_17 hf (fun v5 hf => ?_)
    refine g_aload_n X (or_rv _) dX13_doMeet_20 rfl (lv_at hl 0 rfl) ?_
    refine g_gI X S foX13_394 rfl dX13_doMeet_21 hf (fun v6 hf => ?_)
    refine g_aload_n X (or_rv _) dX13_doMeet_24 rfl (lv_at hl 0 rfl) ?_
    refine g_gI X S foX13_403 rfl dX13_doMeet_25 hf (fun v7 hf => ?_)
    refine lv_iadd X.1 X.2.1 dX13_doMeet_28 ?_
    refine lv_icmp_ge (tgt := 36) X.1 X.2.1 dX13_doMeet_29 (by decide) (fun c8 => ?_) (fun c8 => ?_)
    · replace hf := (if_pos c8).symm.trans hf
      refine lv_iconst (v := 0) X.1 X.2.1 dX13_doMeet_36 (by decide) ?_
      cases hf; exact g_rz X S hr hlk (by decide) dX13_doMeet_37
    · replace hf := (if_neg c8).symm.trans hf
      refine lv_iconst (v := 1) X.1 X.2.1 dX13_doMeet_32 (by decide) ?_
      refine lv_goto (tgt := 37) X.1 X.2.1 dX13_doMeet_33 (by decide) ?_
      cases hf; exact g_rz X S hr hlk (by decide) dX13_doMeet_37
def fX13_checkPacked_39 (x0 : Nat) (x1 : Int32) (y0 : Int32) (h : Hp) : Option (Hp) := if y0 = (-1) then some h else ob (fX13_raiseHalf x0 4 x1 y0 h) fun h => some h
theorem wfX13_checkPacked_39 {h9 : Hp} (X : Cx p E A 10 R s m args c cX13_checkPacked yX13_checkPacked.cls 3) (hr : meth.sig.returnType = none) (hlk : meth.locks = false) (hnm : meth.name = yX13_checkPacked.name) :
    ∀ (x0 : Nat) (x1 : Int32) (y0 : Int32) (h : Hp) (H : Heap) (locs : List Loc) (ls : Array Slot), lv_has ls 3 [(0, rv x0), (1, .int x1)] → St E A s h H locs → fX13_checkPacked_39 x0 x1 y0 h = some h9 → W p l e R s m args below meth c H locs 0 0 (MQ below (Qv E A h9) args s 0 0 A) (F0 m 39 ls [.int y0]) := by
  intro x0 x1 y0 h H locs ls hl S hf
  unfold fX13_checkPacked_39 at hf
  refine lv_istore_n (i := 2) (lv' := [(2, .int y0), (0, rv x0), (1, .int x1)]) X.1 X.2.1 dX13_checkPacked_39 rfl hl (by decide) rfl (fun ls hl => ?_)
  refine lv_iload_n X.1 X.2.1 dX13_checkPacked_40 rfl (lv_at hl 0 rfl) ?_
  refine lv_iconst (v := (-1)) X.1 X.2.1 dX13_checkPacked_41 (by decide) ?_
  refine lv_icmp_eq (tgt := 52) X.1 X.2.1 dX13_checkPacked_42 (by decide) (fun c1 => ?_) (fun c1 => ?_)
  · replace hf := (if_pos c1).symm.trans hf
    cases hf; exact g_rv X S hr hlk dX13_checkPacked_52
  · replace hf := (if_neg c1).symm.trans hf
    refine g_aload_n X (or_rv _) dX13_checkPacked_45 rfl (lv_at hl 1 rfl) ?_
    refine lv_iconst (v := 4) X.1 X.2.1 dX13_checkPacked_46 (by decide) ?_
    refine lv_iload_n X.1 X.2.1 dX13_checkPacked_47 rfl (lv_at hl 2 rfl) ?_
    refine lv_iload_n X.1 X.2.1 dX13_checkPacked_48 rfl (lv_at hl 0 rfl) ?_
    obtain ⟨h, hc, hf⟩ := ob_some hf
    refine g_cv S (runV (As := [.int 4, .int x1, .int y0]) (rest := []) X S coX13_437 (by decide) (cX13_raiseHalf_m l hc) (tkX13_raiseHalf hc) rfl hl.1 (by decide) rfl ⟨Nat.zero_le _, Nat.zero_le _⟩ dX13_checkPacked_49) (fun H locs S => ?_)
    cases hf; exact g_rv X S hr hlk dX13_checkPacked_52
def fX13_checkPacked (a0 : Nat) (a1 : Int32) (h : Hp) : Option (Hp) := gd 11 a0 h (ob (gI 11 a0 38 h) fun v1 => if v1 = 0 then if a1 = 0 then ob (gI 11 a0 34 h) fun v7 => ob (gI 11 a0 35 h) fun v8 => ob (fX13_flawOf a0 v7 v8 h) fun v9 => fX13_checkPacked_39 a0 a1 v9 h else ob (gI 11 a0 36 h) fun v4 => ob (gI 11 a0 37 h) fun v5 => ob (fX13_flawOf a0 v4 v5 h) fun v6 => fX13_checkPacked_39 a0 a1 v6 h else some h)
theorem tkX13_checkPacked {a0 : Nat} {a1 : Int32} {h : Hp} {r9 : Hp} (e : fX13_checkPacked a0 a1 h = some r9) : hK h a0 = 11 := by
  unfold fX13_checkPacked at e
  exact (gd_some e).1
theorem cX13_checkPacked_m (l : Launch) {E : EE} {A : Nat → Prop} {a0 : Nat} {a1 : Int32} {h : Hp} {h9 : Hp} (hf : fX13_checkPacked a0 a1 h = some h9) : Met l yX13_checkPacked (wsM yX13_checkPacked cX13_checkPacked 3 none) (rmm 10 0 0) (PcE E A h [rv a0, .int a1]) (Qv E A h9) 0 0 A := by
  refine met_of (by decide +kernel) (by simp [lg_sl, cat_rv, cat_wv, cat_sv, cat_i, cat_l, cat_a]) (fun p e s m args below meth c ls X hr hlk hnm S hl => ?_)
  have hl : lv_has ls 3 [(0, rv a0), (1, .int a1)] := by simpa [lv_args, cat_rv, cat_wv, cat_sv, cat_i, cat_l, cat_a] using hl
  generalize hH : s.heap = H at S ⊢
  generalize hlo : ([] : List Loc) = locs at S ⊢
  clear hH hlo
  unfold fX13_checkPacked at hf
  obtain ⟨hth, hf⟩ := gd_some hf
  refine g_aload_n X (or_rv _) dX13_checkPacked_0 rfl (lv_at hl 0 rfl) ?_
  refine g_gI X S foX13_388 rfl dX13_checkPacked_1 hf (fun v1 hf => ?_)
  refine lv_if_eq (tgt := 8) X.1 X.2.1 dX13_checkPacked_4 (by decide) (fun c2 => ?_) (fun c2 => ?_)
  · replace hf := (if_pos c2).symm.trans hf
    refine lv_iload_n X.1 X.2.1 dX13_checkPacked_8 rfl (lv_at hl 1 rfl) ?_
    refine lv_if_ne (tgt := 27) X.1 X.2.1 dX13_checkPacked_9 (by decide) (fun c3 => ?_) (fun c3 => ?_)
    · replace hf := (if_neg c3).symm.trans hf
      refine g_aload_n X (or_rv _) dX13_checkPacked_27 rfl (lv_at hl 0 rfl) ?_
      refine g_aload_n X (or_rv _) dX13_checkPacked_28 rfl (lv_at hl 0 rfl) ?_
      refine g_gI X S foX13_397 rfl dX13_checkPacked_29 hf (fun v4 hf => ?_)
      refine g_aload_n X (or_rv _) dX13_checkPacked_32 rfl (lv_at hl 0 rfl) ?_
      refine g_gI X S foX13_406 rfl dX13_checkPacked_33 hf (fun v5 hf => ?_)
      obtain ⟨v6, hc, hf⟩ := ob_some hf
      refine g_ci S (runV (As := [.int v4, .int v5]) (rest := []) X S coX13_434 (by decide) (cX13_flawOf_m l hc) (tkX13_flawOf hc) rfl hl.1 (by decide) rfl ⟨Nat.zero_le _, Nat.zero_le _⟩ dX13_checkPacked_36) (fun H locs S => ?_)
      exact wfX13_checkPacked_39 X hr hlk hnm _ _ _ _ _ _ _ hl S hf
    · replace hf := (if_pos c3).symm.trans hf
      refine g_aload_n X (or_rv _) dX13_checkPacked_12 rfl (lv_at hl 0 rfl) ?_
      refine g_aload_n X (or_rv _) dX13_checkPacked_13 rfl (lv_at hl 0 rfl) ?_
      refine g_gI X S foX13_394 rfl dX13_checkPacked_14 hf (fun v7 hf => ?_)
      refine g_aload_n X (or_rv _) dX13_checkPacked_17 rfl (lv_at hl 0 rfl) ?_
      refine g_gI X S foX13_403 rfl dX13_checkPacked_18 hf (fun v8 hf => ?_)
      obtain ⟨v9, hc, hf⟩ := ob_some hf
      refine g_ci S (runV (As := [.int v7, .int v8]) (rest := []) X S coX13_434 (by decide) (cX13_flawOf_m l hc) (tkX13_flawOf hc) rfl hl.1 (by decide) rfl ⟨Nat.zero_le _, Nat.zero_le _⟩ dX13_checkPacked_21) (fun H locs S => ?_)
      refine lv_goto (tgt := 39) X.1 X.2.1 dX13_checkPacked_24 (by decide) ?_
      exact wfX13_checkPacked_39 X hr hlk hnm _ _ _ _ _ _ _ hl S hf
  · replace hf := (if_neg c2).symm.trans hf
    cases hf; exact g_rv X S hr hlk dX13_checkPacked_7
def fX13_check_40 (k46 : Nat → Int32 → Hp → Option (Hp)) (x0 : Nat) (x1 : Int32) (h : Hp) : Option (Hp) := ob (fX13_raise x0 2 1 h) fun h => k46 x0 x1 h
theorem wfX13_check_40 {k46 : Nat → Int32 → Hp → Option (Hp)} {h9 : Hp} (X : Cx p E A 11 R s m args c cX13_check yX13_check.cls 4) (hr : meth.sig.returnType = none) (hlk : meth.locks = false) (hnm : meth.name = yX13_check.name) (hk46 : ∀ (x0 : Nat) (x1 : Int32) (h : Hp) (H : Heap) (locs : List Loc) (ls : Array Slot), lv_has ls 4 [(0, rv x0), (1, .int x1)] → St E A s h H locs → k46 x0 x1 h = some h9 → W p l e R s m args below meth c H locs 0 0 (MQ below (Qv E A h9) args s 0 0 A) (F0 m 46 ls [])) :
    ∀ (x0 : Nat) (x1 : Int32) (h : Hp) (H : Heap) (locs : List Loc) (ls : Array Slot), lv_has ls 4 [(0, rv x0), (1, .int x1)] → St E A s h H locs → fX13_check_40 k46 x0 x1 h = some h9 → W p l e R s m args below meth c H locs 0 0 (MQ below (Qv E A h9) args s 0 0 A) (F0 m 40 ls []) := by
  intro x0 x1 h H locs ls hl S hf
  unfold fX13_check_40 at hf
  refine g_aload_n X (or_rv _) dX13_check_40 rfl (lv_at hl 0 rfl) ?_
  refine lv_iconst (v := 2) X.1 X.2.1 dX13_check_41 (by decide) ?_
  refine lv_iconst (v := 1) X.1 X.2.1 dX13_check_42 (by decide) ?_
  obtain ⟨h, hc, hf⟩ := ob_some hf
  refine g_cv S (runV (As := [.int 2, .int 1]) (rest := []) X S coX13_415 (by decide) (cX13_raise_m l hc) (tkX13_raise hc) rfl hl.1 (by decide) rfl ⟨Nat.zero_le _, Nat.zero_le _⟩ dX13_check_43) (fun H locs S => ?_)
  exact hk46 _ _ _ _ _ _ hl S hf
def fX13_check_20 (k46 : Nat → Int32 → Hp → Option (Hp)) (x0 : Nat) (x1 : Int32) (h : Hp) : Option (Hp) := ob (gI 11 x0 37 h) fun v1 => if 8 < v1 then fX13_check_40 k46 x0 x1 h else ob (gI 11 x0 37 h) fun v3 => ob (gI 11 x0 35 h) fun v4 => if v3 < v4 then k46 x0 x1 h else fX13_check_40 k46 x0 x1 h
theorem wfX13_check_20 {k46 : Nat → Int32 → Hp → Option (Hp)} {h9 : Hp} (X : Cx p E A 11 R s m args c cX13_check yX13_check.cls 4) (hr : meth.sig.returnType = none) (hlk : meth.locks = false) (hnm : meth.name = yX13_check.name) (hk46 : ∀ (x0 : Nat) (x1 : Int32) (h : Hp) (H : Heap) (locs : List Loc) (ls : Array Slot), lv_has ls 4 [(0, rv x0), (1, .int x1)] → St E A s h H locs → k46 x0 x1 h = some h9 → W p l e R s m args below meth c H locs 0 0 (MQ below (Qv E A h9) args s 0 0 A) (F0 m 46 ls [])) :
    ∀ (x0 : Nat) (x1 : Int32) (h : Hp) (H : Heap) (locs : List Loc) (ls : Array Slot), lv_has ls 4 [(0, rv x0), (1, .int x1)] → St E A s h H locs → fX13_check_20 k46 x0 x1 h = some h9 → W p l e R s m args below meth c H locs 0 0 (MQ below (Qv E A h9) args s 0 0 A) (F0 m 20 ls []) := by
  intro x0 x1 h H locs ls hl S hf
  unfold fX13_check_20 at hf
  refine g_aload_n X (or_rv _) dX13_check_20 rfl (lv_at hl 0 rfl) ?_
  refine g_gI X S foX13_406 rfl dX13_check_21 hf (fun v1 hf => ?_)
  refine lv_bipush (v := 8) X.1 X.2.1 dX13_check_24 (by decide) ?_
  refine lv_icmp_gt (tgt := 40) X.1 X.2.1 dX13_check_26 (by decide) (fun c2 => ?_) (fun c2 => ?_)
  · replace hf := (if_pos c2).symm.trans hf
    exact wfX13_check_40 X hr hlk hnm hk46 _ _ _ _ _ _ hl S hf
  · replace hf := (if_neg c2).symm.trans hf
    refine g_aload_n X (or_rv _) dX13_check_29 rfl (lv_at hl 0 rfl) ?_
    refine g_gI X S foX13_406 rfl dX13_check_30 hf (fun v3 hf => ?_)
    refine g_aload_n X (or_rv _) dX13_check_33 rfl (lv_at hl 0 rfl) ?_
    refine g_gI X S foX13_403 rfl dX13_check_34 hf (fun v4 hf => ?_)
    refine lv_icmp_lt (tgt := 46) X.1 X.2.1 dX13_check_37 (by decide) (fun c5 => ?_) (fun c5 => ?_)
    · replace hf := (if_pos c5).symm.trans hf
      exact hk46 _ _ _ _ _ _ hl S hf
    · replace hf := (if_neg c5).symm.trans hf
      exact wfX13_check_40 X hr hlk hnm hk46 _ _ _ _ _ _ hl S hf
def fX13_check_95 (k112 : Nat → Int32 → Hp → Option (Hp)) (x0 : Nat) (x1 : Int32) (x2 : Int32) (h : Hp) : Option (Hp) := ob (fX13_doMeet x0 h) fun v1 => if v1 = 0 then k112 x0 x1 h else if x2 = 0 then ob (fX13_raise x0 3 1 h) fun h => k112 x0 x1 h else k112 x0 x1 h
theorem wfX13_check_95 {k112 : Nat → Int32 → Hp → Option (Hp)} {h9 : Hp} (X : Cx p E A 11 R s m args c cX13_check yX13_check.cls 4) (hr : meth.sig.returnType = none) (hlk : meth.locks = false) (hnm : meth.name = yX13_check.name) (hk112 : ∀ (x0 : Nat) (x1 : Int32) (h : Hp) (H : Heap) (locs : List Loc) (ls : Array Slot), lv_has ls 4 [(0, rv x0), (1, .int x1)] → St E A s h H locs → k112 x0 x1 h = some h9 → W p l e R s m args below meth c H locs 0 0 (MQ below (Qv E A h9) args s 0 0 A) (F0 m 112 ls [])) :
    ∀ (x0 : Nat) (x1 : Int32) (x2 : Int32) (h : Hp) (H : Heap) (locs : List Loc) (ls : Array Slot), lv_has ls 4 [(0, rv x0), (1, .int x1), (2, .int x2)] → St E A s h H locs → fX13_check_95 k112 x0 x1 x2 h = some h9 → W p l e R s m args below meth c H locs 0 0 (MQ below (Qv E A h9) args s 0 0 A) (F0 m 95 ls []) := by
  intro x0 x1 x2 h H locs ls hl S hf
  unfold fX13_check_95 at hf
  refine g_aload_n X (or_rv _) dX13_check_95 rfl (lv_at hl 0 rfl) ?_
  obtain ⟨v1, hc, hf⟩ := ob_some hf
  refine g_ci S (runV (As := []) (rest := []) X S coX13_441 (by decide) (cX13_doMeet_m l hc) (tkX13_doMeet hc) rfl hl.1 (by decide) rfl ⟨Nat.zero_le _, Nat.zero_le _⟩ dX13_check_96) (fun H locs S => ?_)
  refine lv_if_eq (tgt := 112) X.1 X.2.1 dX13_check_99 (by decide) (fun c2 => ?_) (fun c2 => ?_)
  · replace hf := (if_pos c2).symm.trans hf
    exact hk112 _ _ _ _ _ _ (lv_sub hl [0, 1] rfl) S hf
  · replace hf := (if_neg c2).symm.trans hf
    refine lv_iload_n X.1 X.2.1 dX13_check_102 rfl (lv_at hl 2 rfl) ?_
    refine lv_if_ne (tgt := 112) X.1 X.2.1 dX13_check_103 (by decide) (fun c3 => ?_) (fun c3 => ?_)
    · replace hf := (if_neg c3).symm.trans hf
      exact hk112 _ _ _ _ _ _ (lv_sub hl [0, 1] rfl) S hf
    · replace hf := (if_pos c3).symm.trans hf
      refine g_aload_n X (or_rv _) dX13_check_106 rfl (lv_at hl 0 rfl) ?_
      refine lv_iconst (v := 3) X.1 X.2.1 dX13_check_107 (by decide) ?_
      refine lv_iconst (v := 1) X.1 X.2.1 dX13_check_108 (by decide) ?_
      obtain ⟨h, hc, hf⟩ := ob_some hf
      refine g_cv S (runV (As := [.int 3, .int 1]) (rest := []) X S coX13_415 (by decide) (cX13_raise_m l hc) (tkX13_raise hc) rfl hl.1 (by decide) rfl ⟨Nat.zero_le _, Nat.zero_le _⟩ dX13_check_109) (fun H locs S => ?_)
      exact hk112 _ _ _ _ _ _ (lv_sub hl [0, 1] rfl) S hf
def fX13_check_177 (k182 : Nat → Int32 → Hp → Option (Hp)) (x0 : Nat) (x1 : Int32) (h : Hp) : Option (Hp) := ob (fX13_checkPacked x0 0 h) fun h => k182 x0 x1 h
theorem wfX13_check_177 {k182 : Nat → Int32 → Hp → Option (Hp)} {h9 : Hp} (X : Cx p E A 11 R s m args c cX13_check yX13_check.cls 4) (hr : meth.sig.returnType = none) (hlk : meth.locks = false) (hnm : meth.name = yX13_check.name) (hk182 : ∀ (x0 : Nat) (x1 : Int32) (h : Hp) (H : Heap) (locs : List Loc) (ls : Array Slot), lv_has ls 4 [(0, rv x0), (1, .int x1)] → St E A s h H locs → k182 x0 x1 h = some h9 → W p l e R s m args below meth c H locs 0 0 (MQ below (Qv E A h9) args s 0 0 A) (F0 m 182 ls [])) :
    ∀ (x0 : Nat) (x1 : Int32) (h : Hp) (H : Heap) (locs : List Loc) (ls : Array Slot), lv_has ls 4 [(0, rv x0), (1, .int x1)] → St E A s h H locs → fX13_check_177 k182 x0 x1 h = some h9 → W p l e R s m args below meth c H locs 0 0 (MQ below (Qv E A h9) args s 0 0 A) (F0 m 177 ls []) := by
  intro x0 x1 h H locs ls hl S hf
  unfold fX13_check_177 at hf
  refine g_aload_n X (or_rv _) dX13_check_177 rfl (lv_at hl 0 rfl) ?_
  refine lv_iconst (v := 0) X.1 X.2.1 dX13_check_178 (by decide) ?_
  obtain ⟨h, hc, hf⟩ := ob_some hf
  refine g_cv S (runV (As := [.int 0]) (rest := []) X S coX13_448 (by decide) (cX13_checkPacked_m l hc) (tkX13_checkPacked hc) rfl hl.1 (by decide) rfl ⟨Nat.zero_le _, Nat.zero_le _⟩ dX13_check_179) (fun H locs S => ?_)
  exact hk182 _ _ _ _ _ _ hl S hf
def fX13_check_208 (k208 : Nat → Int32 → Int32 → Hp → Option (Hp)) (x0 : Nat) (x1 : Int32) (x3 : Int32) (h : Hp) : Option (Hp) := ob (gI 11 x0 38 h) fun v1 => if v1 = 0 then if x1 = 7 then ob (gI 11 x0 34 h) fun v4 => ob (gI 11 x0 37 h) fun v5 => if (2 * (v4 + v5)) ≤ x3 then some h else ob (fX13_halfAt x0 x3 h) fun v7 => if v7 = 0 then lt (x3 + 1) fun z9 => k208 x0 x1 z9 h else ob (fX13_raiseHalf x0 5 0 x3 h) fun h => lt (x3 + 1) fun z11 => k208 x0 x1 z11 h else some h else some h
theorem wfX13_check_208 {k208 : Nat → Int32 → Int32 → Hp → Option (Hp)} {h9 : Hp} (X : Cx p E A 11 R s m args c cX13_check yX13_check.cls 4) (hr : meth.sig.returnType = none) (hlk : meth.locks = false) (hnm : meth.name = yX13_check.name) (hk208 : ∀ (x0 : Nat) (x1 : Int32) (x3 : Int32) (h : Hp) (H : Heap) (locs : List Loc) (ls : Array Slot), lv_has ls 4 [(0, rv x0), (1, .int x1), (3, .int x3)] → St E A s h H locs → k208 x0 x1 x3 h = some h9 → W p l e R s m args below meth c H locs 0 0 (MQ below (Qv E A h9) args s 0 0 A) (F0 m 208 ls [])) :
    ∀ (x0 : Nat) (x1 : Int32) (x3 : Int32) (h : Hp) (H : Heap) (locs : List Loc) (ls : Array Slot), lv_has ls 4 [(0, rv x0), (1, .int x1), (3, .int x3)] → St E A s h H locs → fX13_check_208 k208 x0 x1 x3 h = some h9 → W p l e R s m args below meth c H locs 0 0 (MQ below (Qv E A h9) args s 0 0 A) (F0 m 208 ls []) := by
  intro x0 x1 x3 h H locs ls hl S hf
  unfold fX13_check_208 at hf
  refine g_aload_n X (or_rv _) dX13_check_208 rfl (lv_at hl 0 rfl) ?_
  refine g_gI X S foX13_388 rfl dX13_check_209 hf (fun v1 hf => ?_)
  refine lv_if_ne (tgt := 257) X.1 X.2.1 dX13_check_212 (by decide) (fun c2 => ?_) (fun c2 => ?_)
  · replace hf := (if_neg c2).symm.trans hf
    cases hf; exact g_rv X S hr hlk dX13_check_257
  · replace hf := (if_pos c2).symm.trans hf
    refine lv_iload_n X.1 X.2.1 dX13_check_215 rfl (lv_at hl 1 rfl) ?_
    refine lv_bipush (v := 7) X.1 X.2.1 dX13_check_216 (by decide) ?_
    refine lv_icmp_ne (tgt := 257) X.1 X.2.1 dX13_check_218 (by decide) (fun c3 => ?_) (fun c3 => ?_)
    · replace hf := (if_neg c3).symm.trans hf
      cases hf; exact g_rv X S hr hlk dX13_check_257
    · replace hf := (if_pos c3).symm.trans hf
      refine lv_iload_n X.1 X.2.1 dX13_check_221 rfl (lv_at hl 2 rfl) ?_
      refine lv_iconst (v := 2) X.1 X.2.1 dX13_check_222 (by decide) ?_
      refine g_aload_n X (or_rv _) dX13_check_223 rfl (lv_at hl 0 rfl) ?_
      refine g_gI X S foX13_394 rfl dX13_check_224 hf (fun v4 hf => ?_)
      refine g_aload_n X (or_rv _) dX13_check_227 rfl (lv_at hl 0 rfl) ?_
      refine g_gI X S foX13_406 rfl dX13_check_228 hf (fun v5 hf => ?_)
      refine lv_iadd X.1 X.2.1 dX13_check_231 ?_
      refine lv_imul X.1 X.2.1 dX13_check_232 ?_
      refine lv_icmp_ge (tgt := 257) X.1 X.2.1 dX13_check_233 (by decide) (fun c6 => ?_) (fun c6 => ?_)
      · replace hf := (if_pos c6).symm.trans hf
        cases hf; exact g_rv X S hr hlk dX13_check_257
      · replace hf := (if_neg c6).symm.trans hf
        refine g_aload_n X (or_rv _) dX13_check_236 rfl (lv_at hl 0 rfl) ?_
        refine lv_iload_n X.1 X.2.1 dX13_check_237 rfl (lv_at hl 2 rfl) ?_
        obtain ⟨v7, hc, hf⟩ := ob_some hf
        refine g_ci S (runV (As := [.int x3]) (rest := []) X S coX13_374 (by decide) (cX13_halfAt_m l hc) (tkX13_halfAt hc) rfl hl.1 (by decide) rfl ⟨Nat.zero_le _, Nat.zero_le _⟩ dX13_check_238) (fun H locs S => ?_)
        refine lv_if_eq (tgt := 251) X.1 X.2.1 dX13_check_241 (by decide) (fun c8 => ?_) (fun c8 => ?_)
        · replace hf := (if_pos c8).symm.trans hf
          obtain ⟨z9, ez9, hf⟩ := lt_some hf
          refine lv_iinc (v := z9) (lv' := [(3, .int z9), (0, rv x0), (1, .int x1)]) X.1 X.2.1 dX13_check_251 hl (k := 2) rfl (by rw [← ez9]; rfl) (by decide) rfl (fun ls hl => ?_)
          refine lv_goto (tgt := 208) X.1 X.2.1 dX13_check_254 (by decide) ?_
          exact hk208 _ _ _ _ _ _ _ (lv_sub hl [1, 2, 0] rfl) S hf
        · replace hf := (if_neg c8).symm.trans hf
          refine g_aload_n X (or_rv _) dX13_check_244 rfl (lv_at hl 0 rfl) ?_
          refine lv_iconst (v := 5) X.1 X.2.1 dX13_check_245 (by decide) ?_
          refine lv_iconst (v := 0) X.1 X.2.1 dX13_check_246 (by decide) ?_
          refine lv_iload_n X.1 X.2.1 dX13_check_247 rfl (lv_at hl 2 rfl) ?_
          obtain ⟨h, hc, hf⟩ := ob_some hf
          refine g_cv S (runV (As := [.int 5, .int 0, .int x3]) (rest := []) X S coX13_437 (by decide) (cX13_raiseHalf_m l hc) (tkX13_raiseHalf hc) rfl hl.1 (by decide) rfl ⟨Nat.zero_le _, Nat.zero_le _⟩ dX13_check_248) (fun H locs S => ?_)
          obtain ⟨z11, ez11, hf⟩ := lt_some hf
          refine lv_iinc (v := z11) (lv' := [(3, .int z11), (0, rv x0), (1, .int x1)]) X.1 X.2.1 dX13_check_251 hl (k := 2) rfl (by rw [← ez11]; rfl) (by decide) rfl (fun ls hl => ?_)
          refine lv_goto (tgt := 208) X.1 X.2.1 dX13_check_254 (by decide) ?_
          exact hk208 _ _ _ _ _ _ _ (lv_sub hl [1, 2, 0] rfl) S hf
theorem wfX13_check_208_l {h9 : Hp} (X : Cx p E A 11 R s m args c cX13_check yX13_check.cls 4) (hr : meth.sig.returnType = none) (hlk : meth.locks = false) (hnm : meth.name = yX13_check.name) :
    ∀ (n : Nat) (x0 : Nat) (x1 : Int32) (x3 : Int32) (h : Hp) (H : Heap) (locs : List Loc) (ls : Array Slot), lv_has ls 4 [(0, rv x0), (1, .int x1), (3, .int x3)] → St E A s h H locs → lp (fun _ _ _ _ => none) (fX13_check_208) n x0 x1 x3 h = some h9 → W p l e R s m args below meth c H locs 0 0 (MQ below (Qv E A h9) args s 0 0 A) (F0 m 208 ls []) := by
  intro n
  induction n with
  | zero =>
    intro x0 x1 x3 h H locs ls hl S hf
    exact nomatch hf
  | succ n ih =>
    intro x0 x1 x3 h H locs ls hl S hf
    exact wfX13_check_208 X hr hlk hnm ih x0 x1 x3 h H locs ls hl S hf
def fX13_check_182 (x0 : Nat) (x1 : Int32) (h : Hp) : Option (Hp) := ob (fX13_isIn (Int32.toInt64 x1) 3 8) fun v1 => if v1 = 0 then ob (gI 11 x0 34 h) fun v3 => lt (2 * v3) fun z4 => lp (fun _ _ _ _ => none) (fX13_check_208) FU x0 x1 z4 h else ob (fX13_checkPacked x0 1 h) fun h => ob (gI 11 x0 34 h) fun v6 => lt (2 * v6) fun z7 => lp (fun _ _ _ _ => none) (fX13_check_208) FU x0 x1 z7 h
theorem wfX13_check_182 {h9 : Hp} (X : Cx p E A 11 R s m args c cX13_check yX13_check.cls 4) (hr : meth.sig.returnType = none) (hlk : meth.locks = false) (hnm : meth.name = yX13_check.name) :
    ∀ (x0 : Nat) (x1 : Int32) (h : Hp) (H : Heap) (locs : List Loc) (ls : Array Slot), lv_has ls 4 [(0, rv x0), (1, .int x1)] → St E A s h H locs → fX13_check_182 x0 x1 h = some h9 → W p l e R s m args below meth c H locs 0 0 (MQ below (Qv E A h9) args s 0 0 A) (F0 m 182 ls []) := by
  intro x0 x1 h H locs ls hl S hf
  unfold fX13_check_182 at hf
  refine lv_iload_n X.1 X.2.1 dX13_check_182 rfl (lv_at hl 1 rfl) ?_
  refine lv_i2l (v := Int32.toInt64 x1) X.1 X.2.1 dX13_check_183 rfl ?_
  refine lv_ldc2 X.1 X.2.1 X.2.2.2.1 (X.2.2.1 _ kuX13_451) dX13_check_184 ?_
  refine lv_ldc2 X.1 X.2.1 X.2.2.2.1 (X.2.2.1 _ kuX13_446) dX13_check_187 ?_
  obtain ⟨v1, hc, hf⟩ := ob_some hf
  refine g_ci S (runS (As := [.long (Int32.toInt64 x1), .long 3, .long 8]) (rest := []) X S coX13_287 (by decide) (cX13_isIn_m l hc) rfl hl.1 (by decide) rfl ⟨Nat.zero_le _, Nat.zero_le _⟩ dX13_check_190) (fun H locs S => ?_)
  refine lv_if_eq (tgt := 201) X.1 X.2.1 dX13_check_193 (by decide) (fun c2 => ?_) (fun c2 => ?_)
  · replace hf := (if_pos c2).symm.trans hf
    refine lv_iconst (v := 2) X.1 X.2.1 dX13_check_201 (by decide) ?_
    refine g_aload_n X (or_rv _) dX13_check_202 rfl (lv_at hl 0 rfl) ?_
    refine g_gI X S foX13_394 rfl dX13_check_203 hf (fun v3 hf => ?_)
    refine lv_imul X.1 X.2.1 dX13_check_206 ?_
    refine g_lti hf (fun z4 hf => ?_)
    refine lv_istore_n (i := 3) (lv' := [(3, .int z4), (0, rv x0), (1, .int x1)]) X.1 X.2.1 dX13_check_207 rfl hl (by decide) rfl (fun ls hl => ?_)
    exact wfX13_check_208_l X hr hlk hnm FU _ _ _ _ _ _ _ (lv_sub hl [1, 2, 0] rfl) S hf
  · replace hf := (if_neg c2).symm.trans hf
    refine g_aload_n X (or_rv _) dX13_check_196 rfl (lv_at hl 0 rfl) ?_
    refine lv_iconst (v := 1) X.1 X.2.1 dX13_check_197 (by decide) ?_
    obtain ⟨h, hc, hf⟩ := ob_some hf
    refine g_cv S (runV (As := [.int 1]) (rest := []) X S coX13_448 (by decide) (cX13_checkPacked_m l hc) (tkX13_checkPacked hc) rfl hl.1 (by decide) rfl ⟨Nat.zero_le _, Nat.zero_le _⟩ dX13_check_198) (fun H locs S => ?_)
    refine lv_iconst (v := 2) X.1 X.2.1 dX13_check_201 (by decide) ?_
    refine g_aload_n X (or_rv _) dX13_check_202 rfl (lv_at hl 0 rfl) ?_
    refine g_gI X S foX13_394 rfl dX13_check_203 hf (fun v6 hf => ?_)
    refine lv_imul X.1 X.2.1 dX13_check_206 ?_
    refine g_lti hf (fun z7 hf => ?_)
    refine lv_istore_n (i := 3) (lv' := [(3, .int z7), (0, rv x0), (1, .int x1)]) X.1 X.2.1 dX13_check_207 rfl hl (by decide) rfl (fun ls hl => ?_)
    exact wfX13_check_208_l X hr hlk hnm FU _ _ _ _ _ _ _ (lv_sub hl [1, 2, 0] rfl) S hf
def fX13_check_151 (x0 : Nat) (x1 : Int32) (h : Hp) : Option (Hp) := ob (fX13_isIn (Int32.toInt64 x1) 4 8) fun v1 => if v1 = 0 then if x1 = 14 then fX13_check_177 fX13_check_182 x0 x1 h else if x1 = 16 then fX13_check_177 fX13_check_182 x0 x1 h else fX13_check_182 x0 x1 h else fX13_check_177 fX13_check_182 x0 x1 h
theorem wfX13_check_151 {h9 : Hp} (X : Cx p E A 11 R s m args c cX13_check yX13_check.cls 4) (hr : meth.sig.returnType = none) (hlk : meth.locks = false) (hnm : meth.name = yX13_check.name) :
    ∀ (x0 : Nat) (x1 : Int32) (h : Hp) (H : Heap) (locs : List Loc) (ls : Array Slot), lv_has ls 4 [(0, rv x0), (1, .int x1)] → St E A s h H locs → fX13_check_151 x0 x1 h = some h9 → W p l e R s m args below meth c H locs 0 0 (MQ below (Qv E A h9) args s 0 0 A) (F0 m 151 ls []) := by
  intro x0 x1 h H locs ls hl S hf
  unfold fX13_check_151 at hf
  refine lv_iload_n X.1 X.2.1 dX13_check_151 rfl (lv_at hl 1 rfl) ?_
  refine lv_i2l (v := Int32.toInt64 x1) X.1 X.2.1 dX13_check_152 rfl ?_
  refine lv_ldc2 X.1 X.2.1 X.2.2.2.1 (X.2.2.1 _ kuX13_444) dX13_check_153 ?_
  refine lv_ldc2 X.1 X.2.1 X.2.2.2.1 (X.2.2.1 _ kuX13_446) dX13_check_156 ?_
  obtain ⟨v1, hc, hf⟩ := ob_some hf
  refine g_ci S (runS (As := [.long (Int32.toInt64 x1), .long 4, .long 8]) (rest := []) X S coX13_287 (by decide) (cX13_isIn_m l hc) rfl hl.1 (by decide) rfl ⟨Nat.zero_le _, Nat.zero_le _⟩ dX13_check_159) (fun H locs S => ?_)
  refine lv_if_ne (tgt := 177) X.1 X.2.1 dX13_check_162 (by decide) (fun c2 => ?_) (fun c2 => ?_)
  · replace hf := (if_neg c2).symm.trans hf
    exact wfX13_check_177 X hr hlk hnm (wfX13_check_182 X hr hlk hnm) _ _ _ _ _ _ hl S hf
  · replace hf := (if_pos c2).symm.trans hf
    refine lv_iload_n X.1 X.2.1 dX13_check_165 rfl (lv_at hl 1 rfl) ?_
    refine lv_bipush (v := 14) X.1 X.2.1 dX13_check_166 (by decide) ?_
    refine lv_icmp_eq (tgt := 177) X.1 X.2.1 dX13_check_168 (by decide) (fun c3 => ?_) (fun c3 => ?_)
    · replace hf := (if_pos c3).symm.trans hf
      exact wfX13_check_177 X hr hlk hnm (wfX13_check_182 X hr hlk hnm) _ _ _ _ _ _ hl S hf
    · replace hf := (if_neg c3).symm.trans hf
      refine lv_iload_n X.1 X.2.1 dX13_check_171 rfl (lv_at hl 1 rfl) ?_
      refine lv_bipush (v := 16) X.1 X.2.1 dX13_check_172 (by decide) ?_
      refine lv_icmp_ne (tgt := 182) X.1 X.2.1 dX13_check_174 (by decide) (fun c4 => ?_) (fun c4 => ?_)
      · replace hf := (if_neg c4).symm.trans hf
        exact wfX13_check_182 X hr hlk hnm _ _ _ _ _ _ hl S hf
      · replace hf := (if_pos c4).symm.trans hf
        exact wfX13_check_177 X hr hlk hnm (wfX13_check_182 X hr hlk hnm) _ _ _ _ _ _ hl S hf
def fX13_check_112 (x0 : Nat) (x1 : Int32) (h : Hp) : Option (Hp) := if x1 = 3 then ob (fX13_doMeet x0 h) fun v2 => if v2 = 0 then fX13_check_151 x0 x1 h else ob (gI 11 x0 34 h) fun v4 => ob (gI 11 x0 35 h) fun v5 => ob (gI 11 x0 36 h) fun v6 => ob (gI 11 x0 37 h) fun v7 => if (v6 + v7) ≤ (v4 + v5) then fX13_check_151 x0 x1 h else ob (fX13_raise x0 3 1 h) fun h => fX13_check_151 x0 x1 h else fX13_check_151 x0 x1 h
theorem wfX13_check_112 {h9 : Hp} (X : Cx p E A 11 R s m args c cX13_check yX13_check.cls 4) (hr : meth.sig.returnType = none) (hlk : meth.locks = false) (hnm : meth.name = yX13_check.name) :
    ∀ (x0 : Nat) (x1 : Int32) (h : Hp) (H : Heap) (locs : List Loc) (ls : Array Slot), lv_has ls 4 [(0, rv x0), (1, .int x1)] → St E A s h H locs → fX13_check_112 x0 x1 h = some h9 → W p l e R s m args below meth c H locs 0 0 (MQ below (Qv E A h9) args s 0 0 A) (F0 m 112 ls []) := by
  intro x0 x1 h H locs ls hl S hf
  unfold fX13_check_112 at hf
  refine lv_iload_n X.1 X.2.1 dX13_check_112 rfl (lv_at hl 1 rfl) ?_
  refine lv_iconst (v := 3) X.1 X.2.1 dX13_check_113 (by decide) ?_
  refine lv_icmp_ne (tgt := 151) X.1 X.2.1 dX13_check_114 (by decide) (fun c1 => ?_) (fun c1 => ?_)
  · replace hf := (if_neg c1).symm.trans hf
    exact wfX13_check_151 X hr hlk hnm _ _ _ _ _ _ hl S hf
  · replace hf := (if_pos c1).symm.trans hf
    refine g_aload_n X (or_rv _) dX13_check_117 rfl (lv_at hl 0 rfl) ?_
    obtain ⟨v2, hc, hf⟩ := ob_some hf
    refine g_ci S (runV (As := []) (rest := []) X S coX13_441 (by decide) (cX13_doMeet_m l hc) (tkX13_doMeet hc) rfl hl.1 (by decide) rfl ⟨Nat.zero_le _, Nat.zero_le _⟩ dX13_check_118) (fun H locs S => ?_)
    refine lv_if_eq (tgt := 151) X.1 X.2.1 dX13_check_121 (by decide) (fun c3 => ?_) (fun c3 => ?_)
    · replace hf := (if_pos c3).symm.trans hf
      exact wfX13_check_151 X hr hlk hnm _ _ _ _ _ _ hl S hf
    · replace hf := (if_neg c3).symm.trans hf
      refine g_aload_n X (or_rv _) dX13_check_124 rfl (lv_at hl 0 rfl) ?_
      refine g_gI X S foX13_394 rfl dX13_check_125 hf (fun v4 hf => ?_)
      refine g_aload_n X (or_rv _) dX13_check_128 rfl (lv_at hl 0 rfl) ?_
      refine g_gI X S foX13_403 rfl dX13_check_129 hf (fun v5 hf => ?_)
      refine lv_iadd X.1 X.2.1 dX13_check_132 ?_
      refine g_aload_n X (or_rv _) dX13_check_133 rfl (lv_at hl 0 rfl) ?_
      refine g_gI X S foX13_397 rfl dX13_check_134 hf (fun v6 hf => ?_)
      refine g_aload_n X (or_rv _) dX13_check_137 rfl (lv_at hl 0 rfl) ?_
      refine g_gI X S foX13_406 rfl dX13_check_138 hf (fun v7 hf => ?_)
      refine lv_iadd X.1 X.2.1 dX13_check_141 ?_
      refine lv_icmp_ge (tgt := 151) X.1 X.2.1 dX13_check_142 (by decide) (fun c8 => ?_) (fun c8 => ?_)
      · replace hf := (if_pos c8).symm.trans hf
        exact wfX13_check_151 X hr hlk hnm _ _ _ _ _ _ hl S hf
      · replace hf := (if_neg c8).symm.trans hf
        refine g_aload_n X (or_rv _) dX13_check_145 rfl (lv_at hl 0 rfl) ?_
        refine lv_iconst (v := 3) X.1 X.2.1 dX13_check_146 (by decide) ?_
        refine lv_iconst (v := 1) X.1 X.2.1 dX13_check_147 (by decide) ?_
        obtain ⟨h, hc, hf⟩ := ob_some hf
        refine g_cv S (runV (As := [.int 3, .int 1]) (rest := []) X S coX13_415 (by decide) (cX13_raise_m l hc) (tkX13_raise hc) rfl hl.1 (by decide) rfl ⟨Nat.zero_le _, Nat.zero_le _⟩ dX13_check_148) (fun H locs S => ?_)
        exact wfX13_check_151 X hr hlk hnm _ _ _ _ _ _ hl S hf
def fX13_check_72 (x0 : Nat) (x1 : Int32) (y0 : Int32) (h : Hp) : Option (Hp) := if x1 = 4 then fX13_check_95 fX13_check_112 x0 x1 y0 h else if x1 = 5 then fX13_check_95 fX13_check_112 x0 x1 y0 h else if x1 = 7 then fX13_check_95 fX13_check_112 x0 x1 y0 h else if x1 = 8 then fX13_check_95 fX13_check_112 x0 x1 y0 h else fX13_check_112 x0 x1 h
theorem wfX13_check_72 {h9 : Hp} (X : Cx p E A 11 R s m args c cX13_check yX13_check.cls 4) (hr : meth.sig.returnType = none) (hlk : meth.locks = false) (hnm : meth.name = yX13_check.name) :
    ∀ (x0 : Nat) (x1 : Int32) (y0 : Int32) (h : Hp) (H : Heap) (locs : List Loc) (ls : Array Slot), lv_has ls 4 [(0, rv x0), (1, .int x1)] → St E A s h H locs → fX13_check_72 x0 x1 y0 h = some h9 → W p l e R s m args below meth c H locs 0 0 (MQ below (Qv E A h9) args s 0 0 A) (F0 m 72 ls [.int y0]) := by
  intro x0 x1 y0 h H locs ls hl S hf
  unfold fX13_check_72 at hf
  refine lv_istore_n (i := 2) (lv' := [(2, .int y0), (0, rv x0), (1, .int x1)]) X.1 X.2.1 dX13_check_72 rfl hl (by decide) rfl (fun ls hl => ?_)
  refine lv_iload_n X.1 X.2.1 dX13_check_73 rfl (lv_at hl 2 rfl) ?_
  refine lv_iconst (v := 4) X.1 X.2.1 dX13_check_74 (by decide) ?_
  refine lv_icmp_eq (tgt := 95) X.1 X.2.1 dX13_check_75 (by decide) (fun c1 => ?_) (fun c1 => ?_)
  · replace hf := (if_pos c1).symm.trans hf
    exact wfX13_check_95 X hr hlk hnm (wfX13_check_112 X hr hlk hnm) _ _ _ _ _ _ _ (lv_sub hl [1, 2, 0] rfl) S hf
  · replace hf := (if_neg c1).symm.trans hf
    refine lv_iload_n X.1 X.2.1 dX13_check_78 rfl (lv_at hl 2 rfl) ?_
    refine lv_iconst (v := 5) X.1 X.2.1 dX13_check_79 (by decide) ?_
    refine lv_icmp_eq (tgt := 95) X.1 X.2.1 dX13_check_80 (by decide) (fun c2 => ?_) (fun c2 => ?_)
    · replace hf := (if_pos c2).symm.trans hf
      exact wfX13_check_95 X hr hlk hnm (wfX13_check_112 X hr hlk hnm) _ _ _ _ _ _ _ (lv_sub hl [1, 2, 0] rfl) S hf
    · replace hf := (if_neg c2).symm.trans hf
      refine lv_iload_n X.1 X.2.1 dX13_check_83 rfl (lv_at hl 2 rfl) ?_
      refine lv_bipush (v := 7) X.1 X.2.1 dX13_check_84 (by decide) ?_
      refine lv_icmp_eq (tgt := 95) X.1 X.2.1 dX13_check_86 (by decide) (fun c3 => ?_) (fun c3 => ?_)
      · replace hf := (if_pos c3).symm.trans hf
        exact wfX13_check_95 X hr hlk hnm (wfX13_check_112 X hr hlk hnm) _ _ _ _ _ _ _ (lv_sub hl [1, 2, 0] rfl) S hf
      · replace hf := (if_neg c3).symm.trans hf
        refine lv_iload_n X.1 X.2.1 dX13_check_89 rfl (lv_at hl 2 rfl) ?_
        refine lv_bipush (v := 8) X.1 X.2.1 dX13_check_90 (by decide) ?_
        refine lv_icmp_ne (tgt := 112) X.1 X.2.1 dX13_check_92 (by decide) (fun c4 => ?_) (fun c4 => ?_)
        · replace hf := (if_neg c4).symm.trans hf
          exact wfX13_check_112 X hr hlk hnm _ _ _ _ _ _ (lv_sub hl [1, 2] rfl) S hf
        · replace hf := (if_pos c4).symm.trans hf
          exact wfX13_check_95 X hr hlk hnm (wfX13_check_112 X hr hlk hnm) _ _ _ _ _ _ _ (lv_sub hl [1, 2, 0] rfl) S hf
def fX13_check_46 (x0 : Nat) (x1 : Int32) (h : Hp) : Option (Hp) := ob (gI 11 x0 34 h) fun v1 => ob (gI 11 x0 35 h) fun v2 => ob (gI 11 x0 36 h) fun v3 => ob (gI 11 x0 37 h) fun v4 => if (v1 + v2) = (v3 + v4) then fX13_check_72 x0 x1 1 h else fX13_check_72 x0 x1 0 h
theorem wfX13_check_46 {h9 : Hp} (X : Cx p E A 11 R s m args c cX13_check yX13_check.cls 4) (hr : meth.sig.returnType = none) (hlk : meth.locks = false) (hnm : meth.name = yX13_check.name) :
    ∀ (x0 : Nat) (x1 : Int32) (h : Hp) (H : Heap) (locs : List Loc) (ls : Array Slot), lv_has ls 4 [(0, rv x0), (1, .int x1)] → St E A s h H locs → fX13_check_46 x0 x1 h = some h9 → W p l e R s m args below meth c H locs 0 0 (MQ below (Qv E A h9) args s 0 0 A) (F0 m 46 ls []) := by
  intro x0 x1 h H locs ls hl S hf
  unfold fX13_check_46 at hf
  refine g_aload_n X (or_rv _) dX13_check_46 rfl (lv_at hl 0 rfl) ?_
  refine g_gI X S foX13_394 rfl dX13_check_47 hf (fun v1 hf => ?_)
  refine g_aload_n X (or_rv _) dX13_check_50 rfl (lv_at hl 0 rfl) ?_
  refine g_gI X S foX13_403 rfl dX13_check_51 hf (fun v2 hf => ?_)
  refine lv_iadd X.1 X.2.1 dX13_check_54 ?_
  refine g_aload_n X (or_rv _) dX13_check_55 rfl (lv_at hl 0 rfl) ?_
  refine g_gI X S foX13_397 rfl dX13_check_56 hf (fun v3 hf => ?_)
  refine g_aload_n X (or_rv _) dX13_check_59 rfl (lv_at hl 0 rfl) ?_
  refine g_gI X S foX13_406 rfl dX13_check_60 hf (fun v4 hf => ?_)
  refine lv_iadd X.1 X.2.1 dX13_check_63 ?_
  refine lv_icmp_ne (tgt := 71) X.1 X.2.1 dX13_check_64 (by decide) (fun c5 => ?_) (fun c5 => ?_)
  · replace hf := (if_neg c5).symm.trans hf
    refine lv_iconst (v := 0) X.1 X.2.1 dX13_check_71 (by decide) ?_
    exact wfX13_check_72 X hr hlk hnm _ _ _ _ _ _ _ hl S hf
  · replace hf := (if_pos c5).symm.trans hf
    refine lv_iconst (v := 1) X.1 X.2.1 dX13_check_67 (by decide) ?_
    refine lv_goto (tgt := 72) X.1 X.2.1 dX13_check_68 (by decide) ?_
    exact wfX13_check_72 X hr hlk hnm _ _ _ _ _ _ _ hl S hf
def fX13_check (a0 : Nat) (a1 : Int32) (h : Hp) : Option (Hp) := gd 11 a0 h (ob (gI 11 a0 38 h) fun v1 => if v1 = 0 then if a1 = 7 then fX13_check_20 fX13_check_46 a0 a1 h else if a1 = 8 then fX13_check_20 fX13_check_46 a0 a1 h else fX13_check_46 a0 a1 h else some h)
theorem tkX13_check {a0 : Nat} {a1 : Int32} {h : Hp} {r9 : Hp} (e : fX13_check a0 a1 h = some r9) : hK h a0 = 11 := by
  unfold fX13_check at e
  exact (gd_some e).1
theorem cX13_check_m (l : Launch) {E : EE} {A : Nat → Prop} {a0 : Nat} {a1 : Int32} {h : Hp} {h9 : Hp} (hf : fX13_check a0 a1 h = some h9) : Met l yX13_check (wsM yX13_check cX13_check 4 none) (rmm 11 0 0) (PcE E A h [rv a0, .int a1]) (Qv E A h9) 0 0 A := by
  refine met_of (by decide +kernel) (by simp [lg_sl, cat_rv, cat_wv, cat_sv, cat_i, cat_l, cat_a]) (fun p e s m args below meth c ls X hr hlk hnm S hl => ?_)
  have hl : lv_has ls 4 [(0, rv a0), (1, .int a1)] := by simpa [lv_args, cat_rv, cat_wv, cat_sv, cat_i, cat_l, cat_a] using hl
  generalize hH : s.heap = H at S ⊢
  generalize hlo : ([] : List Loc) = locs at S ⊢
  clear hH hlo
  unfold fX13_check at hf
  obtain ⟨hth, hf⟩ := gd_some hf
  refine g_aload_n X (or_rv _) dX13_check_0 rfl (lv_at hl 0 rfl) ?_
  refine g_gI X S foX13_388 rfl dX13_check_1 hf (fun v1 hf => ?_)
  refine lv_if_eq (tgt := 8) X.1 X.2.1 dX13_check_4 (by decide) (fun c2 => ?_) (fun c2 => ?_)
  · replace hf := (if_pos c2).symm.trans hf
    refine lv_iload_n X.1 X.2.1 dX13_check_8 rfl (lv_at hl 1 rfl) ?_
    refine lv_bipush (v := 7) X.1 X.2.1 dX13_check_9 (by decide) ?_
    refine lv_icmp_eq (tgt := 20) X.1 X.2.1 dX13_check_11 (by decide) (fun c3 => ?_) (fun c3 => ?_)
    · replace hf := (if_pos c3).symm.trans hf
      exact wfX13_check_20 X hr hlk hnm (wfX13_check_46 X hr hlk hnm) _ _ _ _ _ _ hl S hf
    · replace hf := (if_neg c3).symm.trans hf
      refine lv_iload_n X.1 X.2.1 dX13_check_14 rfl (lv_at hl 1 rfl) ?_
      refine lv_bipush (v := 8) X.1 X.2.1 dX13_check_15 (by decide) ?_
      refine lv_icmp_ne (tgt := 46) X.1 X.2.1 dX13_check_17 (by decide) (fun c4 => ?_) (fun c4 => ?_)
      · replace hf := (if_neg c4).symm.trans hf
        exact wfX13_check_46 X hr hlk hnm _ _ _ _ _ _ hl S hf
      · replace hf := (if_pos c4).symm.trans hf
        exact wfX13_check_20 X hr hlk hnm (wfX13_check_46 X hr hlk hnm) _ _ _ _ _ _ hl S hf
  · replace hf := (if_neg c2).symm.trans hf
    cases hf; exact g_rv X S hr hlk dX13_check_7
def fX13_finish_36 (k37 : Nat → Nat → Int32 → Int32 → Hp → Option (Hp)) (x0 : Nat) (x1 : Nat) (x3 : Int32) (h : Hp) : Option (Hp) := k37 x0 x1 x3 0 h
theorem wfX13_finish_36 {k37 : Nat → Nat → Int32 → Int32 → Hp → Option (Hp)} {h9 : Hp} (X : Cx p E A 12 R s m args c cX13_finish yX13_finish.cls 5) (hr : meth.sig.returnType = none) (hlk : meth.locks = false) (hnm : meth.name = yX13_finish.name) (hk37 : ∀ (x0 : Nat) (x1 : Nat) (x3 : Int32) (y0 : Int32) (h : Hp) (H : Heap) (locs : List Loc) (ls : Array Slot), lv_has ls 5 [(0, rv x0), (1, rv x1), (3, .int x3)] → St E A s h H locs → k37 x0 x1 x3 y0 h = some h9 → W p l e R s m args below meth c H locs 0 0 (MQ below (Qv E A h9) args s 0 0 A) (F0 m 37 ls [.int y0])) :
    ∀ (x0 : Nat) (x1 : Nat) (x3 : Int32) (h : Hp) (H : Heap) (locs : List Loc) (ls : Array Slot), lv_has ls 5 [(0, rv x0), (1, rv x1), (3, .int x3)] → St E A s h H locs → fX13_finish_36 k37 x0 x1 x3 h = some h9 → W p l e R s m args below meth c H locs 0 0 (MQ below (Qv E A h9) args s 0 0 A) (F0 m 36 ls []) := by
  intro x0 x1 x3 h H locs ls hl S hf
  unfold fX13_finish_36 at hf
  refine lv_iconst (v := 0) X.1 X.2.1 dX13_finish_36 (by decide) ?_
  exact hk37 _ _ _ _ _ _ _ _ hl S hf
def fX13_finish_75 (x0 : Nat) (x1 : Nat) (x3 : Int32) (x4 : Int32) (y0 : Int32) (y1 : Int32) (y2 : Nat) (h : Hp) : Option (Hp) := ob (qI y2 y1 y0 h) fun h => ob (gI 11 x0 34 h) fun v1 => ob (gI 11 x0 35 h) fun v2 => ob (fX13_store x0 v1 v2 x1 x4 h) fun h => if x3 = 0 then some h else ob (gR 11 x0 3 h) fun v5 => ob (aI v5 273 h) fun v6 => if v6 = (-1) then some h else ob (fX13_raise x0 6 0 h) fun h => some h
theorem wfX13_finish_75 {h9 : Hp} (X : Cx p E A 12 R s m args c cX13_finish yX13_finish.cls 5) (hr : meth.sig.returnType = none) (hlk : meth.locks = false) (hnm : meth.name = yX13_finish.name) :
    ∀ (x0 : Nat) (x1 : Nat) (x3 : Int32) (x4 : Int32) (y0 : Int32) (y1 : Int32) (y2 : Nat) (h : Hp) (H : Heap) (locs : List Loc) (ls : Array Slot), lv_has ls 5 [(0, rv x0), (1, rv x1), (3, .int x3), (4, .int x4)] → St E A s h H locs → fX13_finish_75 x0 x1 x3 x4 y0 y1 y2 h = some h9 → W p l e R s m args below meth c H locs 0 0 (MQ below (Qv E A h9) args s 0 0 A) (F0 m 75 ls [.int y0, .int y1, rv y2]) := by
  intro x0 x1 x3 x4 y0 y1 y2 h H locs ls hl S hf
  unfold fX13_finish_75 at hf
  refine g_qI X S dX13_finish_75 hf (fun h H locs hm hf S => ?_)
  refine g_aload_n X (or_rv _) dX13_finish_76 rfl (lv_at hl 0 rfl) ?_
  refine g_aload_n X (or_rv _) dX13_finish_77 rfl (lv_at hl 0 rfl) ?_
  refine g_gI X S foX13_394 rfl dX13_finish_78 hf (fun v1 hf => ?_)
  refine g_aload_n X (or_rv _) dX13_finish_81 rfl (lv_at hl 0 rfl) ?_
  refine g_gI X S foX13_403 rfl dX13_finish_82 hf (fun v2 hf => ?_)
  refine g_aload_n X (or_rv _) dX13_finish_85 rfl (lv_at hl 1 rfl) ?_
  refine lv_iload X.1 X.2.1 dX13_finish_86 (lv_at hl 3 rfl) ?_
  obtain ⟨h, hc, hf⟩ := ob_some hf
  refine g_cv S (runV (As := [.int v1, .int v2, rv x1, .int x4]) (rest := []) X S coX13_457 (by decide) (cX13_store_m l hc) (tkX13_store hc) rfl hl.1 (by decide) rfl ⟨Nat.zero_le _, Nat.zero_le _⟩ dX13_finish_88) (fun H locs S => ?_)
  refine lv_iload_n X.1 X.2.1 dX13_finish_91 rfl (lv_at hl 2 rfl) ?_
  refine lv_if_eq (tgt := 114) X.1 X.2.1 dX13_finish_92 (by decide) (fun c4 => ?_) (fun c4 => ?_)
  · replace hf := (if_pos c4).symm.trans hf
    cases hf; exact g_rv X S hr hlk dX13_finish_114
  · replace hf := (if_neg c4).symm.trans hf
    refine g_aload_n X (or_rv _) dX13_finish_95 rfl (lv_at hl 0 rfl) ?_
    refine g_gR X S foX13_76 dX13_finish_96 hf (fun v5 hf => ?_)
    refine lv_sipush (v := 273) X.1 X.2.1 dX13_finish_99 (by decide) ?_
    refine g_aI X S dX13_finish_102 hf (fun v6 hf => ?_)
    refine lv_iconst (v := (-1)) X.1 X.2.1 dX13_finish_103 (by decide) ?_
    refine lv_icmp_eq (tgt := 114) X.1 X.2.1 dX13_finish_104 (by decide) (fun c7 => ?_) (fun c7 => ?_)
    · replace hf := (if_pos c7).symm.trans hf
      cases hf; exact g_rv X S hr hlk dX13_finish_114
    · replace hf := (if_neg c7).symm.trans hf
      refine g_aload_n X (or_rv _) dX13_finish_107 rfl (lv_at hl 0 rfl) ?_
      refine lv_bipush (v := 6) X.1 X.2.1 dX13_finish_108 (by decide) ?_
      refine lv_iconst (v := 0) X.1 X.2.1 dX13_finish_110 (by decide) ?_
      obtain ⟨h, hc, hf⟩ := ob_some hf
      refine g_cv S (runV (As := [.int 6, .int 0]) (rest := []) X S coX13_415 (by decide) (cX13_raise_m l hc) (tkX13_raise hc) rfl hl.1 (by decide) rfl ⟨Nat.zero_le _, Nat.zero_le _⟩ dX13_finish_111) (fun H locs S => ?_)
      cases hf; exact g_rv X S hr hlk dX13_finish_114
def fX13_finish_37 (x0 : Nat) (x1 : Nat) (x3 : Int32) (y0 : Int32) (h : Hp) : Option (Hp) := ob (gR 11 x0 3 h) fun v1 => if x3 = 0 then ob (fX13_isNothing x1 h) fun v3 => if v3 = 0 then if y0 = 0 then fX13_finish_75 x0 x1 x3 y0 2 264 v1 h else fX13_finish_75 x0 x1 x3 y0 1 264 v1 h else fX13_finish_75 x0 x1 x3 y0 0 264 v1 h else fX13_finish_75 x0 x1 x3 y0 3 264 v1 h
theorem wfX13_finish_37 {h9 : Hp} (X : Cx p E A 12 R s m args c cX13_finish yX13_finish.cls 5) (hr : meth.sig.returnType = none) (hlk : meth.locks = false) (hnm : meth.name = yX13_finish.name) :
    ∀ (x0 : Nat) (x1 : Nat) (x3 : Int32) (y0 : Int32) (h : Hp) (H : Heap) (locs : List Loc) (ls : Array Slot), lv_has ls 5 [(0, rv x0), (1, rv x1), (3, .int x3)] → St E A s h H locs → fX13_finish_37 x0 x1 x3 y0 h = some h9 → W p l e R s m args below meth c H locs 0 0 (MQ below (Qv E A h9) args s 0 0 A) (F0 m 37 ls [.int y0]) := by
  intro x0 x1 x3 y0 h H locs ls hl S hf
  unfold fX13_finish_37 at hf
  refine lv_istore (lv' := [(4, .int y0), (0, rv x0), (1, rv x1), (3, .int x3)]) X.1 X.2.1 dX13_finish_37 hl (by decide) rfl (fun ls hl => ?_)
  refine g_aload_n X (or_rv _) dX13_finish_39 rfl (lv_at hl 1 rfl) ?_
  refine g_gR X S foX13_76 dX13_finish_40 hf (fun v1 hf => ?_)
  refine lv_sipush (v := 264) X.1 X.2.1 dX13_finish_43 (by decide) ?_
  refine lv_iload_n X.1 X.2.1 dX13_finish_46 rfl (lv_at hl 3 rfl) ?_
  refine lv_if_eq (tgt := 54) X.1 X.2.1 dX13_finish_47 (by decide) (fun c2 => ?_) (fun c2 => ?_)
  · replace hf := (if_pos c2).symm.trans hf
    refine g_aload_n X (or_rv _) dX13_finish_54 rfl (lv_at hl 2 rfl) ?_
    obtain ⟨v3, hc, hf⟩ := ob_some hf
    refine g_ci S (runS (As := [rv x1]) (rest := [.int 264, rv v1]) X S coX13_453 (by decide) (cX13_isNothing_m l hc) rfl hl.1 (by simp [cat_rv, cat_wv, cat_sv, cat_i, cat_l, cat_a]) rfl ⟨Nat.zero_le _, Nat.zero_le _⟩ dX13_finish_55) (fun H locs S => ?_)
    refine lv_if_eq (tgt := 65) X.1 X.2.1 dX13_finish_58 (by decide) (fun c4 => ?_) (fun c4 => ?_)
    · replace hf := (if_pos c4).symm.trans hf
      refine lv_iload X.1 X.2.1 dX13_finish_65 (lv_at hl 0 rfl) ?_
      refine lv_if_eq (tgt := 74) X.1 X.2.1 dX13_finish_67 (by decide) (fun c5 => ?_) (fun c5 => ?_)
      · replace hf := (if_pos c5).symm.trans hf
        refine lv_iconst (v := 2) X.1 X.2.1 dX13_finish_74 (by decide) ?_
        exact wfX13_finish_75 X hr hlk hnm _ _ _ _ _ _ _ _ _ _ _ (lv_sub hl [1, 2, 3, 0] rfl) S hf
      · replace hf := (if_neg c5).symm.trans hf
        refine lv_iconst (v := 1) X.1 X.2.1 dX13_finish_70 (by decide) ?_
        refine lv_goto (tgt := 75) X.1 X.2.1 dX13_finish_71 (by decide) ?_
        exact wfX13_finish_75 X hr hlk hnm _ _ _ _ _ _ _ _ _ _ _ (lv_sub hl [1, 2, 3, 0] rfl) S hf
    · replace hf := (if_neg c4).symm.trans hf
      refine lv_iconst (v := 0) X.1 X.2.1 dX13_finish_61 (by decide) ?_
      refine lv_goto (tgt := 75) X.1 X.2.1 dX13_finish_62 (by decide) ?_
      exact wfX13_finish_75 X hr hlk hnm _ _ _ _ _ _ _ _ _ _ _ (lv_sub hl [1, 2, 3, 0] rfl) S hf
  · replace hf := (if_neg c2).symm.trans hf
    refine lv_iconst (v := 3) X.1 X.2.1 dX13_finish_50 (by decide) ?_
    refine lv_goto (tgt := 75) X.1 X.2.1 dX13_finish_51 (by decide) ?_
    exact wfX13_finish_75 X hr hlk hnm _ _ _ _ _ _ _ _ _ _ _ (lv_sub hl [1, 2, 3, 0] rfl) S hf
def fX13_finish_20 (x0 : Nat) (x1 : Nat) (x2 : Int32) (y0 : Int32) (h : Hp) : Option (Hp) := if x2 = 0 then fX13_finish_36 fX13_finish_37 x0 x1 y0 h else ob (fX13_isNothing x1 h) fun v2 => if v2 = 0 then fX13_finish_37 x0 x1 y0 1 h else fX13_finish_36 fX13_finish_37 x0 x1 y0 h
theorem wfX13_finish_20 {h9 : Hp} (X : Cx p E A 12 R s m args c cX13_finish yX13_finish.cls 5) (hr : meth.sig.returnType = none) (hlk : meth.locks = false) (hnm : meth.name = yX13_finish.name) :
    ∀ (x0 : Nat) (x1 : Nat) (x2 : Int32) (y0 : Int32) (h : Hp) (H : Heap) (locs : List Loc) (ls : Array Slot), lv_has ls 5 [(0, rv x0), (1, rv x1), (2, .int x2)] → St E A s h H locs → fX13_finish_20 x0 x1 x2 y0 h = some h9 → W p l e R s m args below meth c H locs 0 0 (MQ below (Qv E A h9) args s 0 0 A) (F0 m 20 ls [.int y0]) := by
  intro x0 x1 x2 y0 h H locs ls hl S hf
  unfold fX13_finish_20 at hf
  refine lv_istore_n (i := 3) (lv' := [(3, .int y0), (0, rv x0), (1, rv x1), (2, .int x2)]) X.1 X.2.1 dX13_finish_20 rfl hl (by decide) rfl (fun ls hl => ?_)
  refine lv_iload_n X.1 X.2.1 dX13_finish_21 rfl (lv_at hl 3 rfl) ?_
  refine lv_if_eq (tgt := 36) X.1 X.2.1 dX13_finish_22 (by decide) (fun c1 => ?_) (fun c1 => ?_)
  · replace hf := (if_pos c1).symm.trans hf
    exact wfX13_finish_36 X hr hlk hnm (wfX13_finish_37 X hr hlk hnm) _ _ _ _ _ _ _ (lv_sub hl [1, 2, 0] rfl) S hf
  · replace hf := (if_neg c1).symm.trans hf
    refine g_aload_n X (or_rv _) dX13_finish_25 rfl (lv_at hl 2 rfl) ?_
    obtain ⟨v2, hc, hf⟩ := ob_some hf
    refine g_ci S (runS (As := [rv x1]) (rest := []) X S coX13_453 (by decide) (cX13_isNothing_m l hc) rfl hl.1 (by decide) rfl ⟨Nat.zero_le _, Nat.zero_le _⟩ dX13_finish_26) (fun H locs S => ?_)
    refine lv_if_ne (tgt := 36) X.1 X.2.1 dX13_finish_29 (by decide) (fun c3 => ?_) (fun c3 => ?_)
    · replace hf := (if_neg c3).symm.trans hf
      exact wfX13_finish_36 X hr hlk hnm (wfX13_finish_37 X hr hlk hnm) _ _ _ _ _ _ _ (lv_sub hl [1, 2, 0] rfl) S hf
    · replace hf := (if_pos c3).symm.trans hf
      refine lv_iconst (v := 1) X.1 X.2.1 dX13_finish_32 (by decide) ?_
      refine lv_goto (tgt := 37) X.1 X.2.1 dX13_finish_33 (by decide) ?_
      exact wfX13_finish_37 X hr hlk hnm _ _ _ _ _ _ _ _ (lv_sub hl [1, 2, 0] rfl) S hf
def fX13_finish (a0 : Nat) (a1 : Nat) (a2 : Int32) (h : Hp) : Option (Hp) := gd 11 a0 h (ob (fX13_digitsOf a1 h) fun v1 => ob (gI 11 a0 35 h) fun v2 => if v1 ≤ ((2 * v2) - 1) then fX13_finish_20 a0 a1 a2 0 h else fX13_finish_20 a0 a1 a2 1 h)
theorem tkX13_finish {a0 : Nat} {a1 : Nat} {a2 : Int32} {h : Hp} {r9 : Hp} (e : fX13_finish a0 a1 a2 h = some r9) : hK h a0 = 11 := by
  unfold fX13_finish at e
  exact (gd_some e).1
theorem cX13_finish_m (l : Launch) {E : EE} {A : Nat → Prop} {a0 : Nat} {a1 : Nat} {a2 : Int32} {h : Hp} {h9 : Hp} (hf : fX13_finish a0 a1 a2 h = some h9) : Met l yX13_finish (wsM yX13_finish cX13_finish 5 none) (rmm 12 0 0) (PcE E A h [rv a0, rv a1, .int a2]) (Qv E A h9) 0 0 A := by
  refine met_of (by decide +kernel) (by simp [lg_sl, cat_rv, cat_wv, cat_sv, cat_i, cat_l, cat_a]) (fun p e s m args below meth c ls X hr hlk hnm S hl => ?_)
  have hl : lv_has ls 5 [(0, rv a0), (1, rv a1), (2, .int a2)] := by simpa [lv_args, cat_rv, cat_wv, cat_sv, cat_i, cat_l, cat_a] using hl
  generalize hH : s.heap = H at S ⊢
  generalize hlo : ([] : List Loc) = locs at S ⊢
  clear hH hlo
  unfold fX13_finish at hf
  obtain ⟨hth, hf⟩ := gd_some hf
  refine g_aload_n X (or_rv _) dX13_finish_0 rfl (lv_at hl 1 rfl) ?_
  obtain ⟨v1, hc, hf⟩ := ob_some hf
  refine g_ci S (runS (As := [rv a1]) (rest := []) X S coX13_384 (by decide) (cX13_digitsOf_m l hc) rfl hl.1 (by decide) rfl ⟨Nat.zero_le _, Nat.zero_le _⟩ dX13_finish_1) (fun H locs S => ?_)
  refine lv_iconst (v := 2) X.1 X.2.1 dX13_finish_4 (by decide) ?_
  refine g_aload_n X (or_rv _) dX13_finish_5 rfl (lv_at hl 0 rfl) ?_
  refine g_gI X S foX13_403 rfl dX13_finish_6 hf (fun v2 hf => ?_)
  refine lv_imul X.1 X.2.1 dX13_finish_9 ?_
  refine lv_iconst (v := 1) X.1 X.2.1 dX13_finish_10 (by decide) ?_
  refine lv_isub X.1 X.2.1 dX13_finish_11 ?_
  refine lv_icmp_le (tgt := 19) X.1 X.2.1 dX13_finish_12 (by decide) (fun c3 => ?_) (fun c3 => ?_)
  · replace hf := (if_pos c3).symm.trans hf
    refine lv_iconst (v := 0) X.1 X.2.1 dX13_finish_19 (by decide) ?_
    exact wfX13_finish_20 X hr hlk hnm _ _ _ _ _ _ _ _ hl S hf
  · replace hf := (if_neg c3).symm.trans hf
    refine lv_iconst (v := 1) X.1 X.2.1 dX13_finish_15 (by decide) ?_
    refine lv_goto (tgt := 20) X.1 X.2.1 dX13_finish_16 (by decide) ?_
    exact wfX13_finish_20 X hr hlk hnm _ _ _ _ _ _ _ _ hl S hf
def fX13_signedSum (a0 : Nat) (a1 : Int32) (a2 : Int32) (h : Hp) : Option (Int32 × Hp) := gd 11 a0 h (if a1 = a2 then ob (gR 11 a0 32 h) fun v18 => ob (gR 11 a0 30 h) fun v19 => ob (gR 11 a0 31 h) fun v20 => ob (fX13_sum v18 v19 v20 h) fun h => rz a1 (some (a1, h)) else ob (gR 11 a0 30 h) fun v2 => ob (gR 11 a0 31 h) fun v3 => ob (fX13_orderOf v2 v3 h) fun v4 => if v4 < 0 then ob (gR 11 a0 32 h) fun v6 => ob (gR 11 a0 31 h) fun v7 => ob (gR 11 a0 30 h) fun v8 => ob (fX13_less v6 v7 v8 h) fun h => rz a2 (some (a2, h)) else ob (gR 11 a0 32 h) fun v10 => ob (gR 11 a0 30 h) fun v11 => ob (gR 11 a0 31 h) fun v12 => ob (fX13_less v10 v11 v12 h) fun h => if a1 = 0 then some (0, h) else ob (gR 11 a0 32 h) fun v15 => ob (fX13_isNothing v15 h) fun v16 => if v16 = 0 then some (1, h) else some (0, h))
theorem tkX13_signedSum {a0 : Nat} {a1 : Int32} {a2 : Int32} {h : Hp} {r9 : Int32 × Hp} (e : fX13_signedSum a0 a1 a2 h = some r9) : hK h a0 = 11 := by
  unfold fX13_signedSum at e
  exact (gd_some e).1
theorem cX13_signedSum_m (l : Launch) {E : EE} {A : Nat → Prop} {a0 : Nat} {a1 : Int32} {a2 : Int32} {h : Hp} {r9 : Int32} {h9 : Hp} (hf : fX13_signedSum a0 a1 a2 h = some (r9, h9)) : Met l yX13_signedSum (wsM yX13_signedSum cX13_signedSum 3 (some .boolean)) (rmm 12 0 0) (PcE E A h [rv a0, .int a1, .int a2]) (Qi E A h9 r9) 0 0 A := by
  refine met_of (by decide +kernel) (by simp [lg_sl, cat_rv, cat_wv, cat_sv, cat_i, cat_l, cat_a]) (fun p e s m args below meth c ls X hr hlk hnm S hl => ?_)
  have hl : lv_has ls 3 [(0, rv a0), (1, .int a1), (2, .int a2)] := by simpa [lv_args, cat_rv, cat_wv, cat_sv, cat_i, cat_l, cat_a] using hl
  generalize hH : s.heap = H at S ⊢
  generalize hlo : ([] : List Loc) = locs at S ⊢
  clear hH hlo
  unfold fX13_signedSum at hf
  obtain ⟨hth, hf⟩ := gd_some hf
  refine lv_iload_n X.1 X.2.1 dX13_signedSum_0 rfl (lv_at hl 1 rfl) ?_
  refine lv_iload_n X.1 X.2.1 dX13_signedSum_1 rfl (lv_at hl 2 rfl) ?_
  refine lv_icmp_ne (tgt := 22) X.1 X.2.1 dX13_signedSum_2 (by decide) (fun c1 => ?_) (fun c1 => ?_)
  · replace hf := (if_neg c1).symm.trans hf
    refine g_aload_n X (or_rv _) dX13_signedSum_22 rfl (lv_at hl 0 rfl) ?_
    refine g_gR X S foX13_126 dX13_signedSum_23 hf (fun v2 hf => ?_)
    refine g_aload_n X (or_rv _) dX13_signedSum_26 rfl (lv_at hl 0 rfl) ?_
    refine g_gR X S foX13_130 dX13_signedSum_27 hf (fun v3 hf => ?_)
    obtain ⟨v4, hc, hf⟩ := ob_some hf
    refine g_ci S (runS (As := [rv v2, rv v3]) (rest := []) X S coX13_465 (by decide) (cX13_orderOf_m l hc) rfl hl.1 (by decide) rfl ⟨Nat.zero_le _, Nat.zero_le _⟩ dX13_signedSum_30) (fun H locs S => ?_)
    refine lv_if_lt (tgt := 71) X.1 X.2.1 dX13_signedSum_33 (by decide) (fun c5 => ?_) (fun c5 => ?_)
    · replace hf := (if_pos c5).symm.trans hf
      refine g_aload_n X (or_rv _) dX13_signedSum_71 rfl (lv_at hl 0 rfl) ?_
      refine g_gR X S foX13_133 dX13_signedSum_72 hf (fun v6 hf => ?_)
      refine g_aload_n X (or_rv _) dX13_signedSum_75 rfl (lv_at hl 0 rfl) ?_
      refine g_gR X S foX13_130 dX13_signedSum_76 hf (fun v7 hf => ?_)
      refine g_aload_n X (or_rv _) dX13_signedSum_79 rfl (lv_at hl 0 rfl) ?_
      refine g_gR X S foX13_126 dX13_signedSum_80 hf (fun v8 hf => ?_)
      obtain ⟨h, hc, hf⟩ := ob_some hf
      refine g_cv S (runS (As := [rv v6, rv v7, rv v8]) (rest := []) X S coX13_469 (by decide) (cX13_less_m l hc) rfl hl.1 (by decide) rfl ⟨Nat.zero_le _, Nat.zero_le _⟩ dX13_signedSum_83) (fun H locs S => ?_)
      refine lv_iload_n X.1 X.2.1 dX13_signedSum_86 rfl (lv_at hl 2 rfl) ?_
      obtain ⟨hz, hf⟩ := rz_some hf
      cases hf; exact g_rz X S hr hlk hz dX13_signedSum_87
    · replace hf := (if_neg c5).symm.trans hf
      refine g_aload_n X (or_rv _) dX13_signedSum_36 rfl (lv_at hl 0 rfl) ?_
      refine g_gR X S foX13_133 dX13_signedSum_37 hf (fun v10 hf => ?_)
      refine g_aload_n X (or_rv _) dX13_signedSum_40 rfl (lv_at hl 0 rfl) ?_
      refine g_gR X S foX13_126 dX13_signedSum_41 hf (fun v11 hf => ?_)
      refine g_aload_n X (or_rv _) dX13_signedSum_44 rfl (lv_at hl 0 rfl) ?_
      refine g_gR X S foX13_130 dX13_signedSum_45 hf (fun v12 hf => ?_)
      obtain ⟨h, hc, hf⟩ := ob_some hf
      refine g_cv S (runS (As := [rv v10, rv v11, rv v12]) (rest := []) X S coX13_469 (by decide) (cX13_less_m l hc) rfl hl.1 (by decide) rfl ⟨Nat.zero_le _, Nat.zero_le _⟩ dX13_signedSum_48) (fun H locs S => ?_)
      refine lv_iload_n X.1 X.2.1 dX13_signedSum_51 rfl (lv_at hl 1 rfl) ?_
      refine lv_if_eq (tgt := 69) X.1 X.2.1 dX13_signedSum_52 (by decide) (fun c14 => ?_) (fun c14 => ?_)
      · replace hf := (if_pos c14).symm.trans hf
        refine lv_iconst (v := 0) X.1 X.2.1 dX13_signedSum_69 (by decide) ?_
        cases hf; exact g_rz X S hr hlk (by decide) dX13_signedSum_70
      · replace hf := (if_neg c14).symm.trans hf
        refine g_aload_n X (or_rv _) dX13_signedSum_55 rfl (lv_at hl 0 rfl) ?_
        refine g_gR X S foX13_133 dX13_signedSum_56 hf (fun v15 hf => ?_)
        obtain ⟨v16, hc, hf⟩ := ob_some hf
        refine g_ci S (runS (As := [rv v15]) (rest := []) X S coX13_453 (by decide) (cX13_isNothing_m l hc) rfl hl.1 (by decide) rfl ⟨Nat.zero_le _, Nat.zero_le _⟩ dX13_signedSum_59) (fun H locs S => ?_)
        refine lv_if_ne (tgt := 69) X.1 X.2.1 dX13_signedSum_62 (by decide) (fun c17 => ?_) (fun c17 => ?_)
        · replace hf := (if_neg c17).symm.trans hf
          refine lv_iconst (v := 0) X.1 X.2.1 dX13_signedSum_69 (by decide) ?_
          cases hf; exact g_rz X S hr hlk (by decide) dX13_signedSum_70
        · replace hf := (if_pos c17).symm.trans hf
          refine lv_iconst (v := 1) X.1 X.2.1 dX13_signedSum_65 (by decide) ?_
          refine lv_goto (tgt := 70) X.1 X.2.1 dX13_signedSum_66 (by decide) ?_
          cases hf; exact g_rz X S hr hlk (by decide) dX13_signedSum_70
  · replace hf := (if_pos c1).symm.trans hf
    refine g_aload_n X (or_rv _) dX13_signedSum_5 rfl (lv_at hl 0 rfl) ?_
    refine g_gR X S foX13_133 dX13_signedSum_6 hf (fun v18 hf => ?_)
    refine g_aload_n X (or_rv _) dX13_signedSum_9 rfl (lv_at hl 0 rfl) ?_
    refine g_gR X S foX13_126 dX13_signedSum_10 hf (fun v19 hf => ?_)
    refine g_aload_n X (or_rv _) dX13_signedSum_13 rfl (lv_at hl 0 rfl) ?_
    refine g_gR X S foX13_130 dX13_signedSum_14 hf (fun v20 hf => ?_)
    obtain ⟨h, hc, hf⟩ := ob_some hf
    refine g_cv S (runS (As := [rv v18, rv v19, rv v20]) (rest := []) X S coX13_461 (by decide) (cX13_sum_m l hc) rfl hl.1 (by decide) rfl ⟨Nat.zero_le _, Nat.zero_le _⟩ dX13_signedSum_17) (fun H locs S => ?_)
    refine lv_iload_n X.1 X.2.1 dX13_signedSum_20 rfl (lv_at hl 1 rfl) ?_
    obtain ⟨hz, hf⟩ := rz_some hf
    cases hf; exact g_rz X S hr hlk hz dX13_signedSum_21
def fX13_doSum_141 (y0 : Int32) (y1 : Int32) (y2 : Nat) (h : Hp) : Option (Hp) := ob (qI y2 y1 y0 h) fun h => some h
theorem wfX13_doSum_141 {h9 : Hp} (X : Cx p E A 13 R s m args c cX13_doSum yX13_doSum.cls 5) (hr : meth.sig.returnType = none) (hlk : meth.locks = false) (hnm : meth.name = yX13_doSum.name) :
    ∀ (y0 : Int32) (y1 : Int32) (y2 : Nat) (h : Hp) (H : Heap) (locs : List Loc) (ls : Array Slot), lv_has ls 5 [] → St E A s h H locs → fX13_doSum_141 y0 y1 y2 h = some h9 → W p l e R s m args below meth c H locs 0 0 (MQ below (Qv E A h9) args s 0 0 A) (F0 m 141 ls [.int y0, .int y1, rv y2]) := by
  intro y0 y1 y2 h H locs ls hl S hf
  unfold fX13_doSum_141 at hf
  refine g_qI X S dX13_doSum_141 hf (fun h H locs hm hf S => ?_)
  refine lv_goto (tgt := 155) X.1 X.2.1 dX13_doSum_142 (by decide) ?_
  cases hf; exact g_rv X S hr hlk dX13_doSum_155
def fX13_doSum_99 (x0 : Nat) (x1 : Int32) (y0 : Int32) (y1 : Int32) (y2 : Nat) (h : Hp) : Option (Hp) := ob2 (fX13_signedSum y2 y1 y0 h) fun v1 h => if x1 = 6 then ob (gR 11 x0 3 h) fun v5 => ob (gR 11 x0 32 h) fun v6 => ob (fX13_isNothing v6 h) fun v7 => if v7 = 0 then if v1 = 0 then fX13_doSum_141 2 264 v5 h else fX13_doSum_141 1 264 v5 h else fX13_doSum_141 0 264 v5 h else ob (gR 11 x0 32 h) fun v3 => ob (fX13_finish x0 v3 v1 h) fun h => some h
theorem wfX13_doSum_99 {h9 : Hp} (X : Cx p E A 13 R s m args c cX13_doSum yX13_doSum.cls 5) (hr : meth.sig.returnType = none) (hlk : meth.locks = false) (hnm : meth.name = yX13_doSum.name) :
    ∀ (x0 : Nat) (x1 : Int32) (y0 : Int32) (y1 : Int32) (y2 : Nat) (h : Hp) (H : Heap) (locs : List Loc) (ls : Array Slot), lv_has ls 5 [(0, rv x0), (1, .int x1)] → St E A s h H locs → fX13_doSum_99 x0 x1 y0 y1 y2 h = some h9 → W p l e R s m args below meth c H locs 0 0 (MQ below (Qv E A h9) args s 0 0 A) (F0 m 99 ls [.int y0, .int y1, rv y2]) := by
  intro x0 x1 y0 y1 y2 h H locs ls hl S hf
  unfold fX13_doSum_99 at hf
  obtain ⟨v1, h, hc, hf⟩ := ob2_some hf
  refine g_ci S (runV (As := [.int y1, .int y0]) (rest := []) X S coX13_484 (by decide) (cX13_signedSum_m l hc) (tkX13_signedSum hc) rfl hl.1 (by decide) rfl ⟨Nat.zero_le _, Nat.zero_le _⟩ dX13_doSum_99) (fun H locs S => ?_)
  refine lv_istore (lv' := [(4, .int v1), (0, rv x0), (1, .int x1)]) X.1 X.2.1 dX13_doSum_102 hl (by decide) rfl (fun ls hl => ?_)
  refine lv_iload_n X.1 X.2.1 dX13_doSum_104 rfl (lv_at hl 2 rfl) ?_
  refine lv_bipush (v := 6) X.1 X.2.1 dX13_doSum_105 (by decide) ?_
  refine lv_icmp_ne (tgt := 145) X.1 X.2.1 dX13_doSum_107 (by decide) (fun c2 => ?_) (fun c2 => ?_)
  · replace hf := (if_neg c2).symm.trans hf
    refine g_aload_n X (or_rv _) dX13_doSum_145 rfl (lv_at hl 1 rfl) ?_
    refine g_aload_n X (or_rv _) dX13_doSum_146 rfl (lv_at hl 1 rfl) ?_
    refine g_gR X S foX13_133 dX13_doSum_147 hf (fun v3 hf => ?_)
    refine lv_iload X.1 X.2.1 dX13_doSum_150 (lv_at hl 0 rfl) ?_
    obtain ⟨h, hc, hf⟩ := ob_some hf
    refine g_cv S (runV (As := [rv v3, .int v1]) (rest := []) X S coX13_480 (by decide) (cX13_finish_m l hc) (tkX13_finish hc) rfl hl.1 (by decide) rfl ⟨Nat.zero_le _, Nat.zero_le _⟩ dX13_doSum_152) (fun H locs S => ?_)
    cases hf; exact g_rv X S hr hlk dX13_doSum_155
  · replace hf := (if_pos c2).symm.trans hf
    refine g_aload_n X (or_rv _) dX13_doSum_110 rfl (lv_at hl 1 rfl) ?_
    refine g_gR X S foX13_76 dX13_doSum_111 hf (fun v5 hf => ?_)
    refine lv_sipush (v := 264) X.1 X.2.1 dX13_doSum_114 (by decide) ?_
    refine g_aload_n X (or_rv _) dX13_doSum_117 rfl (lv_at hl 1 rfl) ?_
    refine g_gR X S foX13_133 dX13_doSum_118 hf (fun v6 hf => ?_)
    obtain ⟨v7, hc, hf⟩ := ob_some hf
    refine g_ci S (runS (As := [rv v6]) (rest := [.int 264, rv v5]) X S coX13_453 (by decide) (cX13_isNothing_m l hc) rfl hl.1 (by simp [cat_rv, cat_wv, cat_sv, cat_i, cat_l, cat_a]) rfl ⟨Nat.zero_le _, Nat.zero_le _⟩ dX13_doSum_121) (fun H locs S => ?_)
    refine lv_if_eq (tgt := 131) X.1 X.2.1 dX13_doSum_124 (by decide) (fun c8 => ?_) (fun c8 => ?_)
    · replace hf := (if_pos c8).symm.trans hf
      refine lv_iload X.1 X.2.1 dX13_doSum_131 (lv_at hl 0 rfl) ?_
      refine lv_if_eq (tgt := 140) X.1 X.2.1 dX13_doSum_133 (by decide) (fun c9 => ?_) (fun c9 => ?_)
      · replace hf := (if_pos c9).symm.trans hf
        refine lv_iconst (v := 2) X.1 X.2.1 dX13_doSum_140 (by decide) ?_
        exact wfX13_doSum_141 X hr hlk hnm _ _ _ _ _ _ _ (lv_sub hl [] rfl) S hf
      · replace hf := (if_neg c9).symm.trans hf
        refine lv_iconst (v := 1) X.1 X.2.1 dX13_doSum_136 (by decide) ?_
        refine lv_goto (tgt := 141) X.1 X.2.1 dX13_doSum_137 (by decide) ?_
        exact wfX13_doSum_141 X hr hlk hnm _ _ _ _ _ _ _ (lv_sub hl [] rfl) S hf
    · replace hf := (if_neg c8).symm.trans hf
      refine lv_iconst (v := 0) X.1 X.2.1 dX13_doSum_127 (by decide) ?_
      refine lv_goto (tgt := 141) X.1 X.2.1 dX13_doSum_128 (by decide) ?_
      exact wfX13_doSum_141 X hr hlk hnm _ _ _ _ _ _ _ (lv_sub hl [] rfl) S hf
def fX13_doSum (a0 : Nat) (a1 : Int32) (h : Hp) : Option (Hp) := gd 11 a0 h (ob (gI 11 a0 34 h) fun v1 => ob (gI 11 a0 35 h) fun v2 => ob (fX13_signAt a0 v1 v2 h) fun v3 => ob (fX13_isBelow v3) fun v4 => ob (gI 11 a0 36 h) fun v5 => ob (gI 11 a0 37 h) fun v6 => ob (fX13_signAt a0 v5 v6 h) fun v7 => ob (fX13_isBelow v7) fun v8 => ob (gR 11 a0 30 h) fun v9 => ob (gI 11 a0 34 h) fun v10 => ob (gI 11 a0 35 h) fun v11 => ob (fX13_load a0 v9 v10 v11 h) fun h => ob (gR 11 a0 31 h) fun v13 => ob (gI 11 a0 36 h) fun v14 => ob (gI 11 a0 37 h) fun v15 => ob (fX13_load a0 v13 v14 v15 h) fun h => if a1 = 3 then ob (gR 11 a0 31 h) fun v20 => ob (fX13_finish a0 v20 v8 h) fun h => some h else if a1 = 4 then fX13_doSum_99 a0 a1 v8 v4 a0 h else if v8 = 0 then fX13_doSum_99 a0 a1 1 v4 a0 h else fX13_doSum_99 a0 a1 0 v4 a0 h)
theorem tkX13_doSum {a0 : Nat} {a1 : Int32} {h : Hp} {r9 : Hp} (e : fX13_doSum a0 a1 h = some r9) : hK h a0 = 11 := by
  unfold fX13_doSum at e
  exact (gd_some e).1
theorem cX13_doSum_m (l : Launch) {E : EE} {A : Nat → Prop} {a0 : Nat} {a1 : Int32} {h : Hp} {h9 : Hp} (hf : fX13_doSum a0 a1 h = some h9) : Met l yX13_doSum (wsM yX13_doSum cX13_doSum 5 none) (rmm 13 0 0) (PcE E A h [rv a0, .int a1]) (Qv E A h9) 0 0 A := by
  refine met_of (by decide +kernel) (by simp [lg_sl, cat_rv, cat_wv, cat_sv, cat_i, cat_l, cat_a]) (fun p e s m args below meth c ls X hr hlk hnm S hl => ?_)
  have hl : lv_has ls 5 [(0, rv a0), (1, .int a1)] := by simpa [lv_args, cat_rv, cat_wv, cat_sv, cat_i, cat_l, cat_a] using hl
  generalize hH : s.heap = H at S ⊢
  generalize hlo : ([] : List Loc) = locs at S ⊢
  clear hH hlo
  unfold fX13_doSum at hf
  obtain ⟨hth, hf⟩ := gd_some hf
  refine g_aload_n X (or_rv _) dX13_doSum_0 rfl (lv_at hl 0 rfl) ?_
  refine g_aload_n X (or_rv _) dX13_doSum_1 rfl (lv_at hl 0 rfl) ?_
  refine g_gI X S foX13_394 rfl dX13_doSum_2 hf (fun v1 hf => ?_)
  refine g_aload_n X (or_rv _) dX13_doSum_5 rfl (lv_at hl 0 rfl) ?_
  refine g_gI X S foX13_403 rfl dX13_doSum_6 hf (fun v2 hf => ?_)
  obtain ⟨v3, hc, hf⟩ := ob_some hf
  refine g_ci S (runV (As := [.int v1, .int v2]) (rest := []) X S coX13_472 (by decide) (cX13_signAt_m l hc) (tkX13_signAt hc) rfl hl.1 (by decide) rfl ⟨Nat.zero_le _, Nat.zero_le _⟩ dX13_doSum_9) (fun H locs S => ?_)
  obtain ⟨v4, hc, hf⟩ := ob_some hf
  refine g_ci S (runS (As := [.int v3]) (rest := []) X S coX13_475 (by decide) (cX13_isBelow_m l hc) rfl hl.1 (by decide) rfl ⟨Nat.zero_le _, Nat.zero_le _⟩ dX13_doSum_12) (fun H locs S => ?_)
  refine lv_istore_n (i := 2) (lv' := [(2, .int v4), (0, rv a0), (1, .int a1)]) X.1 X.2.1 dX13_doSum_15 rfl hl (by decide) rfl (fun ls hl => ?_)
  refine g_aload_n X (or_rv _) dX13_doSum_16 rfl (lv_at hl 1 rfl) ?_
  refine g_aload_n X (or_rv _) dX13_doSum_17 rfl (lv_at hl 1 rfl) ?_
  refine g_gI X S foX13_397 rfl dX13_doSum_18 hf (fun v5 hf => ?_)
  refine g_aload_n X (or_rv _) dX13_doSum_21 rfl (lv_at hl 1 rfl) ?_
  refine g_gI X S foX13_406 rfl dX13_doSum_22 hf (fun v6 hf => ?_)
  obtain ⟨v7, hc, hf⟩ := ob_some hf
  refine g_ci S (runV (As := [.int v5, .int v6]) (rest := []) X S coX13_472 (by decide) (cX13_signAt_m l hc) (tkX13_signAt hc) rfl hl.1 (by decide) rfl ⟨Nat.zero_le _, Nat.zero_le _⟩ dX13_doSum_25) (fun H locs S => ?_)
  obtain ⟨v8, hc, hf⟩ := ob_some hf
  refine g_ci S (runS (As := [.int v7]) (rest := []) X S coX13_475 (by decide) (cX13_isBelow_m l hc) rfl hl.1 (by decide) rfl ⟨Nat.zero_le _, Nat.zero_le _⟩ dX13_doSum_28) (fun H locs S => ?_)
  refine lv_istore_n (i := 3) (lv' := [(3, .int v8), (2, .int v4), (0, rv a0), (1, .int a1)]) X.1 X.2.1 dX13_doSum_31 rfl hl (by decide) rfl (fun ls hl => ?_)
  refine g_aload_n X (or_rv _) dX13_doSum_32 rfl (lv_at hl 2 rfl) ?_
  refine g_aload_n X (or_rv _) dX13_doSum_33 rfl (lv_at hl 2 rfl) ?_
  refine g_gR X S foX13_126 dX13_doSum_34 hf (fun v9 hf => ?_)
  refine g_aload_n X (or_rv _) dX13_doSum_37 rfl (lv_at hl 2 rfl) ?_
  refine g_gI X S foX13_394 rfl dX13_doSum_38 hf (fun v10 hf => ?_)
  refine g_aload_n X (or_rv _) dX13_doSum_41 rfl (lv_at hl 2 rfl) ?_
  refine g_gI X S foX13_403 rfl dX13_doSum_42 hf (fun v11 hf => ?_)
  obtain ⟨h, hc, hf⟩ := ob_some hf
  refine g_cv S (runV (As := [rv v9, .int v10, .int v11]) (rest := []) X S coX13_478 (by decide) (cX13_load_m l hc) (tkX13_load hc) rfl hl.1 (by decide) rfl ⟨Nat.zero_le _, Nat.zero_le _⟩ dX13_doSum_45) (fun H locs S => ?_)
  refine g_aload_n X (or_rv _) dX13_doSum_48 rfl (lv_at hl 2 rfl) ?_
  refine g_aload_n X (or_rv _) dX13_doSum_49 rfl (lv_at hl 2 rfl) ?_
  refine g_gR X S foX13_130 dX13_doSum_50 hf (fun v13 hf => ?_)
  refine g_aload_n X (or_rv _) dX13_doSum_53 rfl (lv_at hl 2 rfl) ?_
  refine g_gI X S foX13_397 rfl dX13_doSum_54 hf (fun v14 hf => ?_)
  refine g_aload_n X (or_rv _) dX13_doSum_57 rfl (lv_at hl 2 rfl) ?_
  refine g_gI X S foX13_406 rfl dX13_doSum_58 hf (fun v15 hf => ?_)
  obtain ⟨h, hc, hf⟩ := ob_some hf
  refine g_cv S (runV (As := [rv v13, .int v14, .int v15]) (rest := []) X S coX13_478 (by decide) (cX13_load_m l hc) (tkX13_load hc) rfl hl.1 (by decide) rfl ⟨Nat.zero_le _, Nat.zero_le _⟩ dX13_doSum_61) (fun H locs S => ?_)
  refine lv_iload_n X.1 X.2.1 dX13_doSum_64 rfl (lv_at hl 3 rfl) ?_
  refine lv_iconst (v := 3) X.1 X.2.1 dX13_doSum_65 (by decide) ?_
  refine lv_icmp_ne (tgt := 79) X.1 X.2.1 dX13_doSum_66 (by decide) (fun c17 => ?_) (fun c17 => ?_)
  · replace hf := (if_neg c17).symm.trans hf
    refine g_aload_n X (or_rv _) dX13_doSum_79 rfl (lv_at hl 2 rfl) ?_
    refine lv_iload_n X.1 X.2.1 dX13_doSum_80 rfl (lv_at hl 1 rfl) ?_
    refine lv_iload_n X.1 X.2.1 dX13_doSum_81 rfl (lv_at hl 3 rfl) ?_
    refine lv_iconst (v := 4) X.1 X.2.1 dX13_doSum_82 (by decide) ?_
    refine lv_icmp_ne (tgt := 90) X.1 X.2.1 dX13_doSum_83 (by decide) (fun c18 => ?_) (fun c18 => ?_)
    · replace hf := (if_neg c18).symm.trans hf
      refine lv_iload_n X.1 X.2.1 dX13_doSum_90 rfl (lv_at hl 0 rfl) ?_
      refine lv_if_ne (tgt := 98) X.1 X.2.1 dX13_doSum_91 (by decide) (fun c19 => ?_) (fun c19 => ?_)
      · replace hf := (if_neg c19).symm.trans hf
        refine lv_iconst (v := 0) X.1 X.2.1 dX13_doSum_98 (by decide) ?_
        exact wfX13_doSum_99 X hr hlk hnm _ _ _ _ _ _ _ _ _ (lv_sub hl [2, 3] rfl) S hf
      · replace hf := (if_pos c19).symm.trans hf
        refine lv_iconst (v := 1) X.1 X.2.1 dX13_doSum_94 (by decide) ?_
        refine lv_goto (tgt := 99) X.1 X.2.1 dX13_doSum_95 (by decide) ?_
        exact wfX13_doSum_99 X hr hlk hnm _ _ _ _ _ _ _ _ _ (lv_sub hl [2, 3] rfl) S hf
    · replace hf := (if_pos c18).symm.trans hf
      refine lv_iload_n X.1 X.2.1 dX13_doSum_86 rfl (lv_at hl 0 rfl) ?_
      refine lv_goto (tgt := 99) X.1 X.2.1 dX13_doSum_87 (by decide) ?_
      exact wfX13_doSum_99 X hr hlk hnm _ _ _ _ _ _ _ _ _ (lv_sub hl [2, 3] rfl) S hf
  · replace hf := (if_pos c17).symm.trans hf
    refine g_aload_n X (or_rv _) dX13_doSum_69 rfl (lv_at hl 2 rfl) ?_
    refine g_aload_n X (or_rv _) dX13_doSum_70 rfl (lv_at hl 2 rfl) ?_
    refine g_gR X S foX13_130 dX13_doSum_71 hf (fun v20 hf => ?_)
    refine lv_iload_n X.1 X.2.1 dX13_doSum_74 rfl (lv_at hl 0 rfl) ?_
    obtain ⟨h, hc, hf⟩ := ob_some hf
    refine g_cv S (runV (As := [rv v20, .int v8]) (rest := []) X S coX13_480 (by decide) (cX13_finish_m l hc) (tkX13_finish hc) rfl hl.1 (by decide) rfl ⟨Nat.zero_le _, Nat.zero_le _⟩ dX13_doSum_75) (fun H locs S => ?_)
    cases hf; exact g_rv X S hr hlk dX13_doSum_78
def fX13_doProduct_38 (x0 : Nat) (y0 : Int32) (h : Hp) : Option (Hp) := ob (gR 11 x0 30 h) fun v1 => ob (gI 11 x0 34 h) fun v2 => ob (gI 11 x0 35 h) fun v3 => ob (fX13_load x0 v1 v2 v3 h) fun h => ob (gR 11 x0 31 h) fun v5 => ob (gI 11 x0 36 h) fun v6 => ob (gI 11 x0 37 h) fun v7 => ob (fX13_load x0 v5 v6 v7 h) fun h => ob (gR 11 x0 32 h) fun v9 => ob (gR 11 x0 30 h) fun v10 => ob (gR 11 x0 31 h) fun v11 => ob (fX13_product v9 v10 v11 h) fun h => ob (gI 11 x0 34 h) fun v13 => ob (gI 11 x0 35 h) fun v14 => ob (gR 11 x0 32 h) fun v15 => ob (fX13_store x0 v13 v14 v15 y0 h) fun h => some h
theorem wfX13_doProduct_38 {h9 : Hp} (X : Cx p E A 11 R s m args c cX13_doProduct yX13_doProduct.cls 2) (hr : meth.sig.returnType = none) (hlk : meth.locks = false) (hnm : meth.name = yX13_doProduct.name) :
    ∀ (x0 : Nat) (y0 : Int32) (h : Hp) (H : Heap) (locs : List Loc) (ls : Array Slot), lv_has ls 2 [(0, rv x0)] → St E A s h H locs → fX13_doProduct_38 x0 y0 h = some h9 → W p l e R s m args below meth c H locs 0 0 (MQ below (Qv E A h9) args s 0 0 A) (F0 m 38 ls [.int y0]) := by
  intro x0 y0 h H locs ls hl S hf
  unfold fX13_doProduct_38 at hf
  refine lv_istore_n (i := 1) (lv' := [(1, .int y0), (0, rv x0)]) X.1 X.2.1 dX13_doProduct_38 rfl hl (by decide) (by simp [List.filter, cat_rv, cat_wv, cat_sv]) (fun ls hl => ?_)
  refine g_aload_n X (or_rv _) dX13_doProduct_39 rfl (lv_at hl 1 rfl) ?_
  refine g_aload_n X (or_rv _) dX13_doProduct_40 rfl (lv_at hl 1 rfl) ?_
  refine g_gR X S foX13_126 dX13_doProduct_41 hf (fun v1 hf => ?_)
  refine g_aload_n X (or_rv _) dX13_doProduct_44 rfl (lv_at hl 1 rfl) ?_
  refine g_gI X S foX13_394 rfl dX13_doProduct_45 hf (fun v2 hf => ?_)
  refine g_aload_n X (or_rv _) dX13_doProduct_48 rfl (lv_at hl 1 rfl) ?_
  refine g_gI X S foX13_403 rfl dX13_doProduct_49 hf (fun v3 hf => ?_)
  obtain ⟨h, hc, hf⟩ := ob_some hf
  refine g_cv S (runV (As := [rv v1, .int v2, .int v3]) (rest := []) X S coX13_478 (by decide) (cX13_load_m l hc) (tkX13_load hc) rfl hl.1 (by decide) rfl ⟨Nat.zero_le _, Nat.zero_le _⟩ dX13_doProduct_52) (fun H locs S => ?_)
  refine g_aload_n X (or_rv _) dX13_doProduct_55 rfl (lv_at hl 1 rfl) ?_
  refine g_aload_n X (or_rv _) dX13_doProduct_56 rfl (lv_at hl 1 rfl) ?_
  refine g_gR X S foX13_130 dX13_doProduct_57 hf (fun v5 hf => ?_)
  refine g_aload_n X (or_rv _) dX13_doProduct_60 rfl (lv_at hl 1 rfl) ?_
  refine g_gI X S foX13_397 rfl dX13_doProduct_61 hf (fun v6 hf => ?_)
  refine g_aload_n X (or_rv _) dX13_doProduct_64 rfl (lv_at hl 1 rfl) ?_
  refine g_gI X S foX13_406 rfl dX13_doProduct_65 hf (fun v7 hf => ?_)
  obtain ⟨h, hc, hf⟩ := ob_some hf
  refine g_cv S (runV (As := [rv v5, .int v6, .int v7]) (rest := []) X S coX13_478 (by decide) (cX13_load_m l hc) (tkX13_load hc) rfl hl.1 (by decide) rfl ⟨Nat.zero_le _, Nat.zero_le _⟩ dX13_doProduct_68) (fun H locs S => ?_)
  refine g_aload_n X (or_rv _) dX13_doProduct_71 rfl (lv_at hl 1 rfl) ?_
  refine g_gR X S foX13_133 dX13_doProduct_72 hf (fun v9 hf => ?_)
  refine g_aload_n X (or_rv _) dX13_doProduct_75 rfl (lv_at hl 1 rfl) ?_
  refine g_gR X S foX13_126 dX13_doProduct_76 hf (fun v10 hf => ?_)
  refine g_aload_n X (or_rv _) dX13_doProduct_79 rfl (lv_at hl 1 rfl) ?_
  refine g_gR X S foX13_130 dX13_doProduct_80 hf (fun v11 hf => ?_)
  obtain ⟨h, hc, hf⟩ := ob_some hf
  refine g_cv S (runS (As := [rv v9, rv v10, rv v11]) (rest := []) X S coX13_488 (by decide) (cX13_product_m l hc) rfl hl.1 (by decide) rfl ⟨Nat.zero_le _, Nat.zero_le _⟩ dX13_doProduct_83) (fun H locs S => ?_)
  refine g_aload_n X (or_rv _) dX13_doProduct_86 rfl (lv_at hl 1 rfl) ?_
  refine g_aload_n X (or_rv _) dX13_doProduct_87 rfl (lv_at hl 1 rfl) ?_
  refine g_gI X S foX13_394 rfl dX13_doProduct_88 hf (fun v13 hf => ?_)
  refine g_aload_n X (or_rv _) dX13_doProduct_91 rfl (lv_at hl 1 rfl) ?_
  refine g_gI X S foX13_403 rfl dX13_doProduct_92 hf (fun v14 hf => ?_)
  refine g_aload_n X (or_rv _) dX13_doProduct_95 rfl (lv_at hl 1 rfl) ?_
  refine g_gR X S foX13_133 dX13_doProduct_96 hf (fun v15 hf => ?_)
  refine lv_iload_n X.1 X.2.1 dX13_doProduct_99 rfl (lv_at hl 0 rfl) ?_
  obtain ⟨h, hc, hf⟩ := ob_some hf
  refine g_cv S (runV (As := [.int v13, .int v14, rv v15, .int y0]) (rest := []) X S coX13_457 (by decide) (cX13_store_m l hc) (tkX13_store hc) rfl hl.1 (by decide) rfl ⟨Nat.zero_le _, Nat.zero_le _⟩ dX13_doProduct_100) (fun H locs S => ?_)
  cases hf; exact g_rv X S hr hlk dX13_doProduct_103
def fX13_doProduct (a0 : Nat) (h : Hp) : Option (Hp) := gd 11 a0 h (ob (gI 11 a0 34 h) fun v1 => ob (gI 11 a0 35 h) fun v2 => ob (fX13_signAt a0 v1 v2 h) fun v3 => ob (fX13_isBelow v3) fun v4 => ob (gI 11 a0 36 h) fun v5 => ob (gI 11 a0 37 h) fun v6 => ob (fX13_signAt a0 v5 v6 h) fun v7 => ob (fX13_isBelow v7) fun v8 => if v4 = v8 then fX13_doProduct_38 a0 0 h else fX13_doProduct_38 a0 1 h)
theorem tkX13_doProduct {a0 : Nat} {h : Hp} {r9 : Hp} (e : fX13_doProduct a0 h = some r9) : hK h a0 = 11 := by
  unfold fX13_doProduct at e
  exact (gd_some e).1
theorem cX13_doProduct_m (l : Launch) {E : EE} {A : Nat → Prop} {a0 : Nat} {h : Hp} {h9 : Hp} (hf : fX13_doProduct a0 h = some h9) : Met l yX13_doProduct (wsM yX13_doProduct cX13_doProduct 2 none) (rmm 11 0 0) (PcE E A h [rv a0]) (Qv E A h9) 0 0 A := by
  refine met_of (by decide +kernel) (by simp [lg_sl, cat_rv, cat_wv, cat_sv, cat_i, cat_l, cat_a]) (fun p e s m args below meth c ls X hr hlk hnm S hl => ?_)
  have hl : lv_has ls 2 [(0, rv a0)] := by simpa [lv_args, cat_rv, cat_wv, cat_sv, cat_i, cat_l, cat_a] using hl
  generalize hH : s.heap = H at S ⊢
  generalize hlo : ([] : List Loc) = locs at S ⊢
  clear hH hlo
  unfold fX13_doProduct at hf
  obtain ⟨hth, hf⟩ := gd_some hf
  refine g_aload_n X (or_rv _) dX13_doProduct_0 rfl (lv_at hl 0 rfl) ?_
  refine g_aload_n X (or_rv _) dX13_doProduct_1 rfl (lv_at hl 0 rfl) ?_
  refine g_gI X S foX13_394 rfl dX13_doProduct_2 hf (fun v1 hf => ?_)
  refine g_aload_n X (or_rv _) dX13_doProduct_5 rfl (lv_at hl 0 rfl) ?_
  refine g_gI X S foX13_403 rfl dX13_doProduct_6 hf (fun v2 hf => ?_)
  obtain ⟨v3, hc, hf⟩ := ob_some hf
  refine g_ci S (runV (As := [.int v1, .int v2]) (rest := []) X S coX13_472 (by decide) (cX13_signAt_m l hc) (tkX13_signAt hc) rfl hl.1 (by decide) rfl ⟨Nat.zero_le _, Nat.zero_le _⟩ dX13_doProduct_9) (fun H locs S => ?_)
  obtain ⟨v4, hc, hf⟩ := ob_some hf
  refine g_ci S (runS (As := [.int v3]) (rest := []) X S coX13_475 (by decide) (cX13_isBelow_m l hc) rfl hl.1 (by decide) rfl ⟨Nat.zero_le _, Nat.zero_le _⟩ dX13_doProduct_12) (fun H locs S => ?_)
  refine g_aload_n X (or_rv _) dX13_doProduct_15 rfl (lv_at hl 0 rfl) ?_
  refine g_aload_n X (or_rv _) dX13_doProduct_16 rfl (lv_at hl 0 rfl) ?_
  refine g_gI X S foX13_397 rfl dX13_doProduct_17 hf (fun v5 hf => ?_)
  refine g_aload_n X (or_rv _) dX13_doProduct_20 rfl (lv_at hl 0 rfl) ?_
  refine g_gI X S foX13_406 rfl dX13_doProduct_21 hf (fun v6 hf => ?_)
  obtain ⟨v7, hc, hf⟩ := ob_some hf
  refine g_ci S (runV (As := [.int v5, .int v6]) (rest := [.int v4]) X S coX13_472 (by decide) (cX13_signAt_m l hc) (tkX13_signAt hc) rfl hl.1 (by simp [cat_rv, cat_wv, cat_sv, cat_i, cat_l, cat_a]) rfl ⟨Nat.zero_le _, Nat.zero_le _⟩ dX13_doProduct_24) (fun H locs S => ?_)
  obtain ⟨v8, hc, hf⟩ := ob_some hf
  refine g_ci S (runS (As := [.int v7]) (rest := [.int v4]) X S coX13_475 (by decide) (cX13_isBelow_m l hc) rfl hl.1 (by simp [cat_rv, cat_wv, cat_sv, cat_i, cat_l, cat_a]) rfl ⟨Nat.zero_le _, Nat.zero_le _⟩ dX13_doProduct_27) (fun H locs S => ?_)
  refine lv_icmp_eq (tgt := 37) X.1 X.2.1 dX13_doProduct_30 (by decide) (fun c9 => ?_) (fun c9 => ?_)
  · replace hf := (if_pos c9).symm.trans hf
    refine lv_iconst (v := 0) X.1 X.2.1 dX13_doProduct_37 (by decide) ?_
    exact wfX13_doProduct_38 X hr hlk hnm _ _ _ _ _ _ hl S hf
  · replace hf := (if_neg c9).symm.trans hf
    refine lv_iconst (v := 1) X.1 X.2.1 dX13_doProduct_33 (by decide) ?_
    refine lv_goto (tgt := 38) X.1 X.2.1 dX13_doProduct_34 (by decide) ?_
    exact wfX13_doProduct_38 X hr hlk hnm _ _ _ _ _ _ hl S hf
def fX13_quotient_22 (k15 : Nat → Int32 → Hp → Option (Hp)) (k22 : Nat → Int32 → Int32 → Hp → Option (Hp)) (x0 : Nat) (x1 : Int32) (x2 : Int32) (h : Hp) : Option (Hp) := if x2 ≤ 0 then lt (x1 + (-1)) fun z2 => k15 x0 z2 h else ob (gR 11 x0 32 h) fun v3 => ob (fX13_putDigit v3 x1 x2 h) fun h => ob (gR 11 x0 33 h) fun v5 => ob (gR 11 x0 32 h) fun v6 => ob (gR 11 x0 31 h) fun v7 => ob (fX13_product v5 v6 v7 h) fun h => ob (gR 11 x0 33 h) fun v9 => ob (gR 11 x0 30 h) fun v10 => ob (fX13_orderOf v9 v10 h) fun v11 => if 0 < v11 then ob (gR 11 x0 32 h) fun v13 => ob (fX13_putDigit v13 x1 (-x2) h) fun h => lt (x2 + (-1)) fun z15 => k22 x0 x1 z15 h else lt (x1 + (-1)) fun z16 => k15 x0 z16 h
theorem wfX13_quotient_22 {k15 : Nat → Int32 → Hp → Option (Hp)} {k22 : Nat → Int32 → Int32 → Hp → Option (Hp)} {h9 : Hp} (X : Cx p E A 11 R s m args c cX13_quotient yX13_quotient.cls 3) (hr : meth.sig.returnType = none) (hlk : meth.locks = false) (hnm : meth.name = yX13_quotient.name) (hk15 : ∀ (x0 : Nat) (x1 : Int32) (h : Hp) (H : Heap) (locs : List Loc) (ls : Array Slot), lv_has ls 3 [(0, rv x0), (1, .int x1)] → St E A s h H locs → k15 x0 x1 h = some h9 → W p l e R s m args below meth c H locs 0 0 (MQ below (Qv E A h9) args s 0 0 A) (F0 m 15 ls [])) (hk22 : ∀ (x0 : Nat) (x1 : Int32) (x2 : Int32) (h : Hp) (H : Heap) (locs : List Loc) (ls : Array Slot), lv_has ls 3 [(0, rv x0), (1, .int x1), (2, .int x2)] → St E A s h H locs → k22 x0 x1 x2 h = some h9 → W p l e R s m args below meth c H locs 0 0 (MQ below (Qv E A h9) args s 0 0 A) (F0 m 22 ls [])) :
    ∀ (x0 : Nat) (x1 : Int32) (x2 : Int32) (h : Hp) (H : Heap) (locs : List Loc) (ls : Array Slot), lv_has ls 3 [(0, rv x0), (1, .int x1), (2, .int x2)] → St E A s h H locs → fX13_quotient_22 k15 k22 x0 x1 x2 h = some h9 → W p l e R s m args below meth c H locs 0 0 (MQ below (Qv E A h9) args s 0 0 A) (F0 m 22 ls []) := by
  intro x0 x1 x2 h H locs ls hl S hf
  unfold fX13_quotient_22 at hf
  refine lv_iload_n X.1 X.2.1 dX13_quotient_22 rfl (lv_at hl 2 rfl) ?_
  refine lv_if_le (tgt := 83) X.1 X.2.1 dX13_quotient_23 (by decide) (fun c1 => ?_) (fun c1 => ?_)
  · replace hf := (if_pos c1).symm.trans hf
    obtain ⟨z2, ez2, hf⟩ := lt_some hf
    refine lv_iinc (v := z2) (lv' := [(1, .int z2), (0, rv x0), (2, .int x2)]) X.1 X.2.1 dX13_quotient_83 hl (k := 1) rfl (by rw [← ez2]; rfl) (by decide) (by simp [List.filter, cat_rv, cat_wv, cat_sv]) (fun ls hl => ?_)
    refine lv_goto (tgt := 15) X.1 X.2.1 dX13_quotient_86 (by decide) ?_
    exact hk15 _ _ _ _ _ _ (lv_sub hl [1, 0] rfl) S hf
  · replace hf := (if_neg c1).symm.trans hf
    refine g_aload_n X (or_rv _) dX13_quotient_26 rfl (lv_at hl 0 rfl) ?_
    refine g_gR X S foX13_133 dX13_quotient_27 hf (fun v3 hf => ?_)
    refine lv_iload_n X.1 X.2.1 dX13_quotient_30 rfl (lv_at hl 1 rfl) ?_
    refine lv_iload_n X.1 X.2.1 dX13_quotient_31 rfl (lv_at hl 2 rfl) ?_
    obtain ⟨h, hc, hf⟩ := ob_some hf
    refine g_cv S (runS (As := [rv v3, .int x1, .int x2]) (rest := []) X S coX13_377 (by decide) (cX13_putDigit_m l hc) rfl hl.1 (by decide) rfl ⟨Nat.zero_le _, Nat.zero_le _⟩ dX13_quotient_32) (fun H locs S => ?_)
    refine g_aload_n X (or_rv _) dX13_quotient_35 rfl (lv_at hl 0 rfl) ?_
    refine g_gR X S foX13_136 dX13_quotient_36 hf (fun v5 hf => ?_)
    refine g_aload_n X (or_rv _) dX13_quotient_39 rfl (lv_at hl 0 rfl) ?_
    refine g_gR X S foX13_133 dX13_quotient_40 hf (fun v6 hf => ?_)
    refine g_aload_n X (or_rv _) dX13_quotient_43 rfl (lv_at hl 0 rfl) ?_
    refine g_gR X S foX13_130 dX13_quotient_44 hf (fun v7 hf => ?_)
    obtain ⟨h, hc, hf⟩ := ob_some hf
    refine g_cv S (runS (As := [rv v5, rv v6, rv v7]) (rest := []) X S coX13_488 (by decide) (cX13_product_m l hc) rfl hl.1 (by decide) rfl ⟨Nat.zero_le _, Nat.zero_le _⟩ dX13_quotient_47) (fun H locs S => ?_)
    refine g_aload_n X (or_rv _) dX13_quotient_50 rfl (lv_at hl 0 rfl) ?_
    refine g_gR X S foX13_136 dX13_quotient_51 hf (fun v9 hf => ?_)
    refine g_aload_n X (or_rv _) dX13_quotient_54 rfl (lv_at hl 0 rfl) ?_
    refine g_gR X S foX13_126 dX13_quotient_55 hf (fun v10 hf => ?_)
    obtain ⟨v11, hc, hf⟩ := ob_some hf
    refine g_ci S (runS (As := [rv v9, rv v10]) (rest := []) X S coX13_465 (by decide) (cX13_orderOf_m l hc) rfl hl.1 (by decide) rfl ⟨Nat.zero_le _, Nat.zero_le _⟩ dX13_quotient_58) (fun H locs S => ?_)
    refine lv_if_gt (tgt := 67) X.1 X.2.1 dX13_quotient_61 (by decide) (fun c12 => ?_) (fun c12 => ?_)
    · replace hf := (if_pos c12).symm.trans hf
      refine g_aload_n X (or_rv _) dX13_quotient_67 rfl (lv_at hl 0 rfl) ?_
      refine g_gR X S foX13_133 dX13_quotient_68 hf (fun v13 hf => ?_)
      refine lv_iload_n X.1 X.2.1 dX13_quotient_71 rfl (lv_at hl 1 rfl) ?_
      refine lv_iload_n X.1 X.2.1 dX13_quotient_72 rfl (lv_at hl 2 rfl) ?_
      refine lv_ineg X.1 X.2.1 dX13_quotient_73 ?_
      obtain ⟨h, hc, hf⟩ := ob_some hf
      refine g_cv S (runS (As := [rv v13, .int x1, .int (-x2)]) (rest := []) X S coX13_377 (by decide) (cX13_putDigit_m l hc) rfl hl.1 (by decide) rfl ⟨Nat.zero_le _, Nat.zero_le _⟩ dX13_quotient_74) (fun H locs S => ?_)
      obtain ⟨z15, ez15, hf⟩ := lt_some hf
      refine lv_iinc (v := z15) (lv' := [(2, .int z15), (0, rv x0), (1, .int x1)]) X.1 X.2.1 dX13_quotient_77 hl (k := 2) rfl (by rw [← ez15]; rfl) (by decide) rfl (fun ls hl => ?_)
      refine lv_goto (tgt := 22) X.1 X.2.1 dX13_quotient_80 (by decide) ?_
      exact hk22 _ _ _ _ _ _ _ (lv_sub hl [1, 2, 0] rfl) S hf
    · replace hf := (if_neg c12).symm.trans hf
      refine lv_goto (tgt := 83) X.1 X.2.1 dX13_quotient_64 (by decide) ?_
      obtain ⟨z16, ez16, hf⟩ := lt_some hf
      refine lv_iinc (v := z16) (lv' := [(1, .int z16), (0, rv x0), (2, .int x2)]) X.1 X.2.1 dX13_quotient_83 hl (k := 1) rfl (by rw [← ez16]; rfl) (by decide) (by simp [List.filter, cat_rv, cat_wv, cat_sv]) (fun ls hl => ?_)
      refine lv_goto (tgt := 15) X.1 X.2.1 dX13_quotient_86 (by decide) ?_
      exact hk15 _ _ _ _ _ _ (lv_sub hl [1, 0] rfl) S hf
theorem wfX13_quotient_22_l {k15 : Nat → Int32 → Hp → Option (Hp)} {h9 : Hp} (X : Cx p E A 11 R s m args c cX13_quotient yX13_quotient.cls 3) (hr : meth.sig.returnType = none) (hlk : meth.locks = false) (hnm : meth.name = yX13_quotient.name) (hk15 : ∀ (x0 : Nat) (x1 : Int32) (h : Hp) (H : Heap) (locs : List Loc) (ls : Array Slot), lv_has ls 3 [(0, rv x0), (1, .int x1)] → St E A s h H locs → k15 x0 x1 h = some h9 → W p l e R s m args below meth c H locs 0 0 (MQ below (Qv E A h9) args s 0 0 A) (F0 m 15 ls [])) :
    ∀ (n : Nat) (x0 : Nat) (x1 : Int32) (x2 : Int32) (h : Hp) (H : Heap) (locs : List Loc) (ls : Array Slot), lv_has ls 3 [(0, rv x0), (1, .int x1), (2, .int x2)] → St E A s h H locs → lp (fun _ _ _ _ => none) (fX13_quotient_22 k15) n x0 x1 x2 h = some h9 → W p l e R s m args below meth c H locs 0 0 (MQ below (Qv E A h9) args s 0 0 A) (F0 m 22 ls []) := by
  intro n
  induction n with
  | zero =>
    intro x0 x1 x2 h H locs ls hl S hf
    exact nomatch hf
  | succ n ih =>
    intro x0 x1 x2 h H locs ls hl S hf
    exact wfX13_quotient_22 X hr hlk hnm hk15 ih x0 x1 x2 h H locs ls hl S hf
def fX13_quotient_15 (k15 : Nat → Int32 → Hp → Option (Hp)) (x0 : Nat) (x1 : Int32) (h : Hp) : Option (Hp) := if x1 < 0 then ob (gR 11 x0 33 h) fun v2 => ob (gR 11 x0 32 h) fun v3 => ob (gR 11 x0 31 h) fun v4 => ob (fX13_product v2 v3 v4 h) fun h => ob (gR 11 x0 33 h) fun v6 => ob (gR 11 x0 30 h) fun v7 => ob (gR 11 x0 33 h) fun v8 => ob (fX13_less v6 v7 v8 h) fun h => some h else lp (fun _ _ _ _ => none) (fX13_quotient_22 k15) FU x0 x1 9 h
theorem wfX13_quotient_15 {k15 : Nat → Int32 → Hp → Option (Hp)} {h9 : Hp} (X : Cx p E A 11 R s m args c cX13_quotient yX13_quotient.cls 3) (hr : meth.sig.returnType = none) (hlk : meth.locks = false) (hnm : meth.name = yX13_quotient.name) (hk15 : ∀ (x0 : Nat) (x1 : Int32) (h : Hp) (H : Heap) (locs : List Loc) (ls : Array Slot), lv_has ls 3 [(0, rv x0), (1, .int x1)] → St E A s h H locs → k15 x0 x1 h = some h9 → W p l e R s m args below meth c H locs 0 0 (MQ below (Qv E A h9) args s 0 0 A) (F0 m 15 ls [])) :
    ∀ (x0 : Nat) (x1 : Int32) (h : Hp) (H : Heap) (locs : List Loc) (ls : Array Slot), lv_has ls 3 [(0, rv x0), (1, .int x1)] → St E A s h H locs → fX13_quotient_15 k15 x0 x1 h = some h9 → W p l e R s m args below meth c H locs 0 0 (MQ below (Qv E A h9) args s 0 0 A) (F0 m 15 ls []) := by
  intro x0 x1 h H locs ls hl S hf
  unfold fX13_quotient_15 at hf
  refine lv_iload_n X.1 X.2.1 dX13_quotient_15 rfl (lv_at hl 1 rfl) ?_
  refine lv_if_lt (tgt := 89) X.1 X.2.1 dX13_quotient_16 (by decide) (fun c1 => ?_) (fun c1 => ?_)
  · replace hf := (if_pos c1).symm.trans hf
    refine g_aload_n X (or_rv _) dX13_quotient_89 rfl (lv_at hl 0 rfl) ?_
    refine g_gR X S foX13_136 dX13_quotient_90 hf (fun v2 hf => ?_)
    refine g_aload_n X (or_rv _) dX13_quotient_93 rfl (lv_at hl 0 rfl) ?_
    refine g_gR X S foX13_133 dX13_quotient_94 hf (fun v3 hf => ?_)
    refine g_aload_n X (or_rv _) dX13_quotient_97 rfl (lv_at hl 0 rfl) ?_
    refine g_gR X S foX13_130 dX13_quotient_98 hf (fun v4 hf => ?_)
    obtain ⟨h, hc, hf⟩ := ob_some hf
    refine g_cv S (runS (As := [rv v2, rv v3, rv v4]) (rest := []) X S coX13_488 (by decide) (cX13_product_m l hc) rfl hl.1 (by decide) rfl ⟨Nat.zero_le _, Nat.zero_le _⟩ dX13_quotient_101) (fun H locs S => ?_)
    refine g_aload_n X (or_rv _) dX13_quotient_104 rfl (lv_at hl 0 rfl) ?_
    refine g_gR X S foX13_136 dX13_quotient_105 hf (fun v6 hf => ?_)
    refine g_aload_n X (or_rv _) dX13_quotient_108 rfl (lv_at hl 0 rfl) ?_
    refine g_gR X S foX13_126 dX13_quotient_109 hf (fun v7 hf => ?_)
    refine g_aload_n X (or_rv _) dX13_quotient_112 rfl (lv_at hl 0 rfl) ?_
    refine g_gR X S foX13_136 dX13_quotient_113 hf (fun v8 hf => ?_)
    obtain ⟨h, hc, hf⟩ := ob_some hf
    refine g_cv S (runS (As := [rv v6, rv v7, rv v8]) (rest := []) X S coX13_469 (by decide) (cX13_less_m l hc) rfl hl.1 (by decide) rfl ⟨Nat.zero_le _, Nat.zero_le _⟩ dX13_quotient_116) (fun H locs S => ?_)
    cases hf; exact g_rv X S hr hlk dX13_quotient_119
  · replace hf := (if_neg c1).symm.trans hf
    refine lv_bipush (v := 9) X.1 X.2.1 dX13_quotient_19 (by decide) ?_
    refine lv_istore_n (i := 2) (lv' := [(2, .int 9), (0, rv x0), (1, .int x1)]) X.1 X.2.1 dX13_quotient_21 rfl hl (by decide) rfl (fun ls hl => ?_)
    exact wfX13_quotient_22_l X hr hlk hnm hk15 FU _ _ _ _ _ _ _ (lv_sub hl [1, 2, 0] rfl) S hf
theorem wfX13_quotient_15_l {h9 : Hp} (X : Cx p E A 11 R s m args c cX13_quotient yX13_quotient.cls 3) (hr : meth.sig.returnType = none) (hlk : meth.locks = false) (hnm : meth.name = yX13_quotient.name) :
    ∀ (n : Nat) (x0 : Nat) (x1 : Int32) (h : Hp) (H : Heap) (locs : List Loc) (ls : Array Slot), lv_has ls 3 [(0, rv x0), (1, .int x1)] → St E A s h H locs → lp (fun _ _ _ => none) (fX13_quotient_15) n x0 x1 h = some h9 → W p l e R s m args below meth c H locs 0 0 (MQ below (Qv E A h9) args s 0 0 A) (F0 m 15 ls []) := by
  intro n
  induction n with
  | zero =>
    intro x0 x1 h H locs ls hl S hf
    exact nomatch hf
  | succ n ih =>
    intro x0 x1 h H locs ls hl S hf
    exact wfX13_quotient_15 X hr hlk hnm ih x0 x1 h H locs ls hl S hf
def fX13_quotient (a0 : Nat) (h : Hp) : Option (Hp) := gd 11 a0 h (ob (gR 11 a0 32 h) fun v1 => ob (fX13_clear v1 h) fun h => ob (gR 11 a0 30 h) fun v3 => ob (fX13_digitsOf v3 h) fun v4 => lp (fun _ _ _ => none) (fX13_quotient_15) FU a0 v4 h)
theorem tkX13_quotient {a0 : Nat} {h : Hp} {r9 : Hp} (e : fX13_quotient a0 h = some r9) : hK h a0 = 11 := by
  unfold fX13_quotient at e
  exact (gd_some e).1
theorem cX13_quotient_m (l : Launch) {E : EE} {A : Nat → Prop} {a0 : Nat} {h : Hp} {h9 : Hp} (hf : fX13_quotient a0 h = some h9) : Met l yX13_quotient (wsM yX13_quotient cX13_quotient 3 none) (rmm 11 0 0) (PcE E A h [rv a0]) (Qv E A h9) 0 0 A := by
  refine met_of (by decide +kernel) (by simp [lg_sl, cat_rv, cat_wv, cat_sv, cat_i, cat_l, cat_a]) (fun p e s m args below meth c ls X hr hlk hnm S hl => ?_)
  have hl : lv_has ls 3 [(0, rv a0)] := by simpa [lv_args, cat_rv, cat_wv, cat_sv, cat_i, cat_l, cat_a] using hl
  generalize hH : s.heap = H at S ⊢
  generalize hlo : ([] : List Loc) = locs at S ⊢
  clear hH hlo
  unfold fX13_quotient at hf
  obtain ⟨hth, hf⟩ := gd_some hf
  refine g_aload_n X (or_rv _) dX13_quotient_0 rfl (lv_at hl 0 rfl) ?_
  refine g_gR X S foX13_133 dX13_quotient_1 hf (fun v1 hf => ?_)
  obtain ⟨h, hc, hf⟩ := ob_some hf
  refine g_cv S (runS (As := [rv v1]) (rest := []) X S coX13_370 (by decide) (cX13_clear_m l hc) rfl hl.1 (by decide) rfl ⟨Nat.zero_le _, Nat.zero_le _⟩ dX13_quotient_4) (fun H locs S => ?_)
  refine g_aload_n X (or_rv _) dX13_quotient_7 rfl (lv_at hl 0 rfl) ?_
  refine g_gR X S foX13_126 dX13_quotient_8 hf (fun v3 hf => ?_)
  obtain ⟨v4, hc, hf⟩ := ob_some hf
  refine g_ci S (runS (As := [rv v3]) (rest := []) X S coX13_384 (by decide) (cX13_digitsOf_m l hc) rfl hl.1 (by decide) rfl ⟨Nat.zero_le _, Nat.zero_le _⟩ dX13_quotient_11) (fun H locs S => ?_)
  refine lv_istore_n (i := 1) (lv' := [(1, .int v4), (0, rv a0)]) X.1 X.2.1 dX13_quotient_14 rfl hl (by decide) (by simp [List.filter, cat_rv, cat_wv, cat_sv]) (fun ls hl => ?_)
  exact wfX13_quotient_15_l X hr hlk hnm FU _ _ _ _ _ _ (lv_sub hl [1, 0] rfl) S hf
def fX13_doQuotient_125 (x0 : Nat) (x1 : Int32) (y0 : Int32) (h : Hp) : Option (Hp) := ob (gI 11 x0 34 h) fun v1 => ob (gI 11 x0 35 h) fun v2 => ob (gI 11 x0 37 h) fun v3 => ob (gR 11 x0 32 h) fun v4 => ob (fX13_store x0 v1 (v2 - v3) v4 y0 h) fun h => ob (gI 11 x0 34 h) fun v6 => ob (gI 11 x0 35 h) fun v7 => ob (gI 11 x0 37 h) fun v8 => ob (gI 11 x0 37 h) fun v9 => ob (gR 11 x0 33 h) fun v10 => ob (fX13_store x0 ((v6 + v7) - v8) v9 v10 x1 h) fun h => some h
theorem wfX13_doQuotient_125 {h9 : Hp} (X : Cx p E A 12 R s m args c cX13_doQuotient yX13_doQuotient.cls 3) (hr : meth.sig.returnType = none) (hlk : meth.locks = false) (hnm : meth.name = yX13_doQuotient.name) :
    ∀ (x0 : Nat) (x1 : Int32) (y0 : Int32) (h : Hp) (H : Heap) (locs : List Loc) (ls : Array Slot), lv_has ls 3 [(0, rv x0), (1, .int x1)] → St E A s h H locs → fX13_doQuotient_125 x0 x1 y0 h = some h9 → W p l e R s m args below meth c H locs 0 0 (MQ below (Qv E A h9) args s 0 0 A) (F0 m 125 ls [.int y0]) := by
  intro x0 x1 y0 h H locs ls hl S hf
  unfold fX13_doQuotient_125 at hf
  refine lv_istore_n (i := 2) (lv' := [(2, .int y0), (0, rv x0), (1, .int x1)]) X.1 X.2.1 dX13_doQuotient_125 rfl hl (by decide) rfl (fun ls hl => ?_)
  refine g_aload_n X (or_rv _) dX13_doQuotient_126 rfl (lv_at hl 1 rfl) ?_
  refine g_aload_n X (or_rv _) dX13_doQuotient_127 rfl (lv_at hl 1 rfl) ?_
  refine g_gI X S foX13_394 rfl dX13_doQuotient_128 hf (fun v1 hf => ?_)
  refine g_aload_n X (or_rv _) dX13_doQuotient_131 rfl (lv_at hl 1 rfl) ?_
  refine g_gI X S foX13_403 rfl dX13_doQuotient_132 hf (fun v2 hf => ?_)
  refine g_aload_n X (or_rv _) dX13_doQuotient_135 rfl (lv_at hl 1 rfl) ?_
  refine g_gI X S foX13_406 rfl dX13_doQuotient_136 hf (fun v3 hf => ?_)
  refine lv_isub X.1 X.2.1 dX13_doQuotient_139 ?_
  refine g_aload_n X (or_rv _) dX13_doQuotient_140 rfl (lv_at hl 1 rfl) ?_
  refine g_gR X S foX13_133 dX13_doQuotient_141 hf (fun v4 hf => ?_)
  refine lv_iload_n X.1 X.2.1 dX13_doQuotient_144 rfl (lv_at hl 0 rfl) ?_
  obtain ⟨h, hc, hf⟩ := ob_some hf
  refine g_cv S (runV (As := [.int v1, .int (v2 - v3), rv v4, .int y0]) (rest := []) X S coX13_457 (by decide) (cX13_store_m l hc) (tkX13_store hc) rfl hl.1 (by decide) rfl ⟨Nat.zero_le _, Nat.zero_le _⟩ dX13_doQuotient_145) (fun H locs S => ?_)
  refine g_aload_n X (or_rv _) dX13_doQuotient_148 rfl (lv_at hl 1 rfl) ?_
  refine g_aload_n X (or_rv _) dX13_doQuotient_149 rfl (lv_at hl 1 rfl) ?_
  refine g_gI X S foX13_394 rfl dX13_doQuotient_150 hf (fun v6 hf => ?_)
  refine g_aload_n X (or_rv _) dX13_doQuotient_153 rfl (lv_at hl 1 rfl) ?_
  refine g_gI X S foX13_403 rfl dX13_doQuotient_154 hf (fun v7 hf => ?_)
  refine lv_iadd X.1 X.2.1 dX13_doQuotient_157 ?_
  refine g_aload_n X (or_rv _) dX13_doQuotient_158 rfl (lv_at hl 1 rfl) ?_
  refine g_gI X S foX13_406 rfl dX13_doQuotient_159 hf (fun v8 hf => ?_)
  refine lv_isub X.1 X.2.1 dX13_doQuotient_162 ?_
  refine g_aload_n X (or_rv _) dX13_doQuotient_163 rfl (lv_at hl 1 rfl) ?_
  refine g_gI X S foX13_406 rfl dX13_doQuotient_164 hf (fun v9 hf => ?_)
  refine g_aload_n X (or_rv _) dX13_doQuotient_167 rfl (lv_at hl 1 rfl) ?_
  refine g_gR X S foX13_136 dX13_doQuotient_168 hf (fun v10 hf => ?_)
  refine lv_iload_n X.1 X.2.1 dX13_doQuotient_171 rfl (lv_at hl 2 rfl) ?_
  obtain ⟨h, hc, hf⟩ := ob_some hf
  refine g_cv S (runV (As := [.int ((v6 + v7) - v8), .int v9, rv v10, .int x1]) (rest := []) X S coX13_457 (by decide) (cX13_store_m l hc) (tkX13_store hc) rfl hl.1 (by decide) rfl ⟨Nat.zero_le _, Nat.zero_le _⟩ dX13_doQuotient_172) (fun H locs S => ?_)
  cases hf; exact g_rv X S hr hlk dX13_doQuotient_175
def fX13_doQuotient (a0 : Nat) (h : Hp) : Option (Hp) := gd 11 a0 h (ob (gR 11 a0 30 h) fun v1 => ob (gI 11 a0 34 h) fun v2 => ob (gI 11 a0 35 h) fun v3 => ob (fX13_load a0 v1 v2 v3 h) fun h => ob (gR 11 a0 31 h) fun v5 => ob (gI 11 a0 36 h) fun v6 => ob (gI 11 a0 37 h) fun v7 => ob (fX13_load a0 v5 v6 v7 h) fun h => ob (gR 11 a0 31 h) fun v9 => ob (fX13_isNothing v9 h) fun v10 => if v10 = 0 then ob (fX13_quotient a0 h) fun h => ob (gR 11 a0 32 h) fun v13 => ob (fX13_digitsOf v13 h) fun v14 => ob (gI 11 a0 35 h) fun v15 => ob (gI 11 a0 37 h) fun v16 => if v14 ≤ ((2 * (v15 - v16)) - 1) then ob (gI 11 a0 34 h) fun v18 => ob (gI 11 a0 35 h) fun v19 => ob (fX13_signAt a0 v18 v19 h) fun v20 => ob (fX13_isBelow v20) fun v21 => ob (gI 11 a0 36 h) fun v22 => ob (gI 11 a0 37 h) fun v23 => ob (fX13_signAt a0 v22 v23 h) fun v24 => ob (fX13_isBelow v24) fun v25 => if v21 = v25 then fX13_doQuotient_125 a0 v21 0 h else fX13_doQuotient_125 a0 v21 1 h else ob (fX13_raise a0 7 0 h) fun h => some h else ob (fX13_raise a0 7 0 h) fun h => some h)
theorem tkX13_doQuotient {a0 : Nat} {h : Hp} {r9 : Hp} (e : fX13_doQuotient a0 h = some r9) : hK h a0 = 11 := by
  unfold fX13_doQuotient at e
  exact (gd_some e).1
theorem cX13_doQuotient_m (l : Launch) {E : EE} {A : Nat → Prop} {a0 : Nat} {h : Hp} {h9 : Hp} (hf : fX13_doQuotient a0 h = some h9) : Met l yX13_doQuotient (wsM yX13_doQuotient cX13_doQuotient 3 none) (rmm 12 0 0) (PcE E A h [rv a0]) (Qv E A h9) 0 0 A := by
  refine met_of (by decide +kernel) (by simp [lg_sl, cat_rv, cat_wv, cat_sv, cat_i, cat_l, cat_a]) (fun p e s m args below meth c ls X hr hlk hnm S hl => ?_)
  have hl : lv_has ls 3 [(0, rv a0)] := by simpa [lv_args, cat_rv, cat_wv, cat_sv, cat_i, cat_l, cat_a] using hl
  generalize hH : s.heap = H at S ⊢
  generalize hlo : ([] : List Loc) = locs at S ⊢
  clear hH hlo
  unfold fX13_doQuotient at hf
  obtain ⟨hth, hf⟩ := gd_some hf
  refine g_aload_n X (or_rv _) dX13_doQuotient_0 rfl (lv_at hl 0 rfl) ?_
  refine g_aload_n X (or_rv _) dX13_doQuotient_1 rfl (lv_at hl 0 rfl) ?_
  refine g_gR X S foX13_126 dX13_doQuotient_2 hf (fun v1 hf => ?_)
  refine g_aload_n X (or_rv _) dX13_doQuotient_5 rfl (lv_at hl 0 rfl) ?_
  refine g_gI X S foX13_394 rfl dX13_doQuotient_6 hf (fun v2 hf => ?_)
  refine g_aload_n X (or_rv _) dX13_doQuotient_9 rfl (lv_at hl 0 rfl) ?_
  refine g_gI X S foX13_403 rfl dX13_doQuotient_10 hf (fun v3 hf => ?_)
  obtain ⟨h, hc, hf⟩ := ob_some hf
  refine g_cv S (runV (As := [rv v1, .int v2, .int v3]) (rest := []) X S coX13_478 (by decide) (cX13_load_m l hc) (tkX13_load hc) rfl hl.1 (by decide) rfl ⟨Nat.zero_le _, Nat.zero_le _⟩ dX13_doQuotient_13) (fun H locs S => ?_)
  refine g_aload_n X (or_rv _) dX13_doQuotient_16 rfl (lv_at hl 0 rfl) ?_
  refine g_aload_n X (or_rv _) dX13_doQuotient_17 rfl (lv_at hl 0 rfl) ?_
  refine g_gR X S foX13_130 dX13_doQuotient_18 hf (fun v5 hf => ?_)
  refine g_aload_n X (or_rv _) dX13_doQuotient_21 rfl (lv_at hl 0 rfl) ?_
  refine g_gI X S foX13_397 rfl dX13_doQuotient_22 hf (fun v6 hf => ?_)
  refine g_aload_n X (or_rv _) dX13_doQuotient_25 rfl (lv_at hl 0 rfl) ?_
  refine g_gI X S foX13_406 rfl dX13_doQuotient_26 hf (fun v7 hf => ?_)
  obtain ⟨h, hc, hf⟩ := ob_some hf
  refine g_cv S (runV (As := [rv v5, .int v6, .int v7]) (rest := []) X S coX13_478 (by decide) (cX13_load_m l hc) (tkX13_load hc) rfl hl.1 (by decide) rfl ⟨Nat.zero_le _, Nat.zero_le _⟩ dX13_doQuotient_29) (fun H locs S => ?_)
  refine g_aload_n X (or_rv _) dX13_doQuotient_32 rfl (lv_at hl 0 rfl) ?_
  refine g_gR X S foX13_130 dX13_doQuotient_33 hf (fun v9 hf => ?_)
  obtain ⟨v10, hc, hf⟩ := ob_some hf
  refine g_ci S (runS (As := [rv v9]) (rest := []) X S coX13_453 (by decide) (cX13_isNothing_m l hc) rfl hl.1 (by decide) rfl ⟨Nat.zero_le _, Nat.zero_le _⟩ dX13_doQuotient_36) (fun H locs S => ?_)
  refine lv_if_eq (tgt := 50) X.1 X.2.1 dX13_doQuotient_39 (by decide) (fun c11 => ?_) (fun c11 => ?_)
  · replace hf := (if_pos c11).symm.trans hf
    refine g_aload_n X (or_rv _) dX13_doQuotient_50 rfl (lv_at hl 0 rfl) ?_
    obtain ⟨h, hc, hf⟩ := ob_some hf
    refine g_cv S (runV (As := []) (rest := []) X S coX13_491 (by decide) (cX13_quotient_m l hc) (tkX13_quotient hc) rfl hl.1 (by decide) rfl ⟨Nat.zero_le _, Nat.zero_le _⟩ dX13_doQuotient_51) (fun H locs S => ?_)
    refine g_aload_n X (or_rv _) dX13_doQuotient_54 rfl (lv_at hl 0 rfl) ?_
    refine g_gR X S foX13_133 dX13_doQuotient_55 hf (fun v13 hf => ?_)
    obtain ⟨v14, hc, hf⟩ := ob_some hf
    refine g_ci S (runS (As := [rv v13]) (rest := []) X S coX13_384 (by decide) (cX13_digitsOf_m l hc) rfl hl.1 (by decide) rfl ⟨Nat.zero_le _, Nat.zero_le _⟩ dX13_doQuotient_58) (fun H locs S => ?_)
    refine lv_iconst (v := 2) X.1 X.2.1 dX13_doQuotient_61 (by decide) ?_
    refine g_aload_n X (or_rv _) dX13_doQuotient_62 rfl (lv_at hl 0 rfl) ?_
    refine g_gI X S foX13_403 rfl dX13_doQuotient_63 hf (fun v15 hf => ?_)
    refine g_aload_n X (or_rv _) dX13_doQuotient_66 rfl (lv_at hl 0 rfl) ?_
    refine g_gI X S foX13_406 rfl dX13_doQuotient_67 hf (fun v16 hf => ?_)
    refine lv_isub X.1 X.2.1 dX13_doQuotient_70 ?_
    refine lv_imul X.1 X.2.1 dX13_doQuotient_71 ?_
    refine lv_iconst (v := 1) X.1 X.2.1 dX13_doQuotient_72 (by decide) ?_
    refine lv_isub X.1 X.2.1 dX13_doQuotient_73 ?_
    refine lv_icmp_le (tgt := 85) X.1 X.2.1 dX13_doQuotient_74 (by decide) (fun c17 => ?_) (fun c17 => ?_)
    · replace hf := (if_pos c17).symm.trans hf
      refine g_aload_n X (or_rv _) dX13_doQuotient_85 rfl (lv_at hl 0 rfl) ?_
      refine g_aload_n X (or_rv _) dX13_doQuotient_86 rfl (lv_at hl 0 rfl) ?_
      refine g_gI X S foX13_394 rfl dX13_doQuotient_87 hf (fun v18 hf => ?_)
      refine g_aload_n X (or_rv _) dX13_doQuotient_90 rfl (lv_at hl 0 rfl) ?_
      refine g_gI X S foX13_403 rfl dX13_doQuotient_91 hf (fun v19 hf => ?_)
      obtain ⟨v20, hc, hf⟩ := ob_some hf
      refine g_ci S (runV (As := [.int v18, .int v19]) (rest := []) X S coX13_472 (by decide) (cX13_signAt_m l hc) (tkX13_signAt hc) rfl hl.1 (by decide) rfl ⟨Nat.zero_le _, Nat.zero_le _⟩ dX13_doQuotient_94) (fun H locs S => ?_)
      obtain ⟨v21, hc, hf⟩ := ob_some hf
      refine g_ci S (runS (As := [.int v20]) (rest := []) X S coX13_475 (by decide) (cX13_isBelow_m l hc) rfl hl.1 (by decide) rfl ⟨Nat.zero_le _, Nat.zero_le _⟩ dX13_doQuotient_97) (fun H locs S => ?_)
      refine lv_istore_n (i := 1) (lv' := [(1, .int v21), (0, rv a0)]) X.1 X.2.1 dX13_doQuotient_100 rfl hl (by decide) (by simp [List.filter, cat_rv, cat_wv, cat_sv]) (fun ls hl => ?_)
      refine lv_iload_n X.1 X.2.1 dX13_doQuotient_101 rfl (lv_at hl 0 rfl) ?_
      refine g_aload_n X (or_rv _) dX13_doQuotient_102 rfl (lv_at hl 1 rfl) ?_
      refine g_aload_n X (or_rv _) dX13_doQuotient_103 rfl (lv_at hl 1 rfl) ?_
      refine g_gI X S foX13_397 rfl dX13_doQuotient_104 hf (fun v22 hf => ?_)
      refine g_aload_n X (or_rv _) dX13_doQuotient_107 rfl (lv_at hl 1 rfl) ?_
      refine g_gI X S foX13_406 rfl dX13_doQuotient_108 hf (fun v23 hf => ?_)
      obtain ⟨v24, hc, hf⟩ := ob_some hf
      refine g_ci S (runV (As := [.int v22, .int v23]) (rest := [.int v21]) X S coX13_472 (by decide) (cX13_signAt_m l hc) (tkX13_signAt hc) rfl hl.1 (by simp [cat_rv, cat_wv, cat_sv, cat_i, cat_l, cat_a]) rfl ⟨Nat.zero_le _, Nat.zero_le _⟩ dX13_doQuotient_111) (fun H locs S => ?_)
      obtain ⟨v25, hc, hf⟩ := ob_some hf
      refine g_ci S (runS (As := [.int v24]) (rest := [.int v21]) X S coX13_475 (by decide) (cX13_isBelow_m l hc) rfl hl.1 (by simp [cat_rv, cat_wv, cat_sv, cat_i, cat_l, cat_a]) rfl ⟨Nat.zero_le _, Nat.zero_le _⟩ dX13_doQuotient_114) (fun H locs S => ?_)
      refine lv_icmp_eq (tgt := 124) X.1 X.2.1 dX13_doQuotient_117 (by decide) (fun c26 => ?_) (fun c26 => ?_)
      · replace hf := (if_pos c26).symm.trans hf
        refine lv_iconst (v := 0) X.1 X.2.1 dX13_doQuotient_124 (by decide) ?_
        exact wfX13_doQuotient_125 X hr hlk hnm _ _ _ _ _ _ _ (lv_sub hl [1, 0] rfl) S hf
      · replace hf := (if_neg c26).symm.trans hf
        refine lv_iconst (v := 1) X.1 X.2.1 dX13_doQuotient_120 (by decide) ?_
        refine lv_goto (tgt := 125) X.1 X.2.1 dX13_doQuotient_121 (by decide) ?_
        exact wfX13_doQuotient_125 X hr hlk hnm _ _ _ _ _ _ _ (lv_sub hl [1, 0] rfl) S hf
    · replace hf := (if_neg c17).symm.trans hf
      refine g_aload_n X (or_rv _) dX13_doQuotient_77 rfl (lv_at hl 0 rfl) ?_
      refine lv_bipush (v := 7) X.1 X.2.1 dX13_doQuotient_78 (by decide) ?_
      refine lv_iconst (v := 0) X.1 X.2.1 dX13_doQuotient_80 (by decide) ?_
      obtain ⟨h, hc, hf⟩ := ob_some hf
      refine g_cv S (runV (As := [.int 7, .int 0]) (rest := []) X S coX13_415 (by decide) (cX13_raise_m l hc) (tkX13_raise hc) rfl hl.1 (by decide) rfl ⟨Nat.zero_le _, Nat.zero_le _⟩ dX13_doQuotient_81) (fun H locs S => ?_)
      cases hf; exact g_rv X S hr hlk dX13_doQuotient_84
  · replace hf := (if_neg c11).symm.trans hf
    refine g_aload_n X (or_rv _) dX13_doQuotient_42 rfl (lv_at hl 0 rfl) ?_
    refine lv_bipush (v := 7) X.1 X.2.1 dX13_doQuotient_43 (by decide) ?_
    refine lv_iconst (v := 0) X.1 X.2.1 dX13_doQuotient_45 (by decide) ?_
    obtain ⟨h, hc, hf⟩ := ob_some hf
    refine g_cv S (runV (As := [.int 7, .int 0]) (rest := []) X S coX13_415 (by decide) (cX13_raise_m l hc) (tkX13_raise hc) rfl hl.1 (by decide) rfl ⟨Nat.zero_le _, Nat.zero_le _⟩ dX13_doQuotient_46) (fun H locs S => ?_)
    cases hf; exact g_rv X S hr hlk dX13_doQuotient_49
def fX13_doShift_125 (k126 : Nat → Int32 → Hp → Option (Hp)) (x0 : Nat) (x3 : Int32) (y0 : Int64) (y1 : Int32) (y2 : Nat) (h : Hp) : Option (Hp) := ob (qL y2 y1 y0 h) fun h => k126 x0 x3 h
theorem wfX13_doShift_125 {k126 : Nat → Int32 → Hp → Option (Hp)} {h9 : Hp} (X : Cx p E A 13 R s m args c cX13_doShift yX13_doShift.cls 5) (hr : meth.sig.returnType = none) (hlk : meth.locks = false) (hnm : meth.name = yX13_doShift.name) (hk126 : ∀ (x0 : Nat) (x3 : Int32) (h : Hp) (H : Heap) (locs : List Loc) (ls : Array Slot), lv_has ls 5 [(0, rv x0), (3, .int x3)] → St E A s h H locs → k126 x0 x3 h = some h9 → W p l e R s m args below meth c H locs 0 0 (MQ below (Qv E A h9) args s 0 0 A) (F0 m 126 ls [])) :
    ∀ (x0 : Nat) (x3 : Int32) (y0 : Int64) (y1 : Int32) (y2 : Nat) (h : Hp) (H : Heap) (locs : List Loc) (ls : Array Slot), lv_has ls 5 [(0, rv x0), (3, .int x3)] → St E A s h H locs → fX13_doShift_125 k126 x0 x3 y0 y1 y2 h = some h9 → W p l e R s m args below meth c H locs 0 0 (MQ below (Qv E A h9) args s 0 0 A) (F0 m 125 ls [.long y0, .int y1, rv y2]) := by
  intro x0 x3 y0 y1 y2 h H locs ls hl S hf
  unfold fX13_doShift_125 at hf
  refine g_qL X S dX13_doShift_125 hf (fun h H locs hm hf S => ?_)
  exact hk126 _ _ _ _ _ _ hl S hf
def fX13_doShift_126 (x0 : Nat) (x3 : Int32) (h : Hp) : Option (Hp) := ob (gR 11 x0 32 h) fun v1 => ob (gR 11 x0 32 h) fun v2 => ob (gR 11 x0 31 h) fun v3 => ob (fX13_sum v1 v2 v3 h) fun h => ob (gR 11 x0 32 h) fun v5 => ob (fX13_finish x0 v5 x3 h) fun h => some h
theorem wfX13_doShift_126 {h9 : Hp} (X : Cx p E A 13 R s m args c cX13_doShift yX13_doShift.cls 5) (hr : meth.sig.returnType = none) (hlk : meth.locks = false) (hnm : meth.name = yX13_doShift.name) :
    ∀ (x0 : Nat) (x3 : Int32) (h : Hp) (H : Heap) (locs : List Loc) (ls : Array Slot), lv_has ls 5 [(0, rv x0), (3, .int x3)] → St E A s h H locs → fX13_doShift_126 x0 x3 h = some h9 → W p l e R s m args below meth c H locs 0 0 (MQ below (Qv E A h9) args s 0 0 A) (F0 m 126 ls []) := by
  intro x0 x3 h H locs ls hl S hf
  unfold fX13_doShift_126 at hf
  refine g_aload_n X (or_rv _) dX13_doShift_126 rfl (lv_at hl 0 rfl) ?_
  refine g_gR X S foX13_133 dX13_doShift_127 hf (fun v1 hf => ?_)
  refine g_aload_n X (or_rv _) dX13_doShift_130 rfl (lv_at hl 0 rfl) ?_
  refine g_gR X S foX13_133 dX13_doShift_131 hf (fun v2 hf => ?_)
  refine g_aload_n X (or_rv _) dX13_doShift_134 rfl (lv_at hl 0 rfl) ?_
  refine g_gR X S foX13_130 dX13_doShift_135 hf (fun v3 hf => ?_)
  obtain ⟨h, hc, hf⟩ := ob_some hf
  refine g_cv S (runS (As := [rv v1, rv v2, rv v3]) (rest := []) X S coX13_461 (by decide) (cX13_sum_m l hc) rfl hl.1 (by decide) rfl ⟨Nat.zero_le _, Nat.zero_le _⟩ dX13_doShift_138) (fun H locs S => ?_)
  refine g_aload_n X (or_rv _) dX13_doShift_141 rfl (lv_at hl 0 rfl) ?_
  refine g_aload_n X (or_rv _) dX13_doShift_142 rfl (lv_at hl 0 rfl) ?_
  refine g_gR X S foX13_133 dX13_doShift_143 hf (fun v5 hf => ?_)
  refine lv_iload_n X.1 X.2.1 dX13_doShift_146 rfl (lv_at hl 1 rfl) ?_
  obtain ⟨h, hc, hf⟩ := ob_some hf
  refine g_cv S (runV (As := [rv v5, .int x3]) (rest := []) X S coX13_480 (by decide) (cX13_finish_m l hc) (tkX13_finish hc) rfl hl.1 (by decide) rfl ⟨Nat.zero_le _, Nat.zero_le _⟩ dX13_doShift_147) (fun H locs S => ?_)
  cases hf; exact g_rv X S hr hlk dX13_doShift_150
def fX13_doShift_54 (k54 : Nat → Int32 → Int32 → Int32 → Int32 → Hp → Option (Hp)) (x0 : Nat) (x1 : Int32) (x2 : Int32) (x3 : Int32) (x4 : Int32) (h : Hp) : Option (Hp) := ob (gI 11 x0 35 h) fun v1 => if ((2 * v1) - 1) ≤ x4 then if 0 ≤ x1 then fX13_doShift_126 x0 x3 h else ob (gR 11 x0 31 h) fun v4 => ob (gR 11 x0 30 h) fun v5 => ob (fX13_digitOf v5 ((-x1) - 1) h) fun v6 => if (v6 + x2) ≤ 9 then fX13_doShift_125 fX13_doShift_126 x0 x3 0 0 v4 h else fX13_doShift_125 fX13_doShift_126 x0 x3 1 0 v4 h else ob (gR 11 x0 32 h) fun v8 => ob (gR 11 x0 30 h) fun v9 => ob (fX13_digitOf v9 x4 h) fun v10 => ob (fX13_putDigit v8 (x4 + x1) v10 h) fun h => lt (x4 + 1) fun z12 => k54 x0 x1 x2 x3 z12 h
theorem wfX13_doShift_54 {k54 : Nat → Int32 → Int32 → Int32 → Int32 → Hp → Option (Hp)} {h9 : Hp} (X : Cx p E A 13 R s m args c cX13_doShift yX13_doShift.cls 5) (hr : meth.sig.returnType = none) (hlk : meth.locks = false) (hnm : meth.name = yX13_doShift.name) (hk54 : ∀ (x0 : Nat) (x1 : Int32) (x2 : Int32) (x3 : Int32) (x4 : Int32) (h : Hp) (H : Heap) (locs : List Loc) (ls : Array Slot), lv_has ls 5 [(0, rv x0), (1, .int x1), (2, .int x2), (3, .int x3), (4, .int x4)] → St E A s h H locs → k54 x0 x1 x2 x3 x4 h = some h9 → W p l e R s m args below meth c H locs 0 0 (MQ below (Qv E A h9) args s 0 0 A) (F0 m 54 ls [])) :
    ∀ (x0 : Nat) (x1 : Int32) (x2 : Int32) (x3 : Int32) (x4 : Int32) (h : Hp) (H : Heap) (locs : List Loc) (ls : Array Slot), lv_has ls 5 [(0, rv x0), (1, .int x1), (2, .int x2), (3, .int x3), (4, .int x4)] → St E A s h H locs → fX13_doShift_54 k54 x0 x1 x2 x3 x4 h = some h9 → W p l e R s m args below meth c H locs 0 0 (MQ below (Qv E A h9) args s 0 0 A) (F0 m 54 ls []) := by
  intro x0 x1 x2 x3 x4 h H locs ls hl S hf
  unfold fX13_doShift_54 at hf
  refine lv_iload X.1 X.2.1 dX13_doShift_54 (lv_at hl 4 rfl) ?_
  refine lv_iconst (v := 2) X.1 X.2.1 dX13_doShift_56 (by decide) ?_
  refine g_aload_n X (or_rv _) dX13_doShift_57 rfl (lv_at hl 0 rfl) ?_
  refine g_gI X S foX13_403 rfl dX13_doShift_58 hf (fun v1 hf => ?_)
  refine lv_imul X.1 X.2.1 dX13_doShift_61 ?_
  refine lv_iconst (v := 1) X.1 X.2.1 dX13_doShift_62 (by decide) ?_
  refine lv_isub X.1 X.2.1 dX13_doShift_63 ?_
  refine lv_icmp_ge (tgt := 93) X.1 X.2.1 dX13_doShift_64 (by decide) (fun c2 => ?_) (fun c2 => ?_)
  · replace hf := (if_pos c2).symm.trans hf
    refine lv_iload_n X.1 X.2.1 dX13_doShift_93 rfl (lv_at hl 1 rfl) ?_
    refine lv_if_ge (tgt := 126) X.1 X.2.1 dX13_doShift_94 (by decide) (fun c3 => ?_) (fun c3 => ?_)
    · replace hf := (if_pos c3).symm.trans hf
      exact wfX13_doShift_126 X hr hlk hnm _ _ _ _ _ _ (lv_sub hl [0, 3] rfl) S hf
    · replace hf := (if_neg c3).symm.trans hf
      refine g_aload_n X (or_rv _) dX13_doShift_97 rfl (lv_at hl 0 rfl) ?_
      refine g_gR X S foX13_130 dX13_doShift_98 hf (fun v4 hf => ?_)
      refine lv_iconst (v := 0) X.1 X.2.1 dX13_doShift_101 (by decide) ?_
      refine g_aload_n X (or_rv _) dX13_doShift_102 rfl (lv_at hl 0 rfl) ?_
      refine g_gR X S foX13_126 dX13_doShift_103 hf (fun v5 hf => ?_)
      refine lv_iload_n X.1 X.2.1 dX13_doShift_106 rfl (lv_at hl 1 rfl) ?_
      refine lv_ineg X.1 X.2.1 dX13_doShift_107 ?_
      refine lv_iconst (v := 1) X.1 X.2.1 dX13_doShift_108 (by decide) ?_
      refine lv_isub X.1 X.2.1 dX13_doShift_109 ?_
      obtain ⟨v6, hc, hf⟩ := ob_some hf
      refine g_ci S (runS (As := [rv v5, .int ((-x1) - 1)]) (rest := [.int 0, rv v4]) X S coX13_364 (by decide) (cX13_digitOf_m l hc) rfl hl.1 (by simp [cat_rv, cat_wv, cat_sv, cat_i, cat_l, cat_a]) rfl ⟨Nat.zero_le _, Nat.zero_le _⟩ dX13_doShift_110) (fun H locs S => ?_)
      refine lv_iload_n X.1 X.2.1 dX13_doShift_113 rfl (lv_at hl 2 rfl) ?_
      refine lv_iadd X.1 X.2.1 dX13_doShift_114 ?_
      refine lv_bipush (v := 9) X.1 X.2.1 dX13_doShift_115 (by decide) ?_
      refine lv_icmp_le (tgt := 124) X.1 X.2.1 dX13_doShift_117 (by decide) (fun c7 => ?_) (fun c7 => ?_)
      · replace hf := (if_pos c7).symm.trans hf
        refine lv_lconst (v := 0) X.1 X.2.1 dX13_doShift_124 (by decide) ?_
        exact wfX13_doShift_125 X hr hlk hnm (wfX13_doShift_126 X hr hlk hnm) _ _ _ _ _ _ _ _ _ (lv_sub hl [0, 3] rfl) S hf
      · replace hf := (if_neg c7).symm.trans hf
        refine lv_lconst (v := 1) X.1 X.2.1 dX13_doShift_120 (by decide) ?_
        refine lv_goto (tgt := 125) X.1 X.2.1 dX13_doShift_121 (by decide) ?_
        exact wfX13_doShift_125 X hr hlk hnm (wfX13_doShift_126 X hr hlk hnm) _ _ _ _ _ _ _ _ _ (lv_sub hl [0, 3] rfl) S hf
  · replace hf := (if_neg c2).symm.trans hf
    refine g_aload_n X (or_rv _) dX13_doShift_67 rfl (lv_at hl 0 rfl) ?_
    refine g_gR X S foX13_133 dX13_doShift_68 hf (fun v8 hf => ?_)
    refine lv_iload X.1 X.2.1 dX13_doShift_71 (lv_at hl 4 rfl) ?_
    refine lv_iload_n X.1 X.2.1 dX13_doShift_73 rfl (lv_at hl 1 rfl) ?_
    refine lv_iadd X.1 X.2.1 dX13_doShift_74 ?_
    refine g_aload_n X (or_rv _) dX13_doShift_75 rfl (lv_at hl 0 rfl) ?_
    refine g_gR X S foX13_126 dX13_doShift_76 hf (fun v9 hf => ?_)
    refine lv_iload X.1 X.2.1 dX13_doShift_79 (lv_at hl 4 rfl) ?_
    obtain ⟨v10, hc, hf⟩ := ob_some hf
    refine g_ci S (runS (As := [rv v9, .int x4]) (rest := [.int (x4 + x1), rv v8]) X S coX13_364 (by decide) (cX13_digitOf_m l hc) rfl hl.1 (by simp [cat_rv, cat_wv, cat_sv, cat_i, cat_l, cat_a]) rfl ⟨Nat.zero_le _, Nat.zero_le _⟩ dX13_doShift_81) (fun H locs S => ?_)
    obtain ⟨h, hc, hf⟩ := ob_some hf
    refine g_cv S (runS (As := [rv v8, .int (x4 + x1), .int v10]) (rest := []) X S coX13_377 (by decide) (cX13_putDigit_m l hc) rfl hl.1 (by decide) rfl ⟨Nat.zero_le _, Nat.zero_le _⟩ dX13_doShift_84) (fun H locs S => ?_)
    obtain ⟨z12, ez12, hf⟩ := lt_some hf
    refine lv_iinc (v := z12) (lv' := [(4, .int z12), (0, rv x0), (1, .int x1), (2, .int x2), (3, .int x3)]) X.1 X.2.1 dX13_doShift_87 hl (k := 4) rfl (by rw [← ez12]; rfl) (by decide) rfl (fun ls hl => ?_)
    refine lv_goto (tgt := 54) X.1 X.2.1 dX13_doShift_90 (by decide) ?_
    exact hk54 _ _ _ _ _ _ _ _ _ (lv_sub hl [1, 2, 3, 4, 0] rfl) S hf
theorem wfX13_doShift_54_l {h9 : Hp} (X : Cx p E A 13 R s m args c cX13_doShift yX13_doShift.cls 5) (hr : meth.sig.returnType = none) (hlk : meth.locks = false) (hnm : meth.name = yX13_doShift.name) :
    ∀ (n : Nat) (x0 : Nat) (x1 : Int32) (x2 : Int32) (x3 : Int32) (x4 : Int32) (h : Hp) (H : Heap) (locs : List Loc) (ls : Array Slot), lv_has ls 5 [(0, rv x0), (1, .int x1), (2, .int x2), (3, .int x3), (4, .int x4)] → St E A s h H locs → lp (fun _ _ _ _ _ _ => none) (fX13_doShift_54) n x0 x1 x2 x3 x4 h = some h9 → W p l e R s m args below meth c H locs 0 0 (MQ below (Qv E A h9) args s 0 0 A) (F0 m 54 ls []) := by
  intro n
  induction n with
  | zero =>
    intro x0 x1 x2 x3 x4 h H locs ls hl S hf
    exact nomatch hf
  | succ n ih =>
    intro x0 x1 x2 x3 x4 h H locs ls hl S hf
    exact wfX13_doShift_54 X hr hlk hnm ih x0 x1 x2 x3 x4 h H locs ls hl S hf
def fX13_doShift (a0 : Nat) (a1 : Int32) (a2 : Int32) (h : Hp) : Option (Hp) := gd 11 a0 h (ob (gI 11 a0 34 h) fun v1 => ob (gI 11 a0 35 h) fun v2 => ob (fX13_signAt a0 v1 v2 h) fun v3 => ob (fX13_isBelow v3) fun v4 => ob (gR 11 a0 30 h) fun v5 => ob (gI 11 a0 34 h) fun v6 => ob (gI 11 a0 35 h) fun v7 => ob (fX13_load a0 v5 v6 v7 h) fun h => ob (gR 11 a0 31 h) fun v9 => ob (fX13_clear v9 h) fun h => ob (gR 11 a0 32 h) fun v11 => ob (fX13_clear v11 h) fun h => lt (imax 0 (-a1)) fun z13 => lp (fun _ _ _ _ _ _ => none) (fX13_doShift_54) FU a0 a1 a2 v4 z13 h)
theorem tkX13_doShift {a0 : Nat} {a1 : Int32} {a2 : Int32} {h : Hp} {r9 : Hp} (e : fX13_doShift a0 a1 a2 h = some r9) : hK h a0 = 11 := by
  unfold fX13_doShift at e
  exact (gd_some e).1
theorem cX13_doShift_m (l : Launch) {E : EE} {A : Nat → Prop} {a0 : Nat} {a1 : Int32} {a2 : Int32} {h : Hp} {h9 : Hp} (hf : fX13_doShift a0 a1 a2 h = some h9) : Met l yX13_doShift (wsM yX13_doShift cX13_doShift 5 none) (rmm 13 0 0) (PcE E A h [rv a0, .int a1, .int a2]) (Qv E A h9) 0 0 A := by
  refine met_of (by decide +kernel) (by simp [lg_sl, cat_rv, cat_wv, cat_sv, cat_i, cat_l, cat_a]) (fun p e s m args below meth c ls X hr hlk hnm S hl => ?_)
  have hl : lv_has ls 5 [(0, rv a0), (1, .int a1), (2, .int a2)] := by simpa [lv_args, cat_rv, cat_wv, cat_sv, cat_i, cat_l, cat_a] using hl
  generalize hH : s.heap = H at S ⊢
  generalize hlo : ([] : List Loc) = locs at S ⊢
  clear hH hlo
  unfold fX13_doShift at hf
  obtain ⟨hth, hf⟩ := gd_some hf
  refine g_aload_n X (or_rv _) dX13_doShift_0 rfl (lv_at hl 0 rfl) ?_
  refine g_aload_n X (or_rv _) dX13_doShift_1 rfl (lv_at hl 0 rfl) ?_
  refine g_gI X S foX13_394 rfl dX13_doShift_2 hf (fun v1 hf => ?_)
  refine g_aload_n X (or_rv _) dX13_doShift_5 rfl (lv_at hl 0 rfl) ?_
  refine g_gI X S foX13_403 rfl dX13_doShift_6 hf (fun v2 hf => ?_)
  obtain ⟨v3, hc, hf⟩ := ob_some hf
  refine g_ci S (runV (As := [.int v1, .int v2]) (rest := []) X S coX13_472 (by decide) (cX13_signAt_m l hc) (tkX13_signAt hc) rfl hl.1 (by decide) rfl ⟨Nat.zero_le _, Nat.zero_le _⟩ dX13_doShift_9) (fun H locs S => ?_)
  obtain ⟨v4, hc, hf⟩ := ob_some hf
  refine g_ci S (runS (As := [.int v3]) (rest := []) X S coX13_475 (by decide) (cX13_isBelow_m l hc) rfl hl.1 (by decide) rfl ⟨Nat.zero_le _, Nat.zero_le _⟩ dX13_doShift_12) (fun H locs S => ?_)
  refine lv_istore_n (i := 3) (lv' := [(3, .int v4), (0, rv a0), (1, .int a1), (2, .int a2)]) X.1 X.2.1 dX13_doShift_15 rfl hl (by decide) rfl (fun ls hl => ?_)
  refine g_aload_n X (or_rv _) dX13_doShift_16 rfl (lv_at hl 1 rfl) ?_
  refine g_aload_n X (or_rv _) dX13_doShift_17 rfl (lv_at hl 1 rfl) ?_
  refine g_gR X S foX13_126 dX13_doShift_18 hf (fun v5 hf => ?_)
  refine g_aload_n X (or_rv _) dX13_doShift_21 rfl (lv_at hl 1 rfl) ?_
  refine g_gI X S foX13_394 rfl dX13_doShift_22 hf (fun v6 hf => ?_)
  refine g_aload_n X (or_rv _) dX13_doShift_25 rfl (lv_at hl 1 rfl) ?_
  refine g_gI X S foX13_403 rfl dX13_doShift_26 hf (fun v7 hf => ?_)
  obtain ⟨h, hc, hf⟩ := ob_some hf
  refine g_cv S (runV (As := [rv v5, .int v6, .int v7]) (rest := []) X S coX13_478 (by decide) (cX13_load_m l hc) (tkX13_load hc) rfl hl.1 (by decide) rfl ⟨Nat.zero_le _, Nat.zero_le _⟩ dX13_doShift_29) (fun H locs S => ?_)
  refine g_aload_n X (or_rv _) dX13_doShift_32 rfl (lv_at hl 1 rfl) ?_
  refine g_gR X S foX13_130 dX13_doShift_33 hf (fun v9 hf => ?_)
  obtain ⟨h, hc, hf⟩ := ob_some hf
  refine g_cv S (runS (As := [rv v9]) (rest := []) X S coX13_370 (by decide) (cX13_clear_m l hc) rfl hl.1 (by decide) rfl ⟨Nat.zero_le _, Nat.zero_le _⟩ dX13_doShift_36) (fun H locs S => ?_)
  refine g_aload_n X (or_rv _) dX13_doShift_39 rfl (lv_at hl 1 rfl) ?_
  refine g_gR X S foX13_133 dX13_doShift_40 hf (fun v11 hf => ?_)
  obtain ⟨h, hc, hf⟩ := ob_some hf
  refine g_cv S (runS (As := [rv v11]) (rest := []) X S coX13_370 (by decide) (cX13_clear_m l hc) rfl hl.1 (by decide) rfl ⟨Nat.zero_le _, Nat.zero_le _⟩ dX13_doShift_43) (fun H locs S => ?_)
  refine lv_iconst (v := 0) X.1 X.2.1 dX13_doShift_46 (by decide) ?_
  refine lv_iload_n X.1 X.2.1 dX13_doShift_47 rfl (lv_at hl 2 rfl) ?_
  refine lv_ineg X.1 X.2.1 dX13_doShift_48 ?_
  refine g_max (rest := []) X hl.1 (by decide) (by decide) mlX13_494 u_max_s u_math u_max_c (Nat.zero_le _) (Nat.zero_le _) dX13_doShift_49 ?_
  refine g_lti hf (fun z13 hf => ?_)
  refine lv_istore (lv' := [(4, .int z13), (3, .int v4), (0, rv a0), (1, .int a1), (2, .int a2)]) X.1 X.2.1 dX13_doShift_52 hl (by decide) rfl (fun ls hl => ?_)
  exact wfX13_doShift_54_l X hr hlk hnm FU _ _ _ _ _ _ _ _ _ (lv_sub hl [2, 3, 4, 1, 0] rfl) S hf
def fX13_rightAt (a0 : Nat) (a1 : Int32) (a2 : Int32) (h : Hp) : Option (Int32) := gd 11 a0 h (if 0 ≤ a2 then ob (gR 11 a0 3 h) fun v2 => ob (aI v2 (a1 + a2) h) fun v3 => some (v3 &&& (15 : Int32)) else some 0)
theorem tkX13_rightAt {a0 : Nat} {a1 : Int32} {a2 : Int32} {h : Hp} {r9 : Int32} (e : fX13_rightAt a0 a1 a2 h = some r9) : hK h a0 = 11 := by
  unfold fX13_rightAt at e
  exact (gd_some e).1
theorem cX13_rightAt_m (l : Launch) {E : EE} {A : Nat → Prop} {a0 : Nat} {a1 : Int32} {a2 : Int32} {h : Hp} {r9 : Int32} (hf : fX13_rightAt a0 a1 a2 h = some r9) : Met l yX13_rightAt (wsM yX13_rightAt cX13_rightAt 3 (some .int)) (rmm 8 0 0) (PcE E A h [rv a0, .int a1, .int a2]) (Qi E A h r9) 0 0 A := by
  refine met_of (by decide +kernel) (by simp [lg_sl, cat_rv, cat_wv, cat_sv, cat_i, cat_l, cat_a]) (fun p e s m args below meth c ls X hr hlk hnm S hl => ?_)
  have hl : lv_has ls 3 [(0, rv a0), (1, .int a1), (2, .int a2)] := by simpa [lv_args, cat_rv, cat_wv, cat_sv, cat_i, cat_l, cat_a] using hl
  generalize hH : s.heap = H at S ⊢
  generalize hlo : ([] : List Loc) = locs at S ⊢
  clear hH hlo
  unfold fX13_rightAt at hf
  obtain ⟨hth, hf⟩ := gd_some hf
  refine lv_iload_n X.1 X.2.1 dX13_rightAt_0 rfl (lv_at hl 2 rfl) ?_
  refine lv_if_ge (tgt := 8) X.1 X.2.1 dX13_rightAt_1 (by decide) (fun c1 => ?_) (fun c1 => ?_)
  · replace hf := (if_pos c1).symm.trans hf
    refine g_aload_n X (or_rv _) dX13_rightAt_8 rfl (lv_at hl 0 rfl) ?_
    refine g_gR X S foX13_76 dX13_rightAt_9 hf (fun v2 hf => ?_)
    refine lv_iload_n X.1 X.2.1 dX13_rightAt_12 rfl (lv_at hl 1 rfl) ?_
    refine lv_iload_n X.1 X.2.1 dX13_rightAt_13 rfl (lv_at hl 2 rfl) ?_
    refine lv_iadd X.1 X.2.1 dX13_rightAt_14 ?_
    refine g_aI X S dX13_rightAt_15 hf (fun v3 hf => ?_)
    refine lv_bipush (v := 15) X.1 X.2.1 dX13_rightAt_16 (by decide) ?_
    refine lv_iand X.1 X.2.1 dX13_rightAt_18 ?_
    cases hf; exact g_ri X S hr hlk dX13_rightAt_19
  · replace hf := (if_neg c1).symm.trans hf
    refine lv_iconst (v := 0) X.1 X.2.1 dX13_rightAt_4 (by decide) ?_
    refine lv_goto (tgt := 19) X.1 X.2.1 dX13_rightAt_5 (by decide) ?_
    cases hf; exact g_ri X S hr hlk dX13_rightAt_19
def fX13_doPack_46 (k46 : Nat → Int32 → Hp → Option (Hp)) (x0 : Nat) (x2 : Int32) (h : Hp) : Option (Hp) := ob (gI 11 x0 35 h) fun v1 => if v1 < x2 then some h else ob (gI 11 x0 37 h) fun v3 => lt (v3 - (2 * (x2 - 1))) fun z4 => ob (gR 11 x0 3 h) fun v5 => ob (gI 11 x0 34 h) fun v6 => ob (gI 11 x0 35 h) fun v7 => ob (gI 11 x0 36 h) fun v8 => ob (fX13_rightAt x0 v8 (z4 - 1) h) fun v9 => ob (gI 11 x0 36 h) fun v10 => ob (fX13_rightAt x0 v10 z4 h) fun v11 => ob (qI v5 ((v6 + v7) - x2) ((16 * v9) + v11) h) fun h => lt (x2 + 1) fun z12 => k46 x0 z12 h
theorem wfX13_doPack_46 {k46 : Nat → Int32 → Hp → Option (Hp)} {h9 : Hp} (X : Cx p E A 9 R s m args c cX13_doPack yX13_doPack.cls 4) (hr : meth.sig.returnType = none) (hlk : meth.locks = false) (hnm : meth.name = yX13_doPack.name) (hk46 : ∀ (x0 : Nat) (x2 : Int32) (h : Hp) (H : Heap) (locs : List Loc) (ls : Array Slot), lv_has ls 4 [(0, rv x0), (2, .int x2)] → St E A s h H locs → k46 x0 x2 h = some h9 → W p l e R s m args below meth c H locs 0 0 (MQ below (Qv E A h9) args s 0 0 A) (F0 m 46 ls [])) :
    ∀ (x0 : Nat) (x2 : Int32) (h : Hp) (H : Heap) (locs : List Loc) (ls : Array Slot), lv_has ls 4 [(0, rv x0), (2, .int x2)] → St E A s h H locs → fX13_doPack_46 k46 x0 x2 h = some h9 → W p l e R s m args below meth c H locs 0 0 (MQ below (Qv E A h9) args s 0 0 A) (F0 m 46 ls []) := by
  intro x0 x2 h H locs ls hl S hf
  unfold fX13_doPack_46 at hf
  refine lv_iload_n X.1 X.2.1 dX13_doPack_46 rfl (lv_at hl 1 rfl) ?_
  refine g_aload_n X (or_rv _) dX13_doPack_47 rfl (lv_at hl 0 rfl) ?_
  refine g_gI X S foX13_403 rfl dX13_doPack_48 hf (fun v1 hf => ?_)
  refine lv_icmp_gt (tgt := 111) X.1 X.2.1 dX13_doPack_51 (by decide) (fun c2 => ?_) (fun c2 => ?_)
  · replace hf := (if_pos c2).symm.trans hf
    cases hf; exact g_rv X S hr hlk dX13_doPack_111
  · replace hf := (if_neg c2).symm.trans hf
    refine g_aload_n X (or_rv _) dX13_doPack_54 rfl (lv_at hl 0 rfl) ?_
    refine g_gI X S foX13_406 rfl dX13_doPack_55 hf (fun v3 hf => ?_)
    refine lv_iconst (v := 2) X.1 X.2.1 dX13_doPack_58 (by decide) ?_
    refine lv_iload_n X.1 X.2.1 dX13_doPack_59 rfl (lv_at hl 1 rfl) ?_
    refine lv_iconst (v := 1) X.1 X.2.1 dX13_doPack_60 (by decide) ?_
    refine lv_isub X.1 X.2.1 dX13_doPack_61 ?_
    refine lv_imul X.1 X.2.1 dX13_doPack_62 ?_
    refine lv_isub X.1 X.2.1 dX13_doPack_63 ?_
    refine g_lti hf (fun z4 hf => ?_)
    refine lv_istore_n (i := 3) (lv' := [(3, .int z4), (0, rv x0), (2, .int x2)]) X.1 X.2.1 dX13_doPack_64 rfl hl (by decide) rfl (fun ls hl => ?_)
    refine g_aload_n X (or_rv _) dX13_doPack_65 rfl (lv_at hl 1 rfl) ?_
    refine g_gR X S foX13_76 dX13_doPack_66 hf (fun v5 hf => ?_)
    refine g_aload_n X (or_rv _) dX13_doPack_69 rfl (lv_at hl 1 rfl) ?_
    refine g_gI X S foX13_394 rfl dX13_doPack_70 hf (fun v6 hf => ?_)
    refine g_aload_n X (or_rv _) dX13_doPack_73 rfl (lv_at hl 1 rfl) ?_
    refine g_gI X S foX13_403 rfl dX13_doPack_74 hf (fun v7 hf => ?_)
    refine lv_iadd X.1 X.2.1 dX13_doPack_77 ?_
    refine lv_iload_n X.1 X.2.1 dX13_doPack_78 rfl (lv_at hl 2 rfl) ?_
    refine lv_isub X.1 X.2.1 dX13_doPack_79 ?_
    refine lv_bipush (v := 16) X.1 X.2.1 dX13_doPack_80 (by decide) ?_
    refine g_aload_n X (or_rv _) dX13_doPack_82 rfl (lv_at hl 1 rfl) ?_
    refine g_aload_n X (or_rv _) dX13_doPack_83 rfl (lv_at hl 1 rfl) ?_
    refine g_gI X S foX13_397 rfl dX13_doPack_84 hf (fun v8 hf => ?_)
    refine lv_iload_n X.1 X.2.1 dX13_doPack_87 rfl (lv_at hl 0 rfl) ?_
    refine lv_iconst (v := 1) X.1 X.2.1 dX13_doPack_88 (by decide) ?_
    refine lv_isub X.1 X.2.1 dX13_doPack_89 ?_
    obtain ⟨v9, hc, hf⟩ := ob_some hf
    refine g_ci S (runV (As := [.int v8, .int (z4 - 1)]) (rest := [.int 16, .int ((v6 + v7) - x2), rv v5]) X S coX13_497 (by decide) (cX13_rightAt_m l hc) (tkX13_rightAt hc) rfl hl.1 (by simp [cat_rv, cat_wv, cat_sv, cat_i, cat_l, cat_a]) rfl ⟨Nat.zero_le _, Nat.zero_le _⟩ dX13_doPack_90) (fun H locs S => ?_)
    refine lv_imul X.1 X.2.1 dX13_doPack_93 ?_
    refine g_aload_n X (or_rv _) dX13_doPack_94 rfl (lv_at hl 1 rfl) ?_
    refine g_aload_n X (or_rv _) dX13_doPack_95 rfl (lv_at hl 1 rfl) ?_
    refine g_gI X S foX13_397 rfl dX13_doPack_96 hf (fun v10 hf => ?_)
    refine lv_iload_n X.1 X.2.1 dX13_doPack_99 rfl (lv_at hl 0 rfl) ?_
    obtain ⟨v11, hc, hf⟩ := ob_some hf
    refine g_ci S (runV (As := [.int v10, .int z4]) (rest := [.int (16 * v9), .int ((v6 + v7) - x2), rv v5]) X S coX13_497 (by decide) (cX13_rightAt_m l hc) (tkX13_rightAt hc) rfl hl.1 (by simp [cat_rv, cat_wv, cat_sv, cat_i, cat_l, cat_a]) rfl ⟨Nat.zero_le _, Nat.zero_le _⟩ dX13_doPack_100) (fun H locs S => ?_)
    refine lv_iadd X.1 X.2.1 dX13_doPack_103 ?_
    refine g_qI X S dX13_doPack_104 hf (fun h H locs hm hf S => ?_)
    obtain ⟨z12, ez12, hf⟩ := lt_some hf
    refine lv_iinc (v := z12) (lv' := [(2, .int z12), (3, .int z4), (0, rv x0)]) X.1 X.2.1 dX13_doPack_105 hl (k := 2) rfl (by rw [← ez12]; rfl) (by decide) rfl (fun ls hl => ?_)
    refine lv_goto (tgt := 46) X.1 X.2.1 dX13_doPack_108 (by decide) ?_
    exact hk46 _ _ _ _ _ _ (lv_sub hl [2, 0] rfl) S hf
theorem wfX13_doPack_46_l {h9 : Hp} (X : Cx p E A 9 R s m args c cX13_doPack yX13_doPack.cls 4) (hr : meth.sig.returnType = none) (hlk : meth.locks = false) (hnm : meth.name = yX13_doPack.name) :
    ∀ (n : Nat) (x0 : Nat) (x2 : Int32) (h : Hp) (H : Heap) (locs : List Loc) (ls : Array Slot), lv_has ls 4 [(0, rv x0), (2, .int x2)] → St E A s h H locs → lp (fun _ _ _ => none) (fX13_doPack_46) n x0 x2 h = some h9 → W p l e R s m args below meth c H locs 0 0 (MQ below (Qv E A h9) args s 0 0 A) (F0 m 46 ls []) := by
  intro n
  induction n with
  | zero =>
    intro x0 x2 h H locs ls hl S hf
    exact nomatch hf
  | succ n ih =>
    intro x0 x2 h H locs ls hl S hf
    exact wfX13_doPack_46 X hr hlk hnm ih x0 x2 h H locs ls hl S hf
def fX13_doPack (a0 : Nat) (h : Hp) : Option (Hp) := gd 11 a0 h (ob (gR 11 a0 3 h) fun v1 => ob (gI 11 a0 36 h) fun v2 => ob (gI 11 a0 37 h) fun v3 => ob (aI v1 ((v2 + v3) - 1) h) fun v4 => ob (gR 11 a0 3 h) fun v5 => ob (gI 11 a0 34 h) fun v6 => ob (gI 11 a0 35 h) fun v7 => ob (qI v5 ((v6 + v7) - 1) ((16 * (v4 &&& (15 : Int32))) + (v4 >>> ((4 : Int32) &&& 31))) h) fun h => lp (fun _ _ _ => none) (fX13_doPack_46) FU a0 2 h)
theorem tkX13_doPack {a0 : Nat} {h : Hp} {r9 : Hp} (e : fX13_doPack a0 h = some r9) : hK h a0 = 11 := by
  unfold fX13_doPack at e
  exact (gd_some e).1
theorem cX13_doPack_m (l : Launch) {E : EE} {A : Nat → Prop} {a0 : Nat} {h : Hp} {h9 : Hp} (hf : fX13_doPack a0 h = some h9) : Met l yX13_doPack (wsM yX13_doPack cX13_doPack 4 none) (rmm 9 0 0) (PcE E A h [rv a0]) (Qv E A h9) 0 0 A := by
  refine met_of (by decide +kernel) (by simp [lg_sl, cat_rv, cat_wv, cat_sv, cat_i, cat_l, cat_a]) (fun p e s m args below meth c ls X hr hlk hnm S hl => ?_)
  have hl : lv_has ls 4 [(0, rv a0)] := by simpa [lv_args, cat_rv, cat_wv, cat_sv, cat_i, cat_l, cat_a] using hl
  generalize hH : s.heap = H at S ⊢
  generalize hlo : ([] : List Loc) = locs at S ⊢
  clear hH hlo
  unfold fX13_doPack at hf
  obtain ⟨hth, hf⟩ := gd_some hf
  refine g_aload_n X (or_rv _) dX13_doPack_0 rfl (lv_at hl 0 rfl) ?_
  refine g_gR X S foX13_76 dX13_doPack_1 hf (fun v1 hf => ?_)
  refine g_aload_n X (or_rv _) dX13_doPack_4 rfl (lv_at hl 0 rfl) ?_
  refine g_gI X S foX13_397 rfl dX13_doPack_5 hf (fun v2 hf => ?_)
  refine g_aload_n X (or_rv _) dX13_doPack_8 rfl (lv_at hl 0 rfl) ?_
  refine g_gI X S foX13_406 rfl dX13_doPack_9 hf (fun v3 hf => ?_)
  refine lv_iadd X.1 X.2.1 dX13_doPack_12 ?_
  refine lv_iconst (v := 1) X.1 X.2.1 dX13_doPack_13 (by decide) ?_
  refine lv_isub X.1 X.2.1 dX13_doPack_14 ?_
  refine g_aI X S dX13_doPack_15 hf (fun v4 hf => ?_)
  refine lv_istore_n (i := 1) (lv' := [(1, .int v4), (0, rv a0)]) X.1 X.2.1 dX13_doPack_16 rfl hl (by decide) (by simp [List.filter, cat_rv, cat_wv, cat_sv]) (fun ls hl => ?_)
  refine g_aload_n X (or_rv _) dX13_doPack_17 rfl (lv_at hl 1 rfl) ?_
  refine g_gR X S foX13_76 dX13_doPack_18 hf (fun v5 hf => ?_)
  refine g_aload_n X (or_rv _) dX13_doPack_21 rfl (lv_at hl 1 rfl) ?_
  refine g_gI X S foX13_394 rfl dX13_doPack_22 hf (fun v6 hf => ?_)
  refine g_aload_n X (or_rv _) dX13_doPack_25 rfl (lv_at hl 1 rfl) ?_
  refine g_gI X S foX13_403 rfl dX13_doPack_26 hf (fun v7 hf => ?_)
  refine lv_iadd X.1 X.2.1 dX13_doPack_29 ?_
  refine lv_iconst (v := 1) X.1 X.2.1 dX13_doPack_30 (by decide) ?_
  refine lv_isub X.1 X.2.1 dX13_doPack_31 ?_
  refine lv_bipush (v := 16) X.1 X.2.1 dX13_doPack_32 (by decide) ?_
  refine lv_iload_n X.1 X.2.1 dX13_doPack_34 rfl (lv_at hl 0 rfl) ?_
  refine lv_bipush (v := 15) X.1 X.2.1 dX13_doPack_35 (by decide) ?_
  refine lv_iand X.1 X.2.1 dX13_doPack_37 ?_
  refine lv_imul X.1 X.2.1 dX13_doPack_38 ?_
  refine lv_iload_n X.1 X.2.1 dX13_doPack_39 rfl (lv_at hl 0 rfl) ?_
  refine lv_iconst (v := 4) X.1 X.2.1 dX13_doPack_40 (by decide) ?_
  refine lv_ishr X.1 X.2.1 dX13_doPack_41 ?_
  refine lv_iadd X.1 X.2.1 dX13_doPack_42 ?_
  refine g_qI X S dX13_doPack_43 hf (fun h H locs hm hf S => ?_)
  refine lv_iconst (v := 2) X.1 X.2.1 dX13_doPack_44 (by decide) ?_
  refine lv_istore_n (i := 2) (lv' := [(2, .int 2), (1, .int v4), (0, rv a0)]) X.1 X.2.1 dX13_doPack_45 rfl hl (by decide) rfl (fun ls hl => ?_)
  exact wfX13_doPack_46_l X hr hlk hnm FU _ _ _ _ _ _ (lv_sub hl [2, 0] rfl) S hf
def fX13_doUnpack_89 (k90 : Nat → Int32 → Int32 → Int32 → Hp → Option (Hp)) (x0 : Nat) (x2 : Int32) (x3 : Int32) (y0 : Int32) (h : Hp) : Option (Hp) := k90 x0 y0 x2 x3 h
theorem wfX13_doUnpack_89 {k90 : Nat → Int32 → Int32 → Int32 → Hp → Option (Hp)} {h9 : Hp} (X : Cx p E A 8 R s m args c cX13_doUnpack yX13_doUnpack.cls 4) (hr : meth.sig.returnType = none) (hlk : meth.locks = false) (hnm : meth.name = yX13_doUnpack.name) (hk90 : ∀ (x0 : Nat) (x1 : Int32) (x2 : Int32) (x3 : Int32) (h : Hp) (H : Heap) (locs : List Loc) (ls : Array Slot), lv_has ls 4 [(0, rv x0), (1, .int x1), (2, .int x2), (3, .int x3)] → St E A s h H locs → k90 x0 x1 x2 x3 h = some h9 → W p l e R s m args below meth c H locs 0 0 (MQ below (Qv E A h9) args s 0 0 A) (F0 m 90 ls [])) :
    ∀ (x0 : Nat) (x2 : Int32) (x3 : Int32) (y0 : Int32) (h : Hp) (H : Heap) (locs : List Loc) (ls : Array Slot), lv_has ls 4 [(0, rv x0), (2, .int x2), (3, .int x3)] → St E A s h H locs → fX13_doUnpack_89 k90 x0 x2 x3 y0 h = some h9 → W p l e R s m args below meth c H locs 0 0 (MQ below (Qv E A h9) args s 0 0 A) (F0 m 89 ls [.int y0]) := by
  intro x0 x2 x3 y0 h H locs ls hl S hf
  unfold fX13_doUnpack_89 at hf
  refine lv_istore_n (i := 1) (lv' := [(1, .int y0), (0, rv x0), (2, .int x2), (3, .int x3)]) X.1 X.2.1 dX13_doUnpack_89 rfl hl (by decide) (by simp [List.filter, cat_rv, cat_wv, cat_sv]) (fun ls hl => ?_)
  exact hk90 _ _ _ _ _ _ _ _ (lv_sub hl [1, 0, 2, 3] rfl) S hf
def fX13_doUnpack_124 (k53 : Nat → Int32 → Int32 → Int32 → Hp → Option (Hp)) (x0 : Nat) (x1 : Int32) (x2 : Int32) (x3 : Int32) (y0 : Int32) (y1 : Int32) (y2 : Int32) (y3 : Nat) (h : Hp) : Option (Hp) := ob (qI y3 y2 (y1 + y0) h) fun h => lt (x3 + 1) fun z1 => k53 x0 x1 x2 z1 h
theorem wfX13_doUnpack_124 {k53 : Nat → Int32 → Int32 → Int32 → Hp → Option (Hp)} {h9 : Hp} (X : Cx p E A 8 R s m args c cX13_doUnpack yX13_doUnpack.cls 4) (hr : meth.sig.returnType = none) (hlk : meth.locks = false) (hnm : meth.name = yX13_doUnpack.name) (hk53 : ∀ (x0 : Nat) (x1 : Int32) (x2 : Int32) (x3 : Int32) (h : Hp) (H : Heap) (locs : List Loc) (ls : Array Slot), lv_has ls 4 [(0, rv x0), (1, .int x1), (2, .int x2), (3, .int x3)] → St E A s h H locs → k53 x0 x1 x2 x3 h = some h9 → W p l e R s m args below meth c H locs 0 0 (MQ below (Qv E A h9) args s 0 0 A) (F0 m 53 ls [])) :
    ∀ (x0 : Nat) (x1 : Int32) (x2 : Int32) (x3 : Int32) (y0 : Int32) (y1 : Int32) (y2 : Int32) (y3 : Nat) (h : Hp) (H : Heap) (locs : List Loc) (ls : Array Slot), lv_has ls 4 [(0, rv x0), (1, .int x1), (2, .int x2), (3, .int x3)] → St E A s h H locs → fX13_doUnpack_124 k53 x0 x1 x2 x3 y0 y1 y2 y3 h = some h9 → W p l e R s m args below meth c H locs 0 0 (MQ below (Qv E A h9) args s 0 0 A) (F0 m 124 ls [.int y0, .int y1, .int y2, rv y3]) := by
  intro x0 x1 x2 x3 y0 y1 y2 y3 h H locs ls hl S hf
  unfold fX13_doUnpack_124 at hf
  refine lv_iadd X.1 X.2.1 dX13_doUnpack_124 ?_
  refine g_qI X S dX13_doUnpack_125 hf (fun h H locs hm hf S => ?_)
  obtain ⟨z1, ez1, hf⟩ := lt_some hf
  refine lv_iinc (v := z1) (lv' := [(3, .int z1), (0, rv x0), (1, .int x1), (2, .int x2)]) X.1 X.2.1 dX13_doUnpack_126 hl (k := 3) rfl (by rw [← ez1]; rfl) (by decide) rfl (fun ls hl => ?_)
  refine lv_goto (tgt := 53) X.1 X.2.1 dX13_doUnpack_129 (by decide) ?_
  exact hk53 _ _ _ _ _ _ _ _ (lv_sub hl [1, 2, 3, 0] rfl) S hf
def fX13_doUnpack_90 (k53 : Nat → Int32 → Int32 → Int32 → Hp → Option (Hp)) (x0 : Nat) (x1 : Int32) (x2 : Int32) (x3 : Int32) (h : Hp) : Option (Hp) := ob (gR 11 x0 3 h) fun v1 => ob (gI 11 x0 34 h) fun v2 => ob (gI 11 x0 35 h) fun v3 => if (irm x3 2) = 0 then fX13_doUnpack_124 k53 x0 x1 x2 x3 (x1 &&& (15 : Int32)) 240 ((v2 + v3) - x3) v1 h else fX13_doUnpack_124 k53 x0 x1 x2 x3 (x1 >>> ((4 : Int32) &&& 31)) 240 ((v2 + v3) - x3) v1 h
theorem wfX13_doUnpack_90 {k53 : Nat → Int32 → Int32 → Int32 → Hp → Option (Hp)} {h9 : Hp} (X : Cx p E A 8 R s m args c cX13_doUnpack yX13_doUnpack.cls 4) (hr : meth.sig.returnType = none) (hlk : meth.locks = false) (hnm : meth.name = yX13_doUnpack.name) (hk53 : ∀ (x0 : Nat) (x1 : Int32) (x2 : Int32) (x3 : Int32) (h : Hp) (H : Heap) (locs : List Loc) (ls : Array Slot), lv_has ls 4 [(0, rv x0), (1, .int x1), (2, .int x2), (3, .int x3)] → St E A s h H locs → k53 x0 x1 x2 x3 h = some h9 → W p l e R s m args below meth c H locs 0 0 (MQ below (Qv E A h9) args s 0 0 A) (F0 m 53 ls [])) :
    ∀ (x0 : Nat) (x1 : Int32) (x2 : Int32) (x3 : Int32) (h : Hp) (H : Heap) (locs : List Loc) (ls : Array Slot), lv_has ls 4 [(0, rv x0), (1, .int x1), (2, .int x2), (3, .int x3)] → St E A s h H locs → fX13_doUnpack_90 k53 x0 x1 x2 x3 h = some h9 → W p l e R s m args below meth c H locs 0 0 (MQ below (Qv E A h9) args s 0 0 A) (F0 m 90 ls []) := by
  intro x0 x1 x2 x3 h H locs ls hl S hf
  unfold fX13_doUnpack_90 at hf
  refine g_aload_n X (or_rv _) dX13_doUnpack_90 rfl (lv_at hl 0 rfl) ?_
  refine g_gR X S foX13_76 dX13_doUnpack_91 hf (fun v1 hf => ?_)
  refine g_aload_n X (or_rv _) dX13_doUnpack_94 rfl (lv_at hl 0 rfl) ?_
  refine g_gI X S foX13_394 rfl dX13_doUnpack_95 hf (fun v2 hf => ?_)
  refine g_aload_n X (or_rv _) dX13_doUnpack_98 rfl (lv_at hl 0 rfl) ?_
  refine g_gI X S foX13_403 rfl dX13_doUnpack_99 hf (fun v3 hf => ?_)
  refine lv_iadd X.1 X.2.1 dX13_doUnpack_102 ?_
  refine lv_iload_n X.1 X.2.1 dX13_doUnpack_103 rfl (lv_at hl 3 rfl) ?_
  refine lv_isub X.1 X.2.1 dX13_doUnpack_104 ?_
  refine lv_sipush (v := 240) X.1 X.2.1 dX13_doUnpack_105 (by decide) ?_
  refine lv_iload_n X.1 X.2.1 dX13_doUnpack_108 rfl (lv_at hl 3 rfl) ?_
  refine lv_iconst (v := 2) X.1 X.2.1 dX13_doUnpack_109 (by decide) ?_
  refine g_irem X (by decide) dX13_doUnpack_110 ?_
  refine lv_if_ne (tgt := 121) X.1 X.2.1 dX13_doUnpack_111 (by decide) (fun c4 => ?_) (fun c4 => ?_)
  · replace hf := (if_neg c4).symm.trans hf
    refine lv_iload_n X.1 X.2.1 dX13_doUnpack_121 rfl (lv_at hl 1 rfl) ?_
    refine lv_iconst (v := 4) X.1 X.2.1 dX13_doUnpack_122 (by decide) ?_
    refine lv_ishr X.1 X.2.1 dX13_doUnpack_123 ?_
    exact wfX13_doUnpack_124 X hr hlk hnm hk53 _ _ _ _ _ _ _ _ _ _ _ _ hl S hf
  · replace hf := (if_pos c4).symm.trans hf
    refine lv_iload_n X.1 X.2.1 dX13_doUnpack_114 rfl (lv_at hl 1 rfl) ?_
    refine lv_bipush (v := 15) X.1 X.2.1 dX13_doUnpack_115 (by decide) ?_
    refine lv_iand X.1 X.2.1 dX13_doUnpack_117 ?_
    refine lv_goto (tgt := 124) X.1 X.2.1 dX13_doUnpack_118 (by decide) ?_
    exact wfX13_doUnpack_124 X hr hlk hnm hk53 _ _ _ _ _ _ _ _ _ _ _ _ hl S hf
def fX13_doUnpack_53 (k53 : Nat → Int32 → Int32 → Int32 → Hp → Option (Hp)) (x0 : Nat) (x1 : Int32) (x2 : Int32) (x3 : Int32) (h : Hp) : Option (Hp) := ob (gI 11 x0 35 h) fun v1 => if v1 < x3 then some h else if (irm x3 2) = 0 then lt (x2 + (-1)) fun z4 => if 0 ≤ z4 then ob (gR 11 x0 3 h) fun v6 => ob (gI 11 x0 36 h) fun v7 => ob (aI v6 (v7 + z4) h) fun v8 => fX13_doUnpack_89 (fX13_doUnpack_90 k53) x0 z4 x3 v8 h else fX13_doUnpack_89 (fX13_doUnpack_90 k53) x0 z4 x3 0 h else fX13_doUnpack_90 k53 x0 x1 x2 x3 h
theorem wfX13_doUnpack_53 {k53 : Nat → Int32 → Int32 → Int32 → Hp → Option (Hp)} {h9 : Hp} (X : Cx p E A 8 R s m args c cX13_doUnpack yX13_doUnpack.cls 4) (hr : meth.sig.returnType = none) (hlk : meth.locks = false) (hnm : meth.name = yX13_doUnpack.name) (hk53 : ∀ (x0 : Nat) (x1 : Int32) (x2 : Int32) (x3 : Int32) (h : Hp) (H : Heap) (locs : List Loc) (ls : Array Slot), lv_has ls 4 [(0, rv x0), (1, .int x1), (2, .int x2), (3, .int x3)] → St E A s h H locs → k53 x0 x1 x2 x3 h = some h9 → W p l e R s m args below meth c H locs 0 0 (MQ below (Qv E A h9) args s 0 0 A) (F0 m 53 ls [])) :
    ∀ (x0 : Nat) (x1 : Int32) (x2 : Int32) (x3 : Int32) (h : Hp) (H : Heap) (locs : List Loc) (ls : Array Slot), lv_has ls 4 [(0, rv x0), (1, .int x1), (2, .int x2), (3, .int x3)] → St E A s h H locs → fX13_doUnpack_53 k53 x0 x1 x2 x3 h = some h9 → W p l e R s m args below meth c H locs 0 0 (MQ below (Qv E A h9) args s 0 0 A) (F0 m 53 ls []) := by
  intro x0 x1 x2 x3 h H locs ls hl S hf
  unfold fX13_doUnpack_53 at hf
  refine lv_iload_n X.1 X.2.1 dX13_doUnpack_53 rfl (lv_at hl 3 rfl) ?_
  refine g_aload_n X (or_rv _) dX13_doUnpack_54 rfl (lv_at hl 0 rfl) ?_
  refine g_gI X S foX13_403 rfl dX13_doUnpack_55 hf (fun v1 hf => ?_)
  refine lv_icmp_gt (tgt := 132) X.1 X.2.1 dX13_doUnpack_58 (by decide) (fun c2 => ?_) (fun c2 => ?_)
  · replace hf := (if_pos c2).symm.trans hf
    cases hf; exact g_rv X S hr hlk dX13_doUnpack_132
  · replace hf := (if_neg c2).symm.trans hf
    refine lv_iload_n X.1 X.2.1 dX13_doUnpack_61 rfl (lv_at hl 3 rfl) ?_
    refine lv_iconst (v := 2) X.1 X.2.1 dX13_doUnpack_62 (by decide) ?_
    refine g_irem X (by decide) dX13_doUnpack_63 ?_
    refine lv_if_ne (tgt := 90) X.1 X.2.1 dX13_doUnpack_64 (by decide) (fun c3 => ?_) (fun c3 => ?_)
    · replace hf := (if_neg c3).symm.trans hf
      exact wfX13_doUnpack_90 X hr hlk hnm hk53 _ _ _ _ _ _ _ _ hl S hf
    · replace hf := (if_pos c3).symm.trans hf
      obtain ⟨z4, ez4, hf⟩ := lt_some hf
      refine lv_iinc (v := z4) (lv' := [(2, .int z4), (0, rv x0), (1, .int x1), (3, .int x3)]) X.1 X.2.1 dX13_doUnpack_67 hl (k := 2) rfl (by rw [← ez4]; rfl) (by decide) rfl (fun ls hl => ?_)
      refine lv_iload_n X.1 X.2.1 dX13_doUnpack_70 rfl (lv_at hl 0 rfl) ?_
      refine lv_if_ge (tgt := 78) X.1 X.2.1 dX13_doUnpack_71 (by decide) (fun c5 => ?_) (fun c5 => ?_)
      · replace hf := (if_pos c5).symm.trans hf
        refine g_aload_n X (or_rv _) dX13_doUnpack_78 rfl (lv_at hl 1 rfl) ?_
        refine g_gR X S foX13_76 dX13_doUnpack_79 hf (fun v6 hf => ?_)
        refine g_aload_n X (or_rv _) dX13_doUnpack_82 rfl (lv_at hl 1 rfl) ?_
        refine g_gI X S foX13_397 rfl dX13_doUnpack_83 hf (fun v7 hf => ?_)
        refine lv_iload_n X.1 X.2.1 dX13_doUnpack_86 rfl (lv_at hl 0 rfl) ?_
        refine lv_iadd X.1 X.2.1 dX13_doUnpack_87 ?_
        refine g_aI X S dX13_doUnpack_88 hf (fun v8 hf => ?_)
        exact wfX13_doUnpack_89 X hr hlk hnm (wfX13_doUnpack_90 X hr hlk hnm hk53) _ _ _ _ _ _ _ _ (lv_sub hl [1, 0, 3] rfl) S hf
      · replace hf := (if_neg c5).symm.trans hf
        refine lv_iconst (v := 0) X.1 X.2.1 dX13_doUnpack_74 (by decide) ?_
        refine lv_goto (tgt := 89) X.1 X.2.1 dX13_doUnpack_75 (by decide) ?_
        exact wfX13_doUnpack_89 X hr hlk hnm (wfX13_doUnpack_90 X hr hlk hnm hk53) _ _ _ _ _ _ _ _ (lv_sub hl [1, 0, 3] rfl) S hf
theorem wfX13_doUnpack_53_l {h9 : Hp} (X : Cx p E A 8 R s m args c cX13_doUnpack yX13_doUnpack.cls 4) (hr : meth.sig.returnType = none) (hlk : meth.locks = false) (hnm : meth.name = yX13_doUnpack.name) :
    ∀ (n : Nat) (x0 : Nat) (x1 : Int32) (x2 : Int32) (x3 : Int32) (h : Hp) (H : Heap) (locs : List Loc) (ls : Array Slot), lv_has ls 4 [(0, rv x0), (1, .int x1), (2, .int x2), (3, .int x3)] → St E A s h H locs → lp (fun _ _ _ _ _ => none) (fX13_doUnpack_53) n x0 x1 x2 x3 h = some h9 → W p l e R s m args below meth c H locs 0 0 (MQ below (Qv E A h9) args s 0 0 A) (F0 m 53 ls []) := by
  intro n
  induction n with
  | zero =>
    intro x0 x1 x2 x3 h H locs ls hl S hf
    exact nomatch hf
  | succ n ih =>
    intro x0 x1 x2 x3 h H locs ls hl S hf
    exact wfX13_doUnpack_53 X hr hlk hnm ih x0 x1 x2 x3 h H locs ls hl S hf
def fX13_doUnpack (a0 : Nat) (h : Hp) : Option (Hp) := gd 11 a0 h (ob (gR 11 a0 3 h) fun v1 => ob (gI 11 a0 36 h) fun v2 => ob (gI 11 a0 37 h) fun v3 => ob (aI v1 ((v2 + v3) - 1) h) fun v4 => ob (gR 11 a0 3 h) fun v5 => ob (gI 11 a0 34 h) fun v6 => ob (gI 11 a0 35 h) fun v7 => ob (qI v5 ((v6 + v7) - 1) ((16 * (v4 &&& (15 : Int32))) + (v4 >>> ((4 : Int32) &&& 31))) h) fun h => ob (gI 11 a0 37 h) fun v8 => lt (v8 - 1) fun z9 => lp (fun _ _ _ _ _ => none) (fX13_doUnpack_53) FU a0 v4 z9 2 h)
theorem tkX13_doUnpack {a0 : Nat} {h : Hp} {r9 : Hp} (e : fX13_doUnpack a0 h = some r9) : hK h a0 = 11 := by
  unfold fX13_doUnpack at e
  exact (gd_some e).1
theorem cX13_doUnpack_m (l : Launch) {E : EE} {A : Nat → Prop} {a0 : Nat} {h : Hp} {h9 : Hp} (hf : fX13_doUnpack a0 h = some h9) : Met l yX13_doUnpack (wsM yX13_doUnpack cX13_doUnpack 4 none) (rmm 8 0 0) (PcE E A h [rv a0]) (Qv E A h9) 0 0 A := by
  refine met_of (by decide +kernel) (by simp [lg_sl, cat_rv, cat_wv, cat_sv, cat_i, cat_l, cat_a]) (fun p e s m args below meth c ls X hr hlk hnm S hl => ?_)
  have hl : lv_has ls 4 [(0, rv a0)] := by simpa [lv_args, cat_rv, cat_wv, cat_sv, cat_i, cat_l, cat_a] using hl
  generalize hH : s.heap = H at S ⊢
  generalize hlo : ([] : List Loc) = locs at S ⊢
  clear hH hlo
  unfold fX13_doUnpack at hf
  obtain ⟨hth, hf⟩ := gd_some hf
  refine g_aload_n X (or_rv _) dX13_doUnpack_0 rfl (lv_at hl 0 rfl) ?_
  refine g_gR X S foX13_76 dX13_doUnpack_1 hf (fun v1 hf => ?_)
  refine g_aload_n X (or_rv _) dX13_doUnpack_4 rfl (lv_at hl 0 rfl) ?_
  refine g_gI X S foX13_397 rfl dX13_doUnpack_5 hf (fun v2 hf => ?_)
  refine g_aload_n X (or_rv _) dX13_doUnpack_8 rfl (lv_at hl 0 rfl) ?_
  refine g_gI X S foX13_406 rfl dX13_doUnpack_9 hf (fun v3 hf => ?_)
  refine lv_iadd X.1 X.2.1 dX13_doUnpack_12 ?_
  refine lv_iconst (v := 1) X.1 X.2.1 dX13_doUnpack_13 (by decide) ?_
  refine lv_isub X.1 X.2.1 dX13_doUnpack_14 ?_
  refine g_aI X S dX13_doUnpack_15 hf (fun v4 hf => ?_)
  refine lv_istore_n (i := 1) (lv' := [(1, .int v4), (0, rv a0)]) X.1 X.2.1 dX13_doUnpack_16 rfl hl (by decide) (by simp [List.filter, cat_rv, cat_wv, cat_sv]) (fun ls hl => ?_)
  refine g_aload_n X (or_rv _) dX13_doUnpack_17 rfl (lv_at hl 1 rfl) ?_
  refine g_gR X S foX13_76 dX13_doUnpack_18 hf (fun v5 hf => ?_)
  refine g_aload_n X (or_rv _) dX13_doUnpack_21 rfl (lv_at hl 1 rfl) ?_
  refine g_gI X S foX13_394 rfl dX13_doUnpack_22 hf (fun v6 hf => ?_)
  refine g_aload_n X (or_rv _) dX13_doUnpack_25 rfl (lv_at hl 1 rfl) ?_
  refine g_gI X S foX13_403 rfl dX13_doUnpack_26 hf (fun v7 hf => ?_)
  refine lv_iadd X.1 X.2.1 dX13_doUnpack_29 ?_
  refine lv_iconst (v := 1) X.1 X.2.1 dX13_doUnpack_30 (by decide) ?_
  refine lv_isub X.1 X.2.1 dX13_doUnpack_31 ?_
  refine lv_bipush (v := 16) X.1 X.2.1 dX13_doUnpack_32 (by decide) ?_
  refine lv_iload_n X.1 X.2.1 dX13_doUnpack_34 rfl (lv_at hl 0 rfl) ?_
  refine lv_bipush (v := 15) X.1 X.2.1 dX13_doUnpack_35 (by decide) ?_
  refine lv_iand X.1 X.2.1 dX13_doUnpack_37 ?_
  refine lv_imul X.1 X.2.1 dX13_doUnpack_38 ?_
  refine lv_iload_n X.1 X.2.1 dX13_doUnpack_39 rfl (lv_at hl 0 rfl) ?_
  refine lv_iconst (v := 4) X.1 X.2.1 dX13_doUnpack_40 (by decide) ?_
  refine lv_ishr X.1 X.2.1 dX13_doUnpack_41 ?_
  refine lv_iadd X.1 X.2.1 dX13_doUnpack_42 ?_
  refine g_qI X S dX13_doUnpack_43 hf (fun h H locs hm hf S => ?_)
  refine g_aload_n X (or_rv _) dX13_doUnpack_44 rfl (lv_at hl 1 rfl) ?_
  refine g_gI X S foX13_406 rfl dX13_doUnpack_45 hf (fun v8 hf => ?_)
  refine lv_iconst (v := 1) X.1 X.2.1 dX13_doUnpack_48 (by decide) ?_
  refine lv_isub X.1 X.2.1 dX13_doUnpack_49 ?_
  refine g_lti hf (fun z9 hf => ?_)
  refine lv_istore_n (i := 2) (lv' := [(2, .int z9), (1, .int v4), (0, rv a0)]) X.1 X.2.1 dX13_doUnpack_50 rfl hl (by decide) rfl (fun ls hl => ?_)
  refine lv_iconst (v := 2) X.1 X.2.1 dX13_doUnpack_51 (by decide) ?_
  refine lv_istore_n (i := 3) (lv' := [(3, .int 2), (2, .int z9), (1, .int v4), (0, rv a0)]) X.1 X.2.1 dX13_doUnpack_52 rfl hl (by decide) rfl (fun ls hl => ?_)
  exact wfX13_doUnpack_53_l X hr hlk hnm FU _ _ _ _ _ _ _ _ (lv_sub hl [3, 2, 1, 0] rfl) S hf
def fX13_doOffset_106 (k64 : Nat → Int32 → Int32 → Hp → Option (Hp)) (x0 : Nat) (x3 : Int32) (x4 : Int32) (y0 : Int32) (h : Hp) : Option (Hp) := ob (gR 11 x0 3 h) fun v1 => ob (gI 11 x0 34 h) fun v2 => ob (gI 11 x0 35 h) fun v3 => ob (qI v1 ((v2 + v3) - x3) ((16 * (y0 &&& (15 : Int32))) + x4) h) fun h => lt (x3 + 1) fun z4 => k64 x0 y0 z4 h
theorem wfX13_doOffset_106 {k64 : Nat → Int32 → Int32 → Hp → Option (Hp)} {h9 : Hp} (X : Cx p E A 8 R s m args c cX13_doOffset yX13_doOffset.cls 5) (hr : meth.sig.returnType = none) (hlk : meth.locks = false) (hnm : meth.name = yX13_doOffset.name) (hk64 : ∀ (x0 : Nat) (x2 : Int32) (x3 : Int32) (h : Hp) (H : Heap) (locs : List Loc) (ls : Array Slot), lv_has ls 5 [(0, rv x0), (2, .int x2), (3, .int x3)] → St E A s h H locs → k64 x0 x2 x3 h = some h9 → W p l e R s m args below meth c H locs 0 0 (MQ below (Qv E A h9) args s 0 0 A) (F0 m 64 ls [])) :
    ∀ (x0 : Nat) (x3 : Int32) (x4 : Int32) (y0 : Int32) (h : Hp) (H : Heap) (locs : List Loc) (ls : Array Slot), lv_has ls 5 [(0, rv x0), (3, .int x3), (4, .int x4)] → St E A s h H locs → fX13_doOffset_106 k64 x0 x3 x4 y0 h = some h9 → W p l e R s m args below meth c H locs 0 0 (MQ below (Qv E A h9) args s 0 0 A) (F0 m 106 ls [.int y0]) := by
  intro x0 x3 x4 y0 h H locs ls hl S hf
  unfold fX13_doOffset_106 at hf
  refine lv_istore_n (i := 2) (lv' := [(2, .int y0), (0, rv x0), (3, .int x3), (4, .int x4)]) X.1 X.2.1 dX13_doOffset_106 rfl hl (by decide) rfl (fun ls hl => ?_)
  refine g_aload_n X (or_rv _) dX13_doOffset_107 rfl (lv_at hl 1 rfl) ?_
  refine g_gR X S foX13_76 dX13_doOffset_108 hf (fun v1 hf => ?_)
  refine g_aload_n X (or_rv _) dX13_doOffset_111 rfl (lv_at hl 1 rfl) ?_
  refine g_gI X S foX13_394 rfl dX13_doOffset_112 hf (fun v2 hf => ?_)
  refine g_aload_n X (or_rv _) dX13_doOffset_115 rfl (lv_at hl 1 rfl) ?_
  refine g_gI X S foX13_403 rfl dX13_doOffset_116 hf (fun v3 hf => ?_)
  refine lv_iadd X.1 X.2.1 dX13_doOffset_119 ?_
  refine lv_iload_n X.1 X.2.1 dX13_doOffset_120 rfl (lv_at hl 2 rfl) ?_
  refine lv_isub X.1 X.2.1 dX13_doOffset_121 ?_
  refine lv_bipush (v := 16) X.1 X.2.1 dX13_doOffset_122 (by decide) ?_
  refine lv_iload_n X.1 X.2.1 dX13_doOffset_124 rfl (lv_at hl 0 rfl) ?_
  refine lv_bipush (v := 15) X.1 X.2.1 dX13_doOffset_125 (by decide) ?_
  refine lv_iand X.1 X.2.1 dX13_doOffset_127 ?_
  refine lv_imul X.1 X.2.1 dX13_doOffset_128 ?_
  refine lv_iload X.1 X.2.1 dX13_doOffset_129 (lv_at hl 3 rfl) ?_
  refine lv_iadd X.1 X.2.1 dX13_doOffset_131 ?_
  refine g_qI X S dX13_doOffset_132 hf (fun h H locs hm hf S => ?_)
  obtain ⟨z4, ez4, hf⟩ := lt_some hf
  refine lv_iinc (v := z4) (lv' := [(3, .int z4), (2, .int y0), (0, rv x0), (4, .int x4)]) X.1 X.2.1 dX13_doOffset_133 hl (k := 2) rfl (by rw [← ez4]; rfl) (by decide) rfl (fun ls hl => ?_)
  refine lv_goto (tgt := 64) X.1 X.2.1 dX13_doOffset_136 (by decide) ?_
  exact hk64 _ _ _ _ _ _ _ (lv_sub hl [2, 1, 0] rfl) S hf
def fX13_doOffset_64 (k64 : Nat → Int32 → Int32 → Hp → Option (Hp)) (x0 : Nat) (x2 : Int32) (x3 : Int32) (h : Hp) : Option (Hp) := ob (gI 11 x0 35 h) fun v1 => if v1 < x3 then some h else lt (x2 >>> ((4 : Int32) &&& 31)) fun z3 => ob (gI 11 x0 37 h) fun v4 => if 0 ≤ (v4 - x3) then ob (gR 11 x0 3 h) fun v6 => ob (gI 11 x0 36 h) fun v7 => ob (gI 11 x0 37 h) fun v8 => ob (aI v6 ((v7 + v8) - x3) h) fun v9 => fX13_doOffset_106 k64 x0 x3 z3 v9 h else fX13_doOffset_106 k64 x0 x3 z3 0 h
theorem wfX13_doOffset_64 {k64 : Nat → Int32 → Int32 → Hp → Option (Hp)} {h9 : Hp} (X : Cx p E A 8 R s m args c cX13_doOffset yX13_doOffset.cls 5) (hr : meth.sig.returnType = none) (hlk : meth.locks = false) (hnm : meth.name = yX13_doOffset.name) (hk64 : ∀ (x0 : Nat) (x2 : Int32) (x3 : Int32) (h : Hp) (H : Heap) (locs : List Loc) (ls : Array Slot), lv_has ls 5 [(0, rv x0), (2, .int x2), (3, .int x3)] → St E A s h H locs → k64 x0 x2 x3 h = some h9 → W p l e R s m args below meth c H locs 0 0 (MQ below (Qv E A h9) args s 0 0 A) (F0 m 64 ls [])) :
    ∀ (x0 : Nat) (x2 : Int32) (x3 : Int32) (h : Hp) (H : Heap) (locs : List Loc) (ls : Array Slot), lv_has ls 5 [(0, rv x0), (2, .int x2), (3, .int x3)] → St E A s h H locs → fX13_doOffset_64 k64 x0 x2 x3 h = some h9 → W p l e R s m args below meth c H locs 0 0 (MQ below (Qv E A h9) args s 0 0 A) (F0 m 64 ls []) := by
  intro x0 x2 x3 h H locs ls hl S hf
  unfold fX13_doOffset_64 at hf
  refine lv_iload_n X.1 X.2.1 dX13_doOffset_64 rfl (lv_at hl 2 rfl) ?_
  refine g_aload_n X (or_rv _) dX13_doOffset_65 rfl (lv_at hl 0 rfl) ?_
  refine g_gI X S foX13_403 rfl dX13_doOffset_66 hf (fun v1 hf => ?_)
  refine lv_icmp_gt (tgt := 139) X.1 X.2.1 dX13_doOffset_69 (by decide) (fun c2 => ?_) (fun c2 => ?_)
  · replace hf := (if_pos c2).symm.trans hf
    cases hf; exact g_rv X S hr hlk dX13_doOffset_139
  · replace hf := (if_neg c2).symm.trans hf
    refine lv_iload_n X.1 X.2.1 dX13_doOffset_72 rfl (lv_at hl 1 rfl) ?_
    refine lv_iconst (v := 4) X.1 X.2.1 dX13_doOffset_73 (by decide) ?_
    refine lv_ishr X.1 X.2.1 dX13_doOffset_74 ?_
    refine g_lti hf (fun z3 hf => ?_)
    refine lv_istore (lv' := [(4, .int z3), (0, rv x0), (2, .int x2), (3, .int x3)]) X.1 X.2.1 dX13_doOffset_75 hl (by decide) rfl (fun ls hl => ?_)
    refine g_aload_n X (or_rv _) dX13_doOffset_77 rfl (lv_at hl 1 rfl) ?_
    refine g_gI X S foX13_406 rfl dX13_doOffset_78 hf (fun v4 hf => ?_)
    refine lv_iload_n X.1 X.2.1 dX13_doOffset_81 rfl (lv_at hl 3 rfl) ?_
    refine lv_isub X.1 X.2.1 dX13_doOffset_82 ?_
    refine lv_if_ge (tgt := 90) X.1 X.2.1 dX13_doOffset_83 (by decide) (fun c5 => ?_) (fun c5 => ?_)
    · replace hf := (if_pos c5).symm.trans hf
      refine g_aload_n X (or_rv _) dX13_doOffset_90 rfl (lv_at hl 1 rfl) ?_
      refine g_gR X S foX13_76 dX13_doOffset_91 hf (fun v6 hf => ?_)
      refine g_aload_n X (or_rv _) dX13_doOffset_94 rfl (lv_at hl 1 rfl) ?_
      refine g_gI X S foX13_397 rfl dX13_doOffset_95 hf (fun v7 hf => ?_)
      refine g_aload_n X (or_rv _) dX13_doOffset_98 rfl (lv_at hl 1 rfl) ?_
      refine g_gI X S foX13_406 rfl dX13_doOffset_99 hf (fun v8 hf => ?_)
      refine lv_iadd X.1 X.2.1 dX13_doOffset_102 ?_
      refine lv_iload_n X.1 X.2.1 dX13_doOffset_103 rfl (lv_at hl 3 rfl) ?_
      refine lv_isub X.1 X.2.1 dX13_doOffset_104 ?_
      refine g_aI X S dX13_doOffset_105 hf (fun v9 hf => ?_)
      exact wfX13_doOffset_106 X hr hlk hnm hk64 _ _ _ _ _ _ _ _ (lv_sub hl [1, 3, 0] rfl) S hf
    · replace hf := (if_neg c5).symm.trans hf
      refine lv_iconst (v := 0) X.1 X.2.1 dX13_doOffset_86 (by decide) ?_
      refine lv_goto (tgt := 106) X.1 X.2.1 dX13_doOffset_87 (by decide) ?_
      exact wfX13_doOffset_106 X hr hlk hnm hk64 _ _ _ _ _ _ _ _ (lv_sub hl [1, 3, 0] rfl) S hf
theorem wfX13_doOffset_64_l {h9 : Hp} (X : Cx p E A 8 R s m args c cX13_doOffset yX13_doOffset.cls 5) (hr : meth.sig.returnType = none) (hlk : meth.locks = false) (hnm : meth.name = yX13_doOffset.name) :
    ∀ (n : Nat) (x0 : Nat) (x2 : Int32) (x3 : Int32) (h : Hp) (H : Heap) (locs : List Loc) (ls : Array Slot), lv_has ls 5 [(0, rv x0), (2, .int x2), (3, .int x3)] → St E A s h H locs → lp (fun _ _ _ _ => none) (fX13_doOffset_64) n x0 x2 x3 h = some h9 → W p l e R s m args below meth c H locs 0 0 (MQ below (Qv E A h9) args s 0 0 A) (F0 m 64 ls []) := by
  intro n
  induction n with
  | zero =>
    intro x0 x2 x3 h H locs ls hl S hf
    exact nomatch hf
  | succ n ih =>
    intro x0 x2 x3 h H locs ls hl S hf
    exact wfX13_doOffset_64 X hr hlk hnm ih x0 x2 x3 h H locs ls hl S hf
def fX13_doOffset (a0 : Nat) (h : Hp) : Option (Hp) := gd 11 a0 h (ob (gR 11 a0 3 h) fun v1 => ob (gI 11 a0 34 h) fun v2 => ob (gI 11 a0 35 h) fun v3 => ob (aI v1 ((v2 + v3) - 1) h) fun v4 => lt (v4 &&& (15 : Int32)) fun z5 => ob (gR 11 a0 3 h) fun v6 => ob (gI 11 a0 36 h) fun v7 => ob (gI 11 a0 37 h) fun v8 => ob (aI v6 ((v7 + v8) - 1) h) fun v9 => ob (gR 11 a0 3 h) fun v10 => ob (gI 11 a0 34 h) fun v11 => ob (gI 11 a0 35 h) fun v12 => ob (qI v10 ((v11 + v12) - 1) ((16 * (v9 &&& (15 : Int32))) + z5) h) fun h => lp (fun _ _ _ _ => none) (fX13_doOffset_64) FU a0 v9 2 h)
theorem tkX13_doOffset {a0 : Nat} {h : Hp} {r9 : Hp} (e : fX13_doOffset a0 h = some r9) : hK h a0 = 11 := by
  unfold fX13_doOffset at e
  exact (gd_some e).1
theorem cX13_doOffset_m (l : Launch) {E : EE} {A : Nat → Prop} {a0 : Nat} {h : Hp} {h9 : Hp} (hf : fX13_doOffset a0 h = some h9) : Met l yX13_doOffset (wsM yX13_doOffset cX13_doOffset 5 none) (rmm 8 0 0) (PcE E A h [rv a0]) (Qv E A h9) 0 0 A := by
  refine met_of (by decide +kernel) (by simp [lg_sl, cat_rv, cat_wv, cat_sv, cat_i, cat_l, cat_a]) (fun p e s m args below meth c ls X hr hlk hnm S hl => ?_)
  have hl : lv_has ls 5 [(0, rv a0)] := by simpa [lv_args, cat_rv, cat_wv, cat_sv, cat_i, cat_l, cat_a] using hl
  generalize hH : s.heap = H at S ⊢
  generalize hlo : ([] : List Loc) = locs at S ⊢
  clear hH hlo
  unfold fX13_doOffset at hf
  obtain ⟨hth, hf⟩ := gd_some hf
  refine g_aload_n X (or_rv _) dX13_doOffset_0 rfl (lv_at hl 0 rfl) ?_
  refine g_gR X S foX13_76 dX13_doOffset_1 hf (fun v1 hf => ?_)
  refine g_aload_n X (or_rv _) dX13_doOffset_4 rfl (lv_at hl 0 rfl) ?_
  refine g_gI X S foX13_394 rfl dX13_doOffset_5 hf (fun v2 hf => ?_)
  refine g_aload_n X (or_rv _) dX13_doOffset_8 rfl (lv_at hl 0 rfl) ?_
  refine g_gI X S foX13_403 rfl dX13_doOffset_9 hf (fun v3 hf => ?_)
  refine lv_iadd X.1 X.2.1 dX13_doOffset_12 ?_
  refine lv_iconst (v := 1) X.1 X.2.1 dX13_doOffset_13 (by decide) ?_
  refine lv_isub X.1 X.2.1 dX13_doOffset_14 ?_
  refine g_aI X S dX13_doOffset_15 hf (fun v4 hf => ?_)
  refine lv_bipush (v := 15) X.1 X.2.1 dX13_doOffset_16 (by decide) ?_
  refine lv_iand X.1 X.2.1 dX13_doOffset_18 ?_
  refine g_lti hf (fun z5 hf => ?_)
  refine lv_istore_n (i := 1) (lv' := [(1, .int z5), (0, rv a0)]) X.1 X.2.1 dX13_doOffset_19 rfl hl (by decide) (by simp [List.filter, cat_rv, cat_wv, cat_sv]) (fun ls hl => ?_)
  refine g_aload_n X (or_rv _) dX13_doOffset_20 rfl (lv_at hl 1 rfl) ?_
  refine g_gR X S foX13_76 dX13_doOffset_21 hf (fun v6 hf => ?_)
  refine g_aload_n X (or_rv _) dX13_doOffset_24 rfl (lv_at hl 1 rfl) ?_
  refine g_gI X S foX13_397 rfl dX13_doOffset_25 hf (fun v7 hf => ?_)
  refine g_aload_n X (or_rv _) dX13_doOffset_28 rfl (lv_at hl 1 rfl) ?_
  refine g_gI X S foX13_406 rfl dX13_doOffset_29 hf (fun v8 hf => ?_)
  refine lv_iadd X.1 X.2.1 dX13_doOffset_32 ?_
  refine lv_iconst (v := 1) X.1 X.2.1 dX13_doOffset_33 (by decide) ?_
  refine lv_isub X.1 X.2.1 dX13_doOffset_34 ?_
  refine g_aI X S dX13_doOffset_35 hf (fun v9 hf => ?_)
  refine lv_istore_n (i := 2) (lv' := [(2, .int v9), (1, .int z5), (0, rv a0)]) X.1 X.2.1 dX13_doOffset_36 rfl hl (by decide) rfl (fun ls hl => ?_)
  refine g_aload_n X (or_rv _) dX13_doOffset_37 rfl (lv_at hl 2 rfl) ?_
  refine g_gR X S foX13_76 dX13_doOffset_38 hf (fun v10 hf => ?_)
  refine g_aload_n X (or_rv _) dX13_doOffset_41 rfl (lv_at hl 2 rfl) ?_
  refine g_gI X S foX13_394 rfl dX13_doOffset_42 hf (fun v11 hf => ?_)
  refine g_aload_n X (or_rv _) dX13_doOffset_45 rfl (lv_at hl 2 rfl) ?_
  refine g_gI X S foX13_403 rfl dX13_doOffset_46 hf (fun v12 hf => ?_)
  refine lv_iadd X.1 X.2.1 dX13_doOffset_49 ?_
  refine lv_iconst (v := 1) X.1 X.2.1 dX13_doOffset_50 (by decide) ?_
  refine lv_isub X.1 X.2.1 dX13_doOffset_51 ?_
  refine lv_bipush (v := 16) X.1 X.2.1 dX13_doOffset_52 (by decide) ?_
  refine lv_iload_n X.1 X.2.1 dX13_doOffset_54 rfl (lv_at hl 0 rfl) ?_
  refine lv_bipush (v := 15) X.1 X.2.1 dX13_doOffset_55 (by decide) ?_
  refine lv_iand X.1 X.2.1 dX13_doOffset_57 ?_
  refine lv_imul X.1 X.2.1 dX13_doOffset_58 ?_
  refine lv_iload_n X.1 X.2.1 dX13_doOffset_59 rfl (lv_at hl 1 rfl) ?_
  refine lv_iadd X.1 X.2.1 dX13_doOffset_60 ?_
  refine g_qI X S dX13_doOffset_61 hf (fun h H locs hm hf S => ?_)
  refine lv_iconst (v := 2) X.1 X.2.1 dX13_doOffset_62 (by decide) ?_
  refine lv_istore_n (i := 3) (lv' := [(3, .int 2), (2, .int v9), (1, .int z5), (0, rv a0)]) X.1 X.2.1 dX13_doOffset_63 rfl hl (by decide) rfl (fun ls hl => ?_)
  exact wfX13_doOffset_64_l X hr hlk hnm FU _ _ _ _ _ _ _ (lv_sub hl [3, 1, 0] rfl) S hf
def fX13_doCopy_34 (k2 : Nat → Int32 → Int32 → Hp → Option (Hp)) (x0 : Nat) (x1 : Int32) (x2 : Int32) (y0 : Int32) (h : Hp) : Option (Hp) := ob (gR 11 x0 3 h) fun v1 => ob (gI 11 x0 34 h) fun v2 => ob (gR 11 x0 3 h) fun v3 => ob (gI 11 x0 34 h) fun v4 => ob (aI v3 (v4 + x2) h) fun v5 => ob (gR 11 x0 3 h) fun v6 => ob (gI 11 x0 36 h) fun v7 => ob (aI v6 (v7 + x2) h) fun v8 => ob (qI v1 (v2 + x2) ((v5 &&& y0) ||| (v8 &&& (255 - y0))) h) fun h => lt (x2 + 1) fun z9 => k2 x0 x1 z9 h
theorem wfX13_doCopy_34 {k2 : Nat → Int32 → Int32 → Hp → Option (Hp)} {h9 : Hp} (X : Cx p E A 8 R s m args c cX13_doCopy yX13_doCopy.cls 4) (hr : meth.sig.returnType = none) (hlk : meth.locks = false) (hnm : meth.name = yX13_doCopy.name) (hk2 : ∀ (x0 : Nat) (x1 : Int32) (x2 : Int32) (h : Hp) (H : Heap) (locs : List Loc) (ls : Array Slot), lv_has ls 4 [(0, rv x0), (1, .int x1), (2, .int x2)] → St E A s h H locs → k2 x0 x1 x2 h = some h9 → W p l e R s m args below meth c H locs 0 0 (MQ below (Qv E A h9) args s 0 0 A) (F0 m 2 ls [])) :
    ∀ (x0 : Nat) (x1 : Int32) (x2 : Int32) (y0 : Int32) (h : Hp) (H : Heap) (locs : List Loc) (ls : Array Slot), lv_has ls 4 [(0, rv x0), (1, .int x1), (2, .int x2)] → St E A s h H locs → fX13_doCopy_34 k2 x0 x1 x2 y0 h = some h9 → W p l e R s m args below meth c H locs 0 0 (MQ below (Qv E A h9) args s 0 0 A) (F0 m 34 ls [.int y0]) := by
  intro x0 x1 x2 y0 h H locs ls hl S hf
  unfold fX13_doCopy_34 at hf
  refine lv_istore_n (i := 3) (lv' := [(3, .int y0), (0, rv x0), (1, .int x1), (2, .int x2)]) X.1 X.2.1 dX13_doCopy_34 rfl hl (by decide) rfl (fun ls hl => ?_)
  refine g_aload_n X (or_rv _) dX13_doCopy_35 rfl (lv_at hl 1 rfl) ?_
  refine g_gR X S foX13_76 dX13_doCopy_36 hf (fun v1 hf => ?_)
  refine g_aload_n X (or_rv _) dX13_doCopy_39 rfl (lv_at hl 1 rfl) ?_
  refine g_gI X S foX13_394 rfl dX13_doCopy_40 hf (fun v2 hf => ?_)
  refine lv_iload_n X.1 X.2.1 dX13_doCopy_43 rfl (lv_at hl 3 rfl) ?_
  refine lv_iadd X.1 X.2.1 dX13_doCopy_44 ?_
  refine g_aload_n X (or_rv _) dX13_doCopy_45 rfl (lv_at hl 1 rfl) ?_
  refine g_gR X S foX13_76 dX13_doCopy_46 hf (fun v3 hf => ?_)
  refine g_aload_n X (or_rv _) dX13_doCopy_49 rfl (lv_at hl 1 rfl) ?_
  refine g_gI X S foX13_394 rfl dX13_doCopy_50 hf (fun v4 hf => ?_)
  refine lv_iload_n X.1 X.2.1 dX13_doCopy_53 rfl (lv_at hl 3 rfl) ?_
  refine lv_iadd X.1 X.2.1 dX13_doCopy_54 ?_
  refine g_aI X S dX13_doCopy_55 hf (fun v5 hf => ?_)
  refine lv_iload_n X.1 X.2.1 dX13_doCopy_56 rfl (lv_at hl 0 rfl) ?_
  refine lv_iand X.1 X.2.1 dX13_doCopy_57 ?_
  refine g_aload_n X (or_rv _) dX13_doCopy_58 rfl (lv_at hl 1 rfl) ?_
  refine g_gR X S foX13_76 dX13_doCopy_59 hf (fun v6 hf => ?_)
  refine g_aload_n X (or_rv _) dX13_doCopy_62 rfl (lv_at hl 1 rfl) ?_
  refine g_gI X S foX13_397 rfl dX13_doCopy_63 hf (fun v7 hf => ?_)
  refine lv_iload_n X.1 X.2.1 dX13_doCopy_66 rfl (lv_at hl 3 rfl) ?_
  refine lv_iadd X.1 X.2.1 dX13_doCopy_67 ?_
  refine g_aI X S dX13_doCopy_68 hf (fun v8 hf => ?_)
  refine lv_sipush (v := 255) X.1 X.2.1 dX13_doCopy_69 (by decide) ?_
  refine lv_iload_n X.1 X.2.1 dX13_doCopy_72 rfl (lv_at hl 0 rfl) ?_
  refine lv_isub X.1 X.2.1 dX13_doCopy_73 ?_
  refine lv_iand X.1 X.2.1 dX13_doCopy_74 ?_
  refine lv_ior X.1 X.2.1 dX13_doCopy_75 ?_
  refine g_qI X S dX13_doCopy_76 hf (fun h H locs hm hf S => ?_)
  obtain ⟨z9, ez9, hf⟩ := lt_some hf
  refine lv_iinc (v := z9) (lv' := [(2, .int z9), (3, .int y0), (0, rv x0), (1, .int x1)]) X.1 X.2.1 dX13_doCopy_77 hl (k := 3) rfl (by rw [← ez9]; rfl) (by decide) rfl (fun ls hl => ?_)
  refine lv_goto (tgt := 2) X.1 X.2.1 dX13_doCopy_80 (by decide) ?_
  exact hk2 _ _ _ _ _ _ _ (lv_sub hl [2, 3, 0] rfl) S hf
def fX13_doCopy_2 (k2 : Nat → Int32 → Int32 → Hp → Option (Hp)) (x0 : Nat) (x1 : Int32) (x2 : Int32) (h : Hp) : Option (Hp) := ob (gI 11 x0 35 h) fun v1 => if v1 ≤ x2 then some h else if x1 = 9 then fX13_doCopy_34 k2 x0 x1 x2 0 h else if x1 = 10 then fX13_doCopy_34 k2 x0 x1 x2 240 h else fX13_doCopy_34 k2 x0 x1 x2 15 h
theorem wfX13_doCopy_2 {k2 : Nat → Int32 → Int32 → Hp → Option (Hp)} {h9 : Hp} (X : Cx p E A 8 R s m args c cX13_doCopy yX13_doCopy.cls 4) (hr : meth.sig.returnType = none) (hlk : meth.locks = false) (hnm : meth.name = yX13_doCopy.name) (hk2 : ∀ (x0 : Nat) (x1 : Int32) (x2 : Int32) (h : Hp) (H : Heap) (locs : List Loc) (ls : Array Slot), lv_has ls 4 [(0, rv x0), (1, .int x1), (2, .int x2)] → St E A s h H locs → k2 x0 x1 x2 h = some h9 → W p l e R s m args below meth c H locs 0 0 (MQ below (Qv E A h9) args s 0 0 A) (F0 m 2 ls [])) :
    ∀ (x0 : Nat) (x1 : Int32) (x2 : Int32) (h : Hp) (H : Heap) (locs : List Loc) (ls : Array Slot), lv_has ls 4 [(0, rv x0), (1, .int x1), (2, .int x2)] → St E A s h H locs → fX13_doCopy_2 k2 x0 x1 x2 h = some h9 → W p l e R s m args below meth c H locs 0 0 (MQ below (Qv E A h9) args s 0 0 A) (F0 m 2 ls []) := by
  intro x0 x1 x2 h H locs ls hl S hf
  unfold fX13_doCopy_2 at hf
  refine lv_iload_n X.1 X.2.1 dX13_doCopy_2 rfl (lv_at hl 2 rfl) ?_
  refine g_aload_n X (or_rv _) dX13_doCopy_3 rfl (lv_at hl 0 rfl) ?_
  refine g_gI X S foX13_403 rfl dX13_doCopy_4 hf (fun v1 hf => ?_)
  refine lv_icmp_ge (tgt := 83) X.1 X.2.1 dX13_doCopy_7 (by decide) (fun c2 => ?_) (fun c2 => ?_)
  · replace hf := (if_pos c2).symm.trans hf
    cases hf; exact g_rv X S hr hlk dX13_doCopy_83
  · replace hf := (if_neg c2).symm.trans hf
    refine lv_iload_n X.1 X.2.1 dX13_doCopy_10 rfl (lv_at hl 1 rfl) ?_
    refine lv_bipush (v := 9) X.1 X.2.1 dX13_doCopy_11 (by decide) ?_
    refine lv_icmp_ne (tgt := 20) X.1 X.2.1 dX13_doCopy_13 (by decide) (fun c3 => ?_) (fun c3 => ?_)
    · replace hf := (if_neg c3).symm.trans hf
      refine lv_iload_n X.1 X.2.1 dX13_doCopy_20 rfl (lv_at hl 1 rfl) ?_
      refine lv_bipush (v := 10) X.1 X.2.1 dX13_doCopy_21 (by decide) ?_
      refine lv_icmp_ne (tgt := 32) X.1 X.2.1 dX13_doCopy_23 (by decide) (fun c4 => ?_) (fun c4 => ?_)
      · replace hf := (if_neg c4).symm.trans hf
        refine lv_bipush (v := 15) X.1 X.2.1 dX13_doCopy_32 (by decide) ?_
        exact wfX13_doCopy_34 X hr hlk hnm hk2 _ _ _ _ _ _ _ _ hl S hf
      · replace hf := (if_pos c4).symm.trans hf
        refine lv_sipush (v := 240) X.1 X.2.1 dX13_doCopy_26 (by decide) ?_
        refine lv_goto (tgt := 34) X.1 X.2.1 dX13_doCopy_29 (by decide) ?_
        exact wfX13_doCopy_34 X hr hlk hnm hk2 _ _ _ _ _ _ _ _ hl S hf
    · replace hf := (if_pos c3).symm.trans hf
      refine lv_iconst (v := 0) X.1 X.2.1 dX13_doCopy_16 (by decide) ?_
      refine lv_goto (tgt := 34) X.1 X.2.1 dX13_doCopy_17 (by decide) ?_
      exact wfX13_doCopy_34 X hr hlk hnm hk2 _ _ _ _ _ _ _ _ hl S hf
theorem wfX13_doCopy_2_l {h9 : Hp} (X : Cx p E A 8 R s m args c cX13_doCopy yX13_doCopy.cls 4) (hr : meth.sig.returnType = none) (hlk : meth.locks = false) (hnm : meth.name = yX13_doCopy.name) :
    ∀ (n : Nat) (x0 : Nat) (x1 : Int32) (x2 : Int32) (h : Hp) (H : Heap) (locs : List Loc) (ls : Array Slot), lv_has ls 4 [(0, rv x0), (1, .int x1), (2, .int x2)] → St E A s h H locs → lp (fun _ _ _ _ => none) (fX13_doCopy_2) n x0 x1 x2 h = some h9 → W p l e R s m args below meth c H locs 0 0 (MQ below (Qv E A h9) args s 0 0 A) (F0 m 2 ls []) := by
  intro n
  induction n with
  | zero =>
    intro x0 x1 x2 h H locs ls hl S hf
    exact nomatch hf
  | succ n ih =>
    intro x0 x1 x2 h H locs ls hl S hf
    exact wfX13_doCopy_2 X hr hlk hnm ih x0 x1 x2 h H locs ls hl S hf
def fX13_doCopy (a0 : Nat) (a1 : Int32) (h : Hp) : Option (Hp) := gd 11 a0 h (lp (fun _ _ _ _ => none) (fX13_doCopy_2) FU a0 a1 0 h)
theorem tkX13_doCopy {a0 : Nat} {a1 : Int32} {h : Hp} {r9 : Hp} (e : fX13_doCopy a0 a1 h = some r9) : hK h a0 = 11 := by
  unfold fX13_doCopy at e
  exact (gd_some e).1
theorem cX13_doCopy_m (l : Launch) {E : EE} {A : Nat → Prop} {a0 : Nat} {a1 : Int32} {h : Hp} {h9 : Hp} (hf : fX13_doCopy a0 a1 h = some h9) : Met l yX13_doCopy (wsM yX13_doCopy cX13_doCopy 4 none) (rmm 8 0 0) (PcE E A h [rv a0, .int a1]) (Qv E A h9) 0 0 A := by
  refine met_of (by decide +kernel) (by simp [lg_sl, cat_rv, cat_wv, cat_sv, cat_i, cat_l, cat_a]) (fun p e s m args below meth c ls X hr hlk hnm S hl => ?_)
  have hl : lv_has ls 4 [(0, rv a0), (1, .int a1)] := by simpa [lv_args, cat_rv, cat_wv, cat_sv, cat_i, cat_l, cat_a] using hl
  generalize hH : s.heap = H at S ⊢
  generalize hlo : ([] : List Loc) = locs at S ⊢
  clear hH hlo
  unfold fX13_doCopy at hf
  obtain ⟨hth, hf⟩ := gd_some hf
  refine lv_iconst (v := 0) X.1 X.2.1 dX13_doCopy_0 (by decide) ?_
  refine lv_istore_n (i := 2) (lv' := [(2, .int 0), (0, rv a0), (1, .int a1)]) X.1 X.2.1 dX13_doCopy_1 rfl hl (by decide) rfl (fun ls hl => ?_)
  exact wfX13_doCopy_2_l X hr hlk hnm FU _ _ _ _ _ _ _ (lv_sub hl [1, 2, 0] rfl) S hf
def fX13_takeDigit_157 (x1 : Int32) (y0 : Int32) (y1 : Nat) (h : Hp) : Option (Int32 × Hp) := ob (pZ 11 y1 50 y0 h) fun h => some (x1, h)
theorem wfX13_takeDigit_157 {r9 : Int32} {h9 : Hp} (X : Cx p E A 10 R s m args c cX13_takeDigit yX13_takeDigit.cls 3) (hr : meth.sig.returnType = (some .int)) (hlk : meth.locks = false) (hnm : meth.name = yX13_takeDigit.name) :
    ∀ (x1 : Int32) (y0 : Int32) (y1 : Nat) (h : Hp) (H : Heap) (locs : List Loc) (ls : Array Slot), lv_has ls 3 [(1, .int x1)] → St E A s h H locs → fX13_takeDigit_157 x1 y0 y1 h = some (r9, h9) → W p l e R s m args below meth c H locs 0 0 (MQ below (Qi E A h9 r9) args s 0 0 A) (F0 m 157 ls [.int y0, rv y1]) := by
  intro x1 y0 y1 h H locs ls hl S hf
  unfold fX13_takeDigit_157 at hf
  refine g_pZ X S fpX13_500 (Or.inl rfl) dX13_takeDigit_157 hf (fun h H locs hm hf S => ?_)
  refine lv_iload_n X.1 X.2.1 dX13_takeDigit_160 rfl (lv_at hl 0 rfl) ?_
  cases hf; exact g_ri X S hr hlk dX13_takeDigit_161
def fX13_takeDigit_86 (x0 : Nat) (h : Hp) : Option (Int32 × Hp) := ob (gI 11 x0 38 h) fun v1 => if v1 = 0 then ob (gR 11 x0 3 h) fun v3 => ob (gI 11 x0 46 h) fun v4 => ob (aI v3 v4 h) fun v5 => lt (v5 >>> ((4 : Int32) &&& 31)) fun z6 => ob (gR 11 x0 3 h) fun v7 => ob (gI 11 x0 46 h) fun v8 => ob (aI v7 v8 h) fun v9 => lt (v9 &&& (15 : Int32)) fun z10 => ob (gI 11 x0 46 h) fun v11 => ob (pI 11 x0 46 (v11 + 1) h) fun h => if 10 ≤ z10 then ob (fX13_isBelow z10) fun v13 => if v13 = 0 then fX13_takeDigit_157 z6 1 x0 h else fX13_takeDigit_157 z6 0 x0 h else ob (pI 11 x0 47 z10 h) fun h => some (z6, h) else some (0, h)
theorem wfX13_takeDigit_86 {r9 : Int32} {h9 : Hp} (X : Cx p E A 10 R s m args c cX13_takeDigit yX13_takeDigit.cls 3) (hr : meth.sig.returnType = (some .int)) (hlk : meth.locks = false) (hnm : meth.name = yX13_takeDigit.name) :
    ∀ (x0 : Nat) (h : Hp) (H : Heap) (locs : List Loc) (ls : Array Slot), lv_has ls 3 [(0, rv x0)] → St E A s h H locs → fX13_takeDigit_86 x0 h = some (r9, h9) → W p l e R s m args below meth c H locs 0 0 (MQ below (Qi E A h9 r9) args s 0 0 A) (F0 m 86 ls []) := by
  intro x0 h H locs ls hl S hf
  unfold fX13_takeDigit_86 at hf
  refine g_aload_n X (or_rv _) dX13_takeDigit_86 rfl (lv_at hl 0 rfl) ?_
  refine g_gI X S foX13_388 rfl dX13_takeDigit_87 hf (fun v1 hf => ?_)
  refine lv_if_eq (tgt := 95) X.1 X.2.1 dX13_takeDigit_90 (by decide) (fun c2 => ?_) (fun c2 => ?_)
  · replace hf := (if_pos c2).symm.trans hf
    refine g_aload_n X (or_rv _) dX13_takeDigit_95 rfl (lv_at hl 0 rfl) ?_
    refine g_gR X S foX13_76 dX13_takeDigit_96 hf (fun v3 hf => ?_)
    refine g_aload_n X (or_rv _) dX13_takeDigit_99 rfl (lv_at hl 0 rfl) ?_
    refine g_gI X S foX13_506 rfl dX13_takeDigit_100 hf (fun v4 hf => ?_)
    refine g_aI X S dX13_takeDigit_103 hf (fun v5 hf => ?_)
    refine lv_iconst (v := 4) X.1 X.2.1 dX13_takeDigit_104 (by decide) ?_
    refine lv_ishr X.1 X.2.1 dX13_takeDigit_105 ?_
    refine g_lti hf (fun z6 hf => ?_)
    refine lv_istore_n (i := 1) (lv' := [(1, .int z6), (0, rv x0)]) X.1 X.2.1 dX13_takeDigit_106 rfl hl (by decide) (by simp [List.filter, cat_rv, cat_wv, cat_sv]) (fun ls hl => ?_)
    refine g_aload_n X (or_rv _) dX13_takeDigit_107 rfl (lv_at hl 1 rfl) ?_
    refine g_gR X S foX13_76 dX13_takeDigit_108 hf (fun v7 hf => ?_)
    refine g_aload_n X (or_rv _) dX13_takeDigit_111 rfl (lv_at hl 1 rfl) ?_
    refine g_gI X S foX13_506 rfl dX13_takeDigit_112 hf (fun v8 hf => ?_)
    refine g_aI X S dX13_takeDigit_115 hf (fun v9 hf => ?_)
    refine lv_bipush (v := 15) X.1 X.2.1 dX13_takeDigit_116 (by decide) ?_
    refine lv_iand X.1 X.2.1 dX13_takeDigit_118 ?_
    refine g_lti hf (fun z10 hf => ?_)
    refine lv_istore_n (i := 2) (lv' := [(2, .int z10), (1, .int z6), (0, rv x0)]) X.1 X.2.1 dX13_takeDigit_119 rfl hl (by decide) rfl (fun ls hl => ?_)
    refine g_aload_n X (or_rv _) dX13_takeDigit_120 rfl (lv_at hl 2 rfl) ?_
    refine lv_dup X.1 X.2.1 dX13_takeDigit_121 (cat_rv _) ?_
    refine g_gI X S foX13_506 rfl dX13_takeDigit_122 hf (fun v11 hf => ?_)
    refine lv_iconst (v := 1) X.1 X.2.1 dX13_takeDigit_125 (by decide) ?_
    refine lv_iadd X.1 X.2.1 dX13_takeDigit_126 ?_
    refine g_pI X S fpX13_506 (Or.inl rfl) dX13_takeDigit_127 hf (fun h H locs hm hf S => ?_)
    refine lv_iload_n X.1 X.2.1 dX13_takeDigit_130 rfl (lv_at hl 0 rfl) ?_
    refine lv_bipush (v := 10) X.1 X.2.1 dX13_takeDigit_131 (by decide) ?_
    refine lv_icmp_ge (tgt := 144) X.1 X.2.1 dX13_takeDigit_133 (by decide) (fun c12 => ?_) (fun c12 => ?_)
    · replace hf := (if_pos c12).symm.trans hf
      refine g_aload_n X (or_rv _) dX13_takeDigit_144 rfl (lv_at hl 2 rfl) ?_
      refine lv_iload_n X.1 X.2.1 dX13_takeDigit_145 rfl (lv_at hl 0 rfl) ?_
      obtain ⟨v13, hc, hf⟩ := ob_some hf
      refine g_ci S (runS (As := [.int z10]) (rest := [rv x0]) X S coX13_475 (by decide) (cX13_isBelow_m l hc) rfl hl.1 (by simp [cat_rv, cat_wv, cat_sv, cat_i, cat_l, cat_a]) rfl ⟨Nat.zero_le _, Nat.zero_le _⟩ dX13_takeDigit_146) (fun H locs S => ?_)
      refine lv_if_ne (tgt := 156) X.1 X.2.1 dX13_takeDigit_149 (by decide) (fun c14 => ?_) (fun c14 => ?_)
      · replace hf := (if_neg c14).symm.trans hf
        refine lv_iconst (v := 0) X.1 X.2.1 dX13_takeDigit_156 (by decide) ?_
        exact wfX13_takeDigit_157 X hr hlk hnm _ _ _ _ _ _ _ (lv_sub hl [1] rfl) S hf
      · replace hf := (if_pos c14).symm.trans hf
        refine lv_iconst (v := 1) X.1 X.2.1 dX13_takeDigit_152 (by decide) ?_
        refine lv_goto (tgt := 157) X.1 X.2.1 dX13_takeDigit_153 (by decide) ?_
        exact wfX13_takeDigit_157 X hr hlk hnm _ _ _ _ _ _ _ (lv_sub hl [1] rfl) S hf
    · replace hf := (if_neg c12).symm.trans hf
      refine g_aload_n X (or_rv _) dX13_takeDigit_136 rfl (lv_at hl 2 rfl) ?_
      refine lv_iload_n X.1 X.2.1 dX13_takeDigit_137 rfl (lv_at hl 0 rfl) ?_
      refine g_pI X S fpX13_503 (Or.inl rfl) dX13_takeDigit_138 hf (fun h H locs hm hf S => ?_)
      refine lv_goto (tgt := 160) X.1 X.2.1 dX13_takeDigit_141 (by decide) ?_
      refine lv_iload_n X.1 X.2.1 dX13_takeDigit_160 rfl (lv_at hl 1 rfl) ?_
      cases hf; exact g_ri X S hr hlk dX13_takeDigit_161
  · replace hf := (if_neg c2).symm.trans hf
    refine lv_iconst (v := 0) X.1 X.2.1 dX13_takeDigit_93 (by decide) ?_
    cases hf; exact g_ri X S hr hlk dX13_takeDigit_94
def fX13_takeDigit (a0 : Nat) (h : Hp) : Option (Int32 × Hp) := gd 11 a0 h (ob (pZ 11 a0 50 0 h) fun h => ob (gI 11 a0 47 h) fun v1 => if v1 = (-1) then ob (gI 11 a0 46 h) fun v3 => ob (pI 11 a0 36 v3 h) fun h => ob (pI 11 a0 37 1 h) fun h => ob (gI 11 a0 46 h) fun v4 => ob (fX13_isThere v4 1) fun v5 => if v5 = 0 then ob (fX13_raise a0 1 1 h) fun h => fX13_takeDigit_86 a0 h else ob (gR 11 a0 3 h) fun v7 => ob (gI 11 a0 46 h) fun v8 => ob (aI v7 v8 h) fun v9 => if (v9 >>> ((4 : Int32) &&& 31)) ≤ 9 then fX13_takeDigit_86 a0 h else ob (gI 11 a0 46 h) fun v11 => ob (fX13_raiseHalf a0 4 1 (2 * v11) h) fun h => fX13_takeDigit_86 a0 h else ob (gI 11 a0 47 h) fun v14 => ob (pI 11 a0 47 (-1) h) fun h => some (v14, h))
theorem tkX13_takeDigit {a0 : Nat} {h : Hp} {r9 : Int32 × Hp} (e : fX13_takeDigit a0 h = some r9) : hK h a0 = 11 := by
  unfold fX13_takeDigit at e
  exact (gd_some e).1
theorem cX13_takeDigit_m (l : Launch) {E : EE} {A : Nat → Prop} {a0 : Nat} {h : Hp} {r9 : Int32} {h9 : Hp} (hf : fX13_takeDigit a0 h = some (r9, h9)) : Met l yX13_takeDigit (wsM yX13_takeDigit cX13_takeDigit 3 (some .int)) (rmm 10 0 0) (PcE E A h [rv a0]) (Qi E A h9 r9) 0 0 A := by
  refine met_of (by decide +kernel) (by simp [lg_sl, cat_rv, cat_wv, cat_sv, cat_i, cat_l, cat_a]) (fun p e s m args below meth c ls X hr hlk hnm S hl => ?_)
  have hl : lv_has ls 3 [(0, rv a0)] := by simpa [lv_args, cat_rv, cat_wv, cat_sv, cat_i, cat_l, cat_a] using hl
  generalize hH : s.heap = H at S ⊢
  generalize hlo : ([] : List Loc) = locs at S ⊢
  clear hH hlo
  unfold fX13_takeDigit at hf
  obtain ⟨hth, hf⟩ := gd_some hf
  refine g_aload_n X (or_rv _) dX13_takeDigit_0 rfl (lv_at hl 0 rfl) ?_
  refine lv_iconst (v := 0) X.1 X.2.1 dX13_takeDigit_1 (by decide) ?_
  refine g_pZ X S fpX13_500 (Or.inl rfl) dX13_takeDigit_2 hf (fun h H locs hm hf S => ?_)
  refine g_aload_n X (or_rv _) dX13_takeDigit_5 rfl (lv_at hl 0 rfl) ?_
  refine g_gI X S foX13_503 rfl dX13_takeDigit_6 hf (fun v1 hf => ?_)
  refine lv_iconst (v := (-1)) X.1 X.2.1 dX13_takeDigit_9 (by decide) ?_
  refine lv_icmp_eq (tgt := 25) X.1 X.2.1 dX13_takeDigit_10 (by decide) (fun c2 => ?_) (fun c2 => ?_)
  · replace hf := (if_pos c2).symm.trans hf
    refine g_aload_n X (or_rv _) dX13_takeDigit_25 rfl (lv_at hl 0 rfl) ?_
    refine g_aload_n X (or_rv _) dX13_takeDigit_26 rfl (lv_at hl 0 rfl) ?_
    refine g_gI X S foX13_506 rfl dX13_takeDigit_27 hf (fun v3 hf => ?_)
    refine g_pI X S fpX13_397 (Or.inl rfl) dX13_takeDigit_30 hf (fun h H locs hm hf S => ?_)
    refine g_aload_n X (or_rv _) dX13_takeDigit_33 rfl (lv_at hl 0 rfl) ?_
    refine lv_iconst (v := 1) X.1 X.2.1 dX13_takeDigit_34 (by decide) ?_
    refine g_pI X S fpX13_406 (Or.inl rfl) dX13_takeDigit_35 hf (fun h H locs hm hf S => ?_)
    refine g_aload_n X (or_rv _) dX13_takeDigit_38 rfl (lv_at hl 0 rfl) ?_
    refine g_gI X S foX13_506 rfl dX13_takeDigit_39 hf (fun v4 hf => ?_)
    refine lv_iconst (v := 1) X.1 X.2.1 dX13_takeDigit_42 (by decide) ?_
    obtain ⟨v5, hc, hf⟩ := ob_some hf
    refine g_ci S (runS (As := [.int v4, .int 1]) (rest := []) X S coX13_427 (by decide) (cX13_isThere_m l hc) rfl hl.1 (by decide) rfl ⟨Nat.zero_le _, Nat.zero_le _⟩ dX13_takeDigit_43) (fun H locs S => ?_)
    refine lv_if_ne (tgt := 58) X.1 X.2.1 dX13_takeDigit_46 (by decide) (fun c6 => ?_) (fun c6 => ?_)
    · replace hf := (if_neg c6).symm.trans hf
      refine g_aload_n X (or_rv _) dX13_takeDigit_58 rfl (lv_at hl 0 rfl) ?_
      refine g_gR X S foX13_76 dX13_takeDigit_59 hf (fun v7 hf => ?_)
      refine g_aload_n X (or_rv _) dX13_takeDigit_62 rfl (lv_at hl 0 rfl) ?_
      refine g_gI X S foX13_506 rfl dX13_takeDigit_63 hf (fun v8 hf => ?_)
      refine g_aI X S dX13_takeDigit_66 hf (fun v9 hf => ?_)
      refine lv_iconst (v := 4) X.1 X.2.1 dX13_takeDigit_67 (by decide) ?_
      refine lv_ishr X.1 X.2.1 dX13_takeDigit_68 ?_
      refine lv_bipush (v := 9) X.1 X.2.1 dX13_takeDigit_69 (by decide) ?_
      refine lv_icmp_le (tgt := 86) X.1 X.2.1 dX13_takeDigit_71 (by decide) (fun c10 => ?_) (fun c10 => ?_)
      · replace hf := (if_pos c10).symm.trans hf
        exact wfX13_takeDigit_86 X hr hlk hnm _ _ _ _ _ hl S hf
      · replace hf := (if_neg c10).symm.trans hf
        refine g_aload_n X (or_rv _) dX13_takeDigit_74 rfl (lv_at hl 0 rfl) ?_
        refine lv_iconst (v := 4) X.1 X.2.1 dX13_takeDigit_75 (by decide) ?_
        refine lv_iconst (v := 1) X.1 X.2.1 dX13_takeDigit_76 (by decide) ?_
        refine lv_iconst (v := 2) X.1 X.2.1 dX13_takeDigit_77 (by decide) ?_
        refine g_aload_n X (or_rv _) dX13_takeDigit_78 rfl (lv_at hl 0 rfl) ?_
        refine g_gI X S foX13_506 rfl dX13_takeDigit_79 hf (fun v11 hf => ?_)
        refine lv_imul X.1 X.2.1 dX13_takeDigit_82 ?_
        obtain ⟨h, hc, hf⟩ := ob_some hf
        refine g_cv S (runV (As := [.int 4, .int 1, .int (2 * v11)]) (rest := []) X S coX13_437 (by decide) (cX13_raiseHalf_m l hc) (tkX13_raiseHalf hc) rfl hl.1 (by decide) rfl ⟨Nat.zero_le _, Nat.zero_le _⟩ dX13_takeDigit_83) (fun H locs S => ?_)
        exact wfX13_takeDigit_86 X hr hlk hnm _ _ _ _ _ hl S hf
    · replace hf := (if_pos c6).symm.trans hf
      refine g_aload_n X (or_rv _) dX13_takeDigit_49 rfl (lv_at hl 0 rfl) ?_
      refine lv_iconst (v := 1) X.1 X.2.1 dX13_takeDigit_50 (by decide) ?_
      refine lv_iconst (v := 1) X.1 X.2.1 dX13_takeDigit_51 (by decide) ?_
      obtain ⟨h, hc, hf⟩ := ob_some hf
      refine g_cv S (runV (As := [.int 1, .int 1]) (rest := []) X S coX13_415 (by decide) (cX13_raise_m l hc) (tkX13_raise hc) rfl hl.1 (by decide) rfl ⟨Nat.zero_le _, Nat.zero_le _⟩ dX13_takeDigit_52) (fun H locs S => ?_)
      refine lv_goto (tgt := 86) X.1 X.2.1 dX13_takeDigit_55 (by decide) ?_
      exact wfX13_takeDigit_86 X hr hlk hnm _ _ _ _ _ hl S hf
  · replace hf := (if_neg c2).symm.trans hf
    refine g_aload_n X (or_rv _) dX13_takeDigit_13 rfl (lv_at hl 0 rfl) ?_
    refine g_gI X S foX13_503 rfl dX13_takeDigit_14 hf (fun v14 hf => ?_)
    refine lv_istore_n (i := 1) (lv' := [(1, .int v14), (0, rv a0)]) X.1 X.2.1 dX13_takeDigit_17 rfl hl (by decide) (by simp [List.filter, cat_rv, cat_wv, cat_sv]) (fun ls hl => ?_)
    refine g_aload_n X (or_rv _) dX13_takeDigit_18 rfl (lv_at hl 1 rfl) ?_
    refine lv_iconst (v := (-1)) X.1 X.2.1 dX13_takeDigit_19 (by decide) ?_
    refine g_pI X S fpX13_503 (Or.inl rfl) dX13_takeDigit_20 hf (fun h H locs hm hf S => ?_)
    refine lv_iload_n X.1 X.2.1 dX13_takeDigit_23 rfl (lv_at hl 0 rfl) ?_
    cases hf; exact g_ri X S hr hlk dX13_takeDigit_24
def fX13_edited_18 (k23 : Nat → Int32 → Int32 → Int32 → Hp → Option (Int32 × Hp)) (x0 : Nat) (x1 : Int32) (x2 : Int32) (h : Hp) : Option (Int32 × Hp) := k23 x0 x1 x2 (240 + x2) h
theorem wfX13_edited_18 {k23 : Nat → Int32 → Int32 → Int32 → Hp → Option (Int32 × Hp)} {r9 : Int32} {h9 : Hp} (X : Cx p E A 8 R s m args c cX13_edited yX13_edited.cls 4) (hr : meth.sig.returnType = (some .int)) (hlk : meth.locks = false) (hnm : meth.name = yX13_edited.name) (hk23 : ∀ (x0 : Nat) (x1 : Int32) (x2 : Int32) (y0 : Int32) (h : Hp) (H : Heap) (locs : List Loc) (ls : Array Slot), lv_has ls 4 [(0, rv x0), (1, .int x1), (2, .int x2)] → St E A s h H locs → k23 x0 x1 x2 y0 h = some (r9, h9) → W p l e R s m args below meth c H locs 0 0 (MQ below (Qi E A h9 r9) args s 0 0 A) (F0 m 23 ls [.int y0])) :
    ∀ (x0 : Nat) (x1 : Int32) (x2 : Int32) (h : Hp) (H : Heap) (locs : List Loc) (ls : Array Slot), lv_has ls 4 [(0, rv x0), (1, .int x1), (2, .int x2)] → St E A s h H locs → fX13_edited_18 k23 x0 x1 x2 h = some (r9, h9) → W p l e R s m args below meth c H locs 0 0 (MQ below (Qi E A h9 r9) args s 0 0 A) (F0 m 18 ls []) := by
  intro x0 x1 x2 h H locs ls hl S hf
  unfold fX13_edited_18 at hf
  refine lv_sipush (v := 240) X.1 X.2.1 dX13_edited_18 (by decide) ?_
  refine lv_iload_n X.1 X.2.1 dX13_edited_21 rfl (lv_at hl 2 rfl) ?_
  refine lv_iadd X.1 X.2.1 dX13_edited_22 ?_
  exact hk23 _ _ _ _ _ _ _ _ hl S hf
def fX13_edited_42 (k47 : Nat → Int32 → Int32 → Nat → Hp → Option (Int32 × Hp)) (x0 : Nat) (x3 : Int32) (y0 : Nat) (h : Hp) : Option (Int32 × Hp) := k47 x0 x3 1 y0 h
theorem wfX13_edited_42 {k47 : Nat → Int32 → Int32 → Nat → Hp → Option (Int32 × Hp)} {r9 : Int32} {h9 : Hp} (X : Cx p E A 8 R s m args c cX13_edited yX13_edited.cls 4) (hr : meth.sig.returnType = (some .int)) (hlk : meth.locks = false) (hnm : meth.name = yX13_edited.name) (hk47 : ∀ (x0 : Nat) (x3 : Int32) (y0 : Int32) (y1 : Nat) (h : Hp) (H : Heap) (locs : List Loc) (ls : Array Slot), lv_has ls 4 [(0, rv x0), (3, .int x3)] → St E A s h H locs → k47 x0 x3 y0 y1 h = some (r9, h9) → W p l e R s m args below meth c H locs 0 0 (MQ below (Qi E A h9 r9) args s 0 0 A) (F0 m 47 ls [.int y0, rv y1])) :
    ∀ (x0 : Nat) (x3 : Int32) (y0 : Nat) (h : Hp) (H : Heap) (locs : List Loc) (ls : Array Slot), lv_has ls 4 [(0, rv x0), (3, .int x3)] → St E A s h H locs → fX13_edited_42 k47 x0 x3 y0 h = some (r9, h9) → W p l e R s m args below meth c H locs 0 0 (MQ below (Qi E A h9 r9) args s 0 0 A) (F0 m 42 ls [rv y0]) := by
  intro x0 x3 y0 h H locs ls hl S hf
  unfold fX13_edited_42 at hf
  refine lv_iconst (v := 1) X.1 X.2.1 dX13_edited_42 (by decide) ?_
  refine lv_goto (tgt := 47) X.1 X.2.1 dX13_edited_43 (by decide) ?_
  exact hk47 _ _ _ _ _ _ _ _ hl S hf
def fX13_edited_47 (x0 : Nat) (x3 : Int32) (y0 : Int32) (y1 : Nat) (h : Hp) : Option (Int32 × Hp) := ob (pZ 11 y1 49 y0 h) fun h => ob (gI 11 x0 50 h) fun v1 => if v1 = 0 then some (x3, h) else ob (pZ 11 x0 49 0 h) fun h => some (x3, h)
theorem wfX13_edited_47 {r9 : Int32} {h9 : Hp} (X : Cx p E A 8 R s m args c cX13_edited yX13_edited.cls 4) (hr : meth.sig.returnType = (some .int)) (hlk : meth.locks = false) (hnm : meth.name = yX13_edited.name) :
    ∀ (x0 : Nat) (x3 : Int32) (y0 : Int32) (y1 : Nat) (h : Hp) (H : Heap) (locs : List Loc) (ls : Array Slot), lv_has ls 4 [(0, rv x0), (3, .int x3)] → St E A s h H locs → fX13_edited_47 x0 x3 y0 y1 h = some (r9, h9) → W p l e R s m args below meth c H locs 0 0 (MQ below (Qi E A h9 r9) args s 0 0 A) (F0 m 47 ls [.int y0, rv y1]) := by
  intro x0 x3 y0 y1 h H locs ls hl S hf
  unfold fX13_edited_47 at hf
  refine g_pZ X S fpX13_509 (Or.inl rfl) dX13_edited_47 hf (fun h H locs hm hf S => ?_)
  refine g_aload_n X (or_rv _) dX13_edited_50 rfl (lv_at hl 0 rfl) ?_
  refine g_gI X S foX13_500 rfl dX13_edited_51 hf (fun v1 hf => ?_)
  refine lv_if_eq (tgt := 62) X.1 X.2.1 dX13_edited_54 (by decide) (fun c2 => ?_) (fun c2 => ?_)
  · replace hf := (if_pos c2).symm.trans hf
    refine lv_iload_n X.1 X.2.1 dX13_edited_62 rfl (lv_at hl 1 rfl) ?_
    cases hf; exact g_ri X S hr hlk dX13_edited_63
  · replace hf := (if_neg c2).symm.trans hf
    refine g_aload_n X (or_rv _) dX13_edited_57 rfl (lv_at hl 0 rfl) ?_
    refine lv_iconst (v := 0) X.1 X.2.1 dX13_edited_58 (by decide) ?_
    refine g_pZ X S fpX13_509 (Or.inl rfl) dX13_edited_59 hf (fun h H locs hm hf S => ?_)
    refine lv_iload_n X.1 X.2.1 dX13_edited_62 rfl (lv_at hl 1 rfl) ?_
    cases hf; exact g_ri X S hr hlk dX13_edited_63
def fX13_edited_23 (x0 : Nat) (x1 : Int32) (x2 : Int32) (y0 : Int32) (h : Hp) : Option (Int32 × Hp) := ob (gI 11 x0 49 h) fun v1 => if v1 = 0 then if x2 = 0 then if x1 = 33 then fX13_edited_42 fX13_edited_47 x0 y0 x0 h else fX13_edited_47 x0 y0 0 x0 h else fX13_edited_42 fX13_edited_47 x0 y0 x0 h else fX13_edited_42 fX13_edited_47 x0 y0 x0 h
theorem wfX13_edited_23 {r9 : Int32} {h9 : Hp} (X : Cx p E A 8 R s m args c cX13_edited yX13_edited.cls 4) (hr : meth.sig.returnType = (some .int)) (hlk : meth.locks = false) (hnm : meth.name = yX13_edited.name) :
    ∀ (x0 : Nat) (x1 : Int32) (x2 : Int32) (y0 : Int32) (h : Hp) (H : Heap) (locs : List Loc) (ls : Array Slot), lv_has ls 4 [(0, rv x0), (1, .int x1), (2, .int x2)] → St E A s h H locs → fX13_edited_23 x0 x1 x2 y0 h = some (r9, h9) → W p l e R s m args below meth c H locs 0 0 (MQ below (Qi E A h9 r9) args s 0 0 A) (F0 m 23 ls [.int y0]) := by
  intro x0 x1 x2 y0 h H locs ls hl S hf
  unfold fX13_edited_23 at hf
  refine lv_istore_n (i := 3) (lv' := [(3, .int y0), (0, rv x0), (1, .int x1), (2, .int x2)]) X.1 X.2.1 dX13_edited_23 rfl hl (by decide) rfl (fun ls hl => ?_)
  refine g_aload_n X (or_rv _) dX13_edited_24 rfl (lv_at hl 1 rfl) ?_
  refine g_aload_n X (or_rv _) dX13_edited_25 rfl (lv_at hl 1 rfl) ?_
  refine g_gI X S foX13_509 rfl dX13_edited_26 hf (fun v1 hf => ?_)
  refine lv_if_ne (tgt := 42) X.1 X.2.1 dX13_edited_29 (by decide) (fun c2 => ?_) (fun c2 => ?_)
  · replace hf := (if_neg c2).symm.trans hf
    exact wfX13_edited_42 X hr hlk hnm (wfX13_edited_47 X hr hlk hnm) _ _ _ _ _ _ _ (lv_sub hl [1, 0] rfl) S hf
  · replace hf := (if_pos c2).symm.trans hf
    refine lv_iload_n X.1 X.2.1 dX13_edited_32 rfl (lv_at hl 3 rfl) ?_
    refine lv_if_ne (tgt := 42) X.1 X.2.1 dX13_edited_33 (by decide) (fun c3 => ?_) (fun c3 => ?_)
    · replace hf := (if_neg c3).symm.trans hf
      exact wfX13_edited_42 X hr hlk hnm (wfX13_edited_47 X hr hlk hnm) _ _ _ _ _ _ _ (lv_sub hl [1, 0] rfl) S hf
    · replace hf := (if_pos c3).symm.trans hf
      refine lv_iload_n X.1 X.2.1 dX13_edited_36 rfl (lv_at hl 2 rfl) ?_
      refine lv_bipush (v := 33) X.1 X.2.1 dX13_edited_37 (by decide) ?_
      refine lv_icmp_ne (tgt := 46) X.1 X.2.1 dX13_edited_39 (by decide) (fun c4 => ?_) (fun c4 => ?_)
      · replace hf := (if_neg c4).symm.trans hf
        refine lv_iconst (v := 0) X.1 X.2.1 dX13_edited_46 (by decide) ?_
        exact wfX13_edited_47 X hr hlk hnm _ _ _ _ _ _ _ _ (lv_sub hl [1, 0] rfl) S hf
      · replace hf := (if_pos c4).symm.trans hf
        exact wfX13_edited_42 X hr hlk hnm (wfX13_edited_47 X hr hlk hnm) _ _ _ _ _ _ _ (lv_sub hl [1, 0] rfl) S hf
def fX13_edited (a0 : Nat) (a1 : Int32) (a2 : Int32) (h : Hp) : Option (Int32 × Hp) := gd 11 a0 h (if a2 = 0 then ob (gI 11 a0 49 h) fun v2 => if v2 = 0 then ob (gI 11 a0 48 h) fun v4 => fX13_edited_23 a0 a1 a2 v4 h else fX13_edited_18 fX13_edited_23 a0 a1 a2 h else fX13_edited_18 fX13_edited_23 a0 a1 a2 h)
theorem tkX13_edited {a0 : Nat} {a1 : Int32} {a2 : Int32} {h : Hp} {r9 : Int32 × Hp} (e : fX13_edited a0 a1 a2 h = some r9) : hK h a0 = 11 := by
  unfold fX13_edited at e
  exact (gd_some e).1
theorem cX13_edited_m (l : Launch) {E : EE} {A : Nat → Prop} {a0 : Nat} {a1 : Int32} {a2 : Int32} {h : Hp} {r9 : Int32} {h9 : Hp} (hf : fX13_edited a0 a1 a2 h = some (r9, h9)) : Met l yX13_edited (wsM yX13_edited cX13_edited 4 (some .int)) (rmm 8 0 0) (PcE E A h [rv a0, .int a1, .int a2]) (Qi E A h9 r9) 0 0 A := by
  refine met_of (by decide +kernel) (by simp [lg_sl, cat_rv, cat_wv, cat_sv, cat_i, cat_l, cat_a]) (fun p e s m args below meth c ls X hr hlk hnm S hl => ?_)
  have hl : lv_has ls 4 [(0, rv a0), (1, .int a1), (2, .int a2)] := by simpa [lv_args, cat_rv, cat_wv, cat_sv, cat_i, cat_l, cat_a] using hl
  generalize hH : s.heap = H at S ⊢
  generalize hlo : ([] : List Loc) = locs at S ⊢
  clear hH hlo
  unfold fX13_edited at hf
  obtain ⟨hth, hf⟩ := gd_some hf
  refine lv_iload_n X.1 X.2.1 dX13_edited_0 rfl (lv_at hl 2 rfl) ?_
  refine lv_if_ne (tgt := 18) X.1 X.2.1 dX13_edited_1 (by decide) (fun c1 => ?_) (fun c1 => ?_)
  · replace hf := (if_neg c1).symm.trans hf
    exact wfX13_edited_18 X hr hlk hnm (wfX13_edited_23 X hr hlk hnm) _ _ _ _ _ _ _ hl S hf
  · replace hf := (if_pos c1).symm.trans hf
    refine g_aload_n X (or_rv _) dX13_edited_4 rfl (lv_at hl 0 rfl) ?_
    refine g_gI X S foX13_509 rfl dX13_edited_5 hf (fun v2 hf => ?_)
    refine lv_if_ne (tgt := 18) X.1 X.2.1 dX13_edited_8 (by decide) (fun c3 => ?_) (fun c3 => ?_)
    · replace hf := (if_neg c3).symm.trans hf
      exact wfX13_edited_18 X hr hlk hnm (wfX13_edited_23 X hr hlk hnm) _ _ _ _ _ _ _ hl S hf
    · replace hf := (if_pos c3).symm.trans hf
      refine g_aload_n X (or_rv _) dX13_edited_11 rfl (lv_at hl 0 rfl) ?_
      refine g_gI X S foX13_512 rfl dX13_edited_12 hf (fun v4 hf => ?_)
      refine lv_goto (tgt := 23) X.1 X.2.1 dX13_edited_15 (by decide) ?_
      exact wfX13_edited_23 X hr hlk hnm _ _ _ _ _ _ _ _ hl S hf
def fX13_doEdit_181 (k186 : Nat → Int32 → Int32 → Int32 → Int32 → Int32 → Int32 → Nat → Hp → Option (Hp)) (x0 : Nat) (x1 : Int32) (x2 : Int32) (x3 : Int32) (x4 : Int32) (x5 : Int32) (y0 : Nat) (h : Hp) : Option (Hp) := k186 x0 x1 x2 x3 x4 x5 1 y0 h
theorem wfX13_doEdit_181 {k186 : Nat → Int32 → Int32 → Int32 → Int32 → Int32 → Int32 → Nat → Hp → Option (Hp)} {h9 : Hp} (X : Cx p E A 11 R s m args c cX13_doEdit yX13_doEdit.cls 6) (hr : meth.sig.returnType = none) (hlk : meth.locks = false) (hnm : meth.name = yX13_doEdit.name) (hk186 : ∀ (x0 : Nat) (x1 : Int32) (x2 : Int32) (x3 : Int32) (x4 : Int32) (x5 : Int32) (y0 : Int32) (y1 : Nat) (h : Hp) (H : Heap) (locs : List Loc) (ls : Array Slot), lv_has ls 6 [(0, rv x0), (1, .int x1), (2, .int x2), (3, .int x3), (4, .int x4), (5, .int x5)] → St E A s h H locs → k186 x0 x1 x2 x3 x4 x5 y0 y1 h = some h9 → W p l e R s m args below meth c H locs 0 0 (MQ below (Qv E A h9) args s 0 0 A) (F0 m 186 ls [.int y0, rv y1])) :
    ∀ (x0 : Nat) (x1 : Int32) (x2 : Int32) (x3 : Int32) (x4 : Int32) (x5 : Int32) (y0 : Nat) (h : Hp) (H : Heap) (locs : List Loc) (ls : Array Slot), lv_has ls 6 [(0, rv x0), (1, .int x1), (2, .int x2), (3, .int x3), (4, .int x4), (5, .int x5)] → St E A s h H locs → fX13_doEdit_181 k186 x0 x1 x2 x3 x4 x5 y0 h = some h9 → W p l e R s m args below meth c H locs 0 0 (MQ below (Qv E A h9) args s 0 0 A) (F0 m 181 ls [rv y0]) := by
  intro x0 x1 x2 x3 x4 x5 y0 h H locs ls hl S hf
  unfold fX13_doEdit_181 at hf
  refine lv_iconst (v := 1) X.1 X.2.1 dX13_doEdit_181 (by decide) ?_
  refine lv_goto (tgt := 186) X.1 X.2.1 dX13_doEdit_182 (by decide) ?_
  exact hk186 _ _ _ _ _ _ _ _ _ _ _ _ hl S hf
def fX13_doEdit_186 (k80 : Nat → Int32 → Int32 → Int32 → Hp → Option (Hp)) (x0 : Nat) (x1 : Int32) (x2 : Int32) (x3 : Int32) (x4 : Int32) (x5 : Int32) (y0 : Int32) (y1 : Nat) (h : Hp) : Option (Hp) := ob (pZ 11 y1 51 y0 h) fun h => ob (gR 11 x0 3 h) fun v1 => ob (gI 11 x0 34 h) fun v2 => ob2 (fX13_edited x0 x4 x5 h) fun v3 h => ob (qI v1 (v2 + x3) v3 h) fun h => lt (x3 + 1) fun z4 => k80 x0 x1 x2 z4 h
theorem wfX13_doEdit_186 {k80 : Nat → Int32 → Int32 → Int32 → Hp → Option (Hp)} {h9 : Hp} (X : Cx p E A 11 R s m args c cX13_doEdit yX13_doEdit.cls 6) (hr : meth.sig.returnType = none) (hlk : meth.locks = false) (hnm : meth.name = yX13_doEdit.name) (hk80 : ∀ (x0 : Nat) (x1 : Int32) (x2 : Int32) (x3 : Int32) (h : Hp) (H : Heap) (locs : List Loc) (ls : Array Slot), lv_has ls 6 [(0, rv x0), (1, .int x1), (2, .int x2), (3, .int x3)] → St E A s h H locs → k80 x0 x1 x2 x3 h = some h9 → W p l e R s m args below meth c H locs 0 0 (MQ below (Qv E A h9) args s 0 0 A) (F0 m 80 ls [])) :
    ∀ (x0 : Nat) (x1 : Int32) (x2 : Int32) (x3 : Int32) (x4 : Int32) (x5 : Int32) (y0 : Int32) (y1 : Nat) (h : Hp) (H : Heap) (locs : List Loc) (ls : Array Slot), lv_has ls 6 [(0, rv x0), (1, .int x1), (2, .int x2), (3, .int x3), (4, .int x4), (5, .int x5)] → St E A s h H locs → fX13_doEdit_186 k80 x0 x1 x2 x3 x4 x5 y0 y1 h = some h9 → W p l e R s m args below meth c H locs 0 0 (MQ below (Qv E A h9) args s 0 0 A) (F0 m 186 ls [.int y0, rv y1]) := by
  intro x0 x1 x2 x3 x4 x5 y0 y1 h H locs ls hl S hf
  unfold fX13_doEdit_186 at hf
  refine g_pZ X S fpX13_515 (Or.inl rfl) dX13_doEdit_186 hf (fun h H locs hm hf S => ?_)
  refine g_aload_n X (or_rv _) dX13_doEdit_189 rfl (lv_at hl 0 rfl) ?_
  refine g_gR X S foX13_76 dX13_doEdit_190 hf (fun v1 hf => ?_)
  refine g_aload_n X (or_rv _) dX13_doEdit_193 rfl (lv_at hl 0 rfl) ?_
  refine g_gI X S foX13_394 rfl dX13_doEdit_194 hf (fun v2 hf => ?_)
  refine lv_iload_n X.1 X.2.1 dX13_doEdit_197 rfl (lv_at hl 3 rfl) ?_
  refine lv_iadd X.1 X.2.1 dX13_doEdit_198 ?_
  refine g_aload_n X (or_rv _) dX13_doEdit_199 rfl (lv_at hl 0 rfl) ?_
  refine lv_iload X.1 X.2.1 dX13_doEdit_200 (lv_at hl 4 rfl) ?_
  refine lv_iload X.1 X.2.1 dX13_doEdit_202 (lv_at hl 5 rfl) ?_
  obtain ⟨v3, h, hc, hf⟩ := ob2_some hf
  refine g_ci S (runV (As := [.int x4, .int x5]) (rest := [.int (v2 + x3), rv v1]) X S coX13_521 (by decide) (cX13_edited_m l hc) (tkX13_edited hc) rfl hl.1 (by simp [cat_rv, cat_wv, cat_sv, cat_i, cat_l, cat_a]) rfl ⟨Nat.zero_le _, Nat.zero_le _⟩ dX13_doEdit_204) (fun H locs S => ?_)
  refine g_qI X S dX13_doEdit_207 hf (fun h H locs hm hf S => ?_)
  refine lv_goto (tgt := 268) X.1 X.2.1 dX13_doEdit_208 (by decide) ?_
  obtain ⟨z4, ez4, hf⟩ := lt_some hf
  refine lv_iinc (v := z4) (lv' := [(3, .int z4), (0, rv x0), (1, .int x1), (2, .int x2), (4, .int x4), (5, .int x5)]) X.1 X.2.1 dX13_doEdit_268 hl (k := 3) rfl (by rw [← ez4]; rfl) (by decide) rfl (fun ls hl => ?_)
  refine lv_goto (tgt := 80) X.1 X.2.1 dX13_doEdit_271 (by decide) ?_
  exact hk80 _ _ _ _ _ _ _ _ (lv_sub hl [1, 2, 3, 0] rfl) S hf
def fX13_doEdit_168 (k80 : Nat → Int32 → Int32 → Int32 → Hp → Option (Hp)) (x0 : Nat) (x1 : Int32) (x2 : Int32) (x3 : Int32) (x4 : Int32) (x5 : Int32) (h : Hp) : Option (Hp) := ob (gI 11 x0 51 h) fun v1 => if v1 = 0 then if x5 = 0 then fX13_doEdit_186 k80 x0 x1 x2 x3 x4 x5 0 x0 h else fX13_doEdit_181 (fX13_doEdit_186 k80) x0 x1 x2 x3 x4 x5 x0 h else fX13_doEdit_181 (fX13_doEdit_186 k80) x0 x1 x2 x3 x4 x5 x0 h
theorem wfX13_doEdit_168 {k80 : Nat → Int32 → Int32 → Int32 → Hp → Option (Hp)} {h9 : Hp} (X : Cx p E A 11 R s m args c cX13_doEdit yX13_doEdit.cls 6) (hr : meth.sig.returnType = none) (hlk : meth.locks = false) (hnm : meth.name = yX13_doEdit.name) (hk80 : ∀ (x0 : Nat) (x1 : Int32) (x2 : Int32) (x3 : Int32) (h : Hp) (H : Heap) (locs : List Loc) (ls : Array Slot), lv_has ls 6 [(0, rv x0), (1, .int x1), (2, .int x2), (3, .int x3)] → St E A s h H locs → k80 x0 x1 x2 x3 h = some h9 → W p l e R s m args below meth c H locs 0 0 (MQ below (Qv E A h9) args s 0 0 A) (F0 m 80 ls [])) :
    ∀ (x0 : Nat) (x1 : Int32) (x2 : Int32) (x3 : Int32) (x4 : Int32) (x5 : Int32) (h : Hp) (H : Heap) (locs : List Loc) (ls : Array Slot), lv_has ls 6 [(0, rv x0), (1, .int x1), (2, .int x2), (3, .int x3), (4, .int x4), (5, .int x5)] → St E A s h H locs → fX13_doEdit_168 k80 x0 x1 x2 x3 x4 x5 h = some h9 → W p l e R s m args below meth c H locs 0 0 (MQ below (Qv E A h9) args s 0 0 A) (F0 m 168 ls []) := by
  intro x0 x1 x2 x3 x4 x5 h H locs ls hl S hf
  unfold fX13_doEdit_168 at hf
  refine g_aload_n X (or_rv _) dX13_doEdit_168 rfl (lv_at hl 0 rfl) ?_
  refine g_aload_n X (or_rv _) dX13_doEdit_169 rfl (lv_at hl 0 rfl) ?_
  refine g_gI X S foX13_515 rfl dX13_doEdit_170 hf (fun v1 hf => ?_)
  refine lv_if_ne (tgt := 181) X.1 X.2.1 dX13_doEdit_173 (by decide) (fun c2 => ?_) (fun c2 => ?_)
  · replace hf := (if_neg c2).symm.trans hf
    exact wfX13_doEdit_181 X hr hlk hnm (wfX13_doEdit_186 X hr hlk hnm hk80) _ _ _ _ _ _ _ _ _ _ _ hl S hf
  · replace hf := (if_pos c2).symm.trans hf
    refine lv_iload X.1 X.2.1 dX13_doEdit_176 (lv_at hl 5 rfl) ?_
    refine lv_if_eq (tgt := 185) X.1 X.2.1 dX13_doEdit_178 (by decide) (fun c3 => ?_) (fun c3 => ?_)
    · replace hf := (if_pos c3).symm.trans hf
      refine lv_iconst (v := 0) X.1 X.2.1 dX13_doEdit_185 (by decide) ?_
      exact wfX13_doEdit_186 X hr hlk hnm hk80 _ _ _ _ _ _ _ _ _ _ _ _ hl S hf
    · replace hf := (if_neg c3).symm.trans hf
      exact wfX13_doEdit_181 X hr hlk hnm (wfX13_doEdit_186 X hr hlk hnm hk80) _ _ _ _ _ _ _ _ _ _ _ hl S hf
def fX13_doEdit_122 (k80 : Nat → Int32 → Int32 → Int32 → Hp → Option (Hp)) (k274 : Nat → Int32 → Hp → Option (Hp)) (x0 : Nat) (x1 : Int32) (x2 : Int32) (x3 : Int32) (x4 : Int32) (h : Hp) : Option (Hp) := ob2 (fX13_takeDigit x0 h) fun v1 h => ob (gI 11 x0 38 h) fun v2 => if v2 = 0 then if x1 = 0 then fX13_doEdit_168 k80 x0 x1 x2 x3 x4 v1 h else if v1 = 0 then fX13_doEdit_168 k80 x0 x1 x2 x3 x4 v1 h else ob (gI 11 x0 49 h) fun v6 => if v6 = 0 then ob (gR 11 x0 3 h) fun v8 => ob (gI 11 x0 34 h) fun v9 => ob (qI v8 257 (v9 + x3) h) fun h => fX13_doEdit_168 k80 x0 x1 x2 x3 x4 v1 h else fX13_doEdit_168 k80 x0 x1 x2 x3 x4 v1 h else k274 x0 x2 h
theorem wfX13_doEdit_122 {k80 : Nat → Int32 → Int32 → Int32 → Hp → Option (Hp)} {k274 : Nat → Int32 → Hp → Option (Hp)} {h9 : Hp} (X : Cx p E A 11 R s m args c cX13_doEdit yX13_doEdit.cls 6) (hr : meth.sig.returnType = none) (hlk : meth.locks = false) (hnm : meth.name = yX13_doEdit.name) (hk80 : ∀ (x0 : Nat) (x1 : Int32) (x2 : Int32) (x3 : Int32) (h : Hp) (H : Heap) (locs : List Loc) (ls : Array Slot), lv_has ls 6 [(0, rv x0), (1, .int x1), (2, .int x2), (3, .int x3)] → St E A s h H locs → k80 x0 x1 x2 x3 h = some h9 → W p l e R s m args below meth c H locs 0 0 (MQ below (Qv E A h9) args s 0 0 A) (F0 m 80 ls [])) (hk274 : ∀ (x0 : Nat) (x2 : Int32) (h : Hp) (H : Heap) (locs : List Loc) (ls : Array Slot), lv_has ls 6 [(0, rv x0), (2, .int x2)] → St E A s h H locs → k274 x0 x2 h = some h9 → W p l e R s m args below meth c H locs 0 0 (MQ below (Qv E A h9) args s 0 0 A) (F0 m 274 ls [])) :
    ∀ (x0 : Nat) (x1 : Int32) (x2 : Int32) (x3 : Int32) (x4 : Int32) (h : Hp) (H : Heap) (locs : List Loc) (ls : Array Slot), lv_has ls 6 [(0, rv x0), (1, .int x1), (2, .int x2), (3, .int x3), (4, .int x4)] → St E A s h H locs → fX13_doEdit_122 k80 k274 x0 x1 x2 x3 x4 h = some h9 → W p l e R s m args below meth c H locs 0 0 (MQ below (Qv E A h9) args s 0 0 A) (F0 m 122 ls []) := by
  intro x0 x1 x2 x3 x4 h H locs ls hl S hf
  unfold fX13_doEdit_122 at hf
  refine g_aload_n X (or_rv _) dX13_doEdit_122 rfl (lv_at hl 0 rfl) ?_
  obtain ⟨v1, h, hc, hf⟩ := ob2_some hf
  refine g_ci S (runV (As := []) (rest := []) X S coX13_518 (by decide) (cX13_takeDigit_m l hc) (tkX13_takeDigit hc) rfl hl.1 (by decide) rfl ⟨Nat.zero_le _, Nat.zero_le _⟩ dX13_doEdit_123) (fun H locs S => ?_)
  refine lv_istore (lv' := [(5, .int v1), (0, rv x0), (1, .int x1), (2, .int x2), (3, .int x3), (4, .int x4)]) X.1 X.2.1 dX13_doEdit_126 hl (by decide) rfl (fun ls hl => ?_)
  refine g_aload_n X (or_rv _) dX13_doEdit_128 rfl (lv_at hl 1 rfl) ?_
  refine g_gI X S foX13_388 rfl dX13_doEdit_129 hf (fun v2 hf => ?_)
  refine lv_if_eq (tgt := 138) X.1 X.2.1 dX13_doEdit_132 (by decide) (fun c3 => ?_) (fun c3 => ?_)
  · replace hf := (if_pos c3).symm.trans hf
    refine lv_iload_n X.1 X.2.1 dX13_doEdit_138 rfl (lv_at hl 2 rfl) ?_
    refine lv_if_eq (tgt := 168) X.1 X.2.1 dX13_doEdit_139 (by decide) (fun c4 => ?_) (fun c4 => ?_)
    · replace hf := (if_pos c4).symm.trans hf
      exact wfX13_doEdit_168 X hr hlk hnm hk80 _ _ _ _ _ _ _ _ _ _ (lv_sub hl [1, 2, 3, 4, 5, 0] rfl) S hf
    · replace hf := (if_neg c4).symm.trans hf
      refine lv_iload X.1 X.2.1 dX13_doEdit_142 (lv_at hl 0 rfl) ?_
      refine lv_if_eq (tgt := 168) X.1 X.2.1 dX13_doEdit_144 (by decide) (fun c5 => ?_) (fun c5 => ?_)
      · replace hf := (if_pos c5).symm.trans hf
        exact wfX13_doEdit_168 X hr hlk hnm hk80 _ _ _ _ _ _ _ _ _ _ (lv_sub hl [1, 2, 3, 4, 5, 0] rfl) S hf
      · replace hf := (if_neg c5).symm.trans hf
        refine g_aload_n X (or_rv _) dX13_doEdit_147 rfl (lv_at hl 1 rfl) ?_
        refine g_gI X S foX13_509 rfl dX13_doEdit_148 hf (fun v6 hf => ?_)
        refine lv_if_ne (tgt := 168) X.1 X.2.1 dX13_doEdit_151 (by decide) (fun c7 => ?_) (fun c7 => ?_)
        · replace hf := (if_neg c7).symm.trans hf
          exact wfX13_doEdit_168 X hr hlk hnm hk80 _ _ _ _ _ _ _ _ _ _ (lv_sub hl [1, 2, 3, 4, 5, 0] rfl) S hf
        · replace hf := (if_pos c7).symm.trans hf
          refine g_aload_n X (or_rv _) dX13_doEdit_154 rfl (lv_at hl 1 rfl) ?_
          refine g_gR X S foX13_76 dX13_doEdit_155 hf (fun v8 hf => ?_)
          refine lv_sipush (v := 257) X.1 X.2.1 dX13_doEdit_158 (by decide) ?_
          refine g_aload_n X (or_rv _) dX13_doEdit_161 rfl (lv_at hl 1 rfl) ?_
          refine g_gI X S foX13_394 rfl dX13_doEdit_162 hf (fun v9 hf => ?_)
          refine lv_iload_n X.1 X.2.1 dX13_doEdit_165 rfl (lv_at hl 4 rfl) ?_
          refine lv_iadd X.1 X.2.1 dX13_doEdit_166 ?_
          refine g_qI X S dX13_doEdit_167 hf (fun h H locs hm hf S => ?_)
          exact wfX13_doEdit_168 X hr hlk hnm hk80 _ _ _ _ _ _ _ _ _ _ (lv_sub hl [1, 2, 3, 4, 5, 0] rfl) S hf
  · replace hf := (if_neg c3).symm.trans hf
    refine lv_goto (tgt := 274) X.1 X.2.1 dX13_doEdit_135 (by decide) ?_
    exact hk274 _ _ _ _ _ _ (lv_sub hl [1, 3] rfl) S hf
def fX13_doEdit_311 (y0 : Int32) (y1 : Int32) (y2 : Nat) (h : Hp) : Option (Hp) := ob (qI y2 y1 y0 h) fun h => some h
theorem wfX13_doEdit_311 {h9 : Hp} (X : Cx p E A 11 R s m args c cX13_doEdit yX13_doEdit.cls 6) (hr : meth.sig.returnType = none) (hlk : meth.locks = false) (hnm : meth.name = yX13_doEdit.name) :
    ∀ (y0 : Int32) (y1 : Int32) (y2 : Nat) (h : Hp) (H : Heap) (locs : List Loc) (ls : Array Slot), lv_has ls 6 [] → St E A s h H locs → fX13_doEdit_311 y0 y1 y2 h = some h9 → W p l e R s m args below meth c H locs 0 0 (MQ below (Qv E A h9) args s 0 0 A) (F0 m 311 ls [.int y0, .int y1, rv y2]) := by
  intro y0 y1 y2 h H locs ls hl S hf
  unfold fX13_doEdit_311 at hf
  refine g_qI X S dX13_doEdit_311 hf (fun h H locs hm hf S => ?_)
  cases hf; exact g_rv X S hr hlk dX13_doEdit_312
def fX13_doEdit_324 (k324 : Nat → Int32 → Hp → Option (Hp)) (x0 : Nat) (x3 : Int32) (h : Hp) : Option (Hp) := ob (gI 11 x0 35 h) fun v1 => if v1 ≤ x3 then some h else ob (gR 11 x0 3 h) fun v3 => ob (gI 11 x0 34 h) fun v4 => ob (gR 11 x0 45 h) fun v5 => ob (aI v5 x3 h) fun v6 => ob (qI v3 (v4 + x3) v6 h) fun h => lt (x3 + 1) fun z7 => k324 x0 z7 h
theorem wfX13_doEdit_324 {k324 : Nat → Int32 → Hp → Option (Hp)} {h9 : Hp} (X : Cx p E A 11 R s m args c cX13_doEdit yX13_doEdit.cls 6) (hr : meth.sig.returnType = none) (hlk : meth.locks = false) (hnm : meth.name = yX13_doEdit.name) (hk324 : ∀ (x0 : Nat) (x3 : Int32) (h : Hp) (H : Heap) (locs : List Loc) (ls : Array Slot), lv_has ls 6 [(0, rv x0), (3, .int x3)] → St E A s h H locs → k324 x0 x3 h = some h9 → W p l e R s m args below meth c H locs 0 0 (MQ below (Qv E A h9) args s 0 0 A) (F0 m 324 ls [])) :
    ∀ (x0 : Nat) (x3 : Int32) (h : Hp) (H : Heap) (locs : List Loc) (ls : Array Slot), lv_has ls 6 [(0, rv x0), (3, .int x3)] → St E A s h H locs → fX13_doEdit_324 k324 x0 x3 h = some h9 → W p l e R s m args below meth c H locs 0 0 (MQ below (Qv E A h9) args s 0 0 A) (F0 m 324 ls []) := by
  intro x0 x3 h H locs ls hl S hf
  unfold fX13_doEdit_324 at hf
  refine lv_iload_n X.1 X.2.1 dX13_doEdit_324 rfl (lv_at hl 1 rfl) ?_
  refine g_aload_n X (or_rv _) dX13_doEdit_325 rfl (lv_at hl 0 rfl) ?_
  refine g_gI X S foX13_403 rfl dX13_doEdit_326 hf (fun v1 hf => ?_)
  refine lv_icmp_ge (tgt := 355) X.1 X.2.1 dX13_doEdit_329 (by decide) (fun c2 => ?_) (fun c2 => ?_)
  · replace hf := (if_pos c2).symm.trans hf
    cases hf; exact g_rv X S hr hlk dX13_doEdit_355
  · replace hf := (if_neg c2).symm.trans hf
    refine g_aload_n X (or_rv _) dX13_doEdit_332 rfl (lv_at hl 0 rfl) ?_
    refine g_gR X S foX13_76 dX13_doEdit_333 hf (fun v3 hf => ?_)
    refine g_aload_n X (or_rv _) dX13_doEdit_336 rfl (lv_at hl 0 rfl) ?_
    refine g_gI X S foX13_394 rfl dX13_doEdit_337 hf (fun v4 hf => ?_)
    refine lv_iload_n X.1 X.2.1 dX13_doEdit_340 rfl (lv_at hl 1 rfl) ?_
    refine lv_iadd X.1 X.2.1 dX13_doEdit_341 ?_
    refine g_aload_n X (or_rv _) dX13_doEdit_342 rfl (lv_at hl 0 rfl) ?_
    refine g_gR X S foX13_139 dX13_doEdit_343 hf (fun v5 hf => ?_)
    refine lv_iload_n X.1 X.2.1 dX13_doEdit_346 rfl (lv_at hl 1 rfl) ?_
    refine g_aI X S dX13_doEdit_347 hf (fun v6 hf => ?_)
    refine g_qI X S dX13_doEdit_348 hf (fun h H locs hm hf S => ?_)
    obtain ⟨z7, ez7, hf⟩ := lt_some hf
    refine lv_iinc (v := z7) (lv' := [(3, .int z7), (0, rv x0)]) X.1 X.2.1 dX13_doEdit_349 hl (k := 1) rfl (by rw [← ez7]; rfl) (by decide) rfl (fun ls hl => ?_)
    refine lv_goto (tgt := 324) X.1 X.2.1 dX13_doEdit_352 (by decide) ?_
    exact hk324 _ _ _ _ _ _ (lv_sub hl [1, 0] rfl) S hf
theorem wfX13_doEdit_324_l {h9 : Hp} (X : Cx p E A 11 R s m args c cX13_doEdit yX13_doEdit.cls 6) (hr : meth.sig.returnType = none) (hlk : meth.locks = false) (hnm : meth.name = yX13_doEdit.name) :
    ∀ (n : Nat) (x0 : Nat) (x3 : Int32) (h : Hp) (H : Heap) (locs : List Loc) (ls : Array Slot), lv_has ls 6 [(0, rv x0), (3, .int x3)] → St E A s h H locs → lp (fun _ _ _ => none) (fX13_doEdit_324) n x0 x3 h = some h9 → W p l e R s m args below meth c H locs 0 0 (MQ below (Qv E A h9) args s 0 0 A) (F0 m 324 ls []) := by
  intro n
  induction n with
  | zero =>
    intro x0 x3 h H locs ls hl S hf
    exact nomatch hf
  | succ n ih =>
    intro x0 x3 h H locs ls hl S hf
    exact wfX13_doEdit_324 X hr hlk hnm ih x0 x3 h H locs ls hl S hf
def fX13_doEdit_274 (x0 : Nat) (x2 : Int32) (h : Hp) : Option (Hp) := ob (gI 11 x0 38 h) fun v1 => if v1 = 0 then ob (gR 11 x0 3 h) fun v4 => ob (gI 11 x0 51 h) fun v5 => if v5 = 0 then fX13_doEdit_311 0 264 v4 h else ob (gI 11 x0 49 h) fun v7 => if v7 = 0 then fX13_doEdit_311 2 264 v4 h else fX13_doEdit_311 1 264 v4 h else ob (gR 11 x0 3 h) fun v3 => ob (qI v3 257 x2 h) fun h => lp (fun _ _ _ => none) (fX13_doEdit_324) FU x0 0 h
theorem wfX13_doEdit_274 {h9 : Hp} (X : Cx p E A 11 R s m args c cX13_doEdit yX13_doEdit.cls 6) (hr : meth.sig.returnType = none) (hlk : meth.locks = false) (hnm : meth.name = yX13_doEdit.name) :
    ∀ (x0 : Nat) (x2 : Int32) (h : Hp) (H : Heap) (locs : List Loc) (ls : Array Slot), lv_has ls 6 [(0, rv x0), (2, .int x2)] → St E A s h H locs → fX13_doEdit_274 x0 x2 h = some h9 → W p l e R s m args below meth c H locs 0 0 (MQ below (Qv E A h9) args s 0 0 A) (F0 m 274 ls []) := by
  intro x0 x2 h H locs ls hl S hf
  unfold fX13_doEdit_274 at hf
  refine g_aload_n X (or_rv _) dX13_doEdit_274 rfl (lv_at hl 0 rfl) ?_
  refine g_gI X S foX13_388 rfl dX13_doEdit_275 hf (fun v1 hf => ?_)
  refine lv_if_ne (tgt := 313) X.1 X.2.1 dX13_doEdit_278 (by decide) (fun c2 => ?_) (fun c2 => ?_)
  · replace hf := (if_neg c2).symm.trans hf
    refine g_aload_n X (or_rv _) dX13_doEdit_313 rfl (lv_at hl 0 rfl) ?_
    refine g_gR X S foX13_76 dX13_doEdit_314 hf (fun v3 hf => ?_)
    refine lv_sipush (v := 257) X.1 X.2.1 dX13_doEdit_317 (by decide) ?_
    refine lv_iload_n X.1 X.2.1 dX13_doEdit_320 rfl (lv_at hl 1 rfl) ?_
    refine g_qI X S dX13_doEdit_321 hf (fun h H locs hm hf S => ?_)
    refine lv_iconst (v := 0) X.1 X.2.1 dX13_doEdit_322 (by decide) ?_
    refine lv_istore_n (i := 3) (lv' := [(3, .int 0), (0, rv x0), (2, .int x2)]) X.1 X.2.1 dX13_doEdit_323 rfl hl (by decide) rfl (fun ls hl => ?_)
    exact wfX13_doEdit_324_l X hr hlk hnm FU _ _ _ _ _ _ (lv_sub hl [1, 0] rfl) S hf
  · replace hf := (if_pos c2).symm.trans hf
    refine g_aload_n X (or_rv _) dX13_doEdit_281 rfl (lv_at hl 0 rfl) ?_
    refine g_gR X S foX13_76 dX13_doEdit_282 hf (fun v4 hf => ?_)
    refine lv_sipush (v := 264) X.1 X.2.1 dX13_doEdit_285 (by decide) ?_
    refine g_aload_n X (or_rv _) dX13_doEdit_288 rfl (lv_at hl 0 rfl) ?_
    refine g_gI X S foX13_515 rfl dX13_doEdit_289 hf (fun v5 hf => ?_)
    refine lv_if_ne (tgt := 299) X.1 X.2.1 dX13_doEdit_292 (by decide) (fun c6 => ?_) (fun c6 => ?_)
    · replace hf := (if_neg c6).symm.trans hf
      refine g_aload_n X (or_rv _) dX13_doEdit_299 rfl (lv_at hl 0 rfl) ?_
      refine g_gI X S foX13_509 rfl dX13_doEdit_300 hf (fun v7 hf => ?_)
      refine lv_if_eq (tgt := 310) X.1 X.2.1 dX13_doEdit_303 (by decide) (fun c8 => ?_) (fun c8 => ?_)
      · replace hf := (if_pos c8).symm.trans hf
        refine lv_iconst (v := 2) X.1 X.2.1 dX13_doEdit_310 (by decide) ?_
        exact wfX13_doEdit_311 X hr hlk hnm _ _ _ _ _ _ _ (lv_sub hl [] rfl) S hf
      · replace hf := (if_neg c8).symm.trans hf
        refine lv_iconst (v := 1) X.1 X.2.1 dX13_doEdit_306 (by decide) ?_
        refine lv_goto (tgt := 311) X.1 X.2.1 dX13_doEdit_307 (by decide) ?_
        exact wfX13_doEdit_311 X hr hlk hnm _ _ _ _ _ _ _ (lv_sub hl [] rfl) S hf
    · replace hf := (if_pos c6).symm.trans hf
      refine lv_iconst (v := 0) X.1 X.2.1 dX13_doEdit_295 (by decide) ?_
      refine lv_goto (tgt := 311) X.1 X.2.1 dX13_doEdit_296 (by decide) ?_
      exact wfX13_doEdit_311 X hr hlk hnm _ _ _ _ _ _ _ (lv_sub hl [] rfl) S hf
def fX13_doEdit_80 (k80 : Nat → Int32 → Int32 → Int32 → Hp → Option (Hp)) (x0 : Nat) (x1 : Int32) (x2 : Int32) (x3 : Int32) (h : Hp) : Option (Hp) := ob (gI 11 x0 35 h) fun v1 => if v1 ≤ x3 then fX13_doEdit_274 x0 x2 h else ob (gI 11 x0 38 h) fun v3 => if v3 = 0 then ob (gR 11 x0 3 h) fun v5 => ob (gI 11 x0 34 h) fun v6 => ob (aI v5 (v6 + x3) h) fun v7 => if v7 = 32 then fX13_doEdit_122 k80 fX13_doEdit_274 x0 x1 x2 x3 v7 h else if v7 = 33 then fX13_doEdit_122 k80 fX13_doEdit_274 x0 x1 x2 x3 v7 h else if v7 = 34 then ob (gR 11 x0 3 h) fun v18 => ob (gI 11 x0 34 h) fun v19 => ob (gI 11 x0 48 h) fun v20 => ob (qI v18 (v19 + x3) v20 h) fun h => ob (pZ 11 x0 49 0 h) fun h => ob (pZ 11 x0 51 0 h) fun h => lt (x3 + 1) fun z21 => k80 x0 x1 x2 z21 h else ob (gI 11 x0 49 h) fun v11 => if v11 = 0 then ob (gR 11 x0 3 h) fun v14 => ob (gI 11 x0 34 h) fun v15 => ob (gI 11 x0 48 h) fun v16 => ob (qI v14 (v15 + x3) v16 h) fun h => lt (x3 + 1) fun z17 => k80 x0 x1 x2 z17 h else lt (x3 + 1) fun z13 => k80 x0 x1 x2 z13 h else fX13_doEdit_274 x0 x2 h
theorem wfX13_doEdit_80 {k80 : Nat → Int32 → Int32 → Int32 → Hp → Option (Hp)} {h9 : Hp} (X : Cx p E A 11 R s m args c cX13_doEdit yX13_doEdit.cls 6) (hr : meth.sig.returnType = none) (hlk : meth.locks = false) (hnm : meth.name = yX13_doEdit.name) (hk80 : ∀ (x0 : Nat) (x1 : Int32) (x2 : Int32) (x3 : Int32) (h : Hp) (H : Heap) (locs : List Loc) (ls : Array Slot), lv_has ls 6 [(0, rv x0), (1, .int x1), (2, .int x2), (3, .int x3)] → St E A s h H locs → k80 x0 x1 x2 x3 h = some h9 → W p l e R s m args below meth c H locs 0 0 (MQ below (Qv E A h9) args s 0 0 A) (F0 m 80 ls [])) :
    ∀ (x0 : Nat) (x1 : Int32) (x2 : Int32) (x3 : Int32) (h : Hp) (H : Heap) (locs : List Loc) (ls : Array Slot), lv_has ls 6 [(0, rv x0), (1, .int x1), (2, .int x2), (3, .int x3)] → St E A s h H locs → fX13_doEdit_80 k80 x0 x1 x2 x3 h = some h9 → W p l e R s m args below meth c H locs 0 0 (MQ below (Qv E A h9) args s 0 0 A) (F0 m 80 ls []) := by
  intro x0 x1 x2 x3 h H locs ls hl S hf
  unfold fX13_doEdit_80 at hf
  refine lv_iload_n X.1 X.2.1 dX13_doEdit_80 rfl (lv_at hl 3 rfl) ?_
  refine g_aload_n X (or_rv _) dX13_doEdit_81 rfl (lv_at hl 0 rfl) ?_
  refine g_gI X S foX13_403 rfl dX13_doEdit_82 hf (fun v1 hf => ?_)
  refine lv_icmp_ge (tgt := 274) X.1 X.2.1 dX13_doEdit_85 (by decide) (fun c2 => ?_) (fun c2 => ?_)
  · replace hf := (if_pos c2).symm.trans hf
    exact wfX13_doEdit_274 X hr hlk hnm _ _ _ _ _ _ (lv_sub hl [0, 2] rfl) S hf
  · replace hf := (if_neg c2).symm.trans hf
    refine g_aload_n X (or_rv _) dX13_doEdit_88 rfl (lv_at hl 0 rfl) ?_
    refine g_gI X S foX13_388 rfl dX13_doEdit_89 hf (fun v3 hf => ?_)
    refine lv_if_ne (tgt := 274) X.1 X.2.1 dX13_doEdit_92 (by decide) (fun c4 => ?_) (fun c4 => ?_)
    · replace hf := (if_neg c4).symm.trans hf
      exact wfX13_doEdit_274 X hr hlk hnm _ _ _ _ _ _ (lv_sub hl [0, 2] rfl) S hf
    · replace hf := (if_pos c4).symm.trans hf
      refine g_aload_n X (or_rv _) dX13_doEdit_95 rfl (lv_at hl 0 rfl) ?_
      refine g_gR X S foX13_76 dX13_doEdit_96 hf (fun v5 hf => ?_)
      refine g_aload_n X (or_rv _) dX13_doEdit_99 rfl (lv_at hl 0 rfl) ?_
      refine g_gI X S foX13_394 rfl dX13_doEdit_100 hf (fun v6 hf => ?_)
      refine lv_iload_n X.1 X.2.1 dX13_doEdit_103 rfl (lv_at hl 3 rfl) ?_
      refine lv_iadd X.1 X.2.1 dX13_doEdit_104 ?_
      refine g_aI X S dX13_doEdit_105 hf (fun v7 hf => ?_)
      refine lv_istore (lv' := [(4, .int v7), (0, rv x0), (1, .int x1), (2, .int x2), (3, .int x3)]) X.1 X.2.1 dX13_doEdit_106 hl (by decide) rfl (fun ls hl => ?_)
      refine lv_iload X.1 X.2.1 dX13_doEdit_108 (lv_at hl 0 rfl) ?_
      refine lv_bipush (v := 32) X.1 X.2.1 dX13_doEdit_110 (by decide) ?_
      refine lv_icmp_eq (tgt := 122) X.1 X.2.1 dX13_doEdit_112 (by decide) (fun c8 => ?_) (fun c8 => ?_)
      · replace hf := (if_pos c8).symm.trans hf
        exact wfX13_doEdit_122 X hr hlk hnm hk80 (wfX13_doEdit_274 X hr hlk hnm) _ _ _ _ _ _ _ _ _ (lv_sub hl [1, 2, 3, 4, 0] rfl) S hf
      · replace hf := (if_neg c8).symm.trans hf
        refine lv_iload X.1 X.2.1 dX13_doEdit_115 (lv_at hl 0 rfl) ?_
        refine lv_bipush (v := 33) X.1 X.2.1 dX13_doEdit_117 (by decide) ?_
        refine lv_icmp_ne (tgt := 211) X.1 X.2.1 dX13_doEdit_119 (by decide) (fun c9 => ?_) (fun c9 => ?_)
        · replace hf := (if_neg c9).symm.trans hf
          refine lv_iload X.1 X.2.1 dX13_doEdit_211 (lv_at hl 0 rfl) ?_
          refine lv_bipush (v := 34) X.1 X.2.1 dX13_doEdit_213 (by decide) ?_
          refine lv_icmp_ne (tgt := 246) X.1 X.2.1 dX13_doEdit_215 (by decide) (fun c10 => ?_) (fun c10 => ?_)
          · replace hf := (if_neg c10).symm.trans hf
            refine g_aload_n X (or_rv _) dX13_doEdit_246 rfl (lv_at hl 1 rfl) ?_
            refine g_gI X S foX13_509 rfl dX13_doEdit_247 hf (fun v11 hf => ?_)
            refine lv_if_ne (tgt := 268) X.1 X.2.1 dX13_doEdit_250 (by decide) (fun c12 => ?_) (fun c12 => ?_)
            · replace hf := (if_neg c12).symm.trans hf
              obtain ⟨z13, ez13, hf⟩ := lt_some hf
              refine lv_iinc (v := z13) (lv' := [(3, .int z13), (4, .int v7), (0, rv x0), (1, .int x1), (2, .int x2)]) X.1 X.2.1 dX13_doEdit_268 hl (k := 4) rfl (by rw [← ez13]; rfl) (by decide) rfl (fun ls hl => ?_)
              refine lv_goto (tgt := 80) X.1 X.2.1 dX13_doEdit_271 (by decide) ?_
              exact hk80 _ _ _ _ _ _ _ _ (lv_sub hl [2, 3, 4, 0] rfl) S hf
            · replace hf := (if_pos c12).symm.trans hf
              refine g_aload_n X (or_rv _) dX13_doEdit_253 rfl (lv_at hl 1 rfl) ?_
              refine g_gR X S foX13_76 dX13_doEdit_254 hf (fun v14 hf => ?_)
              refine g_aload_n X (or_rv _) dX13_doEdit_257 rfl (lv_at hl 1 rfl) ?_
              refine g_gI X S foX13_394 rfl dX13_doEdit_258 hf (fun v15 hf => ?_)
              refine lv_iload_n X.1 X.2.1 dX13_doEdit_261 rfl (lv_at hl 4 rfl) ?_
              refine lv_iadd X.1 X.2.1 dX13_doEdit_262 ?_
              refine g_aload_n X (or_rv _) dX13_doEdit_263 rfl (lv_at hl 1 rfl) ?_
              refine g_gI X S foX13_512 rfl dX13_doEdit_264 hf (fun v16 hf => ?_)
              refine g_qI X S dX13_doEdit_267 hf (fun h H locs hm hf S => ?_)
              obtain ⟨z17, ez17, hf⟩ := lt_some hf
              refine lv_iinc (v := z17) (lv' := [(3, .int z17), (4, .int v7), (0, rv x0), (1, .int x1), (2, .int x2)]) X.1 X.2.1 dX13_doEdit_268 hl (k := 4) rfl (by rw [← ez17]; rfl) (by decide) rfl (fun ls hl => ?_)
              refine lv_goto (tgt := 80) X.1 X.2.1 dX13_doEdit_271 (by decide) ?_
              exact hk80 _ _ _ _ _ _ _ _ (lv_sub hl [2, 3, 4, 0] rfl) S hf
          · replace hf := (if_pos c10).symm.trans hf
            refine g_aload_n X (or_rv _) dX13_doEdit_218 rfl (lv_at hl 1 rfl) ?_
            refine g_gR X S foX13_76 dX13_doEdit_219 hf (fun v18 hf => ?_)
            refine g_aload_n X (or_rv _) dX13_doEdit_222 rfl (lv_at hl 1 rfl) ?_
            refine g_gI X S foX13_394 rfl dX13_doEdit_223 hf (fun v19 hf => ?_)
            refine lv_iload_n X.1 X.2.1 dX13_doEdit_226 rfl (lv_at hl 4 rfl) ?_
            refine lv_iadd X.1 X.2.1 dX13_doEdit_227 ?_
            refine g_aload_n X (or_rv _) dX13_doEdit_228 rfl (lv_at hl 1 rfl) ?_
            refine g_gI X S foX13_512 rfl dX13_doEdit_229 hf (fun v20 hf => ?_)
            refine g_qI X S dX13_doEdit_232 hf (fun h H locs hm hf S => ?_)
            refine g_aload_n X (or_rv _) dX13_doEdit_233 rfl (lv_at hl 1 rfl) ?_
            refine lv_iconst (v := 0) X.1 X.2.1 dX13_doEdit_234 (by decide) ?_
            refine g_pZ X S fpX13_509 (Or.inl rfl) dX13_doEdit_235 hf (fun h H locs hm hf S => ?_)
            refine g_aload_n X (or_rv _) dX13_doEdit_238 rfl (lv_at hl 1 rfl) ?_
            refine lv_iconst (v := 0) X.1 X.2.1 dX13_doEdit_239 (by decide) ?_
            refine g_pZ X S fpX13_515 (Or.inl rfl) dX13_doEdit_240 hf (fun h H locs hm hf S => ?_)
            refine lv_goto (tgt := 268) X.1 X.2.1 dX13_doEdit_243 (by decide) ?_
            obtain ⟨z21, ez21, hf⟩ := lt_some hf
            refine lv_iinc (v := z21) (lv' := [(3, .int z21), (4, .int v7), (0, rv x0), (1, .int x1), (2, .int x2)]) X.1 X.2.1 dX13_doEdit_268 hl (k := 4) rfl (by rw [← ez21]; rfl) (by decide) rfl (fun ls hl => ?_)
            refine lv_goto (tgt := 80) X.1 X.2.1 dX13_doEdit_271 (by decide) ?_
            exact hk80 _ _ _ _ _ _ _ _ (lv_sub hl [2, 3, 4, 0] rfl) S hf
        · replace hf := (if_pos c9).symm.trans hf
          exact wfX13_doEdit_122 X hr hlk hnm hk80 (wfX13_doEdit_274 X hr hlk hnm) _ _ _ _ _ _ _ _ _ (lv_sub hl [1, 2, 3, 4, 0] rfl) S hf
theorem wfX13_doEdit_80_l {h9 : Hp} (X : Cx p E A 11 R s m args c cX13_doEdit yX13_doEdit.cls 6) (hr : meth.sig.returnType = none) (hlk : meth.locks = false) (hnm : meth.name = yX13_doEdit.name) :
    ∀ (n : Nat) (x0 : Nat) (x1 : Int32) (x2 : Int32) (x3 : Int32) (h : Hp) (H : Heap) (locs : List Loc) (ls : Array Slot), lv_has ls 6 [(0, rv x0), (1, .int x1), (2, .int x2), (3, .int x3)] → St E A s h H locs → lp (fun _ _ _ _ _ => none) (fX13_doEdit_80) n x0 x1 x2 x3 h = some h9 → W p l e R s m args below meth c H locs 0 0 (MQ below (Qv E A h9) args s 0 0 A) (F0 m 80 ls []) := by
  intro n
  induction n with
  | zero =>
    intro x0 x1 x2 x3 h H locs ls hl S hf
    exact nomatch hf
  | succ n ih =>
    intro x0 x1 x2 x3 h H locs ls hl S hf
    exact wfX13_doEdit_80 X hr hlk hnm ih x0 x1 x2 x3 h H locs ls hl S hf
def fX13_doEdit_11 (k11 : Nat → Int32 → Int32 → Int32 → Hp → Option (Hp)) (x0 : Nat) (x1 : Int32) (x2 : Int32) (x3 : Int32) (h : Hp) : Option (Hp) := ob (gI 11 x0 35 h) fun v1 => if v1 ≤ x3 then ob (gR 11 x0 3 h) fun v3 => ob (gI 11 x0 34 h) fun v4 => ob (aI v3 v4 h) fun v5 => ob (pI 11 x0 48 v5 h) fun h => ob (gI 11 x0 36 h) fun v6 => ob (pI 11 x0 46 v6 h) fun h => ob (pI 11 x0 47 (-1) h) fun h => ob (pZ 11 x0 49 0 h) fun h => ob (pZ 11 x0 51 0 h) fun h => lp (fun _ _ _ _ _ => none) (fX13_doEdit_80) FU x0 x1 x2 0 h else ob (gR 11 x0 45 h) fun v7 => ob (gR 11 x0 3 h) fun v8 => ob (gI 11 x0 34 h) fun v9 => ob (aI v8 (v9 + x3) h) fun v10 => ob (qI v7 x3 v10 h) fun h => lt (x3 + 1) fun z11 => k11 x0 x1 x2 z11 h
theorem wfX13_doEdit_11 {k11 : Nat → Int32 → Int32 → Int32 → Hp → Option (Hp)} {h9 : Hp} (X : Cx p E A 11 R s m args c cX13_doEdit yX13_doEdit.cls 6) (hr : meth.sig.returnType = none) (hlk : meth.locks = false) (hnm : meth.name = yX13_doEdit.name) (hk11 : ∀ (x0 : Nat) (x1 : Int32) (x2 : Int32) (x3 : Int32) (h : Hp) (H : Heap) (locs : List Loc) (ls : Array Slot), lv_has ls 6 [(0, rv x0), (1, .int x1), (2, .int x2), (3, .int x3)] → St E A s h H locs → k11 x0 x1 x2 x3 h = some h9 → W p l e R s m args below meth c H locs 0 0 (MQ below (Qv E A h9) args s 0 0 A) (F0 m 11 ls [])) :
    ∀ (x0 : Nat) (x1 : Int32) (x2 : Int32) (x3 : Int32) (h : Hp) (H : Heap) (locs : List Loc) (ls : Array Slot), lv_has ls 6 [(0, rv x0), (1, .int x1), (2, .int x2), (3, .int x3)] → St E A s h H locs → fX13_doEdit_11 k11 x0 x1 x2 x3 h = some h9 → W p l e R s m args below meth c H locs 0 0 (MQ below (Qv E A h9) args s 0 0 A) (F0 m 11 ls []) := by
  intro x0 x1 x2 x3 h H locs ls hl S hf
  unfold fX13_doEdit_11 at hf
  refine lv_iload_n X.1 X.2.1 dX13_doEdit_11 rfl (lv_at hl 3 rfl) ?_
  refine g_aload_n X (or_rv _) dX13_doEdit_12 rfl (lv_at hl 0 rfl) ?_
  refine g_gI X S foX13_403 rfl dX13_doEdit_13 hf (fun v1 hf => ?_)
  refine lv_icmp_ge (tgt := 42) X.1 X.2.1 dX13_doEdit_16 (by decide) (fun c2 => ?_) (fun c2 => ?_)
  · replace hf := (if_pos c2).symm.trans hf
    refine g_aload_n X (or_rv _) dX13_doEdit_42 rfl (lv_at hl 0 rfl) ?_
    refine g_aload_n X (or_rv _) dX13_doEdit_43 rfl (lv_at hl 0 rfl) ?_
    refine g_gR X S foX13_76 dX13_doEdit_44 hf (fun v3 hf => ?_)
    refine g_aload_n X (or_rv _) dX13_doEdit_47 rfl (lv_at hl 0 rfl) ?_
    refine g_gI X S foX13_394 rfl dX13_doEdit_48 hf (fun v4 hf => ?_)
    refine g_aI X S dX13_doEdit_51 hf (fun v5 hf => ?_)
    refine g_pI X S fpX13_512 (Or.inl rfl) dX13_doEdit_52 hf (fun h H locs hm hf S => ?_)
    refine g_aload_n X (or_rv _) dX13_doEdit_55 rfl (lv_at hl 0 rfl) ?_
    refine g_aload_n X (or_rv _) dX13_doEdit_56 rfl (lv_at hl 0 rfl) ?_
    refine g_gI X S foX13_397 rfl dX13_doEdit_57 hf (fun v6 hf => ?_)
    refine g_pI X S fpX13_506 (Or.inl rfl) dX13_doEdit_60 hf (fun h H locs hm hf S => ?_)
    refine g_aload_n X (or_rv _) dX13_doEdit_63 rfl (lv_at hl 0 rfl) ?_
    refine lv_iconst (v := (-1)) X.1 X.2.1 dX13_doEdit_64 (by decide) ?_
    refine g_pI X S fpX13_503 (Or.inl rfl) dX13_doEdit_65 hf (fun h H locs hm hf S => ?_)
    refine g_aload_n X (or_rv _) dX13_doEdit_68 rfl (lv_at hl 0 rfl) ?_
    refine lv_iconst (v := 0) X.1 X.2.1 dX13_doEdit_69 (by decide) ?_
    refine g_pZ X S fpX13_509 (Or.inl rfl) dX13_doEdit_70 hf (fun h H locs hm hf S => ?_)
    refine g_aload_n X (or_rv _) dX13_doEdit_73 rfl (lv_at hl 0 rfl) ?_
    refine lv_iconst (v := 0) X.1 X.2.1 dX13_doEdit_74 (by decide) ?_
    refine g_pZ X S fpX13_515 (Or.inl rfl) dX13_doEdit_75 hf (fun h H locs hm hf S => ?_)
    refine lv_iconst (v := 0) X.1 X.2.1 dX13_doEdit_78 (by decide) ?_
    refine lv_istore_n (i := 3) (lv' := [(3, .int 0), (0, rv x0), (1, .int x1), (2, .int x2)]) X.1 X.2.1 dX13_doEdit_79 rfl hl (by decide) rfl (fun ls hl => ?_)
    exact wfX13_doEdit_80_l X hr hlk hnm FU _ _ _ _ _ _ _ _ (lv_sub hl [1, 2, 3, 0] rfl) S hf
  · replace hf := (if_neg c2).symm.trans hf
    refine g_aload_n X (or_rv _) dX13_doEdit_19 rfl (lv_at hl 0 rfl) ?_
    refine g_gR X S foX13_139 dX13_doEdit_20 hf (fun v7 hf => ?_)
    refine lv_iload_n X.1 X.2.1 dX13_doEdit_23 rfl (lv_at hl 3 rfl) ?_
    refine g_aload_n X (or_rv _) dX13_doEdit_24 rfl (lv_at hl 0 rfl) ?_
    refine g_gR X S foX13_76 dX13_doEdit_25 hf (fun v8 hf => ?_)
    refine g_aload_n X (or_rv _) dX13_doEdit_28 rfl (lv_at hl 0 rfl) ?_
    refine g_gI X S foX13_394 rfl dX13_doEdit_29 hf (fun v9 hf => ?_)
    refine lv_iload_n X.1 X.2.1 dX13_doEdit_32 rfl (lv_at hl 3 rfl) ?_
    refine lv_iadd X.1 X.2.1 dX13_doEdit_33 ?_
    refine g_aI X S dX13_doEdit_34 hf (fun v10 hf => ?_)
    refine g_qI X S dX13_doEdit_35 hf (fun h H locs hm hf S => ?_)
    obtain ⟨z11, ez11, hf⟩ := lt_some hf
    refine lv_iinc (v := z11) (lv' := [(3, .int z11), (0, rv x0), (1, .int x1), (2, .int x2)]) X.1 X.2.1 dX13_doEdit_36 hl (k := 3) rfl (by rw [← ez11]; rfl) (by decide) rfl (fun ls hl => ?_)
    refine lv_goto (tgt := 11) X.1 X.2.1 dX13_doEdit_39 (by decide) ?_
    exact hk11 _ _ _ _ _ _ _ _ (lv_sub hl [1, 2, 3, 0] rfl) S hf
theorem wfX13_doEdit_11_l {h9 : Hp} (X : Cx p E A 11 R s m args c cX13_doEdit yX13_doEdit.cls 6) (hr : meth.sig.returnType = none) (hlk : meth.locks = false) (hnm : meth.name = yX13_doEdit.name) :
    ∀ (n : Nat) (x0 : Nat) (x1 : Int32) (x2 : Int32) (x3 : Int32) (h : Hp) (H : Heap) (locs : List Loc) (ls : Array Slot), lv_has ls 6 [(0, rv x0), (1, .int x1), (2, .int x2), (3, .int x3)] → St E A s h H locs → lp (fun _ _ _ _ _ => none) (fX13_doEdit_11) n x0 x1 x2 x3 h = some h9 → W p l e R s m args below meth c H locs 0 0 (MQ below (Qv E A h9) args s 0 0 A) (F0 m 11 ls []) := by
  intro n
  induction n with
  | zero =>
    intro x0 x1 x2 x3 h H locs ls hl S hf
    exact nomatch hf
  | succ n ih =>
    intro x0 x1 x2 x3 h H locs ls hl S hf
    exact wfX13_doEdit_11 X hr hlk hnm ih x0 x1 x2 x3 h H locs ls hl S hf
def fX13_doEdit (a0 : Nat) (a1 : Int32) (h : Hp) : Option (Hp) := gd 11 a0 h (ob (gR 11 a0 3 h) fun v1 => ob (aI v1 257 h) fun v2 => lp (fun _ _ _ _ _ => none) (fX13_doEdit_11) FU a0 a1 v2 0 h)
theorem tkX13_doEdit {a0 : Nat} {a1 : Int32} {h : Hp} {r9 : Hp} (e : fX13_doEdit a0 a1 h = some r9) : hK h a0 = 11 := by
  unfold fX13_doEdit at e
  exact (gd_some e).1
theorem cX13_doEdit_m (l : Launch) {E : EE} {A : Nat → Prop} {a0 : Nat} {a1 : Int32} {h : Hp} {h9 : Hp} (hf : fX13_doEdit a0 a1 h = some h9) : Met l yX13_doEdit (wsM yX13_doEdit cX13_doEdit 6 none) (rmm 11 0 0) (PcE E A h [rv a0, .int a1]) (Qv E A h9) 0 0 A := by
  refine met_of (by decide +kernel) (by simp [lg_sl, cat_rv, cat_wv, cat_sv, cat_i, cat_l, cat_a]) (fun p e s m args below meth c ls X hr hlk hnm S hl => ?_)
  have hl : lv_has ls 6 [(0, rv a0), (1, .int a1)] := by simpa [lv_args, cat_rv, cat_wv, cat_sv, cat_i, cat_l, cat_a] using hl
  generalize hH : s.heap = H at S ⊢
  generalize hlo : ([] : List Loc) = locs at S ⊢
  clear hH hlo
  unfold fX13_doEdit at hf
  obtain ⟨hth, hf⟩ := gd_some hf
  refine g_aload_n X (or_rv _) dX13_doEdit_0 rfl (lv_at hl 0 rfl) ?_
  refine g_gR X S foX13_76 dX13_doEdit_1 hf (fun v1 hf => ?_)
  refine lv_sipush (v := 257) X.1 X.2.1 dX13_doEdit_4 (by decide) ?_
  refine g_aI X S dX13_doEdit_7 hf (fun v2 hf => ?_)
  refine lv_istore_n (i := 2) (lv' := [(2, .int v2), (0, rv a0), (1, .int a1)]) X.1 X.2.1 dX13_doEdit_8 rfl hl (by decide) rfl (fun ls hl => ?_)
  refine lv_iconst (v := 0) X.1 X.2.1 dX13_doEdit_9 (by decide) ?_
  refine lv_istore_n (i := 3) (lv' := [(3, .int 0), (2, .int v2), (0, rv a0), (1, .int a1)]) X.1 X.2.1 dX13_doEdit_10 rfl hl (by decide) rfl (fun ls hl => ?_)
  exact wfX13_doEdit_11_l X hr hlk hnm FU _ _ _ _ _ _ _ _ (lv_sub hl [2, 3, 1, 0] rfl) S hf
def fX13_doBinary_100 (y0 : Int64) (y1 : Int32) (y2 : Nat) (h : Hp) : Option (Hp) := ob (qI y2 y1 (Int64.toInt32 y0) h) fun h => some h
theorem wfX13_doBinary_100 {h9 : Hp} (X : Cx p E A 11 R s m args c cX13_doBinary yX13_doBinary.cls 5) (hr : meth.sig.returnType = none) (hlk : meth.locks = false) (hnm : meth.name = yX13_doBinary.name) :
    ∀ (y0 : Int64) (y1 : Int32) (y2 : Nat) (h : Hp) (H : Heap) (locs : List Loc) (ls : Array Slot), lv_has ls 5 [] → St E A s h H locs → fX13_doBinary_100 y0 y1 y2 h = some h9 → W p l e R s m args below meth c H locs 0 0 (MQ below (Qv E A h9) args s 0 0 A) (F0 m 100 ls [.long y0, .int y1, rv y2]) := by
  intro y0 y1 y2 h H locs ls hl S hf
  unfold fX13_doBinary_100 at hf
  refine lv_l2i (v := Int64.toInt32 y0) X.1 X.2.1 dX13_doBinary_100 rfl ?_
  refine g_qI X S dX13_doBinary_101 hf (fun h H locs hm hf S => ?_)
  cases hf; exact g_rv X S hr hlk dX13_doBinary_102
def fX13_doBinary_66 (x0 : Nat) (x1 : Int32) (x2 : Int64) (x4 : Int32) (y0 : Int64) (y1 : Int64) (h : Hp) : Option (Hp) := if (lg_cmp y1 y0) ≤ 0 then ob (gR 11 x0 3 h) fun v2 => if x4 = 0 then fX13_doBinary_100 x2 (256 + x1) v2 h else fX13_doBinary_100 (-x2) (256 + x1) v2 h else ob (fX13_raise x0 8 0 h) fun h => some h
theorem wfX13_doBinary_66 {h9 : Hp} (X : Cx p E A 11 R s m args c cX13_doBinary yX13_doBinary.cls 5) (hr : meth.sig.returnType = none) (hlk : meth.locks = false) (hnm : meth.name = yX13_doBinary.name) :
    ∀ (x0 : Nat) (x1 : Int32) (x2 : Int64) (x4 : Int32) (y0 : Int64) (y1 : Int64) (h : Hp) (H : Heap) (locs : List Loc) (ls : Array Slot), lv_has ls 5 [(0, rv x0), (1, .int x1), (2, .long x2), (4, .int x4)] → St E A s h H locs → fX13_doBinary_66 x0 x1 x2 x4 y0 y1 h = some h9 → W p l e R s m args below meth c H locs 0 0 (MQ below (Qv E A h9) args s 0 0 A) (F0 m 66 ls [.long y0, .long y1]) := by
  intro x0 x1 x2 x4 y0 y1 h H locs ls hl S hf
  unfold fX13_doBinary_66 at hf
  refine W.lcmp X.1 X.2.1 dX13_doBinary_66 ?_
  refine lv_if_le (tgt := 80) X.1 X.2.1 dX13_doBinary_67 (by decide) (fun c1 => ?_) (fun c1 => ?_)
  · replace hf := (if_pos c1).symm.trans hf
    refine g_aload_n X (or_rv _) dX13_doBinary_80 rfl (lv_at hl 0 rfl) ?_
    refine g_gR X S foX13_76 dX13_doBinary_81 hf (fun v2 hf => ?_)
    refine lv_sipush (v := 256) X.1 X.2.1 dX13_doBinary_84 (by decide) ?_
    refine lv_iload_n X.1 X.2.1 dX13_doBinary_87 rfl (lv_at hl 1 rfl) ?_
    refine lv_iadd X.1 X.2.1 dX13_doBinary_88 ?_
    refine lv_iload X.1 X.2.1 dX13_doBinary_89 (lv_at hl 3 rfl) ?_
    refine lv_if_eq (tgt := 99) X.1 X.2.1 dX13_doBinary_91 (by decide) (fun c3 => ?_) (fun c3 => ?_)
    · replace hf := (if_pos c3).symm.trans hf
      refine lv_lload_n X.1 X.2.1 dX13_doBinary_99 rfl (lv_at hl 2 rfl) ?_
      exact wfX13_doBinary_100 X hr hlk hnm _ _ _ _ _ _ _ (lv_sub hl [] rfl) S hf
    · replace hf := (if_neg c3).symm.trans hf
      refine lv_lload_n X.1 X.2.1 dX13_doBinary_94 rfl (lv_at hl 2 rfl) ?_
      refine lv_lneg X.1 X.2.1 dX13_doBinary_95 ?_
      refine lv_goto (tgt := 100) X.1 X.2.1 dX13_doBinary_96 (by decide) ?_
      exact wfX13_doBinary_100 X hr hlk hnm _ _ _ _ _ _ _ (lv_sub hl [] rfl) S hf
  · replace hf := (if_neg c1).symm.trans hf
    refine g_aload_n X (or_rv _) dX13_doBinary_70 rfl (lv_at hl 0 rfl) ?_
    refine lv_bipush (v := 8) X.1 X.2.1 dX13_doBinary_71 (by decide) ?_
    refine lv_iconst (v := 0) X.1 X.2.1 dX13_doBinary_73 (by decide) ?_
    obtain ⟨h, hc, hf⟩ := ob_some hf
    refine g_cv S (runV (As := [.int 8, .int 0]) (rest := []) X S coX13_415 (by decide) (cX13_raise_m l hc) (tkX13_raise hc) rfl hl.1 (by decide) rfl ⟨Nat.zero_le _, Nat.zero_le _⟩ dX13_doBinary_74) (fun H locs S => ?_)
    refine lv_goto (tgt := 102) X.1 X.2.1 dX13_doBinary_77 (by decide) ?_
    cases hf; exact g_rv X S hr hlk dX13_doBinary_102
def fX13_doBinary (a0 : Nat) (a1 : Int32) (h : Hp) : Option (Hp) := gd 11 a0 h (ob (gR 11 a0 30 h) fun v1 => ob (gI 11 a0 34 h) fun v2 => ob (gI 11 a0 35 h) fun v3 => ob (fX13_load a0 v1 v2 v3 h) fun h => ob (gR 11 a0 30 h) fun v5 => ob (aL v5 1 h) fun v6 => ob (gR 11 a0 30 h) fun v7 => ob (aL v7 0 h) fun v8 => lt ((v6 * 100000000) + v8) fun z9 => ob (gI 11 a0 34 h) fun v10 => ob (gI 11 a0 35 h) fun v11 => ob (fX13_signAt a0 v10 v11 h) fun v12 => ob (fX13_isBelow v12) fun v13 => if v13 = 0 then fX13_doBinary_66 a0 a1 z9 v13 2147483647 z9 h else fX13_doBinary_66 a0 a1 z9 v13 2147483648 z9 h)
theorem tkX13_doBinary {a0 : Nat} {a1 : Int32} {h : Hp} {r9 : Hp} (e : fX13_doBinary a0 a1 h = some r9) : hK h a0 = 11 := by
  unfold fX13_doBinary at e
  exact (gd_some e).1
theorem cX13_doBinary_m (l : Launch) {E : EE} {A : Nat → Prop} {a0 : Nat} {a1 : Int32} {h : Hp} {h9 : Hp} (hf : fX13_doBinary a0 a1 h = some h9) : Met l yX13_doBinary (wsM yX13_doBinary cX13_doBinary 5 none) (rmm 11 0 0) (PcE E A h [rv a0, .int a1]) (Qv E A h9) 0 0 A := by
  refine met_of (by decide +kernel) (by simp [lg_sl, cat_rv, cat_wv, cat_sv, cat_i, cat_l, cat_a]) (fun p e s m args below meth c ls X hr hlk hnm S hl => ?_)
  have hl : lv_has ls 5 [(0, rv a0), (1, .int a1)] := by simpa [lv_args, cat_rv, cat_wv, cat_sv, cat_i, cat_l, cat_a] using hl
  generalize hH : s.heap = H at S ⊢
  generalize hlo : ([] : List Loc) = locs at S ⊢
  clear hH hlo
  unfold fX13_doBinary at hf
  obtain ⟨hth, hf⟩ := gd_some hf
  refine g_aload_n X (or_rv _) dX13_doBinary_0 rfl (lv_at hl 0 rfl) ?_
  refine g_aload_n X (or_rv _) dX13_doBinary_1 rfl (lv_at hl 0 rfl) ?_
  refine g_gR X S foX13_126 dX13_doBinary_2 hf (fun v1 hf => ?_)
  refine g_aload_n X (or_rv _) dX13_doBinary_5 rfl (lv_at hl 0 rfl) ?_
  refine g_gI X S foX13_394 rfl dX13_doBinary_6 hf (fun v2 hf => ?_)
  refine g_aload_n X (or_rv _) dX13_doBinary_9 rfl (lv_at hl 0 rfl) ?_
  refine g_gI X S foX13_403 rfl dX13_doBinary_10 hf (fun v3 hf => ?_)
  obtain ⟨h, hc, hf⟩ := ob_some hf
  refine g_cv S (runV (As := [rv v1, .int v2, .int v3]) (rest := []) X S coX13_478 (by decide) (cX13_load_m l hc) (tkX13_load hc) rfl hl.1 (by decide) rfl ⟨Nat.zero_le _, Nat.zero_le _⟩ dX13_doBinary_13) (fun H locs S => ?_)
  refine g_aload_n X (or_rv _) dX13_doBinary_16 rfl (lv_at hl 0 rfl) ?_
  refine g_gR X S foX13_126 dX13_doBinary_17 hf (fun v5 hf => ?_)
  refine lv_iconst (v := 1) X.1 X.2.1 dX13_doBinary_20 (by decide) ?_
  refine g_aL X S dX13_doBinary_21 hf (fun v6 hf => ?_)
  refine lv_ldc2 X.1 X.2.1 X.2.2.2.1 (X.2.2.1 _ kuX13_368) dX13_doBinary_22 ?_
  refine lv_lmul X.1 X.2.1 dX13_doBinary_25 ?_
  refine g_aload_n X (or_rv _) dX13_doBinary_26 rfl (lv_at hl 0 rfl) ?_
  refine g_gR X S foX13_126 dX13_doBinary_27 hf (fun v7 hf => ?_)
  refine lv_iconst (v := 0) X.1 X.2.1 dX13_doBinary_30 (by decide) ?_
  refine g_aL X S dX13_doBinary_31 hf (fun v8 hf => ?_)
  refine lv_ladd X.1 X.2.1 dX13_doBinary_32 ?_
  refine g_ltl hf (fun z9 hf => ?_)
  refine lv_lstore_n (i := 2) (lv' := [(2, .long z9), (0, rv a0), (1, .int a1)]) X.1 X.2.1 dX13_doBinary_33 rfl hl (by decide) rfl (fun ls hl => ?_)
  refine g_aload_n X (or_rv _) dX13_doBinary_34 rfl (lv_at hl 1 rfl) ?_
  refine g_aload_n X (or_rv _) dX13_doBinary_35 rfl (lv_at hl 1 rfl) ?_
  refine g_gI X S foX13_394 rfl dX13_doBinary_36 hf (fun v10 hf => ?_)
  refine g_aload_n X (or_rv _) dX13_doBinary_39 rfl (lv_at hl 1 rfl) ?_
  refine g_gI X S foX13_403 rfl dX13_doBinary_40 hf (fun v11 hf => ?_)
  obtain ⟨v12, hc, hf⟩ := ob_some hf
  refine g_ci S (runV (As := [.int v10, .int v11]) (rest := []) X S coX13_472 (by decide) (cX13_signAt_m l hc) (tkX13_signAt hc) rfl hl.1 (by decide) rfl ⟨Nat.zero_le _, Nat.zero_le _⟩ dX13_doBinary_43) (fun H locs S => ?_)
  obtain ⟨v13, hc, hf⟩ := ob_some hf
  refine g_ci S (runS (As := [.int v12]) (rest := []) X S coX13_475 (by decide) (cX13_isBelow_m l hc) rfl hl.1 (by decide) rfl ⟨Nat.zero_le _, Nat.zero_le _⟩ dX13_doBinary_46) (fun H locs S => ?_)
  refine lv_istore (lv' := [(4, .int v13), (2, .long z9), (0, rv a0), (1, .int a1)]) X.1 X.2.1 dX13_doBinary_49 hl (by decide) rfl (fun ls hl => ?_)
  refine lv_lload_n X.1 X.2.1 dX13_doBinary_51 rfl (lv_at hl 1 rfl) ?_
  refine lv_iload X.1 X.2.1 dX13_doBinary_52 (lv_at hl 0 rfl) ?_
  refine lv_if_eq (tgt := 63) X.1 X.2.1 dX13_doBinary_54 (by decide) (fun c14 => ?_) (fun c14 => ?_)
  · replace hf := (if_pos c14).symm.trans hf
    refine lv_ldc2 X.1 X.2.1 X.2.2.2.1 (X.2.2.1 _ kuX13_526) dX13_doBinary_63 ?_
    exact wfX13_doBinary_66 X hr hlk hnm _ _ _ _ _ _ _ _ _ _ (lv_sub hl [2, 3, 1, 0] rfl) S hf
  · replace hf := (if_neg c14).symm.trans hf
    refine lv_ldc2 X.1 X.2.1 X.2.2.2.1 (X.2.2.1 _ kuX13_524) dX13_doBinary_57 ?_
    refine lv_goto (tgt := 66) X.1 X.2.1 dX13_doBinary_60 (by decide) ?_
    exact wfX13_doBinary_66 X hr hlk hnm _ _ _ _ _ _ _ _ _ _ (lv_sub hl [2, 3, 1, 0] rfl) S hf
def fX13_doDecimal_71 (y0 : Int32) (y1 : Nat) (y2 : Int32) (y3 : Int32) (y4 : Nat) (h : Hp) : Option (Hp) := ob (fX13_store y4 y3 y2 y1 y0 h) fun h => some h
theorem wfX13_doDecimal_71 {h9 : Hp} (X : Cx p E A 11 R s m args c cX13_doDecimal yX13_doDecimal.cls 4) (hr : meth.sig.returnType = none) (hlk : meth.locks = false) (hnm : meth.name = yX13_doDecimal.name) :
    ∀ (y0 : Int32) (y1 : Nat) (y2 : Int32) (y3 : Int32) (y4 : Nat) (h : Hp) (H : Heap) (locs : List Loc) (ls : Array Slot), lv_has ls 4 [] → St E A s h H locs → fX13_doDecimal_71 y0 y1 y2 y3 y4 h = some h9 → W p l e R s m args below meth c H locs 0 0 (MQ below (Qv E A h9) args s 0 0 A) (F0 m 71 ls [.int y0, rv y1, .int y2, .int y3, rv y4]) := by
  intro y0 y1 y2 y3 y4 h H locs ls hl S hf
  unfold fX13_doDecimal_71 at hf
  obtain ⟨h, hc, hf⟩ := ob_some hf
  refine g_cv S (runV (As := [.int y3, .int y2, rv y1, .int y0]) (rest := []) X S coX13_457 (by decide) (cX13_store_m l hc) (tkX13_store hc) rfl hl.1 (by decide) rfl ⟨Nat.zero_le _, Nat.zero_le _⟩ dX13_doDecimal_71) (fun H locs S => ?_)
  cases hf; exact g_rv X S hr hlk dX13_doDecimal_74
def fX13_doDecimal (a0 : Nat) (a1 : Int32) (h : Hp) : Option (Hp) := gd 11 a0 h (ob (gR 11 a0 3 h) fun v1 => ob (aI v1 (256 + a1) h) fun v2 => lt (Int32.toInt64 v2) fun z3 => ob (gR 11 a0 30 h) fun v4 => ob (fX13_clear v4 h) fun h => ob (gR 11 a0 30 h) fun v6 => ob (qL v6 0 (lrm (labs z3) 100000000) h) fun h => ob (gR 11 a0 30 h) fun v7 => ob (qL v7 1 ((labs z3) / 100000000) h) fun h => ob (gI 11 a0 34 h) fun v8 => ob (gI 11 a0 35 h) fun v9 => ob (gR 11 a0 30 h) fun v10 => if 0 ≤ (lg_cmp z3 0) then fX13_doDecimal_71 0 v10 v9 v8 a0 h else fX13_doDecimal_71 1 v10 v9 v8 a0 h)
theorem tkX13_doDecimal {a0 : Nat} {a1 : Int32} {h : Hp} {r9 : Hp} (e : fX13_doDecimal a0 a1 h = some r9) : hK h a0 = 11 := by
  unfold fX13_doDecimal at e
  exact (gd_some e).1
theorem cX13_doDecimal_m (l : Launch) {E : EE} {A : Nat → Prop} {a0 : Nat} {a1 : Int32} {h : Hp} {h9 : Hp} (hf : fX13_doDecimal a0 a1 h = some h9) : Met l yX13_doDecimal (wsM yX13_doDecimal cX13_doDecimal 4 none) (rmm 11 0 0) (PcE E A h [rv a0, .int a1]) (Qv E A h9) 0 0 A := by
  refine met_of (by decide +kernel) (by simp [lg_sl, cat_rv, cat_wv, cat_sv, cat_i, cat_l, cat_a]) (fun p e s m args below meth c ls X hr hlk hnm S hl => ?_)
  have hl : lv_has ls 4 [(0, rv a0), (1, .int a1)] := by simpa [lv_args, cat_rv, cat_wv, cat_sv, cat_i, cat_l, cat_a] using hl
  generalize hH : s.heap = H at S ⊢
  generalize hlo : ([] : List Loc) = locs at S ⊢
  clear hH hlo
  unfold fX13_doDecimal at hf
  obtain ⟨hth, hf⟩ := gd_some hf
  refine g_aload_n X (or_rv _) dX13_doDecimal_0 rfl (lv_at hl 0 rfl) ?_
  refine g_gR X S foX13_76 dX13_doDecimal_1 hf (fun v1 hf => ?_)
  refine lv_sipush (v := 256) X.1 X.2.1 dX13_doDecimal_4 (by decide) ?_
  refine lv_iload_n X.1 X.2.1 dX13_doDecimal_7 rfl (lv_at hl 1 rfl) ?_
  refine lv_iadd X.1 X.2.1 dX13_doDecimal_8 ?_
  refine g_aI X S dX13_doDecimal_9 hf (fun v2 hf => ?_)
  refine lv_i2l (v := Int32.toInt64 v2) X.1 X.2.1 dX13_doDecimal_10 rfl ?_
  refine g_ltl hf (fun z3 hf => ?_)
  refine lv_lstore_n (i := 2) (lv' := [(2, .long z3), (0, rv a0), (1, .int a1)]) X.1 X.2.1 dX13_doDecimal_11 rfl hl (by decide) rfl (fun ls hl => ?_)
  refine g_aload_n X (or_rv _) dX13_doDecimal_12 rfl (lv_at hl 1 rfl) ?_
  refine g_gR X S foX13_126 dX13_doDecimal_13 hf (fun v4 hf => ?_)
  obtain ⟨h, hc, hf⟩ := ob_some hf
  refine g_cv S (runS (As := [rv v4]) (rest := []) X S coX13_370 (by decide) (cX13_clear_m l hc) rfl hl.1 (by decide) rfl ⟨Nat.zero_le _, Nat.zero_le _⟩ dX13_doDecimal_16) (fun H locs S => ?_)
  refine g_aload_n X (or_rv _) dX13_doDecimal_19 rfl (lv_at hl 1 rfl) ?_
  refine g_gR X S foX13_126 dX13_doDecimal_20 hf (fun v6 hf => ?_)
  refine lv_iconst (v := 0) X.1 X.2.1 dX13_doDecimal_23 (by decide) ?_
  refine lv_lload_n X.1 X.2.1 dX13_doDecimal_24 rfl (lv_at hl 0 rfl) ?_
  refine g_abs (rest := [.int 0, rv v6]) X hl.1 (by decide) (by simp [cat_rv, cat_wv, cat_sv, cat_i, cat_l, cat_a]) mlX13_528 u_abs_s u_math u_abs_c (Nat.zero_le _) (Nat.zero_le _) dX13_doDecimal_25 ?_
  refine lv_ldc2 X.1 X.2.1 X.2.2.2.1 (X.2.2.1 _ kuX13_368) dX13_doDecimal_28 ?_
  refine g_lrem X (by decide) dX13_doDecimal_31 ?_
  refine g_qL X S dX13_doDecimal_32 hf (fun h H locs hm hf S => ?_)
  refine g_aload_n X (or_rv _) dX13_doDecimal_33 rfl (lv_at hl 1 rfl) ?_
  refine g_gR X S foX13_126 dX13_doDecimal_34 hf (fun v7 hf => ?_)
  refine lv_iconst (v := 1) X.1 X.2.1 dX13_doDecimal_37 (by decide) ?_
  refine lv_lload_n X.1 X.2.1 dX13_doDecimal_38 rfl (lv_at hl 0 rfl) ?_
  refine g_abs (rest := [.int 1, rv v7]) X hl.1 (by decide) (by simp [cat_rv, cat_wv, cat_sv, cat_i, cat_l, cat_a]) mlX13_528 u_abs_s u_math u_abs_c (Nat.zero_le _) (Nat.zero_le _) dX13_doDecimal_39 ?_
  refine lv_ldc2 X.1 X.2.1 X.2.2.2.1 (X.2.2.1 _ kuX13_368) dX13_doDecimal_42 ?_
  refine g_ldiv X (by decide) dX13_doDecimal_45 ?_
  refine g_qL X S dX13_doDecimal_46 hf (fun h H locs hm hf S => ?_)
  refine g_aload_n X (or_rv _) dX13_doDecimal_47 rfl (lv_at hl 1 rfl) ?_
  refine g_aload_n X (or_rv _) dX13_doDecimal_48 rfl (lv_at hl 1 rfl) ?_
  refine g_gI X S foX13_394 rfl dX13_doDecimal_49 hf (fun v8 hf => ?_)
  refine g_aload_n X (or_rv _) dX13_doDecimal_52 rfl (lv_at hl 1 rfl) ?_
  refine g_gI X S foX13_403 rfl dX13_doDecimal_53 hf (fun v9 hf => ?_)
  refine g_aload_n X (or_rv _) dX13_doDecimal_56 rfl (lv_at hl 1 rfl) ?_
  refine g_gR X S foX13_126 dX13_doDecimal_57 hf (fun v10 hf => ?_)
  refine lv_lload_n X.1 X.2.1 dX13_doDecimal_60 rfl (lv_at hl 0 rfl) ?_
  refine lv_lconst (v := 0) X.1 X.2.1 dX13_doDecimal_61 (by decide) ?_
  refine W.lcmp X.1 X.2.1 dX13_doDecimal_62 ?_
  refine lv_if_ge (tgt := 70) X.1 X.2.1 dX13_doDecimal_63 (by decide) (fun c11 => ?_) (fun c11 => ?_)
  · replace hf := (if_pos c11).symm.trans hf
    refine lv_iconst (v := 0) X.1 X.2.1 dX13_doDecimal_70 (by decide) ?_
    exact wfX13_doDecimal_71 X hr hlk hnm _ _ _ _ _ _ _ _ _ (lv_sub hl [] rfl) S hf
  · replace hf := (if_neg c11).symm.trans hf
    refine lv_iconst (v := 1) X.1 X.2.1 dX13_doDecimal_66 (by decide) ?_
    refine lv_goto (tgt := 71) X.1 X.2.1 dX13_doDecimal_67 (by decide) ?_
    exact wfX13_doDecimal_71 X hr hlk hnm _ _ _ _ _ _ _ _ _ (lv_sub hl [] rfl) S hf
def fX13_doTest_73 (y0 : Int32) (y1 : Int32) (y2 : Int32) (y3 : Nat) (h : Hp) : Option (Hp) := ob (qI y3 y2 (y1 + y0) h) fun h => some h
theorem wfX13_doTest_73 {h9 : Hp} (X : Cx p E A 9 R s m args c cX13_doTest yX13_doTest.cls 4) (hr : meth.sig.returnType = none) (hlk : meth.locks = false) (hnm : meth.name = yX13_doTest.name) :
    ∀ (y0 : Int32) (y1 : Int32) (y2 : Int32) (y3 : Nat) (h : Hp) (H : Heap) (locs : List Loc) (ls : Array Slot), lv_has ls 4 [] → St E A s h H locs → fX13_doTest_73 y0 y1 y2 y3 h = some h9 → W p l e R s m args below meth c H locs 0 0 (MQ below (Qv E A h9) args s 0 0 A) (F0 m 73 ls [.int y0, .int y1, .int y2, rv y3]) := by
  intro y0 y1 y2 y3 h H locs ls hl S hf
  unfold fX13_doTest_73 at hf
  refine lv_iadd X.1 X.2.1 dX13_doTest_73 ?_
  refine g_qI X S dX13_doTest_74 hf (fun h H locs hm hf S => ?_)
  cases hf; exact g_rv X S hr hlk dX13_doTest_75
def fX13_doTest_23 (k23 : Nat → Int32 → Int32 → Int32 → Hp → Option (Hp)) (x0 : Nat) (x1 : Int32) (x2 : Int32) (x3 : Int32) (h : Hp) : Option (Hp) := if x2 ≤ x3 then ob (gR 11 x0 3 h) fun v2 => ob (fX13_halfAt x0 x2 h) fun v3 => if v3 ≤ 9 then fX13_doTest_73 1 x1 264 v2 h else fX13_doTest_73 0 x1 264 v2 h else ob (fX13_halfAt x0 x3 h) fun v5 => if v5 ≤ 9 then lt (x3 + 1) fun z7 => k23 x0 x1 x2 z7 h else lt (x3 + 1) fun z8 => k23 x0 2 x2 z8 h
theorem wfX13_doTest_23 {k23 : Nat → Int32 → Int32 → Int32 → Hp → Option (Hp)} {h9 : Hp} (X : Cx p E A 9 R s m args c cX13_doTest yX13_doTest.cls 4) (hr : meth.sig.returnType = none) (hlk : meth.locks = false) (hnm : meth.name = yX13_doTest.name) (hk23 : ∀ (x0 : Nat) (x1 : Int32) (x2 : Int32) (x3 : Int32) (h : Hp) (H : Heap) (locs : List Loc) (ls : Array Slot), lv_has ls 4 [(0, rv x0), (1, .int x1), (2, .int x2), (3, .int x3)] → St E A s h H locs → k23 x0 x1 x2 x3 h = some h9 → W p l e R s m args below meth c H locs 0 0 (MQ below (Qv E A h9) args s 0 0 A) (F0 m 23 ls [])) :
    ∀ (x0 : Nat) (x1 : Int32) (x2 : Int32) (x3 : Int32) (h : Hp) (H : Heap) (locs : List Loc) (ls : Array Slot), lv_has ls 4 [(0, rv x0), (1, .int x1), (2, .int x2), (3, .int x3)] → St E A s h H locs → fX13_doTest_23 k23 x0 x1 x2 x3 h = some h9 → W p l e R s m args below meth c H locs 0 0 (MQ below (Qv E A h9) args s 0 0 A) (F0 m 23 ls []) := by
  intro x0 x1 x2 x3 h H locs ls hl S hf
  unfold fX13_doTest_23 at hf
  refine lv_iload_n X.1 X.2.1 dX13_doTest_23 rfl (lv_at hl 3 rfl) ?_
  refine lv_iload_n X.1 X.2.1 dX13_doTest_24 rfl (lv_at hl 2 rfl) ?_
  refine lv_icmp_ge (tgt := 50) X.1 X.2.1 dX13_doTest_25 (by decide) (fun c1 => ?_) (fun c1 => ?_)
  · replace hf := (if_pos c1).symm.trans hf
    refine g_aload_n X (or_rv _) dX13_doTest_50 rfl (lv_at hl 0 rfl) ?_
    refine g_gR X S foX13_76 dX13_doTest_51 hf (fun v2 hf => ?_)
    refine lv_sipush (v := 264) X.1 X.2.1 dX13_doTest_54 (by decide) ?_
    refine lv_iload_n X.1 X.2.1 dX13_doTest_57 rfl (lv_at hl 1 rfl) ?_
    refine g_aload_n X (or_rv _) dX13_doTest_58 rfl (lv_at hl 0 rfl) ?_
    refine lv_iload_n X.1 X.2.1 dX13_doTest_59 rfl (lv_at hl 2 rfl) ?_
    obtain ⟨v3, hc, hf⟩ := ob_some hf
    refine g_ci S (runV (As := [.int x2]) (rest := [.int x1, .int 264, rv v2]) X S coX13_374 (by decide) (cX13_halfAt_m l hc) (tkX13_halfAt hc) rfl hl.1 (by simp [cat_rv, cat_wv, cat_sv, cat_i, cat_l, cat_a]) rfl ⟨Nat.zero_le _, Nat.zero_le _⟩ dX13_doTest_60) (fun H locs S => ?_)
    refine lv_bipush (v := 9) X.1 X.2.1 dX13_doTest_63 (by decide) ?_
    refine lv_icmp_le (tgt := 72) X.1 X.2.1 dX13_doTest_65 (by decide) (fun c4 => ?_) (fun c4 => ?_)
    · replace hf := (if_pos c4).symm.trans hf
      refine lv_iconst (v := 1) X.1 X.2.1 dX13_doTest_72 (by decide) ?_
      exact wfX13_doTest_73 X hr hlk hnm _ _ _ _ _ _ _ _ (lv_sub hl [] rfl) S hf
    · replace hf := (if_neg c4).symm.trans hf
      refine lv_iconst (v := 0) X.1 X.2.1 dX13_doTest_68 (by decide) ?_
      refine lv_goto (tgt := 73) X.1 X.2.1 dX13_doTest_69 (by decide) ?_
      exact wfX13_doTest_73 X hr hlk hnm _ _ _ _ _ _ _ _ (lv_sub hl [] rfl) S hf
  · replace hf := (if_neg c1).symm.trans hf
    refine g_aload_n X (or_rv _) dX13_doTest_28 rfl (lv_at hl 0 rfl) ?_
    refine lv_iload_n X.1 X.2.1 dX13_doTest_29 rfl (lv_at hl 3 rfl) ?_
    obtain ⟨v5, hc, hf⟩ := ob_some hf
    refine g_ci S (runV (As := [.int x3]) (rest := []) X S coX13_374 (by decide) (cX13_halfAt_m l hc) (tkX13_halfAt hc) rfl hl.1 (by decide) rfl ⟨Nat.zero_le _, Nat.zero_le _⟩ dX13_doTest_30) (fun H locs S => ?_)
    refine lv_bipush (v := 9) X.1 X.2.1 dX13_doTest_33 (by decide) ?_
    refine lv_icmp_le (tgt := 42) X.1 X.2.1 dX13_doTest_35 (by decide) (fun c6 => ?_) (fun c6 => ?_)
    · replace hf := (if_pos c6).symm.trans hf
      refine lv_iload_n X.1 X.2.1 dX13_doTest_42 rfl (lv_at hl 1 rfl) ?_
      refine lv_istore_n (i := 1) (lv' := [(1, .int x1), (0, rv x0), (2, .int x2), (3, .int x3)]) X.1 X.2.1 dX13_doTest_43 rfl hl (by decide) (by simp [List.filter, cat_rv, cat_wv, cat_sv]) (fun ls hl => ?_)
      obtain ⟨z7, ez7, hf⟩ := lt_some hf
      refine lv_iinc (v := z7) (lv' := [(3, .int z7), (1, .int x1), (0, rv x0), (2, .int x2)]) X.1 X.2.1 dX13_doTest_44 hl (k := 3) rfl (by rw [← ez7]; rfl) (by decide) rfl (fun ls hl => ?_)
      refine lv_goto (tgt := 23) X.1 X.2.1 dX13_doTest_47 (by decide) ?_
      exact hk23 _ _ _ _ _ _ _ _ (lv_sub hl [2, 1, 3, 0] rfl) S hf
    · replace hf := (if_neg c6).symm.trans hf
      refine lv_iconst (v := 2) X.1 X.2.1 dX13_doTest_38 (by decide) ?_
      refine lv_goto (tgt := 43) X.1 X.2.1 dX13_doTest_39 (by decide) ?_
      refine lv_istore_n (i := 1) (lv' := [(1, .int 2), (0, rv x0), (2, .int x2), (3, .int x3)]) X.1 X.2.1 dX13_doTest_43 rfl hl (by decide) (by simp [List.filter, cat_rv, cat_wv, cat_sv]) (fun ls hl => ?_)
      obtain ⟨z8, ez8, hf⟩ := lt_some hf
      refine lv_iinc (v := z8) (lv' := [(3, .int z8), (1, .int 2), (0, rv x0), (2, .int x2)]) X.1 X.2.1 dX13_doTest_44 hl (k := 3) rfl (by rw [← ez8]; rfl) (by decide) rfl (fun ls hl => ?_)
      refine lv_goto (tgt := 23) X.1 X.2.1 dX13_doTest_47 (by decide) ?_
      exact hk23 _ _ _ _ _ _ _ _ (lv_sub hl [2, 1, 3, 0] rfl) S hf
theorem wfX13_doTest_23_l {h9 : Hp} (X : Cx p E A 9 R s m args c cX13_doTest yX13_doTest.cls 4) (hr : meth.sig.returnType = none) (hlk : meth.locks = false) (hnm : meth.name = yX13_doTest.name) :
    ∀ (n : Nat) (x0 : Nat) (x1 : Int32) (x2 : Int32) (x3 : Int32) (h : Hp) (H : Heap) (locs : List Loc) (ls : Array Slot), lv_has ls 4 [(0, rv x0), (1, .int x1), (2, .int x2), (3, .int x3)] → St E A s h H locs → lp (fun _ _ _ _ _ => none) (fX13_doTest_23) n x0 x1 x2 x3 h = some h9 → W p l e R s m args below meth c H locs 0 0 (MQ below (Qv E A h9) args s 0 0 A) (F0 m 23 ls []) := by
  intro n
  induction n with
  | zero =>
    intro x0 x1 x2 x3 h H locs ls hl S hf
    exact nomatch hf
  | succ n ih =>
    intro x0 x1 x2 x3 h H locs ls hl S hf
    exact wfX13_doTest_23 X hr hlk hnm ih x0 x1 x2 x3 h H locs ls hl S hf
def fX13_doTest (a0 : Nat) (h : Hp) : Option (Hp) := gd 11 a0 h (ob (gI 11 a0 34 h) fun v1 => ob (gI 11 a0 35 h) fun v2 => lt ((2 * (v1 + v2)) - 1) fun z3 => ob (gI 11 a0 34 h) fun v4 => lt (2 * v4) fun z5 => lp (fun _ _ _ _ _ => none) (fX13_doTest_23) FU a0 0 z3 z5 h)
theorem tkX13_doTest {a0 : Nat} {h : Hp} {r9 : Hp} (e : fX13_doTest a0 h = some r9) : hK h a0 = 11 := by
  unfold fX13_doTest at e
  exact (gd_some e).1
theorem cX13_doTest_m (l : Launch) {E : EE} {A : Nat → Prop} {a0 : Nat} {h : Hp} {h9 : Hp} (hf : fX13_doTest a0 h = some h9) : Met l yX13_doTest (wsM yX13_doTest cX13_doTest 4 none) (rmm 9 0 0) (PcE E A h [rv a0]) (Qv E A h9) 0 0 A := by
  refine met_of (by decide +kernel) (by simp [lg_sl, cat_rv, cat_wv, cat_sv, cat_i, cat_l, cat_a]) (fun p e s m args below meth c ls X hr hlk hnm S hl => ?_)
  have hl : lv_has ls 4 [(0, rv a0)] := by simpa [lv_args, cat_rv, cat_wv, cat_sv, cat_i, cat_l, cat_a] using hl
  generalize hH : s.heap = H at S ⊢
  generalize hlo : ([] : List Loc) = locs at S ⊢
  clear hH hlo
  unfold fX13_doTest at hf
  obtain ⟨hth, hf⟩ := gd_some hf
  refine lv_iconst (v := 0) X.1 X.2.1 dX13_doTest_0 (by decide) ?_
  refine lv_istore_n (i := 1) (lv' := [(1, .int 0), (0, rv a0)]) X.1 X.2.1 dX13_doTest_1 rfl hl (by decide) (by simp [List.filter, cat_rv, cat_wv, cat_sv]) (fun ls hl => ?_)
  refine lv_iconst (v := 2) X.1 X.2.1 dX13_doTest_2 (by decide) ?_
  refine g_aload_n X (or_rv _) dX13_doTest_3 rfl (lv_at hl 1 rfl) ?_
  refine g_gI X S foX13_394 rfl dX13_doTest_4 hf (fun v1 hf => ?_)
  refine g_aload_n X (or_rv _) dX13_doTest_7 rfl (lv_at hl 1 rfl) ?_
  refine g_gI X S foX13_403 rfl dX13_doTest_8 hf (fun v2 hf => ?_)
  refine lv_iadd X.1 X.2.1 dX13_doTest_11 ?_
  refine lv_imul X.1 X.2.1 dX13_doTest_12 ?_
  refine lv_iconst (v := 1) X.1 X.2.1 dX13_doTest_13 (by decide) ?_
  refine lv_isub X.1 X.2.1 dX13_doTest_14 ?_
  refine g_lti hf (fun z3 hf => ?_)
  refine lv_istore_n (i := 2) (lv' := [(2, .int z3), (1, .int 0), (0, rv a0)]) X.1 X.2.1 dX13_doTest_15 rfl hl (by decide) rfl (fun ls hl => ?_)
  refine lv_iconst (v := 2) X.1 X.2.1 dX13_doTest_16 (by decide) ?_
  refine g_aload_n X (or_rv _) dX13_doTest_17 rfl (lv_at hl 2 rfl) ?_
  refine g_gI X S foX13_394 rfl dX13_doTest_18 hf (fun v4 hf => ?_)
  refine lv_imul X.1 X.2.1 dX13_doTest_21 ?_
  refine g_lti hf (fun z5 hf => ?_)
  refine lv_istore_n (i := 3) (lv' := [(3, .int z5), (2, .int z3), (1, .int 0), (0, rv a0)]) X.1 X.2.1 dX13_doTest_22 rfl hl (by decide) rfl (fun ls hl => ?_)
  exact wfX13_doTest_23_l X hr hlk hnm FU _ _ _ _ _ _ _ _ (lv_sub hl [3, 2, 1, 0] rfl) S hf
def fX13_doRegister (a0 : Nat) (a1 : Int32) (a2 : Int32) (h : Hp) : Option (Hp) := gd 11 a0 h (ob (gR 11 a0 9 h) fun v1 => ob (aI v1 a1 h) fun v2 => if a2 = 18 then ob (gR 11 a0 3 h) fun v33 => ob (fX13_addressOf a0 a1 0 h) fun v34 => ob (qI v33 (256 + v2) v34 h) fun h => some h else if a2 = 19 then ob (gR 11 a0 3 h) fun v29 => ob (aI v29 (256 + v2) h) fun v30 => ob (gR 11 a0 10 h) fun v31 => ob (aI v31 a1 h) fun v32 => ob (qI v29 (256 + v2) (v30 + v32) h) fun h => some h else if a2 = 20 then ob (gR 11 a0 3 h) fun v22 => ob (aI v22 (256 + v2) h) fun v23 => ob (qI v22 (256 + v2) (v23 - 1) h) fun h => ob (gR 11 a0 3 h) fun v24 => ob (aI v24 (256 + v2) h) fun v25 => if v25 = 0 then some h else ob (gR 11 a0 11 h) fun v27 => ob (aI v27 a1 h) fun v28 => ob (pI 11 a0 44 v28 h) fun h => some h else if a2 = 21 then ob (gR 11 a0 3 h) fun v17 => ob (aI v17 264 h) fun v18 => if ((v2 >>> ((3 - v18) &&& 31)) &&& (1 : Int32)) = 1 then ob (gR 11 a0 11 h) fun v20 => ob (aI v20 a1 h) fun v21 => ob (pI 11 a0 44 v21 h) fun h => some h else some h else if a2 = 22 then ob (gR 11 a0 3 h) fun v14 => ob (gR 11 a0 11 h) fun v15 => ob (aI v15 a1 h) fun v16 => ob (qI v14 (267 + v2) v16 h) fun h => some h else if a2 = 23 then ob (gR 11 a0 3 h) fun v9 => ob (aI v9 266 h) fun v10 => if v10 = (-1) then some h else ob (gR 11 a0 3 h) fun v12 => ob (aI v12 266 h) fun v13 => ob (pI 11 a0 44 (v13 + 1) h) fun h => some h else some h)
theorem tkX13_doRegister {a0 : Nat} {a1 : Int32} {a2 : Int32} {h : Hp} {r9 : Hp} (e : fX13_doRegister a0 a1 a2 h = some r9) : hK h a0 = 11 := by
  unfold fX13_doRegister at e
  exact (gd_some e).1
theorem cX13_doRegister_m (l : Launch) {E : EE} {A : Nat → Prop} {a0 : Nat} {a1 : Int32} {a2 : Int32} {h : Hp} {h9 : Hp} (hf : fX13_doRegister a0 a1 a2 h = some h9) : Met l yX13_doRegister (wsM yX13_doRegister cX13_doRegister 4 none) (rmm 9 0 0) (PcE E A h [rv a0, .int a1, .int a2]) (Qv E A h9) 0 0 A := by
  refine met_of (by decide +kernel) (by simp [lg_sl, cat_rv, cat_wv, cat_sv, cat_i, cat_l, cat_a]) (fun p e s m args below meth c ls X hr hlk hnm S hl => ?_)
  have hl : lv_has ls 4 [(0, rv a0), (1, .int a1), (2, .int a2)] := by simpa [lv_args, cat_rv, cat_wv, cat_sv, cat_i, cat_l, cat_a] using hl
  generalize hH : s.heap = H at S ⊢
  generalize hlo : ([] : List Loc) = locs at S ⊢
  clear hH hlo
  unfold fX13_doRegister at hf
  obtain ⟨hth, hf⟩ := gd_some hf
  refine g_aload_n X (or_rv _) dX13_doRegister_0 rfl (lv_at hl 0 rfl) ?_
  refine g_gR X S foX13_95 dX13_doRegister_1 hf (fun v1 hf => ?_)
  refine lv_iload_n X.1 X.2.1 dX13_doRegister_4 rfl (lv_at hl 1 rfl) ?_
  refine g_aI X S dX13_doRegister_5 hf (fun v2 hf => ?_)
  refine lv_istore_n (i := 3) (lv' := [(3, .int v2), (0, rv a0), (1, .int a1), (2, .int a2)]) X.1 X.2.1 dX13_doRegister_6 rfl hl (by decide) rfl (fun ls hl => ?_)
  refine lv_iload_n X.1 X.2.1 dX13_doRegister_7 rfl (lv_at hl 3 rfl) ?_
  refine lv_bipush (v := 18) X.1 X.2.1 dX13_doRegister_8 (by decide) ?_
  refine lv_icmp_ne (tgt := 32) X.1 X.2.1 dX13_doRegister_10 (by decide) (fun c3 => ?_) (fun c3 => ?_)
  · replace hf := (if_neg c3).symm.trans hf
    refine lv_iload_n X.1 X.2.1 dX13_doRegister_32 rfl (lv_at hl 3 rfl) ?_
    refine lv_bipush (v := 19) X.1 X.2.1 dX13_doRegister_33 (by decide) ?_
    refine lv_icmp_ne (tgt := 60) X.1 X.2.1 dX13_doRegister_35 (by decide) (fun c4 => ?_) (fun c4 => ?_)
    · replace hf := (if_neg c4).symm.trans hf
      refine lv_iload_n X.1 X.2.1 dX13_doRegister_60 rfl (lv_at hl 3 rfl) ?_
      refine lv_bipush (v := 20) X.1 X.2.1 dX13_doRegister_61 (by decide) ?_
      refine lv_icmp_ne (tgt := 106) X.1 X.2.1 dX13_doRegister_63 (by decide) (fun c5 => ?_) (fun c5 => ?_)
      · replace hf := (if_neg c5).symm.trans hf
        refine lv_iload_n X.1 X.2.1 dX13_doRegister_106 rfl (lv_at hl 3 rfl) ?_
        refine lv_bipush (v := 21) X.1 X.2.1 dX13_doRegister_107 (by decide) ?_
        refine lv_icmp_ne (tgt := 143) X.1 X.2.1 dX13_doRegister_109 (by decide) (fun c6 => ?_) (fun c6 => ?_)
        · replace hf := (if_neg c6).symm.trans hf
          refine lv_iload_n X.1 X.2.1 dX13_doRegister_143 rfl (lv_at hl 3 rfl) ?_
          refine lv_bipush (v := 22) X.1 X.2.1 dX13_doRegister_144 (by decide) ?_
          refine lv_icmp_ne (tgt := 168) X.1 X.2.1 dX13_doRegister_146 (by decide) (fun c7 => ?_) (fun c7 => ?_)
          · replace hf := (if_neg c7).symm.trans hf
            refine lv_iload_n X.1 X.2.1 dX13_doRegister_168 rfl (lv_at hl 3 rfl) ?_
            refine lv_bipush (v := 23) X.1 X.2.1 dX13_doRegister_169 (by decide) ?_
            refine lv_icmp_ne (tgt := 200) X.1 X.2.1 dX13_doRegister_171 (by decide) (fun c8 => ?_) (fun c8 => ?_)
            · replace hf := (if_neg c8).symm.trans hf
              cases hf; exact g_rv X S hr hlk dX13_doRegister_200
            · replace hf := (if_pos c8).symm.trans hf
              refine g_aload_n X (or_rv _) dX13_doRegister_174 rfl (lv_at hl 1 rfl) ?_
              refine g_gR X S foX13_76 dX13_doRegister_175 hf (fun v9 hf => ?_)
              refine lv_sipush (v := 266) X.1 X.2.1 dX13_doRegister_178 (by decide) ?_
              refine g_aI X S dX13_doRegister_181 hf (fun v10 hf => ?_)
              refine lv_iconst (v := (-1)) X.1 X.2.1 dX13_doRegister_182 (by decide) ?_
              refine lv_icmp_eq (tgt := 200) X.1 X.2.1 dX13_doRegister_183 (by decide) (fun c11 => ?_) (fun c11 => ?_)
              · replace hf := (if_pos c11).symm.trans hf
                cases hf; exact g_rv X S hr hlk dX13_doRegister_200
              · replace hf := (if_neg c11).symm.trans hf
                refine g_aload_n X (or_rv _) dX13_doRegister_186 rfl (lv_at hl 1 rfl) ?_
                refine g_aload_n X (or_rv _) dX13_doRegister_187 rfl (lv_at hl 1 rfl) ?_
                refine g_gR X S foX13_76 dX13_doRegister_188 hf (fun v12 hf => ?_)
                refine lv_sipush (v := 266) X.1 X.2.1 dX13_doRegister_191 (by decide) ?_
                refine g_aI X S dX13_doRegister_194 hf (fun v13 hf => ?_)
                refine lv_iconst (v := 1) X.1 X.2.1 dX13_doRegister_195 (by decide) ?_
                refine lv_iadd X.1 X.2.1 dX13_doRegister_196 ?_
                refine g_pI X S fpX13_532 (Or.inl rfl) dX13_doRegister_197 hf (fun h H locs hm hf S => ?_)
                cases hf; exact g_rv X S hr hlk dX13_doRegister_200
          · replace hf := (if_pos c7).symm.trans hf
            refine g_aload_n X (or_rv _) dX13_doRegister_149 rfl (lv_at hl 1 rfl) ?_
            refine g_gR X S foX13_76 dX13_doRegister_150 hf (fun v14 hf => ?_)
            refine lv_sipush (v := 267) X.1 X.2.1 dX13_doRegister_153 (by decide) ?_
            refine lv_iload_n X.1 X.2.1 dX13_doRegister_156 rfl (lv_at hl 0 rfl) ?_
            refine lv_iadd X.1 X.2.1 dX13_doRegister_157 ?_
            refine g_aload_n X (or_rv _) dX13_doRegister_158 rfl (lv_at hl 1 rfl) ?_
            refine g_gR X S foX13_101 dX13_doRegister_159 hf (fun v15 hf => ?_)
            refine lv_iload_n X.1 X.2.1 dX13_doRegister_162 rfl (lv_at hl 2 rfl) ?_
            refine g_aI X S dX13_doRegister_163 hf (fun v16 hf => ?_)
            refine g_qI X S dX13_doRegister_164 hf (fun h H locs hm hf S => ?_)
            refine lv_goto (tgt := 200) X.1 X.2.1 dX13_doRegister_165 (by decide) ?_
            cases hf; exact g_rv X S hr hlk dX13_doRegister_200
        · replace hf := (if_pos c6).symm.trans hf
          refine lv_iload_n X.1 X.2.1 dX13_doRegister_112 rfl (lv_at hl 0 rfl) ?_
          refine lv_iconst (v := 3) X.1 X.2.1 dX13_doRegister_113 (by decide) ?_
          refine g_aload_n X (or_rv _) dX13_doRegister_114 rfl (lv_at hl 1 rfl) ?_
          refine g_gR X S foX13_76 dX13_doRegister_115 hf (fun v17 hf => ?_)
          refine lv_sipush (v := 264) X.1 X.2.1 dX13_doRegister_118 (by decide) ?_
          refine g_aI X S dX13_doRegister_121 hf (fun v18 hf => ?_)
          refine lv_isub X.1 X.2.1 dX13_doRegister_122 ?_
          refine lv_ishr X.1 X.2.1 dX13_doRegister_123 ?_
          refine lv_iconst (v := 1) X.1 X.2.1 dX13_doRegister_124 (by decide) ?_
          refine lv_iand X.1 X.2.1 dX13_doRegister_125 ?_
          refine lv_iconst (v := 1) X.1 X.2.1 dX13_doRegister_126 (by decide) ?_
          refine lv_icmp_ne (tgt := 200) X.1 X.2.1 dX13_doRegister_127 (by decide) (fun c19 => ?_) (fun c19 => ?_)
          · replace hf := (if_neg c19).symm.trans hf
            cases hf; exact g_rv X S hr hlk dX13_doRegister_200
          · replace hf := (if_pos c19).symm.trans hf
            refine g_aload_n X (or_rv _) dX13_doRegister_130 rfl (lv_at hl 1 rfl) ?_
            refine g_aload_n X (or_rv _) dX13_doRegister_131 rfl (lv_at hl 1 rfl) ?_
            refine g_gR X S foX13_101 dX13_doRegister_132 hf (fun v20 hf => ?_)
            refine lv_iload_n X.1 X.2.1 dX13_doRegister_135 rfl (lv_at hl 2 rfl) ?_
            refine g_aI X S dX13_doRegister_136 hf (fun v21 hf => ?_)
            refine g_pI X S fpX13_532 (Or.inl rfl) dX13_doRegister_137 hf (fun h H locs hm hf S => ?_)
            refine lv_goto (tgt := 200) X.1 X.2.1 dX13_doRegister_140 (by decide) ?_
            cases hf; exact g_rv X S hr hlk dX13_doRegister_200
      · replace hf := (if_pos c5).symm.trans hf
        refine g_aload_n X (or_rv _) dX13_doRegister_66 rfl (lv_at hl 1 rfl) ?_
        refine g_gR X S foX13_76 dX13_doRegister_67 hf (fun v22 hf => ?_)
        refine lv_sipush (v := 256) X.1 X.2.1 dX13_doRegister_70 (by decide) ?_
        refine lv_iload_n X.1 X.2.1 dX13_doRegister_73 rfl (lv_at hl 0 rfl) ?_
        refine lv_iadd X.1 X.2.1 dX13_doRegister_74 ?_
        refine lv_dup2_11 X.1 X.2.1 dX13_doRegister_75 rfl (cat_rv _) ?_
        refine g_aI X S dX13_doRegister_76 hf (fun v23 hf => ?_)
        refine lv_iconst (v := 1) X.1 X.2.1 dX13_doRegister_77 (by decide) ?_
        refine lv_isub X.1 X.2.1 dX13_doRegister_78 ?_
        refine g_qI X S dX13_doRegister_79 hf (fun h H locs hm hf S => ?_)
        refine g_aload_n X (or_rv _) dX13_doRegister_80 rfl (lv_at hl 1 rfl) ?_
        refine g_gR X S foX13_76 dX13_doRegister_81 hf (fun v24 hf => ?_)
        refine lv_sipush (v := 256) X.1 X.2.1 dX13_doRegister_84 (by decide) ?_
        refine lv_iload_n X.1 X.2.1 dX13_doRegister_87 rfl (lv_at hl 0 rfl) ?_
        refine lv_iadd X.1 X.2.1 dX13_doRegister_88 ?_
        refine g_aI X S dX13_doRegister_89 hf (fun v25 hf => ?_)
        refine lv_if_eq (tgt := 200) X.1 X.2.1 dX13_doRegister_90 (by decide) (fun c26 => ?_) (fun c26 => ?_)
        · replace hf := (if_pos c26).symm.trans hf
          cases hf; exact g_rv X S hr hlk dX13_doRegister_200
        · replace hf := (if_neg c26).symm.trans hf
          refine g_aload_n X (or_rv _) dX13_doRegister_93 rfl (lv_at hl 1 rfl) ?_
          refine g_aload_n X (or_rv _) dX13_doRegister_94 rfl (lv_at hl 1 rfl) ?_
          refine g_gR X S foX13_101 dX13_doRegister_95 hf (fun v27 hf => ?_)
          refine lv_iload_n X.1 X.2.1 dX13_doRegister_98 rfl (lv_at hl 2 rfl) ?_
          refine g_aI X S dX13_doRegister_99 hf (fun v28 hf => ?_)
          refine g_pI X S fpX13_532 (Or.inl rfl) dX13_doRegister_100 hf (fun h H locs hm hf S => ?_)
          refine lv_goto (tgt := 200) X.1 X.2.1 dX13_doRegister_103 (by decide) ?_
          cases hf; exact g_rv X S hr hlk dX13_doRegister_200
    · replace hf := (if_pos c4).symm.trans hf
      refine g_aload_n X (or_rv _) dX13_doRegister_38 rfl (lv_at hl 1 rfl) ?_
      refine g_gR X S foX13_76 dX13_doRegister_39 hf (fun v29 hf => ?_)
      refine lv_sipush (v := 256) X.1 X.2.1 dX13_doRegister_42 (by decide) ?_
      refine lv_iload_n X.1 X.2.1 dX13_doRegister_45 rfl (lv_at hl 0 rfl) ?_
      refine lv_iadd X.1 X.2.1 dX13_doRegister_46 ?_
      refine lv_dup2_11 X.1 X.2.1 dX13_doRegister_47 rfl (cat_rv _) ?_
      refine g_aI X S dX13_doRegister_48 hf (fun v30 hf => ?_)
      refine g_aload_n X (or_rv _) dX13_doRegister_49 rfl (lv_at hl 1 rfl) ?_
      refine g_gR X S foX13_98 dX13_doRegister_50 hf (fun v31 hf => ?_)
      refine lv_iload_n X.1 X.2.1 dX13_doRegister_53 rfl (lv_at hl 2 rfl) ?_
      refine g_aI X S dX13_doRegister_54 hf (fun v32 hf => ?_)
      refine lv_iadd X.1 X.2.1 dX13_doRegister_55 ?_
      refine g_qI X S dX13_doRegister_56 hf (fun h H locs hm hf S => ?_)
      refine lv_goto (tgt := 200) X.1 X.2.1 dX13_doRegister_57 (by decide) ?_
      cases hf; exact g_rv X S hr hlk dX13_doRegister_200
  · replace hf := (if_pos c3).symm.trans hf
    refine g_aload_n X (or_rv _) dX13_doRegister_13 rfl (lv_at hl 1 rfl) ?_
    refine g_gR X S foX13_76 dX13_doRegister_14 hf (fun v33 hf => ?_)
    refine lv_sipush (v := 256) X.1 X.2.1 dX13_doRegister_17 (by decide) ?_
    refine lv_iload_n X.1 X.2.1 dX13_doRegister_20 rfl (lv_at hl 0 rfl) ?_
    refine lv_iadd X.1 X.2.1 dX13_doRegister_21 ?_
    refine g_aload_n X (or_rv _) dX13_doRegister_22 rfl (lv_at hl 1 rfl) ?_
    refine lv_iload_n X.1 X.2.1 dX13_doRegister_23 rfl (lv_at hl 2 rfl) ?_
    refine lv_iconst (v := 0) X.1 X.2.1 dX13_doRegister_24 (by decide) ?_
    obtain ⟨v34, hc, hf⟩ := ob_some hf
    refine g_ci S (runV (As := [.int a1, .int 0]) (rest := [.int (256 + v2), rv v33]) X S coX13_421 (by decide) (cX13_addressOf_m l hc) (tkX13_addressOf hc) rfl hl.1 (by simp [cat_rv, cat_wv, cat_sv, cat_i, cat_l, cat_a]) rfl ⟨Nat.zero_le _, Nat.zero_le _⟩ dX13_doRegister_25) (fun H locs S => ?_)
    refine g_qI X S dX13_doRegister_28 hf (fun h H locs hm hf S => ?_)
    refine lv_goto (tgt := 200) X.1 X.2.1 dX13_doRegister_29 (by decide) ?_
    cases hf; exact g_rv X S hr hlk dX13_doRegister_200
def fX13_perform_115 (y0 : Int32) (y1 : Nat) (h : Hp) : Option (Hp) := ob (fX13_doEdit y1 y0 h) fun h => some h
theorem wfX13_perform_115 {h9 : Hp} (X : Cx p E A 14 R s m args c cX13_perform yX13_perform.cls 3) (hr : meth.sig.returnType = none) (hlk : meth.locks = false) (hnm : meth.name = yX13_perform.name) :
    ∀ (y0 : Int32) (y1 : Nat) (h : Hp) (H : Heap) (locs : List Loc) (ls : Array Slot), lv_has ls 3 [] → St E A s h H locs → fX13_perform_115 y0 y1 h = some h9 → W p l e R s m args below meth c H locs 0 0 (MQ below (Qv E A h9) args s 0 0 A) (F0 m 115 ls [.int y0, rv y1]) := by
  intro y0 y1 h H locs ls hl S hf
  unfold fX13_perform_115 at hf
  obtain ⟨h, hc, hf⟩ := ob_some hf
  refine g_cv S (runV (As := [.int y0]) (rest := []) X S coX13_556 (by decide) (cX13_doEdit_m l hc) (tkX13_doEdit hc) rfl hl.1 (by decide) rfl ⟨Nat.zero_le _, Nat.zero_le _⟩ dX13_perform_115) (fun H locs S => ?_)
  refine lv_goto (tgt := 203) X.1 X.2.1 dX13_perform_118 (by decide) ?_
  cases hf; exact g_rv X S hr hlk dX13_perform_203
def fX13_perform (a0 : Nat) (a1 : Int32) (a2 : Int32) (h : Hp) : Option (Hp) := gd 11 a0 h (ob (gI 11 a0 38 h) fun v1 => if v1 = 0 then if a2 = 0 then ob (fX13_doPack a0 h) fun h => some h else if a2 = 1 then ob (fX13_doUnpack a0 h) fun h => some h else if a2 = 2 then ob (fX13_doOffset a0 h) fun h => some h else if 6 < a2 then if a2 = 7 then ob (fX13_doProduct a0 h) fun h => some h else if a2 = 8 then ob (fX13_doQuotient a0 h) fun h => some h else if 11 < a2 then if 13 < a2 then if a2 = 14 then ob (gR 11 a0 9 h) fun v23 => ob (aI v23 a1 h) fun v24 => ob (gR 11 a0 10 h) fun v25 => ob (aI v25 a1 h) fun v26 => ob (fX13_doShift a0 v24 v26 h) fun h => some h else if a2 = 15 then ob (fX13_doTest a0 h) fun h => some h else if a2 = 16 then ob (gR 11 a0 9 h) fun v19 => ob (aI v19 a1 h) fun v20 => ob (fX13_doBinary a0 v20 h) fun h => some h else if a2 = 17 then ob (gR 11 a0 9 h) fun v16 => ob (aI v16 a1 h) fun v17 => ob (fX13_doDecimal a0 v17 h) fun h => some h else ob (fX13_doRegister a0 a1 a2 h) fun h => some h else if a2 = 13 then fX13_perform_115 1 a0 h else fX13_perform_115 0 a0 h else ob (fX13_doCopy a0 a2 h) fun h => some h else ob (fX13_doSum a0 a2 h) fun h => some h else some h)
theorem tkX13_perform {a0 : Nat} {a1 : Int32} {a2 : Int32} {h : Hp} {r9 : Hp} (e : fX13_perform a0 a1 a2 h = some r9) : hK h a0 = 11 := by
  unfold fX13_perform at e
  exact (gd_some e).1
theorem cX13_perform_m (l : Launch) {E : EE} {A : Nat → Prop} {a0 : Nat} {a1 : Int32} {a2 : Int32} {h : Hp} {h9 : Hp} (hf : fX13_perform a0 a1 a2 h = some h9) : Met l yX13_perform (wsM yX13_perform cX13_perform 3 none) (rmm 14 0 0) (PcE E A h [rv a0, .int a1, .int a2]) (Qv E A h9) 0 0 A := by
  refine met_of (by decide +kernel) (by simp [lg_sl, cat_rv, cat_wv, cat_sv, cat_i, cat_l, cat_a]) (fun p e s m args below meth c ls X hr hlk hnm S hl => ?_)
  have hl : lv_has ls 3 [(0, rv a0), (1, .int a1), (2, .int a2)] := by simpa [lv_args, cat_rv, cat_wv, cat_sv, cat_i, cat_l, cat_a] using hl
  generalize hH : s.heap = H at S ⊢
  generalize hlo : ([] : List Loc) = locs at S ⊢
  clear hH hlo
  unfold fX13_perform at hf
  obtain ⟨hth, hf⟩ := gd_some hf
  refine g_aload_n X (or_rv _) dX13_perform_0 rfl (lv_at hl 0 rfl) ?_
  refine g_gI X S foX13_388 rfl dX13_perform_1 hf (fun v1 hf => ?_)
  refine lv_if_eq (tgt := 8) X.1 X.2.1 dX13_perform_4 (by decide) (fun c2 => ?_) (fun c2 => ?_)
  · replace hf := (if_pos c2).symm.trans hf
    refine lv_iload_n X.1 X.2.1 dX13_perform_8 rfl (lv_at hl 2 rfl) ?_
    refine lv_if_ne (tgt := 19) X.1 X.2.1 dX13_perform_9 (by decide) (fun c3 => ?_) (fun c3 => ?_)
    · replace hf := (if_neg c3).symm.trans hf
      refine lv_iload_n X.1 X.2.1 dX13_perform_19 rfl (lv_at hl 2 rfl) ?_
      refine lv_iconst (v := 1) X.1 X.2.1 dX13_perform_20 (by decide) ?_
      refine lv_icmp_ne (tgt := 31) X.1 X.2.1 dX13_perform_21 (by decide) (fun c4 => ?_) (fun c4 => ?_)
      · replace hf := (if_neg c4).symm.trans hf
        refine lv_iload_n X.1 X.2.1 dX13_perform_31 rfl (lv_at hl 2 rfl) ?_
        refine lv_iconst (v := 2) X.1 X.2.1 dX13_perform_32 (by decide) ?_
        refine lv_icmp_ne (tgt := 43) X.1 X.2.1 dX13_perform_33 (by decide) (fun c5 => ?_) (fun c5 => ?_)
        · replace hf := (if_neg c5).symm.trans hf
          refine lv_iload_n X.1 X.2.1 dX13_perform_43 rfl (lv_at hl 2 rfl) ?_
          refine lv_bipush (v := 6) X.1 X.2.1 dX13_perform_44 (by decide) ?_
          refine lv_icmp_gt (tgt := 57) X.1 X.2.1 dX13_perform_46 (by decide) (fun c6 => ?_) (fun c6 => ?_)
          · replace hf := (if_pos c6).symm.trans hf
            refine lv_iload_n X.1 X.2.1 dX13_perform_57 rfl (lv_at hl 2 rfl) ?_
            refine lv_bipush (v := 7) X.1 X.2.1 dX13_perform_58 (by decide) ?_
            refine lv_icmp_ne (tgt := 70) X.1 X.2.1 dX13_perform_60 (by decide) (fun c7 => ?_) (fun c7 => ?_)
            · replace hf := (if_neg c7).symm.trans hf
              refine lv_iload_n X.1 X.2.1 dX13_perform_70 rfl (lv_at hl 2 rfl) ?_
              refine lv_bipush (v := 8) X.1 X.2.1 dX13_perform_71 (by decide) ?_
              refine lv_icmp_ne (tgt := 83) X.1 X.2.1 dX13_perform_73 (by decide) (fun c8 => ?_) (fun c8 => ?_)
              · replace hf := (if_neg c8).symm.trans hf
                refine lv_iload_n X.1 X.2.1 dX13_perform_83 rfl (lv_at hl 2 rfl) ?_
                refine lv_bipush (v := 11) X.1 X.2.1 dX13_perform_84 (by decide) ?_
                refine lv_icmp_gt (tgt := 97) X.1 X.2.1 dX13_perform_86 (by decide) (fun c9 => ?_) (fun c9 => ?_)
                · replace hf := (if_pos c9).symm.trans hf
                  refine lv_iload_n X.1 X.2.1 dX13_perform_97 rfl (lv_at hl 2 rfl) ?_
                  refine lv_bipush (v := 13) X.1 X.2.1 dX13_perform_98 (by decide) ?_
                  refine lv_icmp_gt (tgt := 121) X.1 X.2.1 dX13_perform_100 (by decide) (fun c10 => ?_) (fun c10 => ?_)
                  · replace hf := (if_pos c10).symm.trans hf
                    refine lv_iload_n X.1 X.2.1 dX13_perform_121 rfl (lv_at hl 2 rfl) ?_
                    refine lv_bipush (v := 14) X.1 X.2.1 dX13_perform_122 (by decide) ?_
                    refine lv_icmp_ne (tgt := 146) X.1 X.2.1 dX13_perform_124 (by decide) (fun c11 => ?_) (fun c11 => ?_)
                    · replace hf := (if_neg c11).symm.trans hf
                      refine lv_iload_n X.1 X.2.1 dX13_perform_146 rfl (lv_at hl 2 rfl) ?_
                      refine lv_bipush (v := 15) X.1 X.2.1 dX13_perform_147 (by decide) ?_
                      refine lv_icmp_ne (tgt := 159) X.1 X.2.1 dX13_perform_149 (by decide) (fun c12 => ?_) (fun c12 => ?_)
                      · replace hf := (if_neg c12).symm.trans hf
                        refine lv_iload_n X.1 X.2.1 dX13_perform_159 rfl (lv_at hl 2 rfl) ?_
                        refine lv_bipush (v := 16) X.1 X.2.1 dX13_perform_160 (by decide) ?_
                        refine lv_icmp_ne (tgt := 178) X.1 X.2.1 dX13_perform_162 (by decide) (fun c13 => ?_) (fun c13 => ?_)
                        · replace hf := (if_neg c13).symm.trans hf
                          refine lv_iload_n X.1 X.2.1 dX13_perform_178 rfl (lv_at hl 2 rfl) ?_
                          refine lv_bipush (v := 17) X.1 X.2.1 dX13_perform_179 (by decide) ?_
                          refine lv_icmp_ne (tgt := 197) X.1 X.2.1 dX13_perform_181 (by decide) (fun c14 => ?_) (fun c14 => ?_)
                          · replace hf := (if_neg c14).symm.trans hf
                            refine g_aload_n X (or_rv _) dX13_perform_197 rfl (lv_at hl 0 rfl) ?_
                            refine lv_iload_n X.1 X.2.1 dX13_perform_198 rfl (lv_at hl 1 rfl) ?_
                            refine lv_iload_n X.1 X.2.1 dX13_perform_199 rfl (lv_at hl 2 rfl) ?_
                            obtain ⟨h, hc, hf⟩ := ob_some hf
                            refine g_cv S (runV (As := [.int a1, .int a2]) (rest := []) X S coX13_572 (by decide) (cX13_doRegister_m l hc) (tkX13_doRegister hc) rfl hl.1 (by decide) rfl ⟨Nat.zero_le _, Nat.zero_le _⟩ dX13_perform_200) (fun H locs S => ?_)
                            cases hf; exact g_rv X S hr hlk dX13_perform_203
                          · replace hf := (if_pos c14).symm.trans hf
                            refine g_aload_n X (or_rv _) dX13_perform_184 rfl (lv_at hl 0 rfl) ?_
                            refine g_aload_n X (or_rv _) dX13_perform_185 rfl (lv_at hl 0 rfl) ?_
                            refine g_gR X S foX13_95 dX13_perform_186 hf (fun v16 hf => ?_)
                            refine lv_iload_n X.1 X.2.1 dX13_perform_189 rfl (lv_at hl 1 rfl) ?_
                            refine g_aI X S dX13_perform_190 hf (fun v17 hf => ?_)
                            obtain ⟨h, hc, hf⟩ := ob_some hf
                            refine g_cv S (runV (As := [.int v17]) (rest := []) X S coX13_569 (by decide) (cX13_doDecimal_m l hc) (tkX13_doDecimal hc) rfl hl.1 (by decide) rfl ⟨Nat.zero_le _, Nat.zero_le _⟩ dX13_perform_191) (fun H locs S => ?_)
                            refine lv_goto (tgt := 203) X.1 X.2.1 dX13_perform_194 (by decide) ?_
                            cases hf; exact g_rv X S hr hlk dX13_perform_203
                        · replace hf := (if_pos c13).symm.trans hf
                          refine g_aload_n X (or_rv _) dX13_perform_165 rfl (lv_at hl 0 rfl) ?_
                          refine g_aload_n X (or_rv _) dX13_perform_166 rfl (lv_at hl 0 rfl) ?_
                          refine g_gR X S foX13_95 dX13_perform_167 hf (fun v19 hf => ?_)
                          refine lv_iload_n X.1 X.2.1 dX13_perform_170 rfl (lv_at hl 1 rfl) ?_
                          refine g_aI X S dX13_perform_171 hf (fun v20 hf => ?_)
                          obtain ⟨h, hc, hf⟩ := ob_some hf
                          refine g_cv S (runV (As := [.int v20]) (rest := []) X S coX13_566 (by decide) (cX13_doBinary_m l hc) (tkX13_doBinary hc) rfl hl.1 (by decide) rfl ⟨Nat.zero_le _, Nat.zero_le _⟩ dX13_perform_172) (fun H locs S => ?_)
                          refine lv_goto (tgt := 203) X.1 X.2.1 dX13_perform_175 (by decide) ?_
                          cases hf; exact g_rv X S hr hlk dX13_perform_203
                      · replace hf := (if_pos c12).symm.trans hf
                        refine g_aload_n X (or_rv _) dX13_perform_152 rfl (lv_at hl 0 rfl) ?_
                        obtain ⟨h, hc, hf⟩ := ob_some hf
                        refine g_cv S (runV (As := []) (rest := []) X S coX13_563 (by decide) (cX13_doTest_m l hc) (tkX13_doTest hc) rfl hl.1 (by decide) rfl ⟨Nat.zero_le _, Nat.zero_le _⟩ dX13_perform_153) (fun H locs S => ?_)
                        refine lv_goto (tgt := 203) X.1 X.2.1 dX13_perform_156 (by decide) ?_
                        cases hf; exact g_rv X S hr hlk dX13_perform_203
                    · replace hf := (if_pos c11).symm.trans hf
                      refine g_aload_n X (or_rv _) dX13_perform_127 rfl (lv_at hl 0 rfl) ?_
                      refine g_aload_n X (or_rv _) dX13_perform_128 rfl (lv_at hl 0 rfl) ?_
                      refine g_gR X S foX13_95 dX13_perform_129 hf (fun v23 hf => ?_)
                      refine lv_iload_n X.1 X.2.1 dX13_perform_132 rfl (lv_at hl 1 rfl) ?_
                      refine g_aI X S dX13_perform_133 hf (fun v24 hf => ?_)
                      refine g_aload_n X (or_rv _) dX13_perform_134 rfl (lv_at hl 0 rfl) ?_
                      refine g_gR X S foX13_98 dX13_perform_135 hf (fun v25 hf => ?_)
                      refine lv_iload_n X.1 X.2.1 dX13_perform_138 rfl (lv_at hl 1 rfl) ?_
                      refine g_aI X S dX13_perform_139 hf (fun v26 hf => ?_)
                      obtain ⟨h, hc, hf⟩ := ob_some hf
                      refine g_cv S (runV (As := [.int v24, .int v26]) (rest := []) X S coX13_560 (by decide) (cX13_doShift_m l hc) (tkX13_doShift hc) rfl hl.1 (by decide) rfl ⟨Nat.zero_le _, Nat.zero_le _⟩ dX13_perform_140) (fun H locs S => ?_)
                      refine lv_goto (tgt := 203) X.1 X.2.1 dX13_perform_143 (by decide) ?_
                      cases hf; exact g_rv X S hr hlk dX13_perform_203
                  · replace hf := (if_neg c10).symm.trans hf
                    refine g_aload_n X (or_rv _) dX13_perform_103 rfl (lv_at hl 0 rfl) ?_
                    refine lv_iload_n X.1 X.2.1 dX13_perform_104 rfl (lv_at hl 2 rfl) ?_
                    refine lv_bipush (v := 13) X.1 X.2.1 dX13_perform_105 (by decide) ?_
                    refine lv_icmp_ne (tgt := 114) X.1 X.2.1 dX13_perform_107 (by decide) (fun c28 => ?_) (fun c28 => ?_)
                    · replace hf := (if_neg c28).symm.trans hf
                      refine lv_iconst (v := 0) X.1 X.2.1 dX13_perform_114 (by decide) ?_
                      exact wfX13_perform_115 X hr hlk hnm _ _ _ _ _ _ (lv_sub hl [] rfl) S hf
                    · replace hf := (if_pos c28).symm.trans hf
                      refine lv_iconst (v := 1) X.1 X.2.1 dX13_perform_110 (by decide) ?_
                      refine lv_goto (tgt := 115) X.1 X.2.1 dX13_perform_111 (by decide) ?_
                      exact wfX13_perform_115 X hr hlk hnm _ _ _ _ _ _ (lv_sub hl [] rfl) S hf
                · replace hf := (if_neg c9).symm.trans hf
                  refine g_aload_n X (or_rv _) dX13_perform_89 rfl (lv_at hl 0 rfl) ?_
                  refine lv_iload_n X.1 X.2.1 dX13_perform_90 rfl (lv_at hl 2 rfl) ?_
                  obtain ⟨h, hc, hf⟩ := ob_some hf
                  refine g_cv S (runV (As := [.int a2]) (rest := []) X S coX13_553 (by decide) (cX13_doCopy_m l hc) (tkX13_doCopy hc) rfl hl.1 (by decide) rfl ⟨Nat.zero_le _, Nat.zero_le _⟩ dX13_perform_91) (fun H locs S => ?_)
                  refine lv_goto (tgt := 203) X.1 X.2.1 dX13_perform_94 (by decide) ?_
                  cases hf; exact g_rv X S hr hlk dX13_perform_203
              · replace hf := (if_pos c8).symm.trans hf
                refine g_aload_n X (or_rv _) dX13_perform_76 rfl (lv_at hl 0 rfl) ?_
                obtain ⟨h, hc, hf⟩ := ob_some hf
                refine g_cv S (runV (As := []) (rest := []) X S coX13_550 (by decide) (cX13_doQuotient_m l hc) (tkX13_doQuotient hc) rfl hl.1 (by decide) rfl ⟨Nat.zero_le _, Nat.zero_le _⟩ dX13_perform_77) (fun H locs S => ?_)
                refine lv_goto (tgt := 203) X.1 X.2.1 dX13_perform_80 (by decide) ?_
                cases hf; exact g_rv X S hr hlk dX13_perform_203
            · replace hf := (if_pos c7).symm.trans hf
              refine g_aload_n X (or_rv _) dX13_perform_63 rfl (lv_at hl 0 rfl) ?_
              obtain ⟨h, hc, hf⟩ := ob_some hf
              refine g_cv S (runV (As := []) (rest := []) X S coX13_547 (by decide) (cX13_doProduct_m l hc) (tkX13_doProduct hc) rfl hl.1 (by decide) rfl ⟨Nat.zero_le _, Nat.zero_le _⟩ dX13_perform_64) (fun H locs S => ?_)
              refine lv_goto (tgt := 203) X.1 X.2.1 dX13_perform_67 (by decide) ?_
              cases hf; exact g_rv X S hr hlk dX13_perform_203
          · replace hf := (if_neg c6).symm.trans hf
            refine g_aload_n X (or_rv _) dX13_perform_49 rfl (lv_at hl 0 rfl) ?_
            refine lv_iload_n X.1 X.2.1 dX13_perform_50 rfl (lv_at hl 2 rfl) ?_
            obtain ⟨h, hc, hf⟩ := ob_some hf
            refine g_cv S (runV (As := [.int a2]) (rest := []) X S coX13_544 (by decide) (cX13_doSum_m l hc) (tkX13_doSum hc) rfl hl.1 (by decide) rfl ⟨Nat.zero_le _, Nat.zero_le _⟩ dX13_perform_51) (fun H locs S => ?_)
            refine lv_goto (tgt := 203) X.1 X.2.1 dX13_perform_54 (by decide) ?_
            cases hf; exact g_rv X S hr hlk dX13_perform_203
        · replace hf := (if_pos c5).symm.trans hf
          refine g_aload_n X (or_rv _) dX13_perform_36 rfl (lv_at hl 0 rfl) ?_
          obtain ⟨h, hc, hf⟩ := ob_some hf
          refine g_cv S (runV (As := []) (rest := []) X S coX13_541 (by decide) (cX13_doOffset_m l hc) (tkX13_doOffset hc) rfl hl.1 (by decide) rfl ⟨Nat.zero_le _, Nat.zero_le _⟩ dX13_perform_37) (fun H locs S => ?_)
          refine lv_goto (tgt := 203) X.1 X.2.1 dX13_perform_40 (by decide) ?_
          cases hf; exact g_rv X S hr hlk dX13_perform_203
      · replace hf := (if_pos c4).symm.trans hf
        refine g_aload_n X (or_rv _) dX13_perform_24 rfl (lv_at hl 0 rfl) ?_
        obtain ⟨h, hc, hf⟩ := ob_some hf
        refine g_cv S (runV (As := []) (rest := []) X S coX13_538 (by decide) (cX13_doUnpack_m l hc) (tkX13_doUnpack hc) rfl hl.1 (by decide) rfl ⟨Nat.zero_le _, Nat.zero_le _⟩ dX13_perform_25) (fun H locs S => ?_)
        refine lv_goto (tgt := 203) X.1 X.2.1 dX13_perform_28 (by decide) ?_
        cases hf; exact g_rv X S hr hlk dX13_perform_203
    · replace hf := (if_pos c3).symm.trans hf
      refine g_aload_n X (or_rv _) dX13_perform_12 rfl (lv_at hl 0 rfl) ?_
      obtain ⟨h, hc, hf⟩ := ob_some hf
      refine g_cv S (runV (As := []) (rest := []) X S coX13_535 (by decide) (cX13_doPack_m l hc) (tkX13_doPack hc) rfl hl.1 (by decide) rfl ⟨Nat.zero_le _, Nat.zero_le _⟩ dX13_perform_13) (fun H locs S => ?_)
      refine lv_goto (tgt := 203) X.1 X.2.1 dX13_perform_16 (by decide) ?_
      cases hf; exact g_rv X S hr hlk dX13_perform_203
  · replace hf := (if_neg c2).symm.trans hf
    cases hf; exact g_rv X S hr hlk dX13_perform_7
def fX13_keepFault_165 (k108 : Nat → Int32 → Hp → Option (Hp)) (x0 : Nat) (x2 : Int32) (y0 : Int32) (y1 : Int32) (y2 : Nat) (h : Hp) : Option (Hp) := ob (qI y2 y1 y0 h) fun h => lt (x2 + 1) fun z1 => k108 x0 z1 h
theorem wfX13_keepFault_165 {k108 : Nat → Int32 → Hp → Option (Hp)} {h9 : Hp} (X : Cx p E A 8 R s m args c cX13_keepFault yX13_keepFault.cls 3) (hr : meth.sig.returnType = none) (hlk : meth.locks = false) (hnm : meth.name = yX13_keepFault.name) (hk108 : ∀ (x0 : Nat) (x2 : Int32) (h : Hp) (H : Heap) (locs : List Loc) (ls : Array Slot), lv_has ls 3 [(0, rv x0), (2, .int x2)] → St E A s h H locs → k108 x0 x2 h = some h9 → W p l e R s m args below meth c H locs 0 0 (MQ below (Qv E A h9) args s 0 0 A) (F0 m 108 ls [])) :
    ∀ (x0 : Nat) (x2 : Int32) (y0 : Int32) (y1 : Int32) (y2 : Nat) (h : Hp) (H : Heap) (locs : List Loc) (ls : Array Slot), lv_has ls 3 [(0, rv x0), (2, .int x2)] → St E A s h H locs → fX13_keepFault_165 k108 x0 x2 y0 y1 y2 h = some h9 → W p l e R s m args below meth c H locs 0 0 (MQ below (Qv E A h9) args s 0 0 A) (F0 m 165 ls [.int y0, .int y1, rv y2]) := by
  intro x0 x2 y0 y1 y2 h H locs ls hl S hf
  unfold fX13_keepFault_165 at hf
  refine g_qI X S dX13_keepFault_165 hf (fun h H locs hm hf S => ?_)
  obtain ⟨z1, ez1, hf⟩ := lt_some hf
  refine lv_iinc (v := z1) (lv' := [(2, .int z1), (0, rv x0)]) X.1 X.2.1 dX13_keepFault_166 hl (k := 1) rfl (by rw [← ez1]; rfl) (by decide) rfl (fun ls hl => ?_)
  refine lv_goto (tgt := 108) X.1 X.2.1 dX13_keepFault_169 (by decide) ?_
  exact hk108 _ _ _ _ _ _ (lv_sub hl [1, 0] rfl) S hf
def fX13_keepFault_108 (k108 : Nat → Int32 → Hp → Option (Hp)) (x0 : Nat) (x2 : Int32) (h : Hp) : Option (Hp) := if 3 ≤ x2 then some h else ob (gR 11 x0 3 h) fun v2 => ob (gI 11 x0 42 h) fun v3 => if v3 = (-1) then fX13_keepFault_165 k108 x0 x2 0 (286 + x2) v2 h else if x2 = 0 then ob (gI 11 x0 42 h) fun v9 => fX13_keepFault_165 k108 x0 x2 (v9 / 2) (286 + x2) v2 h else if x2 = 1 then ob (gI 11 x0 42 h) fun v8 => fX13_keepFault_165 k108 x0 x2 (irm v8 2) (286 + x2) v2 h else ob (gI 11 x0 43 h) fun v7 => fX13_keepFault_165 k108 x0 x2 v7 (286 + x2) v2 h
theorem wfX13_keepFault_108 {k108 : Nat → Int32 → Hp → Option (Hp)} {h9 : Hp} (X : Cx p E A 8 R s m args c cX13_keepFault yX13_keepFault.cls 3) (hr : meth.sig.returnType = none) (hlk : meth.locks = false) (hnm : meth.name = yX13_keepFault.name) (hk108 : ∀ (x0 : Nat) (x2 : Int32) (h : Hp) (H : Heap) (locs : List Loc) (ls : Array Slot), lv_has ls 3 [(0, rv x0), (2, .int x2)] → St E A s h H locs → k108 x0 x2 h = some h9 → W p l e R s m args below meth c H locs 0 0 (MQ below (Qv E A h9) args s 0 0 A) (F0 m 108 ls [])) :
    ∀ (x0 : Nat) (x2 : Int32) (h : Hp) (H : Heap) (locs : List Loc) (ls : Array Slot), lv_has ls 3 [(0, rv x0), (2, .int x2)] → St E A s h H locs → fX13_keepFault_108 k108 x0 x2 h = some h9 → W p l e R s m args below meth c H locs 0 0 (MQ below (Qv E A h9) args s 0 0 A) (F0 m 108 ls []) := by
  intro x0 x2 h H locs ls hl S hf
  unfold fX13_keepFault_108 at hf
  refine lv_iload_n X.1 X.2.1 dX13_keepFault_108 rfl (lv_at hl 1 rfl) ?_
  refine lv_iconst (v := 3) X.1 X.2.1 dX13_keepFault_109 (by decide) ?_
  refine lv_icmp_ge (tgt := 172) X.1 X.2.1 dX13_keepFault_110 (by decide) (fun c1 => ?_) (fun c1 => ?_)
  · replace hf := (if_pos c1).symm.trans hf
    cases hf; exact g_rv X S hr hlk dX13_keepFault_172
  · replace hf := (if_neg c1).symm.trans hf
    refine g_aload_n X (or_rv _) dX13_keepFault_113 rfl (lv_at hl 0 rfl) ?_
    refine g_gR X S foX13_76 dX13_keepFault_114 hf (fun v2 hf => ?_)
    refine lv_sipush (v := 286) X.1 X.2.1 dX13_keepFault_117 (by decide) ?_
    refine lv_iload_n X.1 X.2.1 dX13_keepFault_120 rfl (lv_at hl 1 rfl) ?_
    refine lv_iadd X.1 X.2.1 dX13_keepFault_121 ?_
    refine g_aload_n X (or_rv _) dX13_keepFault_122 rfl (lv_at hl 0 rfl) ?_
    refine g_gI X S foX13_412 rfl dX13_keepFault_123 hf (fun v3 hf => ?_)
    refine lv_iconst (v := (-1)) X.1 X.2.1 dX13_keepFault_126 (by decide) ?_
    refine lv_icmp_ne (tgt := 134) X.1 X.2.1 dX13_keepFault_127 (by decide) (fun c4 => ?_) (fun c4 => ?_)
    · replace hf := (if_neg c4).symm.trans hf
      refine lv_iload_n X.1 X.2.1 dX13_keepFault_134 rfl (lv_at hl 1 rfl) ?_
      refine lv_if_ne (tgt := 147) X.1 X.2.1 dX13_keepFault_135 (by decide) (fun c5 => ?_) (fun c5 => ?_)
      · replace hf := (if_neg c5).symm.trans hf
        refine lv_iload_n X.1 X.2.1 dX13_keepFault_147 rfl (lv_at hl 1 rfl) ?_
        refine lv_iconst (v := 1) X.1 X.2.1 dX13_keepFault_148 (by decide) ?_
        refine lv_icmp_ne (tgt := 161) X.1 X.2.1 dX13_keepFault_149 (by decide) (fun c6 => ?_) (fun c6 => ?_)
        · replace hf := (if_neg c6).symm.trans hf
          refine g_aload_n X (or_rv _) dX13_keepFault_161 rfl (lv_at hl 0 rfl) ?_
          refine g_gI X S foX13_418 rfl dX13_keepFault_162 hf (fun v7 hf => ?_)
          exact wfX13_keepFault_165 X hr hlk hnm hk108 _ _ _ _ _ _ _ _ _ hl S hf
        · replace hf := (if_pos c6).symm.trans hf
          refine g_aload_n X (or_rv _) dX13_keepFault_152 rfl (lv_at hl 0 rfl) ?_
          refine g_gI X S foX13_412 rfl dX13_keepFault_153 hf (fun v8 hf => ?_)
          refine lv_iconst (v := 2) X.1 X.2.1 dX13_keepFault_156 (by decide) ?_
          refine g_irem X (by decide) dX13_keepFault_157 ?_
          refine lv_goto (tgt := 165) X.1 X.2.1 dX13_keepFault_158 (by decide) ?_
          exact wfX13_keepFault_165 X hr hlk hnm hk108 _ _ _ _ _ _ _ _ _ hl S hf
      · replace hf := (if_pos c5).symm.trans hf
        refine g_aload_n X (or_rv _) dX13_keepFault_138 rfl (lv_at hl 0 rfl) ?_
        refine g_gI X S foX13_412 rfl dX13_keepFault_139 hf (fun v9 hf => ?_)
        refine lv_iconst (v := 2) X.1 X.2.1 dX13_keepFault_142 (by decide) ?_
        refine g_idiv X (by decide) dX13_keepFault_143 ?_
        refine lv_goto (tgt := 165) X.1 X.2.1 dX13_keepFault_144 (by decide) ?_
        exact wfX13_keepFault_165 X hr hlk hnm hk108 _ _ _ _ _ _ _ _ _ hl S hf
    · replace hf := (if_pos c4).symm.trans hf
      refine lv_iconst (v := 0) X.1 X.2.1 dX13_keepFault_130 (by decide) ?_
      refine lv_goto (tgt := 165) X.1 X.2.1 dX13_keepFault_131 (by decide) ?_
      exact wfX13_keepFault_165 X hr hlk hnm hk108 _ _ _ _ _ _ _ _ _ hl S hf
theorem wfX13_keepFault_108_l {h9 : Hp} (X : Cx p E A 8 R s m args c cX13_keepFault yX13_keepFault.cls 3) (hr : meth.sig.returnType = none) (hlk : meth.locks = false) (hnm : meth.name = yX13_keepFault.name) :
    ∀ (n : Nat) (x0 : Nat) (x2 : Int32) (h : Hp) (H : Heap) (locs : List Loc) (ls : Array Slot), lv_has ls 3 [(0, rv x0), (2, .int x2)] → St E A s h H locs → lp (fun _ _ _ => none) (fX13_keepFault_108) n x0 x2 h = some h9 → W p l e R s m args below meth c H locs 0 0 (MQ below (Qv E A h9) args s 0 0 A) (F0 m 108 ls []) := by
  intro n
  induction n with
  | zero =>
    intro x0 x2 h H locs ls hl S hf
    exact nomatch hf
  | succ n ih =>
    intro x0 x2 h H locs ls hl S hf
    exact wfX13_keepFault_108 X hr hlk hnm ih x0 x2 h H locs ls hl S hf
def fX13_keepFault_105 (x0 : Nat) (y0 : Int32) (y1 : Int32) (y2 : Nat) (h : Hp) : Option (Hp) := ob (qI y2 y1 y0 h) fun h => lp (fun _ _ _ => none) (fX13_keepFault_108) FU x0 0 h
theorem wfX13_keepFault_105 {h9 : Hp} (X : Cx p E A 8 R s m args c cX13_keepFault yX13_keepFault.cls 3) (hr : meth.sig.returnType = none) (hlk : meth.locks = false) (hnm : meth.name = yX13_keepFault.name) :
    ∀ (x0 : Nat) (y0 : Int32) (y1 : Int32) (y2 : Nat) (h : Hp) (H : Heap) (locs : List Loc) (ls : Array Slot), lv_has ls 3 [(0, rv x0)] → St E A s h H locs → fX13_keepFault_105 x0 y0 y1 y2 h = some h9 → W p l e R s m args below meth c H locs 0 0 (MQ below (Qv E A h9) args s 0 0 A) (F0 m 105 ls [.int y0, .int y1, rv y2]) := by
  intro x0 y0 y1 y2 h H locs ls hl S hf
  unfold fX13_keepFault_105 at hf
  refine g_qI X S dX13_keepFault_105 hf (fun h H locs hm hf S => ?_)
  refine lv_iconst (v := 0) X.1 X.2.1 dX13_keepFault_106 (by decide) ?_
  refine lv_istore_n (i := 2) (lv' := [(2, .int 0), (0, rv x0)]) X.1 X.2.1 dX13_keepFault_107 rfl hl (by decide) rfl (fun ls hl => ?_)
  exact wfX13_keepFault_108_l X hr hlk hnm FU _ _ _ _ _ _ (lv_sub hl [1, 0] rfl) S hf
def fX13_keepFault (a0 : Nat) (a1 : Int32) (h : Hp) : Option (Hp) := gd 11 a0 h (ob (gR 11 a0 3 h) fun v1 => ob (aI v1 278 h) fun v2 => ob (qI v1 278 (v2 + 1) h) fun h => ob (gR 11 a0 3 h) fun v3 => ob (gI 11 a0 38 h) fun v4 => ob (qI v3 280 v4 h) fun h => ob (gR 11 a0 3 h) fun v5 => ob (qI v5 281 a1 h) fun h => ob (gR 11 a0 3 h) fun v6 => ob (gR 11 a0 3 h) fun v7 => ob (aI v7 277 h) fun v8 => ob (qI v6 282 v8 h) fun h => ob (gR 11 a0 3 h) fun v9 => ob (gI 11 a0 39 h) fun v10 => ob (qI v9 283 v10 h) fun h => ob (gR 11 a0 3 h) fun v11 => ob (gI 11 a0 40 h) fun v12 => ob (qI v11 284 v12 h) fun h => ob (gR 11 a0 3 h) fun v13 => ob (gI 11 a0 41 h) fun v14 => ob (qI v13 285 v14 h) fun h => ob (gR 11 a0 3 h) fun v15 => ob (gI 11 a0 42 h) fun v16 => if v16 = (-1) then fX13_keepFault_105 a0 0 289 v15 h else fX13_keepFault_105 a0 1 289 v15 h)
theorem tkX13_keepFault {a0 : Nat} {a1 : Int32} {h : Hp} {r9 : Hp} (e : fX13_keepFault a0 a1 h = some r9) : hK h a0 = 11 := by
  unfold fX13_keepFault at e
  exact (gd_some e).1
theorem cX13_keepFault_m (l : Launch) {E : EE} {A : Nat → Prop} {a0 : Nat} {a1 : Int32} {h : Hp} {h9 : Hp} (hf : fX13_keepFault a0 a1 h = some h9) : Met l yX13_keepFault (wsM yX13_keepFault cX13_keepFault 3 none) (rmm 8 0 0) (PcE E A h [rv a0, .int a1]) (Qv E A h9) 0 0 A := by
  refine met_of (by decide +kernel) (by simp [lg_sl, cat_rv, cat_wv, cat_sv, cat_i, cat_l, cat_a]) (fun p e s m args below meth c ls X hr hlk hnm S hl => ?_)
  have hl : lv_has ls 3 [(0, rv a0), (1, .int a1)] := by simpa [lv_args, cat_rv, cat_wv, cat_sv, cat_i, cat_l, cat_a] using hl
  generalize hH : s.heap = H at S ⊢
  generalize hlo : ([] : List Loc) = locs at S ⊢
  clear hH hlo
  unfold fX13_keepFault at hf
  obtain ⟨hth, hf⟩ := gd_some hf
  refine g_aload_n X (or_rv _) dX13_keepFault_0 rfl (lv_at hl 0 rfl) ?_
  refine g_gR X S foX13_76 dX13_keepFault_1 hf (fun v1 hf => ?_)
  refine lv_sipush (v := 278) X.1 X.2.1 dX13_keepFault_4 (by decide) ?_
  refine lv_dup2_11 X.1 X.2.1 dX13_keepFault_7 rfl (cat_rv _) ?_
  refine g_aI X S dX13_keepFault_8 hf (fun v2 hf => ?_)
  refine lv_iconst (v := 1) X.1 X.2.1 dX13_keepFault_9 (by decide) ?_
  refine lv_iadd X.1 X.2.1 dX13_keepFault_10 ?_
  refine g_qI X S dX13_keepFault_11 hf (fun h H locs hm hf S => ?_)
  refine g_aload_n X (or_rv _) dX13_keepFault_12 rfl (lv_at hl 0 rfl) ?_
  refine g_gR X S foX13_76 dX13_keepFault_13 hf (fun v3 hf => ?_)
  refine lv_sipush (v := 280) X.1 X.2.1 dX13_keepFault_16 (by decide) ?_
  refine g_aload_n X (or_rv _) dX13_keepFault_19 rfl (lv_at hl 0 rfl) ?_
  refine g_gI X S foX13_388 rfl dX13_keepFault_20 hf (fun v4 hf => ?_)
  refine g_qI X S dX13_keepFault_23 hf (fun h H locs hm hf S => ?_)
  refine g_aload_n X (or_rv _) dX13_keepFault_24 rfl (lv_at hl 0 rfl) ?_
  refine g_gR X S foX13_76 dX13_keepFault_25 hf (fun v5 hf => ?_)
  refine lv_sipush (v := 281) X.1 X.2.1 dX13_keepFault_28 (by decide) ?_
  refine lv_iload_n X.1 X.2.1 dX13_keepFault_31 rfl (lv_at hl 1 rfl) ?_
  refine g_qI X S dX13_keepFault_32 hf (fun h H locs hm hf S => ?_)
  refine g_aload_n X (or_rv _) dX13_keepFault_33 rfl (lv_at hl 0 rfl) ?_
  refine g_gR X S foX13_76 dX13_keepFault_34 hf (fun v6 hf => ?_)
  refine lv_sipush (v := 282) X.1 X.2.1 dX13_keepFault_37 (by decide) ?_
  refine g_aload_n X (or_rv _) dX13_keepFault_40 rfl (lv_at hl 0 rfl) ?_
  refine g_gR X S foX13_76 dX13_keepFault_41 hf (fun v7 hf => ?_)
  refine lv_sipush (v := 277) X.1 X.2.1 dX13_keepFault_44 (by decide) ?_
  refine g_aI X S dX13_keepFault_47 hf (fun v8 hf => ?_)
  refine g_qI X S dX13_keepFault_48 hf (fun h H locs hm hf S => ?_)
  refine g_aload_n X (or_rv _) dX13_keepFault_49 rfl (lv_at hl 0 rfl) ?_
  refine g_gR X S foX13_76 dX13_keepFault_50 hf (fun v9 hf => ?_)
  refine lv_sipush (v := 283) X.1 X.2.1 dX13_keepFault_53 (by decide) ?_
  refine g_aload_n X (or_rv _) dX13_keepFault_56 rfl (lv_at hl 0 rfl) ?_
  refine g_gI X S foX13_391 rfl dX13_keepFault_57 hf (fun v10 hf => ?_)
  refine g_qI X S dX13_keepFault_60 hf (fun h H locs hm hf S => ?_)
  refine g_aload_n X (or_rv _) dX13_keepFault_61 rfl (lv_at hl 0 rfl) ?_
  refine g_gR X S foX13_76 dX13_keepFault_62 hf (fun v11 hf => ?_)
  refine lv_sipush (v := 284) X.1 X.2.1 dX13_keepFault_65 (by decide) ?_
  refine g_aload_n X (or_rv _) dX13_keepFault_68 rfl (lv_at hl 0 rfl) ?_
  refine g_gI X S foX13_400 rfl dX13_keepFault_69 hf (fun v12 hf => ?_)
  refine g_qI X S dX13_keepFault_72 hf (fun h H locs hm hf S => ?_)
  refine g_aload_n X (or_rv _) dX13_keepFault_73 rfl (lv_at hl 0 rfl) ?_
  refine g_gR X S foX13_76 dX13_keepFault_74 hf (fun v13 hf => ?_)
  refine lv_sipush (v := 285) X.1 X.2.1 dX13_keepFault_77 (by decide) ?_
  refine g_aload_n X (or_rv _) dX13_keepFault_80 rfl (lv_at hl 0 rfl) ?_
  refine g_gI X S foX13_409 rfl dX13_keepFault_81 hf (fun v14 hf => ?_)
  refine g_qI X S dX13_keepFault_84 hf (fun h H locs hm hf S => ?_)
  refine g_aload_n X (or_rv _) dX13_keepFault_85 rfl (lv_at hl 0 rfl) ?_
  refine g_gR X S foX13_76 dX13_keepFault_86 hf (fun v15 hf => ?_)
  refine lv_sipush (v := 289) X.1 X.2.1 dX13_keepFault_89 (by decide) ?_
  refine g_aload_n X (or_rv _) dX13_keepFault_92 rfl (lv_at hl 0 rfl) ?_
  refine g_gI X S foX13_412 rfl dX13_keepFault_93 hf (fun v16 hf => ?_)
  refine lv_iconst (v := (-1)) X.1 X.2.1 dX13_keepFault_96 (by decide) ?_
  refine lv_icmp_ne (tgt := 104) X.1 X.2.1 dX13_keepFault_97 (by decide) (fun c17 => ?_) (fun c17 => ?_)
  · replace hf := (if_neg c17).symm.trans hf
    refine lv_iconst (v := 1) X.1 X.2.1 dX13_keepFault_104 (by decide) ?_
    exact wfX13_keepFault_105 X hr hlk hnm _ _ _ _ _ _ _ _ (lv_sub hl [0] rfl) S hf
  · replace hf := (if_pos c17).symm.trans hf
    refine lv_iconst (v := 0) X.1 X.2.1 dX13_keepFault_100 (by decide) ?_
    refine lv_goto (tgt := 105) X.1 X.2.1 dX13_keepFault_101 (by decide) ?_
    exact wfX13_keepFault_105 X hr hlk hnm _ _ _ _ _ _ _ _ (lv_sub hl [0] rfl) S hf
def fX13_aStep_147 (k152 : Nat → Int32 → Int32 → Nat → Hp → Option (Hp)) (x0 : Nat) (y0 : Int32) (y1 : Nat) (h : Hp) : Option (Hp) := k152 x0 1 y0 y1 h
theorem wfX13_aStep_147 {k152 : Nat → Int32 → Int32 → Nat → Hp → Option (Hp)} {h9 : Hp} (X : Cx p E A 15 R s m args c cX13_aStep yX13_aStep.cls 3) (hr : meth.sig.returnType = none) (hlk : meth.locks = false) (hnm : meth.name = yX13_aStep.name) (hk152 : ∀ (x0 : Nat) (y0 : Int32) (y1 : Int32) (y2 : Nat) (h : Hp) (H : Heap) (locs : List Loc) (ls : Array Slot), lv_has ls 3 [(0, rv x0)] → St E A s h H locs → k152 x0 y0 y1 y2 h = some h9 → W p l e R s m args below meth c H locs 0 0 (MQ below (Qv E A h9) args s 0 0 A) (F0 m 152 ls [.int y0, .int y1, rv y2])) :
    ∀ (x0 : Nat) (y0 : Int32) (y1 : Nat) (h : Hp) (H : Heap) (locs : List Loc) (ls : Array Slot), lv_has ls 3 [(0, rv x0)] → St E A s h H locs → fX13_aStep_147 k152 x0 y0 y1 h = some h9 → W p l e R s m args below meth c H locs 0 0 (MQ below (Qv E A h9) args s 0 0 A) (F0 m 147 ls [.int y0, rv y1]) := by
  intro x0 y0 y1 h H locs ls hl S hf
  unfold fX13_aStep_147 at hf
  refine lv_iconst (v := 1) X.1 X.2.1 dX13_aStep_147 (by decide) ?_
  refine lv_goto (tgt := 152) X.1 X.2.1 dX13_aStep_148 (by decide) ?_
  exact hk152 _ _ _ _ _ _ _ _ hl S hf
def fX13_aStep_152 (k220 : Nat → Hp → Option (Hp)) (x0 : Nat) (y0 : Int32) (y1 : Int32) (y2 : Nat) (h : Hp) : Option (Hp) := ob (qI y2 y1 y0 h) fun h => k220 x0 h
theorem wfX13_aStep_152 {k220 : Nat → Hp → Option (Hp)} {h9 : Hp} (X : Cx p E A 15 R s m args c cX13_aStep yX13_aStep.cls 3) (hr : meth.sig.returnType = none) (hlk : meth.locks = false) (hnm : meth.name = yX13_aStep.name) (hk220 : ∀ (x0 : Nat) (h : Hp) (H : Heap) (locs : List Loc) (ls : Array Slot), lv_has ls 3 [(0, rv x0)] → St E A s h H locs → k220 x0 h = some h9 → W p l e R s m args below meth c H locs 0 0 (MQ below (Qv E A h9) args s 0 0 A) (F0 m 220 ls [])) :
    ∀ (x0 : Nat) (y0 : Int32) (y1 : Int32) (y2 : Nat) (h : Hp) (H : Heap) (locs : List Loc) (ls : Array Slot), lv_has ls 3 [(0, rv x0)] → St E A s h H locs → fX13_aStep_152 k220 x0 y0 y1 y2 h = some h9 → W p l e R s m args below meth c H locs 0 0 (MQ below (Qv E A h9) args s 0 0 A) (F0 m 152 ls [.int y0, .int y1, rv y2]) := by
  intro x0 y0 y1 y2 h H locs ls hl S hf
  unfold fX13_aStep_152 at hf
  refine g_qI X S dX13_aStep_152 hf (fun h H locs hm hf S => ?_)
  refine lv_goto (tgt := 220) X.1 X.2.1 dX13_aStep_153 (by decide) ?_
  exact hk220 _ _ _ _ _ hl S hf
def fX13_aStep_220 (x0 : Nat) (h : Hp) : Option (Hp) := ob (gR 11 x0 3 h) fun v1 => ob (aI v1 277 h) fun v2 => ob (qI v1 277 (v2 + 1) h) fun h => some h
theorem wfX13_aStep_220 {h9 : Hp} (X : Cx p E A 15 R s m args c cX13_aStep yX13_aStep.cls 3) (hr : meth.sig.returnType = none) (hlk : meth.locks = false) (hnm : meth.name = yX13_aStep.name) :
    ∀ (x0 : Nat) (h : Hp) (H : Heap) (locs : List Loc) (ls : Array Slot), lv_has ls 3 [(0, rv x0)] → St E A s h H locs → fX13_aStep_220 x0 h = some h9 → W p l e R s m args below meth c H locs 0 0 (MQ below (Qv E A h9) args s 0 0 A) (F0 m 220 ls []) := by
  intro x0 h H locs ls hl S hf
  unfold fX13_aStep_220 at hf
  refine g_aload_n X (or_rv _) dX13_aStep_220 rfl (lv_at hl 0 rfl) ?_
  refine g_gR X S foX13_76 dX13_aStep_221 hf (fun v1 hf => ?_)
  refine lv_sipush (v := 277) X.1 X.2.1 dX13_aStep_224 (by decide) ?_
  refine lv_dup2_11 X.1 X.2.1 dX13_aStep_227 rfl (cat_rv _) ?_
  refine g_aI X S dX13_aStep_228 hf (fun v2 hf => ?_)
  refine lv_iconst (v := 1) X.1 X.2.1 dX13_aStep_229 (by decide) ?_
  refine lv_iadd X.1 X.2.1 dX13_aStep_230 ?_
  refine g_qI X S dX13_aStep_231 hf (fun h H locs hm hf S => ?_)
  cases hf; exact g_rv X S hr hlk dX13_aStep_232
def fX13_aStep (a0 : Nat) (h : Hp) : Option (Hp) := gd 11 a0 h (ob (gR 11 a0 3 h) fun v1 => ob (aI v1 276 h) fun v2 => if v2 = 0 then ob (gR 11 a0 3 h) fun v4 => ob (aI v4 265 h) fun v5 => ob (gR 11 a0 5 h) fun v6 => ob (aI v6 v5 h) fun v7 => ob (pI 11 a0 38 0 h) fun h => ob (pI 11 a0 44 (v5 + 1) h) fun h => ob (fX13_findOperands a0 v5 v7 h) fun h => ob (fX13_check a0 v7 h) fun h => ob (fX13_perform a0 v5 v7 h) fun h => ob (gR 11 a0 3 h) fun v11 => ob (gR 11 a0 3 h) fun v12 => ob (aI v12 279 h) fun v13 => ob (qI v11 (290 + (irm v13 64)) v5 h) fun h => ob (gR 11 a0 3 h) fun v14 => ob (aI v14 279 h) fun v15 => ob (qI v14 279 (v15 + 1) h) fun h => ob (gR 11 a0 3 h) fun v16 => ob (aI v16 (354 + v5) h) fun v17 => ob (qI v16 (354 + v5) (v17 + 1) h) fun h => ob (gI 11 a0 38 h) fun v18 => if v18 = 0 then ob (gR 11 a0 3 h) fun v31 => ob (gI 11 a0 44 h) fun v32 => ob (qI v31 265 v32 h) fun h => ob (gR 11 a0 3 h) fun v33 => if v7 = 24 then fX13_aStep_147 (fX13_aStep_152 fX13_aStep_220) a0 276 v33 h else ob (gI 11 a0 44 h) fun v35 => ob (gI 11 a0 13 h) fun v36 => if v35 = v36 then fX13_aStep_147 (fX13_aStep_152 fX13_aStep_220) a0 276 v33 h else fX13_aStep_152 fX13_aStep_220 a0 0 276 v33 h else ob (fX13_keepFault a0 v5 h) fun h => ob (gR 11 a0 3 h) fun v21 => ob (gI 11 a0 38 h) fun v22 => ob (aI v21 (267 + v22) h) fun v23 => if v23 = (-1) then ob (gR 11 a0 3 h) fun v30 => ob (qI v30 276 2 h) fun h => fX13_aStep_220 a0 h else ob (gR 11 a0 3 h) fun v25 => ob (gR 11 a0 3 h) fun v26 => ob (gI 11 a0 38 h) fun v27 => ob (aI v26 (267 + v27) h) fun v28 => ob (qI v25 265 v28 h) fun h => ob (gR 11 a0 3 h) fun v29 => ob (qI v29 266 v5 h) fun h => fX13_aStep_220 a0 h else some h)
theorem tkX13_aStep {a0 : Nat} {h : Hp} {r9 : Hp} (e : fX13_aStep a0 h = some r9) : hK h a0 = 11 := by
  unfold fX13_aStep at e
  exact (gd_some e).1
theorem cX13_aStep_m (l : Launch) {E : EE} {A : Nat → Prop} {a0 : Nat} {h : Hp} {h9 : Hp} (hf : fX13_aStep a0 h = some h9) : Met l yX13_aStep (wsM yX13_aStep cX13_aStep 3 none) (rmm 15 0 0) (PcE E A h [rv a0]) (Qv E A h9) 0 0 A := by
  refine met_of (by decide +kernel) (by simp [lg_sl, cat_rv, cat_wv, cat_sv, cat_i, cat_l, cat_a]) (fun p e s m args below meth c ls X hr hlk hnm S hl => ?_)
  have hl : lv_has ls 3 [(0, rv a0)] := by simpa [lv_args, cat_rv, cat_wv, cat_sv, cat_i, cat_l, cat_a] using hl
  generalize hH : s.heap = H at S ⊢
  generalize hlo : ([] : List Loc) = locs at S ⊢
  clear hH hlo
  unfold fX13_aStep at hf
  obtain ⟨hth, hf⟩ := gd_some hf
  refine g_aload_n X (or_rv _) dX13_aStep_0 rfl (lv_at hl 0 rfl) ?_
  refine g_gR X S foX13_76 dX13_aStep_1 hf (fun v1 hf => ?_)
  refine lv_sipush (v := 276) X.1 X.2.1 dX13_aStep_4 (by decide) ?_
  refine g_aI X S dX13_aStep_7 hf (fun v2 hf => ?_)
  refine lv_if_eq (tgt := 12) X.1 X.2.1 dX13_aStep_8 (by decide) (fun c3 => ?_) (fun c3 => ?_)
  · replace hf := (if_pos c3).symm.trans hf
    refine g_aload_n X (or_rv _) dX13_aStep_12 rfl (lv_at hl 0 rfl) ?_
    refine g_gR X S foX13_76 dX13_aStep_13 hf (fun v4 hf => ?_)
    refine lv_sipush (v := 265) X.1 X.2.1 dX13_aStep_16 (by decide) ?_
    refine g_aI X S dX13_aStep_19 hf (fun v5 hf => ?_)
    refine lv_istore_n (i := 1) (lv' := [(1, .int v5), (0, rv a0)]) X.1 X.2.1 dX13_aStep_20 rfl hl (by decide) (by simp [List.filter, cat_rv, cat_wv, cat_sv]) (fun ls hl => ?_)
    refine g_aload_n X (or_rv _) dX13_aStep_21 rfl (lv_at hl 1 rfl) ?_
    refine g_gR X S foX13_83 dX13_aStep_22 hf (fun v6 hf => ?_)
    refine lv_iload_n X.1 X.2.1 dX13_aStep_25 rfl (lv_at hl 0 rfl) ?_
    refine g_aI X S dX13_aStep_26 hf (fun v7 hf => ?_)
    refine lv_istore_n (i := 2) (lv' := [(2, .int v7), (1, .int v5), (0, rv a0)]) X.1 X.2.1 dX13_aStep_27 rfl hl (by decide) rfl (fun ls hl => ?_)
    refine g_aload_n X (or_rv _) dX13_aStep_28 rfl (lv_at hl 2 rfl) ?_
    refine lv_iconst (v := 0) X.1 X.2.1 dX13_aStep_29 (by decide) ?_
    refine g_pI X S fpX13_388 (Or.inl rfl) dX13_aStep_30 hf (fun h H locs hm hf S => ?_)
    refine g_aload_n X (or_rv _) dX13_aStep_33 rfl (lv_at hl 2 rfl) ?_
    refine lv_iload_n X.1 X.2.1 dX13_aStep_34 rfl (lv_at hl 1 rfl) ?_
    refine lv_iconst (v := 1) X.1 X.2.1 dX13_aStep_35 (by decide) ?_
    refine lv_iadd X.1 X.2.1 dX13_aStep_36 ?_
    refine g_pI X S fpX13_532 (Or.inl rfl) dX13_aStep_37 hf (fun h H locs hm hf S => ?_)
    refine g_aload_n X (or_rv _) dX13_aStep_40 rfl (lv_at hl 2 rfl) ?_
    refine lv_iload_n X.1 X.2.1 dX13_aStep_41 rfl (lv_at hl 1 rfl) ?_
    refine lv_iload_n X.1 X.2.1 dX13_aStep_42 rfl (lv_at hl 0 rfl) ?_
    obtain ⟨h, hc, hf⟩ := ob_some hf
    refine g_cv S (runV (As := [.int v5, .int v7]) (rest := []) X S coX13_575 (by decide) (cX13_findOperands_m l hc) (tkX13_findOperands hc) rfl hl.1 (by decide) rfl ⟨Nat.zero_le _, Nat.zero_le _⟩ dX13_aStep_43) (fun H locs S => ?_)
    refine g_aload_n X (or_rv _) dX13_aStep_46 rfl (lv_at hl 2 rfl) ?_
    refine lv_iload_n X.1 X.2.1 dX13_aStep_47 rfl (lv_at hl 0 rfl) ?_
    obtain ⟨h, hc, hf⟩ := ob_some hf
    refine g_cv S (runV (As := [.int v7]) (rest := []) X S coX13_578 (by decide) (cX13_check_m l hc) (tkX13_check hc) rfl hl.1 (by decide) rfl ⟨Nat.zero_le _, Nat.zero_le _⟩ dX13_aStep_48) (fun H locs S => ?_)
    refine g_aload_n X (or_rv _) dX13_aStep_51 rfl (lv_at hl 2 rfl) ?_
    refine lv_iload_n X.1 X.2.1 dX13_aStep_52 rfl (lv_at hl 1 rfl) ?_
    refine lv_iload_n X.1 X.2.1 dX13_aStep_53 rfl (lv_at hl 0 rfl) ?_
    obtain ⟨h, hc, hf⟩ := ob_some hf
    refine g_cv S (runV (As := [.int v5, .int v7]) (rest := []) X S coX13_581 (by decide) (cX13_perform_m l hc) (tkX13_perform hc) rfl hl.1 (by decide) rfl ⟨Nat.zero_le _, Nat.zero_le _⟩ dX13_aStep_54) (fun H locs S => ?_)
    refine g_aload_n X (or_rv _) dX13_aStep_57 rfl (lv_at hl 2 rfl) ?_
    refine g_gR X S foX13_76 dX13_aStep_58 hf (fun v11 hf => ?_)
    refine lv_sipush (v := 290) X.1 X.2.1 dX13_aStep_61 (by decide) ?_
    refine g_aload_n X (or_rv _) dX13_aStep_64 rfl (lv_at hl 2 rfl) ?_
    refine g_gR X S foX13_76 dX13_aStep_65 hf (fun v12 hf => ?_)
    refine lv_sipush (v := 279) X.1 X.2.1 dX13_aStep_68 (by decide) ?_
    refine g_aI X S dX13_aStep_71 hf (fun v13 hf => ?_)
    refine lv_bipush (v := 64) X.1 X.2.1 dX13_aStep_72 (by decide) ?_
    refine g_irem X (by decide) dX13_aStep_74 ?_
    refine lv_iadd X.1 X.2.1 dX13_aStep_75 ?_
    refine lv_iload_n X.1 X.2.1 dX13_aStep_76 rfl (lv_at hl 1 rfl) ?_
    refine g_qI X S dX13_aStep_77 hf (fun h H locs hm hf S => ?_)
    refine g_aload_n X (or_rv _) dX13_aStep_78 rfl (lv_at hl 2 rfl) ?_
    refine g_gR X S foX13_76 dX13_aStep_79 hf (fun v14 hf => ?_)
    refine lv_sipush (v := 279) X.1 X.2.1 dX13_aStep_82 (by decide) ?_
    refine lv_dup2_11 X.1 X.2.1 dX13_aStep_85 rfl (cat_rv _) ?_
    refine g_aI X S dX13_aStep_86 hf (fun v15 hf => ?_)
    refine lv_iconst (v := 1) X.1 X.2.1 dX13_aStep_87 (by decide) ?_
    refine lv_iadd X.1 X.2.1 dX13_aStep_88 ?_
    refine g_qI X S dX13_aStep_89 hf (fun h H locs hm hf S => ?_)
    refine g_aload_n X (or_rv _) dX13_aStep_90 rfl (lv_at hl 2 rfl) ?_
    refine g_gR X S foX13_76 dX13_aStep_91 hf (fun v16 hf => ?_)
    refine lv_sipush (v := 354) X.1 X.2.1 dX13_aStep_94 (by decide) ?_
    refine lv_iload_n X.1 X.2.1 dX13_aStep_97 rfl (lv_at hl 1 rfl) ?_
    refine lv_iadd X.1 X.2.1 dX13_aStep_98 ?_
    refine lv_dup2_11 X.1 X.2.1 dX13_aStep_99 rfl (cat_rv _) ?_
    refine g_aI X S dX13_aStep_100 hf (fun v17 hf => ?_)
    refine lv_iconst (v := 1) X.1 X.2.1 dX13_aStep_101 (by decide) ?_
    refine lv_iadd X.1 X.2.1 dX13_aStep_102 ?_
    refine g_qI X S dX13_aStep_103 hf (fun h H locs hm hf S => ?_)
    refine g_aload_n X (or_rv _) dX13_aStep_104 rfl (lv_at hl 2 rfl) ?_
    refine g_gI X S foX13_388 rfl dX13_aStep_105 hf (fun v18 hf => ?_)
    refine lv_if_ne (tgt := 156) X.1 X.2.1 dX13_aStep_108 (by decide) (fun c19 => ?_) (fun c19 => ?_)
    · replace hf := (if_neg c19).symm.trans hf
      refine g_aload_n X (or_rv _) dX13_aStep_156 rfl (lv_at hl 2 rfl) ?_
      refine lv_iload_n X.1 X.2.1 dX13_aStep_157 rfl (lv_at hl 1 rfl) ?_
      obtain ⟨h, hc, hf⟩ := ob_some hf
      refine g_cv S (runV (As := [.int v5]) (rest := []) X S coX13_584 (by decide) (cX13_keepFault_m l hc) (tkX13_keepFault hc) rfl hl.1 (by decide) rfl ⟨Nat.zero_le _, Nat.zero_le _⟩ dX13_aStep_158) (fun H locs S => ?_)
      refine g_aload_n X (or_rv _) dX13_aStep_161 rfl (lv_at hl 2 rfl) ?_
      refine g_gR X S foX13_76 dX13_aStep_162 hf (fun v21 hf => ?_)
      refine lv_sipush (v := 267) X.1 X.2.1 dX13_aStep_165 (by decide) ?_
      refine g_aload_n X (or_rv _) dX13_aStep_168 rfl (lv_at hl 2 rfl) ?_
      refine g_gI X S foX13_388 rfl dX13_aStep_169 hf (fun v22 hf => ?_)
      refine lv_iadd X.1 X.2.1 dX13_aStep_172 ?_
      refine g_aI X S dX13_aStep_173 hf (fun v23 hf => ?_)
      refine lv_iconst (v := (-1)) X.1 X.2.1 dX13_aStep_174 (by decide) ?_
      refine lv_icmp_ne (tgt := 190) X.1 X.2.1 dX13_aStep_175 (by decide) (fun c24 => ?_) (fun c24 => ?_)
      · replace hf := (if_neg c24).symm.trans hf
        refine g_aload_n X (or_rv _) dX13_aStep_190 rfl (lv_at hl 2 rfl) ?_
        refine g_gR X S foX13_76 dX13_aStep_191 hf (fun v25 hf => ?_)
        refine lv_sipush (v := 265) X.1 X.2.1 dX13_aStep_194 (by decide) ?_
        refine g_aload_n X (or_rv _) dX13_aStep_197 rfl (lv_at hl 2 rfl) ?_
        refine g_gR X S foX13_76 dX13_aStep_198 hf (fun v26 hf => ?_)
        refine lv_sipush (v := 267) X.1 X.2.1 dX13_aStep_201 (by decide) ?_
        refine g_aload_n X (or_rv _) dX13_aStep_204 rfl (lv_at hl 2 rfl) ?_
        refine g_gI X S foX13_388 rfl dX13_aStep_205 hf (fun v27 hf => ?_)
        refine lv_iadd X.1 X.2.1 dX13_aStep_208 ?_
        refine g_aI X S dX13_aStep_209 hf (fun v28 hf => ?_)
        refine g_qI X S dX13_aStep_210 hf (fun h H locs hm hf S => ?_)
        refine g_aload_n X (or_rv _) dX13_aStep_211 rfl (lv_at hl 2 rfl) ?_
        refine g_gR X S foX13_76 dX13_aStep_212 hf (fun v29 hf => ?_)
        refine lv_sipush (v := 266) X.1 X.2.1 dX13_aStep_215 (by decide) ?_
        refine lv_iload_n X.1 X.2.1 dX13_aStep_218 rfl (lv_at hl 1 rfl) ?_
        refine g_qI X S dX13_aStep_219 hf (fun h H locs hm hf S => ?_)
        exact wfX13_aStep_220 X hr hlk hnm _ _ _ _ _ (lv_sub hl [2] rfl) S hf
      · replace hf := (if_pos c24).symm.trans hf
        refine g_aload_n X (or_rv _) dX13_aStep_178 rfl (lv_at hl 2 rfl) ?_
        refine g_gR X S foX13_76 dX13_aStep_179 hf (fun v30 hf => ?_)
        refine lv_sipush (v := 276) X.1 X.2.1 dX13_aStep_182 (by decide) ?_
        refine lv_iconst (v := 2) X.1 X.2.1 dX13_aStep_185 (by decide) ?_
        refine g_qI X S dX13_aStep_186 hf (fun h H locs hm hf S => ?_)
        refine lv_goto (tgt := 220) X.1 X.2.1 dX13_aStep_187 (by decide) ?_
        exact wfX13_aStep_220 X hr hlk hnm _ _ _ _ _ (lv_sub hl [2] rfl) S hf
    · replace hf := (if_pos c19).symm.trans hf
      refine g_aload_n X (or_rv _) dX13_aStep_111 rfl (lv_at hl 2 rfl) ?_
      refine g_gR X S foX13_76 dX13_aStep_112 hf (fun v31 hf => ?_)
      refine lv_sipush (v := 265) X.1 X.2.1 dX13_aStep_115 (by decide) ?_
      refine g_aload_n X (or_rv _) dX13_aStep_118 rfl (lv_at hl 2 rfl) ?_
      refine g_gI X S foX13_532 rfl dX13_aStep_119 hf (fun v32 hf => ?_)
      refine g_qI X S dX13_aStep_122 hf (fun h H locs hm hf S => ?_)
      refine g_aload_n X (or_rv _) dX13_aStep_123 rfl (lv_at hl 2 rfl) ?_
      refine g_gR X S foX13_76 dX13_aStep_124 hf (fun v33 hf => ?_)
      refine lv_sipush (v := 276) X.1 X.2.1 dX13_aStep_127 (by decide) ?_
      refine lv_iload_n X.1 X.2.1 dX13_aStep_130 rfl (lv_at hl 0 rfl) ?_
      refine lv_bipush (v := 24) X.1 X.2.1 dX13_aStep_131 (by decide) ?_
      refine lv_icmp_eq (tgt := 147) X.1 X.2.1 dX13_aStep_133 (by decide) (fun c34 => ?_) (fun c34 => ?_)
      · replace hf := (if_pos c34).symm.trans hf
        exact wfX13_aStep_147 X hr hlk hnm (wfX13_aStep_152 X hr hlk hnm (wfX13_aStep_220 X hr hlk hnm)) _ _ _ _ _ _ _ (lv_sub hl [2] rfl) S hf
      · replace hf := (if_neg c34).symm.trans hf
        refine g_aload_n X (or_rv _) dX13_aStep_136 rfl (lv_at hl 2 rfl) ?_
        refine g_gI X S foX13_532 rfl dX13_aStep_137 hf (fun v35 hf => ?_)
        refine g_aload_n X (or_rv _) dX13_aStep_140 rfl (lv_at hl 2 rfl) ?_
        refine g_gI X S foX13_345 rfl dX13_aStep_141 hf (fun v36 hf => ?_)
        refine lv_icmp_ne (tgt := 151) X.1 X.2.1 dX13_aStep_144 (by decide) (fun c37 => ?_) (fun c37 => ?_)
        · replace hf := (if_neg c37).symm.trans hf
          refine lv_iconst (v := 0) X.1 X.2.1 dX13_aStep_151 (by decide) ?_
          exact wfX13_aStep_152 X hr hlk hnm (wfX13_aStep_220 X hr hlk hnm) _ _ _ _ _ _ _ _ (lv_sub hl [2] rfl) S hf
        · replace hf := (if_pos c37).symm.trans hf
          exact wfX13_aStep_147 X hr hlk hnm (wfX13_aStep_152 X hr hlk hnm (wfX13_aStep_220 X hr hlk hnm)) _ _ _ _ _ _ _ (lv_sub hl [2] rfl) S hf
  · replace hf := (if_neg c3).symm.trans hf
    cases hf; exact g_rv X S hr hlk dX13_aStep_11
def fX13_goOn_2 (k2 : Nat → Int32 → Int32 → Hp → Option (Hp)) (x0 : Nat) (x1 : Int32) (x2 : Int32) (h : Hp) : Option (Hp) := if x1 ≤ x2 then some h else ob (fX13_aStep x0 h) fun h => lt (x2 + 1) fun z3 => k2 x0 x1 z3 h
theorem wfX13_goOn_2 {k2 : Nat → Int32 → Int32 → Hp → Option (Hp)} {h9 : Hp} (X : Cx p E A 16 R s m args c cX13_goOn yX13_goOn.cls 3) (hr : meth.sig.returnType = none) (hlk : meth.locks = false) (hnm : meth.name = yX13_goOn.name) (hk2 : ∀ (x0 : Nat) (x1 : Int32) (x2 : Int32) (h : Hp) (H : Heap) (locs : List Loc) (ls : Array Slot), lv_has ls 3 [(0, rv x0), (1, .int x1), (2, .int x2)] → St E A s h H locs → k2 x0 x1 x2 h = some h9 → W p l e R s m args below meth c H locs 0 0 (MQ below (Qv E A h9) args s 0 0 A) (F0 m 2 ls [])) :
    ∀ (x0 : Nat) (x1 : Int32) (x2 : Int32) (h : Hp) (H : Heap) (locs : List Loc) (ls : Array Slot), lv_has ls 3 [(0, rv x0), (1, .int x1), (2, .int x2)] → St E A s h H locs → fX13_goOn_2 k2 x0 x1 x2 h = some h9 → W p l e R s m args below meth c H locs 0 0 (MQ below (Qv E A h9) args s 0 0 A) (F0 m 2 ls []) := by
  intro x0 x1 x2 h H locs ls hl S hf
  unfold fX13_goOn_2 at hf
  refine lv_iload_n X.1 X.2.1 dX13_goOn_2 rfl (lv_at hl 2 rfl) ?_
  refine lv_iload_n X.1 X.2.1 dX13_goOn_3 rfl (lv_at hl 1 rfl) ?_
  refine lv_icmp_ge (tgt := 17) X.1 X.2.1 dX13_goOn_4 (by decide) (fun c1 => ?_) (fun c1 => ?_)
  · replace hf := (if_pos c1).symm.trans hf
    cases hf; exact g_rv X S hr hlk dX13_goOn_17
  · replace hf := (if_neg c1).symm.trans hf
    refine g_aload_n X (or_rv _) dX13_goOn_7 rfl (lv_at hl 0 rfl) ?_
    obtain ⟨h, hc, hf⟩ := ob_some hf
    refine g_cv S (runV (As := []) (rest := []) X S coX13_587 (by decide) (cX13_aStep_m l hc) (tkX13_aStep hc) rfl hl.1 (by decide) rfl ⟨Nat.zero_le _, Nat.zero_le _⟩ dX13_goOn_8) (fun H locs S => ?_)
    obtain ⟨z3, ez3, hf⟩ := lt_some hf
    refine lv_iinc (v := z3) (lv' := [(2, .int z3), (0, rv x0), (1, .int x1)]) X.1 X.2.1 dX13_goOn_11 hl (k := 2) rfl (by rw [← ez3]; rfl) (by decide) rfl (fun ls hl => ?_)
    refine lv_goto (tgt := 2) X.1 X.2.1 dX13_goOn_14 (by decide) ?_
    exact hk2 _ _ _ _ _ _ _ (lv_sub hl [1, 2, 0] rfl) S hf
theorem wfX13_goOn_2_l {h9 : Hp} (X : Cx p E A 16 R s m args c cX13_goOn yX13_goOn.cls 3) (hr : meth.sig.returnType = none) (hlk : meth.locks = false) (hnm : meth.name = yX13_goOn.name) :
    ∀ (n : Nat) (x0 : Nat) (x1 : Int32) (x2 : Int32) (h : Hp) (H : Heap) (locs : List Loc) (ls : Array Slot), lv_has ls 3 [(0, rv x0), (1, .int x1), (2, .int x2)] → St E A s h H locs → lp (fun _ _ _ _ => none) (fX13_goOn_2) n x0 x1 x2 h = some h9 → W p l e R s m args below meth c H locs 0 0 (MQ below (Qv E A h9) args s 0 0 A) (F0 m 2 ls []) := by
  intro n
  induction n with
  | zero =>
    intro x0 x1 x2 h H locs ls hl S hf
    exact nomatch hf
  | succ n ih =>
    intro x0 x1 x2 h H locs ls hl S hf
    exact wfX13_goOn_2 X hr hlk hnm ih x0 x1 x2 h H locs ls hl S hf
def fX13_goOn (a0 : Nat) (a1 : Int32) (h : Hp) : Option (Hp) := gd 11 a0 h (lp (fun _ _ _ _ => none) (fX13_goOn_2) FU a0 a1 0 h)
theorem tkX13_goOn {a0 : Nat} {a1 : Int32} {h : Hp} {r9 : Hp} (e : fX13_goOn a0 a1 h = some r9) : hK h a0 = 11 := by
  unfold fX13_goOn at e
  exact (gd_some e).1
theorem cX13_goOn_m (l : Launch) {E : EE} {A : Nat → Prop} {a0 : Nat} {a1 : Int32} {h : Hp} {h9 : Hp} (hf : fX13_goOn a0 a1 h = some h9) : Met l yX13_goOn (wsM yX13_goOn cX13_goOn 3 none) (rmm 16 0 0) (PcE E A h [rv a0, .int a1]) (Qv E A h9) 0 0 A := by
  refine met_of (by decide +kernel) (by simp [lg_sl, cat_rv, cat_wv, cat_sv, cat_i, cat_l, cat_a]) (fun p e s m args below meth c ls X hr hlk hnm S hl => ?_)
  have hl : lv_has ls 3 [(0, rv a0), (1, .int a1)] := by simpa [lv_args, cat_rv, cat_wv, cat_sv, cat_i, cat_l, cat_a] using hl
  generalize hH : s.heap = H at S ⊢
  generalize hlo : ([] : List Loc) = locs at S ⊢
  clear hH hlo
  unfold fX13_goOn at hf
  obtain ⟨hth, hf⟩ := gd_some hf
  refine lv_iconst (v := 0) X.1 X.2.1 dX13_goOn_0 (by decide) ?_
  refine lv_istore_n (i := 2) (lv' := [(2, .int 0), (0, rv a0), (1, .int a1)]) X.1 X.2.1 dX13_goOn_1 rfl hl (by decide) rfl (fun ls hl => ?_)
  exact wfX13_goOn_2_l X hr hlk hnm FU _ _ _ _ _ _ _ (lv_sub hl [1, 2, 0] rfl) S hf
def fX13_undone_4 (h : Hp) (k4 : Nat → Int32 → Int32 → Option (Int32)) (x0 : Nat) (x1 : Int32) (x2 : Int32) : Option (Int32) := ob (gI 11 x0 13 h) fun v1 => if v1 ≤ x2 then some x1 else ob (gR 11 x0 3 h) fun v3 => ob (aI v3 (354 + x2) h) fun v4 => if v4 = 0 then lt (x1 + 1) fun z8 => lt (x2 + 1) fun z9 => k4 x0 z8 z9 else lt (x1 + 0) fun z6 => lt (x2 + 1) fun z7 => k4 x0 z6 z7
theorem wfX13_undone_4 {h : Hp} {k4 : Nat → Int32 → Int32 → Option (Int32)} {r9 : Int32} (X : Cx p E A 8 R s m args c cX13_undone yX13_undone.cls 3) (hr : meth.sig.returnType = (some .int)) (hlk : meth.locks = false) (hnm : meth.name = yX13_undone.name) (hk4 : ∀ (x0 : Nat) (x1 : Int32) (x2 : Int32) (H : Heap) (locs : List Loc) (ls : Array Slot), lv_has ls 3 [(0, rv x0), (1, .int x1), (2, .int x2)] → St E A s h H locs → k4 x0 x1 x2 = some r9 → W p l e R s m args below meth c H locs 0 0 (MQ below (Qi E A h r9) args s 0 0 A) (F0 m 4 ls [])) :
    ∀ (x0 : Nat) (x1 : Int32) (x2 : Int32) (H : Heap) (locs : List Loc) (ls : Array Slot), lv_has ls 3 [(0, rv x0), (1, .int x1), (2, .int x2)] → St E A s h H locs → fX13_undone_4 h k4 x0 x1 x2 = some r9 → W p l e R s m args below meth c H locs 0 0 (MQ below (Qi E A h r9) args s 0 0 A) (F0 m 4 ls []) := by
  intro x0 x1 x2 H locs ls hl S hf
  unfold fX13_undone_4 at hf
  refine lv_iload_n X.1 X.2.1 dX13_undone_4 rfl (lv_at hl 2 rfl) ?_
  refine g_aload_n X (or_rv _) dX13_undone_5 rfl (lv_at hl 0 rfl) ?_
  refine g_gI X S foX13_345 rfl dX13_undone_6 hf (fun v1 hf => ?_)
  refine lv_icmp_ge (tgt := 39) X.1 X.2.1 dX13_undone_9 (by decide) (fun c2 => ?_) (fun c2 => ?_)
  · replace hf := (if_pos c2).symm.trans hf
    refine lv_iload_n X.1 X.2.1 dX13_undone_39 rfl (lv_at hl 1 rfl) ?_
    cases hf; exact g_ri X S hr hlk dX13_undone_40
  · replace hf := (if_neg c2).symm.trans hf
    refine lv_iload_n X.1 X.2.1 dX13_undone_12 rfl (lv_at hl 1 rfl) ?_
    refine g_aload_n X (or_rv _) dX13_undone_13 rfl (lv_at hl 0 rfl) ?_
    refine g_gR X S foX13_76 dX13_undone_14 hf (fun v3 hf => ?_)
    refine lv_sipush (v := 354) X.1 X.2.1 dX13_undone_17 (by decide) ?_
    refine lv_iload_n X.1 X.2.1 dX13_undone_20 rfl (lv_at hl 2 rfl) ?_
    refine lv_iadd X.1 X.2.1 dX13_undone_21 ?_
    refine g_aI X S dX13_undone_22 hf (fun v4 hf => ?_)
    refine lv_if_ne (tgt := 30) X.1 X.2.1 dX13_undone_23 (by decide) (fun c5 => ?_) (fun c5 => ?_)
    · replace hf := (if_neg c5).symm.trans hf
      refine lv_iconst (v := 0) X.1 X.2.1 dX13_undone_30 (by decide) ?_
      refine lv_iadd X.1 X.2.1 dX13_undone_31 ?_
      refine g_lti hf (fun z6 hf => ?_)
      refine lv_istore_n (i := 1) (lv' := [(1, .int z6), (0, rv x0), (2, .int x2)]) X.1 X.2.1 dX13_undone_32 rfl hl (by decide) (by simp [List.filter, cat_rv, cat_wv, cat_sv]) (fun ls hl => ?_)
      obtain ⟨z7, ez7, hf⟩ := lt_some hf
      refine lv_iinc (v := z7) (lv' := [(2, .int z7), (1, .int z6), (0, rv x0)]) X.1 X.2.1 dX13_undone_33 hl (k := 2) rfl (by rw [← ez7]; rfl) (by decide) rfl (fun ls hl => ?_)
      refine lv_goto (tgt := 4) X.1 X.2.1 dX13_undone_36 (by decide) ?_
      exact hk4 _ _ _ _ _ _ (lv_sub hl [2, 1, 0] rfl) S hf
    · replace hf := (if_pos c5).symm.trans hf
      refine lv_iconst (v := 1) X.1 X.2.1 dX13_undone_26 (by decide) ?_
      refine lv_goto (tgt := 31) X.1 X.2.1 dX13_undone_27 (by decide) ?_
      refine lv_iadd X.1 X.2.1 dX13_undone_31 ?_
      refine g_lti hf (fun z8 hf => ?_)
      refine lv_istore_n (i := 1) (lv' := [(1, .int z8), (0, rv x0), (2, .int x2)]) X.1 X.2.1 dX13_undone_32 rfl hl (by decide) (by simp [List.filter, cat_rv, cat_wv, cat_sv]) (fun ls hl => ?_)
      obtain ⟨z9, ez9, hf⟩ := lt_some hf
      refine lv_iinc (v := z9) (lv' := [(2, .int z9), (1, .int z8), (0, rv x0)]) X.1 X.2.1 dX13_undone_33 hl (k := 2) rfl (by rw [← ez9]; rfl) (by decide) rfl (fun ls hl => ?_)
      refine lv_goto (tgt := 4) X.1 X.2.1 dX13_undone_36 (by decide) ?_
      exact hk4 _ _ _ _ _ _ (lv_sub hl [2, 1, 0] rfl) S hf
theorem wfX13_undone_4_l {h : Hp} {r9 : Int32} (X : Cx p E A 8 R s m args c cX13_undone yX13_undone.cls 3) (hr : meth.sig.returnType = (some .int)) (hlk : meth.locks = false) (hnm : meth.name = yX13_undone.name) :
    ∀ (n : Nat) (x0 : Nat) (x1 : Int32) (x2 : Int32) (H : Heap) (locs : List Loc) (ls : Array Slot), lv_has ls 3 [(0, rv x0), (1, .int x1), (2, .int x2)] → St E A s h H locs → lp (fun _ _ _ => none) (fX13_undone_4 h) n x0 x1 x2 = some r9 → W p l e R s m args below meth c H locs 0 0 (MQ below (Qi E A h r9) args s 0 0 A) (F0 m 4 ls []) := by
  intro n
  induction n with
  | zero =>
    intro x0 x1 x2 H locs ls hl S hf
    exact nomatch hf
  | succ n ih =>
    intro x0 x1 x2 H locs ls hl S hf
    exact wfX13_undone_4 X hr hlk hnm ih x0 x1 x2 H locs ls hl S hf
def fX13_undone (a0 : Nat) (h : Hp) : Option (Int32) := gd 11 a0 h (lp (fun _ _ _ => none) (fX13_undone_4 h) FU a0 0 0)
theorem tkX13_undone {a0 : Nat} {h : Hp} {r9 : Int32} (e : fX13_undone a0 h = some r9) : hK h a0 = 11 := by
  unfold fX13_undone at e
  exact (gd_some e).1
theorem cX13_undone_m (l : Launch) {E : EE} {A : Nat → Prop} {a0 : Nat} {h : Hp} {r9 : Int32} (hf : fX13_undone a0 h = some r9) : Met l yX13_undone (wsM yX13_undone cX13_undone 3 (some .int)) (rmm 8 0 0) (PcE E A h [rv a0]) (Qi E A h r9) 0 0 A := by
  refine met_of (by decide +kernel) (by simp [lg_sl, cat_rv, cat_wv, cat_sv, cat_i, cat_l, cat_a]) (fun p e s m args below meth c ls X hr hlk hnm S hl => ?_)
  have hl : lv_has ls 3 [(0, rv a0)] := by simpa [lv_args, cat_rv, cat_wv, cat_sv, cat_i, cat_l, cat_a] using hl
  generalize hH : s.heap = H at S ⊢
  generalize hlo : ([] : List Loc) = locs at S ⊢
  clear hH hlo
  unfold fX13_undone at hf
  obtain ⟨hth, hf⟩ := gd_some hf
  refine lv_iconst (v := 0) X.1 X.2.1 dX13_undone_0 (by decide) ?_
  refine lv_istore_n (i := 1) (lv' := [(1, .int 0), (0, rv a0)]) X.1 X.2.1 dX13_undone_1 rfl hl (by decide) (by simp [List.filter, cat_rv, cat_wv, cat_sv]) (fun ls hl => ?_)
  refine lv_iconst (v := 0) X.1 X.2.1 dX13_undone_2 (by decide) ?_
  refine lv_istore_n (i := 2) (lv' := [(2, .int 0), (1, .int 0), (0, rv a0)]) X.1 X.2.1 dX13_undone_3 rfl hl (by decide) rfl (fun ls hl => ?_)
  exact wfX13_undone_4_l X hr hlk hnm FU _ _ _ _ _ _ (lv_sub hl [2, 1, 0] rfl) S hf
end GM
