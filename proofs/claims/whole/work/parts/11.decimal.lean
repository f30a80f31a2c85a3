section GM
variable {p : Program} {l : Launch} {e : Env} {R : Room} {s : State} {m : MethodId} {args : Array Value} {below : List Frame} {meth : Method} {c : Code} {E : EE} {A : Nat → Prop}
def fX1_init (a0 : Nat) (h : Hp) : Option (Hp) := gd 1 a0 h (ob2 (newA 101 4 64 h) fun p1 h => ob (pR 1 a0 0 p1 h) fun h => some h)
theorem tkX1_init {a0 : Nat} {h : Hp} {r9 : Hp} (e : fX1_init a0 h = some r9) : hK h a0 = 1 := by
  unfold fX1_init at e
  exact (gd_some e).1
theorem cX1_init_m (l : Launch) {E : EE} {A : Nat → Prop} {a0 : Nat} {h : Hp} {h9 : Hp} {mc ms : Nat} (hmc : mc + hX h = hC h) (hms : ms + hU h = hZ h) (hf : fX1_init a0 h = some h9) : Met l yX1_init (wsM yX1_init cX1_init 1 none) (rmm 8 mc ms) (PcF E A h [rv a0]) (QG (Qv E A h9) h h9) mc ms A := by
  refine met_ofA (by decide +kernel) (by simp [lg_sl, cat_rv, cat_wv, cat_sv, cat_i, cat_l, cat_a]) hmc hms (fun p e s m args below meth c ls X hr hlk hnm S AI hl => ?_)
  have hl : lv_has ls 1 [(0, rv a0)] := by simpa [lv_args, cat_rv, cat_wv, cat_sv, cat_i, cat_l, cat_a] using hl
  generalize hH : s.heap = H at S ⊢
  generalize hlo : ([] : List Loc) = locs at S ⊢
  clear hH hlo
  unfold fX1_init at hf
  obtain ⟨hth, hf⟩ := gd_some hf
  refine g_aload_n X (or_rv _) dX1_init_0 rfl (lv_at hl 0 rfl) ?_
  refine g_oi (rest := []) X S hl.1 oiX1_3 dX1_init_1 (by decide) (by decide) (dom_ne S.1.1 hth (by decide)) ?_
  refine g_aload_n X (or_rv _) dX1_init_4 rfl (lv_at hl 0 rfl) ?_
  refine lv_bipush (v := 64) X.1 X.2.1 dX1_init_5 (by decide) ?_
  refine g_newI X S AI dX1_init_7 hf (fun p1 h H cells slots hf S AI => ?_)
  refine g_pR X S fpX1_11 (Or.inr ⟨_, rfl⟩) (Or.inr hnm) dX1_init_9 hf (fun h H locs hm hf S => ?_)
  replace AI := AI.sm hm
  cases hf; exact g_rvA X S AI hr hlk dX1_init_12
def fX1_isBelow (a0 : Int32) : Option (Int32) := if a0 = 11 then some 1 else if a0 = 13 then some 1 else some 0
theorem cX1_isBelow_m (l : Launch) {E : EE} {A : Nat → Prop} {a0 : Int32} {h : Hp} {r9 : Int32} (hf : fX1_isBelow a0 = some r9) : Met l yX1_isBelow (wsM yX1_isBelow cX1_isBelow 1 (some .boolean)) (rmm 8 0 0) (PcE E A h [.int a0]) (Qi E A h r9) 0 0 A := by
  refine met_of (by decide +kernel) (by simp [lg_sl, cat_rv, cat_wv, cat_sv, cat_i, cat_l, cat_a]) (fun p e s m args below meth c ls X hr hlk hnm S hl => ?_)
  have hl : lv_has ls 1 [(0, .int a0)] := by simpa [lv_args, cat_rv, cat_wv, cat_sv, cat_i, cat_l, cat_a] using hl
  generalize hH : s.heap = H at S ⊢
  generalize hlo : ([] : List Loc) = locs at S ⊢
  clear hH hlo
  unfold fX1_isBelow at hf
  refine lv_iload_n X.1 X.2.1 dX1_isBelow_0 rfl (lv_at hl 0 rfl) ?_
  refine lv_bipush (v := 11) X.1 X.2.1 dX1_isBelow_1 (by decide) ?_
  refine lv_icmp_eq (tgt := 12) X.1 X.2.1 dX1_isBelow_3 (by decide) (fun c1 => ?_) (fun c1 => ?_)
  · replace hf := (if_pos c1).symm.trans hf
    refine lv_iconst (v := 1) X.1 X.2.1 dX1_isBelow_12 (by decide) ?_
    refine lv_goto (tgt := 17) X.1 X.2.1 dX1_isBelow_13 (by decide) ?_
    cases hf; exact g_rz X S hr hlk (by decide) dX1_isBelow_17
  · replace hf := (if_neg c1).symm.trans hf
    refine lv_iload_n X.1 X.2.1 dX1_isBelow_6 rfl (lv_at hl 0 rfl) ?_
    refine lv_bipush (v := 13) X.1 X.2.1 dX1_isBelow_7 (by decide) ?_
    refine lv_icmp_ne (tgt := 16) X.1 X.2.1 dX1_isBelow_9 (by decide) (fun c2 => ?_) (fun c2 => ?_)
    · replace hf := (if_neg c2).symm.trans hf
      refine lv_iconst (v := 0) X.1 X.2.1 dX1_isBelow_16 (by decide) ?_
      cases hf; exact g_rz X S hr hlk (by decide) dX1_isBelow_17
    · replace hf := (if_pos c2).symm.trans hf
      refine lv_iconst (v := 1) X.1 X.2.1 dX1_isBelow_12 (by decide) ?_
      refine lv_goto (tgt := 17) X.1 X.2.1 dX1_isBelow_13 (by decide) ?_
      cases hf; exact g_rz X S hr hlk (by decide) dX1_isBelow_17
def fX1_measure_6 (k6 : Nat → Hp → Option (Hp)) (x0 : Nat) (h : Hp) : Option (Hp) := ob (gI 1 x0 1 h) fun v1 => if v1 ≤ 0 then some h else ob (gR 1 x0 0 h) fun v3 => ob (gI 1 x0 1 h) fun v4 => ob (aI v3 (v4 - 1) h) fun v5 => if v5 = 0 then ob (gI 1 x0 1 h) fun v7 => ob (pI 1 x0 1 (v7 - 1) h) fun h => k6 x0 h else some h
theorem wfX1_measure_6 {k6 : Nat → Hp → Option (Hp)} {h9 : Hp} (X : Cx p E A 8 R s m args c cX1_measure yX1_measure.cls 1) (hr : meth.sig.returnType = none) (hlk : meth.locks = false) (hnm : meth.name = yX1_measure.name) (hk6 : ∀ (x0 : Nat) (h : Hp) (H : Heap) (locs : List Loc) (ls : Array Slot), lv_has ls 1 [(0, rv x0)] → St E A s h H locs → k6 x0 h = some h9 → W p l e R s m args below meth c H locs 0 0 (MQ below (Qv E A h9) args s 0 0 A) (F0 m 6 ls [])) :
    ∀ (x0 : Nat) (h : Hp) (H : Heap) (locs : List Loc) (ls : Array Slot), lv_has ls 1 [(0, rv x0)] → St E A s h H locs → fX1_measure_6 k6 x0 h = some h9 → W p l e R s m args below meth c H locs 0 0 (MQ below (Qv E A h9) args s 0 0 A) (F0 m 6 ls []) := by
  intro x0 h H locs ls hl S hf
  unfold fX1_measure_6 at hf
  refine g_aload_n X (or_rv _) dX1_measure_6 rfl (lv_at hl 0 rfl) ?_
  refine g_gI X S foX1_15 rfl dX1_measure_7 hf (fun v1 hf => ?_)
  refine lv_if_le (tgt := 40) X.1 X.2.1 dX1_measure_10 (by decide) (fun c2 => ?_) (fun c2 => ?_)
  · replace hf := (if_pos c2).symm.trans hf
    cases hf; exact g_rv X S hr hlk dX1_measure_40
  · replace hf := (if_neg c2).symm.trans hf
    refine g_aload_n X (or_rv _) dX1_measure_13 rfl (lv_at hl 0 rfl) ?_
    refine g_gR X S foX1_11 dX1_measure_14 hf (fun v3 hf => ?_)
    refine g_aload_n X (or_rv _) dX1_measure_17 rfl (lv_at hl 0 rfl) ?_
    refine g_gI X S foX1_15 rfl dX1_measure_18 hf (fun v4 hf => ?_)
    refine lv_iconst (v := 1) X.1 X.2.1 dX1_measure_21 (by decide) ?_
    refine lv_isub X.1 X.2.1 dX1_measure_22 ?_
    refine g_aI X S dX1_measure_23 hf (fun v5 hf => ?_)
    refine lv_if_ne (tgt := 40) X.1 X.2.1 dX1_measure_24 (by decide) (fun c6 => ?_) (fun c6 => ?_)
    · replace hf := (if_neg c6).symm.trans hf
      cases hf; exact g_rv X S hr hlk dX1_measure_40
    · replace hf := (if_pos c6).symm.trans hf
      refine g_aload_n X (or_rv _) dX1_measure_27 rfl (lv_at hl 0 rfl) ?_
      refine lv_dup X.1 X.2.1 dX1_measure_28 (cat_rv _) ?_
      refine g_gI X S foX1_15 rfl dX1_measure_29 hf (fun v7 hf => ?_)
      refine lv_iconst (v := 1) X.1 X.2.1 dX1_measure_32 (by decide) ?_
      refine lv_isub X.1 X.2.1 dX1_measure_33 ?_
      refine g_pI X S fpX1_15 (Or.inl rfl) dX1_measure_34 hf (fun h H locs hm hf S => ?_)
      refine lv_goto (tgt := 6) X.1 X.2.1 dX1_measure_37 (by decide) ?_
      exact hk6 _ _ _ _ _ hl S hf
theorem wfX1_measure_6_l {h9 : Hp} (X : Cx p E A 8 R s m args c cX1_measure yX1_measure.cls 1) (hr : meth.sig.returnType = none) (hlk : meth.locks = false) (hnm : meth.name = yX1_measure.name) :
    ∀ (n : Nat) (x0 : Nat) (h : Hp) (H : Heap) (locs : List Loc) (ls : Array Slot), lv_has ls 1 [(0, rv x0)] → St E A s h H locs → lp (fun _ _ => none) (fX1_measure_6) n x0 h = some h9 → W p l e R s m args below meth c H locs 0 0 (MQ below (Qv E A h9) args s 0 0 A) (F0 m 6 ls []) := by
  intro n
  induction n with
  | zero =>
    intro x0 h H locs ls hl S hf
    exact nomatch hf
  | succ n ih =>
    intro x0 h H locs ls hl S hf
    exact wfX1_measure_6 X hr hlk hnm ih x0 h H locs ls hl S hf
def fX1_measure (a0 : Nat) (h : Hp) : Option (Hp) := gd 1 a0 h (ob (pI 1 a0 1 64 h) fun h => lp (fun _ _ => none) (fX1_measure_6) FU a0 h)
theorem tkX1_measure {a0 : Nat} {h : Hp} {r9 : Hp} (e : fX1_measure a0 h = some r9) : hK h a0 = 1 := by
  unfold fX1_measure at e
  exact (gd_some e).1
theorem cX1_measure_m (l : Launch) {E : EE} {A : Nat → Prop} {a0 : Nat} {h : Hp} {h9 : Hp} (hf : fX1_measure a0 h = some h9) : Met l yX1_measure (wsM yX1_measure cX1_measure 1 none) (rmm 8 0 0) (PcE E A h [rv a0]) (Qv E A h9) 0 0 A := by
  refine met_of (by decide +kernel) (by simp [lg_sl, cat_rv, cat_wv, cat_sv, cat_i, cat_l, cat_a]) (fun p e s m args below meth c ls X hr hlk hnm S hl => ?_)
  have hl : lv_has ls 1 [(0, rv a0)] := by simpa [lv_args, cat_rv, cat_wv, cat_sv, cat_i, cat_l, cat_a] using hl
  generalize hH : s.heap = H at S ⊢
  generalize hlo : ([] : List Loc) = locs at S ⊢
  clear hH hlo
  unfold fX1_measure at hf
  obtain ⟨hth, hf⟩ := gd_some hf
  refine g_aload_n X (or_rv _) dX1_measure_0 rfl (lv_at hl 0 rfl) ?_
  refine lv_bipush (v := 64) X.1 X.2.1 dX1_measure_1 (by decide) ?_
  refine g_pI X S fpX1_15 (Or.inl rfl) dX1_measure_3 hf (fun h H locs hm hf S => ?_)
  exact wfX1_measure_6_l X hr hlk hnm FU _ _ _ _ _ hl S hf
def fX1_takeZoned_46 (k12 : Nat → Nat → Int32 → Int32 → Int32 → Hp → Option (Hp)) (x0 : Nat) (x1 : Nat) (x3 : Int32) (x4 : Int32) (x5 : Int32) (y0 : Int32) (y1 : Int32) (y2 : Nat) (h : Hp) : Option (Hp) := ob (qI y2 y1 y0 h) fun h => lt (x5 + 1) fun z1 => k12 x0 x1 x3 x4 z1 h
theorem wfX1_takeZoned_46 {k12 : Nat → Nat → Int32 → Int32 → Int32 → Hp → Option (Hp)} {h9 : Hp} (X : Cx p E A 9 R s m args c cX1_takeZoned yX1_takeZoned.cls 6) (hr : meth.sig.returnType = none) (hlk : meth.locks = false) (hnm : meth.name = yX1_takeZoned.name) (hk12 : ∀ (x0 : Nat) (x1 : Nat) (x3 : Int32) (x4 : Int32) (x5 : Int32) (h : Hp) (H : Heap) (locs : List Loc) (ls : Array Slot), lv_has ls 6 [(0, rv x0), (1, rv x1), (3, .int x3), (4, .int x4), (5, .int x5)] → St E A s h H locs → k12 x0 x1 x3 x4 x5 h = some h9 → W p l e R s m args below meth c H locs 0 0 (MQ below (Qv E A h9) args s 0 0 A) (F0 m 12 ls [])) :
    ∀ (x0 : Nat) (x1 : Nat) (x3 : Int32) (x4 : Int32) (x5 : Int32) (y0 : Int32) (y1 : Int32) (y2 : Nat) (h : Hp) (H : Heap) (locs : List Loc) (ls : Array Slot), lv_has ls 6 [(0, rv x0), (1, rv x1), (3, .int x3), (4, .int x4), (5, .int x5)] → St E A s h H locs → fX1_takeZoned_46 k12 x0 x1 x3 x4 x5 y0 y1 y2 h = some h9 → W p l e R s m args below meth c H locs 0 0 (MQ below (Qv E A h9) args s 0 0 A) (F0 m 46 ls [.int y0, .int y1, rv y2]) := by
  intro x0 x1 x3 x4 x5 y0 y1 y2 h H locs ls hl S hf
  unfold fX1_takeZoned_46 at hf
  refine g_qI X S dX1_takeZoned_46 hf (fun h H locs hm hf S => ?_)
  obtain ⟨z1, ez1, hf⟩ := lt_some hf
  refine lv_iinc (v := z1) (lv' := [(5, .int z1), (0, rv x0), (1, rv x1), (3, .int x3), (4, .int x4)]) X.1 X.2.1 dX1_takeZoned_47 hl (k := 4) rfl (by rw [← ez1]; rfl) (by decide) rfl (fun ls hl => ?_)
  refine lv_goto (tgt := 12) X.1 X.2.1 dX1_takeZoned_50 (by decide) ?_
  exact hk12 _ _ _ _ _ _ _ _ _ (lv_sub hl [1, 2, 3, 4, 0] rfl) S hf
def fX1_takeZoned_12 (k12 : Nat → Nat → Int32 → Int32 → Int32 → Hp → Option (Hp)) (x0 : Nat) (x1 : Nat) (x3 : Int32) (x4 : Int32) (x5 : Int32) (h : Hp) : Option (Hp) := if 64 ≤ x5 then ob (fX10_half x1 (x4 - 1) h) fun v2 => ob (fX1_isBelow v2) fun v3 => ob (pZ 1 x0 2 v3 h) fun h => ob (fX1_measure x0 h) fun h => some h else ob (gR 1 x0 0 h) fun v5 => if x3 ≤ x5 then fX1_takeZoned_46 k12 x0 x1 x3 x4 x5 0 x5 v5 h else ob (fX10_half x1 (x4 - (2 * x5)) h) fun v7 => fX1_takeZoned_46 k12 x0 x1 x3 x4 x5 v7 x5 v5 h
theorem wfX1_takeZoned_12 {k12 : Nat → Nat → Int32 → Int32 → Int32 → Hp → Option (Hp)} {h9 : Hp} (X : Cx p E A 9 R s m args c cX1_takeZoned yX1_takeZoned.cls 6) (hr : meth.sig.returnType = none) (hlk : meth.locks = false) (hnm : meth.name = yX1_takeZoned.name) (hk12 : ∀ (x0 : Nat) (x1 : Nat) (x3 : Int32) (x4 : Int32) (x5 : Int32) (h : Hp) (H : Heap) (locs : List Loc) (ls : Array Slot), lv_has ls 6 [(0, rv x0), (1, rv x1), (3, .int x3), (4, .int x4), (5, .int x5)] → St E A s h H locs → k12 x0 x1 x3 x4 x5 h = some h9 → W p l e R s m args below meth c H locs 0 0 (MQ below (Qv E A h9) args s 0 0 A) (F0 m 12 ls [])) :
    ∀ (x0 : Nat) (x1 : Nat) (x3 : Int32) (x4 : Int32) (x5 : Int32) (h : Hp) (H : Heap) (locs : List Loc) (ls : Array Slot), lv_has ls 6 [(0, rv x0), (1, rv x1), (3, .int x3), (4, .int x4), (5, .int x5)] → St E A s h H locs → fX1_takeZoned_12 k12 x0 x1 x3 x4 x5 h = some h9 → W p l e R s m args below meth c H locs 0 0 (MQ below (Qv E A h9) args s 0 0 A) (F0 m 12 ls []) := by
  intro x0 x1 x3 x4 x5 h H locs ls hl S hf
  unfold fX1_takeZoned_12 at hf
  refine lv_iload X.1 X.2.1 dX1_takeZoned_12 (lv_at hl 4 rfl) ?_
  refine lv_bipush (v := 64) X.1 X.2.1 dX1_takeZoned_14 (by decide) ?_
  refine lv_icmp_ge (tgt := 53) X.1 X.2.1 dX1_takeZoned_16 (by decide) (fun c1 => ?_) (fun c1 => ?_)
  · replace hf := (if_pos c1).symm.trans hf
    refine g_aload_n X (or_rv _) dX1_takeZoned_53 rfl (lv_at hl 0 rfl) ?_
    refine g_aload_n X (or_rv _) dX1_takeZoned_54 rfl (lv_at hl 1 rfl) ?_
    refine lv_iload X.1 X.2.1 dX1_takeZoned_55 (lv_at hl 3 rfl) ?_
    refine lv_iconst (v := 1) X.1 X.2.1 dX1_takeZoned_57 (by decide) ?_
    refine lv_isub X.1 X.2.1 dX1_takeZoned_58 ?_
    obtain ⟨v2, hc, hf⟩ := ob_some hf
    refine g_ci S (runV (As := [.int (x4 - 1)]) (rest := [rv x0]) X S coX1_23 (by decide) (cX10_half_m l hc) (tkX10_half hc) rfl hl.1 (by simp [cat_rv, cat_wv, cat_sv, cat_i, cat_l, cat_a]) rfl ⟨Nat.zero_le _, Nat.zero_le _⟩ dX1_takeZoned_59) (fun H locs S => ?_)
    obtain ⟨v3, hc, hf⟩ := ob_some hf
    refine g_ci S (runS (As := [.int v2]) (rest := [rv x0]) X S coX1_29 (by decide) (cX1_isBelow_m l hc) rfl hl.1 (by simp [cat_rv, cat_wv, cat_sv, cat_i, cat_l, cat_a]) rfl ⟨Nat.zero_le _, Nat.zero_le _⟩ dX1_takeZoned_62) (fun H locs S => ?_)
    refine g_pZ X S fpX1_19 (Or.inl rfl) dX1_takeZoned_65 hf (fun h H locs hm hf S => ?_)
    refine g_aload_n X (or_rv _) dX1_takeZoned_68 rfl (lv_at hl 0 rfl) ?_
    obtain ⟨h, hc, hf⟩ := ob_some hf
    refine g_cv S (runV (As := []) (rest := []) X S coX1_33 (by decide) (cX1_measure_m l hc) (tkX1_measure hc) rfl hl.1 (by decide) rfl ⟨Nat.zero_le _, Nat.zero_le _⟩ dX1_takeZoned_69) (fun H locs S => ?_)
    cases hf; exact g_rv X S hr hlk dX1_takeZoned_72
  · replace hf := (if_neg c1).symm.trans hf
    refine g_aload_n X (or_rv _) dX1_takeZoned_19 rfl (lv_at hl 0 rfl) ?_
    refine g_gR X S foX1_11 dX1_takeZoned_20 hf (fun v5 hf => ?_)
    refine lv_iload X.1 X.2.1 dX1_takeZoned_23 (lv_at hl 4 rfl) ?_
    refine lv_iload X.1 X.2.1 dX1_takeZoned_25 (lv_at hl 4 rfl) ?_
    refine lv_iload_n X.1 X.2.1 dX1_takeZoned_27 rfl (lv_at hl 2 rfl) ?_
    refine lv_icmp_ge (tgt := 45) X.1 X.2.1 dX1_takeZoned_28 (by decide) (fun c6 => ?_) (fun c6 => ?_)
    · replace hf := (if_pos c6).symm.trans hf
      refine lv_iconst (v := 0) X.1 X.2.1 dX1_takeZoned_45 (by decide) ?_
      exact wfX1_takeZoned_46 X hr hlk hnm hk12 _ _ _ _ _ _ _ _ _ _ _ _ hl S hf
    · replace hf := (if_neg c6).symm.trans hf
      refine g_aload_n X (or_rv _) dX1_takeZoned_31 rfl (lv_at hl 1 rfl) ?_
      refine lv_iload X.1 X.2.1 dX1_takeZoned_32 (lv_at hl 3 rfl) ?_
      refine lv_iconst (v := 2) X.1 X.2.1 dX1_takeZoned_34 (by decide) ?_
      refine lv_iload X.1 X.2.1 dX1_takeZoned_35 (lv_at hl 4 rfl) ?_
      refine lv_imul X.1 X.2.1 dX1_takeZoned_37 ?_
      refine lv_isub X.1 X.2.1 dX1_takeZoned_38 ?_
      obtain ⟨v7, hc, hf⟩ := ob_some hf
      refine g_ci S (runV (As := [.int (x4 - (2 * x5))]) (rest := [.int x5, rv v5]) X S coX1_23 (by decide) (cX10_half_m l hc) (tkX10_half hc) rfl hl.1 (by simp [cat_rv, cat_wv, cat_sv, cat_i, cat_l, cat_a]) rfl ⟨Nat.zero_le _, Nat.zero_le _⟩ dX1_takeZoned_39) (fun H locs S => ?_)
      refine lv_goto (tgt := 46) X.1 X.2.1 dX1_takeZoned_42 (by decide) ?_
      exact wfX1_takeZoned_46 X hr hlk hnm hk12 _ _ _ _ _ _ _ _ _ _ _ _ hl S hf
theorem wfX1_takeZoned_12_l {h9 : Hp} (X : Cx p E A 9 R s m args c cX1_takeZoned yX1_takeZoned.cls 6) (hr : meth.sig.returnType = none) (hlk : meth.locks = false) (hnm : meth.name = yX1_takeZoned.name) :
    ∀ (n : Nat) (x0 : Nat) (x1 : Nat) (x3 : Int32) (x4 : Int32) (x5 : Int32) (h : Hp) (H : Heap) (locs : List Loc) (ls : Array Slot), lv_has ls 6 [(0, rv x0), (1, rv x1), (3, .int x3), (4, .int x4), (5, .int x5)] → St E A s h H locs → lp (fun _ _ _ _ _ _ => none) (fX1_takeZoned_12) n x0 x1 x3 x4 x5 h = some h9 → W p l e R s m args below meth c H locs 0 0 (MQ below (Qv E A h9) args s 0 0 A) (F0 m 12 ls []) := by
  intro n
  induction n with
  | zero =>
    intro x0 x1 x3 x4 x5 h H locs ls hl S hf
    exact nomatch hf
  | succ n ih =>
    intro x0 x1 x3 x4 x5 h H locs ls hl S hf
    exact wfX1_takeZoned_12 X hr hlk hnm ih x0 x1 x3 x4 x5 h H locs ls hl S hf
def fX1_takeZoned (a0 : Nat) (a1 : Nat) (a2 : Int32) (a3 : Int32) (h : Hp) : Option (Hp) := gd 1 a0 h (lt ((2 * (a2 + a3)) - 1) fun z1 => lp (fun _ _ _ _ _ _ => none) (fX1_takeZoned_12) FU a0 a1 a3 z1 0 h)
theorem tkX1_takeZoned {a0 : Nat} {a1 : Nat} {a2 : Int32} {a3 : Int32} {h : Hp} {r9 : Hp} (e : fX1_takeZoned a0 a1 a2 a3 h = some r9) : hK h a0 = 1 := by
  unfold fX1_takeZoned at e
  exact (gd_some e).1
theorem cX1_takeZoned_m (l : Launch) {E : EE} {A : Nat → Prop} {a0 : Nat} {a1 : Nat} {a2 : Int32} {a3 : Int32} {h : Hp} {h9 : Hp} (hf : fX1_takeZoned a0 a1 a2 a3 h = some h9) : Met l yX1_takeZoned (wsM yX1_takeZoned cX1_takeZoned 6 none) (rmm 9 0 0) (PcE E A h [rv a0, rv a1, .int a2, .int a3]) (Qv E A h9) 0 0 A := by
  refine met_of (by decide +kernel) (by simp [lg_sl, cat_rv, cat_wv, cat_sv, cat_i, cat_l, cat_a]) (fun p e s m args below meth c ls X hr hlk hnm S hl => ?_)
  have hl : lv_has ls 6 [(0, rv a0), (1, rv a1), (2, .int a2), (3, .int a3)] := by simpa [lv_args, cat_rv, cat_wv, cat_sv, cat_i, cat_l, cat_a] using hl
  generalize hH : s.heap = H at S ⊢
  generalize hlo : ([] : List Loc) = locs at S ⊢
  clear hH hlo
  unfold fX1_takeZoned at hf
  obtain ⟨hth, hf⟩ := gd_some hf
  refine lv_iconst (v := 2) X.1 X.2.1 dX1_takeZoned_0 (by decide) ?_
  refine lv_iload_n X.1 X.2.1 dX1_takeZoned_1 rfl (lv_at hl 2 rfl) ?_
  refine lv_iload_n X.1 X.2.1 dX1_takeZoned_2 rfl (lv_at hl 3 rfl) ?_
  refine lv_iadd X.1 X.2.1 dX1_takeZoned_3 ?_
  refine lv_imul X.1 X.2.1 dX1_takeZoned_4 ?_
  refine lv_iconst (v := 1) X.1 X.2.1 dX1_takeZoned_5 (by decide) ?_
  refine lv_isub X.1 X.2.1 dX1_takeZoned_6 ?_
  refine g_lti hf (fun z1 hf => ?_)
  refine lv_istore (lv' := [(4, .int z1), (0, rv a0), (1, rv a1), (2, .int a2), (3, .int a3)]) X.1 X.2.1 dX1_takeZoned_7 hl (by decide) rfl (fun ls hl => ?_)
  refine lv_iconst (v := 0) X.1 X.2.1 dX1_takeZoned_9 (by decide) ?_
  refine lv_istore (lv' := [(5, .int 0), (4, .int z1), (0, rv a0), (1, rv a1), (2, .int a2), (3, .int a3)]) X.1 X.2.1 dX1_takeZoned_10 hl (by decide) rfl (fun ls hl => ?_)
  exact wfX1_takeZoned_12_l X hr hlk hnm FU _ _ _ _ _ _ _ _ _ (lv_sub hl [2, 3, 5, 1, 0] rfl) S hf
def fX1_takePacked_50 (k12 : Nat → Nat → Int32 → Int32 → Int32 → Hp → Option (Hp)) (x0 : Nat) (x1 : Nat) (x3 : Int32) (x4 : Int32) (x5 : Int32) (y0 : Int32) (y1 : Int32) (y2 : Nat) (h : Hp) : Option (Hp) := ob (qI y2 y1 y0 h) fun h => lt (x5 + 1) fun z1 => k12 x0 x1 x3 x4 z1 h
theorem wfX1_takePacked_50 {k12 : Nat → Nat → Int32 → Int32 → Int32 → Hp → Option (Hp)} {h9 : Hp} (X : Cx p E A 9 R s m args c cX1_takePacked yX1_takePacked.cls 6) (hr : meth.sig.returnType = none) (hlk : meth.locks = false) (hnm : meth.name = yX1_takePacked.name) (hk12 : ∀ (x0 : Nat) (x1 : Nat) (x3 : Int32) (x4 : Int32) (x5 : Int32) (h : Hp) (H : Heap) (locs : List Loc) (ls : Array Slot), lv_has ls 6 [(0, rv x0), (1, rv x1), (3, .int x3), (4, .int x4), (5, .int x5)] → St E A s h H locs → k12 x0 x1 x3 x4 x5 h = some h9 → W p l e R s m args below meth c H locs 0 0 (MQ below (Qv E A h9) args s 0 0 A) (F0 m 12 ls [])) :
    ∀ (x0 : Nat) (x1 : Nat) (x3 : Int32) (x4 : Int32) (x5 : Int32) (y0 : Int32) (y1 : Int32) (y2 : Nat) (h : Hp) (H : Heap) (locs : List Loc) (ls : Array Slot), lv_has ls 6 [(0, rv x0), (1, rv x1), (3, .int x3), (4, .int x4), (5, .int x5)] → St E A s h H locs → fX1_takePacked_50 k12 x0 x1 x3 x4 x5 y0 y1 y2 h = some h9 → W p l e R s m args below meth c H locs 0 0 (MQ below (Qv E A h9) args s 0 0 A) (F0 m 50 ls [.int y0, .int y1, rv y2]) := by
  intro x0 x1 x3 x4 x5 y0 y1 y2 h H locs ls hl S hf
  unfold fX1_takePacked_50 at hf
  refine g_qI X S dX1_takePacked_50 hf (fun h H locs hm hf S => ?_)
  obtain ⟨z1, ez1, hf⟩ := lt_some hf
  refine lv_iinc (v := z1) (lv' := [(5, .int z1), (0, rv x0), (1, rv x1), (3, .int x3), (4, .int x4)]) X.1 X.2.1 dX1_takePacked_51 hl (k := 4) rfl (by rw [← ez1]; rfl) (by decide) rfl (fun ls hl => ?_)
  refine lv_goto (tgt := 12) X.1 X.2.1 dX1_takePacked_54 (by decide) ?_
  exact hk12 _ _ _ _ _ _ _ _ _ (lv_sub hl [1, 2, 3, 4, 0] rfl) S hf
def fX1_takePacked_12 (k12 : Nat → Nat → Int32 → Int32 → Int32 → Hp → Option (Hp)) (x0 : Nat) (x1 : Nat) (x3 : Int32) (x4 : Int32) (x5 : Int32) (h : Hp) : Option (Hp) := if 64 ≤ x5 then ob (fX10_half x1 x4 h) fun v2 => ob (fX1_isBelow v2) fun v3 => ob (pZ 1 x0 2 v3 h) fun h => ob (fX1_measure x0 h) fun h => some h else ob (gR 1 x0 0 h) fun v5 => if ((2 * x3) - 1) ≤ x5 then fX1_takePacked_50 k12 x0 x1 x3 x4 x5 0 x5 v5 h else ob (fX10_half x1 ((x4 - 1) - x5) h) fun v7 => fX1_takePacked_50 k12 x0 x1 x3 x4 x5 v7 x5 v5 h
theorem wfX1_takePacked_12 {k12 : Nat → Nat → Int32 → Int32 → Int32 → Hp → Option (Hp)} {h9 : Hp} (X : Cx p E A 9 R s m args c cX1_takePacked yX1_takePacked.cls 6) (hr : meth.sig.returnType = none) (hlk : meth.locks = false) (hnm : meth.name = yX1_takePacked.name) (hk12 : ∀ (x0 : Nat) (x1 : Nat) (x3 : Int32) (x4 : Int32) (x5 : Int32) (h : Hp) (H : Heap) (locs : List Loc) (ls : Array Slot), lv_has ls 6 [(0, rv x0), (1, rv x1), (3, .int x3), (4, .int x4), (5, .int x5)] → St E A s h H locs → k12 x0 x1 x3 x4 x5 h = some h9 → W p l e R s m args below meth c H locs 0 0 (MQ below (Qv E A h9) args s 0 0 A) (F0 m 12 ls [])) :
    ∀ (x0 : Nat) (x1 : Nat) (x3 : Int32) (x4 : Int32) (x5 : Int32) (h : Hp) (H : Heap) (locs : List Loc) (ls : Array Slot), lv_has ls 6 [(0, rv x0), (1, rv x1), (3, .int x3), (4, .int x4), (5, .int x5)] → St E A s h H locs → fX1_takePacked_12 k12 x0 x1 x3 x4 x5 h = some h9 → W p l e R s m args below meth c H locs 0 0 (MQ below (Qv E A h9) args s 0 0 A) (F0 m 12 ls []) := by
  intro x0 x1 x3 x4 x5 h H locs ls hl S hf
  unfold fX1_takePacked_12 at hf
  refine lv_iload X.1 X.2.1 dX1_takePacked_12 (lv_at hl 4 rfl) ?_
  refine lv_bipush (v := 64) X.1 X.2.1 dX1_takePacked_14 (by decide) ?_
  refine lv_icmp_ge (tgt := 57) X.1 X.2.1 dX1_takePacked_16 (by decide) (fun c1 => ?_) (fun c1 => ?_)
  · replace hf := (if_pos c1).symm.trans hf
    refine g_aload_n X (or_rv _) dX1_takePacked_57 rfl (lv_at hl 0 rfl) ?_
    refine g_aload_n X (or_rv _) dX1_takePacked_58 rfl (lv_at hl 1 rfl) ?_
    refine lv_iload X.1 X.2.1 dX1_takePacked_59 (lv_at hl 3 rfl) ?_
    obtain ⟨v2, hc, hf⟩ := ob_some hf
    refine g_ci S (runV (As := [.int x4]) (rest := [rv x0]) X S coX1_23 (by decide) (cX10_half_m l hc) (tkX10_half hc) rfl hl.1 (by simp [cat_rv, cat_wv, cat_sv, cat_i, cat_l, cat_a]) rfl ⟨Nat.zero_le _, Nat.zero_le _⟩ dX1_takePacked_61) (fun H locs S => ?_)
    obtain ⟨v3, hc, hf⟩ := ob_some hf
    refine g_ci S (runS (As := [.int v2]) (rest := [rv x0]) X S coX1_29 (by decide) (cX1_isBelow_m l hc) rfl hl.1 (by simp [cat_rv, cat_wv, cat_sv, cat_i, cat_l, cat_a]) rfl ⟨Nat.zero_le _, Nat.zero_le _⟩ dX1_takePacked_64) (fun H locs S => ?_)
    refine g_pZ X S fpX1_19 (Or.inl rfl) dX1_takePacked_67 hf (fun h H locs hm hf S => ?_)
    refine g_aload_n X (or_rv _) dX1_takePacked_70 rfl (lv_at hl 0 rfl) ?_
    obtain ⟨h, hc, hf⟩ := ob_some hf
    refine g_cv S (runV (As := []) (rest := []) X S coX1_33 (by decide) (cX1_measure_m l hc) (tkX1_measure hc) rfl hl.1 (by decide) rfl ⟨Nat.zero_le _, Nat.zero_le _⟩ dX1_takePacked_71) (fun H locs S => ?_)
    cases hf; exact g_rv X S hr hlk dX1_takePacked_74
  · replace hf := (if_neg c1).symm.trans hf
    refine g_aload_n X (or_rv _) dX1_takePacked_19 rfl (lv_at hl 0 rfl) ?_
    refine g_gR X S foX1_11 dX1_takePacked_20 hf (fun v5 hf => ?_)
    refine lv_iload X.1 X.2.1 dX1_takePacked_23 (lv_at hl 4 rfl) ?_
    refine lv_iload X.1 X.2.1 dX1_takePacked_25 (lv_at hl 4 rfl) ?_
    refine lv_iconst (v := 2) X.1 X.2.1 dX1_takePacked_27 (by decide) ?_
    refine lv_iload_n X.1 X.2.1 dX1_takePacked_28 rfl (lv_at hl 2 rfl) ?_
    refine lv_imul X.1 X.2.1 dX1_takePacked_29 ?_
    refine lv_iconst (v := 1) X.1 X.2.1 dX1_takePacked_30 (by decide) ?_
    refine lv_isub X.1 X.2.1 dX1_takePacked_31 ?_
    refine lv_icmp_ge (tgt := 49) X.1 X.2.1 dX1_takePacked_32 (by decide) (fun c6 => ?_) (fun c6 => ?_)
    · replace hf := (if_pos c6).symm.trans hf
      refine lv_iconst (v := 0) X.1 X.2.1 dX1_takePacked_49 (by decide) ?_
      exact wfX1_takePacked_50 X hr hlk hnm hk12 _ _ _ _ _ _ _ _ _ _ _ _ hl S hf
    · replace hf := (if_neg c6).symm.trans hf
      refine g_aload_n X (or_rv _) dX1_takePacked_35 rfl (lv_at hl 1 rfl) ?_
      refine lv_iload X.1 X.2.1 dX1_takePacked_36 (lv_at hl 3 rfl) ?_
      refine lv_iconst (v := 1) X.1 X.2.1 dX1_takePacked_38 (by decide) ?_
      refine lv_isub X.1 X.2.1 dX1_takePacked_39 ?_
      refine lv_iload X.1 X.2.1 dX1_takePacked_40 (lv_at hl 4 rfl) ?_
      refine lv_isub X.1 X.2.1 dX1_takePacked_42 ?_
      obtain ⟨v7, hc, hf⟩ := ob_some hf
      refine g_ci S (runV (As := [.int ((x4 - 1) - x5)]) (rest := [.int x5, rv v5]) X S coX1_23 (by decide) (cX10_half_m l hc) (tkX10_half hc) rfl hl.1 (by simp [cat_rv, cat_wv, cat_sv, cat_i, cat_l, cat_a]) rfl ⟨Nat.zero_le _, Nat.zero_le _⟩ dX1_takePacked_43) (fun H locs S => ?_)
      refine lv_goto (tgt := 50) X.1 X.2.1 dX1_takePacked_46 (by decide) ?_
      exact wfX1_takePacked_50 X hr hlk hnm hk12 _ _ _ _ _ _ _ _ _ _ _ _ hl S hf
theorem wfX1_takePacked_12_l {h9 : Hp} (X : Cx p E A 9 R s m args c cX1_takePacked yX1_takePacked.cls 6) (hr : meth.sig.returnType = none) (hlk : meth.locks = false) (hnm : meth.name = yX1_takePacked.name) :
    ∀ (n : Nat) (x0 : Nat) (x1 : Nat) (x3 : Int32) (x4 : Int32) (x5 : Int32) (h : Hp) (H : Heap) (locs : List Loc) (ls : Array Slot), lv_has ls 6 [(0, rv x0), (1, rv x1), (3, .int x3), (4, .int x4), (5, .int x5)] → St E A s h H locs → lp (fun _ _ _ _ _ _ => none) (fX1_takePacked_12) n x0 x1 x3 x4 x5 h = some h9 → W p l e R s m args below meth c H locs 0 0 (MQ below (Qv E A h9) args s 0 0 A) (F0 m 12 ls []) := by
  intro n
  induction n with
  | zero =>
    intro x0 x1 x3 x4 x5 h H locs ls hl S hf
    exact nomatch hf
  | succ n ih =>
    intro x0 x1 x3 x4 x5 h H locs ls hl S hf
    exact wfX1_takePacked_12 X hr hlk hnm ih x0 x1 x3 x4 x5 h H locs ls hl S hf
def fX1_takePacked (a0 : Nat) (a1 : Nat) (a2 : Int32) (a3 : Int32) (h : Hp) : Option (Hp) := gd 1 a0 h (lt ((2 * (a2 + a3)) - 1) fun z1 => lp (fun _ _ _ _ _ _ => none) (fX1_takePacked_12) FU a0 a1 a3 z1 0 h)
theorem tkX1_takePacked {a0 : Nat} {a1 : Nat} {a2 : Int32} {a3 : Int32} {h : Hp} {r9 : Hp} (e : fX1_takePacked a0 a1 a2 a3 h = some r9) : hK h a0 = 1 := by
  unfold fX1_takePacked at e
  exact (gd_some e).1
theorem cX1_takePacked_m (l : Launch) {E : EE} {A : Nat → Prop} {a0 : Nat} {a1 : Nat} {a2 : Int32} {a3 : Int32} {h : Hp} {h9 : Hp} (hf : fX1_takePacked a0 a1 a2 a3 h = some h9) : Met l yX1_takePacked (wsM yX1_takePacked cX1_takePacked 6 none) (rmm 9 0 0) (PcE E A h [rv a0, rv a1, .int a2, .int a3]) (Qv E A h9) 0 0 A := by
  refine met_of (by decide +kernel) (by simp [lg_sl, cat_rv, cat_wv, cat_sv, cat_i, cat_l, cat_a]) (fun p e s m args below meth c ls X hr hlk hnm S hl => ?_)
  have hl : lv_has ls 6 [(0, rv a0), (1, rv a1), (2, .int a2), (3, .int a3)] := by simpa [lv_args, cat_rv, cat_wv, cat_sv, cat_i, cat_l, cat_a] using hl
  generalize hH : s.heap = H at S ⊢
  generalize hlo : ([] : List Loc) = locs at S ⊢
  clear hH hlo
  unfold fX1_takePacked at hf
  obtain ⟨hth, hf⟩ := gd_some hf
  refine lv_iconst (v := 2) X.1 X.2.1 dX1_takePacked_0 (by decide) ?_
  refine lv_iload_n X.1 X.2.1 dX1_takePacked_1 rfl (lv_at hl 2 rfl) ?_
  refine lv_iload_n X.1 X.2.1 dX1_takePacked_2 rfl (lv_at hl 3 rfl) ?_
  refine lv_iadd X.1 X.2.1 dX1_takePacked_3 ?_
  refine lv_imul X.1 X.2.1 dX1_takePacked_4 ?_
  refine lv_iconst (v := 1) X.1 X.2.1 dX1_takePacked_5 (by decide) ?_
  refine lv_isub X.1 X.2.1 dX1_takePacked_6 ?_
  refine g_lti hf (fun z1 hf => ?_)
  refine lv_istore (lv' := [(4, .int z1), (0, rv a0), (1, rv a1), (2, .int a2), (3, .int a3)]) X.1 X.2.1 dX1_takePacked_7 hl (by decide) rfl (fun ls hl => ?_)
  refine lv_iconst (v := 0) X.1 X.2.1 dX1_takePacked_9 (by decide) ?_
  refine lv_istore (lv' := [(5, .int 0), (4, .int z1), (0, rv a0), (1, rv a1), (2, .int a2), (3, .int a3)]) X.1 X.2.1 dX1_takePacked_10 hl (by decide) rfl (fun ls hl => ?_)
  exact wfX1_takePacked_12_l X hr hlk hnm FU _ _ _ _ _ _ _ _ _ (lv_sub hl [2, 3, 5, 1, 0] rfl) S hf
def fX1_size (a0 : Nat) (h : Hp) : Option (Int32) := gd 1 a0 h (ob (gI 1 a0 1 h) fun v1 => some v1)
theorem tkX1_size {a0 : Nat} {h : Hp} {r9 : Int32} (e : fX1_size a0 h = some r9) : hK h a0 = 1 := by
  unfold fX1_size at e
  exact (gd_some e).1
theorem cX1_size_m (l : Launch) {E : EE} {A : Nat → Prop} {a0 : Nat} {h : Hp} {r9 : Int32} (hf : fX1_size a0 h = some r9) : Met l yX1_size (wsM yX1_size cX1_size 1 (some .int)) (rmm 8 0 0) (PcE E A h [rv a0]) (Qi E A h r9) 0 0 A := by
  refine met_of (by decide +kernel) (by simp [lg_sl, cat_rv, cat_wv, cat_sv, cat_i, cat_l, cat_a]) (fun p e s m args below meth c ls X hr hlk hnm S hl => ?_)
  have hl : lv_has ls 1 [(0, rv a0)] := by simpa [lv_args, cat_rv, cat_wv, cat_sv, cat_i, cat_l, cat_a] using hl
  generalize hH : s.heap = H at S ⊢
  generalize hlo : ([] : List Loc) = locs at S ⊢
  clear hH hlo
  unfold fX1_size at hf
  obtain ⟨hth, hf⟩ := gd_some hf
  refine g_aload_n X (or_rv _) dX1_size_0 rfl (lv_at hl 0 rfl) ?_
  refine g_gI X S foX1_15 rfl dX1_size_1 hf (fun v1 hf => ?_)
  cases hf; exact g_ri X S hr hlk dX1_size_4
def fX1_magnitude_14 (h : Hp) (k14 : Nat → Int64 → Int32 → Option (Int64)) (x0 : Nat) (x1 : Int64) (x3 : Int32) : Option (Int64) := if x3 < 0 then some x1 else ob (gR 1 x0 0 h) fun v2 => ob (aI v2 x3 h) fun v3 => lt ((x1 * 10) + (Int32.toInt64 v3)) fun z4 => lt (x3 + (-1)) fun z5 => k14 x0 z4 z5
theorem wfX1_magnitude_14 {h : Hp} {k14 : Nat → Int64 → Int32 → Option (Int64)} {r9 : Int64} (X : Cx p E A 8 R s m args c cX1_magnitude yX1_magnitude.cls 4) (hr : meth.sig.returnType = (some .long)) (hlk : meth.locks = false) (hnm : meth.name = yX1_magnitude.name) (hk14 : ∀ (x0 : Nat) (x1 : Int64) (x3 : Int32) (H : Heap) (locs : List Loc) (ls : Array Slot), lv_has ls 4 [(0, rv x0), (1, .long x1), (3, .int x3)] → St E A s h H locs → k14 x0 x1 x3 = some r9 → W p l e R s m args below meth c H locs 0 0 (MQ below (Ql E A h r9) args s 0 0 A) (F0 m 14 ls [])) :
    ∀ (x0 : Nat) (x1 : Int64) (x3 : Int32) (H : Heap) (locs : List Loc) (ls : Array Slot), lv_has ls 4 [(0, rv x0), (1, .long x1), (3, .int x3)] → St E A s h H locs → fX1_magnitude_14 h k14 x0 x1 x3 = some r9 → W p l e R s m args below meth c H locs 0 0 (MQ below (Ql E A h r9) args s 0 0 A) (F0 m 14 ls []) := by
  intro x0 x1 x3 H locs ls hl S hf
  unfold fX1_magnitude_14 at hf
  refine lv_iload_n X.1 X.2.1 dX1_magnitude_14 rfl (lv_at hl 2 rfl) ?_
  refine lv_if_lt (tgt := 38) X.1 X.2.1 dX1_magnitude_15 (by decide) (fun c1 => ?_) (fun c1 => ?_)
  · replace hf := (if_pos c1).symm.trans hf
    refine lv_lload_n X.1 X.2.1 dX1_magnitude_38 rfl (lv_at hl 1 rfl) ?_
    cases hf; exact g_rl X S hr hlk dX1_magnitude_39
  · replace hf := (if_neg c1).symm.trans hf
    refine lv_lload_n X.1 X.2.1 dX1_magnitude_18 rfl (lv_at hl 1 rfl) ?_
    refine lv_ldc2 X.1 X.2.1 X.2.2.2.1 (X.2.2.1 _ kuX1_36) dX1_magnitude_19 ?_
    refine lv_lmul X.1 X.2.1 dX1_magnitude_22 ?_
    refine g_aload_n X (or_rv _) dX1_magnitude_23 rfl (lv_at hl 0 rfl) ?_
    refine g_gR X S foX1_11 dX1_magnitude_24 hf (fun v2 hf => ?_)
    refine lv_iload_n X.1 X.2.1 dX1_magnitude_27 rfl (lv_at hl 2 rfl) ?_
    refine g_aI X S dX1_magnitude_28 hf (fun v3 hf => ?_)
    refine lv_i2l (v := Int32.toInt64 v3) X.1 X.2.1 dX1_magnitude_29 rfl ?_
    refine lv_ladd X.1 X.2.1 dX1_magnitude_30 ?_
    refine g_ltl hf (fun z4 hf => ?_)
    refine lv_lstore_n (i := 1) (lv' := [(1, .long z4), (0, rv x0), (3, .int x3)]) X.1 X.2.1 dX1_magnitude_31 rfl hl (by decide) (by simp [List.filter, cat_rv, cat_wv, cat_sv]) (fun ls hl => ?_)
    obtain ⟨z5, ez5, hf⟩ := lt_some hf
    refine lv_iinc (v := z5) (lv' := [(3, .int z5), (1, .long z4), (0, rv x0)]) X.1 X.2.1 dX1_magnitude_32 hl (k := 2) rfl (by rw [← ez5]; rfl) (by decide) rfl (fun ls hl => ?_)
    refine lv_goto (tgt := 14) X.1 X.2.1 dX1_magnitude_35 (by decide) ?_
    exact hk14 _ _ _ _ _ _ (lv_sub hl [2, 1, 0] rfl) S hf
theorem wfX1_magnitude_14_l {h : Hp} {r9 : Int64} (X : Cx p E A 8 R s m args c cX1_magnitude yX1_magnitude.cls 4) (hr : meth.sig.returnType = (some .long)) (hlk : meth.locks = false) (hnm : meth.name = yX1_magnitude.name) :
    ∀ (n : Nat) (x0 : Nat) (x1 : Int64) (x3 : Int32) (H : Heap) (locs : List Loc) (ls : Array Slot), lv_has ls 4 [(0, rv x0), (1, .long x1), (3, .int x3)] → St E A s h H locs → lp (fun _ _ _ => none) (fX1_magnitude_14 h) n x0 x1 x3 = some r9 → W p l e R s m args below meth c H locs 0 0 (MQ below (Ql E A h r9) args s 0 0 A) (F0 m 14 ls []) := by
  intro n
  induction n with
  | zero =>
    intro x0 x1 x3 H locs ls hl S hf
    exact nomatch hf
  | succ n ih =>
    intro x0 x1 x3 H locs ls hl S hf
    exact wfX1_magnitude_14 X hr hlk hnm ih x0 x1 x3 H locs ls hl S hf
def fX1_magnitude (a0 : Nat) (h : Hp) : Option (Int64) := gd 1 a0 h (ob (gI 1 a0 1 h) fun v1 => lt ((imin v1 18) - 1) fun z2 => lp (fun _ _ _ => none) (fX1_magnitude_14 h) FU a0 0 z2)
theorem tkX1_magnitude {a0 : Nat} {h : Hp} {r9 : Int64} (e : fX1_magnitude a0 h = some r9) : hK h a0 = 1 := by
  unfold fX1_magnitude at e
  exact (gd_some e).1
theorem cX1_magnitude_m (l : Launch) {E : EE} {A : Nat → Prop} {a0 : Nat} {h : Hp} {r9 : Int64} (hf : fX1_magnitude a0 h = some r9) : Met l yX1_magnitude (wsM yX1_magnitude cX1_magnitude 4 (some .long)) (rmm 8 0 0) (PcE E A h [rv a0]) (Ql E A h r9) 0 0 A := by
  refine met_of (by decide +kernel) (by simp [lg_sl, cat_rv, cat_wv, cat_sv, cat_i, cat_l, cat_a]) (fun p e s m args below meth c ls X hr hlk hnm S hl => ?_)
  have hl : lv_has ls 4 [(0, rv a0)] := by simpa [lv_args, cat_rv, cat_wv, cat_sv, cat_i, cat_l, cat_a] using hl
  generalize hH : s.heap = H at S ⊢
  generalize hlo : ([] : List Loc) = locs at S ⊢
  clear hH hlo
  unfold fX1_magnitude at hf
  obtain ⟨hth, hf⟩ := gd_some hf
  refine lv_lconst (v := 0) X.1 X.2.1 dX1_magnitude_0 (by decide) ?_
  refine lv_lstore_n (i := 1) (lv' := [(1, .long 0), (0, rv a0)]) X.1 X.2.1 dX1_magnitude_1 rfl hl (by decide) (by simp [List.filter, cat_rv, cat_wv, cat_sv]) (fun ls hl => ?_)
  refine g_aload_n X (or_rv _) dX1_magnitude_2 rfl (lv_at hl 1 rfl) ?_
  refine g_gI X S foX1_15 rfl dX1_magnitude_3 hf (fun v1 hf => ?_)
  refine lv_bipush (v := 18) X.1 X.2.1 dX1_magnitude_6 (by decide) ?_
  refine g_min (rest := []) X hl.1 (by decide) (by decide) mlX1_44 u_min_s u_math u_min_c (Nat.zero_le _) (Nat.zero_le _) dX1_magnitude_8 ?_
  refine lv_iconst (v := 1) X.1 X.2.1 dX1_magnitude_11 (by decide) ?_
  refine lv_isub X.1 X.2.1 dX1_magnitude_12 ?_
  refine g_lti hf (fun z2 hf => ?_)
  refine lv_istore_n (i := 3) (lv' := [(3, .int z2), (1, .long 0), (0, rv a0)]) X.1 X.2.1 dX1_magnitude_13 rfl hl (by decide) rfl (fun ls hl => ?_)
  exact wfX1_magnitude_14_l X hr hlk hnm FU _ _ _ _ _ _ (lv_sub hl [2, 1, 0] rfl) S hf
def fX1_value (a0 : Nat) (h : Hp) : Option (Int64) := gd 1 a0 h (ob (gI 1 a0 2 h) fun v1 => if v1 = 0 then ob (fX1_magnitude a0 h) fun v3 => some v3 else ob (fX1_magnitude a0 h) fun v4 => some (-v4))
theorem tkX1_value {a0 : Nat} {h : Hp} {r9 : Int64} (e : fX1_value a0 h = some r9) : hK h a0 = 1 := by
  unfold fX1_value at e
  exact (gd_some e).1
theorem cX1_value_m (l : Launch) {E : EE} {A : Nat → Prop} {a0 : Nat} {h : Hp} {r9 : Int64} (hf : fX1_value a0 h = some r9) : Met l yX1_value (wsM yX1_value cX1_value 1 (some .long)) (rmm 9 0 0) (PcE E A h [rv a0]) (Ql E A h r9) 0 0 A := by
  refine met_of (by decide +kernel) (by simp [lg_sl, cat_rv, cat_wv, cat_sv, cat_i, cat_l, cat_a]) (fun p e s m args below meth c ls X hr hlk hnm S hl => ?_)
  have hl : lv_has ls 1 [(0, rv a0)] := by simpa [lv_args, cat_rv, cat_wv, cat_sv, cat_i, cat_l, cat_a] using hl
  generalize hH : s.heap = H at S ⊢
  generalize hlo : ([] : List Loc) = locs at S ⊢
  clear hH hlo
  unfold fX1_value at hf
  obtain ⟨hth, hf⟩ := gd_some hf
  refine g_aload_n X (or_rv _) dX1_value_0 rfl (lv_at hl 0 rfl) ?_
  refine g_gI X S foX1_19 rfl dX1_value_1 hf (fun v1 hf => ?_)
  refine lv_if_eq (tgt := 15) X.1 X.2.1 dX1_value_4 (by decide) (fun c2 => ?_) (fun c2 => ?_)
  · replace hf := (if_pos c2).symm.trans hf
    refine g_aload_n X (or_rv _) dX1_value_15 rfl (lv_at hl 0 rfl) ?_
    obtain ⟨v3, hc, hf⟩ := ob_some hf
    refine g_cl S (runV (As := []) (rest := []) X S coX1_48 (by decide) (cX1_magnitude_m l hc) (tkX1_magnitude hc) rfl hl.1 (by decide) rfl ⟨Nat.zero_le _, Nat.zero_le _⟩ dX1_value_16) (fun H locs S => ?_)
    cases hf; exact g_rl X S hr hlk dX1_value_19
  · replace hf := (if_neg c2).symm.trans hf
    refine g_aload_n X (or_rv _) dX1_value_7 rfl (lv_at hl 0 rfl) ?_
    obtain ⟨v4, hc, hf⟩ := ob_some hf
    refine g_cl S (runV (As := []) (rest := []) X S coX1_48 (by decide) (cX1_magnitude_m l hc) (tkX1_magnitude hc) rfl hl.1 (by decide) rfl ⟨Nat.zero_le _, Nat.zero_le _⟩ dX1_value_8) (fun H locs S => ?_)
    refine lv_lneg X.1 X.2.1 dX1_value_11 ?_
    refine lv_goto (tgt := 19) X.1 X.2.1 dX1_value_12 (by decide) ?_
    cases hf; exact g_rl X S hr hlk dX1_value_19
def fX1_multiply_75 (k5 : Nat → Nat → Nat → Int32 → Int32 → Hp → Option (Hp)) (x0 : Nat) (x1 : Nat) (x2 : Nat) (x4 : Int32) (x5 : Int32) (h : Hp) : Option (Hp) := ob (gR 1 x0 0 h) fun v1 => ob (qI v1 x4 (irm x5 10) h) fun h => lt (x5 / 10) fun z2 => lt (x4 + 1) fun z3 => k5 x0 x1 x2 z2 z3 h
theorem wfX1_multiply_75 {k5 : Nat → Nat → Nat → Int32 → Int32 → Hp → Option (Hp)} {h9 : Hp} (X : Cx p E A 9 R s m args c cX1_multiply yX1_multiply.cls 7) (hr : meth.sig.returnType = none) (hlk : meth.locks = false) (hnm : meth.name = yX1_multiply.name) (hk5 : ∀ (x0 : Nat) (x1 : Nat) (x2 : Nat) (x3 : Int32) (x4 : Int32) (h : Hp) (H : Heap) (locs : List Loc) (ls : Array Slot), lv_has ls 7 [(0, rv x0), (1, rv x1), (2, rv x2), (3, .int x3), (4, .int x4)] → St E A s h H locs → k5 x0 x1 x2 x3 x4 h = some h9 → W p l e R s m args below meth c H locs 0 0 (MQ below (Qv E A h9) args s 0 0 A) (F0 m 5 ls [])) :
    ∀ (x0 : Nat) (x1 : Nat) (x2 : Nat) (x4 : Int32) (x5 : Int32) (h : Hp) (H : Heap) (locs : List Loc) (ls : Array Slot), lv_has ls 7 [(0, rv x0), (1, rv x1), (2, rv x2), (4, .int x4), (5, .int x5)] → St E A s h H locs → fX1_multiply_75 k5 x0 x1 x2 x4 x5 h = some h9 → W p l e R s m args below meth c H locs 0 0 (MQ below (Qv E A h9) args s 0 0 A) (F0 m 75 ls []) := by
  intro x0 x1 x2 x4 x5 h H locs ls hl S hf
  unfold fX1_multiply_75 at hf
  refine g_aload_n X (or_rv _) dX1_multiply_75 rfl (lv_at hl 0 rfl) ?_
  refine g_gR X S foX1_11 dX1_multiply_76 hf (fun v1 hf => ?_)
  refine lv_iload X.1 X.2.1 dX1_multiply_79 (lv_at hl 3 rfl) ?_
  refine lv_iload X.1 X.2.1 dX1_multiply_81 (lv_at hl 4 rfl) ?_
  refine lv_bipush (v := 10) X.1 X.2.1 dX1_multiply_83 (by decide) ?_
  refine g_irem X (by decide) dX1_multiply_85 ?_
  refine g_qI X S dX1_multiply_86 hf (fun h H locs hm hf S => ?_)
  refine lv_iload X.1 X.2.1 dX1_multiply_87 (lv_at hl 4 rfl) ?_
  refine lv_bipush (v := 10) X.1 X.2.1 dX1_multiply_89 (by decide) ?_
  refine g_idiv X (by decide) dX1_multiply_91 ?_
  refine g_lti hf (fun z2 hf => ?_)
  refine lv_istore_n (i := 3) (lv' := [(3, .int z2), (0, rv x0), (1, rv x1), (2, rv x2), (4, .int x4), (5, .int x5)]) X.1 X.2.1 dX1_multiply_92 rfl hl (by decide) (by simp [List.filter, cat_rv, cat_wv, cat_sv]) (fun ls hl => ?_)
  obtain ⟨z3, ez3, hf⟩ := lt_some hf
  refine lv_iinc (v := z3) (lv' := [(4, .int z3), (3, .int z2), (0, rv x0), (1, rv x1), (2, rv x2), (5, .int x5)]) X.1 X.2.1 dX1_multiply_93 hl (k := 4) rfl (by rw [← ez3]; rfl) (by decide) rfl (fun ls hl => ?_)
  refine lv_goto (tgt := 5) X.1 X.2.1 dX1_multiply_96 (by decide) ?_
  exact hk5 _ _ _ _ _ _ _ _ _ (lv_sub hl [2, 3, 4, 1, 0] rfl) S hf
def fX1_multiply_30 (k5 : Nat → Nat → Nat → Int32 → Int32 → Hp → Option (Hp)) (k30 : Nat → Nat → Nat → Int32 → Int32 → Int32 → Hp → Option (Hp)) (x0 : Nat) (x1 : Nat) (x2 : Nat) (x4 : Int32) (x5 : Int32) (x6 : Int32) (h : Hp) : Option (Hp) := if x4 < x6 then fX1_multiply_75 k5 x0 x1 x2 x4 x5 h else ob (gI 1 x1 1 h) fun v2 => if v2 ≤ x6 then fX1_multiply_75 k5 x0 x1 x2 x4 x5 h else ob (gR 1 x1 0 h) fun v4 => ob (aI v4 x6 h) fun v5 => ob (gR 1 x2 0 h) fun v6 => ob (aI v6 (x4 - x6) h) fun v7 => lt (x5 + (v5 * v7)) fun z8 => lt (x6 + 1) fun z9 => k30 x0 x1 x2 x4 z8 z9 h
theorem wfX1_multiply_30 {k5 : Nat → Nat → Nat → Int32 → Int32 → Hp → Option (Hp)} {k30 : Nat → Nat → Nat → Int32 → Int32 → Int32 → Hp → Option (Hp)} {h9 : Hp} (X : Cx p E A 9 R s m args c cX1_multiply yX1_multiply.cls 7) (hr : meth.sig.returnType = none) (hlk : meth.locks = false) (hnm : meth.name = yX1_multiply.name) (hk5 : ∀ (x0 : Nat) (x1 : Nat) (x2 : Nat) (x3 : Int32) (x4 : Int32) (h : Hp) (H : Heap) (locs : List Loc) (ls : Array Slot), lv_has ls 7 [(0, rv x0), (1, rv x1), (2, rv x2), (3, .int x3), (4, .int x4)] → St E A s h H locs → k5 x0 x1 x2 x3 x4 h = some h9 → W p l e R s m args below meth c H locs 0 0 (MQ below (Qv E A h9) args s 0 0 A) (F0 m 5 ls [])) (hk30 : ∀ (x0 : Nat) (x1 : Nat) (x2 : Nat) (x4 : Int32) (x5 : Int32) (x6 : Int32) (h : Hp) (H : Heap) (locs : List Loc) (ls : Array Slot), lv_has ls 7 [(0, rv x0), (1, rv x1), (2, rv x2), (4, .int x4), (5, .int x5), (6, .int x6)] → St E A s h H locs → k30 x0 x1 x2 x4 x5 x6 h = some h9 → W p l e R s m args below meth c H locs 0 0 (MQ below (Qv E A h9) args s 0 0 A) (F0 m 30 ls [])) :
    ∀ (x0 : Nat) (x1 : Nat) (x2 : Nat) (x4 : Int32) (x5 : Int32) (x6 : Int32) (h : Hp) (H : Heap) (locs : List Loc) (ls : Array Slot), lv_has ls 7 [(0, rv x0), (1, rv x1), (2, rv x2), (4, .int x4), (5, .int x5), (6, .int x6)] → St E A s h H locs → fX1_multiply_30 k5 k30 x0 x1 x2 x4 x5 x6 h = some h9 → W p l e R s m args below meth c H locs 0 0 (MQ below (Qv E A h9) args s 0 0 A) (F0 m 30 ls []) := by
  intro x0 x1 x2 x4 x5 x6 h H locs ls hl S hf
  unfold fX1_multiply_30 at hf
  refine lv_iload X.1 X.2.1 dX1_multiply_30 (lv_at hl 5 rfl) ?_
  refine lv_iload X.1 X.2.1 dX1_multiply_32 (lv_at hl 3 rfl) ?_
  refine lv_icmp_gt (tgt := 75) X.1 X.2.1 dX1_multiply_34 (by decide) (fun c1 => ?_) (fun c1 => ?_)
  · replace hf := (if_pos c1).symm.trans hf
    exact wfX1_multiply_75 X hr hlk hnm hk5 _ _ _ _ _ _ _ _ _ (lv_sub hl [0, 1, 2, 3, 4] rfl) S hf
  · replace hf := (if_neg c1).symm.trans hf
    refine lv_iload X.1 X.2.1 dX1_multiply_37 (lv_at hl 5 rfl) ?_
    refine g_aload_n X (or_rv _) dX1_multiply_39 rfl (lv_at hl 1 rfl) ?_
    refine g_gI X S foX1_15 rfl dX1_multiply_40 hf (fun v2 hf => ?_)
    refine lv_icmp_ge (tgt := 75) X.1 X.2.1 dX1_multiply_43 (by decide) (fun c3 => ?_) (fun c3 => ?_)
    · replace hf := (if_pos c3).symm.trans hf
      exact wfX1_multiply_75 X hr hlk hnm hk5 _ _ _ _ _ _ _ _ _ (lv_sub hl [0, 1, 2, 3, 4] rfl) S hf
    · replace hf := (if_neg c3).symm.trans hf
      refine lv_iload X.1 X.2.1 dX1_multiply_46 (lv_at hl 4 rfl) ?_
      refine g_aload_n X (or_rv _) dX1_multiply_48 rfl (lv_at hl 1 rfl) ?_
      refine g_gR X S foX1_11 dX1_multiply_49 hf (fun v4 hf => ?_)
      refine lv_iload X.1 X.2.1 dX1_multiply_52 (lv_at hl 5 rfl) ?_
      refine g_aI X S dX1_multiply_54 hf (fun v5 hf => ?_)
      refine g_aload_n X (or_rv _) dX1_multiply_55 rfl (lv_at hl 2 rfl) ?_
      refine g_gR X S foX1_11 dX1_multiply_56 hf (fun v6 hf => ?_)
      refine lv_iload X.1 X.2.1 dX1_multiply_59 (lv_at hl 3 rfl) ?_
      refine lv_iload X.1 X.2.1 dX1_multiply_61 (lv_at hl 5 rfl) ?_
      refine lv_isub X.1 X.2.1 dX1_multiply_63 ?_
      refine g_aI X S dX1_multiply_64 hf (fun v7 hf => ?_)
      refine lv_imul X.1 X.2.1 dX1_multiply_65 ?_
      refine lv_iadd X.1 X.2.1 dX1_multiply_66 ?_
      refine g_lti hf (fun z8 hf => ?_)
      refine lv_istore (lv' := [(5, .int z8), (0, rv x0), (1, rv x1), (2, rv x2), (4, .int x4), (6, .int x6)]) X.1 X.2.1 dX1_multiply_67 hl (by decide) rfl (fun ls hl => ?_)
      obtain ⟨z9, ez9, hf⟩ := lt_some hf
      refine lv_iinc (v := z9) (lv' := [(6, .int z9), (5, .int z8), (0, rv x0), (1, rv x1), (2, rv x2), (4, .int x4)]) X.1 X.2.1 dX1_multiply_69 hl (k := 5) rfl (by rw [← ez9]; rfl) (by decide) rfl (fun ls hl => ?_)
      refine lv_goto (tgt := 30) X.1 X.2.1 dX1_multiply_72 (by decide) ?_
      exact hk30 _ _ _ _ _ _ _ _ _ _ (lv_sub hl [2, 3, 4, 5, 1, 0] rfl) S hf
theorem wfX1_multiply_30_l {k5 : Nat → Nat → Nat → Int32 → Int32 → Hp → Option (Hp)} {h9 : Hp} (X : Cx p E A 9 R s m args c cX1_multiply yX1_multiply.cls 7) (hr : meth.sig.returnType = none) (hlk : meth.locks = false) (hnm : meth.name = yX1_multiply.name) (hk5 : ∀ (x0 : Nat) (x1 : Nat) (x2 : Nat) (x3 : Int32) (x4 : Int32) (h : Hp) (H : Heap) (locs : List Loc) (ls : Array Slot), lv_has ls 7 [(0, rv x0), (1, rv x1), (2, rv x2), (3, .int x3), (4, .int x4)] → St E A s h H locs → k5 x0 x1 x2 x3 x4 h = some h9 → W p l e R s m args below meth c H locs 0 0 (MQ below (Qv E A h9) args s 0 0 A) (F0 m 5 ls [])) :
    ∀ (n : Nat) (x0 : Nat) (x1 : Nat) (x2 : Nat) (x4 : Int32) (x5 : Int32) (x6 : Int32) (h : Hp) (H : Heap) (locs : List Loc) (ls : Array Slot), lv_has ls 7 [(0, rv x0), (1, rv x1), (2, rv x2), (4, .int x4), (5, .int x5), (6, .int x6)] → St E A s h H locs → lp (fun _ _ _ _ _ _ _ => none) (fX1_multiply_30 k5) n x0 x1 x2 x4 x5 x6 h = some h9 → W p l e R s m args below meth c H locs 0 0 (MQ below (Qv E A h9) args s 0 0 A) (F0 m 30 ls []) := by
  intro n
  induction n with
  | zero =>
    intro x0 x1 x2 x4 x5 x6 h H locs ls hl S hf
    exact nomatch hf
  | succ n ih =>
    intro x0 x1 x2 x4 x5 x6 h H locs ls hl S hf
    exact wfX1_multiply_30 X hr hlk hnm hk5 ih x0 x1 x2 x4 x5 x6 h H locs ls hl S hf
def fX1_multiply_116 (x0 : Nat) (y0 : Int32) (y1 : Nat) (h : Hp) : Option (Hp) := ob (pZ 1 y1 2 y0 h) fun h => ob (fX1_measure x0 h) fun h => some h
theorem wfX1_multiply_116 {h9 : Hp} (X : Cx p E A 9 R s m args c cX1_multiply yX1_multiply.cls 7) (hr : meth.sig.returnType = none) (hlk : meth.locks = false) (hnm : meth.name = yX1_multiply.name) :
    ∀ (x0 : Nat) (y0 : Int32) (y1 : Nat) (h : Hp) (H : Heap) (locs : List Loc) (ls : Array Slot), lv_has ls 7 [(0, rv x0)] → St E A s h H locs → fX1_multiply_116 x0 y0 y1 h = some h9 → W p l e R s m args below meth c H locs 0 0 (MQ below (Qv E A h9) args s 0 0 A) (F0 m 116 ls [.int y0, rv y1]) := by
  intro x0 y0 y1 h H locs ls hl S hf
  unfold fX1_multiply_116 at hf
  refine g_pZ X S fpX1_19 (Or.inl rfl) dX1_multiply_116 hf (fun h H locs hm hf S => ?_)
  refine g_aload_n X (or_rv _) dX1_multiply_119 rfl (lv_at hl 0 rfl) ?_
  obtain ⟨h, hc, hf⟩ := ob_some hf
  refine g_cv S (runV (As := []) (rest := []) X S coX1_33 (by decide) (cX1_measure_m l hc) (tkX1_measure hc) rfl hl.1 (by decide) rfl ⟨Nat.zero_le _, Nat.zero_le _⟩ dX1_multiply_120) (fun H locs S => ?_)
  cases hf; exact g_rv X S hr hlk dX1_multiply_123
def fX1_multiply_5 (k5 : Nat → Nat → Nat → Int32 → Int32 → Hp → Option (Hp)) (x0 : Nat) (x1 : Nat) (x2 : Nat) (x3 : Int32) (x4 : Int32) (h : Hp) : Option (Hp) := if 64 ≤ x4 then ob (gI 1 x1 2 h) fun v2 => ob (gI 1 x2 2 h) fun v3 => if v2 = v3 then fX1_multiply_116 x0 0 x0 h else fX1_multiply_116 x0 1 x0 h else ob (gI 1 x2 1 h) fun v5 => lt (imax 0 ((x4 - v5) + 1)) fun z6 => lp (fun _ _ _ _ _ _ _ => none) (fX1_multiply_30 k5) FU x0 x1 x2 x4 x3 z6 h
theorem wfX1_multiply_5 {k5 : Nat → Nat → Nat → Int32 → Int32 → Hp → Option (Hp)} {h9 : Hp} (X : Cx p E A 9 R s m args c cX1_multiply yX1_multiply.cls 7) (hr : meth.sig.returnType = none) (hlk : meth.locks = false) (hnm : meth.name = yX1_multiply.name) (hk5 : ∀ (x0 : Nat) (x1 : Nat) (x2 : Nat) (x3 : Int32) (x4 : Int32) (h : Hp) (H : Heap) (locs : List Loc) (ls : Array Slot), lv_has ls 7 [(0, rv x0), (1, rv x1), (2, rv x2), (3, .int x3), (4, .int x4)] → St E A s h H locs → k5 x0 x1 x2 x3 x4 h = some h9 → W p l e R s m args below meth c H locs 0 0 (MQ below (Qv E A h9) args s 0 0 A) (F0 m 5 ls [])) :
    ∀ (x0 : Nat) (x1 : Nat) (x2 : Nat) (x3 : Int32) (x4 : Int32) (h : Hp) (H : Heap) (locs : List Loc) (ls : Array Slot), lv_has ls 7 [(0, rv x0), (1, rv x1), (2, rv x2), (3, .int x3), (4, .int x4)] → St E A s h H locs → fX1_multiply_5 k5 x0 x1 x2 x3 x4 h = some h9 → W p l e R s m args below meth c H locs 0 0 (MQ below (Qv E A h9) args s 0 0 A) (F0 m 5 ls []) := by
  intro x0 x1 x2 x3 x4 h H locs ls hl S hf
  unfold fX1_multiply_5 at hf
  refine lv_iload X.1 X.2.1 dX1_multiply_5 (lv_at hl 4 rfl) ?_
  refine lv_bipush (v := 64) X.1 X.2.1 dX1_multiply_7 (by decide) ?_
  refine lv_icmp_ge (tgt := 99) X.1 X.2.1 dX1_multiply_9 (by decide) (fun c1 => ?_) (fun c1 => ?_)
  · replace hf := (if_pos c1).symm.trans hf
    refine g_aload_n X (or_rv _) dX1_multiply_99 rfl (lv_at hl 0 rfl) ?_
    refine g_aload_n X (or_rv _) dX1_multiply_100 rfl (lv_at hl 1 rfl) ?_
    refine g_gI X S foX1_19 rfl dX1_multiply_101 hf (fun v2 hf => ?_)
    refine g_aload_n X (or_rv _) dX1_multiply_104 rfl (lv_at hl 2 rfl) ?_
    refine g_gI X S foX1_19 rfl dX1_multiply_105 hf (fun v3 hf => ?_)
    refine lv_icmp_eq (tgt := 115) X.1 X.2.1 dX1_multiply_108 (by decide) (fun c4 => ?_) (fun c4 => ?_)
    · replace hf := (if_pos c4).symm.trans hf
      refine lv_iconst (v := 0) X.1 X.2.1 dX1_multiply_115 (by decide) ?_
      exact wfX1_multiply_116 X hr hlk hnm _ _ _ _ _ _ _ (lv_sub hl [0] rfl) S hf
    · replace hf := (if_neg c4).symm.trans hf
      refine lv_iconst (v := 1) X.1 X.2.1 dX1_multiply_111 (by decide) ?_
      refine lv_goto (tgt := 116) X.1 X.2.1 dX1_multiply_112 (by decide) ?_
      exact wfX1_multiply_116 X hr hlk hnm _ _ _ _ _ _ _ (lv_sub hl [0] rfl) S hf
  · replace hf := (if_neg c1).symm.trans hf
    refine lv_iload_n X.1 X.2.1 dX1_multiply_12 rfl (lv_at hl 3 rfl) ?_
    refine lv_istore (lv' := [(5, .int x3), (0, rv x0), (1, rv x1), (2, rv x2), (3, .int x3), (4, .int x4)]) X.1 X.2.1 dX1_multiply_13 hl (by decide) rfl (fun ls hl => ?_)
    refine lv_iconst (v := 0) X.1 X.2.1 dX1_multiply_15 (by decide) ?_
    refine lv_iload X.1 X.2.1 dX1_multiply_16 (lv_at hl 5 rfl) ?_
    refine g_aload_n X (or_rv _) dX1_multiply_18 rfl (lv_at hl 3 rfl) ?_
    refine g_gI X S foX1_15 rfl dX1_multiply_19 hf (fun v5 hf => ?_)
    refine lv_isub X.1 X.2.1 dX1_multiply_22 ?_
    refine lv_iconst (v := 1) X.1 X.2.1 dX1_multiply_23 (by decide) ?_
    refine lv_iadd X.1 X.2.1 dX1_multiply_24 ?_
    refine g_max (rest := []) X hl.1 (by decide) (by decide) mlX1_66 u_max_s u_math u_max_c (Nat.zero_le _) (Nat.zero_le _) dX1_multiply_25 ?_
    refine g_lti hf (fun z6 hf => ?_)
    refine lv_istore (lv' := [(6, .int z6), (5, .int x3), (0, rv x0), (1, rv x1), (2, rv x2), (3, .int x3), (4, .int x4)]) X.1 X.2.1 dX1_multiply_28 hl (by decide) rfl (fun ls hl => ?_)
    exact wfX1_multiply_30_l X hr hlk hnm hk5 FU _ _ _ _ _ _ _ _ _ _ (lv_sub hl [2, 3, 4, 6, 1, 0] rfl) S hf
theorem wfX1_multiply_5_l {h9 : Hp} (X : Cx p E A 9 R s m args c cX1_multiply yX1_multiply.cls 7) (hr : meth.sig.returnType = none) (hlk : meth.locks = false) (hnm : meth.name = yX1_multiply.name) :
    ∀ (n : Nat) (x0 : Nat) (x1 : Nat) (x2 : Nat) (x3 : Int32) (x4 : Int32) (h : Hp) (H : Heap) (locs : List Loc) (ls : Array Slot), lv_has ls 7 [(0, rv x0), (1, rv x1), (2, rv x2), (3, .int x3), (4, .int x4)] → St E A s h H locs → lp (fun _ _ _ _ _ _ => none) (fX1_multiply_5) n x0 x1 x2 x3 x4 h = some h9 → W p l e R s m args below meth c H locs 0 0 (MQ below (Qv E A h9) args s 0 0 A) (F0 m 5 ls []) := by
  intro n
  induction n with
  | zero =>
    intro x0 x1 x2 x3 x4 h H locs ls hl S hf
    exact nomatch hf
  | succ n ih =>
    intro x0 x1 x2 x3 x4 h H locs ls hl S hf
    exact wfX1_multiply_5 X hr hlk hnm ih x0 x1 x2 x3 x4 h H locs ls hl S hf
def fX1_multiply (a0 : Nat) (a1 : Nat) (a2 : Nat) (h : Hp) : Option (Hp) := gd 1 a0 h (lp (fun _ _ _ _ _ _ => none) (fX1_multiply_5) FU a0 a1 a2 0 0 h)
theorem tkX1_multiply {a0 : Nat} {a1 : Nat} {a2 : Nat} {h : Hp} {r9 : Hp} (e : fX1_multiply a0 a1 a2 h = some r9) : hK h a0 = 1 := by
  unfold fX1_multiply at e
  exact (gd_some e).1
theorem cX1_multiply_m (l : Launch) {E : EE} {A : Nat → Prop} {a0 : Nat} {a1 : Nat} {a2 : Nat} {h : Hp} {h9 : Hp} (hf : fX1_multiply a0 a1 a2 h = some h9) : Met l yX1_multiply (wsM yX1_multiply cX1_multiply 7 none) (rmm 9 0 0) (PcE E A h [rv a0, rv a1, rv a2]) (Qv E A h9) 0 0 A := by
  refine met_of (by decide +kernel) (by simp [lg_sl, cat_rv, cat_wv, cat_sv, cat_i, cat_l, cat_a]) (fun p e s m args below meth c ls X hr hlk hnm S hl => ?_)
  have hl : lv_has ls 7 [(0, rv a0), (1, rv a1), (2, rv a2)] := by simpa [lv_args, cat_rv, cat_wv, cat_sv, cat_i, cat_l, cat_a] using hl
  generalize hH : s.heap = H at S ⊢
  generalize hlo : ([] : List Loc) = locs at S ⊢
  clear hH hlo
  unfold fX1_multiply at hf
  obtain ⟨hth, hf⟩ := gd_some hf
  refine lv_iconst (v := 0) X.1 X.2.1 dX1_multiply_0 (by decide) ?_
  refine lv_istore_n (i := 3) (lv' := [(3, .int 0), (0, rv a0), (1, rv a1), (2, rv a2)]) X.1 X.2.1 dX1_multiply_1 rfl hl (by decide) (by simp [List.filter, cat_rv, cat_wv, cat_sv]) (fun ls hl => ?_)
  refine lv_iconst (v := 0) X.1 X.2.1 dX1_multiply_2 (by decide) ?_
  refine lv_istore (lv' := [(4, .int 0), (3, .int 0), (0, rv a0), (1, rv a1), (2, rv a2)]) X.1 X.2.1 dX1_multiply_3 hl (by decide) rfl (fun ls hl => ?_)
  exact wfX1_multiply_5_l X hr hlk hnm FU _ _ _ _ _ _ _ _ _ (lv_sub hl [2, 3, 4, 1, 0] rfl) S hf
def fX1_addDigits_43 (k5 : Nat → Nat → Nat → Int32 → Int32 → Hp → Option (Hp)) (x0 : Nat) (x1 : Nat) (x2 : Nat) (x4 : Int32) (x5 : Int32) (y0 : Int32) (h : Hp) : Option (Hp) := ob (gR 1 x0 0 h) fun v1 => ob (qI v1 x4 (x5 - (10 * y0)) h) fun h => lt (x4 + 1) fun z2 => k5 x0 x1 x2 y0 z2 h
theorem wfX1_addDigits_43 {k5 : Nat → Nat → Nat → Int32 → Int32 → Hp → Option (Hp)} {h9 : Hp} (X : Cx p E A 8 R s m args c cX1_addDigits yX1_addDigits.cls 6) (hr : meth.sig.returnType = none) (hlk : meth.locks = false) (hnm : meth.name = yX1_addDigits.name) (hk5 : ∀ (x0 : Nat) (x1 : Nat) (x2 : Nat) (x3 : Int32) (x4 : Int32) (h : Hp) (H : Heap) (locs : List Loc) (ls : Array Slot), lv_has ls 6 [(0, rv x0), (1, rv x1), (2, rv x2), (3, .int x3), (4, .int x4)] → St E A s h H locs → k5 x0 x1 x2 x3 x4 h = some h9 → W p l e R s m args below meth c H locs 0 0 (MQ below (Qv E A h9) args s 0 0 A) (F0 m 5 ls [])) :
    ∀ (x0 : Nat) (x1 : Nat) (x2 : Nat) (x4 : Int32) (x5 : Int32) (y0 : Int32) (h : Hp) (H : Heap) (locs : List Loc) (ls : Array Slot), lv_has ls 6 [(0, rv x0), (1, rv x1), (2, rv x2), (4, .int x4), (5, .int x5)] → St E A s h H locs → fX1_addDigits_43 k5 x0 x1 x2 x4 x5 y0 h = some h9 → W p l e R s m args below meth c H locs 0 0 (MQ below (Qv E A h9) args s 0 0 A) (F0 m 43 ls [.int y0]) := by
  intro x0 x1 x2 x4 x5 y0 h H locs ls hl S hf
  unfold fX1_addDigits_43 at hf
  refine lv_istore_n (i := 3) (lv' := [(3, .int y0), (0, rv x0), (1, rv x1), (2, rv x2), (4, .int x4), (5, .int x5)]) X.1 X.2.1 dX1_addDigits_43 rfl hl (by decide) (by simp [List.filter, cat_rv, cat_wv, cat_sv]) (fun ls hl => ?_)
  refine g_aload_n X (or_rv _) dX1_addDigits_44 rfl (lv_at hl 1 rfl) ?_
  refine g_gR X S foX1_11 dX1_addDigits_45 hf (fun v1 hf => ?_)
  refine lv_iload X.1 X.2.1 dX1_addDigits_48 (lv_at hl 4 rfl) ?_
  refine lv_iload X.1 X.2.1 dX1_addDigits_50 (lv_at hl 5 rfl) ?_
  refine lv_bipush (v := 10) X.1 X.2.1 dX1_addDigits_52 (by decide) ?_
  refine lv_iload_n X.1 X.2.1 dX1_addDigits_54 rfl (lv_at hl 0 rfl) ?_
  refine lv_imul X.1 X.2.1 dX1_addDigits_55 ?_
  refine lv_isub X.1 X.2.1 dX1_addDigits_56 ?_
  refine g_qI X S dX1_addDigits_57 hf (fun h H locs hm hf S => ?_)
  obtain ⟨z2, ez2, hf⟩ := lt_some hf
  refine lv_iinc (v := z2) (lv' := [(4, .int z2), (3, .int y0), (0, rv x0), (1, rv x1), (2, rv x2), (5, .int x5)]) X.1 X.2.1 dX1_addDigits_58 hl (k := 4) rfl (by rw [← ez2]; rfl) (by decide) rfl (fun ls hl => ?_)
  refine lv_goto (tgt := 5) X.1 X.2.1 dX1_addDigits_61 (by decide) ?_
  exact hk5 _ _ _ _ _ _ _ _ _ (lv_sub hl [2, 3, 4, 1, 0] rfl) S hf
def fX1_addDigits_5 (k5 : Nat → Nat → Nat → Int32 → Int32 → Hp → Option (Hp)) (x0 : Nat) (x1 : Nat) (x2 : Nat) (x3 : Int32) (x4 : Int32) (h : Hp) : Option (Hp) := if 64 ≤ x4 then some h else ob (gR 1 x1 0 h) fun v2 => ob (aI v2 x4 h) fun v3 => ob (gR 1 x2 0 h) fun v4 => ob (aI v4 x4 h) fun v5 => lt ((v3 + v5) + x3) fun z6 => if z6 ≤ 9 then fX1_addDigits_43 k5 x0 x1 x2 x4 z6 0 h else fX1_addDigits_43 k5 x0 x1 x2 x4 z6 1 h
theorem wfX1_addDigits_5 {k5 : Nat → Nat → Nat → Int32 → Int32 → Hp → Option (Hp)} {h9 : Hp} (X : Cx p E A 8 R s m args c cX1_addDigits yX1_addDigits.cls 6) (hr : meth.sig.returnType = none) (hlk : meth.locks = false) (hnm : meth.name = yX1_addDigits.name) (hk5 : ∀ (x0 : Nat) (x1 : Nat) (x2 : Nat) (x3 : Int32) (x4 : Int32) (h : Hp) (H : Heap) (locs : List Loc) (ls : Array Slot), lv_has ls 6 [(0, rv x0), (1, rv x1), (2, rv x2), (3, .int x3), (4, .int x4)] → St E A s h H locs → k5 x0 x1 x2 x3 x4 h = some h9 → W p l e R s m args below meth c H locs 0 0 (MQ below (Qv E A h9) args s 0 0 A) (F0 m 5 ls [])) :
    ∀ (x0 : Nat) (x1 : Nat) (x2 : Nat) (x3 : Int32) (x4 : Int32) (h : Hp) (H : Heap) (locs : List Loc) (ls : Array Slot), lv_has ls 6 [(0, rv x0), (1, rv x1), (2, rv x2), (3, .int x3), (4, .int x4)] → St E A s h H locs → fX1_addDigits_5 k5 x0 x1 x2 x3 x4 h = some h9 → W p l e R s m args below meth c H locs 0 0 (MQ below (Qv E A h9) args s 0 0 A) (F0 m 5 ls []) := by
  intro x0 x1 x2 x3 x4 h H locs ls hl S hf
  unfold fX1_addDigits_5 at hf
  refine lv_iload X.1 X.2.1 dX1_addDigits_5 (lv_at hl 4 rfl) ?_
  refine lv_bipush (v := 64) X.1 X.2.1 dX1_addDigits_7 (by decide) ?_
  refine lv_icmp_ge (tgt := 64) X.1 X.2.1 dX1_addDigits_9 (by decide) (fun c1 => ?_) (fun c1 => ?_)
  · replace hf := (if_pos c1).symm.trans hf
    cases hf; exact g_rv X S hr hlk dX1_addDigits_64
  · replace hf := (if_neg c1).symm.trans hf
    refine g_aload_n X (or_rv _) dX1_addDigits_12 rfl (lv_at hl 1 rfl) ?_
    refine g_gR X S foX1_11 dX1_addDigits_13 hf (fun v2 hf => ?_)
    refine lv_iload X.1 X.2.1 dX1_addDigits_16 (lv_at hl 4 rfl) ?_
    refine g_aI X S dX1_addDigits_18 hf (fun v3 hf => ?_)
    refine g_aload_n X (or_rv _) dX1_addDigits_19 rfl (lv_at hl 2 rfl) ?_
    refine g_gR X S foX1_11 dX1_addDigits_20 hf (fun v4 hf => ?_)
    refine lv_iload X.1 X.2.1 dX1_addDigits_23 (lv_at hl 4 rfl) ?_
    refine g_aI X S dX1_addDigits_25 hf (fun v5 hf => ?_)
    refine lv_iadd X.1 X.2.1 dX1_addDigits_26 ?_
    refine lv_iload_n X.1 X.2.1 dX1_addDigits_27 rfl (lv_at hl 3 rfl) ?_
    refine lv_iadd X.1 X.2.1 dX1_addDigits_28 ?_
    refine g_lti hf (fun z6 hf => ?_)
    refine lv_istore (lv' := [(5, .int z6), (0, rv x0), (1, rv x1), (2, rv x2), (3, .int x3), (4, .int x4)]) X.1 X.2.1 dX1_addDigits_29 hl (by decide) rfl (fun ls hl => ?_)
    refine lv_iload X.1 X.2.1 dX1_addDigits_31 (lv_at hl 0 rfl) ?_
    refine lv_bipush (v := 9) X.1 X.2.1 dX1_addDigits_33 (by decide) ?_
    refine lv_icmp_le (tgt := 42) X.1 X.2.1 dX1_addDigits_35 (by decide) (fun c7 => ?_) (fun c7 => ?_)
    · replace hf := (if_pos c7).symm.trans hf
      refine lv_iconst (v := 0) X.1 X.2.1 dX1_addDigits_42 (by decide) ?_
      exact wfX1_addDigits_43 X hr hlk hnm hk5 _ _ _ _ _ _ _ _ _ _ (lv_sub hl [1, 2, 3, 5, 0] rfl) S hf
    · replace hf := (if_neg c7).symm.trans hf
      refine lv_iconst (v := 1) X.1 X.2.1 dX1_addDigits_38 (by decide) ?_
      refine lv_goto (tgt := 43) X.1 X.2.1 dX1_addDigits_39 (by decide) ?_
      exact wfX1_addDigits_43 X hr hlk hnm hk5 _ _ _ _ _ _ _ _ _ _ (lv_sub hl [1, 2, 3, 5, 0] rfl) S hf
theorem wfX1_addDigits_5_l {h9 : Hp} (X : Cx p E A 8 R s m args c cX1_addDigits yX1_addDigits.cls 6) (hr : meth.sig.returnType = none) (hlk : meth.locks = false) (hnm : meth.name = yX1_addDigits.name) :
    ∀ (n : Nat) (x0 : Nat) (x1 : Nat) (x2 : Nat) (x3 : Int32) (x4 : Int32) (h : Hp) (H : Heap) (locs : List Loc) (ls : Array Slot), lv_has ls 6 [(0, rv x0), (1, rv x1), (2, rv x2), (3, .int x3), (4, .int x4)] → St E A s h H locs → lp (fun _ _ _ _ _ _ => none) (fX1_addDigits_5) n x0 x1 x2 x3 x4 h = some h9 → W p l e R s m args below meth c H locs 0 0 (MQ below (Qv E A h9) args s 0 0 A) (F0 m 5 ls []) := by
  intro n
  induction n with
  | zero =>
    intro x0 x1 x2 x3 x4 h H locs ls hl S hf
    exact nomatch hf
  | succ n ih =>
    intro x0 x1 x2 x3 x4 h H locs ls hl S hf
    exact wfX1_addDigits_5 X hr hlk hnm ih x0 x1 x2 x3 x4 h H locs ls hl S hf
def fX1_addDigits (a0 : Nat) (a1 : Nat) (a2 : Nat) (h : Hp) : Option (Hp) := gd 1 a0 h (lp (fun _ _ _ _ _ _ => none) (fX1_addDigits_5) FU a0 a1 a2 0 0 h)
theorem tkX1_addDigits {a0 : Nat} {a1 : Nat} {a2 : Nat} {h : Hp} {r9 : Hp} (e : fX1_addDigits a0 a1 a2 h = some r9) : hK h a0 = 1 := by
  unfold fX1_addDigits at e
  exact (gd_some e).1
theorem cX1_addDigits_m (l : Launch) {E : EE} {A : Nat → Prop} {a0 : Nat} {a1 : Nat} {a2 : Nat} {h : Hp} {h9 : Hp} (hf : fX1_addDigits a0 a1 a2 h = some h9) : Met l yX1_addDigits (wsM yX1_addDigits cX1_addDigits 6 none) (rmm 8 0 0) (PcE E A h [rv a0, rv a1, rv a2]) (Qv E A h9) 0 0 A := by
  refine met_of (by decide +kernel) (by simp [lg_sl, cat_rv, cat_wv, cat_sv, cat_i, cat_l, cat_a]) (fun p e s m args below meth c ls X hr hlk hnm S hl => ?_)
  have hl : lv_has ls 6 [(0, rv a0), (1, rv a1), (2, rv a2)] := by simpa [lv_args, cat_rv, cat_wv, cat_sv, cat_i, cat_l, cat_a] using hl
  generalize hH : s.heap = H at S ⊢
  generalize hlo : ([] : List Loc) = locs at S ⊢
  clear hH hlo
  unfold fX1_addDigits at hf
  obtain ⟨hth, hf⟩ := gd_some hf
  refine lv_iconst (v := 0) X.1 X.2.1 dX1_addDigits_0 (by decide) ?_
  refine lv_istore_n (i := 3) (lv' := [(3, .int 0), (0, rv a0), (1, rv a1), (2, rv a2)]) X.1 X.2.1 dX1_addDigits_1 rfl hl (by decide) (by simp [List.filter, cat_rv, cat_wv, cat_sv]) (fun ls hl => ?_)
  refine lv_iconst (v := 0) X.1 X.2.1 dX1_addDigits_2 (by decide) ?_
  refine lv_istore (lv' := [(4, .int 0), (3, .int 0), (0, rv a0), (1, rv a1), (2, rv a2)]) X.1 X.2.1 dX1_addDigits_3 hl (by decide) rfl (fun ls hl => ?_)
  exact wfX1_addDigits_5_l X hr hlk hnm FU _ _ _ _ _ _ _ _ _ (lv_sub hl [2, 3, 4, 1, 0] rfl) S hf
def fX1_isLess_3 (h : Hp) (k3 : Nat → Nat → Int32 → Option (Int32)) (x0 : Nat) (x1 : Nat) (x2 : Int32) : Option (Int32) := if x2 < 0 then some 0 else ob (gR 1 x0 0 h) fun v2 => ob (aI v2 x2 h) fun v3 => ob (gR 1 x1 0 h) fun v4 => ob (aI v4 x2 h) fun v5 => if v3 = v5 then lt (x2 + (-1)) fun z7 => k3 x0 x1 z7 else ob (gR 1 x0 0 h) fun v8 => ob (aI v8 x2 h) fun v9 => ob (gR 1 x1 0 h) fun v10 => ob (aI v10 x2 h) fun v11 => if v11 ≤ v9 then some 0 else some 1
theorem wfX1_isLess_3 {h : Hp} {k3 : Nat → Nat → Int32 → Option (Int32)} {r9 : Int32} (X : Cx p E A 8 R s m args c cX1_isLess yX1_isLess.cls 3) (hr : meth.sig.returnType = (some .boolean)) (hlk : meth.locks = false) (hnm : meth.name = yX1_isLess.name) (hk3 : ∀ (x0 : Nat) (x1 : Nat) (x2 : Int32) (H : Heap) (locs : List Loc) (ls : Array Slot), lv_has ls 3 [(0, rv x0), (1, rv x1), (2, .int x2)] → St E A s h H locs → k3 x0 x1 x2 = some r9 → W p l e R s m args below meth c H locs 0 0 (MQ below (Qi E A h r9) args s 0 0 A) (F0 m 3 ls [])) :
    ∀ (x0 : Nat) (x1 : Nat) (x2 : Int32) (H : Heap) (locs : List Loc) (ls : Array Slot), lv_has ls 3 [(0, rv x0), (1, rv x1), (2, .int x2)] → St E A s h H locs → fX1_isLess_3 h k3 x0 x1 x2 = some r9 → W p l e R s m args below meth c H locs 0 0 (MQ below (Qi E A h r9) args s 0 0 A) (F0 m 3 ls []) := by
  intro x0 x1 x2 H locs ls hl S hf
  unfold fX1_isLess_3 at hf
  refine lv_iload_n X.1 X.2.1 dX1_isLess_3 rfl (lv_at hl 2 rfl) ?_
  refine lv_if_lt (tgt := 49) X.1 X.2.1 dX1_isLess_4 (by decide) (fun c1 => ?_) (fun c1 => ?_)
  · replace hf := (if_pos c1).symm.trans hf
    refine lv_iconst (v := 0) X.1 X.2.1 dX1_isLess_49 (by decide) ?_
    cases hf; exact g_rz X S hr hlk (by decide) dX1_isLess_50
  · replace hf := (if_neg c1).symm.trans hf
    refine g_aload_n X (or_rv _) dX1_isLess_7 rfl (lv_at hl 0 rfl) ?_
    refine g_gR X S foX1_11 dX1_isLess_8 hf (fun v2 hf => ?_)
    refine lv_iload_n X.1 X.2.1 dX1_isLess_11 rfl (lv_at hl 2 rfl) ?_
    refine g_aI X S dX1_isLess_12 hf (fun v3 hf => ?_)
    refine g_aload_n X (or_rv _) dX1_isLess_13 rfl (lv_at hl 1 rfl) ?_
    refine g_gR X S foX1_11 dX1_isLess_14 hf (fun v4 hf => ?_)
    refine lv_iload_n X.1 X.2.1 dX1_isLess_17 rfl (lv_at hl 2 rfl) ?_
    refine g_aI X S dX1_isLess_18 hf (fun v5 hf => ?_)
    refine lv_icmp_eq (tgt := 43) X.1 X.2.1 dX1_isLess_19 (by decide) (fun c6 => ?_) (fun c6 => ?_)
    · replace hf := (if_pos c6).symm.trans hf
      obtain ⟨z7, ez7, hf⟩ := lt_some hf
      refine lv_iinc (v := z7) (lv' := [(2, .int z7), (0, rv x0), (1, rv x1)]) X.1 X.2.1 dX1_isLess_43 hl (k := 2) rfl (by rw [← ez7]; rfl) (by decide) (by simp [List.filter, cat_rv, cat_wv, cat_sv]) (fun ls hl => ?_)
      refine lv_goto (tgt := 3) X.1 X.2.1 dX1_isLess_46 (by decide) ?_
      exact hk3 _ _ _ _ _ _ (lv_sub hl [1, 2, 0] rfl) S hf
    · replace hf := (if_neg c6).symm.trans hf
      refine g_aload_n X (or_rv _) dX1_isLess_22 rfl (lv_at hl 0 rfl) ?_
      refine g_gR X S foX1_11 dX1_isLess_23 hf (fun v8 hf => ?_)
      refine lv_iload_n X.1 X.2.1 dX1_isLess_26 rfl (lv_at hl 2 rfl) ?_
      refine g_aI X S dX1_isLess_27 hf (fun v9 hf => ?_)
      refine g_aload_n X (or_rv _) dX1_isLess_28 rfl (lv_at hl 1 rfl) ?_
      refine g_gR X S foX1_11 dX1_isLess_29 hf (fun v10 hf => ?_)
      refine lv_iload_n X.1 X.2.1 dX1_isLess_32 rfl (lv_at hl 2 rfl) ?_
      refine g_aI X S dX1_isLess_33 hf (fun v11 hf => ?_)
      refine lv_icmp_ge (tgt := 41) X.1 X.2.1 dX1_isLess_34 (by decide) (fun c12 => ?_) (fun c12 => ?_)
      · replace hf := (if_pos c12).symm.trans hf
        refine lv_iconst (v := 0) X.1 X.2.1 dX1_isLess_41 (by decide) ?_
        cases hf; exact g_rz X S hr hlk (by decide) dX1_isLess_42
      · replace hf := (if_neg c12).symm.trans hf
        refine lv_iconst (v := 1) X.1 X.2.1 dX1_isLess_37 (by decide) ?_
        refine lv_goto (tgt := 42) X.1 X.2.1 dX1_isLess_38 (by decide) ?_
        cases hf; exact g_rz X S hr hlk (by decide) dX1_isLess_42
theorem wfX1_isLess_3_l {h : Hp} {r9 : Int32} (X : Cx p E A 8 R s m args c cX1_isLess yX1_isLess.cls 3) (hr : meth.sig.returnType = (some .boolean)) (hlk : meth.locks = false) (hnm : meth.name = yX1_isLess.name) :
    ∀ (n : Nat) (x0 : Nat) (x1 : Nat) (x2 : Int32) (H : Heap) (locs : List Loc) (ls : Array Slot), lv_has ls 3 [(0, rv x0), (1, rv x1), (2, .int x2)] → St E A s h H locs → lp (fun _ _ _ => none) (fX1_isLess_3 h) n x0 x1 x2 = some r9 → W p l e R s m args below meth c H locs 0 0 (MQ below (Qi E A h r9) args s 0 0 A) (F0 m 3 ls []) := by
  intro n
  induction n with
  | zero =>
    intro x0 x1 x2 H locs ls hl S hf
    exact nomatch hf
  | succ n ih =>
    intro x0 x1 x2 H locs ls hl S hf
    exact wfX1_isLess_3 X hr hlk hnm ih x0 x1 x2 H locs ls hl S hf
def fX1_isLess (a0 : Nat) (a1 : Nat) (h : Hp) : Option (Int32) := lp (fun _ _ _ => none) (fX1_isLess_3 h) FU a0 a1 63
theorem cX1_isLess_m (l : Launch) {E : EE} {A : Nat → Prop} {a0 : Nat} {a1 : Nat} {h : Hp} {r9 : Int32} (hf : fX1_isLess a0 a1 h = some r9) : Met l yX1_isLess (wsM yX1_isLess cX1_isLess 3 (some .boolean)) (rmm 8 0 0) (PcE E A h [rv a0, rv a1]) (Qi E A h r9) 0 0 A := by
  refine met_of (by decide +kernel) (by simp [lg_sl, cat_rv, cat_wv, cat_sv, cat_i, cat_l, cat_a]) (fun p e s m args below meth c ls X hr hlk hnm S hl => ?_)
  have hl : lv_has ls 3 [(0, rv a0), (1, rv a1)] := by simpa [lv_args, cat_rv, cat_wv, cat_sv, cat_i, cat_l, cat_a] using hl
  generalize hH : s.heap = H at S ⊢
  generalize hlo : ([] : List Loc) = locs at S ⊢
  clear hH hlo
  unfold fX1_isLess at hf
  refine lv_bipush (v := 63) X.1 X.2.1 dX1_isLess_0 (by decide) ?_
  refine lv_istore_n (i := 2) (lv' := [(2, .int 63), (0, rv a0), (1, rv a1)]) X.1 X.2.1 dX1_isLess_2 rfl hl (by decide) (by simp [List.filter, cat_rv, cat_wv, cat_sv]) (fun ls hl => ?_)
  exact wfX1_isLess_3_l X hr hlk hnm FU _ _ _ _ _ _ (lv_sub hl [1, 2, 0] rfl) S hf
def fX1_subtractDigits_41 (k5 : Nat → Nat → Nat → Int32 → Int32 → Hp → Option (Hp)) (x0 : Nat) (x1 : Nat) (x2 : Nat) (x4 : Int32) (x5 : Int32) (y0 : Int32) (h : Hp) : Option (Hp) := ob (gR 1 x0 0 h) fun v1 => ob (qI v1 x4 (x5 + (10 * y0)) h) fun h => lt (x4 + 1) fun z2 => k5 x0 x1 x2 y0 z2 h
theorem wfX1_subtractDigits_41 {k5 : Nat → Nat → Nat → Int32 → Int32 → Hp → Option (Hp)} {h9 : Hp} (X : Cx p E A 8 R s m args c cX1_subtractDigits yX1_subtractDigits.cls 6) (hr : meth.sig.returnType = none) (hlk : meth.locks = false) (hnm : meth.name = yX1_subtractDigits.name) (hk5 : ∀ (x0 : Nat) (x1 : Nat) (x2 : Nat) (x3 : Int32) (x4 : Int32) (h : Hp) (H : Heap) (locs : List Loc) (ls : Array Slot), lv_has ls 6 [(0, rv x0), (1, rv x1), (2, rv x2), (3, .int x3), (4, .int x4)] → St E A s h H locs → k5 x0 x1 x2 x3 x4 h = some h9 → W p l e R s m args below meth c H locs 0 0 (MQ below (Qv E A h9) args s 0 0 A) (F0 m 5 ls [])) :
    ∀ (x0 : Nat) (x1 : Nat) (x2 : Nat) (x4 : Int32) (x5 : Int32) (y0 : Int32) (h : Hp) (H : Heap) (locs : List Loc) (ls : Array Slot), lv_has ls 6 [(0, rv x0), (1, rv x1), (2, rv x2), (4, .int x4), (5, .int x5)] → St E A s h H locs → fX1_subtractDigits_41 k5 x0 x1 x2 x4 x5 y0 h = some h9 → W p l e R s m args below meth c H locs 0 0 (MQ below (Qv E A h9) args s 0 0 A) (F0 m 41 ls [.int y0]) := by
  intro x0 x1 x2 x4 x5 y0 h H locs ls hl S hf
  unfold fX1_subtractDigits_41 at hf
  refine lv_istore_n (i := 3) (lv' := [(3, .int y0), (0, rv x0), (1, rv x1), (2, rv x2), (4, .int x4), (5, .int x5)]) X.1 X.2.1 dX1_subtractDigits_41 rfl hl (by decide) (by simp [List.filter, cat_rv, cat_wv, cat_sv]) (fun ls hl => ?_)
  refine g_aload_n X (or_rv _) dX1_subtractDigits_42 rfl (lv_at hl 1 rfl) ?_
  refine g_gR X S foX1_11 dX1_subtractDigits_43 hf (fun v1 hf => ?_)
  refine lv_iload X.1 X.2.1 dX1_subtractDigits_46 (lv_at hl 4 rfl) ?_
  refine lv_iload X.1 X.2.1 dX1_subtractDigits_48 (lv_at hl 5 rfl) ?_
  refine lv_bipush (v := 10) X.1 X.2.1 dX1_subtractDigits_50 (by decide) ?_
  refine lv_iload_n X.1 X.2.1 dX1_subtractDigits_52 rfl (lv_at hl 0 rfl) ?_
  refine lv_imul X.1 X.2.1 dX1_subtractDigits_53 ?_
  refine lv_iadd X.1 X.2.1 dX1_subtractDigits_54 ?_
  refine g_qI X S dX1_subtractDigits_55 hf (fun h H locs hm hf S => ?_)
  obtain ⟨z2, ez2, hf⟩ := lt_some hf
  refine lv_iinc (v := z2) (lv' := [(4, .int z2), (3, .int y0), (0, rv x0), (1, rv x1), (2, rv x2), (5, .int x5)]) X.1 X.2.1 dX1_subtractDigits_56 hl (k := 4) rfl (by rw [← ez2]; rfl) (by decide) rfl (fun ls hl => ?_)
  refine lv_goto (tgt := 5) X.1 X.2.1 dX1_subtractDigits_59 (by decide) ?_
  exact hk5 _ _ _ _ _ _ _ _ _ (lv_sub hl [2, 3, 4, 1, 0] rfl) S hf
def fX1_subtractDigits_5 (k5 : Nat → Nat → Nat → Int32 → Int32 → Hp → Option (Hp)) (x0 : Nat) (x1 : Nat) (x2 : Nat) (x3 : Int32) (x4 : Int32) (h : Hp) : Option (Hp) := if 64 ≤ x4 then some h else ob (gR 1 x1 0 h) fun v2 => ob (aI v2 x4 h) fun v3 => ob (gR 1 x2 0 h) fun v4 => ob (aI v4 x4 h) fun v5 => lt ((v3 - v5) - x3) fun z6 => if 0 ≤ z6 then fX1_subtractDigits_41 k5 x0 x1 x2 x4 z6 0 h else fX1_subtractDigits_41 k5 x0 x1 x2 x4 z6 1 h
theorem wfX1_subtractDigits_5 {k5 : Nat → Nat → Nat → Int32 → Int32 → Hp → Option (Hp)} {h9 : Hp} (X : Cx p E A 8 R s m args c cX1_subtractDigits yX1_subtractDigits.cls 6) (hr : meth.sig.returnType = none) (hlk : meth.locks = false) (hnm : meth.name = yX1_subtractDigits.name) (hk5 : ∀ (x0 : Nat) (x1 : Nat) (x2 : Nat) (x3 : Int32) (x4 : Int32) (h : Hp) (H : Heap) (locs : List Loc) (ls : Array Slot), lv_has ls 6 [(0, rv x0), (1, rv x1), (2, rv x2), (3, .int x3), (4, .int x4)] → St E A s h H locs → k5 x0 x1 x2 x3 x4 h = some h9 → W p l e R s m args below meth c H locs 0 0 (MQ below (Qv E A h9) args s 0 0 A) (F0 m 5 ls [])) :
    ∀ (x0 : Nat) (x1 : Nat) (x2 : Nat) (x3 : Int32) (x4 : Int32) (h : Hp) (H : Heap) (locs : List Loc) (ls : Array Slot), lv_has ls 6 [(0, rv x0), (1, rv x1), (2, rv x2), (3, .int x3), (4, .int x4)] → St E A s h H locs → fX1_subtractDigits_5 k5 x0 x1 x2 x3 x4 h = some h9 → W p l e R s m args below meth c H locs 0 0 (MQ below (Qv E A h9) args s 0 0 A) (F0 m 5 ls []) := by
  intro x0 x1 x2 x3 x4 h H locs ls hl S hf
  unfold fX1_subtractDigits_5 at hf
  refine lv_iload X.1 X.2.1 dX1_subtractDigits_5 (lv_at hl 4 rfl) ?_
  refine lv_bipush (v := 64) X.1 X.2.1 dX1_subtractDigits_7 (by decide) ?_
  refine lv_icmp_ge (tgt := 62) X.1 X.2.1 dX1_subtractDigits_9 (by decide) (fun c1 => ?_) (fun c1 => ?_)
  · replace hf := (if_pos c1).symm.trans hf
    cases hf; exact g_rv X S hr hlk dX1_subtractDigits_62
  · replace hf := (if_neg c1).symm.trans hf
    refine g_aload_n X (or_rv _) dX1_subtractDigits_12 rfl (lv_at hl 1 rfl) ?_
    refine g_gR X S foX1_11 dX1_subtractDigits_13 hf (fun v2 hf => ?_)
    refine lv_iload X.1 X.2.1 dX1_subtractDigits_16 (lv_at hl 4 rfl) ?_
    refine g_aI X S dX1_subtractDigits_18 hf (fun v3 hf => ?_)
    refine g_aload_n X (or_rv _) dX1_subtractDigits_19 rfl (lv_at hl 2 rfl) ?_
    refine g_gR X S foX1_11 dX1_subtractDigits_20 hf (fun v4 hf => ?_)
    refine lv_iload X.1 X.2.1 dX1_subtractDigits_23 (lv_at hl 4 rfl) ?_
    refine g_aI X S dX1_subtractDigits_25 hf (fun v5 hf => ?_)
    refine lv_isub X.1 X.2.1 dX1_subtractDigits_26 ?_
    refine lv_iload_n X.1 X.2.1 dX1_subtractDigits_27 rfl (lv_at hl 3 rfl) ?_
    refine lv_isub X.1 X.2.1 dX1_subtractDigits_28 ?_
    refine g_lti hf (fun z6 hf => ?_)
    refine lv_istore (lv' := [(5, .int z6), (0, rv x0), (1, rv x1), (2, rv x2), (3, .int x3), (4, .int x4)]) X.1 X.2.1 dX1_subtractDigits_29 hl (by decide) rfl (fun ls hl => ?_)
    refine lv_iload X.1 X.2.1 dX1_subtractDigits_31 (lv_at hl 0 rfl) ?_
    refine lv_if_ge (tgt := 40) X.1 X.2.1 dX1_subtractDigits_33 (by decide) (fun c7 => ?_) (fun c7 => ?_)
    · replace hf := (if_pos c7).symm.trans hf
      refine lv_iconst (v := 0) X.1 X.2.1 dX1_subtractDigits_40 (by decide) ?_
      exact wfX1_subtractDigits_41 X hr hlk hnm hk5 _ _ _ _ _ _ _ _ _ _ (lv_sub hl [1, 2, 3, 5, 0] rfl) S hf
    · replace hf := (if_neg c7).symm.trans hf
      refine lv_iconst (v := 1) X.1 X.2.1 dX1_subtractDigits_36 (by decide) ?_
      refine lv_goto (tgt := 41) X.1 X.2.1 dX1_subtractDigits_37 (by decide) ?_
      exact wfX1_subtractDigits_41 X hr hlk hnm hk5 _ _ _ _ _ _ _ _ _ _ (lv_sub hl [1, 2, 3, 5, 0] rfl) S hf
theorem wfX1_subtractDigits_5_l {h9 : Hp} (X : Cx p E A 8 R s m args c cX1_subtractDigits yX1_subtractDigits.cls 6) (hr : meth.sig.returnType = none) (hlk : meth.locks = false) (hnm : meth.name = yX1_subtractDigits.name) :
    ∀ (n : Nat) (x0 : Nat) (x1 : Nat) (x2 : Nat) (x3 : Int32) (x4 : Int32) (h : Hp) (H : Heap) (locs : List Loc) (ls : Array Slot), lv_has ls 6 [(0, rv x0), (1, rv x1), (2, rv x2), (3, .int x3), (4, .int x4)] → St E A s h H locs → lp (fun _ _ _ _ _ _ => none) (fX1_subtractDigits_5) n x0 x1 x2 x3 x4 h = some h9 → W p l e R s m args below meth c H locs 0 0 (MQ below (Qv E A h9) args s 0 0 A) (F0 m 5 ls []) := by
  intro n
  induction n with
  | zero =>
    intro x0 x1 x2 x3 x4 h H locs ls hl S hf
    exact nomatch hf
  | succ n ih =>
    intro x0 x1 x2 x3 x4 h H locs ls hl S hf
    exact wfX1_subtractDigits_5 X hr hlk hnm ih x0 x1 x2 x3 x4 h H locs ls hl S hf
def fX1_subtractDigits (a0 : Nat) (a1 : Nat) (a2 : Nat) (h : Hp) : Option (Hp) := gd 1 a0 h (lp (fun _ _ _ _ _ _ => none) (fX1_subtractDigits_5) FU a0 a1 a2 0 0 h)
theorem tkX1_subtractDigits {a0 : Nat} {a1 : Nat} {a2 : Nat} {h : Hp} {r9 : Hp} (e : fX1_subtractDigits a0 a1 a2 h = some r9) : hK h a0 = 1 := by
  unfold fX1_subtractDigits at e
  exact (gd_some e).1
theorem cX1_subtractDigits_m (l : Launch) {E : EE} {A : Nat → Prop} {a0 : Nat} {a1 : Nat} {a2 : Nat} {h : Hp} {h9 : Hp} (hf : fX1_subtractDigits a0 a1 a2 h = some h9) : Met l yX1_subtractDigits (wsM yX1_subtractDigits cX1_subtractDigits 6 none) (rmm 8 0 0) (PcE E A h [rv a0, rv a1, rv a2]) (Qv E A h9) 0 0 A := by
  refine met_of (by decide +kernel) (by simp [lg_sl, cat_rv, cat_wv, cat_sv, cat_i, cat_l, cat_a]) (fun p e s m args below meth c ls X hr hlk hnm S hl => ?_)
  have hl : lv_has ls 6 [(0, rv a0), (1, rv a1), (2, rv a2)] := by simpa [lv_args, cat_rv, cat_wv, cat_sv, cat_i, cat_l, cat_a] using hl
  generalize hH : s.heap = H at S ⊢
  generalize hlo : ([] : List Loc) = locs at S ⊢
  clear hH hlo
  unfold fX1_subtractDigits at hf
  obtain ⟨hth, hf⟩ := gd_some hf
  refine lv_iconst (v := 0) X.1 X.2.1 dX1_subtractDigits_0 (by decide) ?_
  refine lv_istore_n (i := 3) (lv' := [(3, .int 0), (0, rv a0), (1, rv a1), (2, rv a2)]) X.1 X.2.1 dX1_subtractDigits_1 rfl hl (by decide) (by simp [List.filter, cat_rv, cat_wv, cat_sv]) (fun ls hl => ?_)
  refine lv_iconst (v := 0) X.1 X.2.1 dX1_subtractDigits_2 (by decide) ?_
  refine lv_istore (lv' := [(4, .int 0), (3, .int 0), (0, rv a0), (1, rv a1), (2, rv a2)]) X.1 X.2.1 dX1_subtractDigits_3 hl (by decide) rfl (fun ls hl => ?_)
  exact wfX1_subtractDigits_5_l X hr hlk hnm FU _ _ _ _ _ _ _ _ _ (lv_sub hl [2, 3, 4, 1, 0] rfl) S hf
def fX1_add_78 (x0 : Nat) (h : Hp) : Option (Hp) := ob (fX1_measure x0 h) fun h => some h
theorem wfX1_add_78 {h9 : Hp} (X : Cx p E A 9 R s m args c cX1_add yX1_add.cls 5) (hr : meth.sig.returnType = none) (hlk : meth.locks = false) (hnm : meth.name = yX1_add.name) :
    ∀ (x0 : Nat) (h : Hp) (H : Heap) (locs : List Loc) (ls : Array Slot), lv_has ls 5 [(0, rv x0)] → St E A s h H locs → fX1_add_78 x0 h = some h9 → W p l e R s m args below meth c H locs 0 0 (MQ below (Qv E A h9) args s 0 0 A) (F0 m 78 ls []) := by
  intro x0 h H locs ls hl S hf
  unfold fX1_add_78 at hf
  refine g_aload_n X (or_rv _) dX1_add_78 rfl (lv_at hl 0 rfl) ?_
  obtain ⟨h, hc, hf⟩ := ob_some hf
  refine g_cv S (runV (As := []) (rest := []) X S coX1_33 (by decide) (cX1_measure_m l hc) (tkX1_measure hc) rfl hl.1 (by decide) rfl ⟨Nat.zero_le _, Nat.zero_le _⟩ dX1_add_79) (fun H locs S => ?_)
  cases hf; exact g_rv X S hr hlk dX1_add_82
def fX1_add_13 (x0 : Nat) (x1 : Nat) (x2 : Nat) (y0 : Int32) (h : Hp) : Option (Hp) := ob (gI 1 x1 2 h) fun v1 => if v1 = y0 then ob (fX1_addDigits x0 x1 x2 h) fun h => ob (gI 1 x1 2 h) fun v9 => ob (pZ 1 x0 2 v9 h) fun h => fX1_add_78 x0 h else ob (fX1_isLess x1 x2 h) fun v3 => if v3 = 0 then ob (fX1_subtractDigits x0 x1 x2 h) fun h => ob (gI 1 x1 2 h) fun v6 => ob (pZ 1 x0 2 v6 h) fun h => fX1_add_78 x0 h else ob (fX1_subtractDigits x0 x2 x1 h) fun h => ob (pZ 1 x0 2 y0 h) fun h => fX1_add_78 x0 h
theorem wfX1_add_13 {h9 : Hp} (X : Cx p E A 9 R s m args c cX1_add yX1_add.cls 5) (hr : meth.sig.returnType = none) (hlk : meth.locks = false) (hnm : meth.name = yX1_add.name) :
    ∀ (x0 : Nat) (x1 : Nat) (x2 : Nat) (y0 : Int32) (h : Hp) (H : Heap) (locs : List Loc) (ls : Array Slot), lv_has ls 5 [(0, rv x0), (1, rv x1), (2, rv x2)] → St E A s h H locs → fX1_add_13 x0 x1 x2 y0 h = some h9 → W p l e R s m args below meth c H locs 0 0 (MQ below (Qv E A h9) args s 0 0 A) (F0 m 13 ls [.int y0]) := by
  intro x0 x1 x2 y0 h H locs ls hl S hf
  unfold fX1_add_13 at hf
  refine lv_istore (lv' := [(4, .int y0), (0, rv x0), (1, rv x1), (2, rv x2)]) X.1 X.2.1 dX1_add_13 hl (by decide) rfl (fun ls hl => ?_)
  refine g_aload_n X (or_rv _) dX1_add_15 rfl (lv_at hl 2 rfl) ?_
  refine g_gI X S foX1_19 rfl dX1_add_16 hf (fun v1 hf => ?_)
  refine lv_iload X.1 X.2.1 dX1_add_19 (lv_at hl 0 rfl) ?_
  refine lv_icmp_ne (tgt := 41) X.1 X.2.1 dX1_add_21 (by decide) (fun c2 => ?_) (fun c2 => ?_)
  · replace hf := (if_neg c2).symm.trans hf
    refine g_aload_n X (or_rv _) dX1_add_41 rfl (lv_at hl 2 rfl) ?_
    refine g_aload_n X (or_rv _) dX1_add_42 rfl (lv_at hl 3 rfl) ?_
    obtain ⟨v3, hc, hf⟩ := ob_some hf
    refine g_ci S (runS (As := [rv x1, rv x2]) (rest := []) X S coX1_59 (by decide) (cX1_isLess_m l hc) rfl hl.1 (by decide) rfl ⟨Nat.zero_le _, Nat.zero_le _⟩ dX1_add_43) (fun H locs S => ?_)
    refine lv_if_eq (tgt := 64) X.1 X.2.1 dX1_add_46 (by decide) (fun c4 => ?_) (fun c4 => ?_)
    · replace hf := (if_pos c4).symm.trans hf
      refine g_aload_n X (or_rv _) dX1_add_64 rfl (lv_at hl 1 rfl) ?_
      refine g_aload_n X (or_rv _) dX1_add_65 rfl (lv_at hl 2 rfl) ?_
      refine g_aload_n X (or_rv _) dX1_add_66 rfl (lv_at hl 3 rfl) ?_
      obtain ⟨h, hc, hf⟩ := ob_some hf
      refine g_cv S (runV (As := [rv x1, rv x2]) (rest := []) X S coX1_63 (by decide) (cX1_subtractDigits_m l hc) (tkX1_subtractDigits hc) rfl hl.1 (by decide) rfl ⟨Nat.zero_le _, Nat.zero_le _⟩ dX1_add_67) (fun H locs S => ?_)
      refine g_aload_n X (or_rv _) dX1_add_70 rfl (lv_at hl 1 rfl) ?_
      refine g_aload_n X (or_rv _) dX1_add_71 rfl (lv_at hl 2 rfl) ?_
      refine g_gI X S foX1_19 rfl dX1_add_72 hf (fun v6 hf => ?_)
      refine g_pZ X S fpX1_19 (Or.inl rfl) dX1_add_75 hf (fun h H locs hm hf S => ?_)
      exact wfX1_add_78 X hr hlk hnm _ _ _ _ _ (lv_sub hl [1] rfl) S hf
    · replace hf := (if_neg c4).symm.trans hf
      refine g_aload_n X (or_rv _) dX1_add_49 rfl (lv_at hl 1 rfl) ?_
      refine g_aload_n X (or_rv _) dX1_add_50 rfl (lv_at hl 3 rfl) ?_
      refine g_aload_n X (or_rv _) dX1_add_51 rfl (lv_at hl 2 rfl) ?_
      obtain ⟨h, hc, hf⟩ := ob_some hf
      refine g_cv S (runV (As := [rv x2, rv x1]) (rest := []) X S coX1_63 (by decide) (cX1_subtractDigits_m l hc) (tkX1_subtractDigits hc) rfl hl.1 (by decide) rfl ⟨Nat.zero_le _, Nat.zero_le _⟩ dX1_add_52) (fun H locs S => ?_)
      refine g_aload_n X (or_rv _) dX1_add_55 rfl (lv_at hl 1 rfl) ?_
      refine lv_iload X.1 X.2.1 dX1_add_56 (lv_at hl 0 rfl) ?_
      refine g_pZ X S fpX1_19 (Or.inl rfl) dX1_add_58 hf (fun h H locs hm hf S => ?_)
      refine lv_goto (tgt := 78) X.1 X.2.1 dX1_add_61 (by decide) ?_
      exact wfX1_add_78 X hr hlk hnm _ _ _ _ _ (lv_sub hl [1] rfl) S hf
  · replace hf := (if_pos c2).symm.trans hf
    refine g_aload_n X (or_rv _) dX1_add_24 rfl (lv_at hl 1 rfl) ?_
    refine g_aload_n X (or_rv _) dX1_add_25 rfl (lv_at hl 2 rfl) ?_
    refine g_aload_n X (or_rv _) dX1_add_26 rfl (lv_at hl 3 rfl) ?_
    obtain ⟨h, hc, hf⟩ := ob_some hf
    refine g_cv S (runV (As := [rv x1, rv x2]) (rest := []) X S coX1_55 (by decide) (cX1_addDigits_m l hc) (tkX1_addDigits hc) rfl hl.1 (by decide) rfl ⟨Nat.zero_le _, Nat.zero_le _⟩ dX1_add_27) (fun H locs S => ?_)
    refine g_aload_n X (or_rv _) dX1_add_30 rfl (lv_at hl 1 rfl) ?_
    refine g_aload_n X (or_rv _) dX1_add_31 rfl (lv_at hl 2 rfl) ?_
    refine g_gI X S foX1_19 rfl dX1_add_32 hf (fun v9 hf => ?_)
    refine g_pZ X S fpX1_19 (Or.inl rfl) dX1_add_35 hf (fun h H locs hm hf S => ?_)
    refine lv_goto (tgt := 78) X.1 X.2.1 dX1_add_38 (by decide) ?_
    exact wfX1_add_78 X hr hlk hnm _ _ _ _ _ (lv_sub hl [1] rfl) S hf
def fX1_add (a0 : Nat) (a1 : Nat) (a2 : Nat) (a3 : Int32) (h : Hp) : Option (Hp) := gd 1 a0 h (ob (gI 1 a2 2 h) fun v1 => if v1 = a3 then fX1_add_13 a0 a1 a2 0 h else fX1_add_13 a0 a1 a2 1 h)
theorem tkX1_add {a0 : Nat} {a1 : Nat} {a2 : Nat} {a3 : Int32} {h : Hp} {r9 : Hp} (e : fX1_add a0 a1 a2 a3 h = some r9) : hK h a0 = 1 := by
  unfold fX1_add at e
  exact (gd_some e).1
theorem cX1_add_m (l : Launch) {E : EE} {A : Nat → Prop} {a0 : Nat} {a1 : Nat} {a2 : Nat} {a3 : Int32} {h : Hp} {h9 : Hp} (hf : fX1_add a0 a1 a2 a3 h = some h9) : Met l yX1_add (wsM yX1_add cX1_add 5 none) (rmm 9 0 0) (PcE E A h [rv a0, rv a1, rv a2, .int a3]) (Qv E A h9) 0 0 A := by
  refine met_of (by decide +kernel) (by simp [lg_sl, cat_rv, cat_wv, cat_sv, cat_i, cat_l, cat_a]) (fun p e s m args below meth c ls X hr hlk hnm S hl => ?_)
  have hl : lv_has ls 5 [(0, rv a0), (1, rv a1), (2, rv a2), (3, .int a3)] := by simpa [lv_args, cat_rv, cat_wv, cat_sv, cat_i, cat_l, cat_a] using hl
  generalize hH : s.heap = H at S ⊢
  generalize hlo : ([] : List Loc) = locs at S ⊢
  clear hH hlo
  unfold fX1_add at hf
  obtain ⟨hth, hf⟩ := gd_some hf
  refine g_aload_n X (or_rv _) dX1_add_0 rfl (lv_at hl 2 rfl) ?_
  refine g_gI X S foX1_19 rfl dX1_add_1 hf (fun v1 hf => ?_)
  refine lv_iload_n X.1 X.2.1 dX1_add_4 rfl (lv_at hl 3 rfl) ?_
  refine lv_icmp_eq (tgt := 12) X.1 X.2.1 dX1_add_5 (by decide) (fun c2 => ?_) (fun c2 => ?_)
  · replace hf := (if_pos c2).symm.trans hf
    refine lv_iconst (v := 0) X.1 X.2.1 dX1_add_12 (by decide) ?_
    exact wfX1_add_13 X hr hlk hnm _ _ _ _ _ _ _ _ (lv_sub hl [0, 1, 2] rfl) S hf
  · replace hf := (if_neg c2).symm.trans hf
    refine lv_iconst (v := 1) X.1 X.2.1 dX1_add_8 (by decide) ?_
    refine lv_goto (tgt := 13) X.1 X.2.1 dX1_add_9 (by decide) ?_
    exact wfX1_add_13 X hr hlk hnm _ _ _ _ _ _ _ _ (lv_sub hl [0, 1, 2] rfl) S hf
def fX1_digit (a0 : Nat) (a1 : Int32) (h : Hp) : Option (Int32) := gd 1 a0 h (if a1 < 0 then some 0 else if 64 ≤ a1 then some 0 else ob (gR 1 a0 0 h) fun v3 => ob (aI v3 a1 h) fun v4 => some v4)
theorem tkX1_digit {a0 : Nat} {a1 : Int32} {h : Hp} {r9 : Int32} (e : fX1_digit a0 a1 h = some r9) : hK h a0 = 1 := by
  unfold fX1_digit at e
  exact (gd_some e).1
theorem cX1_digit_m (l : Launch) {E : EE} {A : Nat → Prop} {a0 : Nat} {a1 : Int32} {h : Hp} {r9 : Int32} (hf : fX1_digit a0 a1 h = some r9) : Met l yX1_digit (wsM yX1_digit cX1_digit 2 (some .int)) (rmm 8 0 0) (PcE E A h [rv a0, .int a1]) (Qi E A h r9) 0 0 A := by
  refine met_of (by decide +kernel) (by simp [lg_sl, cat_rv, cat_wv, cat_sv, cat_i, cat_l, cat_a]) (fun p e s m args below meth c ls X hr hlk hnm S hl => ?_)
  have hl : lv_has ls 2 [(0, rv a0), (1, .int a1)] := by simpa [lv_args, cat_rv, cat_wv, cat_sv, cat_i, cat_l, cat_a] using hl
  generalize hH : s.heap = H at S ⊢
  generalize hlo : ([] : List Loc) = locs at S ⊢
  clear hH hlo
  unfold fX1_digit at hf
  obtain ⟨hth, hf⟩ := gd_some hf
  refine lv_iload_n X.1 X.2.1 dX1_digit_0 rfl (lv_at hl 1 rfl) ?_
  refine lv_if_lt (tgt := 19) X.1 X.2.1 dX1_digit_1 (by decide) (fun c1 => ?_) (fun c1 => ?_)
  · replace hf := (if_pos c1).symm.trans hf
    refine lv_iconst (v := 0) X.1 X.2.1 dX1_digit_19 (by decide) ?_
    cases hf; exact g_ri X S hr hlk dX1_digit_20
  · replace hf := (if_neg c1).symm.trans hf
    refine lv_iload_n X.1 X.2.1 dX1_digit_4 rfl (lv_at hl 1 rfl) ?_
    refine lv_bipush (v := 64) X.1 X.2.1 dX1_digit_5 (by decide) ?_
    refine lv_icmp_ge (tgt := 19) X.1 X.2.1 dX1_digit_7 (by decide) (fun c2 => ?_) (fun c2 => ?_)
    · replace hf := (if_pos c2).symm.trans hf
      refine lv_iconst (v := 0) X.1 X.2.1 dX1_digit_19 (by decide) ?_
      cases hf; exact g_ri X S hr hlk dX1_digit_20
    · replace hf := (if_neg c2).symm.trans hf
      refine g_aload_n X (or_rv _) dX1_digit_10 rfl (lv_at hl 0 rfl) ?_
      refine g_gR X S foX1_11 dX1_digit_11 hf (fun v3 hf => ?_)
      refine lv_iload_n X.1 X.2.1 dX1_digit_14 rfl (lv_at hl 1 rfl) ?_
      refine g_aI X S dX1_digit_15 hf (fun v4 hf => ?_)
      refine lv_goto (tgt := 20) X.1 X.2.1 dX1_digit_16 (by decide) ?_
      cases hf; exact g_ri X S hr hlk dX1_digit_20
def fX7_turned (a0 : Int32) : Option (Int32) := some (((a0 &&& (15 : Int32)) <<< ((4 : Int32) &&& 31)) ||| (a0 >>> ((4 : Int32) &&& 31)))
theorem cX7_turned_m (l : Launch) {E : EE} {A : Nat → Prop} {a0 : Int32} {h : Hp} {r9 : Int32} (hf : fX7_turned a0 = some r9) : Met l yX7_turned (wsM yX7_turned cX7_turned 1 (some .int)) (rmm 8 0 0) (PcE E A h [.int a0]) (Qi E A h r9) 0 0 A := by
  refine met_of (by decide +kernel) (by simp [lg_sl, cat_rv, cat_wv, cat_sv, cat_i, cat_l, cat_a]) (fun p e s m args below meth c ls X hr hlk hnm S hl => ?_)
  have hl : lv_has ls 1 [(0, .int a0)] := by simpa [lv_args, cat_rv, cat_wv, cat_sv, cat_i, cat_l, cat_a] using hl
  generalize hH : s.heap = H at S ⊢
  generalize hlo : ([] : List Loc) = locs at S ⊢
  clear hH hlo
  unfold fX7_turned at hf
  refine lv_iload_n X.1 X.2.1 dX7_turned_0 rfl (lv_at hl 0 rfl) ?_
  refine lv_bipush (v := 15) X.1 X.2.1 dX7_turned_1 (by decide) ?_
  refine lv_iand X.1 X.2.1 dX7_turned_3 ?_
  refine lv_iconst (v := 4) X.1 X.2.1 dX7_turned_4 (by decide) ?_
  refine lv_ishl X.1 X.2.1 dX7_turned_5 ?_
  refine lv_iload_n X.1 X.2.1 dX7_turned_6 rfl (lv_at hl 0 rfl) ?_
  refine lv_iconst (v := 4) X.1 X.2.1 dX7_turned_7 (by decide) ?_
  refine lv_ishr X.1 X.2.1 dX7_turned_8 ?_
  refine lv_ior X.1 X.2.1 dX7_turned_9 ?_
  cases hf; exact g_ri X S hr hlk dX7_turned_10
def fX7_packBytes_86 (k36 : Nat → Int32 → Int32 → Int32 → Int32 → Hp → Option (Hp)) (x0 : Nat) (x1 : Int32) (x3 : Int32) (x5 : Int32) (x6 : Int32) (x7 : Int32) (y0 : Int32) (h : Hp) : Option (Hp) := ob (fX10_put x0 x6 ((y0 <<< ((4 : Int32) &&& 31)) ||| x7) h) fun h => lt (x5 + (-2)) fun z2 => lt (x6 + (-1)) fun z3 => k36 x0 x1 x3 z2 z3 h
theorem wfX7_packBytes_86 {k36 : Nat → Int32 → Int32 → Int32 → Int32 → Hp → Option (Hp)} {h9 : Hp} (X : Cx p E A 9 R s m args c cX7_packBytes yX7_packBytes.cls 9) (hr : meth.sig.returnType = none) (hlk : meth.locks = false) (hnm : meth.name = yX7_packBytes.name) (hk36 : ∀ (x0 : Nat) (x1 : Int32) (x3 : Int32) (x5 : Int32) (x6 : Int32) (h : Hp) (H : Heap) (locs : List Loc) (ls : Array Slot), lv_has ls 9 [(0, rv x0), (1, .int x1), (3, .int x3), (5, .int x5), (6, .int x6)] → St E A s h H locs → k36 x0 x1 x3 x5 x6 h = some h9 → W p l e R s m args below meth c H locs 0 0 (MQ below (Qv E A h9) args s 0 0 A) (F0 m 36 ls [])) :
    ∀ (x0 : Nat) (x1 : Int32) (x3 : Int32) (x5 : Int32) (x6 : Int32) (x7 : Int32) (y0 : Int32) (h : Hp) (H : Heap) (locs : List Loc) (ls : Array Slot), lv_has ls 9 [(0, rv x0), (1, .int x1), (3, .int x3), (5, .int x5), (6, .int x6), (7, .int x7)] → St E A s h H locs → fX7_packBytes_86 k36 x0 x1 x3 x5 x6 x7 y0 h = some h9 → W p l e R s m args below meth c H locs 0 0 (MQ below (Qv E A h9) args s 0 0 A) (F0 m 86 ls [.int y0]) := by
  intro x0 x1 x3 x5 x6 x7 y0 h H locs ls hl S hf
  unfold fX7_packBytes_86 at hf
  refine lv_istore (lv' := [(8, .int y0), (0, rv x0), (1, .int x1), (3, .int x3), (5, .int x5), (6, .int x6), (7, .int x7)]) X.1 X.2.1 dX7_packBytes_86 hl (by decide) rfl (fun ls hl => ?_)
  refine g_aload_n X (or_rv _) dX7_packBytes_88 rfl (lv_at hl 1 rfl) ?_
  refine lv_iload X.1 X.2.1 dX7_packBytes_89 (lv_at hl 5 rfl) ?_
  refine lv_iload X.1 X.2.1 dX7_packBytes_91 (lv_at hl 0 rfl) ?_
  refine lv_iconst (v := 4) X.1 X.2.1 dX7_packBytes_93 (by decide) ?_
  refine lv_ishl X.1 X.2.1 dX7_packBytes_94 ?_
  refine lv_iload X.1 X.2.1 dX7_packBytes_95 (lv_at hl 6 rfl) ?_
  refine lv_ior X.1 X.2.1 dX7_packBytes_97 ?_
  obtain ⟨h, hc, hf⟩ := ob_some hf
  refine g_cv S (runV (As := [.int x6, .int ((y0 <<< ((4 : Int32) &&& 31)) ||| x7)]) (rest := []) X S coX7_18 (by decide) (cX10_put_m l hc) (tkX10_put hc) rfl hl.1 (by decide) rfl ⟨Nat.zero_le _, Nat.zero_le _⟩ dX7_packBytes_98) (fun H locs S => ?_)
  obtain ⟨z2, ez2, hf⟩ := lt_some hf
  refine lv_iinc (v := z2) (lv' := [(5, .int z2), (8, .int y0), (0, rv x0), (1, .int x1), (3, .int x3), (6, .int x6), (7, .int x7)]) X.1 X.2.1 dX7_packBytes_101 hl (k := 4) rfl (by rw [← ez2]; rfl) (by decide) rfl (fun ls hl => ?_)
  obtain ⟨z3, ez3, hf⟩ := lt_some hf
  refine lv_iinc (v := z3) (lv' := [(6, .int z3), (5, .int z2), (8, .int y0), (0, rv x0), (1, .int x1), (3, .int x3), (7, .int x7)]) X.1 X.2.1 dX7_packBytes_104 hl (k := 5) rfl (by rw [← ez3]; rfl) (by decide) rfl (fun ls hl => ?_)
  refine lv_goto (tgt := 36) X.1 X.2.1 dX7_packBytes_107 (by decide) ?_
  exact hk36 _ _ _ _ _ _ _ _ _ (lv_sub hl [3, 4, 5, 1, 0] rfl) S hf
def fX7_packBytes_62 (k36 : Nat → Int32 → Int32 → Int32 → Int32 → Hp → Option (Hp)) (x0 : Nat) (x1 : Int32) (x3 : Int32) (x5 : Int32) (x6 : Int32) (y0 : Int32) (h : Hp) : Option (Hp) := if (x5 - 1) < x3 then fX7_packBytes_86 k36 x0 x1 x3 x5 x6 y0 0 h else ob (fX10_half x0 ((2 * x5) - 1) h) fun v2 => fX7_packBytes_86 k36 x0 x1 x3 x5 x6 y0 v2 h
theorem wfX7_packBytes_62 {k36 : Nat → Int32 → Int32 → Int32 → Int32 → Hp → Option (Hp)} {h9 : Hp} (X : Cx p E A 9 R s m args c cX7_packBytes yX7_packBytes.cls 9) (hr : meth.sig.returnType = none) (hlk : meth.locks = false) (hnm : meth.name = yX7_packBytes.name) (hk36 : ∀ (x0 : Nat) (x1 : Int32) (x3 : Int32) (x5 : Int32) (x6 : Int32) (h : Hp) (H : Heap) (locs : List Loc) (ls : Array Slot), lv_has ls 9 [(0, rv x0), (1, .int x1), (3, .int x3), (5, .int x5), (6, .int x6)] → St E A s h H locs → k36 x0 x1 x3 x5 x6 h = some h9 → W p l e R s m args below meth c H locs 0 0 (MQ below (Qv E A h9) args s 0 0 A) (F0 m 36 ls [])) :
    ∀ (x0 : Nat) (x1 : Int32) (x3 : Int32) (x5 : Int32) (x6 : Int32) (y0 : Int32) (h : Hp) (H : Heap) (locs : List Loc) (ls : Array Slot), lv_has ls 9 [(0, rv x0), (1, .int x1), (3, .int x3), (5, .int x5), (6, .int x6)] → St E A s h H locs → fX7_packBytes_62 k36 x0 x1 x3 x5 x6 y0 h = some h9 → W p l e R s m args below meth c H locs 0 0 (MQ below (Qv E A h9) args s 0 0 A) (F0 m 62 ls [.int y0]) := by
  intro x0 x1 x3 x5 x6 y0 h H locs ls hl S hf
  unfold fX7_packBytes_62 at hf
  refine lv_istore (lv' := [(7, .int y0), (0, rv x0), (1, .int x1), (3, .int x3), (5, .int x5), (6, .int x6)]) X.1 X.2.1 dX7_packBytes_62 hl (by decide) rfl (fun ls hl => ?_)
  refine lv_iload X.1 X.2.1 dX7_packBytes_64 (lv_at hl 4 rfl) ?_
  refine lv_iconst (v := 1) X.1 X.2.1 dX7_packBytes_66 (by decide) ?_
  refine lv_isub X.1 X.2.1 dX7_packBytes_67 ?_
  refine lv_iload_n X.1 X.2.1 dX7_packBytes_68 rfl (lv_at hl 3 rfl) ?_
  refine lv_icmp_lt (tgt := 85) X.1 X.2.1 dX7_packBytes_69 (by decide) (fun c1 => ?_) (fun c1 => ?_)
  · replace hf := (if_pos c1).symm.trans hf
    refine lv_iconst (v := 0) X.1 X.2.1 dX7_packBytes_85 (by decide) ?_
    exact wfX7_packBytes_86 X hr hlk hnm hk36 _ _ _ _ _ _ _ _ _ _ _ (lv_sub hl [1, 2, 3, 4, 5, 0] rfl) S hf
  · replace hf := (if_neg c1).symm.trans hf
    refine g_aload_n X (or_rv _) dX7_packBytes_72 rfl (lv_at hl 1 rfl) ?_
    refine lv_iconst (v := 2) X.1 X.2.1 dX7_packBytes_73 (by decide) ?_
    refine lv_iload X.1 X.2.1 dX7_packBytes_74 (lv_at hl 4 rfl) ?_
    refine lv_imul X.1 X.2.1 dX7_packBytes_76 ?_
    refine lv_iconst (v := 1) X.1 X.2.1 dX7_packBytes_77 (by decide) ?_
    refine lv_isub X.1 X.2.1 dX7_packBytes_78 ?_
    obtain ⟨v2, hc, hf⟩ := ob_some hf
    refine g_ci S (runV (As := [.int ((2 * x5) - 1)]) (rest := []) X S coX7_22 (by decide) (cX10_half_m l hc) (tkX10_half hc) rfl hl.1 (by decide) rfl ⟨Nat.zero_le _, Nat.zero_le _⟩ dX7_packBytes_79) (fun H locs S => ?_)
    refine lv_goto (tgt := 86) X.1 X.2.1 dX7_packBytes_82 (by decide) ?_
    exact wfX7_packBytes_86 X hr hlk hnm hk36 _ _ _ _ _ _ _ _ _ _ _ (lv_sub hl [1, 2, 3, 4, 5, 0] rfl) S hf
def fX7_packBytes_36 (k36 : Nat → Int32 → Int32 → Int32 → Int32 → Hp → Option (Hp)) (x0 : Nat) (x1 : Int32) (x3 : Int32) (x5 : Int32) (x6 : Int32) (h : Hp) : Option (Hp) := if x6 < x1 then some h else if x5 < x3 then fX7_packBytes_62 k36 x0 x1 x3 x5 x6 0 h else ob (fX10_half x0 ((2 * x5) + 1) h) fun v3 => fX7_packBytes_62 k36 x0 x1 x3 x5 x6 v3 h
theorem wfX7_packBytes_36 {k36 : Nat → Int32 → Int32 → Int32 → Int32 → Hp → Option (Hp)} {h9 : Hp} (X : Cx p E A 9 R s m args c cX7_packBytes yX7_packBytes.cls 9) (hr : meth.sig.returnType = none) (hlk : meth.locks = false) (hnm : meth.name = yX7_packBytes.name) (hk36 : ∀ (x0 : Nat) (x1 : Int32) (x3 : Int32) (x5 : Int32) (x6 : Int32) (h : Hp) (H : Heap) (locs : List Loc) (ls : Array Slot), lv_has ls 9 [(0, rv x0), (1, .int x1), (3, .int x3), (5, .int x5), (6, .int x6)] → St E A s h H locs → k36 x0 x1 x3 x5 x6 h = some h9 → W p l e R s m args below meth c H locs 0 0 (MQ below (Qv E A h9) args s 0 0 A) (F0 m 36 ls [])) :
    ∀ (x0 : Nat) (x1 : Int32) (x3 : Int32) (x5 : Int32) (x6 : Int32) (h : Hp) (H : Heap) (locs : List Loc) (ls : Array Slot), lv_has ls 9 [(0, rv x0), (1, .int x1), (3, .int x3), (5, .int x5), (6, .int x6)] → St E A s h H locs → fX7_packBytes_36 k36 x0 x1 x3 x5 x6 h = some h9 → W p l e R s m args below meth c H locs 0 0 (MQ below (Qv E A h9) args s 0 0 A) (F0 m 36 ls []) := by
  intro x0 x1 x3 x5 x6 h H locs ls hl S hf
  unfold fX7_packBytes_36 at hf
  refine lv_iload X.1 X.2.1 dX7_packBytes_36 (lv_at hl 4 rfl) ?_
  refine lv_iload_n X.1 X.2.1 dX7_packBytes_38 rfl (lv_at hl 1 rfl) ?_
  refine lv_icmp_lt (tgt := 110) X.1 X.2.1 dX7_packBytes_39 (by decide) (fun c1 => ?_) (fun c1 => ?_)
  · replace hf := (if_pos c1).symm.trans hf
    cases hf; exact g_rv X S hr hlk dX7_packBytes_110
  · replace hf := (if_neg c1).symm.trans hf
    refine lv_iload X.1 X.2.1 dX7_packBytes_42 (lv_at hl 3 rfl) ?_
    refine lv_iload_n X.1 X.2.1 dX7_packBytes_44 rfl (lv_at hl 2 rfl) ?_
    refine lv_icmp_lt (tgt := 61) X.1 X.2.1 dX7_packBytes_45 (by decide) (fun c2 => ?_) (fun c2 => ?_)
    · replace hf := (if_pos c2).symm.trans hf
      refine lv_iconst (v := 0) X.1 X.2.1 dX7_packBytes_61 (by decide) ?_
      exact wfX7_packBytes_62 X hr hlk hnm hk36 _ _ _ _ _ _ _ _ _ _ hl S hf
    · replace hf := (if_neg c2).symm.trans hf
      refine g_aload_n X (or_rv _) dX7_packBytes_48 rfl (lv_at hl 0 rfl) ?_
      refine lv_iconst (v := 2) X.1 X.2.1 dX7_packBytes_49 (by decide) ?_
      refine lv_iload X.1 X.2.1 dX7_packBytes_50 (lv_at hl 3 rfl) ?_
      refine lv_imul X.1 X.2.1 dX7_packBytes_52 ?_
      refine lv_iconst (v := 1) X.1 X.2.1 dX7_packBytes_53 (by decide) ?_
      refine lv_iadd X.1 X.2.1 dX7_packBytes_54 ?_
      obtain ⟨v3, hc, hf⟩ := ob_some hf
      refine g_ci S (runV (As := [.int ((2 * x5) + 1)]) (rest := []) X S coX7_22 (by decide) (cX10_half_m l hc) (tkX10_half hc) rfl hl.1 (by decide) rfl ⟨Nat.zero_le _, Nat.zero_le _⟩ dX7_packBytes_55) (fun H locs S => ?_)
      refine lv_goto (tgt := 62) X.1 X.2.1 dX7_packBytes_58 (by decide) ?_
      exact wfX7_packBytes_62 X hr hlk hnm hk36 _ _ _ _ _ _ _ _ _ _ hl S hf
theorem wfX7_packBytes_36_l {h9 : Hp} (X : Cx p E A 9 R s m args c cX7_packBytes yX7_packBytes.cls 9) (hr : meth.sig.returnType = none) (hlk : meth.locks = false) (hnm : meth.name = yX7_packBytes.name) :
    ∀ (n : Nat) (x0 : Nat) (x1 : Int32) (x3 : Int32) (x5 : Int32) (x6 : Int32) (h : Hp) (H : Heap) (locs : List Loc) (ls : Array Slot), lv_has ls 9 [(0, rv x0), (1, .int x1), (3, .int x3), (5, .int x5), (6, .int x6)] → St E A s h H locs → lp (fun _ _ _ _ _ _ => none) (fX7_packBytes_36) n x0 x1 x3 x5 x6 h = some h9 → W p l e R s m args below meth c H locs 0 0 (MQ below (Qv E A h9) args s 0 0 A) (F0 m 36 ls []) := by
  intro n
  induction n with
  | zero =>
    intro x0 x1 x3 x5 x6 h H locs ls hl S hf
    exact nomatch hf
  | succ n ih =>
    intro x0 x1 x3 x5 x6 h H locs ls hl S hf
    exact wfX7_packBytes_36 X hr hlk hnm ih x0 x1 x3 x5 x6 h H locs ls hl S hf
def fX7_packBytes (a0 : Nat) (a1 : Int32) (a2 : Int32) (a3 : Int32) (a4 : Int32) (h : Hp) : Option (Hp) := lt ((a3 + a4) - 1) fun z1 => ob (fX10_cell a0 z1 h) fun v2 => ob (fX7_turned v2) fun v3 => ob (fX10_put a0 ((a1 + a2) - 1) v3 h) fun h => lt (z1 + (-1)) fun z5 => lt ((a1 + a2) - 2) fun z6 => lp (fun _ _ _ _ _ _ => none) (fX7_packBytes_36) FU a0 a1 a3 z5 z6 h
theorem cX7_packBytes_m (l : Launch) {E : EE} {A : Nat → Prop} {a0 : Nat} {a1 : Int32} {a2 : Int32} {a3 : Int32} {a4 : Int32} {h : Hp} {h9 : Hp} (hf : fX7_packBytes a0 a1 a2 a3 a4 h = some h9) : Met l yX7_packBytes (wsM yX7_packBytes cX7_packBytes 9 none) (rmm 9 0 0) (PcE E A h [rv a0, .int a1, .int a2, .int a3, .int a4]) (Qv E A h9) 0 0 A := by
  refine met_of (by decide +kernel) (by simp [lg_sl, cat_rv, cat_wv, cat_sv, cat_i, cat_l, cat_a]) (fun p e s m args below meth c ls X hr hlk hnm S hl => ?_)
  have hl : lv_has ls 9 [(0, rv a0), (1, .int a1), (2, .int a2), (3, .int a3), (4, .int a4)] := by simpa [lv_args, cat_rv, cat_wv, cat_sv, cat_i, cat_l, cat_a] using hl
  generalize hH : s.heap = H at S ⊢
  generalize hlo : ([] : List Loc) = locs at S ⊢
  clear hH hlo
  unfold fX7_packBytes at hf
  refine lv_iload_n X.1 X.2.1 dX7_packBytes_0 rfl (lv_at hl 3 rfl) ?_
  refine lv_iload X.1 X.2.1 dX7_packBytes_1 (lv_at hl 4 rfl) ?_
  refine lv_iadd X.1 X.2.1 dX7_packBytes_3 ?_
  refine lv_iconst (v := 1) X.1 X.2.1 dX7_packBytes_4 (by decide) ?_
  refine lv_isub X.1 X.2.1 dX7_packBytes_5 ?_
  refine g_lti hf (fun z1 hf => ?_)
  refine lv_istore (lv' := [(5, .int z1), (0, rv a0), (1, .int a1), (2, .int a2), (3, .int a3), (4, .int a4)]) X.1 X.2.1 dX7_packBytes_6 hl (by decide) rfl (fun ls hl => ?_)
  refine g_aload_n X (or_rv _) dX7_packBytes_8 rfl (lv_at hl 1 rfl) ?_
  refine lv_iload_n X.1 X.2.1 dX7_packBytes_9 rfl (lv_at hl 2 rfl) ?_
  refine lv_iload_n X.1 X.2.1 dX7_packBytes_10 rfl (lv_at hl 3 rfl) ?_
  refine lv_iadd X.1 X.2.1 dX7_packBytes_11 ?_
  refine lv_iconst (v := 1) X.1 X.2.1 dX7_packBytes_12 (by decide) ?_
  refine lv_isub X.1 X.2.1 dX7_packBytes_13 ?_
  refine g_aload_n X (or_rv _) dX7_packBytes_14 rfl (lv_at hl 1 rfl) ?_
  refine lv_iload X.1 X.2.1 dX7_packBytes_15 (lv_at hl 0 rfl) ?_
  obtain ⟨v2, hc, hf⟩ := ob_some hf
  refine g_ci S (runV (As := [.int z1]) (rest := [.int ((a1 + a2) - 1), rv a0]) X S coX7_7 (by decide) (cX10_cell_m l hc) (tkX10_cell hc) rfl hl.1 (by simp [cat_rv, cat_wv, cat_sv, cat_i, cat_l, cat_a]) rfl ⟨Nat.zero_le _, Nat.zero_le _⟩ dX7_packBytes_17) (fun H locs S => ?_)
  obtain ⟨v3, hc, hf⟩ := ob_some hf
  refine g_ci S (runS (As := [.int v2]) (rest := [.int ((a1 + a2) - 1), rv a0]) X S coX7_13 (by decide) (cX7_turned_m l hc) rfl hl.1 (by simp [cat_rv, cat_wv, cat_sv, cat_i, cat_l, cat_a]) rfl ⟨Nat.zero_le _, Nat.zero_le _⟩ dX7_packBytes_20) (fun H locs S => ?_)
  obtain ⟨h, hc, hf⟩ := ob_some hf
  refine g_cv S (runV (As := [.int ((a1 + a2) - 1), .int v3]) (rest := []) X S coX7_18 (by decide) (cX10_put_m l hc) (tkX10_put hc) rfl hl.1 (by decide) rfl ⟨Nat.zero_le _, Nat.zero_le _⟩ dX7_packBytes_23) (fun H locs S => ?_)
  obtain ⟨z5, ez5, hf⟩ := lt_some hf
  refine lv_iinc (v := z5) (lv' := [(5, .int z5), (0, rv a0), (1, .int a1), (2, .int a2), (3, .int a3), (4, .int a4)]) X.1 X.2.1 dX7_packBytes_26 hl (k := 0) rfl (by rw [← ez5]; rfl) (by decide) rfl (fun ls hl => ?_)
  refine lv_iload_n X.1 X.2.1 dX7_packBytes_29 rfl (lv_at hl 2 rfl) ?_
  refine lv_iload_n X.1 X.2.1 dX7_packBytes_30 rfl (lv_at hl 3 rfl) ?_
  refine lv_iadd X.1 X.2.1 dX7_packBytes_31 ?_
  refine lv_iconst (v := 2) X.1 X.2.1 dX7_packBytes_32 (by decide) ?_
  refine lv_isub X.1 X.2.1 dX7_packBytes_33 ?_
  refine g_lti hf (fun z6 hf => ?_)
  refine lv_istore (lv' := [(6, .int z6), (5, .int z5), (0, rv a0), (1, .int a1), (2, .int a2), (3, .int a3), (4, .int a4)]) X.1 X.2.1 dX7_packBytes_34 hl (by decide) rfl (fun ls hl => ?_)
  exact wfX7_packBytes_36_l X hr hlk hnm FU _ _ _ _ _ _ _ _ _ (lv_sub hl [2, 3, 5, 1, 0] rfl) S hf
def fX7_unpackBytes_69 (k71 : Nat → Int32 → Int32 → Int32 → Int32 → Int32 → Int32 → Hp → Option (Hp)) (x0 : Nat) (x1 : Int32) (x3 : Int32) (x5 : Int32) (x7 : Int32) (x8 : Int32) (y0 : Int32) (h : Hp) : Option (Hp) := k71 x0 x1 x3 x5 y0 x7 x8 h
theorem wfX7_unpackBytes_69 {k71 : Nat → Int32 → Int32 → Int32 → Int32 → Int32 → Int32 → Hp → Option (Hp)} {h9 : Hp} (X : Cx p E A 9 R s m args c cX7_unpackBytes yX7_unpackBytes.cls 9) (hr : meth.sig.returnType = none) (hlk : meth.locks = false) (hnm : meth.name = yX7_unpackBytes.name) (hk71 : ∀ (x0 : Nat) (x1 : Int32) (x3 : Int32) (x5 : Int32) (x6 : Int32) (x7 : Int32) (x8 : Int32) (h : Hp) (H : Heap) (locs : List Loc) (ls : Array Slot), lv_has ls 9 [(0, rv x0), (1, .int x1), (3, .int x3), (5, .int x5), (6, .int x6), (7, .int x7), (8, .int x8)] → St E A s h H locs → k71 x0 x1 x3 x5 x6 x7 x8 h = some h9 → W p l e R s m args below meth c H locs 0 0 (MQ below (Qv E A h9) args s 0 0 A) (F0 m 71 ls [])) :
    ∀ (x0 : Nat) (x1 : Int32) (x3 : Int32) (x5 : Int32) (x7 : Int32) (x8 : Int32) (y0 : Int32) (h : Hp) (H : Heap) (locs : List Loc) (ls : Array Slot), lv_has ls 9 [(0, rv x0), (1, .int x1), (3, .int x3), (5, .int x5), (7, .int x7), (8, .int x8)] → St E A s h H locs → fX7_unpackBytes_69 k71 x0 x1 x3 x5 x7 x8 y0 h = some h9 → W p l e R s m args below meth c H locs 0 0 (MQ below (Qv E A h9) args s 0 0 A) (F0 m 69 ls [.int y0]) := by
  intro x0 x1 x3 x5 x7 x8 y0 h H locs ls hl S hf
  unfold fX7_unpackBytes_69 at hf
  refine lv_istore (lv' := [(6, .int y0), (0, rv x0), (1, .int x1), (3, .int x3), (5, .int x5), (7, .int x7), (8, .int x8)]) X.1 X.2.1 dX7_unpackBytes_69 hl (by decide) rfl (fun ls hl => ?_)
  exact hk71 _ _ _ _ _ _ _ _ _ _ _ (lv_sub hl [1, 2, 3, 4, 0, 5, 6] rfl) S hf
def fX7_unpackBytes_94 (k39 : Nat → Int32 → Int32 → Int32 → Int32 → Int32 → Int32 → Hp → Option (Hp)) (x0 : Nat) (x1 : Int32) (x3 : Int32) (x5 : Int32) (x6 : Int32) (x7 : Int32) (x8 : Int32) (y0 : Int32) (y1 : Int32) (y2 : Int32) (y3 : Nat) (h : Hp) : Option (Hp) := ob (fX10_put y3 y2 (y1 ||| y0) h) fun h => if x7 = 0 then lt (x8 + (-1)) fun z4 => k39 x0 x1 x3 x5 x6 1 z4 h else lt (x8 + (-1)) fun z3 => k39 x0 x1 x3 x5 x6 0 z3 h
theorem wfX7_unpackBytes_94 {k39 : Nat → Int32 → Int32 → Int32 → Int32 → Int32 → Int32 → Hp → Option (Hp)} {h9 : Hp} (X : Cx p E A 9 R s m args c cX7_unpackBytes yX7_unpackBytes.cls 9) (hr : meth.sig.returnType = none) (hlk : meth.locks = false) (hnm : meth.name = yX7_unpackBytes.name) (hk39 : ∀ (x0 : Nat) (x1 : Int32) (x3 : Int32) (x5 : Int32) (x6 : Int32) (x7 : Int32) (x8 : Int32) (h : Hp) (H : Heap) (locs : List Loc) (ls : Array Slot), lv_has ls 9 [(0, rv x0), (1, .int x1), (3, .int x3), (5, .int x5), (6, .int x6), (7, .int x7), (8, .int x8)] → St E A s h H locs → k39 x0 x1 x3 x5 x6 x7 x8 h = some h9 → W p l e R s m args below meth c H locs 0 0 (MQ below (Qv E A h9) args s 0 0 A) (F0 m 39 ls [])) :
    ∀ (x0 : Nat) (x1 : Int32) (x3 : Int32) (x5 : Int32) (x6 : Int32) (x7 : Int32) (x8 : Int32) (y0 : Int32) (y1 : Int32) (y2 : Int32) (y3 : Nat) (h : Hp) (H : Heap) (locs : List Loc) (ls : Array Slot), lv_has ls 9 [(0, rv x0), (1, .int x1), (3, .int x3), (5, .int x5), (6, .int x6), (7, .int x7), (8, .int x8)] → St E A s h H locs → fX7_unpackBytes_94 k39 x0 x1 x3 x5 x6 x7 x8 y0 y1 y2 y3 h = some h9 → W p l e R s m args below meth c H locs 0 0 (MQ below (Qv E A h9) args s 0 0 A) (F0 m 94 ls [.int y0, .int y1, .int y2, rv y3]) := by
  intro x0 x1 x3 x5 x6 x7 x8 y0 y1 y2 y3 h H locs ls hl S hf
  unfold fX7_unpackBytes_94 at hf
  refine lv_ior X.1 X.2.1 dX7_unpackBytes_94 ?_
  obtain ⟨h, hc, hf⟩ := ob_some hf
  refine g_cv S (runV (As := [.int y2, .int (y1 ||| y0)]) (rest := []) X S coX7_18 (by decide) (cX10_put_m l hc) (tkX10_put hc) rfl hl.1 (by decide) rfl ⟨Nat.zero_le _, Nat.zero_le _⟩ dX7_unpackBytes_95) (fun H locs S => ?_)
  refine lv_iload X.1 X.2.1 dX7_unpackBytes_98 (lv_at hl 5 rfl) ?_
  refine lv_if_ne (tgt := 107) X.1 X.2.1 dX7_unpackBytes_100 (by decide) (fun c2 => ?_) (fun c2 => ?_)
  · replace hf := (if_neg c2).symm.trans hf
    refine lv_iconst (v := 0) X.1 X.2.1 dX7_unpackBytes_107 (by decide) ?_
    refine lv_istore (lv' := [(7, .int 0), (0, rv x0), (1, .int x1), (3, .int x3), (5, .int x5), (6, .int x6), (8, .int x8)]) X.1 X.2.1 dX7_unpackBytes_108 hl (by decide) rfl (fun ls hl => ?_)
    obtain ⟨z3, ez3, hf⟩ := lt_some hf
    refine lv_iinc (v := z3) (lv' := [(8, .int z3), (7, .int 0), (0, rv x0), (1, .int x1), (3, .int x3), (5, .int x5), (6, .int x6)]) X.1 X.2.1 dX7_unpackBytes_110 hl (k := 6) rfl (by rw [← ez3]; rfl) (by decide) rfl (fun ls hl => ?_)
    refine lv_goto (tgt := 39) X.1 X.2.1 dX7_unpackBytes_113 (by decide) ?_
    exact hk39 _ _ _ _ _ _ _ _ _ _ _ (lv_sub hl [2, 3, 4, 5, 6, 1, 0] rfl) S hf
  · replace hf := (if_pos c2).symm.trans hf
    refine lv_iconst (v := 1) X.1 X.2.1 dX7_unpackBytes_103 (by decide) ?_
    refine lv_goto (tgt := 108) X.1 X.2.1 dX7_unpackBytes_104 (by decide) ?_
    refine lv_istore (lv' := [(7, .int 1), (0, rv x0), (1, .int x1), (3, .int x3), (5, .int x5), (6, .int x6), (8, .int x8)]) X.1 X.2.1 dX7_unpackBytes_108 hl (by decide) rfl (fun ls hl => ?_)
    obtain ⟨z4, ez4, hf⟩ := lt_some hf
    refine lv_iinc (v := z4) (lv' := [(8, .int z4), (7, .int 1), (0, rv x0), (1, .int x1), (3, .int x3), (5, .int x5), (6, .int x6)]) X.1 X.2.1 dX7_unpackBytes_110 hl (k := 6) rfl (by rw [← ez4]; rfl) (by decide) rfl (fun ls hl => ?_)
    refine lv_goto (tgt := 39) X.1 X.2.1 dX7_unpackBytes_113 (by decide) ?_
    exact hk39 _ _ _ _ _ _ _ _ _ _ _ (lv_sub hl [2, 3, 4, 5, 6, 1, 0] rfl) S hf
def fX7_unpackBytes_71 (k39 : Nat → Int32 → Int32 → Int32 → Int32 → Int32 → Int32 → Hp → Option (Hp)) (x0 : Nat) (x1 : Int32) (x3 : Int32) (x5 : Int32) (x6 : Int32) (x7 : Int32) (x8 : Int32) (h : Hp) : Option (Hp) := if x7 = 0 then fX7_unpackBytes_94 k39 x0 x1 x3 x5 x6 x7 x8 (x6 >>> ((4 : Int32) &&& 31)) 240 x8 x0 h else fX7_unpackBytes_94 k39 x0 x1 x3 x5 x6 x7 x8 (x6 &&& (15 : Int32)) 240 x8 x0 h
theorem wfX7_unpackBytes_71 {k39 : Nat → Int32 → Int32 → Int32 → Int32 → Int32 → Int32 → Hp → Option (Hp)} {h9 : Hp} (X : Cx p E A 9 R s m args c cX7_unpackBytes yX7_unpackBytes.cls 9) (hr : meth.sig.returnType = none) (hlk : meth.locks = false) (hnm : meth.name = yX7_unpackBytes.name) (hk39 : ∀ (x0 : Nat) (x1 : Int32) (x3 : Int32) (x5 : Int32) (x6 : Int32) (x7 : Int32) (x8 : Int32) (h : Hp) (H : Heap) (locs : List Loc) (ls : Array Slot), lv_has ls 9 [(0, rv x0), (1, .int x1), (3, .int x3), (5, .int x5), (6, .int x6), (7, .int x7), (8, .int x8)] → St E A s h H locs → k39 x0 x1 x3 x5 x6 x7 x8 h = some h9 → W p l e R s m args below meth c H locs 0 0 (MQ below (Qv E A h9) args s 0 0 A) (F0 m 39 ls [])) :
    ∀ (x0 : Nat) (x1 : Int32) (x3 : Int32) (x5 : Int32) (x6 : Int32) (x7 : Int32) (x8 : Int32) (h : Hp) (H : Heap) (locs : List Loc) (ls : Array Slot), lv_has ls 9 [(0, rv x0), (1, .int x1), (3, .int x3), (5, .int x5), (6, .int x6), (7, .int x7), (8, .int x8)] → St E A s h H locs → fX7_unpackBytes_71 k39 x0 x1 x3 x5 x6 x7 x8 h = some h9 → W p l e R s m args below meth c H locs 0 0 (MQ below (Qv E A h9) args s 0 0 A) (F0 m 71 ls []) := by
  intro x0 x1 x3 x5 x6 x7 x8 h H locs ls hl S hf
  unfold fX7_unpackBytes_71 at hf
  refine g_aload_n X (or_rv _) dX7_unpackBytes_71 rfl (lv_at hl 0 rfl) ?_
  refine lv_iload X.1 X.2.1 dX7_unpackBytes_72 (lv_at hl 6 rfl) ?_
  refine lv_sipush (v := 240) X.1 X.2.1 dX7_unpackBytes_74 (by decide) ?_
  refine lv_iload X.1 X.2.1 dX7_unpackBytes_77 (lv_at hl 5 rfl) ?_
  refine lv_if_eq (tgt := 90) X.1 X.2.1 dX7_unpackBytes_79 (by decide) (fun c1 => ?_) (fun c1 => ?_)
  · replace hf := (if_pos c1).symm.trans hf
    refine lv_iload X.1 X.2.1 dX7_unpackBytes_90 (lv_at hl 4 rfl) ?_
    refine lv_iconst (v := 4) X.1 X.2.1 dX7_unpackBytes_92 (by decide) ?_
    refine lv_ishr X.1 X.2.1 dX7_unpackBytes_93 ?_
    exact wfX7_unpackBytes_94 X hr hlk hnm hk39 _ _ _ _ _ _ _ _ _ _ _ _ _ _ _ hl S hf
  · replace hf := (if_neg c1).symm.trans hf
    refine lv_iload X.1 X.2.1 dX7_unpackBytes_82 (lv_at hl 4 rfl) ?_
    refine lv_bipush (v := 15) X.1 X.2.1 dX7_unpackBytes_84 (by decide) ?_
    refine lv_iand X.1 X.2.1 dX7_unpackBytes_86 ?_
    refine lv_goto (tgt := 94) X.1 X.2.1 dX7_unpackBytes_87 (by decide) ?_
    exact wfX7_unpackBytes_94 X hr hlk hnm hk39 _ _ _ _ _ _ _ _ _ _ _ _ _ _ _ hl S hf
def fX7_unpackBytes_39 (k39 : Nat → Int32 → Int32 → Int32 → Int32 → Int32 → Int32 → Hp → Option (Hp)) (x0 : Nat) (x1 : Int32) (x3 : Int32) (x5 : Int32) (x6 : Int32) (x7 : Int32) (x8 : Int32) (h : Hp) : Option (Hp) := if x8 < x1 then some h else if x7 = 0 then fX7_unpackBytes_71 k39 x0 x1 x3 x5 x6 x7 x8 h else lt (x5 + (-1)) fun z3 => if z3 < x3 then fX7_unpackBytes_69 (fX7_unpackBytes_71 k39) x0 x1 x3 z3 x7 x8 0 h else ob (fX10_cell x0 z3 h) fun v5 => fX7_unpackBytes_69 (fX7_unpackBytes_71 k39) x0 x1 x3 z3 x7 x8 v5 h
theorem wfX7_unpackBytes_39 {k39 : Nat → Int32 → Int32 → Int32 → Int32 → Int32 → Int32 → Hp → Option (Hp)} {h9 : Hp} (X : Cx p E A 9 R s m args c cX7_unpackBytes yX7_unpackBytes.cls 9) (hr : meth.sig.returnType = none) (hlk : meth.locks = false) (hnm : meth.name = yX7_unpackBytes.name) (hk39 : ∀ (x0 : Nat) (x1 : Int32) (x3 : Int32) (x5 : Int32) (x6 : Int32) (x7 : Int32) (x8 : Int32) (h : Hp) (H : Heap) (locs : List Loc) (ls : Array Slot), lv_has ls 9 [(0, rv x0), (1, .int x1), (3, .int x3), (5, .int x5), (6, .int x6), (7, .int x7), (8, .int x8)] → St E A s h H locs → k39 x0 x1 x3 x5 x6 x7 x8 h = some h9 → W p l e R s m args below meth c H locs 0 0 (MQ below (Qv E A h9) args s 0 0 A) (F0 m 39 ls [])) :
    ∀ (x0 : Nat) (x1 : Int32) (x3 : Int32) (x5 : Int32) (x6 : Int32) (x7 : Int32) (x8 : Int32) (h : Hp) (H : Heap) (locs : List Loc) (ls : Array Slot), lv_has ls 9 [(0, rv x0), (1, .int x1), (3, .int x3), (5, .int x5), (6, .int x6), (7, .int x7), (8, .int x8)] → St E A s h H locs → fX7_unpackBytes_39 k39 x0 x1 x3 x5 x6 x7 x8 h = some h9 → W p l e R s m args below meth c H locs 0 0 (MQ below (Qv E A h9) args s 0 0 A) (F0 m 39 ls []) := by
  intro x0 x1 x3 x5 x6 x7 x8 h H locs ls hl S hf
  unfold fX7_unpackBytes_39 at hf
  refine lv_iload X.1 X.2.1 dX7_unpackBytes_39 (lv_at hl 6 rfl) ?_
  refine lv_iload_n X.1 X.2.1 dX7_unpackBytes_41 rfl (lv_at hl 1 rfl) ?_
  refine lv_icmp_lt (tgt := 116) X.1 X.2.1 dX7_unpackBytes_42 (by decide) (fun c1 => ?_) (fun c1 => ?_)
  · replace hf := (if_pos c1).symm.trans hf
    cases hf; exact g_rv X S hr hlk dX7_unpackBytes_116
  · replace hf := (if_neg c1).symm.trans hf
    refine lv_iload X.1 X.2.1 dX7_unpackBytes_45 (lv_at hl 5 rfl) ?_
    refine lv_if_eq (tgt := 71) X.1 X.2.1 dX7_unpackBytes_47 (by decide) (fun c2 => ?_) (fun c2 => ?_)
    · replace hf := (if_pos c2).symm.trans hf
      exact wfX7_unpackBytes_71 X hr hlk hnm hk39 _ _ _ _ _ _ _ _ _ _ _ hl S hf
    · replace hf := (if_neg c2).symm.trans hf
      obtain ⟨z3, ez3, hf⟩ := lt_some hf
      refine lv_iinc (v := z3) (lv' := [(5, .int z3), (0, rv x0), (1, .int x1), (3, .int x3), (6, .int x6), (7, .int x7), (8, .int x8)]) X.1 X.2.1 dX7_unpackBytes_50 hl (k := 3) rfl (by rw [← ez3]; rfl) (by decide) rfl (fun ls hl => ?_)
      refine lv_iload X.1 X.2.1 dX7_unpackBytes_53 (lv_at hl 0 rfl) ?_
      refine lv_iload_n X.1 X.2.1 dX7_unpackBytes_55 rfl (lv_at hl 3 rfl) ?_
      refine lv_icmp_lt (tgt := 68) X.1 X.2.1 dX7_unpackBytes_56 (by decide) (fun c4 => ?_) (fun c4 => ?_)
      · replace hf := (if_pos c4).symm.trans hf
        refine lv_iconst (v := 0) X.1 X.2.1 dX7_unpackBytes_68 (by decide) ?_
        exact wfX7_unpackBytes_69 X hr hlk hnm (wfX7_unpackBytes_71 X hr hlk hnm hk39) _ _ _ _ _ _ _ _ _ _ _ (lv_sub hl [1, 2, 3, 0, 5, 6] rfl) S hf
      · replace hf := (if_neg c4).symm.trans hf
        refine g_aload_n X (or_rv _) dX7_unpackBytes_59 rfl (lv_at hl 1 rfl) ?_
        refine lv_iload X.1 X.2.1 dX7_unpackBytes_60 (lv_at hl 0 rfl) ?_
        obtain ⟨v5, hc, hf⟩ := ob_some hf
        refine g_ci S (runV (As := [.int z3]) (rest := []) X S coX7_7 (by decide) (cX10_cell_m l hc) (tkX10_cell hc) rfl hl.1 (by decide) rfl ⟨Nat.zero_le _, Nat.zero_le _⟩ dX7_unpackBytes_62) (fun H locs S => ?_)
        refine lv_goto (tgt := 69) X.1 X.2.1 dX7_unpackBytes_65 (by decide) ?_
        exact wfX7_unpackBytes_69 X hr hlk hnm (wfX7_unpackBytes_71 X hr hlk hnm hk39) _ _ _ _ _ _ _ _ _ _ _ (lv_sub hl [1, 2, 3, 0, 5, 6] rfl) S hf
theorem wfX7_unpackBytes_39_l {h9 : Hp} (X : Cx p E A 9 R s m args c cX7_unpackBytes yX7_unpackBytes.cls 9) (hr : meth.sig.returnType = none) (hlk : meth.locks = false) (hnm : meth.name = yX7_unpackBytes.name) :
    ∀ (n : Nat) (x0 : Nat) (x1 : Int32) (x3 : Int32) (x5 : Int32) (x6 : Int32) (x7 : Int32) (x8 : Int32) (h : Hp) (H : Heap) (locs : List Loc) (ls : Array Slot), lv_has ls 9 [(0, rv x0), (1, .int x1), (3, .int x3), (5, .int x5), (6, .int x6), (7, .int x7), (8, .int x8)] → St E A s h H locs → lp (fun _ _ _ _ _ _ _ _ => none) (fX7_unpackBytes_39) n x0 x1 x3 x5 x6 x7 x8 h = some h9 → W p l e R s m args below meth c H locs 0 0 (MQ below (Qv E A h9) args s 0 0 A) (F0 m 39 ls []) := by
  intro n
  induction n with
  | zero =>
    intro x0 x1 x3 x5 x6 x7 x8 h H locs ls hl S hf
    exact nomatch hf
  | succ n ih =>
    intro x0 x1 x3 x5 x6 x7 x8 h H locs ls hl S hf
    exact wfX7_unpackBytes_39 X hr hlk hnm ih x0 x1 x3 x5 x6 x7 x8 h H locs ls hl S hf
def fX7_unpackBytes (a0 : Nat) (a1 : Int32) (a2 : Int32) (a3 : Int32) (a4 : Int32) (h : Hp) : Option (Hp) := lt ((a3 + a4) - 1) fun z1 => ob (fX10_cell a0 z1 h) fun v2 => ob (fX7_turned v2) fun v3 => ob (fX10_put a0 ((a1 + a2) - 1) v3 h) fun h => lt ((a1 + a2) - 2) fun z5 => lp (fun _ _ _ _ _ _ _ _ => none) (fX7_unpackBytes_39) FU a0 a1 a3 z1 0 1 z5 h
theorem cX7_unpackBytes_m (l : Launch) {E : EE} {A : Nat → Prop} {a0 : Nat} {a1 : Int32} {a2 : Int32} {a3 : Int32} {a4 : Int32} {h : Hp} {h9 : Hp} (hf : fX7_unpackBytes a0 a1 a2 a3 a4 h = some h9) : Met l yX7_unpackBytes (wsM yX7_unpackBytes cX7_unpackBytes 9 none) (rmm 9 0 0) (PcE E A h [rv a0, .int a1, .int a2, .int a3, .int a4]) (Qv E A h9) 0 0 A := by
  refine met_of (by decide +kernel) (by simp [lg_sl, cat_rv, cat_wv, cat_sv, cat_i, cat_l, cat_a]) (fun p e s m args below meth c ls X hr hlk hnm S hl => ?_)
  have hl : lv_has ls 9 [(0, rv a0), (1, .int a1), (2, .int a2), (3, .int a3), (4, .int a4)] := by simpa [lv_args, cat_rv, cat_wv, cat_sv, cat_i, cat_l, cat_a] using hl
  generalize hH : s.heap = H at S ⊢
  generalize hlo : ([] : List Loc) = locs at S ⊢
  clear hH hlo
  unfold fX7_unpackBytes at hf
  refine lv_iload_n X.1 X.2.1 dX7_unpackBytes_0 rfl (lv_at hl 3 rfl) ?_
  refine lv_iload X.1 X.2.1 dX7_unpackBytes_1 (lv_at hl 4 rfl) ?_
  refine lv_iadd X.1 X.2.1 dX7_unpackBytes_3 ?_
  refine lv_iconst (v := 1) X.1 X.2.1 dX7_unpackBytes_4 (by decide) ?_
  refine lv_isub X.1 X.2.1 dX7_unpackBytes_5 ?_
  refine g_lti hf (fun z1 hf => ?_)
  refine lv_istore (lv' := [(5, .int z1), (0, rv a0), (1, .int a1), (2, .int a2), (3, .int a3), (4, .int a4)]) X.1 X.2.1 dX7_unpackBytes_6 hl (by decide) rfl (fun ls hl => ?_)
  refine g_aload_n X (or_rv _) dX7_unpackBytes_8 rfl (lv_at hl 1 rfl) ?_
  refine lv_iload_n X.1 X.2.1 dX7_unpackBytes_9 rfl (lv_at hl 2 rfl) ?_
  refine lv_iload_n X.1 X.2.1 dX7_unpackBytes_10 rfl (lv_at hl 3 rfl) ?_
  refine lv_iadd X.1 X.2.1 dX7_unpackBytes_11 ?_
  refine lv_iconst (v := 1) X.1 X.2.1 dX7_unpackBytes_12 (by decide) ?_
  refine lv_isub X.1 X.2.1 dX7_unpackBytes_13 ?_
  refine g_aload_n X (or_rv _) dX7_unpackBytes_14 rfl (lv_at hl 1 rfl) ?_
  refine lv_iload X.1 X.2.1 dX7_unpackBytes_15 (lv_at hl 0 rfl) ?_
  obtain ⟨v2, hc, hf⟩ := ob_some hf
  refine g_ci S (runV (As := [.int z1]) (rest := [.int ((a1 + a2) - 1), rv a0]) X S coX7_7 (by decide) (cX10_cell_m l hc) (tkX10_cell hc) rfl hl.1 (by simp [cat_rv, cat_wv, cat_sv, cat_i, cat_l, cat_a]) rfl ⟨Nat.zero_le _, Nat.zero_le _⟩ dX7_unpackBytes_17) (fun H locs S => ?_)
  obtain ⟨v3, hc, hf⟩ := ob_some hf
  refine g_ci S (runS (As := [.int v2]) (rest := [.int ((a1 + a2) - 1), rv a0]) X S coX7_13 (by decide) (cX7_turned_m l hc) rfl hl.1 (by simp [cat_rv, cat_wv, cat_sv, cat_i, cat_l, cat_a]) rfl ⟨Nat.zero_le _, Nat.zero_le _⟩ dX7_unpackBytes_20) (fun H locs S => ?_)
  obtain ⟨h, hc, hf⟩ := ob_some hf
  refine g_cv S (runV (As := [.int ((a1 + a2) - 1), .int v3]) (rest := []) X S coX7_18 (by decide) (cX10_put_m l hc) (tkX10_put hc) rfl hl.1 (by decide) rfl ⟨Nat.zero_le _, Nat.zero_le _⟩ dX7_unpackBytes_23) (fun H locs S => ?_)
  refine lv_iconst (v := 0) X.1 X.2.1 dX7_unpackBytes_26 (by decide) ?_
  refine lv_istore (lv' := [(6, .int 0), (5, .int z1), (0, rv a0), (1, .int a1), (2, .int a2), (3, .int a3), (4, .int a4)]) X.1 X.2.1 dX7_unpackBytes_27 hl (by decide) rfl (fun ls hl => ?_)
  refine lv_iconst (v := 1) X.1 X.2.1 dX7_unpackBytes_29 (by decide) ?_
  refine lv_istore (lv' := [(7, .int 1), (6, .int 0), (5, .int z1), (0, rv a0), (1, .int a1), (2, .int a2), (3, .int a3), (4, .int a4)]) X.1 X.2.1 dX7_unpackBytes_30 hl (by decide) rfl (fun ls hl => ?_)
  refine lv_iload_n X.1 X.2.1 dX7_unpackBytes_32 rfl (lv_at hl 4 rfl) ?_
  refine lv_iload_n X.1 X.2.1 dX7_unpackBytes_33 rfl (lv_at hl 5 rfl) ?_
  refine lv_iadd X.1 X.2.1 dX7_unpackBytes_34 ?_
  refine lv_iconst (v := 2) X.1 X.2.1 dX7_unpackBytes_35 (by decide) ?_
  refine lv_isub X.1 X.2.1 dX7_unpackBytes_36 ?_
  refine g_lti hf (fun z5 hf => ?_)
  refine lv_istore (lv' := [(8, .int z5), (7, .int 1), (6, .int 0), (5, .int z1), (0, rv a0), (1, .int a1), (2, .int a2), (3, .int a3), (4, .int a4)]) X.1 X.2.1 dX7_unpackBytes_37 hl (by decide) rfl (fun ls hl => ?_)
  exact wfX7_unpackBytes_39_l X hr hlk hnm FU _ _ _ _ _ _ _ _ _ _ _ (lv_sub hl [4, 5, 7, 3, 2, 1, 0] rfl) S hf
def fX7_offsetBytes_50 (k28 : Nat → Int32 → Int32 → Int32 → Int32 → Int32 → Hp → Option (Hp)) (x0 : Nat) (x1 : Int32) (x3 : Int32) (x5 : Int32) (x6 : Int32) (x7 : Int32) (y0 : Int32) (h : Hp) : Option (Hp) := ob (fX10_put x0 x7 (((y0 &&& (15 : Int32)) <<< ((4 : Int32) &&& 31)) ||| x6) h) fun h => lt (y0 >>> ((4 : Int32) &&& 31)) fun z2 => lt (x5 + (-1)) fun z3 => lt (x7 + (-1)) fun z4 => k28 x0 x1 x3 z3 z2 z4 h
theorem wfX7_offsetBytes_50 {k28 : Nat → Int32 → Int32 → Int32 → Int32 → Int32 → Hp → Option (Hp)} {h9 : Hp} (X : Cx p E A 9 R s m args c cX7_offsetBytes yX7_offsetBytes.cls 9) (hr : meth.sig.returnType = none) (hlk : meth.locks = false) (hnm : meth.name = yX7_offsetBytes.name) (hk28 : ∀ (x0 : Nat) (x1 : Int32) (x3 : Int32) (x5 : Int32) (x6 : Int32) (x7 : Int32) (h : Hp) (H : Heap) (locs : List Loc) (ls : Array Slot), lv_has ls 9 [(0, rv x0), (1, .int x1), (3, .int x3), (5, .int x5), (6, .int x6), (7, .int x7)] → St E A s h H locs → k28 x0 x1 x3 x5 x6 x7 h = some h9 → W p l e R s m args below meth c H locs 0 0 (MQ below (Qv E A h9) args s 0 0 A) (F0 m 28 ls [])) :
    ∀ (x0 : Nat) (x1 : Int32) (x3 : Int32) (x5 : Int32) (x6 : Int32) (x7 : Int32) (y0 : Int32) (h : Hp) (H : Heap) (locs : List Loc) (ls : Array Slot), lv_has ls 9 [(0, rv x0), (1, .int x1), (3, .int x3), (5, .int x5), (6, .int x6), (7, .int x7)] → St E A s h H locs → fX7_offsetBytes_50 k28 x0 x1 x3 x5 x6 x7 y0 h = some h9 → W p l e R s m args below meth c H locs 0 0 (MQ below (Qv E A h9) args s 0 0 A) (F0 m 50 ls [.int y0]) := by
  intro x0 x1 x3 x5 x6 x7 y0 h H locs ls hl S hf
  unfold fX7_offsetBytes_50 at hf
  refine lv_istore (lv' := [(8, .int y0), (0, rv x0), (1, .int x1), (3, .int x3), (5, .int x5), (6, .int x6), (7, .int x7)]) X.1 X.2.1 dX7_offsetBytes_50 hl (by decide) rfl (fun ls hl => ?_)
  refine g_aload_n X (or_rv _) dX7_offsetBytes_52 rfl (lv_at hl 1 rfl) ?_
  refine lv_iload X.1 X.2.1 dX7_offsetBytes_53 (lv_at hl 6 rfl) ?_
  refine lv_iload X.1 X.2.1 dX7_offsetBytes_55 (lv_at hl 0 rfl) ?_
  refine lv_bipush (v := 15) X.1 X.2.1 dX7_offsetBytes_57 (by decide) ?_
  refine lv_iand X.1 X.2.1 dX7_offsetBytes_59 ?_
  refine lv_iconst (v := 4) X.1 X.2.1 dX7_offsetBytes_60 (by decide) ?_
  refine lv_ishl X.1 X.2.1 dX7_offsetBytes_61 ?_
  refine lv_iload X.1 X.2.1 dX7_offsetBytes_62 (lv_at hl 5 rfl) ?_
  refine lv_ior X.1 X.2.1 dX7_offsetBytes_64 ?_
  obtain ⟨h, hc, hf⟩ := ob_some hf
  refine g_cv S (runV (As := [.int x7, .int (((y0 &&& (15 : Int32)) <<< ((4 : Int32) &&& 31)) ||| x6)]) (rest := []) X S coX7_18 (by decide) (cX10_put_m l hc) (tkX10_put hc) rfl hl.1 (by decide) rfl ⟨Nat.zero_le _, Nat.zero_le _⟩ dX7_offsetBytes_65) (fun H locs S => ?_)
  refine lv_iload X.1 X.2.1 dX7_offsetBytes_68 (lv_at hl 0 rfl) ?_
  refine lv_iconst (v := 4) X.1 X.2.1 dX7_offsetBytes_70 (by decide) ?_
  refine lv_ishr X.1 X.2.1 dX7_offsetBytes_71 ?_
  refine g_lti hf (fun z2 hf => ?_)
  refine lv_istore (lv' := [(6, .int z2), (8, .int y0), (0, rv x0), (1, .int x1), (3, .int x3), (5, .int x5), (7, .int x7)]) X.1 X.2.1 dX7_offsetBytes_72 hl (by decide) rfl (fun ls hl => ?_)
  obtain ⟨z3, ez3, hf⟩ := lt_some hf
  refine lv_iinc (v := z3) (lv' := [(5, .int z3), (6, .int z2), (8, .int y0), (0, rv x0), (1, .int x1), (3, .int x3), (7, .int x7)]) X.1 X.2.1 dX7_offsetBytes_74 hl (k := 5) rfl (by rw [← ez3]; rfl) (by decide) rfl (fun ls hl => ?_)
  obtain ⟨z4, ez4, hf⟩ := lt_some hf
  refine lv_iinc (v := z4) (lv' := [(7, .int z4), (5, .int z3), (6, .int z2), (8, .int y0), (0, rv x0), (1, .int x1), (3, .int x3)]) X.1 X.2.1 dX7_offsetBytes_77 hl (k := 6) rfl (by rw [← ez4]; rfl) (by decide) rfl (fun ls hl => ?_)
  refine lv_goto (tgt := 28) X.1 X.2.1 dX7_offsetBytes_80 (by decide) ?_
  exact hk28 _ _ _ _ _ _ _ _ _ _ (lv_sub hl [4, 5, 6, 1, 2, 0] rfl) S hf
def fX7_offsetBytes_28 (k28 : Nat → Int32 → Int32 → Int32 → Int32 → Int32 → Hp → Option (Hp)) (x0 : Nat) (x1 : Int32) (x3 : Int32) (x5 : Int32) (x6 : Int32) (x7 : Int32) (h : Hp) : Option (Hp) := if x7 < x1 then some h else if x5 < x3 then fX7_offsetBytes_50 k28 x0 x1 x3 x5 x6 x7 0 h else ob (fX10_cell x0 x5 h) fun v3 => fX7_offsetBytes_50 k28 x0 x1 x3 x5 x6 x7 v3 h
theorem wfX7_offsetBytes_28 {k28 : Nat → Int32 → Int32 → Int32 → Int32 → Int32 → Hp → Option (Hp)} {h9 : Hp} (X : Cx p E A 9 R s m args c cX7_offsetBytes yX7_offsetBytes.cls 9) (hr : meth.sig.returnType = none) (hlk : meth.locks = false) (hnm : meth.name = yX7_offsetBytes.name) (hk28 : ∀ (x0 : Nat) (x1 : Int32) (x3 : Int32) (x5 : Int32) (x6 : Int32) (x7 : Int32) (h : Hp) (H : Heap) (locs : List Loc) (ls : Array Slot), lv_has ls 9 [(0, rv x0), (1, .int x1), (3, .int x3), (5, .int x5), (6, .int x6), (7, .int x7)] → St E A s h H locs → k28 x0 x1 x3 x5 x6 x7 h = some h9 → W p l e R s m args below meth c H locs 0 0 (MQ below (Qv E A h9) args s 0 0 A) (F0 m 28 ls [])) :
    ∀ (x0 : Nat) (x1 : Int32) (x3 : Int32) (x5 : Int32) (x6 : Int32) (x7 : Int32) (h : Hp) (H : Heap) (locs : List Loc) (ls : Array Slot), lv_has ls 9 [(0, rv x0), (1, .int x1), (3, .int x3), (5, .int x5), (6, .int x6), (7, .int x7)] → St E A s h H locs → fX7_offsetBytes_28 k28 x0 x1 x3 x5 x6 x7 h = some h9 → W p l e R s m args below meth c H locs 0 0 (MQ below (Qv E A h9) args s 0 0 A) (F0 m 28 ls []) := by
  intro x0 x1 x3 x5 x6 x7 h H locs ls hl S hf
  unfold fX7_offsetBytes_28 at hf
  refine lv_iload X.1 X.2.1 dX7_offsetBytes_28 (lv_at hl 5 rfl) ?_
  refine lv_iload_n X.1 X.2.1 dX7_offsetBytes_30 rfl (lv_at hl 1 rfl) ?_
  refine lv_icmp_lt (tgt := 83) X.1 X.2.1 dX7_offsetBytes_31 (by decide) (fun c1 => ?_) (fun c1 => ?_)
  · replace hf := (if_pos c1).symm.trans hf
    cases hf; exact g_rv X S hr hlk dX7_offsetBytes_83
  · replace hf := (if_neg c1).symm.trans hf
    refine lv_iload X.1 X.2.1 dX7_offsetBytes_34 (lv_at hl 3 rfl) ?_
    refine lv_iload_n X.1 X.2.1 dX7_offsetBytes_36 rfl (lv_at hl 2 rfl) ?_
    refine lv_icmp_lt (tgt := 49) X.1 X.2.1 dX7_offsetBytes_37 (by decide) (fun c2 => ?_) (fun c2 => ?_)
    · replace hf := (if_pos c2).symm.trans hf
      refine lv_iconst (v := 0) X.1 X.2.1 dX7_offsetBytes_49 (by decide) ?_
      exact wfX7_offsetBytes_50 X hr hlk hnm hk28 _ _ _ _ _ _ _ _ _ _ _ hl S hf
    · replace hf := (if_neg c2).symm.trans hf
      refine g_aload_n X (or_rv _) dX7_offsetBytes_40 rfl (lv_at hl 0 rfl) ?_
      refine lv_iload X.1 X.2.1 dX7_offsetBytes_41 (lv_at hl 3 rfl) ?_
      obtain ⟨v3, hc, hf⟩ := ob_some hf
      refine g_ci S (runV (As := [.int x5]) (rest := []) X S coX7_7 (by decide) (cX10_cell_m l hc) (tkX10_cell hc) rfl hl.1 (by decide) rfl ⟨Nat.zero_le _, Nat.zero_le _⟩ dX7_offsetBytes_43) (fun H locs S => ?_)
      refine lv_goto (tgt := 50) X.1 X.2.1 dX7_offsetBytes_46 (by decide) ?_
      exact wfX7_offsetBytes_50 X hr hlk hnm hk28 _ _ _ _ _ _ _ _ _ _ _ hl S hf
theorem wfX7_offsetBytes_28_l {h9 : Hp} (X : Cx p E A 9 R s m args c cX7_offsetBytes yX7_offsetBytes.cls 9) (hr : meth.sig.returnType = none) (hlk : meth.locks = false) (hnm : meth.name = yX7_offsetBytes.name) :
    ∀ (n : Nat) (x0 : Nat) (x1 : Int32) (x3 : Int32) (x5 : Int32) (x6 : Int32) (x7 : Int32) (h : Hp) (H : Heap) (locs : List Loc) (ls : Array Slot), lv_has ls 9 [(0, rv x0), (1, .int x1), (3, .int x3), (5, .int x5), (6, .int x6), (7, .int x7)] → St E A s h H locs → lp (fun _ _ _ _ _ _ _ => none) (fX7_offsetBytes_28) n x0 x1 x3 x5 x6 x7 h = some h9 → W p l e R s m args below meth c H locs 0 0 (MQ below (Qv E A h9) args s 0 0 A) (F0 m 28 ls []) := by
  intro n
  induction n with
  | zero =>
    intro x0 x1 x3 x5 x6 x7 h H locs ls hl S hf
    exact nomatch hf
  | succ n ih =>
    intro x0 x1 x3 x5 x6 x7 h H locs ls hl S hf
    exact wfX7_offsetBytes_28 X hr hlk hnm ih x0 x1 x3 x5 x6 x7 h H locs ls hl S hf
def fX7_offsetBytes (a0 : Nat) (a1 : Int32) (a2 : Int32) (a3 : Int32) (a4 : Int32) (h : Hp) : Option (Hp) := lt ((a3 + a4) - 1) fun z1 => ob (fX10_half a0 ((2 * (a1 + a2)) - 1) h) fun v2 => lt ((a1 + a2) - 1) fun z3 => lp (fun _ _ _ _ _ _ _ => none) (fX7_offsetBytes_28) FU a0 a1 a3 z1 v2 z3 h
theorem cX7_offsetBytes_m (l : Launch) {E : EE} {A : Nat → Prop} {a0 : Nat} {a1 : Int32} {a2 : Int32} {a3 : Int32} {a4 : Int32} {h : Hp} {h9 : Hp} (hf : fX7_offsetBytes a0 a1 a2 a3 a4 h = some h9) : Met l yX7_offsetBytes (wsM yX7_offsetBytes cX7_offsetBytes 9 none) (rmm 9 0 0) (PcE E A h [rv a0, .int a1, .int a2, .int a3, .int a4]) (Qv E A h9) 0 0 A := by
  refine met_of (by decide +kernel) (by simp [lg_sl, cat_rv, cat_wv, cat_sv, cat_i, cat_l, cat_a]) (fun p e s m args below meth c ls X hr hlk hnm S hl => ?_)
  have hl : lv_has ls 9 [(0, rv a0), (1, .int a1), (2, .int a2), (3, .int a3), (4, .int a4)] := by simpa [lv_args, cat_rv, cat_wv, cat_sv, cat_i, cat_l, cat_a] using hl
  generalize hH : s.heap = H at S ⊢
  generalize hlo : ([] : List Loc) = locs at S ⊢
  clear hH hlo
  unfold fX7_offsetBytes at hf
  refine lv_iload_n X.1 X.2.1 dX7_offsetBytes_0 rfl (lv_at hl 3 rfl) ?_
  refine lv_iload X.1 X.2.1 dX7_offsetBytes_1 (lv_at hl 4 rfl) ?_
  refine lv_iadd X.1 X.2.1 dX7_offsetBytes_3 ?_
  refine lv_iconst (v := 1) X.1 X.2.1 dX7_offsetBytes_4 (by decide) ?_
  refine lv_isub X.1 X.2.1 dX7_offsetBytes_5 ?_
  refine g_lti hf (fun z1 hf => ?_)
  refine lv_istore (lv' := [(5, .int z1), (0, rv a0), (1, .int a1), (2, .int a2), (3, .int a3), (4, .int a4)]) X.1 X.2.1 dX7_offsetBytes_6 hl (by decide) rfl (fun ls hl => ?_)
  refine g_aload_n X (or_rv _) dX7_offsetBytes_8 rfl (lv_at hl 1 rfl) ?_
  refine lv_iconst (v := 2) X.1 X.2.1 dX7_offsetBytes_9 (by decide) ?_
  refine lv_iload_n X.1 X.2.1 dX7_offsetBytes_10 rfl (lv_at hl 2 rfl) ?_
  refine lv_iload_n X.1 X.2.1 dX7_offsetBytes_11 rfl (lv_at hl 3 rfl) ?_
  refine lv_iadd X.1 X.2.1 dX7_offsetBytes_12 ?_
  refine lv_imul X.1 X.2.1 dX7_offsetBytes_13 ?_
  refine lv_iconst (v := 1) X.1 X.2.1 dX7_offsetBytes_14 (by decide) ?_
  refine lv_isub X.1 X.2.1 dX7_offsetBytes_15 ?_
  obtain ⟨v2, hc, hf⟩ := ob_some hf
  refine g_ci S (runV (As := [.int ((2 * (a1 + a2)) - 1)]) (rest := []) X S coX7_22 (by decide) (cX10_half_m l hc) (tkX10_half hc) rfl hl.1 (by decide) rfl ⟨Nat.zero_le _, Nat.zero_le _⟩ dX7_offsetBytes_16) (fun H locs S => ?_)
  refine lv_istore (lv' := [(6, .int v2), (5, .int z1), (0, rv a0), (1, .int a1), (2, .int a2), (3, .int a3), (4, .int a4)]) X.1 X.2.1 dX7_offsetBytes_19 hl (by decide) rfl (fun ls hl => ?_)
  refine lv_iload_n X.1 X.2.1 dX7_offsetBytes_21 rfl (lv_at hl 3 rfl) ?_
  refine lv_iload_n X.1 X.2.1 dX7_offsetBytes_22 rfl (lv_at hl 4 rfl) ?_
  refine lv_iadd X.1 X.2.1 dX7_offsetBytes_23 ?_
  refine lv_iconst (v := 1) X.1 X.2.1 dX7_offsetBytes_24 (by decide) ?_
  refine lv_isub X.1 X.2.1 dX7_offsetBytes_25 ?_
  refine g_lti hf (fun z3 hf => ?_)
  refine lv_istore (lv' := [(7, .int z3), (6, .int v2), (5, .int z1), (0, rv a0), (1, .int a1), (2, .int a2), (3, .int a3), (4, .int a4)]) X.1 X.2.1 dX7_offsetBytes_26 hl (by decide) rfl (fun ls hl => ?_)
  exact wfX7_offsetBytes_28_l X hr hlk hnm FU _ _ _ _ _ _ _ _ _ _ (lv_sub hl [3, 4, 6, 2, 1, 0] rfl) S hf
def fX7_copyBytes_3 (k3 : Nat → Int32 → Int32 → Int32 → Int32 → Int32 → Hp → Option (Hp)) (x0 : Nat) (x1 : Int32) (x2 : Int32) (x3 : Int32) (x4 : Int32) (x5 : Int32) (h : Hp) : Option (Hp) := if x2 ≤ x5 then some h else ob (fX10_cell x0 (x1 + x5) h) fun v2 => lt (v2 &&& (x4 ^^^ (-1 : Int32))) fun z3 => ob (fX10_cell x0 (x3 + x5) h) fun v4 => ob (fX10_put x0 (x1 + x5) (z3 ||| (v4 &&& x4)) h) fun h => lt (x5 + 1) fun z6 => k3 x0 x1 x2 x3 x4 z6 h
theorem wfX7_copyBytes_3 {k3 : Nat → Int32 → Int32 → Int32 → Int32 → Int32 → Hp → Option (Hp)} {h9 : Hp} (X : Cx p E A 9 R s m args c cX7_copyBytes yX7_copyBytes.cls 7) (hr : meth.sig.returnType = none) (hlk : meth.locks = false) (hnm : meth.name = yX7_copyBytes.name) (hk3 : ∀ (x0 : Nat) (x1 : Int32) (x2 : Int32) (x3 : Int32) (x4 : Int32) (x5 : Int32) (h : Hp) (H : Heap) (locs : List Loc) (ls : Array Slot), lv_has ls 7 [(0, rv x0), (1, .int x1), (2, .int x2), (3, .int x3), (4, .int x4), (5, .int x5)] → St E A s h H locs → k3 x0 x1 x2 x3 x4 x5 h = some h9 → W p l e R s m args below meth c H locs 0 0 (MQ below (Qv E A h9) args s 0 0 A) (F0 m 3 ls [])) :
    ∀ (x0 : Nat) (x1 : Int32) (x2 : Int32) (x3 : Int32) (x4 : Int32) (x5 : Int32) (h : Hp) (H : Heap) (locs : List Loc) (ls : Array Slot), lv_has ls 7 [(0, rv x0), (1, .int x1), (2, .int x2), (3, .int x3), (4, .int x4), (5, .int x5)] → St E A s h H locs → fX7_copyBytes_3 k3 x0 x1 x2 x3 x4 x5 h = some h9 → W p l e R s m args below meth c H locs 0 0 (MQ below (Qv E A h9) args s 0 0 A) (F0 m 3 ls []) := by
  intro x0 x1 x2 x3 x4 x5 h H locs ls hl S hf
  unfold fX7_copyBytes_3 at hf
  refine lv_iload X.1 X.2.1 dX7_copyBytes_3 (lv_at hl 5 rfl) ?_
  refine lv_iload_n X.1 X.2.1 dX7_copyBytes_5 rfl (lv_at hl 2 rfl) ?_
  refine lv_icmp_ge (tgt := 52) X.1 X.2.1 dX7_copyBytes_6 (by decide) (fun c1 => ?_) (fun c1 => ?_)
  · replace hf := (if_pos c1).symm.trans hf
    cases hf; exact g_rv X S hr hlk dX7_copyBytes_52
  · replace hf := (if_neg c1).symm.trans hf
    refine g_aload_n X (or_rv _) dX7_copyBytes_9 rfl (lv_at hl 0 rfl) ?_
    refine lv_iload_n X.1 X.2.1 dX7_copyBytes_10 rfl (lv_at hl 1 rfl) ?_
    refine lv_iload X.1 X.2.1 dX7_copyBytes_11 (lv_at hl 5 rfl) ?_
    refine lv_iadd X.1 X.2.1 dX7_copyBytes_13 ?_
    obtain ⟨v2, hc, hf⟩ := ob_some hf
    refine g_ci S (runV (As := [.int (x1 + x5)]) (rest := []) X S coX7_7 (by decide) (cX10_cell_m l hc) (tkX10_cell hc) rfl hl.1 (by decide) rfl ⟨Nat.zero_le _, Nat.zero_le _⟩ dX7_copyBytes_14) (fun H locs S => ?_)
    refine lv_iload X.1 X.2.1 dX7_copyBytes_17 (lv_at hl 4 rfl) ?_
    refine lv_iconst (v := (-1)) X.1 X.2.1 dX7_copyBytes_19 (by decide) ?_
    refine lv_ixor X.1 X.2.1 dX7_copyBytes_20 ?_
    refine lv_iand X.1 X.2.1 dX7_copyBytes_21 ?_
    refine g_lti hf (fun z3 hf => ?_)
    refine lv_istore (lv' := [(6, .int z3), (0, rv x0), (1, .int x1), (2, .int x2), (3, .int x3), (4, .int x4), (5, .int x5)]) X.1 X.2.1 dX7_copyBytes_22 hl (by decide) rfl (fun ls hl => ?_)
    refine g_aload_n X (or_rv _) dX7_copyBytes_24 rfl (lv_at hl 1 rfl) ?_
    refine lv_iload_n X.1 X.2.1 dX7_copyBytes_25 rfl (lv_at hl 2 rfl) ?_
    refine lv_iload X.1 X.2.1 dX7_copyBytes_26 (lv_at hl 6 rfl) ?_
    refine lv_iadd X.1 X.2.1 dX7_copyBytes_28 ?_
    refine lv_iload X.1 X.2.1 dX7_copyBytes_29 (lv_at hl 0 rfl) ?_
    refine g_aload_n X (or_rv _) dX7_copyBytes_31 rfl (lv_at hl 1 rfl) ?_
    refine lv_iload_n X.1 X.2.1 dX7_copyBytes_32 rfl (lv_at hl 4 rfl) ?_
    refine lv_iload X.1 X.2.1 dX7_copyBytes_33 (lv_at hl 6 rfl) ?_
    refine lv_iadd X.1 X.2.1 dX7_copyBytes_35 ?_
    obtain ⟨v4, hc, hf⟩ := ob_some hf
    refine g_ci S (runV (As := [.int (x3 + x5)]) (rest := [.int z3, .int (x1 + x5), rv x0]) X S coX7_7 (by decide) (cX10_cell_m l hc) (tkX10_cell hc) rfl hl.1 (by simp [cat_rv, cat_wv, cat_sv, cat_i, cat_l, cat_a]) rfl ⟨Nat.zero_le _, Nat.zero_le _⟩ dX7_copyBytes_36) (fun H locs S => ?_)
    refine lv_iload X.1 X.2.1 dX7_copyBytes_39 (lv_at hl 5 rfl) ?_
    refine lv_iand X.1 X.2.1 dX7_copyBytes_41 ?_
    refine lv_ior X.1 X.2.1 dX7_copyBytes_42 ?_
    obtain ⟨h, hc, hf⟩ := ob_some hf
    refine g_cv S (runV (As := [.int (x1 + x5), .int (z3 ||| (v4 &&& x4))]) (rest := []) X S coX7_18 (by decide) (cX10_put_m l hc) (tkX10_put hc) rfl hl.1 (by decide) rfl ⟨Nat.zero_le _, Nat.zero_le _⟩ dX7_copyBytes_43) (fun H locs S => ?_)
    obtain ⟨z6, ez6, hf⟩ := lt_some hf
    refine lv_iinc (v := z6) (lv' := [(5, .int z6), (6, .int z3), (0, rv x0), (1, .int x1), (2, .int x2), (3, .int x3), (4, .int x4)]) X.1 X.2.1 dX7_copyBytes_46 hl (k := 6) rfl (by rw [← ez6]; rfl) (by decide) rfl (fun ls hl => ?_)
    refine lv_goto (tgt := 3) X.1 X.2.1 dX7_copyBytes_49 (by decide) ?_
    exact hk3 _ _ _ _ _ _ _ _ _ _ (lv_sub hl [2, 3, 4, 5, 6, 0] rfl) S hf
theorem wfX7_copyBytes_3_l {h9 : Hp} (X : Cx p E A 9 R s m args c cX7_copyBytes yX7_copyBytes.cls 7) (hr : meth.sig.returnType = none) (hlk : meth.locks = false) (hnm : meth.name = yX7_copyBytes.name) :
    ∀ (n : Nat) (x0 : Nat) (x1 : Int32) (x2 : Int32) (x3 : Int32) (x4 : Int32) (x5 : Int32) (h : Hp) (H : Heap) (locs : List Loc) (ls : Array Slot), lv_has ls 7 [(0, rv x0), (1, .int x1), (2, .int x2), (3, .int x3), (4, .int x4), (5, .int x5)] → St E A s h H locs → lp (fun _ _ _ _ _ _ _ => none) (fX7_copyBytes_3) n x0 x1 x2 x3 x4 x5 h = some h9 → W p l e R s m args below meth c H locs 0 0 (MQ below (Qv E A h9) args s 0 0 A) (F0 m 3 ls []) := by
  intro n
  induction n with
  | zero =>
    intro x0 x1 x2 x3 x4 x5 h H locs ls hl S hf
    exact nomatch hf
  | succ n ih =>
    intro x0 x1 x2 x3 x4 x5 h H locs ls hl S hf
    exact wfX7_copyBytes_3 X hr hlk hnm ih x0 x1 x2 x3 x4 x5 h H locs ls hl S hf
def fX7_copyBytes (a0 : Nat) (a1 : Int32) (a2 : Int32) (a3 : Int32) (a4 : Int32) (h : Hp) : Option (Hp) := lp (fun _ _ _ _ _ _ _ => none) (fX7_copyBytes_3) FU a0 a1 a2 a3 a4 0 h
theorem cX7_copyBytes_m (l : Launch) {E : EE} {A : Nat → Prop} {a0 : Nat} {a1 : Int32} {a2 : Int32} {a3 : Int32} {a4 : Int32} {h : Hp} {h9 : Hp} (hf : fX7_copyBytes a0 a1 a2 a3 a4 h = some h9) : Met l yX7_copyBytes (wsM yX7_copyBytes cX7_copyBytes 7 none) (rmm 9 0 0) (PcE E A h [rv a0, .int a1, .int a2, .int a3, .int a4]) (Qv E A h9) 0 0 A := by
  refine met_of (by decide +kernel) (by simp [lg_sl, cat_rv, cat_wv, cat_sv, cat_i, cat_l, cat_a]) (fun p e s m args below meth c ls X hr hlk hnm S hl => ?_)
  have hl : lv_has ls 7 [(0, rv a0), (1, .int a1), (2, .int a2), (3, .int a3), (4, .int a4)] := by simpa [lv_args, cat_rv, cat_wv, cat_sv, cat_i, cat_l, cat_a] using hl
  generalize hH : s.heap = H at S ⊢
  generalize hlo : ([] : List Loc) = locs at S ⊢
  clear hH hlo
  unfold fX7_copyBytes at hf
  refine lv_iconst (v := 0) X.1 X.2.1 dX7_copyBytes_0 (by decide) ?_
  refine lv_istore (lv' := [(5, .int 0), (0, rv a0), (1, .int a1), (2, .int a2), (3, .int a3), (4, .int a4)]) X.1 X.2.1 dX7_copyBytes_1 hl (by decide) rfl (fun ls hl => ?_)
  exact wfX7_copyBytes_3_l X hr hlk hnm FU _ _ _ _ _ _ _ _ _ _ (lv_sub hl [1, 2, 3, 4, 5, 0] rfl) S hf
def fX1_sign (a0 : Nat) (h : Hp) : Option (Int32) := gd 1 a0 h (ob (gI 1 a0 2 h) fun v1 => if v1 = 0 then some 12 else ob (gI 1 a0 1 h) fun v3 => if v3 ≤ 0 then some 12 else some 13)
theorem tkX1_sign {a0 : Nat} {h : Hp} {r9 : Int32} (e : fX1_sign a0 h = some r9) : hK h a0 = 1 := by
  unfold fX1_sign at e
  exact (gd_some e).1
theorem cX1_sign_m (l : Launch) {E : EE} {A : Nat → Prop} {a0 : Nat} {h : Hp} {r9 : Int32} (hf : fX1_sign a0 h = some r9) : Met l yX1_sign (wsM yX1_sign cX1_sign 1 (some .int)) (rmm 8 0 0) (PcE E A h [rv a0]) (Qi E A h r9) 0 0 A := by
  refine met_of (by decide +kernel) (by simp [lg_sl, cat_rv, cat_wv, cat_sv, cat_i, cat_l, cat_a]) (fun p e s m args below meth c ls X hr hlk hnm S hl => ?_)
  have hl : lv_has ls 1 [(0, rv a0)] := by simpa [lv_args, cat_rv, cat_wv, cat_sv, cat_i, cat_l, cat_a] using hl
  generalize hH : s.heap = H at S ⊢
  generalize hlo : ([] : List Loc) = locs at S ⊢
  clear hH hlo
  unfold fX1_sign at hf
  obtain ⟨hth, hf⟩ := gd_some hf
  refine g_aload_n X (or_rv _) dX1_sign_0 rfl (lv_at hl 0 rfl) ?_
  refine g_gI X S foX1_19 rfl dX1_sign_1 hf (fun v1 hf => ?_)
  refine lv_if_eq (tgt := 19) X.1 X.2.1 dX1_sign_4 (by decide) (fun c2 => ?_) (fun c2 => ?_)
  · replace hf := (if_pos c2).symm.trans hf
    refine lv_bipush (v := 12) X.1 X.2.1 dX1_sign_19 (by decide) ?_
    cases hf; exact g_ri X S hr hlk dX1_sign_21
  · replace hf := (if_neg c2).symm.trans hf
    refine g_aload_n X (or_rv _) dX1_sign_7 rfl (lv_at hl 0 rfl) ?_
    refine g_gI X S foX1_15 rfl dX1_sign_8 hf (fun v3 hf => ?_)
    refine lv_if_le (tgt := 19) X.1 X.2.1 dX1_sign_11 (by decide) (fun c4 => ?_) (fun c4 => ?_)
    · replace hf := (if_pos c4).symm.trans hf
      refine lv_bipush (v := 12) X.1 X.2.1 dX1_sign_19 (by decide) ?_
      cases hf; exact g_ri X S hr hlk dX1_sign_21
    · replace hf := (if_neg c4).symm.trans hf
      refine lv_bipush (v := 13) X.1 X.2.1 dX1_sign_14 (by decide) ?_
      refine lv_goto (tgt := 21) X.1 X.2.1 dX1_sign_16 (by decide) ?_
      cases hf; exact g_ri X S hr hlk dX1_sign_21
def fX1_put_68 (k7 : Nat → Nat → Int32 → Int32 → Int32 → Int32 → Hp → Option (Hp)) (x0 : Nat) (x1 : Nat) (x2 : Int32) (x3 : Int32) (x6 : Int32) (h : Hp) : Option (Hp) := ob (gR 1 x0 0 h) fun v1 => ob (aI v1 ((2 * x6) + 1) h) fun v2 => lt (x6 + 1) fun z3 => k7 x0 x1 x2 x3 v2 z3 h
theorem wfX1_put_68 {k7 : Nat → Nat → Int32 → Int32 → Int32 → Int32 → Hp → Option (Hp)} {h9 : Hp} (X : Cx p E A 8 R s m args c cX1_put yX1_put.cls 8) (hr : meth.sig.returnType = none) (hlk : meth.locks = false) (hnm : meth.name = yX1_put.name) (hk7 : ∀ (x0 : Nat) (x1 : Nat) (x2 : Int32) (x3 : Int32) (x5 : Int32) (x6 : Int32) (h : Hp) (H : Heap) (locs : List Loc) (ls : Array Slot), lv_has ls 8 [(0, rv x0), (1, rv x1), (2, .int x2), (3, .int x3), (5, .int x5), (6, .int x6)] → St E A s h H locs → k7 x0 x1 x2 x3 x5 x6 h = some h9 → W p l e R s m args below meth c H locs 0 0 (MQ below (Qv E A h9) args s 0 0 A) (F0 m 7 ls [])) :
    ∀ (x0 : Nat) (x1 : Nat) (x2 : Int32) (x3 : Int32) (x6 : Int32) (h : Hp) (H : Heap) (locs : List Loc) (ls : Array Slot), lv_has ls 8 [(0, rv x0), (1, rv x1), (2, .int x2), (3, .int x3), (6, .int x6)] → St E A s h H locs → fX1_put_68 k7 x0 x1 x2 x3 x6 h = some h9 → W p l e R s m args below meth c H locs 0 0 (MQ below (Qv E A h9) args s 0 0 A) (F0 m 68 ls []) := by
  intro x0 x1 x2 x3 x6 h H locs ls hl S hf
  unfold fX1_put_68 at hf
  refine g_aload_n X (or_rv _) dX1_put_68 rfl (lv_at hl 0 rfl) ?_
  refine g_gR X S foX1_11 dX1_put_69 hf (fun v1 hf => ?_)
  refine lv_iconst (v := 2) X.1 X.2.1 dX1_put_72 (by decide) ?_
  refine lv_iload X.1 X.2.1 dX1_put_73 (lv_at hl 4 rfl) ?_
  refine lv_imul X.1 X.2.1 dX1_put_75 ?_
  refine lv_iconst (v := 1) X.1 X.2.1 dX1_put_76 (by decide) ?_
  refine lv_iadd X.1 X.2.1 dX1_put_77 ?_
  refine g_aI X S dX1_put_78 hf (fun v2 hf => ?_)
  refine lv_istore (lv' := [(5, .int v2), (0, rv x0), (1, rv x1), (2, .int x2), (3, .int x3), (6, .int x6)]) X.1 X.2.1 dX1_put_79 hl (by decide) rfl (fun ls hl => ?_)
  obtain ⟨z3, ez3, hf⟩ := lt_some hf
  refine lv_iinc (v := z3) (lv' := [(6, .int z3), (5, .int v2), (0, rv x0), (1, rv x1), (2, .int x2), (3, .int x3)]) X.1 X.2.1 dX1_put_81 hl (k := 5) rfl (by rw [← ez3]; rfl) (by decide) rfl (fun ls hl => ?_)
  refine lv_goto (tgt := 7) X.1 X.2.1 dX1_put_84 (by decide) ?_
  exact hk7 _ _ _ _ _ _ _ _ _ _ (lv_sub hl [2, 3, 4, 5, 1, 0] rfl) S hf
def fX1_put_7 (k7 : Nat → Nat → Int32 → Int32 → Int32 → Int32 → Hp → Option (Hp)) (x0 : Nat) (x1 : Nat) (x2 : Int32) (x3 : Int32) (x5 : Int32) (x6 : Int32) (h : Hp) : Option (Hp) := if x3 ≤ x6 then some h else if 64 ≤ ((2 * x6) + 1) then some h else lt (((x2 + x3) - 1) - x6) fun z3 => if z3 < 0 then fX1_put_68 k7 x0 x1 x2 x3 x6 h else if 256 ≤ z3 then fX1_put_68 k7 x0 x1 x2 x3 x6 h else ob (gR 9 x1 0 h) fun v6 => ob (gR 1 x0 0 h) fun v7 => ob (aI v7 (2 * x6) h) fun v8 => ob (qI v6 z3 ((v8 <<< ((4 : Int32) &&& 31)) ||| x5) h) fun h => fX1_put_68 k7 x0 x1 x2 x3 x6 h
theorem wfX1_put_7 {k7 : Nat → Nat → Int32 → Int32 → Int32 → Int32 → Hp → Option (Hp)} {h9 : Hp} (X : Cx p E A 8 R s m args c cX1_put yX1_put.cls 8) (hr : meth.sig.returnType = none) (hlk : meth.locks = false) (hnm : meth.name = yX1_put.name) (hk7 : ∀ (x0 : Nat) (x1 : Nat) (x2 : Int32) (x3 : Int32) (x5 : Int32) (x6 : Int32) (h : Hp) (H : Heap) (locs : List Loc) (ls : Array Slot), lv_has ls 8 [(0, rv x0), (1, rv x1), (2, .int x2), (3, .int x3), (5, .int x5), (6, .int x6)] → St E A s h H locs → k7 x0 x1 x2 x3 x5 x6 h = some h9 → W p l e R s m args below meth c H locs 0 0 (MQ below (Qv E A h9) args s 0 0 A) (F0 m 7 ls [])) :
    ∀ (x0 : Nat) (x1 : Nat) (x2 : Int32) (x3 : Int32) (x5 : Int32) (x6 : Int32) (h : Hp) (H : Heap) (locs : List Loc) (ls : Array Slot), lv_has ls 8 [(0, rv x0), (1, rv x1), (2, .int x2), (3, .int x3), (5, .int x5), (6, .int x6)] → St E A s h H locs → fX1_put_7 k7 x0 x1 x2 x3 x5 x6 h = some h9 → W p l e R s m args below meth c H locs 0 0 (MQ below (Qv E A h9) args s 0 0 A) (F0 m 7 ls []) := by
  intro x0 x1 x2 x3 x5 x6 h H locs ls hl S hf
  unfold fX1_put_7 at hf
  refine lv_iload X.1 X.2.1 dX1_put_7 (lv_at hl 5 rfl) ?_
  refine lv_iload_n X.1 X.2.1 dX1_put_9 rfl (lv_at hl 3 rfl) ?_
  refine lv_icmp_ge (tgt := 87) X.1 X.2.1 dX1_put_10 (by decide) (fun c1 => ?_) (fun c1 => ?_)
  · replace hf := (if_pos c1).symm.trans hf
    cases hf; exact g_rv X S hr hlk dX1_put_87
  · replace hf := (if_neg c1).symm.trans hf
    refine lv_iconst (v := 2) X.1 X.2.1 dX1_put_13 (by decide) ?_
    refine lv_iload X.1 X.2.1 dX1_put_14 (lv_at hl 5 rfl) ?_
    refine lv_imul X.1 X.2.1 dX1_put_16 ?_
    refine lv_iconst (v := 1) X.1 X.2.1 dX1_put_17 (by decide) ?_
    refine lv_iadd X.1 X.2.1 dX1_put_18 ?_
    refine lv_bipush (v := 64) X.1 X.2.1 dX1_put_19 (by decide) ?_
    refine lv_icmp_ge (tgt := 87) X.1 X.2.1 dX1_put_21 (by decide) (fun c2 => ?_) (fun c2 => ?_)
    · replace hf := (if_pos c2).symm.trans hf
      cases hf; exact g_rv X S hr hlk dX1_put_87
    · replace hf := (if_neg c2).symm.trans hf
      refine lv_iload_n X.1 X.2.1 dX1_put_24 rfl (lv_at hl 2 rfl) ?_
      refine lv_iload_n X.1 X.2.1 dX1_put_25 rfl (lv_at hl 3 rfl) ?_
      refine lv_iadd X.1 X.2.1 dX1_put_26 ?_
      refine lv_iconst (v := 1) X.1 X.2.1 dX1_put_27 (by decide) ?_
      refine lv_isub X.1 X.2.1 dX1_put_28 ?_
      refine lv_iload X.1 X.2.1 dX1_put_29 (lv_at hl 5 rfl) ?_
      refine lv_isub X.1 X.2.1 dX1_put_31 ?_
      refine g_lti hf (fun z3 hf => ?_)
      refine lv_istore (lv' := [(7, .int z3), (0, rv x0), (1, rv x1), (2, .int x2), (3, .int x3), (5, .int x5), (6, .int x6)]) X.1 X.2.1 dX1_put_32 hl (by decide) rfl (fun ls hl => ?_)
      refine lv_iload X.1 X.2.1 dX1_put_34 (lv_at hl 0 rfl) ?_
      refine lv_if_lt (tgt := 68) X.1 X.2.1 dX1_put_36 (by decide) (fun c4 => ?_) (fun c4 => ?_)
      · replace hf := (if_pos c4).symm.trans hf
        exact wfX1_put_68 X hr hlk hnm hk7 _ _ _ _ _ _ _ _ _ (lv_sub hl [1, 2, 3, 4, 6] rfl) S hf
      · replace hf := (if_neg c4).symm.trans hf
        refine lv_iload X.1 X.2.1 dX1_put_39 (lv_at hl 0 rfl) ?_
        refine lv_sipush (v := 256) X.1 X.2.1 dX1_put_41 (by decide) ?_
        refine lv_icmp_ge (tgt := 68) X.1 X.2.1 dX1_put_44 (by decide) (fun c5 => ?_) (fun c5 => ?_)
        · replace hf := (if_pos c5).symm.trans hf
          exact wfX1_put_68 X hr hlk hnm hk7 _ _ _ _ _ _ _ _ _ (lv_sub hl [1, 2, 3, 4, 6] rfl) S hf
        · replace hf := (if_neg c5).symm.trans hf
          refine g_aload_n X (or_rv _) dX1_put_47 rfl (lv_at hl 2 rfl) ?_
          refine g_gR X S foX1_52 dX1_put_48 hf (fun v6 hf => ?_)
          refine lv_iload X.1 X.2.1 dX1_put_51 (lv_at hl 0 rfl) ?_
          refine g_aload_n X (or_rv _) dX1_put_53 rfl (lv_at hl 1 rfl) ?_
          refine g_gR X S foX1_11 dX1_put_54 hf (fun v7 hf => ?_)
          refine lv_iconst (v := 2) X.1 X.2.1 dX1_put_57 (by decide) ?_
          refine lv_iload X.1 X.2.1 dX1_put_58 (lv_at hl 6 rfl) ?_
          refine lv_imul X.1 X.2.1 dX1_put_60 ?_
          refine g_aI X S dX1_put_61 hf (fun v8 hf => ?_)
          refine lv_iconst (v := 4) X.1 X.2.1 dX1_put_62 (by decide) ?_
          refine lv_ishl X.1 X.2.1 dX1_put_63 ?_
          refine lv_iload X.1 X.2.1 dX1_put_64 (lv_at hl 5 rfl) ?_
          refine lv_ior X.1 X.2.1 dX1_put_66 ?_
          refine g_qI X S dX1_put_67 hf (fun h H locs hm hf S => ?_)
          exact wfX1_put_68 X hr hlk hnm hk7 _ _ _ _ _ _ _ _ _ (lv_sub hl [1, 2, 3, 4, 6] rfl) S hf
theorem wfX1_put_7_l {h9 : Hp} (X : Cx p E A 8 R s m args c cX1_put yX1_put.cls 8) (hr : meth.sig.returnType = none) (hlk : meth.locks = false) (hnm : meth.name = yX1_put.name) :
    ∀ (n : Nat) (x0 : Nat) (x1 : Nat) (x2 : Int32) (x3 : Int32) (x5 : Int32) (x6 : Int32) (h : Hp) (H : Heap) (locs : List Loc) (ls : Array Slot), lv_has ls 8 [(0, rv x0), (1, rv x1), (2, .int x2), (3, .int x3), (5, .int x5), (6, .int x6)] → St E A s h H locs → lp (fun _ _ _ _ _ _ _ => none) (fX1_put_7) n x0 x1 x2 x3 x5 x6 h = some h9 → W p l e R s m args below meth c H locs 0 0 (MQ below (Qv E A h9) args s 0 0 A) (F0 m 7 ls []) := by
  intro n
  induction n with
  | zero =>
    intro x0 x1 x2 x3 x5 x6 h H locs ls hl S hf
    exact nomatch hf
  | succ n ih =>
    intro x0 x1 x2 x3 x5 x6 h H locs ls hl S hf
    exact wfX1_put_7 X hr hlk hnm ih x0 x1 x2 x3 x5 x6 h H locs ls hl S hf
def fX1_put (a0 : Nat) (a1 : Nat) (a2 : Int32) (a3 : Int32) (a4 : Int32) (h : Hp) : Option (Hp) := gd 1 a0 h (lp (fun _ _ _ _ _ _ _ => none) (fX1_put_7) FU a0 a1 a2 a3 a4 0 h)
theorem tkX1_put {a0 : Nat} {a1 : Nat} {a2 : Int32} {a3 : Int32} {a4 : Int32} {h : Hp} {r9 : Hp} (e : fX1_put a0 a1 a2 a3 a4 h = some r9) : hK h a0 = 1 := by
  unfold fX1_put at e
  exact (gd_some e).1
theorem cX1_put_m (l : Launch) {E : EE} {A : Nat → Prop} {a0 : Nat} {a1 : Nat} {a2 : Int32} {a3 : Int32} {a4 : Int32} {h : Hp} {h9 : Hp} (hf : fX1_put a0 a1 a2 a3 a4 h = some h9) : Met l yX1_put (wsM yX1_put cX1_put 8 none) (rmm 8 0 0) (PcE E A h [rv a0, rv a1, .int a2, .int a3, .int a4]) (Qv E A h9) 0 0 A := by
  refine met_of (by decide +kernel) (by simp [lg_sl, cat_rv, cat_wv, cat_sv, cat_i, cat_l, cat_a]) (fun p e s m args below meth c ls X hr hlk hnm S hl => ?_)
  have hl : lv_has ls 8 [(0, rv a0), (1, rv a1), (2, .int a2), (3, .int a3), (4, .int a4)] := by simpa [lv_args, cat_rv, cat_wv, cat_sv, cat_i, cat_l, cat_a] using hl
  generalize hH : s.heap = H at S ⊢
  generalize hlo : ([] : List Loc) = locs at S ⊢
  clear hH hlo
  unfold fX1_put at hf
  obtain ⟨hth, hf⟩ := gd_some hf
  refine lv_iload X.1 X.2.1 dX1_put_0 (lv_at hl 4 rfl) ?_
  refine lv_istore (lv' := [(5, .int a4), (0, rv a0), (1, rv a1), (2, .int a2), (3, .int a3), (4, .int a4)]) X.1 X.2.1 dX1_put_2 hl (by decide) rfl (fun ls hl => ?_)
  refine lv_iconst (v := 0) X.1 X.2.1 dX1_put_4 (by decide) ?_
  refine lv_istore (lv' := [(6, .int 0), (5, .int a4), (0, rv a0), (1, rv a1), (2, .int a2), (3, .int a3), (4, .int a4)]) X.1 X.2.1 dX1_put_5 hl (by decide) rfl (fun ls hl => ?_)
  exact wfX1_put_7_l X hr hlk hnm FU _ _ _ _ _ _ _ _ _ _ (lv_sub hl [2, 3, 4, 5, 1, 0] rfl) S hf
def fX1_kind (a0 : Nat) (h : Hp) : Option (Int32) := gd 1 a0 h (ob (gI 1 a0 1 h) fun v1 => if v1 = 0 then some 0 else ob (gI 1 a0 2 h) fun v3 => if v3 = 0 then some 2 else some 1)
theorem tkX1_kind {a0 : Nat} {h : Hp} {r9 : Int32} (e : fX1_kind a0 h = some r9) : hK h a0 = 1 := by
  unfold fX1_kind at e
  exact (gd_some e).1
theorem cX1_kind_m (l : Launch) {E : EE} {A : Nat → Prop} {a0 : Nat} {h : Hp} {r9 : Int32} (hf : fX1_kind a0 h = some r9) : Met l yX1_kind (wsM yX1_kind cX1_kind 1 (some .int)) (rmm 8 0 0) (PcE E A h [rv a0]) (Qi E A h r9) 0 0 A := by
  refine met_of (by decide +kernel) (by simp [lg_sl, cat_rv, cat_wv, cat_sv, cat_i, cat_l, cat_a]) (fun p e s m args below meth c ls X hr hlk hnm S hl => ?_)
  have hl : lv_has ls 1 [(0, rv a0)] := by simpa [lv_args, cat_rv, cat_wv, cat_sv, cat_i, cat_l, cat_a] using hl
  generalize hH : s.heap = H at S ⊢
  generalize hlo : ([] : List Loc) = locs at S ⊢
  clear hH hlo
  unfold fX1_kind at hf
  obtain ⟨hth, hf⟩ := gd_some hf
  refine g_aload_n X (or_rv _) dX1_kind_0 rfl (lv_at hl 0 rfl) ?_
  refine g_gI X S foX1_15 rfl dX1_kind_1 hf (fun v1 hf => ?_)
  refine lv_if_ne (tgt := 9) X.1 X.2.1 dX1_kind_4 (by decide) (fun c2 => ?_) (fun c2 => ?_)
  · replace hf := (if_neg c2).symm.trans hf
    refine g_aload_n X (or_rv _) dX1_kind_9 rfl (lv_at hl 0 rfl) ?_
    refine g_gI X S foX1_19 rfl dX1_kind_10 hf (fun v3 hf => ?_)
    refine lv_if_eq (tgt := 20) X.1 X.2.1 dX1_kind_13 (by decide) (fun c4 => ?_) (fun c4 => ?_)
    · replace hf := (if_pos c4).symm.trans hf
      refine lv_iconst (v := 2) X.1 X.2.1 dX1_kind_20 (by decide) ?_
      cases hf; exact g_ri X S hr hlk dX1_kind_21
    · replace hf := (if_neg c4).symm.trans hf
      refine lv_iconst (v := 1) X.1 X.2.1 dX1_kind_16 (by decide) ?_
      refine lv_goto (tgt := 21) X.1 X.2.1 dX1_kind_17 (by decide) ?_
      cases hf; exact g_ri X S hr hlk dX1_kind_21
  · replace hf := (if_pos c2).symm.trans hf
    refine lv_iconst (v := 0) X.1 X.2.1 dX1_kind_7 (by decide) ?_
    cases hf; exact g_ri X S hr hlk dX1_kind_8
def fX1_below (a0 : Nat) (h : Hp) : Option (Int32) := gd 1 a0 h (ob (gI 1 a0 2 h) fun v1 => rz v1 (some v1))
theorem tkX1_below {a0 : Nat} {h : Hp} {r9 : Int32} (e : fX1_below a0 h = some r9) : hK h a0 = 1 := by
  unfold fX1_below at e
  exact (gd_some e).1
theorem cX1_below_m (l : Launch) {E : EE} {A : Nat → Prop} {a0 : Nat} {h : Hp} {r9 : Int32} (hf : fX1_below a0 h = some r9) : Met l yX1_below (wsM yX1_below cX1_below 1 (some .boolean)) (rmm 8 0 0) (PcE E A h [rv a0]) (Qi E A h r9) 0 0 A := by
  refine met_of (by decide +kernel) (by simp [lg_sl, cat_rv, cat_wv, cat_sv, cat_i, cat_l, cat_a]) (fun p e s m args below meth c ls X hr hlk hnm S hl => ?_)
  have hl : lv_has ls 1 [(0, rv a0)] := by simpa [lv_args, cat_rv, cat_wv, cat_sv, cat_i, cat_l, cat_a] using hl
  generalize hH : s.heap = H at S ⊢
  generalize hlo : ([] : List Loc) = locs at S ⊢
  clear hH hlo
  unfold fX1_below at hf
  obtain ⟨hth, hf⟩ := gd_some hf
  refine g_aload_n X (or_rv _) dX1_below_0 rfl (lv_at hl 0 rfl) ?_
  refine g_gI X S foX1_19 rfl dX1_below_1 hf (fun v1 hf => ?_)
  obtain ⟨hz, hf⟩ := rz_some hf
  cases hf; exact g_rz X S hr hlk hz dX1_below_4
def fX1_divide_17 (k17 : Nat → Nat → Int64 → Int64 → Int32 → Hp → Option (Int64 × Hp)) (x0 : Nat) (x1 : Nat) (x2 : Int64) (x4 : Int64) (x6 : Int32) (h : Hp) : Option (Int64 × Hp) := if x6 < 0 then ob (fX1_measure x0 h) fun h => some (x4, h) else ob (gR 1 x1 0 h) fun v3 => ob (aI v3 x6 h) fun v4 => lt ((x4 * 10) + (Int32.toInt64 v4)) fun z5 => ob (gR 1 x0 0 h) fun v6 => nz (x2 = 0) (ob (qI v6 x6 (Int64.toInt32 (z5 / x2)) h) fun h => nz (x2 = 0) (lt (lrm z5 x2) fun z9 => lt (x6 + (-1)) fun z10 => k17 x0 x1 x2 z9 z10 h))
theorem wfX1_divide_17 {k17 : Nat → Nat → Int64 → Int64 → Int32 → Hp → Option (Int64 × Hp)} {r9 : Int64} {h9 : Hp} (X : Cx p E A 9 R s m args c cX1_divide yX1_divide.cls 7) (hr : meth.sig.returnType = (some .long)) (hlk : meth.locks = false) (hnm : meth.name = yX1_divide.name) (hk17 : ∀ (x0 : Nat) (x1 : Nat) (x2 : Int64) (x4 : Int64) (x6 : Int32) (h : Hp) (H : Heap) (locs : List Loc) (ls : Array Slot), lv_has ls 7 [(0, rv x0), (1, rv x1), (2, .long x2), (4, .long x4), (6, .int x6)] → St E A s h H locs → k17 x0 x1 x2 x4 x6 h = some (r9, h9) → W p l e R s m args below meth c H locs 0 0 (MQ below (Ql E A h9 r9) args s 0 0 A) (F0 m 17 ls [])) :
    ∀ (x0 : Nat) (x1 : Nat) (x2 : Int64) (x4 : Int64) (x6 : Int32) (h : Hp) (H : Heap) (locs : List Loc) (ls : Array Slot), lv_has ls 7 [(0, rv x0), (1, rv x1), (2, .long x2), (4, .long x4), (6, .int x6)] → St E A s h H locs → fX1_divide_17 k17 x0 x1 x2 x4 x6 h = some (r9, h9) → W p l e R s m args below meth c H locs 0 0 (MQ below (Ql E A h9 r9) args s 0 0 A) (F0 m 17 ls []) := by
  intro x0 x1 x2 x4 x6 h H locs ls hl S hf
  unfold fX1_divide_17 at hf
  refine lv_iload X.1 X.2.1 dX1_divide_17 (lv_at hl 4 rfl) ?_
  refine lv_if_lt (tgt := 63) X.1 X.2.1 dX1_divide_19 (by decide) (fun c1 => ?_) (fun c1 => ?_)
  · replace hf := (if_pos c1).symm.trans hf
    refine g_aload_n X (or_rv _) dX1_divide_63 rfl (lv_at hl 0 rfl) ?_
    obtain ⟨h, hc, hf⟩ := ob_some hf
    refine g_cv S (runV (As := []) (rest := []) X S coX1_33 (by decide) (cX1_measure_m l hc) (tkX1_measure hc) rfl hl.1 (by decide) rfl ⟨Nat.zero_le _, Nat.zero_le _⟩ dX1_divide_64) (fun H locs S => ?_)
    refine lv_lload X.1 X.2.1 dX1_divide_67 (lv_at hl 3 rfl) ?_
    cases hf; exact g_rl X S hr hlk dX1_divide_69
  · replace hf := (if_neg c1).symm.trans hf
    refine lv_lload X.1 X.2.1 dX1_divide_22 (lv_at hl 3 rfl) ?_
    refine lv_ldc2 X.1 X.2.1 X.2.2.2.1 (X.2.2.1 _ kuX1_36) dX1_divide_24 ?_
    refine lv_lmul X.1 X.2.1 dX1_divide_27 ?_
    refine g_aload_n X (or_rv _) dX1_divide_28 rfl (lv_at hl 1 rfl) ?_
    refine g_gR X S foX1_11 dX1_divide_29 hf (fun v3 hf => ?_)
    refine lv_iload X.1 X.2.1 dX1_divide_32 (lv_at hl 4 rfl) ?_
    refine g_aI X S dX1_divide_34 hf (fun v4 hf => ?_)
    refine lv_i2l (v := Int32.toInt64 v4) X.1 X.2.1 dX1_divide_35 rfl ?_
    refine lv_ladd X.1 X.2.1 dX1_divide_36 ?_
    refine g_ltl hf (fun z5 hf => ?_)
    refine lv_lstore (lv' := [(4, .long z5), (0, rv x0), (1, rv x1), (2, .long x2), (6, .int x6)]) X.1 X.2.1 dX1_divide_37 hl (by decide) rfl (fun ls hl => ?_)
    refine g_aload_n X (or_rv _) dX1_divide_39 rfl (lv_at hl 1 rfl) ?_
    refine g_gR X S foX1_11 dX1_divide_40 hf (fun v6 hf => ?_)
    refine lv_iload X.1 X.2.1 dX1_divide_43 (lv_at hl 4 rfl) ?_
    refine lv_lload X.1 X.2.1 dX1_divide_45 (lv_at hl 0 rfl) ?_
    refine lv_lload_n X.1 X.2.1 dX1_divide_47 rfl (lv_at hl 3 rfl) ?_
    obtain ⟨c7, hf⟩ := nz_some hf
    refine g_ldiv X c7 dX1_divide_48 ?_
    refine lv_l2i (v := Int64.toInt32 (z5 / x2)) X.1 X.2.1 dX1_divide_49 rfl ?_
    refine g_qI X S dX1_divide_50 hf (fun h H locs hm hf S => ?_)
    refine lv_lload X.1 X.2.1 dX1_divide_51 (lv_at hl 0 rfl) ?_
    refine lv_lload_n X.1 X.2.1 dX1_divide_53 rfl (lv_at hl 3 rfl) ?_
    obtain ⟨c8, hf⟩ := nz_some hf
    refine g_lrem X c8 dX1_divide_54 ?_
    refine g_ltl hf (fun z9 hf => ?_)
    refine lv_lstore (lv' := [(4, .long z9), (0, rv x0), (1, rv x1), (2, .long x2), (6, .int x6)]) X.1 X.2.1 dX1_divide_55 hl (by decide) rfl (fun ls hl => ?_)
    obtain ⟨z10, ez10, hf⟩ := lt_some hf
    refine lv_iinc (v := z10) (lv' := [(6, .int z10), (4, .long z9), (0, rv x0), (1, rv x1), (2, .long x2)]) X.1 X.2.1 dX1_divide_57 hl (k := 4) rfl (by rw [← ez10]; rfl) (by decide) rfl (fun ls hl => ?_)
    refine lv_goto (tgt := 17) X.1 X.2.1 dX1_divide_60 (by decide) ?_
    exact hk17 _ _ _ _ _ _ _ _ _ (lv_sub hl [2, 3, 4, 1, 0] rfl) S hf
theorem wfX1_divide_17_l {r9 : Int64} {h9 : Hp} (X : Cx p E A 9 R s m args c cX1_divide yX1_divide.cls 7) (hr : meth.sig.returnType = (some .long)) (hlk : meth.locks = false) (hnm : meth.name = yX1_divide.name) :
    ∀ (n : Nat) (x0 : Nat) (x1 : Nat) (x2 : Int64) (x4 : Int64) (x6 : Int32) (h : Hp) (H : Heap) (locs : List Loc) (ls : Array Slot), lv_has ls 7 [(0, rv x0), (1, rv x1), (2, .long x2), (4, .long x4), (6, .int x6)] → St E A s h H locs → lp (fun _ _ _ _ _ _ => none) (fX1_divide_17) n x0 x1 x2 x4 x6 h = some (r9, h9) → W p l e R s m args below meth c H locs 0 0 (MQ below (Ql E A h9 r9) args s 0 0 A) (F0 m 17 ls []) := by
  intro n
  induction n with
  | zero =>
    intro x0 x1 x2 x4 x6 h H locs ls hl S hf
    exact nomatch hf
  | succ n ih =>
    intro x0 x1 x2 x4 x6 h H locs ls hl S hf
    exact wfX1_divide_17 X hr hlk hnm ih x0 x1 x2 x4 x6 h H locs ls hl S hf
def fX1_divide (a0 : Nat) (a1 : Nat) (a2 : Int64) (h : Hp) : Option (Int64 × Hp) := gd 1 a0 h (if 0 < (lg_cmp a2 0) then lp (fun _ _ _ _ _ _ => none) (fX1_divide_17) FU a0 a1 a2 0 63 h else some ((-1), h))
theorem tkX1_divide {a0 : Nat} {a1 : Nat} {a2 : Int64} {h : Hp} {r9 : Int64 × Hp} (e : fX1_divide a0 a1 a2 h = some r9) : hK h a0 = 1 := by
  unfold fX1_divide at e
  exact (gd_some e).1
theorem cX1_divide_m (l : Launch) {E : EE} {A : Nat → Prop} {a0 : Nat} {a1 : Nat} {a2 : Int64} {h : Hp} {r9 : Int64} {h9 : Hp} (hf : fX1_divide a0 a1 a2 h = some (r9, h9)) : Met l yX1_divide (wsM yX1_divide cX1_divide 7 (some .long)) (rmm 9 0 0) (PcE E A h [rv a0, rv a1, .long a2]) (Ql E A h9 r9) 0 0 A := by
  refine met_of (by decide +kernel) (by simp [lg_sl, cat_rv, cat_wv, cat_sv, cat_i, cat_l, cat_a]) (fun p e s m args below meth c ls X hr hlk hnm S hl => ?_)
  have hl : lv_has ls 7 [(0, rv a0), (1, rv a1), (2, .long a2)] := by simpa [lv_args, cat_rv, cat_wv, cat_sv, cat_i, cat_l, cat_a] using hl
  generalize hH : s.heap = H at S ⊢
  generalize hlo : ([] : List Loc) = locs at S ⊢
  clear hH hlo
  unfold fX1_divide at hf
  obtain ⟨hth, hf⟩ := gd_some hf
  refine lv_lload_n X.1 X.2.1 dX1_divide_0 rfl (lv_at hl 2 rfl) ?_
  refine lv_lconst (v := 0) X.1 X.2.1 dX1_divide_1 (by decide) ?_
  refine W.lcmp X.1 X.2.1 dX1_divide_2 ?_
  refine lv_if_gt (tgt := 10) X.1 X.2.1 dX1_divide_3 (by decide) (fun c1 => ?_) (fun c1 => ?_)
  · replace hf := (if_pos c1).symm.trans hf
    refine lv_lconst (v := 0) X.1 X.2.1 dX1_divide_10 (by decide) ?_
    refine lv_lstore (lv' := [(4, .long 0), (0, rv a0), (1, rv a1), (2, .long a2)]) X.1 X.2.1 dX1_divide_11 hl (by decide) rfl (fun ls hl => ?_)
    refine lv_bipush (v := 63) X.1 X.2.1 dX1_divide_13 (by decide) ?_
    refine lv_istore (lv' := [(6, .int 63), (4, .long 0), (0, rv a0), (1, rv a1), (2, .long a2)]) X.1 X.2.1 dX1_divide_15 hl (by decide) rfl (fun ls hl => ?_)
    exact wfX1_divide_17_l X hr hlk hnm FU _ _ _ _ _ _ _ _ _ (lv_sub hl [2, 3, 4, 1, 0] rfl) S hf
  · replace hf := (if_neg c1).symm.trans hf
    refine lv_ldc2 X.1 X.2.1 X.2.2.2.1 (X.2.2.1 _ kuX1_69) dX1_divide_6 ?_
    cases hf; exact g_rl X S hr hlk dX1_divide_9
def fX1_takeNumber_52 (x0 : Nat) (y0 : Int32) (y1 : Nat) (h : Hp) : Option (Hp) := ob (pZ 1 y1 2 y0 h) fun h => ob (fX1_measure x0 h) fun h => some h
theorem wfX1_takeNumber_52 {h9 : Hp} (X : Cx p E A 9 R s m args c cX1_takeNumber yX1_takeNumber.cls 6) (hr : meth.sig.returnType = none) (hlk : meth.locks = false) (hnm : meth.name = yX1_takeNumber.name) :
    ∀ (x0 : Nat) (y0 : Int32) (y1 : Nat) (h : Hp) (H : Heap) (locs : List Loc) (ls : Array Slot), lv_has ls 6 [(0, rv x0)] → St E A s h H locs → fX1_takeNumber_52 x0 y0 y1 h = some h9 → W p l e R s m args below meth c H locs 0 0 (MQ below (Qv E A h9) args s 0 0 A) (F0 m 52 ls [.int y0, rv y1]) := by
  intro x0 y0 y1 h H locs ls hl S hf
  unfold fX1_takeNumber_52 at hf
  refine g_pZ X S fpX1_19 (Or.inl rfl) dX1_takeNumber_52 hf (fun h H locs hm hf S => ?_)
  refine g_aload_n X (or_rv _) dX1_takeNumber_55 rfl (lv_at hl 0 rfl) ?_
  obtain ⟨h, hc, hf⟩ := ob_some hf
  refine g_cv S (runV (As := []) (rest := []) X S coX1_33 (by decide) (cX1_measure_m l hc) (tkX1_measure hc) rfl hl.1 (by decide) rfl ⟨Nat.zero_le _, Nat.zero_le _⟩ dX1_takeNumber_56) (fun H locs S => ?_)
  cases hf; exact g_rv X S hr hlk dX1_takeNumber_59
def fX1_takeNumber_5 (k5 : Nat → Int64 → Int64 → Int32 → Hp → Option (Hp)) (x0 : Nat) (x1 : Int64) (x3 : Int64) (x5 : Int32) (h : Hp) : Option (Hp) := if 64 ≤ x5 then if 0 ≤ (lg_cmp x1 0) then fX1_takeNumber_52 x0 0 x0 h else fX1_takeNumber_52 x0 1 x0 h else ob (gR 1 x0 0 h) fun v3 => ob (qI v3 x5 (Int64.toInt32 (labs (lrm x3 10))) h) fun h => lt (x3 / 10) fun z4 => lt (x5 + 1) fun z5 => k5 x0 x1 z4 z5 h
theorem wfX1_takeNumber_5 {k5 : Nat → Int64 → Int64 → Int32 → Hp → Option (Hp)} {h9 : Hp} (X : Cx p E A 9 R s m args c cX1_takeNumber yX1_takeNumber.cls 6) (hr : meth.sig.returnType = none) (hlk : meth.locks = false) (hnm : meth.name = yX1_takeNumber.name) (hk5 : ∀ (x0 : Nat) (x1 : Int64) (x3 : Int64) (x5 : Int32) (h : Hp) (H : Heap) (locs : List Loc) (ls : Array Slot), lv_has ls 6 [(0, rv x0), (1, .long x1), (3, .long x3), (5, .int x5)] → St E A s h H locs → k5 x0 x1 x3 x5 h = some h9 → W p l e R s m args below meth c H locs 0 0 (MQ below (Qv E A h9) args s 0 0 A) (F0 m 5 ls [])) :
    ∀ (x0 : Nat) (x1 : Int64) (x3 : Int64) (x5 : Int32) (h : Hp) (H : Heap) (locs : List Loc) (ls : Array Slot), lv_has ls 6 [(0, rv x0), (1, .long x1), (3, .long x3), (5, .int x5)] → St E A s h H locs → fX1_takeNumber_5 k5 x0 x1 x3 x5 h = some h9 → W p l e R s m args below meth c H locs 0 0 (MQ below (Qv E A h9) args s 0 0 A) (F0 m 5 ls []) := by
  intro x0 x1 x3 x5 h H locs ls hl S hf
  unfold fX1_takeNumber_5 at hf
  refine lv_iload X.1 X.2.1 dX1_takeNumber_5 (lv_at hl 3 rfl) ?_
  refine lv_bipush (v := 64) X.1 X.2.1 dX1_takeNumber_7 (by decide) ?_
  refine lv_icmp_ge (tgt := 40) X.1 X.2.1 dX1_takeNumber_9 (by decide) (fun c1 => ?_) (fun c1 => ?_)
  · replace hf := (if_pos c1).symm.trans hf
    refine g_aload_n X (or_rv _) dX1_takeNumber_40 rfl (lv_at hl 0 rfl) ?_
    refine lv_lload_n X.1 X.2.1 dX1_takeNumber_41 rfl (lv_at hl 1 rfl) ?_
    refine lv_lconst (v := 0) X.1 X.2.1 dX1_takeNumber_42 (by decide) ?_
    refine W.lcmp X.1 X.2.1 dX1_takeNumber_43 ?_
    refine lv_if_ge (tgt := 51) X.1 X.2.1 dX1_takeNumber_44 (by decide) (fun c2 => ?_) (fun c2 => ?_)
    · replace hf := (if_pos c2).symm.trans hf
      refine lv_iconst (v := 0) X.1 X.2.1 dX1_takeNumber_51 (by decide) ?_
      exact wfX1_takeNumber_52 X hr hlk hnm _ _ _ _ _ _ _ (lv_sub hl [0] rfl) S hf
    · replace hf := (if_neg c2).symm.trans hf
      refine lv_iconst (v := 1) X.1 X.2.1 dX1_takeNumber_47 (by decide) ?_
      refine lv_goto (tgt := 52) X.1 X.2.1 dX1_takeNumber_48 (by decide) ?_
      exact wfX1_takeNumber_52 X hr hlk hnm _ _ _ _ _ _ _ (lv_sub hl [0] rfl) S hf
  · replace hf := (if_neg c1).symm.trans hf
    refine g_aload_n X (or_rv _) dX1_takeNumber_12 rfl (lv_at hl 0 rfl) ?_
    refine g_gR X S foX1_11 dX1_takeNumber_13 hf (fun v3 hf => ?_)
    refine lv_iload X.1 X.2.1 dX1_takeNumber_16 (lv_at hl 3 rfl) ?_
    refine lv_lload_n X.1 X.2.1 dX1_takeNumber_18 rfl (lv_at hl 2 rfl) ?_
    refine lv_ldc2 X.1 X.2.1 X.2.2.2.1 (X.2.2.1 _ kuX1_36) dX1_takeNumber_19 ?_
    refine g_lrem X (by decide) dX1_takeNumber_22 ?_
    refine g_abs (rest := [.int x5, rv v3]) X hl.1 (by decide) (by simp [cat_rv, cat_wv, cat_sv, cat_i, cat_l, cat_a]) mlX1_38 u_abs_s u_math u_abs_c (Nat.zero_le _) (Nat.zero_le _) dX1_takeNumber_23 ?_
    refine lv_l2i (v := Int64.toInt32 (labs (lrm x3 10))) X.1 X.2.1 dX1_takeNumber_26 rfl ?_
    refine g_qI X S dX1_takeNumber_27 hf (fun h H locs hm hf S => ?_)
    refine lv_lload_n X.1 X.2.1 dX1_takeNumber_28 rfl (lv_at hl 2 rfl) ?_
    refine lv_ldc2 X.1 X.2.1 X.2.2.2.1 (X.2.2.1 _ kuX1_36) dX1_takeNumber_29 ?_
    refine g_ldiv X (by decide) dX1_takeNumber_32 ?_
    refine g_ltl hf (fun z4 hf => ?_)
    refine lv_lstore_n (i := 3) (lv' := [(3, .long z4), (0, rv x0), (1, .long x1), (5, .int x5)]) X.1 X.2.1 dX1_takeNumber_33 rfl hl (by decide) rfl (fun ls hl => ?_)
    obtain ⟨z5, ez5, hf⟩ := lt_some hf
    refine lv_iinc (v := z5) (lv' := [(5, .int z5), (3, .long z4), (0, rv x0), (1, .long x1)]) X.1 X.2.1 dX1_takeNumber_34 hl (k := 3) rfl (by rw [← ez5]; rfl) (by decide) rfl (fun ls hl => ?_)
    refine lv_goto (tgt := 5) X.1 X.2.1 dX1_takeNumber_37 (by decide) ?_
    exact hk5 _ _ _ _ _ _ _ _ (lv_sub hl [2, 3, 1, 0] rfl) S hf
theorem wfX1_takeNumber_5_l {h9 : Hp} (X : Cx p E A 9 R s m args c cX1_takeNumber yX1_takeNumber.cls 6) (hr : meth.sig.returnType = none) (hlk : meth.locks = false) (hnm : meth.name = yX1_takeNumber.name) :
    ∀ (n : Nat) (x0 : Nat) (x1 : Int64) (x3 : Int64) (x5 : Int32) (h : Hp) (H : Heap) (locs : List Loc) (ls : Array Slot), lv_has ls 6 [(0, rv x0), (1, .long x1), (3, .long x3), (5, .int x5)] → St E A s h H locs → lp (fun _ _ _ _ _ => none) (fX1_takeNumber_5) n x0 x1 x3 x5 h = some h9 → W p l e R s m args below meth c H locs 0 0 (MQ below (Qv E A h9) args s 0 0 A) (F0 m 5 ls []) := by
  intro n
  induction n with
  | zero =>
    intro x0 x1 x3 x5 h H locs ls hl S hf
    exact nomatch hf
  | succ n ih =>
    intro x0 x1 x3 x5 h H locs ls hl S hf
    exact wfX1_takeNumber_5 X hr hlk hnm ih x0 x1 x3 x5 h H locs ls hl S hf
def fX1_takeNumber (a0 : Nat) (a1 : Int64) (h : Hp) : Option (Hp) := gd 1 a0 h (lp (fun _ _ _ _ _ => none) (fX1_takeNumber_5) FU a0 a1 a1 0 h)
theorem tkX1_takeNumber {a0 : Nat} {a1 : Int64} {h : Hp} {r9 : Hp} (e : fX1_takeNumber a0 a1 h = some r9) : hK h a0 = 1 := by
  unfold fX1_takeNumber at e
  exact (gd_some e).1
theorem cX1_takeNumber_m (l : Launch) {E : EE} {A : Nat → Prop} {a0 : Nat} {a1 : Int64} {h : Hp} {h9 : Hp} (hf : fX1_takeNumber a0 a1 h = some h9) : Met l yX1_takeNumber (wsM yX1_takeNumber cX1_takeNumber 6 none) (rmm 9 0 0) (PcE E A h [rv a0, .long a1]) (Qv E A h9) 0 0 A := by
  refine met_of (by decide +kernel) (by simp [lg_sl, cat_rv, cat_wv, cat_sv, cat_i, cat_l, cat_a]) (fun p e s m args below meth c ls X hr hlk hnm S hl => ?_)
  have hl : lv_has ls 6 [(0, rv a0), (1, .long a1)] := by simpa [lv_args, cat_rv, cat_wv, cat_sv, cat_i, cat_l, cat_a] using hl
  generalize hH : s.heap = H at S ⊢
  generalize hlo : ([] : List Loc) = locs at S ⊢
  clear hH hlo
  unfold fX1_takeNumber at hf
  obtain ⟨hth, hf⟩ := gd_some hf
  refine lv_lload_n X.1 X.2.1 dX1_takeNumber_0 rfl (lv_at hl 1 rfl) ?_
  refine lv_lstore_n (i := 3) (lv' := [(3, .long a1), (0, rv a0), (1, .long a1)]) X.1 X.2.1 dX1_takeNumber_1 rfl hl (by decide) rfl (fun ls hl => ?_)
  refine lv_iconst (v := 0) X.1 X.2.1 dX1_takeNumber_2 (by decide) ?_
  refine lv_istore (lv' := [(5, .int 0), (3, .long a1), (0, rv a0), (1, .long a1)]) X.1 X.2.1 dX1_takeNumber_3 hl (by decide) rfl (fun ls hl => ?_)
  exact wfX1_takeNumber_5_l X hr hlk hnm FU _ _ _ _ _ _ _ _ (lv_sub hl [2, 3, 1, 0] rfl) S hf
def fX1_shiftLeft_2 (k2 : Nat → Nat → Int32 → Int32 → Hp → Option (Hp)) (x0 : Nat) (x1 : Nat) (x2 : Int32) (x3 : Int32) (h : Hp) : Option (Hp) := if 64 ≤ x3 then ob (gI 1 x1 2 h) fun v2 => ob (pZ 1 x0 2 v2 h) fun h => ob (fX1_measure x0 h) fun h => some h else ob (gR 1 x0 0 h) fun v4 => ob (fX1_digit x1 (x3 - x2) h) fun v5 => ob (qI v4 x3 v5 h) fun h => lt (x3 + 1) fun z6 => k2 x0 x1 x2 z6 h
theorem wfX1_shiftLeft_2 {k2 : Nat → Nat → Int32 → Int32 → Hp → Option (Hp)} {h9 : Hp} (X : Cx p E A 9 R s m args c cX1_shiftLeft yX1_shiftLeft.cls 4) (hr : meth.sig.returnType = none) (hlk : meth.locks = false) (hnm : meth.name = yX1_shiftLeft.name) (hk2 : ∀ (x0 : Nat) (x1 : Nat) (x2 : Int32) (x3 : Int32) (h : Hp) (H : Heap) (locs : List Loc) (ls : Array Slot), lv_has ls 4 [(0, rv x0), (1, rv x1), (2, .int x2), (3, .int x3)] → St E A s h H locs → k2 x0 x1 x2 x3 h = some h9 → W p l e R s m args below meth c H locs 0 0 (MQ below (Qv E A h9) args s 0 0 A) (F0 m 2 ls [])) :
    ∀ (x0 : Nat) (x1 : Nat) (x2 : Int32) (x3 : Int32) (h : Hp) (H : Heap) (locs : List Loc) (ls : Array Slot), lv_has ls 4 [(0, rv x0), (1, rv x1), (2, .int x2), (3, .int x3)] → St E A s h H locs → fX1_shiftLeft_2 k2 x0 x1 x2 x3 h = some h9 → W p l e R s m args below meth c H locs 0 0 (MQ below (Qv E A h9) args s 0 0 A) (F0 m 2 ls []) := by
  intro x0 x1 x2 x3 h H locs ls hl S hf
  unfold fX1_shiftLeft_2 at hf
  refine lv_iload_n X.1 X.2.1 dX1_shiftLeft_2 rfl (lv_at hl 3 rfl) ?_
  refine lv_bipush (v := 64) X.1 X.2.1 dX1_shiftLeft_3 (by decide) ?_
  refine lv_icmp_ge (tgt := 27) X.1 X.2.1 dX1_shiftLeft_5 (by decide) (fun c1 => ?_) (fun c1 => ?_)
  · replace hf := (if_pos c1).symm.trans hf
    refine g_aload_n X (or_rv _) dX1_shiftLeft_27 rfl (lv_at hl 0 rfl) ?_
    refine g_aload_n X (or_rv _) dX1_shiftLeft_28 rfl (lv_at hl 1 rfl) ?_
    refine g_gI X S foX1_19 rfl dX1_shiftLeft_29 hf (fun v2 hf => ?_)
    refine g_pZ X S fpX1_19 (Or.inl rfl) dX1_shiftLeft_32 hf (fun h H locs hm hf S => ?_)
    refine g_aload_n X (or_rv _) dX1_shiftLeft_35 rfl (lv_at hl 0 rfl) ?_
    obtain ⟨h, hc, hf⟩ := ob_some hf
    refine g_cv S (runV (As := []) (rest := []) X S coX1_33 (by decide) (cX1_measure_m l hc) (tkX1_measure hc) rfl hl.1 (by decide) rfl ⟨Nat.zero_le _, Nat.zero_le _⟩ dX1_shiftLeft_36) (fun H locs S => ?_)
    cases hf; exact g_rv X S hr hlk dX1_shiftLeft_39
  · replace hf := (if_neg c1).symm.trans hf
    refine g_aload_n X (or_rv _) dX1_shiftLeft_8 rfl (lv_at hl 0 rfl) ?_
    refine g_gR X S foX1_11 dX1_shiftLeft_9 hf (fun v4 hf => ?_)
    refine lv_iload_n X.1 X.2.1 dX1_shiftLeft_12 rfl (lv_at hl 3 rfl) ?_
    refine g_aload_n X (or_rv _) dX1_shiftLeft_13 rfl (lv_at hl 1 rfl) ?_
    refine lv_iload_n X.1 X.2.1 dX1_shiftLeft_14 rfl (lv_at hl 3 rfl) ?_
    refine lv_iload_n X.1 X.2.1 dX1_shiftLeft_15 rfl (lv_at hl 2 rfl) ?_
    refine lv_isub X.1 X.2.1 dX1_shiftLeft_16 ?_
    obtain ⟨v5, hc, hf⟩ := ob_some hf
    refine g_ci S (runV (As := [.int (x3 - x2)]) (rest := [.int x3, rv v4]) X S coX1_71 (by decide) (cX1_digit_m l hc) (tkX1_digit hc) rfl hl.1 (by simp [cat_rv, cat_wv, cat_sv, cat_i, cat_l, cat_a]) rfl ⟨Nat.zero_le _, Nat.zero_le _⟩ dX1_shiftLeft_17) (fun H locs S => ?_)
    refine g_qI X S dX1_shiftLeft_20 hf (fun h H locs hm hf S => ?_)
    obtain ⟨z6, ez6, hf⟩ := lt_some hf
    refine lv_iinc (v := z6) (lv' := [(3, .int z6), (0, rv x0), (1, rv x1), (2, .int x2)]) X.1 X.2.1 dX1_shiftLeft_21 hl (k := 3) rfl (by rw [← ez6]; rfl) (by decide) rfl (fun ls hl => ?_)
    refine lv_goto (tgt := 2) X.1 X.2.1 dX1_shiftLeft_24 (by decide) ?_
    exact hk2 _ _ _ _ _ _ _ _ (lv_sub hl [1, 2, 3, 0] rfl) S hf
theorem wfX1_shiftLeft_2_l {h9 : Hp} (X : Cx p E A 9 R s m args c cX1_shiftLeft yX1_shiftLeft.cls 4) (hr : meth.sig.returnType = none) (hlk : meth.locks = false) (hnm : meth.name = yX1_shiftLeft.name) :
    ∀ (n : Nat) (x0 : Nat) (x1 : Nat) (x2 : Int32) (x3 : Int32) (h : Hp) (H : Heap) (locs : List Loc) (ls : Array Slot), lv_has ls 4 [(0, rv x0), (1, rv x1), (2, .int x2), (3, .int x3)] → St E A s h H locs → lp (fun _ _ _ _ _ => none) (fX1_shiftLeft_2) n x0 x1 x2 x3 h = some h9 → W p l e R s m args below meth c H locs 0 0 (MQ below (Qv E A h9) args s 0 0 A) (F0 m 2 ls []) := by
  intro n
  induction n with
  | zero =>
    intro x0 x1 x2 x3 h H locs ls hl S hf
    exact nomatch hf
  | succ n ih =>
    intro x0 x1 x2 x3 h H locs ls hl S hf
    exact wfX1_shiftLeft_2 X hr hlk hnm ih x0 x1 x2 x3 h H locs ls hl S hf
def fX1_shiftLeft (a0 : Nat) (a1 : Nat) (a2 : Int32) (h : Hp) : Option (Hp) := gd 1 a0 h (lp (fun _ _ _ _ _ => none) (fX1_shiftLeft_2) FU a0 a1 a2 0 h)
theorem tkX1_shiftLeft {a0 : Nat} {a1 : Nat} {a2 : Int32} {h : Hp} {r9 : Hp} (e : fX1_shiftLeft a0 a1 a2 h = some r9) : hK h a0 = 1 := by
  unfold fX1_shiftLeft at e
  exact (gd_some e).1
theorem cX1_shiftLeft_m (l : Launch) {E : EE} {A : Nat → Prop} {a0 : Nat} {a1 : Nat} {a2 : Int32} {h : Hp} {h9 : Hp} (hf : fX1_shiftLeft a0 a1 a2 h = some h9) : Met l yX1_shiftLeft (wsM yX1_shiftLeft cX1_shiftLeft 4 none) (rmm 9 0 0) (PcE E A h [rv a0, rv a1, .int a2]) (Qv E A h9) 0 0 A := by
  refine met_of (by decide +kernel) (by simp [lg_sl, cat_rv, cat_wv, cat_sv, cat_i, cat_l, cat_a]) (fun p e s m args below meth c ls X hr hlk hnm S hl => ?_)
  have hl : lv_has ls 4 [(0, rv a0), (1, rv a1), (2, .int a2)] := by simpa [lv_args, cat_rv, cat_wv, cat_sv, cat_i, cat_l, cat_a] using hl
  generalize hH : s.heap = H at S ⊢
  generalize hlo : ([] : List Loc) = locs at S ⊢
  clear hH hlo
  unfold fX1_shiftLeft at hf
  obtain ⟨hth, hf⟩ := gd_some hf
  refine lv_iconst (v := 0) X.1 X.2.1 dX1_shiftLeft_0 (by decide) ?_
  refine lv_istore_n (i := 3) (lv' := [(3, .int 0), (0, rv a0), (1, rv a1), (2, .int a2)]) X.1 X.2.1 dX1_shiftLeft_1 rfl hl (by decide) rfl (fun ls hl => ?_)
  exact wfX1_shiftLeft_2_l X hr hlk hnm FU _ _ _ _ _ _ _ _ (lv_sub hl [1, 2, 3, 0] rfl) S hf
def fX1_shiftRight_56 (k24 : Nat → Nat → Int32 → Int32 → Int32 → Hp → Option (Hp)) (x0 : Nat) (x1 : Nat) (x2 : Int32) (x5 : Int32) (x6 : Int32) (y0 : Int32) (h : Hp) : Option (Hp) := ob (gR 1 x0 0 h) fun v1 => ob (qI v1 x5 (x6 - (10 * y0)) h) fun h => lt (x5 + 1) fun z2 => k24 x0 x1 x2 y0 z2 h
theorem wfX1_shiftRight_56 {k24 : Nat → Nat → Int32 → Int32 → Int32 → Hp → Option (Hp)} {h9 : Hp} (X : Cx p E A 9 R s m args c cX1_shiftRight yX1_shiftRight.cls 7) (hr : meth.sig.returnType = none) (hlk : meth.locks = false) (hnm : meth.name = yX1_shiftRight.name) (hk24 : ∀ (x0 : Nat) (x1 : Nat) (x2 : Int32) (x4 : Int32) (x5 : Int32) (h : Hp) (H : Heap) (locs : List Loc) (ls : Array Slot), lv_has ls 7 [(0, rv x0), (1, rv x1), (2, .int x2), (4, .int x4), (5, .int x5)] → St E A s h H locs → k24 x0 x1 x2 x4 x5 h = some h9 → W p l e R s m args below meth c H locs 0 0 (MQ below (Qv E A h9) args s 0 0 A) (F0 m 24 ls [])) :
    ∀ (x0 : Nat) (x1 : Nat) (x2 : Int32) (x5 : Int32) (x6 : Int32) (y0 : Int32) (h : Hp) (H : Heap) (locs : List Loc) (ls : Array Slot), lv_has ls 7 [(0, rv x0), (1, rv x1), (2, .int x2), (5, .int x5), (6, .int x6)] → St E A s h H locs → fX1_shiftRight_56 k24 x0 x1 x2 x5 x6 y0 h = some h9 → W p l e R s m args below meth c H locs 0 0 (MQ below (Qv E A h9) args s 0 0 A) (F0 m 56 ls [.int y0]) := by
  intro x0 x1 x2 x5 x6 y0 h H locs ls hl S hf
  unfold fX1_shiftRight_56 at hf
  refine lv_istore (lv' := [(4, .int y0), (0, rv x0), (1, rv x1), (2, .int x2), (5, .int x5), (6, .int x6)]) X.1 X.2.1 dX1_shiftRight_56 hl (by decide) rfl (fun ls hl => ?_)
  refine g_aload_n X (or_rv _) dX1_shiftRight_58 rfl (lv_at hl 1 rfl) ?_
  refine g_gR X S foX1_11 dX1_shiftRight_59 hf (fun v1 hf => ?_)
  refine lv_iload X.1 X.2.1 dX1_shiftRight_62 (lv_at hl 4 rfl) ?_
  refine lv_iload X.1 X.2.1 dX1_shiftRight_64 (lv_at hl 5 rfl) ?_
  refine lv_bipush (v := 10) X.1 X.2.1 dX1_shiftRight_66 (by decide) ?_
  refine lv_iload X.1 X.2.1 dX1_shiftRight_68 (lv_at hl 0 rfl) ?_
  refine lv_imul X.1 X.2.1 dX1_shiftRight_70 ?_
  refine lv_isub X.1 X.2.1 dX1_shiftRight_71 ?_
  refine g_qI X S dX1_shiftRight_72 hf (fun h H locs hm hf S => ?_)
  obtain ⟨z2, ez2, hf⟩ := lt_some hf
  refine lv_iinc (v := z2) (lv' := [(5, .int z2), (4, .int y0), (0, rv x0), (1, rv x1), (2, .int x2), (6, .int x6)]) X.1 X.2.1 dX1_shiftRight_73 hl (k := 4) rfl (by rw [← ez2]; rfl) (by decide) rfl (fun ls hl => ?_)
  refine lv_goto (tgt := 24) X.1 X.2.1 dX1_shiftRight_76 (by decide) ?_
  exact hk24 _ _ _ _ _ _ _ _ _ (lv_sub hl [2, 3, 4, 1, 0] rfl) S hf
def fX1_shiftRight_24 (k24 : Nat → Nat → Int32 → Int32 → Int32 → Hp → Option (Hp)) (x0 : Nat) (x1 : Nat) (x2 : Int32) (x4 : Int32) (x5 : Int32) (h : Hp) : Option (Hp) := if 64 ≤ x5 then ob (gI 1 x1 2 h) fun v2 => ob (pZ 1 x0 2 v2 h) fun h => ob (fX1_measure x0 h) fun h => some h else ob (fX1_digit x1 (x5 + x2) h) fun v4 => lt (v4 + x4) fun z5 => if z5 ≤ 9 then fX1_shiftRight_56 k24 x0 x1 x2 x5 z5 0 h else fX1_shiftRight_56 k24 x0 x1 x2 x5 z5 1 h
theorem wfX1_shiftRight_24 {k24 : Nat → Nat → Int32 → Int32 → Int32 → Hp → Option (Hp)} {h9 : Hp} (X : Cx p E A 9 R s m args c cX1_shiftRight yX1_shiftRight.cls 7) (hr : meth.sig.returnType = none) (hlk : meth.locks = false) (hnm : meth.name = yX1_shiftRight.name) (hk24 : ∀ (x0 : Nat) (x1 : Nat) (x2 : Int32) (x4 : Int32) (x5 : Int32) (h : Hp) (H : Heap) (locs : List Loc) (ls : Array Slot), lv_has ls 7 [(0, rv x0), (1, rv x1), (2, .int x2), (4, .int x4), (5, .int x5)] → St E A s h H locs → k24 x0 x1 x2 x4 x5 h = some h9 → W p l e R s m args below meth c H locs 0 0 (MQ below (Qv E A h9) args s 0 0 A) (F0 m 24 ls [])) :
    ∀ (x0 : Nat) (x1 : Nat) (x2 : Int32) (x4 : Int32) (x5 : Int32) (h : Hp) (H : Heap) (locs : List Loc) (ls : Array Slot), lv_has ls 7 [(0, rv x0), (1, rv x1), (2, .int x2), (4, .int x4), (5, .int x5)] → St E A s h H locs → fX1_shiftRight_24 k24 x0 x1 x2 x4 x5 h = some h9 → W p l e R s m args below meth c H locs 0 0 (MQ below (Qv E A h9) args s 0 0 A) (F0 m 24 ls []) := by
  intro x0 x1 x2 x4 x5 h H locs ls hl S hf
  unfold fX1_shiftRight_24 at hf
  refine lv_iload X.1 X.2.1 dX1_shiftRight_24 (lv_at hl 4 rfl) ?_
  refine lv_bipush (v := 64) X.1 X.2.1 dX1_shiftRight_26 (by decide) ?_
  refine lv_icmp_ge (tgt := 79) X.1 X.2.1 dX1_shiftRight_28 (by decide) (fun c1 => ?_) (fun c1 => ?_)
  · replace hf := (if_pos c1).symm.trans hf
    refine g_aload_n X (or_rv _) dX1_shiftRight_79 rfl (lv_at hl 0 rfl) ?_
    refine g_aload_n X (or_rv _) dX1_shiftRight_80 rfl (lv_at hl 1 rfl) ?_
    refine g_gI X S foX1_19 rfl dX1_shiftRight_81 hf (fun v2 hf => ?_)
    refine g_pZ X S fpX1_19 (Or.inl rfl) dX1_shiftRight_84 hf (fun h H locs hm hf S => ?_)
    refine g_aload_n X (or_rv _) dX1_shiftRight_87 rfl (lv_at hl 0 rfl) ?_
    obtain ⟨h, hc, hf⟩ := ob_some hf
    refine g_cv S (runV (As := []) (rest := []) X S coX1_33 (by decide) (cX1_measure_m l hc) (tkX1_measure hc) rfl hl.1 (by decide) rfl ⟨Nat.zero_le _, Nat.zero_le _⟩ dX1_shiftRight_88) (fun H locs S => ?_)
    cases hf; exact g_rv X S hr hlk dX1_shiftRight_91
  · replace hf := (if_neg c1).symm.trans hf
    refine g_aload_n X (or_rv _) dX1_shiftRight_31 rfl (lv_at hl 1 rfl) ?_
    refine lv_iload X.1 X.2.1 dX1_shiftRight_32 (lv_at hl 4 rfl) ?_
    refine lv_iload_n X.1 X.2.1 dX1_shiftRight_34 rfl (lv_at hl 2 rfl) ?_
    refine lv_iadd X.1 X.2.1 dX1_shiftRight_35 ?_
    obtain ⟨v4, hc, hf⟩ := ob_some hf
    refine g_ci S (runV (As := [.int (x5 + x2)]) (rest := []) X S coX1_71 (by decide) (cX1_digit_m l hc) (tkX1_digit hc) rfl hl.1 (by decide) rfl ⟨Nat.zero_le _, Nat.zero_le _⟩ dX1_shiftRight_36) (fun H locs S => ?_)
    refine lv_iload X.1 X.2.1 dX1_shiftRight_39 (lv_at hl 3 rfl) ?_
    refine lv_iadd X.1 X.2.1 dX1_shiftRight_41 ?_
    refine g_lti hf (fun z5 hf => ?_)
    refine lv_istore (lv' := [(6, .int z5), (0, rv x0), (1, rv x1), (2, .int x2), (4, .int x4), (5, .int x5)]) X.1 X.2.1 dX1_shiftRight_42 hl (by decide) rfl (fun ls hl => ?_)
    refine lv_iload X.1 X.2.1 dX1_shiftRight_44 (lv_at hl 0 rfl) ?_
    refine lv_bipush (v := 9) X.1 X.2.1 dX1_shiftRight_46 (by decide) ?_
    refine lv_icmp_le (tgt := 55) X.1 X.2.1 dX1_shiftRight_48 (by decide) (fun c6 => ?_) (fun c6 => ?_)
    · replace hf := (if_pos c6).symm.trans hf
      refine lv_iconst (v := 0) X.1 X.2.1 dX1_shiftRight_55 (by decide) ?_
      exact wfX1_shiftRight_56 X hr hlk hnm hk24 _ _ _ _ _ _ _ _ _ _ (lv_sub hl [1, 2, 3, 5, 0] rfl) S hf
    · replace hf := (if_neg c6).symm.trans hf
      refine lv_iconst (v := 1) X.1 X.2.1 dX1_shiftRight_51 (by decide) ?_
      refine lv_goto (tgt := 56) X.1 X.2.1 dX1_shiftRight_52 (by decide) ?_
      exact wfX1_shiftRight_56 X hr hlk hnm hk24 _ _ _ _ _ _ _ _ _ _ (lv_sub hl [1, 2, 3, 5, 0] rfl) S hf
theorem wfX1_shiftRight_24_l {h9 : Hp} (X : Cx p E A 9 R s m args c cX1_shiftRight yX1_shiftRight.cls 7) (hr : meth.sig.returnType = none) (hlk : meth.locks = false) (hnm : meth.name = yX1_shiftRight.name) :
    ∀ (n : Nat) (x0 : Nat) (x1 : Nat) (x2 : Int32) (x4 : Int32) (x5 : Int32) (h : Hp) (H : Heap) (locs : List Loc) (ls : Array Slot), lv_has ls 7 [(0, rv x0), (1, rv x1), (2, .int x2), (4, .int x4), (5, .int x5)] → St E A s h H locs → lp (fun _ _ _ _ _ _ => none) (fX1_shiftRight_24) n x0 x1 x2 x4 x5 h = some h9 → W p l e R s m args below meth c H locs 0 0 (MQ below (Qv E A h9) args s 0 0 A) (F0 m 24 ls []) := by
  intro n
  induction n with
  | zero =>
    intro x0 x1 x2 x4 x5 h H locs ls hl S hf
    exact nomatch hf
  | succ n ih =>
    intro x0 x1 x2 x4 x5 h H locs ls hl S hf
    exact wfX1_shiftRight_24 X hr hlk hnm ih x0 x1 x2 x4 x5 h H locs ls hl S hf
def fX1_shiftRight (a0 : Nat) (a1 : Nat) (a2 : Int32) (a3 : Int32) (h : Hp) : Option (Hp) := gd 1 a0 h (ob (fX1_digit a1 (a2 - 1) h) fun v1 => if (v1 + a3) ≤ 9 then lp (fun _ _ _ _ _ _ => none) (fX1_shiftRight_24) FU a0 a1 a2 0 0 h else lp (fun _ _ _ _ _ _ => none) (fX1_shiftRight_24) FU a0 a1 a2 1 0 h)
theorem tkX1_shiftRight {a0 : Nat} {a1 : Nat} {a2 : Int32} {a3 : Int32} {h : Hp} {r9 : Hp} (e : fX1_shiftRight a0 a1 a2 a3 h = some r9) : hK h a0 = 1 := by
  unfold fX1_shiftRight at e
  exact (gd_some e).1
theorem cX1_shiftRight_m (l : Launch) {E : EE} {A : Nat → Prop} {a0 : Nat} {a1 : Nat} {a2 : Int32} {a3 : Int32} {h : Hp} {h9 : Hp} (hf : fX1_shiftRight a0 a1 a2 a3 h = some h9) : Met l yX1_shiftRight (wsM yX1_shiftRight cX1_shiftRight 7 none) (rmm 9 0 0) (PcE E A h [rv a0, rv a1, .int a2, .int a3]) (Qv E A h9) 0 0 A := by
  refine met_of (by decide +kernel) (by simp [lg_sl, cat_rv, cat_wv, cat_sv, cat_i, cat_l, cat_a]) (fun p e s m args below meth c ls X hr hlk hnm S hl => ?_)
  have hl : lv_has ls 7 [(0, rv a0), (1, rv a1), (2, .int a2), (3, .int a3)] := by simpa [lv_args, cat_rv, cat_wv, cat_sv, cat_i, cat_l, cat_a] using hl
  generalize hH : s.heap = H at S ⊢
  generalize hlo : ([] : List Loc) = locs at S ⊢
  clear hH hlo
  unfold fX1_shiftRight at hf
  obtain ⟨hth, hf⟩ := gd_some hf
  refine g_aload_n X (or_rv _) dX1_shiftRight_0 rfl (lv_at hl 1 rfl) ?_
  refine lv_iload_n X.1 X.2.1 dX1_shiftRight_1 rfl (lv_at hl 2 rfl) ?_
  refine lv_iconst (v := 1) X.1 X.2.1 dX1_shiftRight_2 (by decide) ?_
  refine lv_isub X.1 X.2.1 dX1_shiftRight_3 ?_
  obtain ⟨v1, hc, hf⟩ := ob_some hf
  refine g_ci S (runV (As := [.int (a2 - 1)]) (rest := []) X S coX1_71 (by decide) (cX1_digit_m l hc) (tkX1_digit hc) rfl hl.1 (by decide) rfl ⟨Nat.zero_le _, Nat.zero_le _⟩ dX1_shiftRight_4) (fun H locs S => ?_)
  refine lv_iload_n X.1 X.2.1 dX1_shiftRight_7 rfl (lv_at hl 3 rfl) ?_
  refine lv_iadd X.1 X.2.1 dX1_shiftRight_8 ?_
  refine lv_bipush (v := 9) X.1 X.2.1 dX1_shiftRight_9 (by decide) ?_
  refine lv_icmp_le (tgt := 18) X.1 X.2.1 dX1_shiftRight_11 (by decide) (fun c2 => ?_) (fun c2 => ?_)
  · replace hf := (if_pos c2).symm.trans hf
    refine lv_iconst (v := 0) X.1 X.2.1 dX1_shiftRight_18 (by decide) ?_
    refine lv_istore (lv' := [(4, .int 0), (0, rv a0), (1, rv a1), (2, .int a2), (3, .int a3)]) X.1 X.2.1 dX1_shiftRight_19 hl (by decide) rfl (fun ls hl => ?_)
    refine lv_iconst (v := 0) X.1 X.2.1 dX1_shiftRight_21 (by decide) ?_
    refine lv_istore (lv' := [(5, .int 0), (4, .int 0), (0, rv a0), (1, rv a1), (2, .int a2), (3, .int a3)]) X.1 X.2.1 dX1_shiftRight_22 hl (by decide) rfl (fun ls hl => ?_)
    exact wfX1_shiftRight_24_l X hr hlk hnm FU _ _ _ _ _ _ _ _ _ (lv_sub hl [2, 3, 4, 1, 0] rfl) S hf
  · replace hf := (if_neg c2).symm.trans hf
    refine lv_iconst (v := 1) X.1 X.2.1 dX1_shiftRight_14 (by decide) ?_
    refine lv_goto (tgt := 19) X.1 X.2.1 dX1_shiftRight_15 (by decide) ?_
    refine lv_istore (lv' := [(4, .int 1), (0, rv a0), (1, rv a1), (2, .int a2), (3, .int a3)]) X.1 X.2.1 dX1_shiftRight_19 hl (by decide) rfl (fun ls hl => ?_)
    refine lv_iconst (v := 0) X.1 X.2.1 dX1_shiftRight_21 (by decide) ?_
    refine lv_istore (lv' := [(5, .int 0), (4, .int 1), (0, rv a0), (1, rv a1), (2, .int a2), (3, .int a3)]) X.1 X.2.1 dX1_shiftRight_22 hl (by decide) rfl (fun ls hl => ?_)
    exact wfX1_shiftRight_24_l X hr hlk hnm FU _ _ _ _ _ _ _ _ _ (lv_sub hl [2, 3, 4, 1, 0] rfl) S hf
end GM
