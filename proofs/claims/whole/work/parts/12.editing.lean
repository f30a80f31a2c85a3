section GM
variable {p : Program} {l : Launch} {e : Env} {R : Room} {s : State} {m : MethodId} {args : Array Value} {below : List Frame} {meth : Method} {c : Code} {E : EE} {A : Nat → Prop}
def fX3_init (a0 : Nat) (h : Hp) : Option (Hp) := gd 3 a0 h (ob2 (newA 101 4 64 h) fun p1 h => ob (pR 3 a0 0 p1 h) fun h => ob2 (newA 101 4 32 h) fun p2 h => ob (pR 3 a0 1 p2 h) fun h => ob2 (newA 101 4 32 h) fun p3 h => ob (pR 3 a0 2 p3 h) fun h => ob2 (newA 102 8 132 h) fun p4 h => ob (pR 3 a0 3 p4 h) fun h => ob2 (newO 9 1 h) fun p5 h => oba h (fX10_init p5 h) fun h => ob (pR 3 a0 4 p5 h) fun h => some h)
theorem tkX3_init {a0 : Nat} {h : Hp} {r9 : Hp} (e : fX3_init a0 h = some r9) : hK h a0 = 3 := by
  unfold fX3_init at e
  exact (gd_some e).1
theorem cX3_init_m (l : Launch) {E : EE} {A : Nat → Prop} {a0 : Nat} {h : Hp} {h9 : Hp} {mc ms : Nat} (hmc : mc + hX h = hC h) (hms : ms + hU h = hZ h) (hf : fX3_init a0 h = some h9) : Met l yX3_init (wsM yX3_init cX3_init 1 none) (rmm 11 mc ms) (PcF E A h [rv a0]) (QG (Qv E A h9) h h9) mc ms A := by
  refine met_ofA (by decide +kernel) (by simp [lg_sl, cat_rv, cat_wv, cat_sv, cat_i, cat_l, cat_a]) hmc hms (fun p e s m args below meth c ls X hr hlk hnm S AI hl => ?_)
  have hl : lv_has ls 1 [(0, rv a0)] := by simpa [lv_args, cat_rv, cat_wv, cat_sv, cat_i, cat_l, cat_a] using hl
  generalize hH : s.heap = H at S ⊢
  generalize hlo : ([] : List Loc) = locs at S ⊢
  clear hH hlo
  unfold fX3_init at hf
  obtain ⟨hth, hf⟩ := gd_some hf
  refine g_aload_n X (or_rv _) dX3_init_0 rfl (lv_at hl 0 rfl) ?_
  refine g_oi (rest := []) X S hl.1 oiX3_3 dX3_init_1 (by decide) (by decide) (dom_ne S.1.1 hth (by decide)) ?_
  refine g_aload_n X (or_rv _) dX3_init_4 rfl (lv_at hl 0 rfl) ?_
  refine lv_bipush (v := 64) X.1 X.2.1 dX3_init_5 (by decide) ?_
  refine g_newI X S AI dX3_init_7 hf (fun p1 h H cells slots hf S AI => ?_)
  refine g_pR X S fpX3_11 (Or.inr ⟨_, rfl⟩) (Or.inr hnm) dX3_init_9 hf (fun h H locs hm hf S => ?_)
  replace AI := AI.sm hm
  refine g_aload_n X (or_rv _) dX3_init_12 rfl (lv_at hl 0 rfl) ?_
  refine lv_bipush (v := 32) X.1 X.2.1 dX3_init_13 (by decide) ?_
  refine g_newI X S AI dX3_init_15 hf (fun p2 h H cells slots hf S AI => ?_)
  refine g_pR X S fpX3_15 (Or.inr ⟨_, rfl⟩) (Or.inr hnm) dX3_init_17 hf (fun h H locs hm hf S => ?_)
  replace AI := AI.sm hm
  refine g_aload_n X (or_rv _) dX3_init_20 rfl (lv_at hl 0 rfl) ?_
  refine lv_bipush (v := 32) X.1 X.2.1 dX3_init_21 (by decide) ?_
  refine g_newI X S AI dX3_init_23 hf (fun p3 h H cells slots hf S AI => ?_)
  refine g_pR X S fpX3_18 (Or.inr ⟨_, rfl⟩) (Or.inr hnm) dX3_init_25 hf (fun h H locs hm hf S => ?_)
  replace AI := AI.sm hm
  refine g_aload_n X (or_rv _) dX3_init_28 rfl (lv_at hl 0 rfl) ?_
  refine lv_sipush (v := 132) X.1 X.2.1 dX3_init_29 (by decide) ?_
  refine g_newL X S AI dX3_init_32 hf (fun p4 h H cells slots hf S AI => ?_)
  refine g_pR X S fpX3_21 (Or.inr ⟨_, rfl⟩) (Or.inr hnm) dX3_init_34 hf (fun h H locs hm hf S => ?_)
  replace AI := AI.sm hm
  refine g_aload_n X (or_rv _) dX3_init_37 rfl (lv_at hl 0 rfl) ?_
  refine g_newO X S AI noX3_25 dX3_init_38 hf (fun p5 h H cells slots hkp5 hf S AI => ?_)
  refine lv_dup X.1 X.2.1 dX3_init_41 (cat_rv _) ?_
  obtain ⟨h, hc, hok, hf⟩ := oba_some hf
  refine g_cvA S AI hok (fun hsz => runIF (As := []) (rest := [rv p5, rv a0]) X S hsz coX3_27 (by decide) (cX10_init_m l AI.mcs.1 AI.mcs.2 hc) (tkX10_init hc) (by decide) rfl hl.1 (by simp [cat_rv, cat_wv, cat_sv, cat_i, cat_l, cat_a]) rfl AI.room dX3_init_42) (fun H locs cells slots S AI => ?_)
  refine g_pR X S fpX3_28 (Or.inl ⟨_, rfl⟩) (Or.inl rfl) dX3_init_45 hf (fun h H locs hm hf S => ?_)
  replace AI := AI.sm hm
  cases hf; exact g_rvA X S AI hr hlk dX3_init_48
def fX3_takesDigit (a0 : Int32) : Option (Int32) := if a0 = 32 then some 1 else if a0 = 33 then some 1 else some 0
theorem cX3_takesDigit_m (l : Launch) {E : EE} {A : Nat → Prop} {a0 : Int32} {h : Hp} {r9 : Int32} (hf : fX3_takesDigit a0 = some r9) : Met l yX3_takesDigit (wsM yX3_takesDigit cX3_takesDigit 1 (some .boolean)) (rmm 8 0 0) (PcE E A h [.int a0]) (Qi E A h r9) 0 0 A := by
  refine met_of (by decide +kernel) (by simp [lg_sl, cat_rv, cat_wv, cat_sv, cat_i, cat_l, cat_a]) (fun p e s m args below meth c ls X hr hlk hnm S hl => ?_)
  have hl : lv_has ls 1 [(0, .int a0)] := by simpa [lv_args, cat_rv, cat_wv, cat_sv, cat_i, cat_l, cat_a] using hl
  generalize hH : s.heap = H at S ⊢
  generalize hlo : ([] : List Loc) = locs at S ⊢
  clear hH hlo
  unfold fX3_takesDigit at hf
  refine lv_iload_n X.1 X.2.1 dX3_takesDigit_0 rfl (lv_at hl 0 rfl) ?_
  refine lv_bipush (v := 32) X.1 X.2.1 dX3_takesDigit_1 (by decide) ?_
  refine lv_icmp_eq (tgt := 12) X.1 X.2.1 dX3_takesDigit_3 (by decide) (fun c1 => ?_) (fun c1 => ?_)
  · replace hf := (if_pos c1).symm.trans hf
    refine lv_iconst (v := 1) X.1 X.2.1 dX3_takesDigit_12 (by decide) ?_
    refine lv_goto (tgt := 17) X.1 X.2.1 dX3_takesDigit_13 (by decide) ?_
    cases hf; exact g_rz X S hr hlk (by decide) dX3_takesDigit_17
  · replace hf := (if_neg c1).symm.trans hf
    refine lv_iload_n X.1 X.2.1 dX3_takesDigit_6 rfl (lv_at hl 0 rfl) ?_
    refine lv_bipush (v := 33) X.1 X.2.1 dX3_takesDigit_7 (by decide) ?_
    refine lv_icmp_ne (tgt := 16) X.1 X.2.1 dX3_takesDigit_9 (by decide) (fun c2 => ?_) (fun c2 => ?_)
    · replace hf := (if_neg c2).symm.trans hf
      refine lv_iconst (v := 0) X.1 X.2.1 dX3_takesDigit_16 (by decide) ?_
      cases hf; exact g_rz X S hr hlk (by decide) dX3_takesDigit_17
    · replace hf := (if_pos c2).symm.trans hf
      refine lv_iconst (v := 1) X.1 X.2.1 dX3_takesDigit_12 (by decide) ?_
      refine lv_goto (tgt := 17) X.1 X.2.1 dX3_takesDigit_13 (by decide) ?_
      cases hf; exact g_rz X S hr hlk (by decide) dX3_takesDigit_17
def fX3_laid_12 (x1 : Int32) (x2 : Int32) (x3 : Int32) : Option (Int32) := if x3 = 0 then if x2 = 0 then some x1 else some ((240 : Int32) ||| x3) else some ((240 : Int32) ||| x3)
theorem wfX3_laid_12 {h : Hp} {r9 : Int32} (X : Cx p E A 8 R s m args c cX3_laid yX3_laid.cls 4) (hr : meth.sig.returnType = (some .int)) (hlk : meth.locks = false) (hnm : meth.name = yX3_laid.name) :
    ∀ (x1 : Int32) (x2 : Int32) (x3 : Int32) (H : Heap) (locs : List Loc) (ls : Array Slot), lv_has ls 4 [(1, .int x1), (2, .int x2), (3, .int x3)] → St E A s h H locs → fX3_laid_12 x1 x2 x3 = some r9 → W p l e R s m args below meth c H locs 0 0 (MQ below (Qi E A h r9) args s 0 0 A) (F0 m 12 ls []) := by
  intro x1 x2 x3 H locs ls hl S hf
  unfold fX3_laid_12 at hf
  refine lv_iload_n X.1 X.2.1 dX3_laid_12 rfl (lv_at hl 2 rfl) ?_
  refine lv_if_ne (tgt := 24) X.1 X.2.1 dX3_laid_13 (by decide) (fun c1 => ?_) (fun c1 => ?_)
  · replace hf := (if_neg c1).symm.trans hf
    refine lv_sipush (v := 240) X.1 X.2.1 dX3_laid_24 (by decide) ?_
    refine lv_iload_n X.1 X.2.1 dX3_laid_27 rfl (lv_at hl 2 rfl) ?_
    refine lv_ior X.1 X.2.1 dX3_laid_28 ?_
    cases hf; exact g_ri X S hr hlk dX3_laid_29
  · replace hf := (if_pos c1).symm.trans hf
    refine lv_iload_n X.1 X.2.1 dX3_laid_16 rfl (lv_at hl 1 rfl) ?_
    refine lv_if_ne (tgt := 24) X.1 X.2.1 dX3_laid_17 (by decide) (fun c2 => ?_) (fun c2 => ?_)
    · replace hf := (if_neg c2).symm.trans hf
      refine lv_sipush (v := 240) X.1 X.2.1 dX3_laid_24 (by decide) ?_
      refine lv_iload_n X.1 X.2.1 dX3_laid_27 rfl (lv_at hl 2 rfl) ?_
      refine lv_ior X.1 X.2.1 dX3_laid_28 ?_
      cases hf; exact g_ri X S hr hlk dX3_laid_29
    · replace hf := (if_pos c2).symm.trans hf
      refine lv_iload_n X.1 X.2.1 dX3_laid_20 rfl (lv_at hl 0 rfl) ?_
      refine lv_goto (tgt := 29) X.1 X.2.1 dX3_laid_21 (by decide) ?_
      cases hf; exact g_ri X S hr hlk dX3_laid_29
def fX3_laid (a0 : Int32) (a1 : Int32) (a2 : Int32) (a3 : Int32) : Option (Int32) := if a0 = 32 then fX3_laid_12 a1 a2 a3 else if a0 = 33 then fX3_laid_12 a1 a2 a3 else if a0 = 34 then some a1 else if a2 = 0 then some a1 else some a0
theorem cX3_laid_m (l : Launch) {E : EE} {A : Nat → Prop} {a0 : Int32} {a1 : Int32} {a2 : Int32} {a3 : Int32} {h : Hp} {r9 : Int32} (hf : fX3_laid a0 a1 a2 a3 = some r9) : Met l yX3_laid (wsM yX3_laid cX3_laid 4 (some .int)) (rmm 8 0 0) (PcE E A h [.int a0, .int a1, .int a2, .int a3]) (Qi E A h r9) 0 0 A := by
  refine met_of (by decide +kernel) (by simp [lg_sl, cat_rv, cat_wv, cat_sv, cat_i, cat_l, cat_a]) (fun p e s m args below meth c ls X hr hlk hnm S hl => ?_)
  have hl : lv_has ls 4 [(0, .int a0), (1, .int a1), (2, .int a2), (3, .int a3)] := by simpa [lv_args, cat_rv, cat_wv, cat_sv, cat_i, cat_l, cat_a] using hl
  generalize hH : s.heap = H at S ⊢
  generalize hlo : ([] : List Loc) = locs at S ⊢
  clear hH hlo
  unfold fX3_laid at hf
  refine lv_iload_n X.1 X.2.1 dX3_laid_0 rfl (lv_at hl 0 rfl) ?_
  refine lv_bipush (v := 32) X.1 X.2.1 dX3_laid_1 (by decide) ?_
  refine lv_icmp_eq (tgt := 12) X.1 X.2.1 dX3_laid_3 (by decide) (fun c1 => ?_) (fun c1 => ?_)
  · replace hf := (if_pos c1).symm.trans hf
    exact wfX3_laid_12 X hr hlk hnm _ _ _ _ _ _ (lv_sub hl [1, 2, 3] rfl) S hf
  · replace hf := (if_neg c1).symm.trans hf
    refine lv_iload_n X.1 X.2.1 dX3_laid_6 rfl (lv_at hl 0 rfl) ?_
    refine lv_bipush (v := 33) X.1 X.2.1 dX3_laid_7 (by decide) ?_
    refine lv_icmp_ne (tgt := 30) X.1 X.2.1 dX3_laid_9 (by decide) (fun c2 => ?_) (fun c2 => ?_)
    · replace hf := (if_neg c2).symm.trans hf
      refine lv_iload_n X.1 X.2.1 dX3_laid_30 rfl (lv_at hl 0 rfl) ?_
      refine lv_bipush (v := 34) X.1 X.2.1 dX3_laid_31 (by decide) ?_
      refine lv_icmp_eq (tgt := 40) X.1 X.2.1 dX3_laid_33 (by decide) (fun c3 => ?_) (fun c3 => ?_)
      · replace hf := (if_pos c3).symm.trans hf
        refine lv_iload_n X.1 X.2.1 dX3_laid_40 rfl (lv_at hl 1 rfl) ?_
        refine lv_goto (tgt := 45) X.1 X.2.1 dX3_laid_41 (by decide) ?_
        cases hf; exact g_ri X S hr hlk dX3_laid_45
      · replace hf := (if_neg c3).symm.trans hf
        refine lv_iload_n X.1 X.2.1 dX3_laid_36 rfl (lv_at hl 2 rfl) ?_
        refine lv_if_ne (tgt := 44) X.1 X.2.1 dX3_laid_37 (by decide) (fun c4 => ?_) (fun c4 => ?_)
        · replace hf := (if_neg c4).symm.trans hf
          refine lv_iload_n X.1 X.2.1 dX3_laid_44 rfl (lv_at hl 0 rfl) ?_
          cases hf; exact g_ri X S hr hlk dX3_laid_45
        · replace hf := (if_pos c4).symm.trans hf
          refine lv_iload_n X.1 X.2.1 dX3_laid_40 rfl (lv_at hl 1 rfl) ?_
          refine lv_goto (tgt := 45) X.1 X.2.1 dX3_laid_41 (by decide) ?_
          cases hf; exact g_ri X S hr hlk dX3_laid_45
    · replace hf := (if_pos c2).symm.trans hf
      exact wfX3_laid_12 X hr hlk hnm _ _ _ _ _ _ (lv_sub hl [1, 2, 3] rfl) S hf
def fX3_seenBehind_12 (x0 : Int32) (x1 : Int32) (x2 : Int32) (x3 : Int32) : Option (Int32) := if x3 = 0 then if x1 = 0 then if x2 = 0 then if x0 = 33 then some 1 else some 0 else some 1 else some 1 else some 0
theorem wfX3_seenBehind_12 {h : Hp} {r9 : Int32} (X : Cx p E A 8 R s m args c cX3_seenBehind yX3_seenBehind.cls 4) (hr : meth.sig.returnType = (some .boolean)) (hlk : meth.locks = false) (hnm : meth.name = yX3_seenBehind.name) :
    ∀ (x0 : Int32) (x1 : Int32) (x2 : Int32) (x3 : Int32) (H : Heap) (locs : List Loc) (ls : Array Slot), lv_has ls 4 [(0, .int x0), (1, .int x1), (2, .int x2), (3, .int x3)] → St E A s h H locs → fX3_seenBehind_12 x0 x1 x2 x3 = some r9 → W p l e R s m args below meth c H locs 0 0 (MQ below (Qi E A h r9) args s 0 0 A) (F0 m 12 ls []) := by
  intro x0 x1 x2 x3 H locs ls hl S hf
  unfold fX3_seenBehind_12 at hf
  refine lv_iload_n X.1 X.2.1 dX3_seenBehind_12 rfl (lv_at hl 3 rfl) ?_
  refine lv_if_ne (tgt := 34) X.1 X.2.1 dX3_seenBehind_13 (by decide) (fun c1 => ?_) (fun c1 => ?_)
  · replace hf := (if_neg c1).symm.trans hf
    refine lv_iconst (v := 0) X.1 X.2.1 dX3_seenBehind_34 (by decide) ?_
    cases hf; exact g_rz X S hr hlk (by decide) dX3_seenBehind_35
  · replace hf := (if_pos c1).symm.trans hf
    refine lv_iload_n X.1 X.2.1 dX3_seenBehind_16 rfl (lv_at hl 1 rfl) ?_
    refine lv_if_ne (tgt := 30) X.1 X.2.1 dX3_seenBehind_17 (by decide) (fun c2 => ?_) (fun c2 => ?_)
    · replace hf := (if_neg c2).symm.trans hf
      refine lv_iconst (v := 1) X.1 X.2.1 dX3_seenBehind_30 (by decide) ?_
      refine lv_goto (tgt := 35) X.1 X.2.1 dX3_seenBehind_31 (by decide) ?_
      cases hf; exact g_rz X S hr hlk (by decide) dX3_seenBehind_35
    · replace hf := (if_pos c2).symm.trans hf
      refine lv_iload_n X.1 X.2.1 dX3_seenBehind_20 rfl (lv_at hl 2 rfl) ?_
      refine lv_if_ne (tgt := 30) X.1 X.2.1 dX3_seenBehind_21 (by decide) (fun c3 => ?_) (fun c3 => ?_)
      · replace hf := (if_neg c3).symm.trans hf
        refine lv_iconst (v := 1) X.1 X.2.1 dX3_seenBehind_30 (by decide) ?_
        refine lv_goto (tgt := 35) X.1 X.2.1 dX3_seenBehind_31 (by decide) ?_
        cases hf; exact g_rz X S hr hlk (by decide) dX3_seenBehind_35
      · replace hf := (if_pos c3).symm.trans hf
        refine lv_iload_n X.1 X.2.1 dX3_seenBehind_24 rfl (lv_at hl 0 rfl) ?_
        refine lv_bipush (v := 33) X.1 X.2.1 dX3_seenBehind_25 (by decide) ?_
        refine lv_icmp_ne (tgt := 34) X.1 X.2.1 dX3_seenBehind_27 (by decide) (fun c4 => ?_) (fun c4 => ?_)
        · replace hf := (if_neg c4).symm.trans hf
          refine lv_iconst (v := 0) X.1 X.2.1 dX3_seenBehind_34 (by decide) ?_
          cases hf; exact g_rz X S hr hlk (by decide) dX3_seenBehind_35
        · replace hf := (if_pos c4).symm.trans hf
          refine lv_iconst (v := 1) X.1 X.2.1 dX3_seenBehind_30 (by decide) ?_
          refine lv_goto (tgt := 35) X.1 X.2.1 dX3_seenBehind_31 (by decide) ?_
          cases hf; exact g_rz X S hr hlk (by decide) dX3_seenBehind_35
def fX3_seenBehind (a0 : Int32) (a1 : Int32) (a2 : Int32) (a3 : Int32) : Option (Int32) := if a0 = 32 then fX3_seenBehind_12 a0 a1 a2 a3 else if a0 = 33 then fX3_seenBehind_12 a0 a1 a2 a3 else if a0 = 34 then some 0 else if a1 = 0 then some 0 else some 1
theorem cX3_seenBehind_m (l : Launch) {E : EE} {A : Nat → Prop} {a0 : Int32} {a1 : Int32} {a2 : Int32} {a3 : Int32} {h : Hp} {r9 : Int32} (hf : fX3_seenBehind a0 a1 a2 a3 = some r9) : Met l yX3_seenBehind (wsM yX3_seenBehind cX3_seenBehind 4 (some .boolean)) (rmm 8 0 0) (PcE E A h [.int a0, .int a1, .int a2, .int a3]) (Qi E A h r9) 0 0 A := by
  refine met_of (by decide +kernel) (by simp [lg_sl, cat_rv, cat_wv, cat_sv, cat_i, cat_l, cat_a]) (fun p e s m args below meth c ls X hr hlk hnm S hl => ?_)
  have hl : lv_has ls 4 [(0, .int a0), (1, .int a1), (2, .int a2), (3, .int a3)] := by simpa [lv_args, cat_rv, cat_wv, cat_sv, cat_i, cat_l, cat_a] using hl
  generalize hH : s.heap = H at S ⊢
  generalize hlo : ([] : List Loc) = locs at S ⊢
  clear hH hlo
  unfold fX3_seenBehind at hf
  refine lv_iload_n X.1 X.2.1 dX3_seenBehind_0 rfl (lv_at hl 0 rfl) ?_
  refine lv_bipush (v := 32) X.1 X.2.1 dX3_seenBehind_1 (by decide) ?_
  refine lv_icmp_eq (tgt := 12) X.1 X.2.1 dX3_seenBehind_3 (by decide) (fun c1 => ?_) (fun c1 => ?_)
  · replace hf := (if_pos c1).symm.trans hf
    exact wfX3_seenBehind_12 X hr hlk hnm _ _ _ _ _ _ _ hl S hf
  · replace hf := (if_neg c1).symm.trans hf
    refine lv_iload_n X.1 X.2.1 dX3_seenBehind_6 rfl (lv_at hl 0 rfl) ?_
    refine lv_bipush (v := 33) X.1 X.2.1 dX3_seenBehind_7 (by decide) ?_
    refine lv_icmp_ne (tgt := 36) X.1 X.2.1 dX3_seenBehind_9 (by decide) (fun c2 => ?_) (fun c2 => ?_)
    · replace hf := (if_neg c2).symm.trans hf
      refine lv_iload_n X.1 X.2.1 dX3_seenBehind_36 rfl (lv_at hl 0 rfl) ?_
      refine lv_bipush (v := 34) X.1 X.2.1 dX3_seenBehind_37 (by decide) ?_
      refine lv_icmp_eq (tgt := 50) X.1 X.2.1 dX3_seenBehind_39 (by decide) (fun c3 => ?_) (fun c3 => ?_)
      · replace hf := (if_pos c3).symm.trans hf
        refine lv_iconst (v := 0) X.1 X.2.1 dX3_seenBehind_50 (by decide) ?_
        cases hf; exact g_rz X S hr hlk (by decide) dX3_seenBehind_51
      · replace hf := (if_neg c3).symm.trans hf
        refine lv_iload_n X.1 X.2.1 dX3_seenBehind_42 rfl (lv_at hl 1 rfl) ?_
        refine lv_if_eq (tgt := 50) X.1 X.2.1 dX3_seenBehind_43 (by decide) (fun c4 => ?_) (fun c4 => ?_)
        · replace hf := (if_pos c4).symm.trans hf
          refine lv_iconst (v := 0) X.1 X.2.1 dX3_seenBehind_50 (by decide) ?_
          cases hf; exact g_rz X S hr hlk (by decide) dX3_seenBehind_51
        · replace hf := (if_neg c4).symm.trans hf
          refine lv_iconst (v := 1) X.1 X.2.1 dX3_seenBehind_46 (by decide) ?_
          refine lv_goto (tgt := 51) X.1 X.2.1 dX3_seenBehind_47 (by decide) ?_
          cases hf; exact g_rz X S hr hlk (by decide) dX3_seenBehind_51
    · replace hf := (if_pos c2).symm.trans hf
      exact wfX3_seenBehind_12 X hr hlk hnm _ _ _ _ _ _ _ hl S hf
def fX3_stateBehind_57 (h : Hp) (k58 : Nat → Int32 → Int32 → Int32 → Int32 → Int32 → Option (Int32)) (x0 : Nat) (x1 : Int32) (x2 : Int32) (x3 : Int32) (x4 : Int32) : Option (Int32) := k58 x0 x1 x2 x3 x4 0
theorem wfX3_stateBehind_57 {h : Hp} {k58 : Nat → Int32 → Int32 → Int32 → Int32 → Int32 → Option (Int32)} {r9 : Int32} (X : Cx p E A 9 R s m args c cX3_stateBehind yX3_stateBehind.cls 6) (hr : meth.sig.returnType = (some .int)) (hlk : meth.locks = false) (hnm : meth.name = yX3_stateBehind.name) (hk58 : ∀ (x0 : Nat) (x1 : Int32) (x2 : Int32) (x3 : Int32) (x4 : Int32) (y0 : Int32) (H : Heap) (locs : List Loc) (ls : Array Slot), lv_has ls 6 [(0, rv x0), (1, .int x1), (2, .int x2), (3, .int x3), (4, .int x4)] → St E A s h H locs → k58 x0 x1 x2 x3 x4 y0 = some r9 → W p l e R s m args below meth c H locs 0 0 (MQ below (Qi E A h r9) args s 0 0 A) (F0 m 58 ls [.int y0])) :
    ∀ (x0 : Nat) (x1 : Int32) (x2 : Int32) (x3 : Int32) (x4 : Int32) (H : Heap) (locs : List Loc) (ls : Array Slot), lv_has ls 6 [(0, rv x0), (1, .int x1), (2, .int x2), (3, .int x3), (4, .int x4)] → St E A s h H locs → fX3_stateBehind_57 h k58 x0 x1 x2 x3 x4 = some r9 → W p l e R s m args below meth c H locs 0 0 (MQ below (Qi E A h r9) args s 0 0 A) (F0 m 57 ls []) := by
  intro x0 x1 x2 x3 x4 H locs ls hl S hf
  unfold fX3_stateBehind_57 at hf
  refine lv_iconst (v := 0) X.1 X.2.1 dX3_stateBehind_57 (by decide) ?_
  exact hk58 _ _ _ _ _ _ _ _ _ hl S hf
def fX3_stateBehind_58 (h : Hp) (x0 : Nat) (x1 : Int32) (x2 : Int32) (x3 : Int32) (x4 : Int32) (y0 : Int32) : Option (Int32) := ob (gR 3 x0 1 h) fun v1 => ob (aI v1 x1 h) fun v2 => ob (fX3_seenBehind v2 x4 x3 y0) fun v3 => if v3 = 0 then some ((x2 &&& (2 : Int32)) ||| (0 : Int32)) else some ((x2 &&& (2 : Int32)) ||| (1 : Int32))
theorem wfX3_stateBehind_58 {h : Hp} {r9 : Int32} (X : Cx p E A 9 R s m args c cX3_stateBehind yX3_stateBehind.cls 6) (hr : meth.sig.returnType = (some .int)) (hlk : meth.locks = false) (hnm : meth.name = yX3_stateBehind.name) :
    ∀ (x0 : Nat) (x1 : Int32) (x2 : Int32) (x3 : Int32) (x4 : Int32) (y0 : Int32) (H : Heap) (locs : List Loc) (ls : Array Slot), lv_has ls 6 [(0, rv x0), (1, .int x1), (2, .int x2), (3, .int x3), (4, .int x4)] → St E A s h H locs → fX3_stateBehind_58 h x0 x1 x2 x3 x4 y0 = some r9 → W p l e R s m args below meth c H locs 0 0 (MQ below (Qi E A h r9) args s 0 0 A) (F0 m 58 ls [.int y0]) := by
  intro x0 x1 x2 x3 x4 y0 H locs ls hl S hf
  unfold fX3_stateBehind_58 at hf
  refine lv_istore (lv' := [(5, .int y0), (0, rv x0), (1, .int x1), (2, .int x2), (3, .int x3), (4, .int x4)]) X.1 X.2.1 dX3_stateBehind_58 hl (by decide) rfl (fun ls hl => ?_)
  refine lv_iload_n X.1 X.2.1 dX3_stateBehind_60 rfl (lv_at hl 3 rfl) ?_
  refine lv_iconst (v := 2) X.1 X.2.1 dX3_stateBehind_61 (by decide) ?_
  refine lv_iand X.1 X.2.1 dX3_stateBehind_62 ?_
  refine g_aload_n X (or_rv _) dX3_stateBehind_63 rfl (lv_at hl 1 rfl) ?_
  refine g_gR X S foX3_15 dX3_stateBehind_64 hf (fun v1 hf => ?_)
  refine lv_iload_n X.1 X.2.1 dX3_stateBehind_67 rfl (lv_at hl 2 rfl) ?_
  refine g_aI X S dX3_stateBehind_68 hf (fun v2 hf => ?_)
  refine lv_iload X.1 X.2.1 dX3_stateBehind_69 (lv_at hl 5 rfl) ?_
  refine lv_iload_n X.1 X.2.1 dX3_stateBehind_71 rfl (lv_at hl 4 rfl) ?_
  refine lv_iload X.1 X.2.1 dX3_stateBehind_72 (lv_at hl 0 rfl) ?_
  obtain ⟨v3, hc, hf⟩ := ob_some hf
  refine g_ci S (runS (As := [.int v2, .int x4, .int x3, .int y0]) (rest := [.int (x2 &&& (2 : Int32))]) X S coX3_85 (by decide) (cX3_seenBehind_m l hc) rfl hl.1 (by simp [cat_rv, cat_wv, cat_sv, cat_i, cat_l, cat_a]) rfl ⟨Nat.zero_le _, Nat.zero_le _⟩ dX3_stateBehind_74) (fun H locs S => ?_)
  refine lv_if_eq (tgt := 84) X.1 X.2.1 dX3_stateBehind_77 (by decide) (fun c4 => ?_) (fun c4 => ?_)
  · replace hf := (if_pos c4).symm.trans hf
    refine lv_iconst (v := 0) X.1 X.2.1 dX3_stateBehind_84 (by decide) ?_
    refine lv_ior X.1 X.2.1 dX3_stateBehind_85 ?_
    cases hf; exact g_ri X S hr hlk dX3_stateBehind_86
  · replace hf := (if_neg c4).symm.trans hf
    refine lv_iconst (v := 1) X.1 X.2.1 dX3_stateBehind_80 (by decide) ?_
    refine lv_goto (tgt := 85) X.1 X.2.1 dX3_stateBehind_81 (by decide) ?_
    refine lv_ior X.1 X.2.1 dX3_stateBehind_85 ?_
    cases hf; exact g_ri X S hr hlk dX3_stateBehind_86
def fX3_stateBehind_11 (h : Hp) (x0 : Nat) (x1 : Int32) (x2 : Int32) (x3 : Int32) (y0 : Int32) : Option (Int32) := ob (gR 3 x0 1 h) fun v1 => ob (aI v1 x1 h) fun v2 => ob (gI 3 x0 5 h) fun v3 => ob (fX3_laid v2 v3 y0 x3) fun v4 => ob (gR 3 x0 2 h) fun v5 => ob (aI v5 x1 h) fun v6 => if v4 = v6 then ob (gI 3 x0 16 h) fun v8 => if x1 = v8 then if 2 ≤ x2 then fX3_stateBehind_57 h (fX3_stateBehind_58 h) x0 x1 x2 x3 y0 else fX3_stateBehind_58 h x0 x1 x2 x3 y0 1 else fX3_stateBehind_57 h (fX3_stateBehind_58 h) x0 x1 x2 x3 y0 else some (-1)
theorem wfX3_stateBehind_11 {h : Hp} {r9 : Int32} (X : Cx p E A 9 R s m args c cX3_stateBehind yX3_stateBehind.cls 6) (hr : meth.sig.returnType = (some .int)) (hlk : meth.locks = false) (hnm : meth.name = yX3_stateBehind.name) :
    ∀ (x0 : Nat) (x1 : Int32) (x2 : Int32) (x3 : Int32) (y0 : Int32) (H : Heap) (locs : List Loc) (ls : Array Slot), lv_has ls 6 [(0, rv x0), (1, .int x1), (2, .int x2), (3, .int x3)] → St E A s h H locs → fX3_stateBehind_11 h x0 x1 x2 x3 y0 = some r9 → W p l e R s m args below meth c H locs 0 0 (MQ below (Qi E A h r9) args s 0 0 A) (F0 m 11 ls [.int y0]) := by
  intro x0 x1 x2 x3 y0 H locs ls hl S hf
  unfold fX3_stateBehind_11 at hf
  refine lv_istore (lv' := [(4, .int y0), (0, rv x0), (1, .int x1), (2, .int x2), (3, .int x3)]) X.1 X.2.1 dX3_stateBehind_11 hl (by decide) rfl (fun ls hl => ?_)
  refine g_aload_n X (or_rv _) dX3_stateBehind_13 rfl (lv_at hl 1 rfl) ?_
  refine g_gR X S foX3_15 dX3_stateBehind_14 hf (fun v1 hf => ?_)
  refine lv_iload_n X.1 X.2.1 dX3_stateBehind_17 rfl (lv_at hl 2 rfl) ?_
  refine g_aI X S dX3_stateBehind_18 hf (fun v2 hf => ?_)
  refine g_aload_n X (or_rv _) dX3_stateBehind_19 rfl (lv_at hl 1 rfl) ?_
  refine g_gI X S foX3_53 rfl dX3_stateBehind_20 hf (fun v3 hf => ?_)
  refine lv_iload X.1 X.2.1 dX3_stateBehind_23 (lv_at hl 0 rfl) ?_
  refine lv_iload_n X.1 X.2.1 dX3_stateBehind_25 rfl (lv_at hl 4 rfl) ?_
  obtain ⟨v4, hc, hf⟩ := ob_some hf
  refine g_ci S (runS (As := [.int v2, .int v3, .int y0, .int x3]) (rest := []) X S coX3_81 (by decide) (cX3_laid_m l hc) rfl hl.1 (by decide) rfl ⟨Nat.zero_le _, Nat.zero_le _⟩ dX3_stateBehind_26) (fun H locs S => ?_)
  refine g_aload_n X (or_rv _) dX3_stateBehind_29 rfl (lv_at hl 1 rfl) ?_
  refine g_gR X S foX3_18 dX3_stateBehind_30 hf (fun v5 hf => ?_)
  refine lv_iload_n X.1 X.2.1 dX3_stateBehind_33 rfl (lv_at hl 2 rfl) ?_
  refine g_aI X S dX3_stateBehind_34 hf (fun v6 hf => ?_)
  refine lv_icmp_eq (tgt := 40) X.1 X.2.1 dX3_stateBehind_35 (by decide) (fun c7 => ?_) (fun c7 => ?_)
  · replace hf := (if_pos c7).symm.trans hf
    refine lv_iload_n X.1 X.2.1 dX3_stateBehind_40 rfl (lv_at hl 2 rfl) ?_
    refine g_aload_n X (or_rv _) dX3_stateBehind_41 rfl (lv_at hl 1 rfl) ?_
    refine g_gI X S foX3_106 rfl dX3_stateBehind_42 hf (fun v8 hf => ?_)
    refine lv_icmp_ne (tgt := 57) X.1 X.2.1 dX3_stateBehind_45 (by decide) (fun c9 => ?_) (fun c9 => ?_)
    · replace hf := (if_neg c9).symm.trans hf
      exact wfX3_stateBehind_57 X hr hlk hnm (wfX3_stateBehind_58 X hr hlk hnm) _ _ _ _ _ _ _ _ (lv_sub hl [1, 2, 3, 4, 0] rfl) S hf
    · replace hf := (if_pos c9).symm.trans hf
      refine lv_iload_n X.1 X.2.1 dX3_stateBehind_48 rfl (lv_at hl 3 rfl) ?_
      refine lv_iconst (v := 2) X.1 X.2.1 dX3_stateBehind_49 (by decide) ?_
      refine lv_icmp_ge (tgt := 57) X.1 X.2.1 dX3_stateBehind_50 (by decide) (fun c10 => ?_) (fun c10 => ?_)
      · replace hf := (if_pos c10).symm.trans hf
        exact wfX3_stateBehind_57 X hr hlk hnm (wfX3_stateBehind_58 X hr hlk hnm) _ _ _ _ _ _ _ _ (lv_sub hl [1, 2, 3, 4, 0] rfl) S hf
      · replace hf := (if_neg c10).symm.trans hf
        refine lv_iconst (v := 1) X.1 X.2.1 dX3_stateBehind_53 (by decide) ?_
        refine lv_goto (tgt := 58) X.1 X.2.1 dX3_stateBehind_54 (by decide) ?_
        exact wfX3_stateBehind_58 X hr hlk hnm _ _ _ _ _ _ _ _ _ (lv_sub hl [1, 2, 3, 4, 0] rfl) S hf
  · replace hf := (if_neg c7).symm.trans hf
    refine lv_iconst (v := (-1)) X.1 X.2.1 dX3_stateBehind_38 (by decide) ?_
    cases hf; exact g_ri X S hr hlk dX3_stateBehind_39
def fX3_stateBehind (a0 : Nat) (a1 : Int32) (a2 : Int32) (a3 : Int32) (h : Hp) : Option (Int32) := gd 3 a0 h (if (a2 &&& (1 : Int32)) = 0 then fX3_stateBehind_11 h a0 a1 a2 a3 0 else fX3_stateBehind_11 h a0 a1 a2 a3 1)
theorem tkX3_stateBehind {a0 : Nat} {a1 : Int32} {a2 : Int32} {a3 : Int32} {h : Hp} {r9 : Int32} (e : fX3_stateBehind a0 a1 a2 a3 h = some r9) : hK h a0 = 3 := by
  unfold fX3_stateBehind at e
  exact (gd_some e).1
theorem cX3_stateBehind_m (l : Launch) {E : EE} {A : Nat → Prop} {a0 : Nat} {a1 : Int32} {a2 : Int32} {a3 : Int32} {h : Hp} {r9 : Int32} (hf : fX3_stateBehind a0 a1 a2 a3 h = some r9) : Met l yX3_stateBehind (wsM yX3_stateBehind cX3_stateBehind 6 (some .int)) (rmm 9 0 0) (PcE E A h [rv a0, .int a1, .int a2, .int a3]) (Qi E A h r9) 0 0 A := by
  refine met_of (by decide +kernel) (by simp [lg_sl, cat_rv, cat_wv, cat_sv, cat_i, cat_l, cat_a]) (fun p e s m args below meth c ls X hr hlk hnm S hl => ?_)
  have hl : lv_has ls 6 [(0, rv a0), (1, .int a1), (2, .int a2), (3, .int a3)] := by simpa [lv_args, cat_rv, cat_wv, cat_sv, cat_i, cat_l, cat_a] using hl
  generalize hH : s.heap = H at S ⊢
  generalize hlo : ([] : List Loc) = locs at S ⊢
  clear hH hlo
  unfold fX3_stateBehind at hf
  obtain ⟨hth, hf⟩ := gd_some hf
  refine lv_iload_n X.1 X.2.1 dX3_stateBehind_0 rfl (lv_at hl 2 rfl) ?_
  refine lv_iconst (v := 1) X.1 X.2.1 dX3_stateBehind_1 (by decide) ?_
  refine lv_iand X.1 X.2.1 dX3_stateBehind_2 ?_
  refine lv_if_eq (tgt := 10) X.1 X.2.1 dX3_stateBehind_3 (by decide) (fun c1 => ?_) (fun c1 => ?_)
  · replace hf := (if_pos c1).symm.trans hf
    refine lv_iconst (v := 0) X.1 X.2.1 dX3_stateBehind_10 (by decide) ?_
    exact wfX3_stateBehind_11 X hr hlk hnm _ _ _ _ _ _ _ _ hl S hf
  · replace hf := (if_neg c1).symm.trans hf
    refine lv_iconst (v := 1) X.1 X.2.1 dX3_stateBehind_6 (by decide) ?_
    refine lv_goto (tgt := 11) X.1 X.2.1 dX3_stateBehind_7 (by decide) ?_
    exact wfX3_stateBehind_11 X hr hlk hnm _ _ _ _ _ _ _ _ hl S hf
def fX3_waysFrom_25 (h : Hp) (k25 : Nat → Int32 → Int32 → Int32 → Int64 → Int32 → Option (Int64)) (x0 : Nat) (x1 : Int32) (x2 : Int32) (x3 : Int32) (x4 : Int64) (x6 : Int32) : Option (Int64) := if x3 < x6 then some x4 else ob (fX3_stateBehind x0 x1 x2 x6 h) fun v2 => if v2 = (-1) then lt (x4 + 0) fun z8 => lt (x6 + 1) fun z9 => k25 x0 x1 x2 x3 z8 z9 else ob (gR 3 x0 3 h) fun v4 => ob (aL v4 ((4 * (x1 + 1)) + v2) h) fun v5 => lt (x4 + v5) fun z6 => lt (x6 + 1) fun z7 => k25 x0 x1 x2 x3 z6 z7
theorem wfX3_waysFrom_25 {h : Hp} {k25 : Nat → Int32 → Int32 → Int32 → Int64 → Int32 → Option (Int64)} {r9 : Int64} (X : Cx p E A 10 R s m args c cX3_waysFrom yX3_waysFrom.cls 8) (hr : meth.sig.returnType = (some .long)) (hlk : meth.locks = false) (hnm : meth.name = yX3_waysFrom.name) (hk25 : ∀ (x0 : Nat) (x1 : Int32) (x2 : Int32) (x3 : Int32) (x4 : Int64) (x6 : Int32) (H : Heap) (locs : List Loc) (ls : Array Slot), lv_has ls 8 [(0, rv x0), (1, .int x1), (2, .int x2), (3, .int x3), (4, .long x4), (6, .int x6)] → St E A s h H locs → k25 x0 x1 x2 x3 x4 x6 = some r9 → W p l e R s m args below meth c H locs 0 0 (MQ below (Ql E A h r9) args s 0 0 A) (F0 m 25 ls [])) :
    ∀ (x0 : Nat) (x1 : Int32) (x2 : Int32) (x3 : Int32) (x4 : Int64) (x6 : Int32) (H : Heap) (locs : List Loc) (ls : Array Slot), lv_has ls 8 [(0, rv x0), (1, .int x1), (2, .int x2), (3, .int x3), (4, .long x4), (6, .int x6)] → St E A s h H locs → fX3_waysFrom_25 h k25 x0 x1 x2 x3 x4 x6 = some r9 → W p l e R s m args below meth c H locs 0 0 (MQ below (Ql E A h r9) args s 0 0 A) (F0 m 25 ls []) := by
  intro x0 x1 x2 x3 x4 x6 H locs ls hl S hf
  unfold fX3_waysFrom_25 at hf
  refine lv_iload X.1 X.2.1 dX3_waysFrom_25 (lv_at hl 5 rfl) ?_
  refine lv_iload_n X.1 X.2.1 dX3_waysFrom_27 rfl (lv_at hl 3 rfl) ?_
  refine lv_icmp_gt (tgt := 75) X.1 X.2.1 dX3_waysFrom_28 (by decide) (fun c1 => ?_) (fun c1 => ?_)
  · replace hf := (if_pos c1).symm.trans hf
    refine lv_lload X.1 X.2.1 dX3_waysFrom_75 (lv_at hl 4 rfl) ?_
    cases hf; exact g_rl X S hr hlk dX3_waysFrom_77
  · replace hf := (if_neg c1).symm.trans hf
    refine g_aload_n X (or_rv _) dX3_waysFrom_31 rfl (lv_at hl 0 rfl) ?_
    refine lv_iload_n X.1 X.2.1 dX3_waysFrom_32 rfl (lv_at hl 1 rfl) ?_
    refine lv_iload_n X.1 X.2.1 dX3_waysFrom_33 rfl (lv_at hl 2 rfl) ?_
    refine lv_iload X.1 X.2.1 dX3_waysFrom_34 (lv_at hl 5 rfl) ?_
    obtain ⟨v2, hc, hf⟩ := ob_some hf
    refine g_ci S (runV (As := [.int x1, .int x2, .int x6]) (rest := []) X S coX3_117 (by decide) (cX3_stateBehind_m l hc) (tkX3_stateBehind hc) rfl hl.1 (by decide) rfl ⟨Nat.zero_le _, Nat.zero_le _⟩ dX3_waysFrom_36) (fun H locs S => ?_)
    refine lv_istore (lv' := [(7, .int v2), (0, rv x0), (1, .int x1), (2, .int x2), (3, .int x3), (4, .long x4), (6, .int x6)]) X.1 X.2.1 dX3_waysFrom_39 hl (by decide) rfl (fun ls hl => ?_)
    refine lv_lload X.1 X.2.1 dX3_waysFrom_41 (lv_at hl 5 rfl) ?_
    refine lv_iload X.1 X.2.1 dX3_waysFrom_43 (lv_at hl 0 rfl) ?_
    refine lv_iconst (v := (-1)) X.1 X.2.1 dX3_waysFrom_45 (by decide) ?_
    refine lv_icmp_ne (tgt := 53) X.1 X.2.1 dX3_waysFrom_46 (by decide) (fun c3 => ?_) (fun c3 => ?_)
    · replace hf := (if_neg c3).symm.trans hf
      refine g_aload_n X (or_rv _) dX3_waysFrom_53 rfl (lv_at hl 1 rfl) ?_
      refine g_gR X S foX3_21 dX3_waysFrom_54 hf (fun v4 hf => ?_)
      refine lv_iconst (v := 4) X.1 X.2.1 dX3_waysFrom_57 (by decide) ?_
      refine lv_iload_n X.1 X.2.1 dX3_waysFrom_58 rfl (lv_at hl 2 rfl) ?_
      refine lv_iconst (v := 1) X.1 X.2.1 dX3_waysFrom_59 (by decide) ?_
      refine lv_iadd X.1 X.2.1 dX3_waysFrom_60 ?_
      refine lv_imul X.1 X.2.1 dX3_waysFrom_61 ?_
      refine lv_iload X.1 X.2.1 dX3_waysFrom_62 (lv_at hl 0 rfl) ?_
      refine lv_iadd X.1 X.2.1 dX3_waysFrom_64 ?_
      refine g_aL X S dX3_waysFrom_65 hf (fun v5 hf => ?_)
      refine lv_ladd X.1 X.2.1 dX3_waysFrom_66 ?_
      refine g_ltl hf (fun z6 hf => ?_)
      refine lv_lstore (lv' := [(4, .long z6), (7, .int v2), (0, rv x0), (1, .int x1), (2, .int x2), (3, .int x3), (6, .int x6)]) X.1 X.2.1 dX3_waysFrom_67 hl (by decide) rfl (fun ls hl => ?_)
      obtain ⟨z7, ez7, hf⟩ := lt_some hf
      refine lv_iinc (v := z7) (lv' := [(6, .int z7), (4, .long z6), (7, .int v2), (0, rv x0), (1, .int x1), (2, .int x2), (3, .int x3)]) X.1 X.2.1 dX3_waysFrom_69 hl (k := 6) rfl (by rw [← ez7]; rfl) (by decide) rfl (fun ls hl => ?_)
      refine lv_goto (tgt := 25) X.1 X.2.1 dX3_waysFrom_72 (by decide) ?_
      exact hk25 _ _ _ _ _ _ _ _ _ (lv_sub hl [3, 4, 5, 6, 1, 0] rfl) S hf
    · replace hf := (if_pos c3).symm.trans hf
      refine lv_lconst (v := 0) X.1 X.2.1 dX3_waysFrom_49 (by decide) ?_
      refine lv_goto (tgt := 66) X.1 X.2.1 dX3_waysFrom_50 (by decide) ?_
      refine lv_ladd X.1 X.2.1 dX3_waysFrom_66 ?_
      refine g_ltl hf (fun z8 hf => ?_)
      refine lv_lstore (lv' := [(4, .long z8), (7, .int v2), (0, rv x0), (1, .int x1), (2, .int x2), (3, .int x3), (6, .int x6)]) X.1 X.2.1 dX3_waysFrom_67 hl (by decide) rfl (fun ls hl => ?_)
      obtain ⟨z9, ez9, hf⟩ := lt_some hf
      refine lv_iinc (v := z9) (lv' := [(6, .int z9), (4, .long z8), (7, .int v2), (0, rv x0), (1, .int x1), (2, .int x2), (3, .int x3)]) X.1 X.2.1 dX3_waysFrom_69 hl (k := 6) rfl (by rw [← ez9]; rfl) (by decide) rfl (fun ls hl => ?_)
      refine lv_goto (tgt := 25) X.1 X.2.1 dX3_waysFrom_72 (by decide) ?_
      exact hk25 _ _ _ _ _ _ _ _ _ (lv_sub hl [3, 4, 5, 6, 1, 0] rfl) S hf
theorem wfX3_waysFrom_25_l {h : Hp} {r9 : Int64} (X : Cx p E A 10 R s m args c cX3_waysFrom yX3_waysFrom.cls 8) (hr : meth.sig.returnType = (some .long)) (hlk : meth.locks = false) (hnm : meth.name = yX3_waysFrom.name) :
    ∀ (n : Nat) (x0 : Nat) (x1 : Int32) (x2 : Int32) (x3 : Int32) (x4 : Int64) (x6 : Int32) (H : Heap) (locs : List Loc) (ls : Array Slot), lv_has ls 8 [(0, rv x0), (1, .int x1), (2, .int x2), (3, .int x3), (4, .long x4), (6, .int x6)] → St E A s h H locs → lp (fun _ _ _ _ _ _ => none) (fX3_waysFrom_25 h) n x0 x1 x2 x3 x4 x6 = some r9 → W p l e R s m args below meth c H locs 0 0 (MQ below (Ql E A h r9) args s 0 0 A) (F0 m 25 ls []) := by
  intro n
  induction n with
  | zero =>
    intro x0 x1 x2 x3 x4 x6 H locs ls hl S hf
    exact nomatch hf
  | succ n ih =>
    intro x0 x1 x2 x3 x4 x6 H locs ls hl S hf
    exact wfX3_waysFrom_25 X hr hlk hnm ih x0 x1 x2 x3 x4 x6 H locs ls hl S hf
def fX3_waysFrom (a0 : Nat) (a1 : Int32) (a2 : Int32) (h : Hp) : Option (Int64) := gd 3 a0 h (ob (gR 3 a0 1 h) fun v1 => ob (aI v1 a1 h) fun v2 => ob (fX3_takesDigit v2) fun v3 => if v3 = 0 then lp (fun _ _ _ _ _ _ => none) (fX3_waysFrom_25 h) FU a0 a1 a2 0 0 0 else lp (fun _ _ _ _ _ _ => none) (fX3_waysFrom_25 h) FU a0 a1 a2 9 0 0)
theorem tkX3_waysFrom {a0 : Nat} {a1 : Int32} {a2 : Int32} {h : Hp} {r9 : Int64} (e : fX3_waysFrom a0 a1 a2 h = some r9) : hK h a0 = 3 := by
  unfold fX3_waysFrom at e
  exact (gd_some e).1
theorem cX3_waysFrom_m (l : Launch) {E : EE} {A : Nat → Prop} {a0 : Nat} {a1 : Int32} {a2 : Int32} {h : Hp} {r9 : Int64} (hf : fX3_waysFrom a0 a1 a2 h = some r9) : Met l yX3_waysFrom (wsM yX3_waysFrom cX3_waysFrom 8 (some .long)) (rmm 10 0 0) (PcE E A h [rv a0, .int a1, .int a2]) (Ql E A h r9) 0 0 A := by
  refine met_of (by decide +kernel) (by simp [lg_sl, cat_rv, cat_wv, cat_sv, cat_i, cat_l, cat_a]) (fun p e s m args below meth c ls X hr hlk hnm S hl => ?_)
  have hl : lv_has ls 8 [(0, rv a0), (1, .int a1), (2, .int a2)] := by simpa [lv_args, cat_rv, cat_wv, cat_sv, cat_i, cat_l, cat_a] using hl
  generalize hH : s.heap = H at S ⊢
  generalize hlo : ([] : List Loc) = locs at S ⊢
  clear hH hlo
  unfold fX3_waysFrom at hf
  obtain ⟨hth, hf⟩ := gd_some hf
  refine g_aload_n X (or_rv _) dX3_waysFrom_0 rfl (lv_at hl 0 rfl) ?_
  refine g_gR X S foX3_15 dX3_waysFrom_1 hf (fun v1 hf => ?_)
  refine lv_iload_n X.1 X.2.1 dX3_waysFrom_4 rfl (lv_at hl 1 rfl) ?_
  refine g_aI X S dX3_waysFrom_5 hf (fun v2 hf => ?_)
  obtain ⟨v3, hc, hf⟩ := ob_some hf
  refine g_ci S (runS (As := [.int v2]) (rest := []) X S coX3_73 (by decide) (cX3_takesDigit_m l hc) rfl hl.1 (by decide) rfl ⟨Nat.zero_le _, Nat.zero_le _⟩ dX3_waysFrom_6) (fun H locs S => ?_)
  refine lv_if_eq (tgt := 17) X.1 X.2.1 dX3_waysFrom_9 (by decide) (fun c4 => ?_) (fun c4 => ?_)
  · replace hf := (if_pos c4).symm.trans hf
    refine lv_iconst (v := 0) X.1 X.2.1 dX3_waysFrom_17 (by decide) ?_
    refine lv_istore_n (i := 3) (lv' := [(3, .int 0), (0, rv a0), (1, .int a1), (2, .int a2)]) X.1 X.2.1 dX3_waysFrom_18 rfl hl (by decide) rfl (fun ls hl => ?_)
    refine lv_lconst (v := 0) X.1 X.2.1 dX3_waysFrom_19 (by decide) ?_
    refine lv_lstore (lv' := [(4, .long 0), (3, .int 0), (0, rv a0), (1, .int a1), (2, .int a2)]) X.1 X.2.1 dX3_waysFrom_20 hl (by decide) rfl (fun ls hl => ?_)
    refine lv_iconst (v := 0) X.1 X.2.1 dX3_waysFrom_22 (by decide) ?_
    refine lv_istore (lv' := [(6, .int 0), (4, .long 0), (3, .int 0), (0, rv a0), (1, .int a1), (2, .int a2)]) X.1 X.2.1 dX3_waysFrom_23 hl (by decide) rfl (fun ls hl => ?_)
    exact wfX3_waysFrom_25_l X hr hlk hnm FU _ _ _ _ _ _ _ _ _ (lv_sub hl [3, 4, 5, 2, 1, 0] rfl) S hf
  · replace hf := (if_neg c4).symm.trans hf
    refine lv_bipush (v := 9) X.1 X.2.1 dX3_waysFrom_12 (by decide) ?_
    refine lv_goto (tgt := 18) X.1 X.2.1 dX3_waysFrom_14 (by decide) ?_
    refine lv_istore_n (i := 3) (lv' := [(3, .int 9), (0, rv a0), (1, .int a1), (2, .int a2)]) X.1 X.2.1 dX3_waysFrom_18 rfl hl (by decide) rfl (fun ls hl => ?_)
    refine lv_lconst (v := 0) X.1 X.2.1 dX3_waysFrom_19 (by decide) ?_
    refine lv_lstore (lv' := [(4, .long 0), (3, .int 9), (0, rv a0), (1, .int a1), (2, .int a2)]) X.1 X.2.1 dX3_waysFrom_20 hl (by decide) rfl (fun ls hl => ?_)
    refine lv_iconst (v := 0) X.1 X.2.1 dX3_waysFrom_22 (by decide) ?_
    refine lv_istore (lv' := [(6, .int 0), (4, .long 0), (3, .int 9), (0, rv a0), (1, .int a1), (2, .int a2)]) X.1 X.2.1 dX3_waysFrom_23 hl (by decide) rfl (fun ls hl => ?_)
    exact wfX3_waysFrom_25_l X hr hlk hnm FU _ _ _ _ _ _ _ _ _ (lv_sub hl [3, 4, 5, 2, 1, 0] rfl) S hf
def fX3_sources_159 (k121 : Nat → Int32 → Int32 → Hp → Option (Int64 × Hp)) (x0 : Nat) (x5 : Int32) (x6 : Int32) (y0 : Int64) (y1 : Int32) (y2 : Nat) (h : Hp) : Option (Int64 × Hp) := ob (qL y2 y1 y0 h) fun h => lt (x6 + 1) fun z1 => k121 x0 x5 z1 h
theorem wfX3_sources_159 {k121 : Nat → Int32 → Int32 → Hp → Option (Int64 × Hp)} {r9 : Int64} {h9 : Hp} (X : Cx p E A 11 R s m args c cX3_sources yX3_sources.cls 7) (hr : meth.sig.returnType = (some .long)) (hlk : meth.locks = false) (hnm : meth.name = yX3_sources.name) (hk121 : ∀ (x0 : Nat) (x5 : Int32) (x6 : Int32) (h : Hp) (H : Heap) (locs : List Loc) (ls : Array Slot), lv_has ls 7 [(0, rv x0), (5, .int x5), (6, .int x6)] → St E A s h H locs → k121 x0 x5 x6 h = some (r9, h9) → W p l e R s m args below meth c H locs 0 0 (MQ below (Ql E A h9 r9) args s 0 0 A) (F0 m 121 ls [])) :
    ∀ (x0 : Nat) (x5 : Int32) (x6 : Int32) (y0 : Int64) (y1 : Int32) (y2 : Nat) (h : Hp) (H : Heap) (locs : List Loc) (ls : Array Slot), lv_has ls 7 [(0, rv x0), (5, .int x5), (6, .int x6)] → St E A s h H locs → fX3_sources_159 k121 x0 x5 x6 y0 y1 y2 h = some (r9, h9) → W p l e R s m args below meth c H locs 0 0 (MQ below (Ql E A h9 r9) args s 0 0 A) (F0 m 159 ls [.long y0, .int y1, rv y2]) := by
  intro x0 x5 x6 y0 y1 y2 h H locs ls hl S hf
  unfold fX3_sources_159 at hf
  refine g_qL X S dX3_sources_159 hf (fun h H locs hm hf S => ?_)
  obtain ⟨z1, ez1, hf⟩ := lt_some hf
  refine lv_iinc (v := z1) (lv' := [(6, .int z1), (0, rv x0), (5, .int x5)]) X.1 X.2.1 dX3_sources_160 hl (k := 2) rfl (by rw [← ez1]; rfl) (by decide) rfl (fun ls hl => ?_)
  refine lv_goto (tgt := 121) X.1 X.2.1 dX3_sources_163 (by decide) ?_
  exact hk121 _ _ _ _ _ _ _ (lv_sub hl [1, 2, 0] rfl) S hf
def fX3_sources_121 (k113 : Nat → Int32 → Hp → Option (Int64 × Hp)) (k121 : Nat → Int32 → Int32 → Hp → Option (Int64 × Hp)) (x0 : Nat) (x5 : Int32) (x6 : Int32) (h : Hp) : Option (Int64 × Hp) := if 4 ≤ x6 then lt (x5 + (-1)) fun z2 => k113 x0 z2 h else ob (gR 3 x0 3 h) fun v3 => ob (gI 3 x0 14 h) fun v4 => if x5 = v4 then fX3_sources_159 k121 x0 x5 x6 1 ((4 * x5) + x6) v3 h else ob (fX3_waysFrom x0 x5 x6 h) fun v6 => fX3_sources_159 k121 x0 x5 x6 v6 ((4 * x5) + x6) v3 h
theorem wfX3_sources_121 {k113 : Nat → Int32 → Hp → Option (Int64 × Hp)} {k121 : Nat → Int32 → Int32 → Hp → Option (Int64 × Hp)} {r9 : Int64} {h9 : Hp} (X : Cx p E A 11 R s m args c cX3_sources yX3_sources.cls 7) (hr : meth.sig.returnType = (some .long)) (hlk : meth.locks = false) (hnm : meth.name = yX3_sources.name) (hk113 : ∀ (x0 : Nat) (x5 : Int32) (h : Hp) (H : Heap) (locs : List Loc) (ls : Array Slot), lv_has ls 7 [(0, rv x0), (5, .int x5)] → St E A s h H locs → k113 x0 x5 h = some (r9, h9) → W p l e R s m args below meth c H locs 0 0 (MQ below (Ql E A h9 r9) args s 0 0 A) (F0 m 113 ls [])) (hk121 : ∀ (x0 : Nat) (x5 : Int32) (x6 : Int32) (h : Hp) (H : Heap) (locs : List Loc) (ls : Array Slot), lv_has ls 7 [(0, rv x0), (5, .int x5), (6, .int x6)] → St E A s h H locs → k121 x0 x5 x6 h = some (r9, h9) → W p l e R s m args below meth c H locs 0 0 (MQ below (Ql E A h9 r9) args s 0 0 A) (F0 m 121 ls [])) :
    ∀ (x0 : Nat) (x5 : Int32) (x6 : Int32) (h : Hp) (H : Heap) (locs : List Loc) (ls : Array Slot), lv_has ls 7 [(0, rv x0), (5, .int x5), (6, .int x6)] → St E A s h H locs → fX3_sources_121 k113 k121 x0 x5 x6 h = some (r9, h9) → W p l e R s m args below meth c H locs 0 0 (MQ below (Ql E A h9 r9) args s 0 0 A) (F0 m 121 ls []) := by
  intro x0 x5 x6 h H locs ls hl S hf
  unfold fX3_sources_121 at hf
  refine lv_iload X.1 X.2.1 dX3_sources_121 (lv_at hl 2 rfl) ?_
  refine lv_iconst (v := 4) X.1 X.2.1 dX3_sources_123 (by decide) ?_
  refine lv_icmp_ge (tgt := 166) X.1 X.2.1 dX3_sources_124 (by decide) (fun c1 => ?_) (fun c1 => ?_)
  · replace hf := (if_pos c1).symm.trans hf
    obtain ⟨z2, ez2, hf⟩ := lt_some hf
    refine lv_iinc (v := z2) (lv' := [(5, .int z2), (0, rv x0), (6, .int x6)]) X.1 X.2.1 dX3_sources_166 hl (k := 1) rfl (by rw [← ez2]; rfl) (by decide) rfl (fun ls hl => ?_)
    refine lv_goto (tgt := 113) X.1 X.2.1 dX3_sources_169 (by decide) ?_
    exact hk113 _ _ _ _ _ _ (lv_sub hl [1, 0] rfl) S hf
  · replace hf := (if_neg c1).symm.trans hf
    refine g_aload_n X (or_rv _) dX3_sources_127 rfl (lv_at hl 0 rfl) ?_
    refine g_gR X S foX3_21 dX3_sources_128 hf (fun v3 hf => ?_)
    refine lv_iconst (v := 4) X.1 X.2.1 dX3_sources_131 (by decide) ?_
    refine lv_iload X.1 X.2.1 dX3_sources_132 (lv_at hl 1 rfl) ?_
    refine lv_imul X.1 X.2.1 dX3_sources_134 ?_
    refine lv_iload X.1 X.2.1 dX3_sources_135 (lv_at hl 2 rfl) ?_
    refine lv_iadd X.1 X.2.1 dX3_sources_137 ?_
    refine lv_iload X.1 X.2.1 dX3_sources_138 (lv_at hl 1 rfl) ?_
    refine g_aload_n X (or_rv _) dX3_sources_140 rfl (lv_at hl 0 rfl) ?_
    refine g_gI X S foX3_100 rfl dX3_sources_141 hf (fun v4 hf => ?_)
    refine lv_icmp_ne (tgt := 151) X.1 X.2.1 dX3_sources_144 (by decide) (fun c5 => ?_) (fun c5 => ?_)
    · replace hf := (if_neg c5).symm.trans hf
      refine g_aload_n X (or_rv _) dX3_sources_151 rfl (lv_at hl 0 rfl) ?_
      refine lv_iload X.1 X.2.1 dX3_sources_152 (lv_at hl 1 rfl) ?_
      refine lv_iload X.1 X.2.1 dX3_sources_154 (lv_at hl 2 rfl) ?_
      obtain ⟨v6, hc, hf⟩ := ob_some hf
      refine g_cl S (runV (As := [.int x5, .int x6]) (rest := [.int ((4 * x5) + x6), rv v3]) X S coX3_109 (by decide) (cX3_waysFrom_m l hc) (tkX3_waysFrom hc) rfl hl.1 (by simp [cat_rv, cat_wv, cat_sv, cat_i, cat_l, cat_a]) rfl ⟨Nat.zero_le _, Nat.zero_le _⟩ dX3_sources_156) (fun H locs S => ?_)
      exact wfX3_sources_159 X hr hlk hnm hk121 _ _ _ _ _ _ _ _ _ _ hl S hf
    · replace hf := (if_pos c5).symm.trans hf
      refine lv_lconst (v := 1) X.1 X.2.1 dX3_sources_147 (by decide) ?_
      refine lv_goto (tgt := 159) X.1 X.2.1 dX3_sources_148 (by decide) ?_
      exact wfX3_sources_159 X hr hlk hnm hk121 _ _ _ _ _ _ _ _ _ _ hl S hf
theorem wfX3_sources_121_l {k113 : Nat → Int32 → Hp → Option (Int64 × Hp)} {r9 : Int64} {h9 : Hp} (X : Cx p E A 11 R s m args c cX3_sources yX3_sources.cls 7) (hr : meth.sig.returnType = (some .long)) (hlk : meth.locks = false) (hnm : meth.name = yX3_sources.name) (hk113 : ∀ (x0 : Nat) (x5 : Int32) (h : Hp) (H : Heap) (locs : List Loc) (ls : Array Slot), lv_has ls 7 [(0, rv x0), (5, .int x5)] → St E A s h H locs → k113 x0 x5 h = some (r9, h9) → W p l e R s m args below meth c H locs 0 0 (MQ below (Ql E A h9 r9) args s 0 0 A) (F0 m 113 ls [])) :
    ∀ (n : Nat) (x0 : Nat) (x5 : Int32) (x6 : Int32) (h : Hp) (H : Heap) (locs : List Loc) (ls : Array Slot), lv_has ls 7 [(0, rv x0), (5, .int x5), (6, .int x6)] → St E A s h H locs → lp (fun _ _ _ _ => none) (fX3_sources_121 k113) n x0 x5 x6 h = some (r9, h9) → W p l e R s m args below meth c H locs 0 0 (MQ below (Ql E A h9 r9) args s 0 0 A) (F0 m 121 ls []) := by
  intro n
  induction n with
  | zero =>
    intro x0 x5 x6 h H locs ls hl S hf
    exact nomatch hf
  | succ n ih =>
    intro x0 x5 x6 h H locs ls hl S hf
    exact wfX3_sources_121 X hr hlk hnm hk113 ih x0 x5 x6 h H locs ls hl S hf
def fX3_sources_113 (k113 : Nat → Int32 → Hp → Option (Int64 × Hp)) (x0 : Nat) (x5 : Int32) (h : Hp) : Option (Int64 × Hp) := if x5 < 0 then ob (gR 3 x0 3 h) fun v2 => ob (aL v2 0 h) fun v3 => ob (gR 3 x0 3 h) fun v4 => ob (aL v4 2 h) fun v5 => some ((v3 + v5), h) else lp (fun _ _ _ _ => none) (fX3_sources_121 k113) FU x0 x5 0 h
theorem wfX3_sources_113 {k113 : Nat → Int32 → Hp → Option (Int64 × Hp)} {r9 : Int64} {h9 : Hp} (X : Cx p E A 11 R s m args c cX3_sources yX3_sources.cls 7) (hr : meth.sig.returnType = (some .long)) (hlk : meth.locks = false) (hnm : meth.name = yX3_sources.name) (hk113 : ∀ (x0 : Nat) (x5 : Int32) (h : Hp) (H : Heap) (locs : List Loc) (ls : Array Slot), lv_has ls 7 [(0, rv x0), (5, .int x5)] → St E A s h H locs → k113 x0 x5 h = some (r9, h9) → W p l e R s m args below meth c H locs 0 0 (MQ below (Ql E A h9 r9) args s 0 0 A) (F0 m 113 ls [])) :
    ∀ (x0 : Nat) (x5 : Int32) (h : Hp) (H : Heap) (locs : List Loc) (ls : Array Slot), lv_has ls 7 [(0, rv x0), (5, .int x5)] → St E A s h H locs → fX3_sources_113 k113 x0 x5 h = some (r9, h9) → W p l e R s m args below meth c H locs 0 0 (MQ below (Ql E A h9 r9) args s 0 0 A) (F0 m 113 ls []) := by
  intro x0 x5 h H locs ls hl S hf
  unfold fX3_sources_113 at hf
  refine lv_iload X.1 X.2.1 dX3_sources_113 (lv_at hl 1 rfl) ?_
  refine lv_if_lt (tgt := 172) X.1 X.2.1 dX3_sources_115 (by decide) (fun c1 => ?_) (fun c1 => ?_)
  · replace hf := (if_pos c1).symm.trans hf
    refine g_aload_n X (or_rv _) dX3_sources_172 rfl (lv_at hl 0 rfl) ?_
    refine g_gR X S foX3_21 dX3_sources_173 hf (fun v2 hf => ?_)
    refine lv_iconst (v := 0) X.1 X.2.1 dX3_sources_176 (by decide) ?_
    refine g_aL X S dX3_sources_177 hf (fun v3 hf => ?_)
    refine g_aload_n X (or_rv _) dX3_sources_178 rfl (lv_at hl 0 rfl) ?_
    refine g_gR X S foX3_21 dX3_sources_179 hf (fun v4 hf => ?_)
    refine lv_iconst (v := 2) X.1 X.2.1 dX3_sources_182 (by decide) ?_
    refine g_aL X S dX3_sources_183 hf (fun v5 hf => ?_)
    refine lv_ladd X.1 X.2.1 dX3_sources_184 ?_
    cases hf; exact g_rl X S hr hlk dX3_sources_185
  · replace hf := (if_neg c1).symm.trans hf
    refine lv_iconst (v := 0) X.1 X.2.1 dX3_sources_118 (by decide) ?_
    refine lv_istore (lv' := [(6, .int 0), (0, rv x0), (5, .int x5)]) X.1 X.2.1 dX3_sources_119 hl (by decide) rfl (fun ls hl => ?_)
    exact wfX3_sources_121_l X hr hlk hnm hk113 FU _ _ _ _ _ _ _ (lv_sub hl [1, 2, 0] rfl) S hf
theorem wfX3_sources_113_l {r9 : Int64} {h9 : Hp} (X : Cx p E A 11 R s m args c cX3_sources yX3_sources.cls 7) (hr : meth.sig.returnType = (some .long)) (hlk : meth.locks = false) (hnm : meth.name = yX3_sources.name) :
    ∀ (n : Nat) (x0 : Nat) (x5 : Int32) (h : Hp) (H : Heap) (locs : List Loc) (ls : Array Slot), lv_has ls 7 [(0, rv x0), (5, .int x5)] → St E A s h H locs → lp (fun _ _ _ => none) (fX3_sources_113) n x0 x5 h = some (r9, h9) → W p l e R s m args below meth c H locs 0 0 (MQ below (Ql E A h9 r9) args s 0 0 A) (F0 m 113 ls []) := by
  intro n
  induction n with
  | zero =>
    intro x0 x5 h H locs ls hl S hf
    exact nomatch hf
  | succ n ih =>
    intro x0 x5 h H locs ls hl S hf
    exact wfX3_sources_113 X hr hlk hnm ih x0 x5 h H locs ls hl S hf
def fX3_sources_32 (k32 : Nat → Nat → Int32 → Int32 → Int32 → Hp → Option (Int64 × Hp)) (x0 : Nat) (x1 : Nat) (x2 : Int32) (x4 : Int32) (x5 : Int32) (h : Hp) : Option (Int64 × Hp) := ob (gI 3 x0 14 h) fun v1 => if v1 ≤ x5 then ob (gI 3 x0 14 h) fun v3 => lp (fun _ _ _ => none) (fX3_sources_113) FU x0 v3 h else ob (gR 3 x0 1 h) fun v4 => ob (fX10_cell x1 (x2 + x5) h) fun v5 => ob (qI v4 x5 v5 h) fun h => ob (gR 3 x0 2 h) fun v6 => ob (fX10_cell x1 (x4 + x5) h) fun v7 => ob (qI v6 x5 v7 h) fun h => ob (gR 3 x0 1 h) fun v8 => ob (aI v8 x5 h) fun v9 => ob (fX3_takesDigit v9) fun v10 => if v10 = 0 then lt (x5 + 1) fun z12 => k32 x0 x1 x2 x4 z12 h else ob (gI 3 x0 15 h) fun v13 => ob (pI 3 x0 15 (v13 + 1) h) fun h => ob (pI 3 x0 16 x5 h) fun h => lt (x5 + 1) fun z14 => k32 x0 x1 x2 x4 z14 h
theorem wfX3_sources_32 {k32 : Nat → Nat → Int32 → Int32 → Int32 → Hp → Option (Int64 × Hp)} {r9 : Int64} {h9 : Hp} (X : Cx p E A 11 R s m args c cX3_sources yX3_sources.cls 7) (hr : meth.sig.returnType = (some .long)) (hlk : meth.locks = false) (hnm : meth.name = yX3_sources.name) (hk32 : ∀ (x0 : Nat) (x1 : Nat) (x2 : Int32) (x4 : Int32) (x5 : Int32) (h : Hp) (H : Heap) (locs : List Loc) (ls : Array Slot), lv_has ls 7 [(0, rv x0), (1, rv x1), (2, .int x2), (4, .int x4), (5, .int x5)] → St E A s h H locs → k32 x0 x1 x2 x4 x5 h = some (r9, h9) → W p l e R s m args below meth c H locs 0 0 (MQ below (Ql E A h9 r9) args s 0 0 A) (F0 m 32 ls [])) :
    ∀ (x0 : Nat) (x1 : Nat) (x2 : Int32) (x4 : Int32) (x5 : Int32) (h : Hp) (H : Heap) (locs : List Loc) (ls : Array Slot), lv_has ls 7 [(0, rv x0), (1, rv x1), (2, .int x2), (4, .int x4), (5, .int x5)] → St E A s h H locs → fX3_sources_32 k32 x0 x1 x2 x4 x5 h = some (r9, h9) → W p l e R s m args below meth c H locs 0 0 (MQ below (Ql E A h9 r9) args s 0 0 A) (F0 m 32 ls []) := by
  intro x0 x1 x2 x4 x5 h H locs ls hl S hf
  unfold fX3_sources_32 at hf
  refine lv_iload X.1 X.2.1 dX3_sources_32 (lv_at hl 4 rfl) ?_
  refine g_aload_n X (or_rv _) dX3_sources_34 rfl (lv_at hl 0 rfl) ?_
  refine g_gI X S foX3_100 rfl dX3_sources_35 hf (fun v1 hf => ?_)
  refine lv_icmp_ge (tgt := 107) X.1 X.2.1 dX3_sources_38 (by decide) (fun c2 => ?_) (fun c2 => ?_)
  · replace hf := (if_pos c2).symm.trans hf
    refine g_aload_n X (or_rv _) dX3_sources_107 rfl (lv_at hl 0 rfl) ?_
    refine g_gI X S foX3_100 rfl dX3_sources_108 hf (fun v3 hf => ?_)
    refine lv_istore (lv' := [(5, .int v3), (0, rv x0), (1, rv x1), (2, .int x2), (4, .int x4)]) X.1 X.2.1 dX3_sources_111 hl (by decide) rfl (fun ls hl => ?_)
    exact wfX3_sources_113_l X hr hlk hnm FU _ _ _ _ _ _ (lv_sub hl [1, 0] rfl) S hf
  · replace hf := (if_neg c2).symm.trans hf
    refine g_aload_n X (or_rv _) dX3_sources_41 rfl (lv_at hl 0 rfl) ?_
    refine g_gR X S foX3_15 dX3_sources_42 hf (fun v4 hf => ?_)
    refine lv_iload X.1 X.2.1 dX3_sources_45 (lv_at hl 4 rfl) ?_
    refine g_aload_n X (or_rv _) dX3_sources_47 rfl (lv_at hl 1 rfl) ?_
    refine lv_iload_n X.1 X.2.1 dX3_sources_48 rfl (lv_at hl 2 rfl) ?_
    refine lv_iload X.1 X.2.1 dX3_sources_49 (lv_at hl 4 rfl) ?_
    refine lv_iadd X.1 X.2.1 dX3_sources_51 ?_
    obtain ⟨v5, hc, hf⟩ := ob_some hf
    refine g_ci S (runV (As := [.int (x2 + x5)]) (rest := [.int x5, rv v4]) X S coX3_49 (by decide) (cX10_cell_m l hc) (tkX10_cell hc) rfl hl.1 (by simp [cat_rv, cat_wv, cat_sv, cat_i, cat_l, cat_a]) rfl ⟨Nat.zero_le _, Nat.zero_le _⟩ dX3_sources_52) (fun H locs S => ?_)
    refine g_qI X S dX3_sources_55 hf (fun h H locs hm hf S => ?_)
    refine g_aload_n X (or_rv _) dX3_sources_56 rfl (lv_at hl 0 rfl) ?_
    refine g_gR X S foX3_18 dX3_sources_57 hf (fun v6 hf => ?_)
    refine lv_iload X.1 X.2.1 dX3_sources_60 (lv_at hl 4 rfl) ?_
    refine g_aload_n X (or_rv _) dX3_sources_62 rfl (lv_at hl 1 rfl) ?_
    refine lv_iload X.1 X.2.1 dX3_sources_63 (lv_at hl 3 rfl) ?_
    refine lv_iload X.1 X.2.1 dX3_sources_65 (lv_at hl 4 rfl) ?_
    refine lv_iadd X.1 X.2.1 dX3_sources_67 ?_
    obtain ⟨v7, hc, hf⟩ := ob_some hf
    refine g_ci S (runV (As := [.int (x4 + x5)]) (rest := [.int x5, rv v6]) X S coX3_49 (by decide) (cX10_cell_m l hc) (tkX10_cell hc) rfl hl.1 (by simp [cat_rv, cat_wv, cat_sv, cat_i, cat_l, cat_a]) rfl ⟨Nat.zero_le _, Nat.zero_le _⟩ dX3_sources_68) (fun H locs S => ?_)
    refine g_qI X S dX3_sources_71 hf (fun h H locs hm hf S => ?_)
    refine g_aload_n X (or_rv _) dX3_sources_72 rfl (lv_at hl 0 rfl) ?_
    refine g_gR X S foX3_15 dX3_sources_73 hf (fun v8 hf => ?_)
    refine lv_iload X.1 X.2.1 dX3_sources_76 (lv_at hl 4 rfl) ?_
    refine g_aI X S dX3_sources_78 hf (fun v9 hf => ?_)
    obtain ⟨v10, hc, hf⟩ := ob_some hf
    refine g_ci S (runS (As := [.int v9]) (rest := []) X S coX3_73 (by decide) (cX3_takesDigit_m l hc) rfl hl.1 (by decide) rfl ⟨Nat.zero_le _, Nat.zero_le _⟩ dX3_sources_79) (fun H locs S => ?_)
    refine lv_if_eq (tgt := 101) X.1 X.2.1 dX3_sources_82 (by decide) (fun c11 => ?_) (fun c11 => ?_)
    · replace hf := (if_pos c11).symm.trans hf
      obtain ⟨z12, ez12, hf⟩ := lt_some hf
      refine lv_iinc (v := z12) (lv' := [(5, .int z12), (0, rv x0), (1, rv x1), (2, .int x2), (4, .int x4)]) X.1 X.2.1 dX3_sources_101 hl (k := 4) rfl (by rw [← ez12]; rfl) (by decide) rfl (fun ls hl => ?_)
      refine lv_goto (tgt := 32) X.1 X.2.1 dX3_sources_104 (by decide) ?_
      exact hk32 _ _ _ _ _ _ _ _ _ (lv_sub hl [1, 2, 3, 4, 0] rfl) S hf
    · replace hf := (if_neg c11).symm.trans hf
      refine g_aload_n X (or_rv _) dX3_sources_85 rfl (lv_at hl 0 rfl) ?_
      refine lv_dup X.1 X.2.1 dX3_sources_86 (cat_rv _) ?_
      refine g_gI X S foX3_103 rfl dX3_sources_87 hf (fun v13 hf => ?_)
      refine lv_iconst (v := 1) X.1 X.2.1 dX3_sources_90 (by decide) ?_
      refine lv_iadd X.1 X.2.1 dX3_sources_91 ?_
      refine g_pI X S fpX3_103 (Or.inl rfl) dX3_sources_92 hf (fun h H locs hm hf S => ?_)
      refine g_aload_n X (or_rv _) dX3_sources_95 rfl (lv_at hl 0 rfl) ?_
      refine lv_iload X.1 X.2.1 dX3_sources_96 (lv_at hl 4 rfl) ?_
      refine g_pI X S fpX3_106 (Or.inl rfl) dX3_sources_98 hf (fun h H locs hm hf S => ?_)
      obtain ⟨z14, ez14, hf⟩ := lt_some hf
      refine lv_iinc (v := z14) (lv' := [(5, .int z14), (0, rv x0), (1, rv x1), (2, .int x2), (4, .int x4)]) X.1 X.2.1 dX3_sources_101 hl (k := 4) rfl (by rw [← ez14]; rfl) (by decide) rfl (fun ls hl => ?_)
      refine lv_goto (tgt := 32) X.1 X.2.1 dX3_sources_104 (by decide) ?_
      exact hk32 _ _ _ _ _ _ _ _ _ (lv_sub hl [1, 2, 3, 4, 0] rfl) S hf
theorem wfX3_sources_32_l {r9 : Int64} {h9 : Hp} (X : Cx p E A 11 R s m args c cX3_sources yX3_sources.cls 7) (hr : meth.sig.returnType = (some .long)) (hlk : meth.locks = false) (hnm : meth.name = yX3_sources.name) :
    ∀ (n : Nat) (x0 : Nat) (x1 : Nat) (x2 : Int32) (x4 : Int32) (x5 : Int32) (h : Hp) (H : Heap) (locs : List Loc) (ls : Array Slot), lv_has ls 7 [(0, rv x0), (1, rv x1), (2, .int x2), (4, .int x4), (5, .int x5)] → St E A s h H locs → lp (fun _ _ _ _ _ _ => none) (fX3_sources_32) n x0 x1 x2 x4 x5 h = some (r9, h9) → W p l e R s m args below meth c H locs 0 0 (MQ below (Ql E A h9 r9) args s 0 0 A) (F0 m 32 ls []) := by
  intro n
  induction n with
  | zero =>
    intro x0 x1 x2 x4 x5 h H locs ls hl S hf
    exact nomatch hf
  | succ n ih =>
    intro x0 x1 x2 x4 x5 h H locs ls hl S hf
    exact wfX3_sources_32 X hr hlk hnm ih x0 x1 x2 x4 x5 h H locs ls hl S hf
def fX3_sources (a0 : Nat) (a1 : Nat) (a2 : Int32) (a3 : Int32) (a4 : Int32) (h : Hp) : Option (Int64 × Hp) := gd 3 a0 h (ob (pI 3 a0 14 (imin a3 32) h) fun h => ob (fX10_cell a1 a2 h) fun v1 => ob (pI 3 a0 5 v1 h) fun h => ob (pI 3 a0 15 0 h) fun h => ob (pI 3 a0 16 (-1) h) fun h => lp (fun _ _ _ _ _ _ => none) (fX3_sources_32) FU a0 a1 a2 a4 0 h)
theorem tkX3_sources {a0 : Nat} {a1 : Nat} {a2 : Int32} {a3 : Int32} {a4 : Int32} {h : Hp} {r9 : Int64 × Hp} (e : fX3_sources a0 a1 a2 a3 a4 h = some r9) : hK h a0 = 3 := by
  unfold fX3_sources at e
  exact (gd_some e).1
theorem cX3_sources_m (l : Launch) {E : EE} {A : Nat → Prop} {a0 : Nat} {a1 : Nat} {a2 : Int32} {a3 : Int32} {a4 : Int32} {h : Hp} {r9 : Int64} {h9 : Hp} (hf : fX3_sources a0 a1 a2 a3 a4 h = some (r9, h9)) : Met l yX3_sources (wsM yX3_sources cX3_sources 7 (some .long)) (rmm 11 0 0) (PcE E A h [rv a0, rv a1, .int a2, .int a3, .int a4]) (Ql E A h9 r9) 0 0 A := by
  refine met_of (by decide +kernel) (by simp [lg_sl, cat_rv, cat_wv, cat_sv, cat_i, cat_l, cat_a]) (fun p e s m args below meth c ls X hr hlk hnm S hl => ?_)
  have hl : lv_has ls 7 [(0, rv a0), (1, rv a1), (2, .int a2), (3, .int a3), (4, .int a4)] := by simpa [lv_args, cat_rv, cat_wv, cat_sv, cat_i, cat_l, cat_a] using hl
  generalize hH : s.heap = H at S ⊢
  generalize hlo : ([] : List Loc) = locs at S ⊢
  clear hH hlo
  unfold fX3_sources at hf
  obtain ⟨hth, hf⟩ := gd_some hf
  refine g_aload_n X (or_rv _) dX3_sources_0 rfl (lv_at hl 0 rfl) ?_
  refine lv_iload_n X.1 X.2.1 dX3_sources_1 rfl (lv_at hl 3 rfl) ?_
  refine lv_bipush (v := 32) X.1 X.2.1 dX3_sources_2 (by decide) ?_
  refine g_min (rest := [rv a0]) X hl.1 (by decide) (by simp [cat_rv, cat_wv, cat_sv, cat_i, cat_l, cat_a]) mlX3_94 u_min_s u_math u_min_c (Nat.zero_le _) (Nat.zero_le _) dX3_sources_4 ?_
  refine g_pI X S fpX3_100 (Or.inl rfl) dX3_sources_7 hf (fun h H locs hm hf S => ?_)
  refine g_aload_n X (or_rv _) dX3_sources_10 rfl (lv_at hl 0 rfl) ?_
  refine g_aload_n X (or_rv _) dX3_sources_11 rfl (lv_at hl 1 rfl) ?_
  refine lv_iload_n X.1 X.2.1 dX3_sources_12 rfl (lv_at hl 2 rfl) ?_
  obtain ⟨v1, hc, hf⟩ := ob_some hf
  refine g_ci S (runV (As := [.int a2]) (rest := [rv a0]) X S coX3_49 (by decide) (cX10_cell_m l hc) (tkX10_cell hc) rfl hl.1 (by simp [cat_rv, cat_wv, cat_sv, cat_i, cat_l, cat_a]) rfl ⟨Nat.zero_le _, Nat.zero_le _⟩ dX3_sources_13) (fun H locs S => ?_)
  refine g_pI X S fpX3_53 (Or.inl rfl) dX3_sources_16 hf (fun h H locs hm hf S => ?_)
  refine g_aload_n X (or_rv _) dX3_sources_19 rfl (lv_at hl 0 rfl) ?_
  refine lv_iconst (v := 0) X.1 X.2.1 dX3_sources_20 (by decide) ?_
  refine g_pI X S fpX3_103 (Or.inl rfl) dX3_sources_21 hf (fun h H locs hm hf S => ?_)
  refine g_aload_n X (or_rv _) dX3_sources_24 rfl (lv_at hl 0 rfl) ?_
  refine lv_iconst (v := (-1)) X.1 X.2.1 dX3_sources_25 (by decide) ?_
  refine g_pI X S fpX3_106 (Or.inl rfl) dX3_sources_26 hf (fun h H locs hm hf S => ?_)
  refine lv_iconst (v := 0) X.1 X.2.1 dX3_sources_29 (by decide) ?_
  refine lv_istore (lv' := [(5, .int 0), (0, rv a0), (1, rv a1), (2, .int a2), (3, .int a3), (4, .int a4)]) X.1 X.2.1 dX3_sources_30 hl (by decide) rfl (fun ls hl => ?_)
  exact wfX3_sources_32_l X hr hlk hnm FU _ _ _ _ _ _ _ _ _ (lv_sub hl [1, 2, 3, 5, 0] rfl) S hf
def fX3_digits (a0 : Nat) (h : Hp) : Option (Int32) := gd 3 a0 h (ob (gI 3 a0 15 h) fun v1 => some v1)
theorem tkX3_digits {a0 : Nat} {h : Hp} {r9 : Int32} (e : fX3_digits a0 h = some r9) : hK h a0 = 3 := by
  unfold fX3_digits at e
  exact (gd_some e).1
theorem cX3_digits_m (l : Launch) {E : EE} {A : Nat → Prop} {a0 : Nat} {h : Hp} {r9 : Int32} (hf : fX3_digits a0 h = some r9) : Met l yX3_digits (wsM yX3_digits cX3_digits 1 (some .int)) (rmm 8 0 0) (PcE E A h [rv a0]) (Qi E A h r9) 0 0 A := by
  refine met_of (by decide +kernel) (by simp [lg_sl, cat_rv, cat_wv, cat_sv, cat_i, cat_l, cat_a]) (fun p e s m args below meth c ls X hr hlk hnm S hl => ?_)
  have hl : lv_has ls 1 [(0, rv a0)] := by simpa [lv_args, cat_rv, cat_wv, cat_sv, cat_i, cat_l, cat_a] using hl
  generalize hH : s.heap = H at S ⊢
  generalize hlo : ([] : List Loc) = locs at S ⊢
  clear hH hlo
  unfold fX3_digits at hf
  obtain ⟨hth, hf⟩ := gd_some hf
  refine g_aload_n X (or_rv _) dX3_digits_0 rfl (lv_at hl 0 rfl) ?_
  refine g_gI X S foX3_103 rfl dX3_digits_1 hf (fun v1 hf => ?_)
  cases hf; exact g_ri X S hr hlk dX3_digits_4
def fX3_way_16 (h : Hp) (x0 : Nat) (x1 : Int32) (y0 : Int32) : Option (Int32) := if y0 = (-1) then some (-1) else ob (gR 3 x0 3 h) fun v2 => ob (aL v2 ((4 * (x1 + 1)) + y0) h) fun v3 => if (lg_cmp v3 0) = 0 then some (-1) else some y0
theorem wfX3_way_16 {h : Hp} {r9 : Int32} (X : Cx p E A 10 R s m args c cX3_way yX3_way.cls 5) (hr : meth.sig.returnType = (some .int)) (hlk : meth.locks = false) (hnm : meth.name = yX3_way.name) :
    ∀ (x0 : Nat) (x1 : Int32) (y0 : Int32) (H : Heap) (locs : List Loc) (ls : Array Slot), lv_has ls 5 [(0, rv x0), (1, .int x1)] → St E A s h H locs → fX3_way_16 h x0 x1 y0 = some r9 → W p l e R s m args below meth c H locs 0 0 (MQ below (Qi E A h r9) args s 0 0 A) (F0 m 16 ls [.int y0]) := by
  intro x0 x1 y0 H locs ls hl S hf
  unfold fX3_way_16 at hf
  refine lv_istore (lv' := [(4, .int y0), (0, rv x0), (1, .int x1)]) X.1 X.2.1 dX3_way_16 hl (by decide) rfl (fun ls hl => ?_)
  refine lv_iload X.1 X.2.1 dX3_way_18 (lv_at hl 0 rfl) ?_
  refine lv_iconst (v := (-1)) X.1 X.2.1 dX3_way_20 (by decide) ?_
  refine lv_icmp_eq (tgt := 42) X.1 X.2.1 dX3_way_21 (by decide) (fun c1 => ?_) (fun c1 => ?_)
  · replace hf := (if_pos c1).symm.trans hf
    refine lv_iconst (v := (-1)) X.1 X.2.1 dX3_way_42 (by decide) ?_
    refine lv_goto (tgt := 48) X.1 X.2.1 dX3_way_43 (by decide) ?_
    cases hf; exact g_ri X S hr hlk dX3_way_48
  · replace hf := (if_neg c1).symm.trans hf
    refine g_aload_n X (or_rv _) dX3_way_24 rfl (lv_at hl 1 rfl) ?_
    refine g_gR X S foX3_21 dX3_way_25 hf (fun v2 hf => ?_)
    refine lv_iconst (v := 4) X.1 X.2.1 dX3_way_28 (by decide) ?_
    refine lv_iload_n X.1 X.2.1 dX3_way_29 rfl (lv_at hl 2 rfl) ?_
    refine lv_iconst (v := 1) X.1 X.2.1 dX3_way_30 (by decide) ?_
    refine lv_iadd X.1 X.2.1 dX3_way_31 ?_
    refine lv_imul X.1 X.2.1 dX3_way_32 ?_
    refine lv_iload X.1 X.2.1 dX3_way_33 (lv_at hl 0 rfl) ?_
    refine lv_iadd X.1 X.2.1 dX3_way_35 ?_
    refine g_aL X S dX3_way_36 hf (fun v3 hf => ?_)
    refine lv_lconst (v := 0) X.1 X.2.1 dX3_way_37 (by decide) ?_
    refine W.lcmp X.1 X.2.1 dX3_way_38 ?_
    refine lv_if_ne (tgt := 46) X.1 X.2.1 dX3_way_39 (by decide) (fun c4 => ?_) (fun c4 => ?_)
    · replace hf := (if_neg c4).symm.trans hf
      refine lv_iload X.1 X.2.1 dX3_way_46 (lv_at hl 0 rfl) ?_
      cases hf; exact g_ri X S hr hlk dX3_way_48
    · replace hf := (if_pos c4).symm.trans hf
      refine lv_iconst (v := (-1)) X.1 X.2.1 dX3_way_42 (by decide) ?_
      refine lv_goto (tgt := 48) X.1 X.2.1 dX3_way_43 (by decide) ?_
      cases hf; exact g_ri X S hr hlk dX3_way_48
def fX3_way (a0 : Nat) (a1 : Int32) (a2 : Int32) (a3 : Int32) (h : Hp) : Option (Int32) := gd 3 a0 h (if a2 = (-1) then fX3_way_16 h a0 a1 (-1) else ob (fX3_stateBehind a0 a1 a2 a3 h) fun v2 => fX3_way_16 h a0 a1 v2)
theorem tkX3_way {a0 : Nat} {a1 : Int32} {a2 : Int32} {a3 : Int32} {h : Hp} {r9 : Int32} (e : fX3_way a0 a1 a2 a3 h = some r9) : hK h a0 = 3 := by
  unfold fX3_way at e
  exact (gd_some e).1
theorem cX3_way_m (l : Launch) {E : EE} {A : Nat → Prop} {a0 : Nat} {a1 : Int32} {a2 : Int32} {a3 : Int32} {h : Hp} {r9 : Int32} (hf : fX3_way a0 a1 a2 a3 h = some r9) : Met l yX3_way (wsM yX3_way cX3_way 5 (some .int)) (rmm 10 0 0) (PcE E A h [rv a0, .int a1, .int a2, .int a3]) (Qi E A h r9) 0 0 A := by
  refine met_of (by decide +kernel) (by simp [lg_sl, cat_rv, cat_wv, cat_sv, cat_i, cat_l, cat_a]) (fun p e s m args below meth c ls X hr hlk hnm S hl => ?_)
  have hl : lv_has ls 5 [(0, rv a0), (1, .int a1), (2, .int a2), (3, .int a3)] := by simpa [lv_args, cat_rv, cat_wv, cat_sv, cat_i, cat_l, cat_a] using hl
  generalize hH : s.heap = H at S ⊢
  generalize hlo : ([] : List Loc) = locs at S ⊢
  clear hH hlo
  unfold fX3_way at hf
  obtain ⟨hth, hf⟩ := gd_some hf
  refine lv_iload_n X.1 X.2.1 dX3_way_0 rfl (lv_at hl 2 rfl) ?_
  refine lv_iconst (v := (-1)) X.1 X.2.1 dX3_way_1 (by decide) ?_
  refine lv_icmp_ne (tgt := 9) X.1 X.2.1 dX3_way_2 (by decide) (fun c1 => ?_) (fun c1 => ?_)
  · replace hf := (if_neg c1).symm.trans hf
    refine g_aload_n X (or_rv _) dX3_way_9 rfl (lv_at hl 0 rfl) ?_
    refine lv_iload_n X.1 X.2.1 dX3_way_10 rfl (lv_at hl 1 rfl) ?_
    refine lv_iload_n X.1 X.2.1 dX3_way_11 rfl (lv_at hl 2 rfl) ?_
    refine lv_iload_n X.1 X.2.1 dX3_way_12 rfl (lv_at hl 3 rfl) ?_
    obtain ⟨v2, hc, hf⟩ := ob_some hf
    refine g_ci S (runV (As := [.int a1, .int a2, .int a3]) (rest := []) X S coX3_117 (by decide) (cX3_stateBehind_m l hc) (tkX3_stateBehind hc) rfl hl.1 (by decide) rfl ⟨Nat.zero_le _, Nat.zero_le _⟩ dX3_way_13) (fun H locs S => ?_)
    exact wfX3_way_16 X hr hlk hnm _ _ _ _ _ _ (lv_sub hl [0, 1] rfl) S hf
  · replace hf := (if_pos c1).symm.trans hf
    refine lv_iconst (v := (-1)) X.1 X.2.1 dX3_way_5 (by decide) ?_
    refine lv_goto (tgt := 16) X.1 X.2.1 dX3_way_6 (by decide) ?_
    exact wfX3_way_16 X hr hlk hnm _ _ _ _ _ _ (lv_sub hl [0, 1] rfl) S hf
def fX3_firstSource_116 (h : Hp) (k40 : Nat → Int32 → Int32 → Int32 → Int32 → Int32 → Option (Int32)) (x0 : Nat) (x1 : Int32) (x2 : Int32) (x3 : Int32) (x4 : Int32) (x5 : Int32) (x6 : Int32) : Option (Int32) := ob (fX3_way x0 x5 x2 x6 h) fun v1 => ob (fX3_way x0 x5 x3 x6 h) fun v2 => lt (x5 + 1) fun z3 => k40 x0 x1 v1 v2 x4 z3
theorem wfX3_firstSource_116 {h : Hp} {k40 : Nat → Int32 → Int32 → Int32 → Int32 → Int32 → Option (Int32)} {r9 : Int32} (X : Cx p E A 11 R s m args c cX3_firstSource yX3_firstSource.cls 7) (hr : meth.sig.returnType = (some .int)) (hlk : meth.locks = false) (hnm : meth.name = yX3_firstSource.name) (hk40 : ∀ (x0 : Nat) (x1 : Int32) (x2 : Int32) (x3 : Int32) (x4 : Int32) (x5 : Int32) (H : Heap) (locs : List Loc) (ls : Array Slot), lv_has ls 7 [(0, rv x0), (1, .int x1), (2, .int x2), (3, .int x3), (4, .int x4), (5, .int x5)] → St E A s h H locs → k40 x0 x1 x2 x3 x4 x5 = some r9 → W p l e R s m args below meth c H locs 0 0 (MQ below (Qi E A h r9) args s 0 0 A) (F0 m 40 ls [])) :
    ∀ (x0 : Nat) (x1 : Int32) (x2 : Int32) (x3 : Int32) (x4 : Int32) (x5 : Int32) (x6 : Int32) (H : Heap) (locs : List Loc) (ls : Array Slot), lv_has ls 7 [(0, rv x0), (1, .int x1), (2, .int x2), (3, .int x3), (4, .int x4), (5, .int x5), (6, .int x6)] → St E A s h H locs → fX3_firstSource_116 h k40 x0 x1 x2 x3 x4 x5 x6 = some r9 → W p l e R s m args below meth c H locs 0 0 (MQ below (Qi E A h r9) args s 0 0 A) (F0 m 116 ls []) := by
  intro x0 x1 x2 x3 x4 x5 x6 H locs ls hl S hf
  unfold fX3_firstSource_116 at hf
  refine g_aload_n X (or_rv _) dX3_firstSource_116 rfl (lv_at hl 0 rfl) ?_
  refine lv_iload X.1 X.2.1 dX3_firstSource_117 (lv_at hl 5 rfl) ?_
  refine lv_iload_n X.1 X.2.1 dX3_firstSource_119 rfl (lv_at hl 2 rfl) ?_
  refine lv_iload X.1 X.2.1 dX3_firstSource_120 (lv_at hl 6 rfl) ?_
  obtain ⟨v1, hc, hf⟩ := ob_some hf
  refine g_ci S (runV (As := [.int x5, .int x2, .int x6]) (rest := []) X S coX3_113 (by decide) (cX3_way_m l hc) (tkX3_way hc) rfl hl.1 (by decide) rfl ⟨Nat.zero_le _, Nat.zero_le _⟩ dX3_firstSource_122) (fun H locs S => ?_)
  refine lv_istore_n (i := 2) (lv' := [(2, .int v1), (0, rv x0), (1, .int x1), (3, .int x3), (4, .int x4), (5, .int x5), (6, .int x6)]) X.1 X.2.1 dX3_firstSource_125 rfl hl (by decide) rfl (fun ls hl => ?_)
  refine g_aload_n X (or_rv _) dX3_firstSource_126 rfl (lv_at hl 1 rfl) ?_
  refine lv_iload X.1 X.2.1 dX3_firstSource_127 (lv_at hl 5 rfl) ?_
  refine lv_iload_n X.1 X.2.1 dX3_firstSource_129 rfl (lv_at hl 3 rfl) ?_
  refine lv_iload X.1 X.2.1 dX3_firstSource_130 (lv_at hl 6 rfl) ?_
  obtain ⟨v2, hc, hf⟩ := ob_some hf
  refine g_ci S (runV (As := [.int x5, .int x3, .int x6]) (rest := []) X S coX3_113 (by decide) (cX3_way_m l hc) (tkX3_way hc) rfl hl.1 (by decide) rfl ⟨Nat.zero_le _, Nat.zero_le _⟩ dX3_firstSource_132) (fun H locs S => ?_)
  refine lv_istore_n (i := 3) (lv' := [(3, .int v2), (2, .int v1), (0, rv x0), (1, .int x1), (4, .int x4), (5, .int x5), (6, .int x6)]) X.1 X.2.1 dX3_firstSource_135 rfl hl (by decide) rfl (fun ls hl => ?_)
  obtain ⟨z3, ez3, hf⟩ := lt_some hf
  refine lv_iinc (v := z3) (lv' := [(5, .int z3), (3, .int v2), (2, .int v1), (0, rv x0), (1, .int x1), (4, .int x4), (6, .int x6)]) X.1 X.2.1 dX3_firstSource_136 hl (k := 5) rfl (by rw [← ez3]; rfl) (by decide) rfl (fun ls hl => ?_)
  refine lv_goto (tgt := 40) X.1 X.2.1 dX3_firstSource_139 (by decide) ?_
  exact hk40 _ _ _ _ _ _ _ _ _ (lv_sub hl [3, 4, 2, 1, 5, 0] rfl) S hf
def fX3_firstSource_91 (h : Hp) (k40 : Nat → Int32 → Int32 → Int32 → Int32 → Int32 → Option (Int32)) (x0 : Nat) (x1 : Int32) (x2 : Int32) (x3 : Int32) (x4 : Int32) (x5 : Int32) (x6 : Int32) : Option (Int32) := ob (gR 3 x0 1 h) fun v1 => ob (aI v1 x5 h) fun v2 => ob (fX3_takesDigit v2) fun v3 => if v3 = 0 then fX3_firstSource_116 h k40 x0 x1 x2 x3 x4 x5 x6 else if x4 = x1 then some x6 else lt (x4 + 1) fun z6 => fX3_firstSource_116 h k40 x0 x1 x2 x3 z6 x5 x6
theorem wfX3_firstSource_91 {h : Hp} {k40 : Nat → Int32 → Int32 → Int32 → Int32 → Int32 → Option (Int32)} {r9 : Int32} (X : Cx p E A 11 R s m args c cX3_firstSource yX3_firstSource.cls 7) (hr : meth.sig.returnType = (some .int)) (hlk : meth.locks = false) (hnm : meth.name = yX3_firstSource.name) (hk40 : ∀ (x0 : Nat) (x1 : Int32) (x2 : Int32) (x3 : Int32) (x4 : Int32) (x5 : Int32) (H : Heap) (locs : List Loc) (ls : Array Slot), lv_has ls 7 [(0, rv x0), (1, .int x1), (2, .int x2), (3, .int x3), (4, .int x4), (5, .int x5)] → St E A s h H locs → k40 x0 x1 x2 x3 x4 x5 = some r9 → W p l e R s m args below meth c H locs 0 0 (MQ below (Qi E A h r9) args s 0 0 A) (F0 m 40 ls [])) :
    ∀ (x0 : Nat) (x1 : Int32) (x2 : Int32) (x3 : Int32) (x4 : Int32) (x5 : Int32) (x6 : Int32) (H : Heap) (locs : List Loc) (ls : Array Slot), lv_has ls 7 [(0, rv x0), (1, .int x1), (2, .int x2), (3, .int x3), (4, .int x4), (5, .int x5), (6, .int x6)] → St E A s h H locs → fX3_firstSource_91 h k40 x0 x1 x2 x3 x4 x5 x6 = some r9 → W p l e R s m args below meth c H locs 0 0 (MQ below (Qi E A h r9) args s 0 0 A) (F0 m 91 ls []) := by
  intro x0 x1 x2 x3 x4 x5 x6 H locs ls hl S hf
  unfold fX3_firstSource_91 at hf
  refine g_aload_n X (or_rv _) dX3_firstSource_91 rfl (lv_at hl 0 rfl) ?_
  refine g_gR X S foX3_15 dX3_firstSource_92 hf (fun v1 hf => ?_)
  refine lv_iload X.1 X.2.1 dX3_firstSource_95 (lv_at hl 5 rfl) ?_
  refine g_aI X S dX3_firstSource_97 hf (fun v2 hf => ?_)
  obtain ⟨v3, hc, hf⟩ := ob_some hf
  refine g_ci S (runS (As := [.int v2]) (rest := []) X S coX3_73 (by decide) (cX3_takesDigit_m l hc) rfl hl.1 (by decide) rfl ⟨Nat.zero_le _, Nat.zero_le _⟩ dX3_firstSource_98) (fun H locs S => ?_)
  refine lv_if_eq (tgt := 116) X.1 X.2.1 dX3_firstSource_101 (by decide) (fun c4 => ?_) (fun c4 => ?_)
  · replace hf := (if_pos c4).symm.trans hf
    exact wfX3_firstSource_116 X hr hlk hnm hk40 _ _ _ _ _ _ _ _ _ _ hl S hf
  · replace hf := (if_neg c4).symm.trans hf
    refine lv_iload X.1 X.2.1 dX3_firstSource_104 (lv_at hl 4 rfl) ?_
    refine lv_iload_n X.1 X.2.1 dX3_firstSource_106 rfl (lv_at hl 1 rfl) ?_
    refine lv_icmp_ne (tgt := 113) X.1 X.2.1 dX3_firstSource_107 (by decide) (fun c5 => ?_) (fun c5 => ?_)
    · replace hf := (if_neg c5).symm.trans hf
      obtain ⟨z6, ez6, hf⟩ := lt_some hf
      refine lv_iinc (v := z6) (lv' := [(4, .int z6), (0, rv x0), (1, .int x1), (2, .int x2), (3, .int x3), (5, .int x5), (6, .int x6)]) X.1 X.2.1 dX3_firstSource_113 hl (k := 4) rfl (by rw [← ez6]; rfl) (by decide) rfl (fun ls hl => ?_)
      exact wfX3_firstSource_116 X hr hlk hnm hk40 _ _ _ _ _ _ _ _ _ _ (lv_sub hl [1, 2, 3, 4, 0, 5, 6] rfl) S hf
    · replace hf := (if_pos c5).symm.trans hf
      refine lv_iload X.1 X.2.1 dX3_firstSource_110 (lv_at hl 6 rfl) ?_
      cases hf; exact g_ri X S hr hlk dX3_firstSource_112
def fX3_firstSource_52 (h : Hp) (k40 : Nat → Int32 → Int32 → Int32 → Int32 → Int32 → Option (Int32)) (k52 : Nat → Int32 → Int32 → Int32 → Int32 → Int32 → Int32 → Option (Int32)) (x0 : Nat) (x1 : Int32) (x2 : Int32) (x3 : Int32) (x4 : Int32) (x5 : Int32) (x6 : Int32) : Option (Int32) := if 9 ≤ x6 then fX3_firstSource_91 h k40 x0 x1 x2 x3 x4 x5 x6 else ob (fX3_way x0 x5 x2 x6 h) fun v2 => if v2 = (-1) then ob (fX3_way x0 x5 x3 x6 h) fun v4 => if v4 = (-1) then lt (x6 + 1) fun z6 => k52 x0 x1 x2 x3 x4 x5 z6 else fX3_firstSource_91 h k40 x0 x1 x2 x3 x4 x5 x6 else fX3_firstSource_91 h k40 x0 x1 x2 x3 x4 x5 x6
theorem wfX3_firstSource_52 {h : Hp} {k40 : Nat → Int32 → Int32 → Int32 → Int32 → Int32 → Option (Int32)} {k52 : Nat → Int32 → Int32 → Int32 → Int32 → Int32 → Int32 → Option (Int32)} {r9 : Int32} (X : Cx p E A 11 R s m args c cX3_firstSource yX3_firstSource.cls 7) (hr : meth.sig.returnType = (some .int)) (hlk : meth.locks = false) (hnm : meth.name = yX3_firstSource.name) (hk40 : ∀ (x0 : Nat) (x1 : Int32) (x2 : Int32) (x3 : Int32) (x4 : Int32) (x5 : Int32) (H : Heap) (locs : List Loc) (ls : Array Slot), lv_has ls 7 [(0, rv x0), (1, .int x1), (2, .int x2), (3, .int x3), (4, .int x4), (5, .int x5)] → St E A s h H locs → k40 x0 x1 x2 x3 x4 x5 = some r9 → W p l e R s m args below meth c H locs 0 0 (MQ below (Qi E A h r9) args s 0 0 A) (F0 m 40 ls [])) (hk52 : ∀ (x0 : Nat) (x1 : Int32) (x2 : Int32) (x3 : Int32) (x4 : Int32) (x5 : Int32) (x6 : Int32) (H : Heap) (locs : List Loc) (ls : Array Slot), lv_has ls 7 [(0, rv x0), (1, .int x1), (2, .int x2), (3, .int x3), (4, .int x4), (5, .int x5), (6, .int x6)] → St E A s h H locs → k52 x0 x1 x2 x3 x4 x5 x6 = some r9 → W p l e R s m args below meth c H locs 0 0 (MQ below (Qi E A h r9) args s 0 0 A) (F0 m 52 ls [])) :
    ∀ (x0 : Nat) (x1 : Int32) (x2 : Int32) (x3 : Int32) (x4 : Int32) (x5 : Int32) (x6 : Int32) (H : Heap) (locs : List Loc) (ls : Array Slot), lv_has ls 7 [(0, rv x0), (1, .int x1), (2, .int x2), (3, .int x3), (4, .int x4), (5, .int x5), (6, .int x6)] → St E A s h H locs → fX3_firstSource_52 h k40 k52 x0 x1 x2 x3 x4 x5 x6 = some r9 → W p l e R s m args below meth c H locs 0 0 (MQ below (Qi E A h r9) args s 0 0 A) (F0 m 52 ls []) := by
  intro x0 x1 x2 x3 x4 x5 x6 H locs ls hl S hf
  unfold fX3_firstSource_52 at hf
  refine lv_iload X.1 X.2.1 dX3_firstSource_52 (lv_at hl 6 rfl) ?_
  refine lv_bipush (v := 9) X.1 X.2.1 dX3_firstSource_54 (by decide) ?_
  refine lv_icmp_ge (tgt := 91) X.1 X.2.1 dX3_firstSource_56 (by decide) (fun c1 => ?_) (fun c1 => ?_)
  · replace hf := (if_pos c1).symm.trans hf
    exact wfX3_firstSource_91 X hr hlk hnm hk40 _ _ _ _ _ _ _ _ _ _ hl S hf
  · replace hf := (if_neg c1).symm.trans hf
    refine g_aload_n X (or_rv _) dX3_firstSource_59 rfl (lv_at hl 0 rfl) ?_
    refine lv_iload X.1 X.2.1 dX3_firstSource_60 (lv_at hl 5 rfl) ?_
    refine lv_iload_n X.1 X.2.1 dX3_firstSource_62 rfl (lv_at hl 2 rfl) ?_
    refine lv_iload X.1 X.2.1 dX3_firstSource_63 (lv_at hl 6 rfl) ?_
    obtain ⟨v2, hc, hf⟩ := ob_some hf
    refine g_ci S (runV (As := [.int x5, .int x2, .int x6]) (rest := []) X S coX3_113 (by decide) (cX3_way_m l hc) (tkX3_way hc) rfl hl.1 (by decide) rfl ⟨Nat.zero_le _, Nat.zero_le _⟩ dX3_firstSource_65) (fun H locs S => ?_)
    refine lv_iconst (v := (-1)) X.1 X.2.1 dX3_firstSource_68 (by decide) ?_
    refine lv_icmp_ne (tgt := 91) X.1 X.2.1 dX3_firstSource_69 (by decide) (fun c3 => ?_) (fun c3 => ?_)
    · replace hf := (if_neg c3).symm.trans hf
      exact wfX3_firstSource_91 X hr hlk hnm hk40 _ _ _ _ _ _ _ _ _ _ hl S hf
    · replace hf := (if_pos c3).symm.trans hf
      refine g_aload_n X (or_rv _) dX3_firstSource_72 rfl (lv_at hl 0 rfl) ?_
      refine lv_iload X.1 X.2.1 dX3_firstSource_73 (lv_at hl 5 rfl) ?_
      refine lv_iload_n X.1 X.2.1 dX3_firstSource_75 rfl (lv_at hl 3 rfl) ?_
      refine lv_iload X.1 X.2.1 dX3_firstSource_76 (lv_at hl 6 rfl) ?_
      obtain ⟨v4, hc, hf⟩ := ob_some hf
      refine g_ci S (runV (As := [.int x5, .int x3, .int x6]) (rest := []) X S coX3_113 (by decide) (cX3_way_m l hc) (tkX3_way hc) rfl hl.1 (by decide) rfl ⟨Nat.zero_le _, Nat.zero_le _⟩ dX3_firstSource_78) (fun H locs S => ?_)
      refine lv_iconst (v := (-1)) X.1 X.2.1 dX3_firstSource_81 (by decide) ?_
      refine lv_icmp_ne (tgt := 91) X.1 X.2.1 dX3_firstSource_82 (by decide) (fun c5 => ?_) (fun c5 => ?_)
      · replace hf := (if_neg c5).symm.trans hf
        exact wfX3_firstSource_91 X hr hlk hnm hk40 _ _ _ _ _ _ _ _ _ _ hl S hf
      · replace hf := (if_pos c5).symm.trans hf
        obtain ⟨z6, ez6, hf⟩ := lt_some hf
        refine lv_iinc (v := z6) (lv' := [(6, .int z6), (0, rv x0), (1, .int x1), (2, .int x2), (3, .int x3), (4, .int x4), (5, .int x5)]) X.1 X.2.1 dX3_firstSource_85 hl (k := 6) rfl (by rw [← ez6]; rfl) (by decide) rfl (fun ls hl => ?_)
        refine lv_goto (tgt := 52) X.1 X.2.1 dX3_firstSource_88 (by decide) ?_
        exact hk52 _ _ _ _ _ _ _ _ _ _ (lv_sub hl [1, 2, 3, 4, 5, 6, 0] rfl) S hf
theorem wfX3_firstSource_52_l {h : Hp} {k40 : Nat → Int32 → Int32 → Int32 → Int32 → Int32 → Option (Int32)} {r9 : Int32} (X : Cx p E A 11 R s m args c cX3_firstSource yX3_firstSource.cls 7) (hr : meth.sig.returnType = (some .int)) (hlk : meth.locks = false) (hnm : meth.name = yX3_firstSource.name) (hk40 : ∀ (x0 : Nat) (x1 : Int32) (x2 : Int32) (x3 : Int32) (x4 : Int32) (x5 : Int32) (H : Heap) (locs : List Loc) (ls : Array Slot), lv_has ls 7 [(0, rv x0), (1, .int x1), (2, .int x2), (3, .int x3), (4, .int x4), (5, .int x5)] → St E A s h H locs → k40 x0 x1 x2 x3 x4 x5 = some r9 → W p l e R s m args below meth c H locs 0 0 (MQ below (Qi E A h r9) args s 0 0 A) (F0 m 40 ls [])) :
    ∀ (n : Nat) (x0 : Nat) (x1 : Int32) (x2 : Int32) (x3 : Int32) (x4 : Int32) (x5 : Int32) (x6 : Int32) (H : Heap) (locs : List Loc) (ls : Array Slot), lv_has ls 7 [(0, rv x0), (1, .int x1), (2, .int x2), (3, .int x3), (4, .int x4), (5, .int x5), (6, .int x6)] → St E A s h H locs → lp (fun _ _ _ _ _ _ _ => none) (fX3_firstSource_52 h k40) n x0 x1 x2 x3 x4 x5 x6 = some r9 → W p l e R s m args below meth c H locs 0 0 (MQ below (Qi E A h r9) args s 0 0 A) (F0 m 52 ls []) := by
  intro n
  induction n with
  | zero =>
    intro x0 x1 x2 x3 x4 x5 x6 H locs ls hl S hf
    exact nomatch hf
  | succ n ih =>
    intro x0 x1 x2 x3 x4 x5 x6 H locs ls hl S hf
    exact wfX3_firstSource_52 X hr hlk hnm hk40 ih x0 x1 x2 x3 x4 x5 x6 H locs ls hl S hf
def fX3_firstSource_40 (h : Hp) (k40 : Nat → Int32 → Int32 → Int32 → Int32 → Int32 → Option (Int32)) (x0 : Nat) (x1 : Int32) (x2 : Int32) (x3 : Int32) (x4 : Int32) (x5 : Int32) : Option (Int32) := ob (gI 3 x0 14 h) fun v1 => if v1 ≤ x5 then if x2 = (-1) then some 1 else some 0 else lp (fun _ _ _ _ _ _ _ => none) (fX3_firstSource_52 h k40) FU x0 x1 x2 x3 x4 x5 0
theorem wfX3_firstSource_40 {h : Hp} {k40 : Nat → Int32 → Int32 → Int32 → Int32 → Int32 → Option (Int32)} {r9 : Int32} (X : Cx p E A 11 R s m args c cX3_firstSource yX3_firstSource.cls 7) (hr : meth.sig.returnType = (some .int)) (hlk : meth.locks = false) (hnm : meth.name = yX3_firstSource.name) (hk40 : ∀ (x0 : Nat) (x1 : Int32) (x2 : Int32) (x3 : Int32) (x4 : Int32) (x5 : Int32) (H : Heap) (locs : List Loc) (ls : Array Slot), lv_has ls 7 [(0, rv x0), (1, .int x1), (2, .int x2), (3, .int x3), (4, .int x4), (5, .int x5)] → St E A s h H locs → k40 x0 x1 x2 x3 x4 x5 = some r9 → W p l e R s m args below meth c H locs 0 0 (MQ below (Qi E A h r9) args s 0 0 A) (F0 m 40 ls [])) :
    ∀ (x0 : Nat) (x1 : Int32) (x2 : Int32) (x3 : Int32) (x4 : Int32) (x5 : Int32) (H : Heap) (locs : List Loc) (ls : Array Slot), lv_has ls 7 [(0, rv x0), (1, .int x1), (2, .int x2), (3, .int x3), (4, .int x4), (5, .int x5)] → St E A s h H locs → fX3_firstSource_40 h k40 x0 x1 x2 x3 x4 x5 = some r9 → W p l e R s m args below meth c H locs 0 0 (MQ below (Qi E A h r9) args s 0 0 A) (F0 m 40 ls []) := by
  intro x0 x1 x2 x3 x4 x5 H locs ls hl S hf
  unfold fX3_firstSource_40 at hf
  refine lv_iload X.1 X.2.1 dX3_firstSource_40 (lv_at hl 5 rfl) ?_
  refine g_aload_n X (or_rv _) dX3_firstSource_42 rfl (lv_at hl 0 rfl) ?_
  refine g_gI X S foX3_100 rfl dX3_firstSource_43 hf (fun v1 hf => ?_)
  refine lv_icmp_ge (tgt := 142) X.1 X.2.1 dX3_firstSource_46 (by decide) (fun c2 => ?_) (fun c2 => ?_)
  · replace hf := (if_pos c2).symm.trans hf
    refine lv_iload_n X.1 X.2.1 dX3_firstSource_142 rfl (lv_at hl 2 rfl) ?_
    refine lv_iconst (v := (-1)) X.1 X.2.1 dX3_firstSource_143 (by decide) ?_
    refine lv_icmp_eq (tgt := 151) X.1 X.2.1 dX3_firstSource_144 (by decide) (fun c3 => ?_) (fun c3 => ?_)
    · replace hf := (if_pos c3).symm.trans hf
      refine lv_iconst (v := 1) X.1 X.2.1 dX3_firstSource_151 (by decide) ?_
      cases hf; exact g_ri X S hr hlk dX3_firstSource_152
    · replace hf := (if_neg c3).symm.trans hf
      refine lv_iconst (v := 0) X.1 X.2.1 dX3_firstSource_147 (by decide) ?_
      refine lv_goto (tgt := 152) X.1 X.2.1 dX3_firstSource_148 (by decide) ?_
      cases hf; exact g_ri X S hr hlk dX3_firstSource_152
  · replace hf := (if_neg c2).symm.trans hf
    refine lv_iconst (v := 0) X.1 X.2.1 dX3_firstSource_49 (by decide) ?_
    refine lv_istore (lv' := [(6, .int 0), (0, rv x0), (1, .int x1), (2, .int x2), (3, .int x3), (4, .int x4), (5, .int x5)]) X.1 X.2.1 dX3_firstSource_50 hl (by decide) rfl (fun ls hl => ?_)
    exact wfX3_firstSource_52_l X hr hlk hnm hk40 FU _ _ _ _ _ _ _ _ _ _ (lv_sub hl [1, 2, 3, 4, 5, 6, 0] rfl) S hf
theorem wfX3_firstSource_40_l {h : Hp} {r9 : Int32} (X : Cx p E A 11 R s m args c cX3_firstSource yX3_firstSource.cls 7) (hr : meth.sig.returnType = (some .int)) (hlk : meth.locks = false) (hnm : meth.name = yX3_firstSource.name) :
    ∀ (n : Nat) (x0 : Nat) (x1 : Int32) (x2 : Int32) (x3 : Int32) (x4 : Int32) (x5 : Int32) (H : Heap) (locs : List Loc) (ls : Array Slot), lv_has ls 7 [(0, rv x0), (1, .int x1), (2, .int x2), (3, .int x3), (4, .int x4), (5, .int x5)] → St E A s h H locs → lp (fun _ _ _ _ _ _ => none) (fX3_firstSource_40 h) n x0 x1 x2 x3 x4 x5 = some r9 → W p l e R s m args below meth c H locs 0 0 (MQ below (Qi E A h r9) args s 0 0 A) (F0 m 40 ls []) := by
  intro n
  induction n with
  | zero =>
    intro x0 x1 x2 x3 x4 x5 H locs ls hl S hf
    exact nomatch hf
  | succ n ih =>
    intro x0 x1 x2 x3 x4 x5 H locs ls hl S hf
    exact wfX3_firstSource_40 X hr hlk hnm ih x0 x1 x2 x3 x4 x5 H locs ls hl S hf
def fX3_firstSource_16 (h : Hp) (x0 : Nat) (x1 : Int32) (y0 : Int32) : Option (Int32) := ob (gR 3 x0 3 h) fun v1 => ob (aL v1 2 h) fun v2 => if (lg_cmp v2 0) ≤ 0 then lp (fun _ _ _ _ _ _ => none) (fX3_firstSource_40 h) FU x0 x1 y0 (-1) 0 0 else lp (fun _ _ _ _ _ _ => none) (fX3_firstSource_40 h) FU x0 x1 y0 2 0 0
theorem wfX3_firstSource_16 {h : Hp} {r9 : Int32} (X : Cx p E A 11 R s m args c cX3_firstSource yX3_firstSource.cls 7) (hr : meth.sig.returnType = (some .int)) (hlk : meth.locks = false) (hnm : meth.name = yX3_firstSource.name) :
    ∀ (x0 : Nat) (x1 : Int32) (y0 : Int32) (H : Heap) (locs : List Loc) (ls : Array Slot), lv_has ls 7 [(0, rv x0), (1, .int x1)] → St E A s h H locs → fX3_firstSource_16 h x0 x1 y0 = some r9 → W p l e R s m args below meth c H locs 0 0 (MQ below (Qi E A h r9) args s 0 0 A) (F0 m 16 ls [.int y0]) := by
  intro x0 x1 y0 H locs ls hl S hf
  unfold fX3_firstSource_16 at hf
  refine lv_istore_n (i := 2) (lv' := [(2, .int y0), (0, rv x0), (1, .int x1)]) X.1 X.2.1 dX3_firstSource_16 rfl hl (by decide) rfl (fun ls hl => ?_)
  refine g_aload_n X (or_rv _) dX3_firstSource_17 rfl (lv_at hl 1 rfl) ?_
  refine g_gR X S foX3_21 dX3_firstSource_18 hf (fun v1 hf => ?_)
  refine lv_iconst (v := 2) X.1 X.2.1 dX3_firstSource_21 (by decide) ?_
  refine g_aL X S dX3_firstSource_22 hf (fun v2 hf => ?_)
  refine lv_lconst (v := 0) X.1 X.2.1 dX3_firstSource_23 (by decide) ?_
  refine W.lcmp X.1 X.2.1 dX3_firstSource_24 ?_
  refine lv_if_le (tgt := 32) X.1 X.2.1 dX3_firstSource_25 (by decide) (fun c3 => ?_) (fun c3 => ?_)
  · replace hf := (if_pos c3).symm.trans hf
    refine lv_iconst (v := (-1)) X.1 X.2.1 dX3_firstSource_32 (by decide) ?_
    refine lv_istore_n (i := 3) (lv' := [(3, .int (-1)), (2, .int y0), (0, rv x0), (1, .int x1)]) X.1 X.2.1 dX3_firstSource_33 rfl hl (by decide) rfl (fun ls hl => ?_)
    refine lv_iconst (v := 0) X.1 X.2.1 dX3_firstSource_34 (by decide) ?_
    refine lv_istore (lv' := [(4, .int 0), (3, .int (-1)), (2, .int y0), (0, rv x0), (1, .int x1)]) X.1 X.2.1 dX3_firstSource_35 hl (by decide) rfl (fun ls hl => ?_)
    refine lv_iconst (v := 0) X.1 X.2.1 dX3_firstSource_37 (by decide) ?_
    refine lv_istore (lv' := [(5, .int 0), (4, .int 0), (3, .int (-1)), (2, .int y0), (0, rv x0), (1, .int x1)]) X.1 X.2.1 dX3_firstSource_38 hl (by decide) rfl (fun ls hl => ?_)
    exact wfX3_firstSource_40_l X hr hlk hnm FU _ _ _ _ _ _ _ _ _ (lv_sub hl [4, 5, 3, 2, 1, 0] rfl) S hf
  · replace hf := (if_neg c3).symm.trans hf
    refine lv_iconst (v := 2) X.1 X.2.1 dX3_firstSource_28 (by decide) ?_
    refine lv_goto (tgt := 33) X.1 X.2.1 dX3_firstSource_29 (by decide) ?_
    refine lv_istore_n (i := 3) (lv' := [(3, .int 2), (2, .int y0), (0, rv x0), (1, .int x1)]) X.1 X.2.1 dX3_firstSource_33 rfl hl (by decide) rfl (fun ls hl => ?_)
    refine lv_iconst (v := 0) X.1 X.2.1 dX3_firstSource_34 (by decide) ?_
    refine lv_istore (lv' := [(4, .int 0), (3, .int 2), (2, .int y0), (0, rv x0), (1, .int x1)]) X.1 X.2.1 dX3_firstSource_35 hl (by decide) rfl (fun ls hl => ?_)
    refine lv_iconst (v := 0) X.1 X.2.1 dX3_firstSource_37 (by decide) ?_
    refine lv_istore (lv' := [(5, .int 0), (4, .int 0), (3, .int 2), (2, .int y0), (0, rv x0), (1, .int x1)]) X.1 X.2.1 dX3_firstSource_38 hl (by decide) rfl (fun ls hl => ?_)
    exact wfX3_firstSource_40_l X hr hlk hnm FU _ _ _ _ _ _ _ _ _ (lv_sub hl [4, 5, 3, 2, 1, 0] rfl) S hf
def fX3_firstSource (a0 : Nat) (a1 : Int32) (h : Hp) : Option (Int32) := gd 3 a0 h (ob (gR 3 a0 3 h) fun v1 => ob (aL v1 0 h) fun v2 => if (lg_cmp v2 0) ≤ 0 then fX3_firstSource_16 h a0 a1 (-1) else fX3_firstSource_16 h a0 a1 0)
theorem tkX3_firstSource {a0 : Nat} {a1 : Int32} {h : Hp} {r9 : Int32} (e : fX3_firstSource a0 a1 h = some r9) : hK h a0 = 3 := by
  unfold fX3_firstSource at e
  exact (gd_some e).1
theorem cX3_firstSource_m (l : Launch) {E : EE} {A : Nat → Prop} {a0 : Nat} {a1 : Int32} {h : Hp} {r9 : Int32} (hf : fX3_firstSource a0 a1 h = some r9) : Met l yX3_firstSource (wsM yX3_firstSource cX3_firstSource 7 (some .int)) (rmm 11 0 0) (PcE E A h [rv a0, .int a1]) (Qi E A h r9) 0 0 A := by
  refine met_of (by decide +kernel) (by simp [lg_sl, cat_rv, cat_wv, cat_sv, cat_i, cat_l, cat_a]) (fun p e s m args below meth c ls X hr hlk hnm S hl => ?_)
  have hl : lv_has ls 7 [(0, rv a0), (1, .int a1)] := by simpa [lv_args, cat_rv, cat_wv, cat_sv, cat_i, cat_l, cat_a] using hl
  generalize hH : s.heap = H at S ⊢
  generalize hlo : ([] : List Loc) = locs at S ⊢
  clear hH hlo
  unfold fX3_firstSource at hf
  obtain ⟨hth, hf⟩ := gd_some hf
  refine g_aload_n X (or_rv _) dX3_firstSource_0 rfl (lv_at hl 0 rfl) ?_
  refine g_gR X S foX3_21 dX3_firstSource_1 hf (fun v1 hf => ?_)
  refine lv_iconst (v := 0) X.1 X.2.1 dX3_firstSource_4 (by decide) ?_
  refine g_aL X S dX3_firstSource_5 hf (fun v2 hf => ?_)
  refine lv_lconst (v := 0) X.1 X.2.1 dX3_firstSource_6 (by decide) ?_
  refine W.lcmp X.1 X.2.1 dX3_firstSource_7 ?_
  refine lv_if_le (tgt := 15) X.1 X.2.1 dX3_firstSource_8 (by decide) (fun c3 => ?_) (fun c3 => ?_)
  · replace hf := (if_pos c3).symm.trans hf
    refine lv_iconst (v := (-1)) X.1 X.2.1 dX3_firstSource_15 (by decide) ?_
    exact wfX3_firstSource_16 X hr hlk hnm _ _ _ _ _ _ hl S hf
  · replace hf := (if_neg c3).symm.trans hf
    refine lv_iconst (v := 0) X.1 X.2.1 dX3_firstSource_11 (by decide) ?_
    refine lv_goto (tgt := 16) X.1 X.2.1 dX3_firstSource_12 (by decide) ?_
    exact wfX3_firstSource_16 X hr hlk hnm _ _ _ _ _ _ hl S hf
def fX3_takeDigit_47 (x0 : Nat) (h : Hp) : Option (Int32 × Hp) := ob (pI 3 x0 6 1 h) fun h => some (0, h)
theorem wfX3_takeDigit_47 {r9 : Int32} {h9 : Hp} (X : Cx p E A 8 R s m args c cX3_takeDigit yX3_takeDigit.cls 2) (hr : meth.sig.returnType = (some .int)) (hlk : meth.locks = false) (hnm : meth.name = yX3_takeDigit.name) :
    ∀ (x0 : Nat) (h : Hp) (H : Heap) (locs : List Loc) (ls : Array Slot), lv_has ls 2 [(0, rv x0)] → St E A s h H locs → fX3_takeDigit_47 x0 h = some (r9, h9) → W p l e R s m args below meth c H locs 0 0 (MQ below (Qi E A h9 r9) args s 0 0 A) (F0 m 47 ls []) := by
  intro x0 h H locs ls hl S hf
  unfold fX3_takeDigit_47 at hf
  refine g_aload_n X (or_rv _) dX3_takeDigit_47 rfl (lv_at hl 0 rfl) ?_
  refine lv_iconst (v := 1) X.1 X.2.1 dX3_takeDigit_48 (by decide) ?_
  refine g_pI X S fpX3_56 (Or.inl rfl) dX3_takeDigit_49 hf (fun h H locs hm hf S => ?_)
  refine lv_iconst (v := 0) X.1 X.2.1 dX3_takeDigit_52 (by decide) ?_
  cases hf; exact g_ri X S hr hlk dX3_takeDigit_53
def fX3_takeDigit_134 (k135 : Nat → Int32 → Nat → Hp → Option (Int32 × Hp)) (x0 : Nat) (y0 : Nat) (h : Hp) : Option (Int32 × Hp) := k135 x0 0 y0 h
theorem wfX3_takeDigit_134 {k135 : Nat → Int32 → Nat → Hp → Option (Int32 × Hp)} {r9 : Int32} {h9 : Hp} (X : Cx p E A 8 R s m args c cX3_takeDigit yX3_takeDigit.cls 2) (hr : meth.sig.returnType = (some .int)) (hlk : meth.locks = false) (hnm : meth.name = yX3_takeDigit.name) (hk135 : ∀ (x0 : Nat) (y0 : Int32) (y1 : Nat) (h : Hp) (H : Heap) (locs : List Loc) (ls : Array Slot), lv_has ls 2 [(0, rv x0)] → St E A s h H locs → k135 x0 y0 y1 h = some (r9, h9) → W p l e R s m args below meth c H locs 0 0 (MQ below (Qi E A h9 r9) args s 0 0 A) (F0 m 135 ls [.int y0, rv y1])) :
    ∀ (x0 : Nat) (y0 : Nat) (h : Hp) (H : Heap) (locs : List Loc) (ls : Array Slot), lv_has ls 2 [(0, rv x0)] → St E A s h H locs → fX3_takeDigit_134 k135 x0 y0 h = some (r9, h9) → W p l e R s m args below meth c H locs 0 0 (MQ below (Qi E A h9 r9) args s 0 0 A) (F0 m 134 ls [rv y0]) := by
  intro x0 y0 h H locs ls hl S hf
  unfold fX3_takeDigit_134 at hf
  refine lv_iconst (v := 0) X.1 X.2.1 dX3_takeDigit_134 (by decide) ?_
  exact hk135 _ _ _ _ _ _ _ hl S hf
def fX3_takeDigit_135 (x0 : Nat) (y0 : Int32) (y1 : Nat) (h : Hp) : Option (Int32 × Hp) := ob (pZ 3 y1 10 y0 h) fun h => ob (gI 3 x0 8 h) fun v1 => some ((v1 >>> ((4 : Int32) &&& 31)), h)
theorem wfX3_takeDigit_135 {r9 : Int32} {h9 : Hp} (X : Cx p E A 8 R s m args c cX3_takeDigit yX3_takeDigit.cls 2) (hr : meth.sig.returnType = (some .int)) (hlk : meth.locks = false) (hnm : meth.name = yX3_takeDigit.name) :
    ∀ (x0 : Nat) (y0 : Int32) (y1 : Nat) (h : Hp) (H : Heap) (locs : List Loc) (ls : Array Slot), lv_has ls 2 [(0, rv x0)] → St E A s h H locs → fX3_takeDigit_135 x0 y0 y1 h = some (r9, h9) → W p l e R s m args below meth c H locs 0 0 (MQ below (Qi E A h9 r9) args s 0 0 A) (F0 m 135 ls [.int y0, rv y1]) := by
  intro x0 y0 y1 h H locs ls hl S hf
  unfold fX3_takeDigit_135 at hf
  refine g_pZ X S fpX3_70 (Or.inl rfl) dX3_takeDigit_135 hf (fun h H locs hm hf S => ?_)
  refine g_aload_n X (or_rv _) dX3_takeDigit_138 rfl (lv_at hl 0 rfl) ?_
  refine g_gI X S foX3_36 rfl dX3_takeDigit_139 hf (fun v1 hf => ?_)
  refine lv_iconst (v := 4) X.1 X.2.1 dX3_takeDigit_142 (by decide) ?_
  refine lv_ishr X.1 X.2.1 dX3_takeDigit_143 ?_
  cases hf; exact g_ri X S hr hlk dX3_takeDigit_144
def fX3_takeDigit_108 (x0 : Nat) (x1 : Int32) (y0 : Int32) (y1 : Nat) (h : Hp) : Option (Int32 × Hp) := ob (pZ 3 y1 9 y0 h) fun h => if x1 ≤ 9 then fX3_takeDigit_134 fX3_takeDigit_135 x0 x0 h else if x1 = 11 then fX3_takeDigit_134 fX3_takeDigit_135 x0 x0 h else if x1 = 13 then fX3_takeDigit_134 fX3_takeDigit_135 x0 x0 h else fX3_takeDigit_135 x0 1 x0 h
theorem wfX3_takeDigit_108 {r9 : Int32} {h9 : Hp} (X : Cx p E A 8 R s m args c cX3_takeDigit yX3_takeDigit.cls 2) (hr : meth.sig.returnType = (some .int)) (hlk : meth.locks = false) (hnm : meth.name = yX3_takeDigit.name) :
    ∀ (x0 : Nat) (x1 : Int32) (y0 : Int32) (y1 : Nat) (h : Hp) (H : Heap) (locs : List Loc) (ls : Array Slot), lv_has ls 2 [(0, rv x0), (1, .int x1)] → St E A s h H locs → fX3_takeDigit_108 x0 x1 y0 y1 h = some (r9, h9) → W p l e R s m args below meth c H locs 0 0 (MQ below (Qi E A h9 r9) args s 0 0 A) (F0 m 108 ls [.int y0, rv y1]) := by
  intro x0 x1 y0 y1 h H locs ls hl S hf
  unfold fX3_takeDigit_108 at hf
  refine g_pZ X S fpX3_59 (Or.inl rfl) dX3_takeDigit_108 hf (fun h H locs hm hf S => ?_)
  refine g_aload_n X (or_rv _) dX3_takeDigit_111 rfl (lv_at hl 0 rfl) ?_
  refine lv_iload_n X.1 X.2.1 dX3_takeDigit_112 rfl (lv_at hl 1 rfl) ?_
  refine lv_bipush (v := 9) X.1 X.2.1 dX3_takeDigit_113 (by decide) ?_
  refine lv_icmp_le (tgt := 134) X.1 X.2.1 dX3_takeDigit_115 (by decide) (fun c1 => ?_) (fun c1 => ?_)
  · replace hf := (if_pos c1).symm.trans hf
    exact wfX3_takeDigit_134 X hr hlk hnm (wfX3_takeDigit_135 X hr hlk hnm) _ _ _ _ _ _ (lv_sub hl [0] rfl) S hf
  · replace hf := (if_neg c1).symm.trans hf
    refine lv_iload_n X.1 X.2.1 dX3_takeDigit_118 rfl (lv_at hl 1 rfl) ?_
    refine lv_bipush (v := 11) X.1 X.2.1 dX3_takeDigit_119 (by decide) ?_
    refine lv_icmp_eq (tgt := 134) X.1 X.2.1 dX3_takeDigit_121 (by decide) (fun c2 => ?_) (fun c2 => ?_)
    · replace hf := (if_pos c2).symm.trans hf
      exact wfX3_takeDigit_134 X hr hlk hnm (wfX3_takeDigit_135 X hr hlk hnm) _ _ _ _ _ _ (lv_sub hl [0] rfl) S hf
    · replace hf := (if_neg c2).symm.trans hf
      refine lv_iload_n X.1 X.2.1 dX3_takeDigit_124 rfl (lv_at hl 1 rfl) ?_
      refine lv_bipush (v := 13) X.1 X.2.1 dX3_takeDigit_125 (by decide) ?_
      refine lv_icmp_eq (tgt := 134) X.1 X.2.1 dX3_takeDigit_127 (by decide) (fun c3 => ?_) (fun c3 => ?_)
      · replace hf := (if_pos c3).symm.trans hf
        exact wfX3_takeDigit_134 X hr hlk hnm (wfX3_takeDigit_135 X hr hlk hnm) _ _ _ _ _ _ (lv_sub hl [0] rfl) S hf
      · replace hf := (if_neg c3).symm.trans hf
        refine lv_iconst (v := 1) X.1 X.2.1 dX3_takeDigit_130 (by decide) ?_
        refine lv_goto (tgt := 135) X.1 X.2.1 dX3_takeDigit_131 (by decide) ?_
        exact wfX3_takeDigit_135 X hr hlk hnm _ _ _ _ _ _ _ (lv_sub hl [0] rfl) S hf
def fX3_takeDigit (a0 : Nat) (h : Hp) : Option (Int32 × Hp) := gd 3 a0 h (ob (gI 3 a0 9 h) fun v1 => if v1 = 0 then ob (gI 3 a0 7 h) fun v3 => ob (pI 3 a0 7 (v3 + 1) h) fun h => ob (gI 3 a0 7 h) fun v4 => if v4 < 0 then fX3_takeDigit_47 a0 h else ob (gI 3 a0 7 h) fun v6 => if v6 < 256 then ob (gR 3 a0 4 h) fun v8 => ob (gR 9 v8 0 h) fun v9 => ob (gI 3 a0 7 h) fun v10 => ob (aI v9 v10 h) fun v11 => ob (pI 3 a0 8 v11 h) fun h => ob (gI 3 a0 8 h) fun v12 => if (v12 >>> ((4 : Int32) &&& 31)) ≤ 9 then ob (gI 3 a0 8 h) fun v14 => lt (v14 &&& (15 : Int32)) fun z15 => if 10 ≤ z15 then fX3_takeDigit_108 a0 z15 0 a0 h else fX3_takeDigit_108 a0 z15 1 a0 h else ob (pI 3 a0 6 4 h) fun h => some (0, h) else fX3_takeDigit_47 a0 h else ob (pZ 3 a0 9 0 h) fun h => ob (gI 3 a0 8 h) fun v17 => some ((v17 &&& (15 : Int32)), h))
theorem tkX3_takeDigit {a0 : Nat} {h : Hp} {r9 : Int32 × Hp} (e : fX3_takeDigit a0 h = some r9) : hK h a0 = 3 := by
  unfold fX3_takeDigit at e
  exact (gd_some e).1
theorem cX3_takeDigit_m (l : Launch) {E : EE} {A : Nat → Prop} {a0 : Nat} {h : Hp} {r9 : Int32} {h9 : Hp} (hf : fX3_takeDigit a0 h = some (r9, h9)) : Met l yX3_takeDigit (wsM yX3_takeDigit cX3_takeDigit 2 (some .int)) (rmm 8 0 0) (PcE E A h [rv a0]) (Qi E A h9 r9) 0 0 A := by
  refine met_of (by decide +kernel) (by simp [lg_sl, cat_rv, cat_wv, cat_sv, cat_i, cat_l, cat_a]) (fun p e s m args below meth c ls X hr hlk hnm S hl => ?_)
  have hl : lv_has ls 2 [(0, rv a0)] := by simpa [lv_args, cat_rv, cat_wv, cat_sv, cat_i, cat_l, cat_a] using hl
  generalize hH : s.heap = H at S ⊢
  generalize hlo : ([] : List Loc) = locs at S ⊢
  clear hH hlo
  unfold fX3_takeDigit at hf
  obtain ⟨hth, hf⟩ := gd_some hf
  refine g_aload_n X (or_rv _) dX3_takeDigit_0 rfl (lv_at hl 0 rfl) ?_
  refine g_gI X S foX3_59 rfl dX3_takeDigit_1 hf (fun v1 hf => ?_)
  refine lv_if_eq (tgt := 20) X.1 X.2.1 dX3_takeDigit_4 (by decide) (fun c2 => ?_) (fun c2 => ?_)
  · replace hf := (if_pos c2).symm.trans hf
    refine g_aload_n X (or_rv _) dX3_takeDigit_20 rfl (lv_at hl 0 rfl) ?_
    refine lv_dup X.1 X.2.1 dX3_takeDigit_21 (cat_rv _) ?_
    refine g_gI X S foX3_32 rfl dX3_takeDigit_22 hf (fun v3 hf => ?_)
    refine lv_iconst (v := 1) X.1 X.2.1 dX3_takeDigit_25 (by decide) ?_
    refine lv_iadd X.1 X.2.1 dX3_takeDigit_26 ?_
    refine g_pI X S fpX3_32 (Or.inl rfl) dX3_takeDigit_27 hf (fun h H locs hm hf S => ?_)
    refine g_aload_n X (or_rv _) dX3_takeDigit_30 rfl (lv_at hl 0 rfl) ?_
    refine g_gI X S foX3_32 rfl dX3_takeDigit_31 hf (fun v4 hf => ?_)
    refine lv_if_lt (tgt := 47) X.1 X.2.1 dX3_takeDigit_34 (by decide) (fun c5 => ?_) (fun c5 => ?_)
    · replace hf := (if_pos c5).symm.trans hf
      exact wfX3_takeDigit_47 X hr hlk hnm _ _ _ _ _ hl S hf
    · replace hf := (if_neg c5).symm.trans hf
      refine g_aload_n X (or_rv _) dX3_takeDigit_37 rfl (lv_at hl 0 rfl) ?_
      refine g_gI X S foX3_32 rfl dX3_takeDigit_38 hf (fun v6 hf => ?_)
      refine lv_sipush (v := 256) X.1 X.2.1 dX3_takeDigit_41 (by decide) ?_
      refine lv_icmp_lt (tgt := 54) X.1 X.2.1 dX3_takeDigit_44 (by decide) (fun c7 => ?_) (fun c7 => ?_)
      · replace hf := (if_pos c7).symm.trans hf
        refine g_aload_n X (or_rv _) dX3_takeDigit_54 rfl (lv_at hl 0 rfl) ?_
        refine g_aload_n X (or_rv _) dX3_takeDigit_55 rfl (lv_at hl 0 rfl) ?_
        refine g_gR X S foX3_28 dX3_takeDigit_56 hf (fun v8 hf => ?_)
        refine g_gR X S foX3_91 dX3_takeDigit_59 hf (fun v9 hf => ?_)
        refine g_aload_n X (or_rv _) dX3_takeDigit_62 rfl (lv_at hl 0 rfl) ?_
        refine g_gI X S foX3_32 rfl dX3_takeDigit_63 hf (fun v10 hf => ?_)
        refine g_aI X S dX3_takeDigit_66 hf (fun v11 hf => ?_)
        refine g_pI X S fpX3_36 (Or.inl rfl) dX3_takeDigit_67 hf (fun h H locs hm hf S => ?_)
        refine g_aload_n X (or_rv _) dX3_takeDigit_70 rfl (lv_at hl 0 rfl) ?_
        refine g_gI X S foX3_36 rfl dX3_takeDigit_71 hf (fun v12 hf => ?_)
        refine lv_iconst (v := 4) X.1 X.2.1 dX3_takeDigit_74 (by decide) ?_
        refine lv_ishr X.1 X.2.1 dX3_takeDigit_75 ?_
        refine lv_bipush (v := 9) X.1 X.2.1 dX3_takeDigit_76 (by decide) ?_
        refine lv_icmp_le (tgt := 88) X.1 X.2.1 dX3_takeDigit_78 (by decide) (fun c13 => ?_) (fun c13 => ?_)
        · replace hf := (if_pos c13).symm.trans hf
          refine g_aload_n X (or_rv _) dX3_takeDigit_88 rfl (lv_at hl 0 rfl) ?_
          refine g_gI X S foX3_36 rfl dX3_takeDigit_89 hf (fun v14 hf => ?_)
          refine lv_bipush (v := 15) X.1 X.2.1 dX3_takeDigit_92 (by decide) ?_
          refine lv_iand X.1 X.2.1 dX3_takeDigit_94 ?_
          refine g_lti hf (fun z15 hf => ?_)
          refine lv_istore_n (i := 1) (lv' := [(1, .int z15), (0, rv a0)]) X.1 X.2.1 dX3_takeDigit_95 rfl hl (by decide) (by simp [List.filter, cat_rv, cat_wv, cat_sv]) (fun ls hl => ?_)
          refine g_aload_n X (or_rv _) dX3_takeDigit_96 rfl (lv_at hl 1 rfl) ?_
          refine lv_iload_n X.1 X.2.1 dX3_takeDigit_97 rfl (lv_at hl 0 rfl) ?_
          refine lv_bipush (v := 10) X.1 X.2.1 dX3_takeDigit_98 (by decide) ?_
          refine lv_icmp_ge (tgt := 107) X.1 X.2.1 dX3_takeDigit_100 (by decide) (fun c16 => ?_) (fun c16 => ?_)
          · replace hf := (if_pos c16).symm.trans hf
            refine lv_iconst (v := 0) X.1 X.2.1 dX3_takeDigit_107 (by decide) ?_
            exact wfX3_takeDigit_108 X hr hlk hnm _ _ _ _ _ _ _ _ (lv_sub hl [1, 0] rfl) S hf
          · replace hf := (if_neg c16).symm.trans hf
            refine lv_iconst (v := 1) X.1 X.2.1 dX3_takeDigit_103 (by decide) ?_
            refine lv_goto (tgt := 108) X.1 X.2.1 dX3_takeDigit_104 (by decide) ?_
            exact wfX3_takeDigit_108 X hr hlk hnm _ _ _ _ _ _ _ _ (lv_sub hl [1, 0] rfl) S hf
        · replace hf := (if_neg c13).symm.trans hf
          refine g_aload_n X (or_rv _) dX3_takeDigit_81 rfl (lv_at hl 0 rfl) ?_
          refine lv_iconst (v := 4) X.1 X.2.1 dX3_takeDigit_82 (by decide) ?_
          refine g_pI X S fpX3_56 (Or.inl rfl) dX3_takeDigit_83 hf (fun h H locs hm hf S => ?_)
          refine lv_iconst (v := 0) X.1 X.2.1 dX3_takeDigit_86 (by decide) ?_
          cases hf; exact g_ri X S hr hlk dX3_takeDigit_87
      · replace hf := (if_neg c7).symm.trans hf
        exact wfX3_takeDigit_47 X hr hlk hnm _ _ _ _ _ hl S hf
  · replace hf := (if_neg c2).symm.trans hf
    refine g_aload_n X (or_rv _) dX3_takeDigit_7 rfl (lv_at hl 0 rfl) ?_
    refine lv_iconst (v := 0) X.1 X.2.1 dX3_takeDigit_8 (by decide) ?_
    refine g_pZ X S fpX3_59 (Or.inl rfl) dX3_takeDigit_9 hf (fun h H locs hm hf S => ?_)
    refine g_aload_n X (or_rv _) dX3_takeDigit_12 rfl (lv_at hl 0 rfl) ?_
    refine g_gI X S foX3_36 rfl dX3_takeDigit_13 hf (fun v17 hf => ?_)
    refine lv_bipush (v := 15) X.1 X.2.1 dX3_takeDigit_16 (by decide) ?_
    refine lv_iand X.1 X.2.1 dX3_takeDigit_18 ?_
    cases hf; exact g_ri X S hr hlk dX3_takeDigit_19
def fX3_editByte_40 (k45 : Nat → Int32 → Int32 → Int32 → Int32 → Nat → Hp → Option (Hp)) (x0 : Nat) (x1 : Int32) (x2 : Int32) (x3 : Int32) (y0 : Nat) (h : Hp) : Option (Hp) := k45 x0 x1 x2 x3 1 y0 h
theorem wfX3_editByte_40 {k45 : Nat → Int32 → Int32 → Int32 → Int32 → Nat → Hp → Option (Hp)} {h9 : Hp} (X : Cx p E A 9 R s m args c cX3_editByte yX3_editByte.cls 4) (hr : meth.sig.returnType = none) (hlk : meth.locks = false) (hnm : meth.name = yX3_editByte.name) (hk45 : ∀ (x0 : Nat) (x1 : Int32) (x2 : Int32) (x3 : Int32) (y0 : Int32) (y1 : Nat) (h : Hp) (H : Heap) (locs : List Loc) (ls : Array Slot), lv_has ls 4 [(0, rv x0), (1, .int x1), (2, .int x2), (3, .int x3)] → St E A s h H locs → k45 x0 x1 x2 x3 y0 y1 h = some h9 → W p l e R s m args below meth c H locs 0 0 (MQ below (Qv E A h9) args s 0 0 A) (F0 m 45 ls [.int y0, rv y1])) :
    ∀ (x0 : Nat) (x1 : Int32) (x2 : Int32) (x3 : Int32) (y0 : Nat) (h : Hp) (H : Heap) (locs : List Loc) (ls : Array Slot), lv_has ls 4 [(0, rv x0), (1, .int x1), (2, .int x2), (3, .int x3)] → St E A s h H locs → fX3_editByte_40 k45 x0 x1 x2 x3 y0 h = some h9 → W p l e R s m args below meth c H locs 0 0 (MQ below (Qv E A h9) args s 0 0 A) (F0 m 40 ls [rv y0]) := by
  intro x0 x1 x2 x3 y0 h H locs ls hl S hf
  unfold fX3_editByte_40 at hf
  refine lv_iconst (v := 1) X.1 X.2.1 dX3_editByte_40 (by decide) ?_
  refine lv_goto (tgt := 45) X.1 X.2.1 dX3_editByte_41 (by decide) ?_
  exact hk45 _ _ _ _ _ _ _ _ _ _ hl S hf
def fX3_editByte_64 (k68 : Nat → Int32 → Int32 → Int32 → Int32 → Nat → Hp → Option (Hp)) (x0 : Nat) (x1 : Int32) (x2 : Int32) (x3 : Int32) (y0 : Nat) (h : Hp) : Option (Hp) := ob (gI 3 x0 13 h) fun v1 => k68 x0 x1 x2 x3 v1 y0 h
theorem wfX3_editByte_64 {k68 : Nat → Int32 → Int32 → Int32 → Int32 → Nat → Hp → Option (Hp)} {h9 : Hp} (X : Cx p E A 9 R s m args c cX3_editByte yX3_editByte.cls 4) (hr : meth.sig.returnType = none) (hlk : meth.locks = false) (hnm : meth.name = yX3_editByte.name) (hk68 : ∀ (x0 : Nat) (x1 : Int32) (x2 : Int32) (x3 : Int32) (y0 : Int32) (y1 : Nat) (h : Hp) (H : Heap) (locs : List Loc) (ls : Array Slot), lv_has ls 4 [(0, rv x0), (1, .int x1), (2, .int x2), (3, .int x3)] → St E A s h H locs → k68 x0 x1 x2 x3 y0 y1 h = some h9 → W p l e R s m args below meth c H locs 0 0 (MQ below (Qv E A h9) args s 0 0 A) (F0 m 68 ls [.int y0, rv y1])) :
    ∀ (x0 : Nat) (x1 : Int32) (x2 : Int32) (x3 : Int32) (y0 : Nat) (h : Hp) (H : Heap) (locs : List Loc) (ls : Array Slot), lv_has ls 4 [(0, rv x0), (1, .int x1), (2, .int x2), (3, .int x3)] → St E A s h H locs → fX3_editByte_64 k68 x0 x1 x2 x3 y0 h = some h9 → W p l e R s m args below meth c H locs 0 0 (MQ below (Qv E A h9) args s 0 0 A) (F0 m 64 ls [rv y0]) := by
  intro x0 x1 x2 x3 y0 h H locs ls hl S hf
  unfold fX3_editByte_64 at hf
  refine g_aload_n X (or_rv _) dX3_editByte_64 rfl (lv_at hl 0 rfl) ?_
  refine g_gI X S foX3_46 rfl dX3_editByte_65 hf (fun v1 hf => ?_)
  exact hk68 _ _ _ _ _ _ _ _ _ _ hl S hf
def fX3_editByte_68 (k85 : Nat → Int32 → Int32 → Int32 → Hp → Option (Hp)) (x0 : Nat) (x1 : Int32) (x2 : Int32) (x3 : Int32) (y0 : Int32) (y1 : Nat) (h : Hp) : Option (Hp) := ob (pI 3 y1 13 y0 h) fun h => k85 x0 x1 x2 x3 h
theorem wfX3_editByte_68 {k85 : Nat → Int32 → Int32 → Int32 → Hp → Option (Hp)} {h9 : Hp} (X : Cx p E A 9 R s m args c cX3_editByte yX3_editByte.cls 4) (hr : meth.sig.returnType = none) (hlk : meth.locks = false) (hnm : meth.name = yX3_editByte.name) (hk85 : ∀ (x0 : Nat) (x1 : Int32) (x2 : Int32) (x3 : Int32) (h : Hp) (H : Heap) (locs : List Loc) (ls : Array Slot), lv_has ls 4 [(0, rv x0), (1, .int x1), (2, .int x2), (3, .int x3)] → St E A s h H locs → k85 x0 x1 x2 x3 h = some h9 → W p l e R s m args below meth c H locs 0 0 (MQ below (Qv E A h9) args s 0 0 A) (F0 m 85 ls [])) :
    ∀ (x0 : Nat) (x1 : Int32) (x2 : Int32) (x3 : Int32) (y0 : Int32) (y1 : Nat) (h : Hp) (H : Heap) (locs : List Loc) (ls : Array Slot), lv_has ls 4 [(0, rv x0), (1, .int x1), (2, .int x2), (3, .int x3)] → St E A s h H locs → fX3_editByte_68 k85 x0 x1 x2 x3 y0 y1 h = some h9 → W p l e R s m args below meth c H locs 0 0 (MQ below (Qv E A h9) args s 0 0 A) (F0 m 68 ls [.int y0, rv y1]) := by
  intro x0 x1 x2 x3 y0 y1 h H locs ls hl S hf
  unfold fX3_editByte_68 at hf
  refine g_pI X S fpX3_46 (Or.inl rfl) dX3_editByte_68 hf (fun h H locs hm hf S => ?_)
  refine lv_goto (tgt := 85) X.1 X.2.1 dX3_editByte_71 (by decide) ?_
  exact hk85 _ _ _ _ _ _ _ _ hl S hf
def fX3_editByte_45 (k85 : Nat → Int32 → Int32 → Int32 → Hp → Option (Hp)) (x0 : Nat) (x1 : Int32) (x2 : Int32) (x3 : Int32) (y0 : Int32) (y1 : Nat) (h : Hp) : Option (Hp) := ob (pZ 3 y1 12 y0 h) fun h => if x3 = 0 then fX3_editByte_64 (fX3_editByte_68 k85) x0 x1 x2 x3 x0 h else ob (gI 3 x0 11 h) fun v2 => if v2 = 0 then fX3_editByte_68 k85 x0 x1 x2 x3 x1 x0 h else fX3_editByte_64 (fX3_editByte_68 k85) x0 x1 x2 x3 x0 h
theorem wfX3_editByte_45 {k85 : Nat → Int32 → Int32 → Int32 → Hp → Option (Hp)} {h9 : Hp} (X : Cx p E A 9 R s m args c cX3_editByte yX3_editByte.cls 4) (hr : meth.sig.returnType = none) (hlk : meth.locks = false) (hnm : meth.name = yX3_editByte.name) (hk85 : ∀ (x0 : Nat) (x1 : Int32) (x2 : Int32) (x3 : Int32) (h : Hp) (H : Heap) (locs : List Loc) (ls : Array Slot), lv_has ls 4 [(0, rv x0), (1, .int x1), (2, .int x2), (3, .int x3)] → St E A s h H locs → k85 x0 x1 x2 x3 h = some h9 → W p l e R s m args below meth c H locs 0 0 (MQ below (Qv E A h9) args s 0 0 A) (F0 m 85 ls [])) :
    ∀ (x0 : Nat) (x1 : Int32) (x2 : Int32) (x3 : Int32) (y0 : Int32) (y1 : Nat) (h : Hp) (H : Heap) (locs : List Loc) (ls : Array Slot), lv_has ls 4 [(0, rv x0), (1, .int x1), (2, .int x2), (3, .int x3)] → St E A s h H locs → fX3_editByte_45 k85 x0 x1 x2 x3 y0 y1 h = some h9 → W p l e R s m args below meth c H locs 0 0 (MQ below (Qv E A h9) args s 0 0 A) (F0 m 45 ls [.int y0, rv y1]) := by
  intro x0 x1 x2 x3 y0 y1 h H locs ls hl S hf
  unfold fX3_editByte_45 at hf
  refine g_pZ X S fpX3_39 (Or.inl rfl) dX3_editByte_45 hf (fun h H locs hm hf S => ?_)
  refine g_aload_n X (or_rv _) dX3_editByte_48 rfl (lv_at hl 0 rfl) ?_
  refine lv_iload_n X.1 X.2.1 dX3_editByte_49 rfl (lv_at hl 3 rfl) ?_
  refine lv_if_eq (tgt := 64) X.1 X.2.1 dX3_editByte_50 (by decide) (fun c1 => ?_) (fun c1 => ?_)
  · replace hf := (if_pos c1).symm.trans hf
    exact wfX3_editByte_64 X hr hlk hnm (wfX3_editByte_68 X hr hlk hnm hk85) _ _ _ _ _ _ _ _ _ hl S hf
  · replace hf := (if_neg c1).symm.trans hf
    refine g_aload_n X (or_rv _) dX3_editByte_53 rfl (lv_at hl 0 rfl) ?_
    refine g_gI X S foX3_43 rfl dX3_editByte_54 hf (fun v2 hf => ?_)
    refine lv_if_ne (tgt := 64) X.1 X.2.1 dX3_editByte_57 (by decide) (fun c3 => ?_) (fun c3 => ?_)
    · replace hf := (if_neg c3).symm.trans hf
      exact wfX3_editByte_64 X hr hlk hnm (wfX3_editByte_68 X hr hlk hnm hk85) _ _ _ _ _ _ _ _ _ hl S hf
    · replace hf := (if_pos c3).symm.trans hf
      refine lv_iload_n X.1 X.2.1 dX3_editByte_60 rfl (lv_at hl 1 rfl) ?_
      refine lv_goto (tgt := 68) X.1 X.2.1 dX3_editByte_61 (by decide) ?_
      exact wfX3_editByte_68 X hr hlk hnm hk85 _ _ _ _ _ _ _ _ _ _ hl S hf
def fX3_editByte_85 (x0 : Nat) (x1 : Int32) (x2 : Int32) (x3 : Int32) (h : Hp) : Option (Hp) := ob (gR 3 x0 4 h) fun v1 => ob (gI 3 x0 5 h) fun v2 => ob (gI 3 x0 11 h) fun v3 => ob (fX3_laid x2 v2 v3 x3) fun v4 => ob (fX10_put v1 x1 v4 h) fun h => ob (gI 3 x0 11 h) fun v6 => ob (gI 3 x0 10 h) fun v7 => ob (fX3_seenBehind x2 v6 x3 v7) fun v8 => ob (pZ 3 x0 11 v8 h) fun h => some h
theorem wfX3_editByte_85 {h9 : Hp} (X : Cx p E A 9 R s m args c cX3_editByte yX3_editByte.cls 4) (hr : meth.sig.returnType = none) (hlk : meth.locks = false) (hnm : meth.name = yX3_editByte.name) :
    ∀ (x0 : Nat) (x1 : Int32) (x2 : Int32) (x3 : Int32) (h : Hp) (H : Heap) (locs : List Loc) (ls : Array Slot), lv_has ls 4 [(0, rv x0), (1, .int x1), (2, .int x2), (3, .int x3)] → St E A s h H locs → fX3_editByte_85 x0 x1 x2 x3 h = some h9 → W p l e R s m args below meth c H locs 0 0 (MQ below (Qv E A h9) args s 0 0 A) (F0 m 85 ls []) := by
  intro x0 x1 x2 x3 h H locs ls hl S hf
  unfold fX3_editByte_85 at hf
  refine g_aload_n X (or_rv _) dX3_editByte_85 rfl (lv_at hl 0 rfl) ?_
  refine g_gR X S foX3_28 dX3_editByte_86 hf (fun v1 hf => ?_)
  refine lv_iload_n X.1 X.2.1 dX3_editByte_89 rfl (lv_at hl 1 rfl) ?_
  refine lv_iload_n X.1 X.2.1 dX3_editByte_90 rfl (lv_at hl 2 rfl) ?_
  refine g_aload_n X (or_rv _) dX3_editByte_91 rfl (lv_at hl 0 rfl) ?_
  refine g_gI X S foX3_53 rfl dX3_editByte_92 hf (fun v2 hf => ?_)
  refine g_aload_n X (or_rv _) dX3_editByte_95 rfl (lv_at hl 0 rfl) ?_
  refine g_gI X S foX3_43 rfl dX3_editByte_96 hf (fun v3 hf => ?_)
  refine lv_iload_n X.1 X.2.1 dX3_editByte_99 rfl (lv_at hl 3 rfl) ?_
  obtain ⟨v4, hc, hf⟩ := ob_some hf
  refine g_ci S (runS (As := [.int x2, .int v2, .int v3, .int x3]) (rest := [.int x1, rv v1]) X S coX3_81 (by decide) (cX3_laid_m l hc) rfl hl.1 (by simp [cat_rv, cat_wv, cat_sv, cat_i, cat_l, cat_a]) rfl ⟨Nat.zero_le _, Nat.zero_le _⟩ dX3_editByte_100) (fun H locs S => ?_)
  obtain ⟨h, hc, hf⟩ := ob_some hf
  refine g_cv S (runV (As := [.int x1, .int v4]) (rest := []) X S coX3_66 (by decide) (cX10_put_m l hc) (tkX10_put hc) rfl hl.1 (by decide) rfl ⟨Nat.zero_le _, Nat.zero_le _⟩ dX3_editByte_103) (fun H locs S => ?_)
  refine g_aload_n X (or_rv _) dX3_editByte_106 rfl (lv_at hl 0 rfl) ?_
  refine lv_iload_n X.1 X.2.1 dX3_editByte_107 rfl (lv_at hl 2 rfl) ?_
  refine g_aload_n X (or_rv _) dX3_editByte_108 rfl (lv_at hl 0 rfl) ?_
  refine g_gI X S foX3_43 rfl dX3_editByte_109 hf (fun v6 hf => ?_)
  refine lv_iload_n X.1 X.2.1 dX3_editByte_112 rfl (lv_at hl 3 rfl) ?_
  refine g_aload_n X (or_rv _) dX3_editByte_113 rfl (lv_at hl 0 rfl) ?_
  refine g_gI X S foX3_70 rfl dX3_editByte_114 hf (fun v7 hf => ?_)
  obtain ⟨v8, hc, hf⟩ := ob_some hf
  refine g_ci S (runS (As := [.int x2, .int v6, .int x3, .int v7]) (rest := [rv x0]) X S coX3_85 (by decide) (cX3_seenBehind_m l hc) rfl hl.1 (by simp [cat_rv, cat_wv, cat_sv, cat_i, cat_l, cat_a]) rfl ⟨Nat.zero_le _, Nat.zero_le _⟩ dX3_editByte_117) (fun H locs S => ?_)
  refine g_pZ X S fpX3_43 (Or.inl rfl) dX3_editByte_120 hf (fun h H locs hm hf S => ?_)
  cases hf; exact g_rv X S hr hlk dX3_editByte_123
def fX3_editByte (a0 : Nat) (a1 : Int32) (h : Hp) : Option (Hp) := gd 3 a0 h (ob (gR 3 a0 4 h) fun v1 => ob (fX10_cell v1 a1 h) fun v2 => ob (pZ 3 a0 10 0 h) fun h => ob (fX3_takesDigit v2) fun v3 => if v3 = 0 then if v2 = 34 then ob (pZ 3 a0 12 0 h) fun h => fX3_editByte_85 a0 a1 v2 0 h else fX3_editByte_85 a0 a1 v2 0 h else ob2 (fX3_takeDigit a0 h) fun v6 h => ob (gI 3 a0 12 h) fun v7 => if v7 = 0 then if v6 = 0 then fX3_editByte_45 fX3_editByte_85 a0 a1 v2 v6 0 a0 h else fX3_editByte_40 (fX3_editByte_45 fX3_editByte_85) a0 a1 v2 v6 a0 h else fX3_editByte_40 (fX3_editByte_45 fX3_editByte_85) a0 a1 v2 v6 a0 h)
theorem tkX3_editByte {a0 : Nat} {a1 : Int32} {h : Hp} {r9 : Hp} (e : fX3_editByte a0 a1 h = some r9) : hK h a0 = 3 := by
  unfold fX3_editByte at e
  exact (gd_some e).1
theorem cX3_editByte_m (l : Launch) {E : EE} {A : Nat → Prop} {a0 : Nat} {a1 : Int32} {h : Hp} {h9 : Hp} (hf : fX3_editByte a0 a1 h = some h9) : Met l yX3_editByte (wsM yX3_editByte cX3_editByte 4 none) (rmm 9 0 0) (PcE E A h [rv a0, .int a1]) (Qv E A h9) 0 0 A := by
  refine met_of (by decide +kernel) (by simp [lg_sl, cat_rv, cat_wv, cat_sv, cat_i, cat_l, cat_a]) (fun p e s m args below meth c ls X hr hlk hnm S hl => ?_)
  have hl : lv_has ls 4 [(0, rv a0), (1, .int a1)] := by simpa [lv_args, cat_rv, cat_wv, cat_sv, cat_i, cat_l, cat_a] using hl
  generalize hH : s.heap = H at S ⊢
  generalize hlo : ([] : List Loc) = locs at S ⊢
  clear hH hlo
  unfold fX3_editByte at hf
  obtain ⟨hth, hf⟩ := gd_some hf
  refine g_aload_n X (or_rv _) dX3_editByte_0 rfl (lv_at hl 0 rfl) ?_
  refine g_gR X S foX3_28 dX3_editByte_1 hf (fun v1 hf => ?_)
  refine lv_iload_n X.1 X.2.1 dX3_editByte_4 rfl (lv_at hl 1 rfl) ?_
  obtain ⟨v2, hc, hf⟩ := ob_some hf
  refine g_ci S (runV (As := [.int a1]) (rest := []) X S coX3_49 (by decide) (cX10_cell_m l hc) (tkX10_cell hc) rfl hl.1 (by decide) rfl ⟨Nat.zero_le _, Nat.zero_le _⟩ dX3_editByte_5) (fun H locs S => ?_)
  refine lv_istore_n (i := 2) (lv' := [(2, .int v2), (0, rv a0), (1, .int a1)]) X.1 X.2.1 dX3_editByte_8 rfl hl (by decide) rfl (fun ls hl => ?_)
  refine lv_iconst (v := 0) X.1 X.2.1 dX3_editByte_9 (by decide) ?_
  refine lv_istore_n (i := 3) (lv' := [(3, .int 0), (2, .int v2), (0, rv a0), (1, .int a1)]) X.1 X.2.1 dX3_editByte_10 rfl hl (by decide) rfl (fun ls hl => ?_)
  refine g_aload_n X (or_rv _) dX3_editByte_11 rfl (lv_at hl 2 rfl) ?_
  refine lv_iconst (v := 0) X.1 X.2.1 dX3_editByte_12 (by decide) ?_
  refine g_pZ X S fpX3_70 (Or.inl rfl) dX3_editByte_13 hf (fun h H locs hm hf S => ?_)
  refine lv_iload_n X.1 X.2.1 dX3_editByte_16 rfl (lv_at hl 1 rfl) ?_
  obtain ⟨v3, hc, hf⟩ := ob_some hf
  refine g_ci S (runS (As := [.int v2]) (rest := []) X S coX3_73 (by decide) (cX3_takesDigit_m l hc) rfl hl.1 (by decide) rfl ⟨Nat.zero_le _, Nat.zero_le _⟩ dX3_editByte_17) (fun H locs S => ?_)
  refine lv_if_eq (tgt := 74) X.1 X.2.1 dX3_editByte_20 (by decide) (fun c4 => ?_) (fun c4 => ?_)
  · replace hf := (if_pos c4).symm.trans hf
    refine lv_iload_n X.1 X.2.1 dX3_editByte_74 rfl (lv_at hl 1 rfl) ?_
    refine lv_bipush (v := 34) X.1 X.2.1 dX3_editByte_75 (by decide) ?_
    refine lv_icmp_ne (tgt := 85) X.1 X.2.1 dX3_editByte_77 (by decide) (fun c5 => ?_) (fun c5 => ?_)
    · replace hf := (if_neg c5).symm.trans hf
      exact wfX3_editByte_85 X hr hlk hnm _ _ _ _ _ _ _ _ (lv_sub hl [2, 3, 1, 0] rfl) S hf
    · replace hf := (if_pos c5).symm.trans hf
      refine g_aload_n X (or_rv _) dX3_editByte_80 rfl (lv_at hl 2 rfl) ?_
      refine lv_iconst (v := 0) X.1 X.2.1 dX3_editByte_81 (by decide) ?_
      refine g_pZ X S fpX3_39 (Or.inl rfl) dX3_editByte_82 hf (fun h H locs hm hf S => ?_)
      exact wfX3_editByte_85 X hr hlk hnm _ _ _ _ _ _ _ _ (lv_sub hl [2, 3, 1, 0] rfl) S hf
  · replace hf := (if_neg c4).symm.trans hf
    refine g_aload_n X (or_rv _) dX3_editByte_23 rfl (lv_at hl 2 rfl) ?_
    obtain ⟨v6, h, hc, hf⟩ := ob2_some hf
    refine g_ci S (runV (As := []) (rest := []) X S coX3_77 (by decide) (cX3_takeDigit_m l hc) (tkX3_takeDigit hc) rfl hl.1 (by decide) rfl ⟨Nat.zero_le _, Nat.zero_le _⟩ dX3_editByte_24) (fun H locs S => ?_)
    refine lv_istore_n (i := 3) (lv' := [(3, .int v6), (2, .int v2), (0, rv a0), (1, .int a1)]) X.1 X.2.1 dX3_editByte_27 rfl hl (by decide) rfl (fun ls hl => ?_)
    refine g_aload_n X (or_rv _) dX3_editByte_28 rfl (lv_at hl 2 rfl) ?_
    refine g_aload_n X (or_rv _) dX3_editByte_29 rfl (lv_at hl 2 rfl) ?_
    refine g_gI X S foX3_39 rfl dX3_editByte_30 hf (fun v7 hf => ?_)
    refine lv_if_ne (tgt := 40) X.1 X.2.1 dX3_editByte_33 (by decide) (fun c8 => ?_) (fun c8 => ?_)
    · replace hf := (if_neg c8).symm.trans hf
      exact wfX3_editByte_40 X hr hlk hnm (wfX3_editByte_45 X hr hlk hnm (wfX3_editByte_85 X hr hlk hnm)) _ _ _ _ _ _ _ _ _ (lv_sub hl [2, 3, 1, 0] rfl) S hf
    · replace hf := (if_pos c8).symm.trans hf
      refine lv_iload_n X.1 X.2.1 dX3_editByte_36 rfl (lv_at hl 0 rfl) ?_
      refine lv_if_eq (tgt := 44) X.1 X.2.1 dX3_editByte_37 (by decide) (fun c9 => ?_) (fun c9 => ?_)
      · replace hf := (if_pos c9).symm.trans hf
        refine lv_iconst (v := 0) X.1 X.2.1 dX3_editByte_44 (by decide) ?_
        exact wfX3_editByte_45 X hr hlk hnm (wfX3_editByte_85 X hr hlk hnm) _ _ _ _ _ _ _ _ _ _ (lv_sub hl [2, 3, 1, 0] rfl) S hf
      · replace hf := (if_neg c9).symm.trans hf
        exact wfX3_editByte_40 X hr hlk hnm (wfX3_editByte_45 X hr hlk hnm (wfX3_editByte_85 X hr hlk hnm)) _ _ _ _ _ _ _ _ _ (lv_sub hl [2, 3, 1, 0] rfl) S hf
def fX3_edit_123 (k123 : Nat → Int32 → Int32 → Int32 → Hp → Option (Int32 × Hp)) (x0 : Nat) (x2 : Int32) (x3 : Int32) (x5 : Int32) (h : Hp) : Option (Int32 × Hp) := if x3 ≤ x5 then ob (gI 3 x0 6 h) fun v2 => some (v2, h) else if 64 ≤ x5 then ob (gI 3 x0 6 h) fun v4 => some (v4, h) else ob (gI 3 x0 6 h) fun v5 => if v5 = 0 then ob (gI 3 x0 6 h) fun v7 => some (v7, h) else ob (gR 3 x0 4 h) fun v8 => ob (gR 3 x0 0 h) fun v9 => ob (aI v9 x5 h) fun v10 => ob (fX10_put v8 (x2 + x5) v10 h) fun h => lt (x5 + 1) fun z12 => k123 x0 x2 x3 z12 h
theorem wfX3_edit_123 {k123 : Nat → Int32 → Int32 → Int32 → Hp → Option (Int32 × Hp)} {r9 : Int32} {h9 : Hp} (X : Cx p E A 10 R s m args c cX3_edit yX3_edit.cls 6) (hr : meth.sig.returnType = (some .int)) (hlk : meth.locks = false) (hnm : meth.name = yX3_edit.name) (hk123 : ∀ (x0 : Nat) (x2 : Int32) (x3 : Int32) (x5 : Int32) (h : Hp) (H : Heap) (locs : List Loc) (ls : Array Slot), lv_has ls 6 [(0, rv x0), (2, .int x2), (3, .int x3), (5, .int x5)] → St E A s h H locs → k123 x0 x2 x3 x5 h = some (r9, h9) → W p l e R s m args below meth c H locs 0 0 (MQ below (Qi E A h9 r9) args s 0 0 A) (F0 m 123 ls [])) :
    ∀ (x0 : Nat) (x2 : Int32) (x3 : Int32) (x5 : Int32) (h : Hp) (H : Heap) (locs : List Loc) (ls : Array Slot), lv_has ls 6 [(0, rv x0), (2, .int x2), (3, .int x3), (5, .int x5)] → St E A s h H locs → fX3_edit_123 k123 x0 x2 x3 x5 h = some (r9, h9) → W p l e R s m args below meth c H locs 0 0 (MQ below (Qi E A h9 r9) args s 0 0 A) (F0 m 123 ls []) := by
  intro x0 x2 x3 x5 h H locs ls hl S hf
  unfold fX3_edit_123 at hf
  refine lv_iload X.1 X.2.1 dX3_edit_123 (lv_at hl 3 rfl) ?_
  refine lv_iload_n X.1 X.2.1 dX3_edit_125 rfl (lv_at hl 2 rfl) ?_
  refine lv_icmp_ge (tgt := 167) X.1 X.2.1 dX3_edit_126 (by decide) (fun c1 => ?_) (fun c1 => ?_)
  · replace hf := (if_pos c1).symm.trans hf
    refine g_aload_n X (or_rv _) dX3_edit_167 rfl (lv_at hl 0 rfl) ?_
    refine g_gI X S foX3_56 rfl dX3_edit_168 hf (fun v2 hf => ?_)
    cases hf; exact g_ri X S hr hlk dX3_edit_171
  · replace hf := (if_neg c1).symm.trans hf
    refine lv_iload X.1 X.2.1 dX3_edit_129 (lv_at hl 3 rfl) ?_
    refine lv_bipush (v := 64) X.1 X.2.1 dX3_edit_131 (by decide) ?_
    refine lv_icmp_ge (tgt := 167) X.1 X.2.1 dX3_edit_133 (by decide) (fun c3 => ?_) (fun c3 => ?_)
    · replace hf := (if_pos c3).symm.trans hf
      refine g_aload_n X (or_rv _) dX3_edit_167 rfl (lv_at hl 0 rfl) ?_
      refine g_gI X S foX3_56 rfl dX3_edit_168 hf (fun v4 hf => ?_)
      cases hf; exact g_ri X S hr hlk dX3_edit_171
    · replace hf := (if_neg c3).symm.trans hf
      refine g_aload_n X (or_rv _) dX3_edit_136 rfl (lv_at hl 0 rfl) ?_
      refine g_gI X S foX3_56 rfl dX3_edit_137 hf (fun v5 hf => ?_)
      refine lv_if_eq (tgt := 167) X.1 X.2.1 dX3_edit_140 (by decide) (fun c6 => ?_) (fun c6 => ?_)
      · replace hf := (if_pos c6).symm.trans hf
        refine g_aload_n X (or_rv _) dX3_edit_167 rfl (lv_at hl 0 rfl) ?_
        refine g_gI X S foX3_56 rfl dX3_edit_168 hf (fun v7 hf => ?_)
        cases hf; exact g_ri X S hr hlk dX3_edit_171
      · replace hf := (if_neg c6).symm.trans hf
        refine g_aload_n X (or_rv _) dX3_edit_143 rfl (lv_at hl 0 rfl) ?_
        refine g_gR X S foX3_28 dX3_edit_144 hf (fun v8 hf => ?_)
        refine lv_iload_n X.1 X.2.1 dX3_edit_147 rfl (lv_at hl 1 rfl) ?_
        refine lv_iload X.1 X.2.1 dX3_edit_148 (lv_at hl 3 rfl) ?_
        refine lv_iadd X.1 X.2.1 dX3_edit_150 ?_
        refine g_aload_n X (or_rv _) dX3_edit_151 rfl (lv_at hl 0 rfl) ?_
        refine g_gR X S foX3_11 dX3_edit_152 hf (fun v9 hf => ?_)
        refine lv_iload X.1 X.2.1 dX3_edit_155 (lv_at hl 3 rfl) ?_
        refine g_aI X S dX3_edit_157 hf (fun v10 hf => ?_)
        obtain ⟨h, hc, hf⟩ := ob_some hf
        refine g_cv S (runV (As := [.int (x2 + x5), .int v10]) (rest := []) X S coX3_66 (by decide) (cX10_put_m l hc) (tkX10_put hc) rfl hl.1 (by decide) rfl ⟨Nat.zero_le _, Nat.zero_le _⟩ dX3_edit_158) (fun H locs S => ?_)
        obtain ⟨z12, ez12, hf⟩ := lt_some hf
        refine lv_iinc (v := z12) (lv' := [(5, .int z12), (0, rv x0), (2, .int x2), (3, .int x3)]) X.1 X.2.1 dX3_edit_161 hl (k := 3) rfl (by rw [← ez12]; rfl) (by decide) rfl (fun ls hl => ?_)
        refine lv_goto (tgt := 123) X.1 X.2.1 dX3_edit_164 (by decide) ?_
        exact hk123 _ _ _ _ _ _ _ _ (lv_sub hl [1, 2, 3, 0] rfl) S hf
theorem wfX3_edit_123_l {r9 : Int32} {h9 : Hp} (X : Cx p E A 10 R s m args c cX3_edit yX3_edit.cls 6) (hr : meth.sig.returnType = (some .int)) (hlk : meth.locks = false) (hnm : meth.name = yX3_edit.name) :
    ∀ (n : Nat) (x0 : Nat) (x2 : Int32) (x3 : Int32) (x5 : Int32) (h : Hp) (H : Heap) (locs : List Loc) (ls : Array Slot), lv_has ls 6 [(0, rv x0), (2, .int x2), (3, .int x3), (5, .int x5)] → St E A s h H locs → lp (fun _ _ _ _ _ => none) (fX3_edit_123) n x0 x2 x3 x5 h = some (r9, h9) → W p l e R s m args below meth c H locs 0 0 (MQ below (Qi E A h9 r9) args s 0 0 A) (F0 m 123 ls []) := by
  intro n
  induction n with
  | zero =>
    intro x0 x2 x3 x5 h H locs ls hl S hf
    exact nomatch hf
  | succ n ih =>
    intro x0 x2 x3 x5 h H locs ls hl S hf
    exact wfX3_edit_123 X hr hlk hnm ih x0 x2 x3 x5 h H locs ls hl S hf
def fX3_edit_93 (k93 : Nat → Int32 → Int32 → Int32 → Hp → Option (Int32 × Hp)) (x0 : Nat) (x2 : Int32) (x3 : Int32) (x5 : Int32) (h : Hp) : Option (Int32 × Hp) := if x3 ≤ x5 then lp (fun _ _ _ _ _ => none) (fX3_edit_123) FU x0 x2 x3 0 h else ob (gI 3 x0 6 h) fun v2 => if v2 = 0 then ob (fX3_editByte x0 (x2 + x5) h) fun h => lt (x5 + 1) fun z5 => k93 x0 x2 x3 z5 h else lp (fun _ _ _ _ _ => none) (fX3_edit_123) FU x0 x2 x3 0 h
theorem wfX3_edit_93 {k93 : Nat → Int32 → Int32 → Int32 → Hp → Option (Int32 × Hp)} {r9 : Int32} {h9 : Hp} (X : Cx p E A 10 R s m args c cX3_edit yX3_edit.cls 6) (hr : meth.sig.returnType = (some .int)) (hlk : meth.locks = false) (hnm : meth.name = yX3_edit.name) (hk93 : ∀ (x0 : Nat) (x2 : Int32) (x3 : Int32) (x5 : Int32) (h : Hp) (H : Heap) (locs : List Loc) (ls : Array Slot), lv_has ls 6 [(0, rv x0), (2, .int x2), (3, .int x3), (5, .int x5)] → St E A s h H locs → k93 x0 x2 x3 x5 h = some (r9, h9) → W p l e R s m args below meth c H locs 0 0 (MQ below (Qi E A h9 r9) args s 0 0 A) (F0 m 93 ls [])) :
    ∀ (x0 : Nat) (x2 : Int32) (x3 : Int32) (x5 : Int32) (h : Hp) (H : Heap) (locs : List Loc) (ls : Array Slot), lv_has ls 6 [(0, rv x0), (2, .int x2), (3, .int x3), (5, .int x5)] → St E A s h H locs → fX3_edit_93 k93 x0 x2 x3 x5 h = some (r9, h9) → W p l e R s m args below meth c H locs 0 0 (MQ below (Qi E A h9 r9) args s 0 0 A) (F0 m 93 ls []) := by
  intro x0 x2 x3 x5 h H locs ls hl S hf
  unfold fX3_edit_93 at hf
  refine lv_iload X.1 X.2.1 dX3_edit_93 (lv_at hl 3 rfl) ?_
  refine lv_iload_n X.1 X.2.1 dX3_edit_95 rfl (lv_at hl 2 rfl) ?_
  refine lv_icmp_ge (tgt := 120) X.1 X.2.1 dX3_edit_96 (by decide) (fun c1 => ?_) (fun c1 => ?_)
  · replace hf := (if_pos c1).symm.trans hf
    refine lv_iconst (v := 0) X.1 X.2.1 dX3_edit_120 (by decide) ?_
    refine lv_istore (lv' := [(5, .int 0), (0, rv x0), (2, .int x2), (3, .int x3)]) X.1 X.2.1 dX3_edit_121 hl (by decide) rfl (fun ls hl => ?_)
    exact wfX3_edit_123_l X hr hlk hnm FU _ _ _ _ _ _ _ _ (lv_sub hl [1, 2, 3, 0] rfl) S hf
  · replace hf := (if_neg c1).symm.trans hf
    refine g_aload_n X (or_rv _) dX3_edit_99 rfl (lv_at hl 0 rfl) ?_
    refine g_gI X S foX3_56 rfl dX3_edit_100 hf (fun v2 hf => ?_)
    refine lv_if_ne (tgt := 120) X.1 X.2.1 dX3_edit_103 (by decide) (fun c3 => ?_) (fun c3 => ?_)
    · replace hf := (if_neg c3).symm.trans hf
      refine lv_iconst (v := 0) X.1 X.2.1 dX3_edit_120 (by decide) ?_
      refine lv_istore (lv' := [(5, .int 0), (0, rv x0), (2, .int x2), (3, .int x3)]) X.1 X.2.1 dX3_edit_121 hl (by decide) rfl (fun ls hl => ?_)
      exact wfX3_edit_123_l X hr hlk hnm FU _ _ _ _ _ _ _ _ (lv_sub hl [1, 2, 3, 0] rfl) S hf
    · replace hf := (if_pos c3).symm.trans hf
      refine g_aload_n X (or_rv _) dX3_edit_106 rfl (lv_at hl 0 rfl) ?_
      refine lv_iload_n X.1 X.2.1 dX3_edit_107 rfl (lv_at hl 1 rfl) ?_
      refine lv_iload X.1 X.2.1 dX3_edit_108 (lv_at hl 3 rfl) ?_
      refine lv_iadd X.1 X.2.1 dX3_edit_110 ?_
      obtain ⟨h, hc, hf⟩ := ob_some hf
      refine g_cv S (runV (As := [.int (x2 + x5)]) (rest := []) X S coX3_62 (by decide) (cX3_editByte_m l hc) (tkX3_editByte hc) rfl hl.1 (by decide) rfl ⟨Nat.zero_le _, Nat.zero_le _⟩ dX3_edit_111) (fun H locs S => ?_)
      obtain ⟨z5, ez5, hf⟩ := lt_some hf
      refine lv_iinc (v := z5) (lv' := [(5, .int z5), (0, rv x0), (2, .int x2), (3, .int x3)]) X.1 X.2.1 dX3_edit_114 hl (k := 3) rfl (by rw [← ez5]; rfl) (by decide) rfl (fun ls hl => ?_)
      refine lv_goto (tgt := 93) X.1 X.2.1 dX3_edit_117 (by decide) ?_
      exact hk93 _ _ _ _ _ _ _ _ (lv_sub hl [1, 2, 3, 0] rfl) S hf
theorem wfX3_edit_93_l {r9 : Int32} {h9 : Hp} (X : Cx p E A 10 R s m args c cX3_edit yX3_edit.cls 6) (hr : meth.sig.returnType = (some .int)) (hlk : meth.locks = false) (hnm : meth.name = yX3_edit.name) :
    ∀ (n : Nat) (x0 : Nat) (x2 : Int32) (x3 : Int32) (x5 : Int32) (h : Hp) (H : Heap) (locs : List Loc) (ls : Array Slot), lv_has ls 6 [(0, rv x0), (2, .int x2), (3, .int x3), (5, .int x5)] → St E A s h H locs → lp (fun _ _ _ _ _ => none) (fX3_edit_93) n x0 x2 x3 x5 h = some (r9, h9) → W p l e R s m args below meth c H locs 0 0 (MQ below (Qi E A h9 r9) args s 0 0 A) (F0 m 93 ls []) := by
  intro n
  induction n with
  | zero =>
    intro x0 x2 x3 x5 h H locs ls hl S hf
    exact nomatch hf
  | succ n ih =>
    intro x0 x2 x3 x5 h H locs ls hl S hf
    exact wfX3_edit_93 X hr hlk hnm ih x0 x2 x3 x5 h H locs ls hl S hf
def fX3_edit_53 (k53 : Nat → Int32 → Int32 → Int32 → Hp → Option (Int32 × Hp)) (x0 : Nat) (x2 : Int32) (x3 : Int32) (x5 : Int32) (h : Hp) : Option (Int32 × Hp) := if x3 ≤ x5 then lp (fun _ _ _ _ _ => none) (fX3_edit_93) FU x0 x2 x3 0 h else if 64 ≤ x5 then lp (fun _ _ _ _ _ => none) (fX3_edit_93) FU x0 x2 x3 0 h else ob (gR 3 x0 0 h) fun v3 => ob (gR 3 x0 4 h) fun v4 => ob (fX10_cell v4 (x2 + x5) h) fun v5 => ob (qI v3 x5 v5 h) fun h => lt (x5 + 1) fun z6 => k53 x0 x2 x3 z6 h
theorem wfX3_edit_53 {k53 : Nat → Int32 → Int32 → Int32 → Hp → Option (Int32 × Hp)} {r9 : Int32} {h9 : Hp} (X : Cx p E A 10 R s m args c cX3_edit yX3_edit.cls 6) (hr : meth.sig.returnType = (some .int)) (hlk : meth.locks = false) (hnm : meth.name = yX3_edit.name) (hk53 : ∀ (x0 : Nat) (x2 : Int32) (x3 : Int32) (x5 : Int32) (h : Hp) (H : Heap) (locs : List Loc) (ls : Array Slot), lv_has ls 6 [(0, rv x0), (2, .int x2), (3, .int x3), (5, .int x5)] → St E A s h H locs → k53 x0 x2 x3 x5 h = some (r9, h9) → W p l e R s m args below meth c H locs 0 0 (MQ below (Qi E A h9 r9) args s 0 0 A) (F0 m 53 ls [])) :
    ∀ (x0 : Nat) (x2 : Int32) (x3 : Int32) (x5 : Int32) (h : Hp) (H : Heap) (locs : List Loc) (ls : Array Slot), lv_has ls 6 [(0, rv x0), (2, .int x2), (3, .int x3), (5, .int x5)] → St E A s h H locs → fX3_edit_53 k53 x0 x2 x3 x5 h = some (r9, h9) → W p l e R s m args below meth c H locs 0 0 (MQ below (Qi E A h9 r9) args s 0 0 A) (F0 m 53 ls []) := by
  intro x0 x2 x3 x5 h H locs ls hl S hf
  unfold fX3_edit_53 at hf
  refine lv_iload X.1 X.2.1 dX3_edit_53 (lv_at hl 3 rfl) ?_
  refine lv_iload_n X.1 X.2.1 dX3_edit_55 rfl (lv_at hl 2 rfl) ?_
  refine lv_icmp_ge (tgt := 90) X.1 X.2.1 dX3_edit_56 (by decide) (fun c1 => ?_) (fun c1 => ?_)
  · replace hf := (if_pos c1).symm.trans hf
    refine lv_iconst (v := 0) X.1 X.2.1 dX3_edit_90 (by decide) ?_
    refine lv_istore (lv' := [(5, .int 0), (0, rv x0), (2, .int x2), (3, .int x3)]) X.1 X.2.1 dX3_edit_91 hl (by decide) rfl (fun ls hl => ?_)
    exact wfX3_edit_93_l X hr hlk hnm FU _ _ _ _ _ _ _ _ (lv_sub hl [1, 2, 3, 0] rfl) S hf
  · replace hf := (if_neg c1).symm.trans hf
    refine lv_iload X.1 X.2.1 dX3_edit_59 (lv_at hl 3 rfl) ?_
    refine lv_bipush (v := 64) X.1 X.2.1 dX3_edit_61 (by decide) ?_
    refine lv_icmp_ge (tgt := 90) X.1 X.2.1 dX3_edit_63 (by decide) (fun c2 => ?_) (fun c2 => ?_)
    · replace hf := (if_pos c2).symm.trans hf
      refine lv_iconst (v := 0) X.1 X.2.1 dX3_edit_90 (by decide) ?_
      refine lv_istore (lv' := [(5, .int 0), (0, rv x0), (2, .int x2), (3, .int x3)]) X.1 X.2.1 dX3_edit_91 hl (by decide) rfl (fun ls hl => ?_)
      exact wfX3_edit_93_l X hr hlk hnm FU _ _ _ _ _ _ _ _ (lv_sub hl [1, 2, 3, 0] rfl) S hf
    · replace hf := (if_neg c2).symm.trans hf
      refine g_aload_n X (or_rv _) dX3_edit_66 rfl (lv_at hl 0 rfl) ?_
      refine g_gR X S foX3_11 dX3_edit_67 hf (fun v3 hf => ?_)
      refine lv_iload X.1 X.2.1 dX3_edit_70 (lv_at hl 3 rfl) ?_
      refine g_aload_n X (or_rv _) dX3_edit_72 rfl (lv_at hl 0 rfl) ?_
      refine g_gR X S foX3_28 dX3_edit_73 hf (fun v4 hf => ?_)
      refine lv_iload_n X.1 X.2.1 dX3_edit_76 rfl (lv_at hl 1 rfl) ?_
      refine lv_iload X.1 X.2.1 dX3_edit_77 (lv_at hl 3 rfl) ?_
      refine lv_iadd X.1 X.2.1 dX3_edit_79 ?_
      obtain ⟨v5, hc, hf⟩ := ob_some hf
      refine g_ci S (runV (As := [.int (x2 + x5)]) (rest := [.int x5, rv v3]) X S coX3_49 (by decide) (cX10_cell_m l hc) (tkX10_cell hc) rfl hl.1 (by simp [cat_rv, cat_wv, cat_sv, cat_i, cat_l, cat_a]) rfl ⟨Nat.zero_le _, Nat.zero_le _⟩ dX3_edit_80) (fun H locs S => ?_)
      refine g_qI X S dX3_edit_83 hf (fun h H locs hm hf S => ?_)
      obtain ⟨z6, ez6, hf⟩ := lt_some hf
      refine lv_iinc (v := z6) (lv' := [(5, .int z6), (0, rv x0), (2, .int x2), (3, .int x3)]) X.1 X.2.1 dX3_edit_84 hl (k := 3) rfl (by rw [← ez6]; rfl) (by decide) rfl (fun ls hl => ?_)
      refine lv_goto (tgt := 53) X.1 X.2.1 dX3_edit_87 (by decide) ?_
      exact hk53 _ _ _ _ _ _ _ _ (lv_sub hl [1, 2, 3, 0] rfl) S hf
theorem wfX3_edit_53_l {r9 : Int32} {h9 : Hp} (X : Cx p E A 10 R s m args c cX3_edit yX3_edit.cls 6) (hr : meth.sig.returnType = (some .int)) (hlk : meth.locks = false) (hnm : meth.name = yX3_edit.name) :
    ∀ (n : Nat) (x0 : Nat) (x2 : Int32) (x3 : Int32) (x5 : Int32) (h : Hp) (H : Heap) (locs : List Loc) (ls : Array Slot), lv_has ls 6 [(0, rv x0), (2, .int x2), (3, .int x3), (5, .int x5)] → St E A s h H locs → lp (fun _ _ _ _ _ => none) (fX3_edit_53) n x0 x2 x3 x5 h = some (r9, h9) → W p l e R s m args below meth c H locs 0 0 (MQ below (Qi E A h9 r9) args s 0 0 A) (F0 m 53 ls []) := by
  intro n
  induction n with
  | zero =>
    intro x0 x2 x3 x5 h H locs ls hl S hf
    exact nomatch hf
  | succ n ih =>
    intro x0 x2 x3 x5 h H locs ls hl S hf
    exact wfX3_edit_53 X hr hlk hnm ih x0 x2 x3 x5 h H locs ls hl S hf
def fX3_edit (a0 : Nat) (a1 : Nat) (a2 : Int32) (a3 : Int32) (a4 : Int32) (h : Hp) : Option (Int32 × Hp) := gd 3 a0 h (ob (pR 3 a0 4 a1 h) fun h => ob (gR 3 a0 4 h) fun v1 => ob (fX10_cell v1 a2 h) fun v2 => ob (pI 3 a0 5 v2 h) fun h => ob (pI 3 a0 6 0 h) fun h => ob (pI 3 a0 7 (a4 - 1) h) fun h => ob (pZ 3 a0 9 0 h) fun h => ob (pZ 3 a0 11 0 h) fun h => ob (pZ 3 a0 12 0 h) fun h => ob (pI 3 a0 13 (-1) h) fun h => lp (fun _ _ _ _ _ => none) (fX3_edit_53) FU a0 a2 a3 0 h)
theorem tkX3_edit {a0 : Nat} {a1 : Nat} {a2 : Int32} {a3 : Int32} {a4 : Int32} {h : Hp} {r9 : Int32 × Hp} (e : fX3_edit a0 a1 a2 a3 a4 h = some r9) : hK h a0 = 3 := by
  unfold fX3_edit at e
  exact (gd_some e).1
theorem cX3_edit_m (l : Launch) {E : EE} {A : Nat → Prop} {a0 : Nat} {a1 : Nat} {a2 : Int32} {a3 : Int32} {a4 : Int32} {h : Hp} {r9 : Int32} {h9 : Hp} (hf : fX3_edit a0 a1 a2 a3 a4 h = some (r9, h9)) : Met l yX3_edit (wsM yX3_edit cX3_edit 6 (some .int)) (rmm 10 0 0) (PcE E A h [rv a0, rv a1, .int a2, .int a3, .int a4]) (Qi E A h9 r9) 0 0 A := by
  refine met_of (by decide +kernel) (by simp [lg_sl, cat_rv, cat_wv, cat_sv, cat_i, cat_l, cat_a]) (fun p e s m args below meth c ls X hr hlk hnm S hl => ?_)
  have hl : lv_has ls 6 [(0, rv a0), (1, rv a1), (2, .int a2), (3, .int a3), (4, .int a4)] := by simpa [lv_args, cat_rv, cat_wv, cat_sv, cat_i, cat_l, cat_a] using hl
  generalize hH : s.heap = H at S ⊢
  generalize hlo : ([] : List Loc) = locs at S ⊢
  clear hH hlo
  unfold fX3_edit at hf
  obtain ⟨hth, hf⟩ := gd_some hf
  refine g_aload_n X (or_rv _) dX3_edit_0 rfl (lv_at hl 0 rfl) ?_
  refine g_aload_n X (or_rv _) dX3_edit_1 rfl (lv_at hl 1 rfl) ?_
  refine g_pR X S fpX3_28 (Or.inl ⟨_, rfl⟩) (Or.inl rfl) dX3_edit_2 hf (fun h H locs hm hf S => ?_)
  refine g_aload_n X (or_rv _) dX3_edit_5 rfl (lv_at hl 0 rfl) ?_
  refine g_aload_n X (or_rv _) dX3_edit_6 rfl (lv_at hl 0 rfl) ?_
  refine g_gR X S foX3_28 dX3_edit_7 hf (fun v1 hf => ?_)
  refine lv_iload_n X.1 X.2.1 dX3_edit_10 rfl (lv_at hl 2 rfl) ?_
  obtain ⟨v2, hc, hf⟩ := ob_some hf
  refine g_ci S (runV (As := [.int a2]) (rest := [rv a0]) X S coX3_49 (by decide) (cX10_cell_m l hc) (tkX10_cell hc) rfl hl.1 (by simp [cat_rv, cat_wv, cat_sv, cat_i, cat_l, cat_a]) rfl ⟨Nat.zero_le _, Nat.zero_le _⟩ dX3_edit_11) (fun H locs S => ?_)
  refine g_pI X S fpX3_53 (Or.inl rfl) dX3_edit_14 hf (fun h H locs hm hf S => ?_)
  refine g_aload_n X (or_rv _) dX3_edit_17 rfl (lv_at hl 0 rfl) ?_
  refine lv_iconst (v := 0) X.1 X.2.1 dX3_edit_18 (by decide) ?_
  refine g_pI X S fpX3_56 (Or.inl rfl) dX3_edit_19 hf (fun h H locs hm hf S => ?_)
  refine g_aload_n X (or_rv _) dX3_edit_22 rfl (lv_at hl 0 rfl) ?_
  refine lv_iload X.1 X.2.1 dX3_edit_23 (lv_at hl 4 rfl) ?_
  refine lv_iconst (v := 1) X.1 X.2.1 dX3_edit_25 (by decide) ?_
  refine lv_isub X.1 X.2.1 dX3_edit_26 ?_
  refine g_pI X S fpX3_32 (Or.inl rfl) dX3_edit_27 hf (fun h H locs hm hf S => ?_)
  refine g_aload_n X (or_rv _) dX3_edit_30 rfl (lv_at hl 0 rfl) ?_
  refine lv_iconst (v := 0) X.1 X.2.1 dX3_edit_31 (by decide) ?_
  refine g_pZ X S fpX3_59 (Or.inl rfl) dX3_edit_32 hf (fun h H locs hm hf S => ?_)
  refine g_aload_n X (or_rv _) dX3_edit_35 rfl (lv_at hl 0 rfl) ?_
  refine lv_iconst (v := 0) X.1 X.2.1 dX3_edit_36 (by decide) ?_
  refine g_pZ X S fpX3_43 (Or.inl rfl) dX3_edit_37 hf (fun h H locs hm hf S => ?_)
  refine g_aload_n X (or_rv _) dX3_edit_40 rfl (lv_at hl 0 rfl) ?_
  refine lv_iconst (v := 0) X.1 X.2.1 dX3_edit_41 (by decide) ?_
  refine g_pZ X S fpX3_39 (Or.inl rfl) dX3_edit_42 hf (fun h H locs hm hf S => ?_)
  refine g_aload_n X (or_rv _) dX3_edit_45 rfl (lv_at hl 0 rfl) ?_
  refine lv_iconst (v := (-1)) X.1 X.2.1 dX3_edit_46 (by decide) ?_
  refine g_pI X S fpX3_46 (Or.inl rfl) dX3_edit_47 hf (fun h H locs hm hf S => ?_)
  refine lv_iconst (v := 0) X.1 X.2.1 dX3_edit_50 (by decide) ?_
  refine lv_istore (lv' := [(5, .int 0), (0, rv a0), (1, rv a1), (2, .int a2), (3, .int a3), (4, .int a4)]) X.1 X.2.1 dX3_edit_51 hl (by decide) rfl (fun ls hl => ?_)
  exact wfX3_edit_53_l X hr hlk hnm FU _ _ _ _ _ _ _ _ (lv_sub hl [1, 3, 4, 0] rfl) S hf
def fX3_looked (a0 : Nat) (h : Hp) : Option (Int32) := gd 3 a0 h (ob (gI 3 a0 7 h) fun v1 => some v1)
theorem tkX3_looked {a0 : Nat} {h : Hp} {r9 : Int32} (e : fX3_looked a0 h = some r9) : hK h a0 = 3 := by
  unfold fX3_looked at e
  exact (gd_some e).1
theorem cX3_looked_m (l : Launch) {E : EE} {A : Nat → Prop} {a0 : Nat} {h : Hp} {r9 : Int32} (hf : fX3_looked a0 h = some r9) : Met l yX3_looked (wsM yX3_looked cX3_looked 1 (some .int)) (rmm 8 0 0) (PcE E A h [rv a0]) (Qi E A h r9) 0 0 A := by
  refine met_of (by decide +kernel) (by simp [lg_sl, cat_rv, cat_wv, cat_sv, cat_i, cat_l, cat_a]) (fun p e s m args below meth c ls X hr hlk hnm S hl => ?_)
  have hl : lv_has ls 1 [(0, rv a0)] := by simpa [lv_args, cat_rv, cat_wv, cat_sv, cat_i, cat_l, cat_a] using hl
  generalize hH : s.heap = H at S ⊢
  generalize hlo : ([] : List Loc) = locs at S ⊢
  clear hH hlo
  unfold fX3_looked at hf
  obtain ⟨hth, hf⟩ := gd_some hf
  refine g_aload_n X (or_rv _) dX3_looked_0 rfl (lv_at hl 0 rfl) ?_
  refine g_gI X S foX3_32 rfl dX3_looked_1 hf (fun v1 hf => ?_)
  cases hf; exact g_ri X S hr hlk dX3_looked_4
def fX3_held (a0 : Nat) (h : Hp) : Option (Int32) := gd 3 a0 h (ob (gI 3 a0 8 h) fun v1 => some v1)
theorem tkX3_held {a0 : Nat} {h : Hp} {r9 : Int32} (e : fX3_held a0 h = some r9) : hK h a0 = 3 := by
  unfold fX3_held at e
  exact (gd_some e).1
theorem cX3_held_m (l : Launch) {E : EE} {A : Nat → Prop} {a0 : Nat} {h : Hp} {r9 : Int32} (hf : fX3_held a0 h = some r9) : Met l yX3_held (wsM yX3_held cX3_held 1 (some .int)) (rmm 8 0 0) (PcE E A h [rv a0]) (Qi E A h r9) 0 0 A := by
  refine met_of (by decide +kernel) (by simp [lg_sl, cat_rv, cat_wv, cat_sv, cat_i, cat_l, cat_a]) (fun p e s m args below meth c ls X hr hlk hnm S hl => ?_)
  have hl : lv_has ls 1 [(0, rv a0)] := by simpa [lv_args, cat_rv, cat_wv, cat_sv, cat_i, cat_l, cat_a] using hl
  generalize hH : s.heap = H at S ⊢
  generalize hlo : ([] : List Loc) = locs at S ⊢
  clear hH hlo
  unfold fX3_held at hf
  obtain ⟨hth, hf⟩ := gd_some hf
  refine g_aload_n X (or_rv _) dX3_held_0 rfl (lv_at hl 0 rfl) ?_
  refine g_gI X S foX3_36 rfl dX3_held_1 hf (fun v1 hf => ?_)
  cases hf; exact g_ri X S hr hlk dX3_held_4
def fX3_condition (a0 : Nat) (h : Hp) : Option (Int32) := gd 3 a0 h (ob (gI 3 a0 12 h) fun v1 => if v1 = 0 then some 0 else ob (gI 3 a0 11 h) fun v3 => if v3 = 0 then some 2 else some 1)
theorem tkX3_condition {a0 : Nat} {h : Hp} {r9 : Int32} (e : fX3_condition a0 h = some r9) : hK h a0 = 3 := by
  unfold fX3_condition at e
  exact (gd_some e).1
theorem cX3_condition_m (l : Launch) {E : EE} {A : Nat → Prop} {a0 : Nat} {h : Hp} {r9 : Int32} (hf : fX3_condition a0 h = some r9) : Met l yX3_condition (wsM yX3_condition cX3_condition 1 (some .int)) (rmm 8 0 0) (PcE E A h [rv a0]) (Qi E A h r9) 0 0 A := by
  refine met_of (by decide +kernel) (by simp [lg_sl, cat_rv, cat_wv, cat_sv, cat_i, cat_l, cat_a]) (fun p e s m args below meth c ls X hr hlk hnm S hl => ?_)
  have hl : lv_has ls 1 [(0, rv a0)] := by simpa [lv_args, cat_rv, cat_wv, cat_sv, cat_i, cat_l, cat_a] using hl
  generalize hH : s.heap = H at S ⊢
  generalize hlo : ([] : List Loc) = locs at S ⊢
  clear hH hlo
  unfold fX3_condition at hf
  obtain ⟨hth, hf⟩ := gd_some hf
  refine g_aload_n X (or_rv _) dX3_condition_0 rfl (lv_at hl 0 rfl) ?_
  refine g_gI X S foX3_39 rfl dX3_condition_1 hf (fun v1 hf => ?_)
  refine lv_if_ne (tgt := 9) X.1 X.2.1 dX3_condition_4 (by decide) (fun c2 => ?_) (fun c2 => ?_)
  · replace hf := (if_neg c2).symm.trans hf
    refine g_aload_n X (or_rv _) dX3_condition_9 rfl (lv_at hl 0 rfl) ?_
    refine g_gI X S foX3_43 rfl dX3_condition_10 hf (fun v3 hf => ?_)
    refine lv_if_eq (tgt := 20) X.1 X.2.1 dX3_condition_13 (by decide) (fun c4 => ?_) (fun c4 => ?_)
    · replace hf := (if_pos c4).symm.trans hf
      refine lv_iconst (v := 2) X.1 X.2.1 dX3_condition_20 (by decide) ?_
      cases hf; exact g_ri X S hr hlk dX3_condition_21
    · replace hf := (if_neg c4).symm.trans hf
      refine lv_iconst (v := 1) X.1 X.2.1 dX3_condition_16 (by decide) ?_
      refine lv_goto (tgt := 21) X.1 X.2.1 dX3_condition_17 (by decide) ?_
      cases hf; exact g_ri X S hr hlk dX3_condition_21
  · replace hf := (if_pos c2).symm.trans hf
    refine lv_iconst (v := 0) X.1 X.2.1 dX3_condition_7 (by decide) ?_
    cases hf; exact g_ri X S hr hlk dX3_condition_8
def fX3_marked (a0 : Nat) (h : Hp) : Option (Int32) := gd 3 a0 h (ob (gI 3 a0 13 h) fun v1 => some v1)
theorem tkX3_marked {a0 : Nat} {h : Hp} {r9 : Int32} (e : fX3_marked a0 h = some r9) : hK h a0 = 3 := by
  unfold fX3_marked at e
  exact (gd_some e).1
theorem cX3_marked_m (l : Launch) {E : EE} {A : Nat → Prop} {a0 : Nat} {h : Hp} {r9 : Int32} (hf : fX3_marked a0 h = some r9) : Met l yX3_marked (wsM yX3_marked cX3_marked 1 (some .int)) (rmm 8 0 0) (PcE E A h [rv a0]) (Qi E A h r9) 0 0 A := by
  refine met_of (by decide +kernel) (by simp [lg_sl, cat_rv, cat_wv, cat_sv, cat_i, cat_l, cat_a]) (fun p e s m args below meth c ls X hr hlk hnm S hl => ?_)
  have hl : lv_has ls 1 [(0, rv a0)] := by simpa [lv_args, cat_rv, cat_wv, cat_sv, cat_i, cat_l, cat_a] using hl
  generalize hH : s.heap = H at S ⊢
  generalize hlo : ([] : List Loc) = locs at S ⊢
  clear hH hlo
  unfold fX3_marked at hf
  obtain ⟨hth, hf⟩ := gd_some hf
  refine g_aload_n X (or_rv _) dX3_marked_0 rfl (lv_at hl 0 rfl) ?_
  refine g_gI X S foX3_46 rfl dX3_marked_1 hf (fun v1 hf => ?_)
  cases hf; exact g_ri X S hr hlk dX3_marked_4
end GM
