section GM
variable {p : Program} {l : Launch} {e : Env} {R : Room} {s : State} {m : MethodId} {args : Array Value} {below : List Frame} {meth : Method} {c : Code} {E : EE} {A : Nat → Prop}
def fX8_init (a0 : Nat) (h : Hp) : Option (Hp) := gd 7 a0 h (ob2 (newA 102 8 60 h) fun p1 h => ob (pR 7 a0 0 p1 h) fun h => ob2 (newA 102 8 60 h) fun p2 h => ob (pR 7 a0 1 p2 h) fun h => ob2 (newA 101 4 60 h) fun p3 h => ob (pR 7 a0 2 p3 h) fun h => ob2 (newA 101 4 0 h) fun p4 h => ob (pR 7 a0 3 p4 h) fun h => ob2 (newO 6 3 h) fun p5 h => oba h (fX6_init p5 h) fun h => ob (pR 7 a0 5 p5 h) fun h => some h)
theorem tkX8_init {a0 : Nat} {h : Hp} {r9 : Hp} (e : fX8_init a0 h = some r9) : hK h a0 = 7 := by
  unfold fX8_init at e
  exact (gd_some e).1
theorem cX8_init_m (l : Launch) {E : EE} {A : Nat → Prop} {a0 : Nat} {h : Hp} {h9 : Hp} {mc ms : Nat} (hmc : mc + hX h = hC h) (hms : ms + hU h = hZ h) (hf : fX8_init a0 h = some h9) : Met l yX8_init (wsM yX8_init cX8_init 1 none) (rmm 9 mc ms) (PcF E A h [rv a0]) (QG (Qv E A h9) h h9) mc ms A := by
  refine met_ofA (by decide +kernel) (by simp [lg_sl, cat_rv, cat_wv, cat_sv, cat_i, cat_l, cat_a]) hmc hms (fun p e s m args below meth c ls X hr hlk hnm S AI hl => ?_)
  have hl : lv_has ls 1 [(0, rv a0)] := by simpa [lv_args, cat_rv, cat_wv, cat_sv, cat_i, cat_l, cat_a] using hl
  generalize hH : s.heap = H at S ⊢
  generalize hlo : ([] : List Loc) = locs at S ⊢
  clear hH hlo
  unfold fX8_init at hf
  obtain ⟨hth, hf⟩ := gd_some hf
  refine g_aload_n X (or_rv _) dX8_init_0 rfl (lv_at hl 0 rfl) ?_
  refine g_oi (rest := []) X S hl.1 oiX8_3 dX8_init_1 (by decide) (by decide) (dom_ne S.1.1 hth (by decide)) ?_
  refine g_aload_n X (or_rv _) dX8_init_4 rfl (lv_at hl 0 rfl) ?_
  refine lv_bipush (v := 60) X.1 X.2.1 dX8_init_5 (by decide) ?_
  refine g_newL X S AI dX8_init_7 hf (fun p1 h H cells slots hf S AI => ?_)
  refine g_pR X S fpX8_11 (Or.inr ⟨_, rfl⟩) (Or.inr hnm) dX8_init_9 hf (fun h H locs hm hf S => ?_)
  replace AI := AI.sm hm
  refine g_aload_n X (or_rv _) dX8_init_12 rfl (lv_at hl 0 rfl) ?_
  refine lv_bipush (v := 60) X.1 X.2.1 dX8_init_13 (by decide) ?_
  refine g_newL X S AI dX8_init_15 hf (fun p2 h H cells slots hf S AI => ?_)
  refine g_pR X S fpX8_17 (Or.inr ⟨_, rfl⟩) (Or.inr hnm) dX8_init_17 hf (fun h H locs hm hf S => ?_)
  replace AI := AI.sm hm
  refine g_aload_n X (or_rv _) dX8_init_20 rfl (lv_at hl 0 rfl) ?_
  refine lv_bipush (v := 60) X.1 X.2.1 dX8_init_21 (by decide) ?_
  refine g_newI X S AI dX8_init_23 hf (fun p3 h H cells slots hf S AI => ?_)
  refine g_pR X S fpX8_20 (Or.inr ⟨_, rfl⟩) (Or.inr hnm) dX8_init_25 hf (fun h H locs hm hf S => ?_)
  replace AI := AI.sm hm
  refine g_aload_n X (or_rv _) dX8_init_28 rfl (lv_at hl 0 rfl) ?_
  refine lv_iconst (v := 0) X.1 X.2.1 dX8_init_29 (by decide) ?_
  refine g_newI X S AI dX8_init_30 hf (fun p4 h H cells slots hf S AI => ?_)
  refine g_pR X S fpX8_24 (Or.inr ⟨_, rfl⟩) (Or.inl rfl) dX8_init_32 hf (fun h H locs hm hf S => ?_)
  replace AI := AI.sm hm
  refine g_aload_n X (or_rv _) dX8_init_35 rfl (lv_at hl 0 rfl) ?_
  refine g_newO X S AI noX8_9 dX8_init_36 hf (fun p5 h H cells slots hkp5 hf S AI => ?_)
  refine lv_dup X.1 X.2.1 dX8_init_39 (cat_rv _) ?_
  obtain ⟨h, hc, hok, hf⟩ := oba_some hf
  refine g_cvA S AI hok (fun hsz => runIF (As := []) (rest := [rv p5, rv a0]) X S hsz coX8_27 (by decide) (cX6_init_m l AI.mcs.1 AI.mcs.2 hc) (tkX6_init hc) (by decide) rfl hl.1 (by simp [cat_rv, cat_wv, cat_sv, cat_i, cat_l, cat_a]) rfl AI.room dX8_init_40) (fun H locs cells slots S AI => ?_)
  refine g_pR X S fpX8_28 (Or.inl ⟨_, rfl⟩) (Or.inl rfl) dX8_init_43 hf (fun h H locs hm hf S => ?_)
  replace AI := AI.sm hm
  cases hf; exact g_rvA X S AI hr hlk dX8_init_46
def fX8_byteAt (a0 : Nat) (a1 : Int32) (h : Hp) : Option (Int32) := gd 7 a0 h (if a1 < 0 then some 0 else ob (gR 7 a0 3 h) fun v2 => ob (aN 101 v2 h) fun v3 => if v3 ≤ a1 then some 0 else ob (gR 7 a0 3 h) fun v5 => ob (aI v5 a1 h) fun v6 => some v6)
theorem tkX8_byteAt {a0 : Nat} {a1 : Int32} {h : Hp} {r9 : Int32} (e : fX8_byteAt a0 a1 h = some r9) : hK h a0 = 7 := by
  unfold fX8_byteAt at e
  exact (gd_some e).1
theorem cX8_byteAt_m (l : Launch) {E : EE} {A : Nat → Prop} {a0 : Nat} {a1 : Int32} {h : Hp} {r9 : Int32} (hf : fX8_byteAt a0 a1 h = some r9) : Met l yX8_byteAt (wsM yX8_byteAt cX8_byteAt 2 (some .int)) (rmm 8 0 0) (PcE E A h [rv a0, .int a1]) (Qi E A h r9) 0 0 A := by
  refine met_of (by decide +kernel) (by simp [lg_sl, cat_rv, cat_wv, cat_sv, cat_i, cat_l, cat_a]) (fun p e s m args below meth c ls X hr hlk hnm S hl => ?_)
  have hl : lv_has ls 2 [(0, rv a0), (1, .int a1)] := by simpa [lv_args, cat_rv, cat_wv, cat_sv, cat_i, cat_l, cat_a] using hl
  generalize hH : s.heap = H at S ⊢
  generalize hlo : ([] : List Loc) = locs at S ⊢
  clear hH hlo
  unfold fX8_byteAt at hf
  obtain ⟨hth, hf⟩ := gd_some hf
  refine lv_iload_n X.1 X.2.1 dX8_byteAt_0 rfl (lv_at hl 1 rfl) ?_
  refine lv_if_lt (tgt := 22) X.1 X.2.1 dX8_byteAt_1 (by decide) (fun c1 => ?_) (fun c1 => ?_)
  · replace hf := (if_pos c1).symm.trans hf
    refine lv_iconst (v := 0) X.1 X.2.1 dX8_byteAt_22 (by decide) ?_
    cases hf; exact g_ri X S hr hlk dX8_byteAt_23
  · replace hf := (if_neg c1).symm.trans hf
    refine lv_iload_n X.1 X.2.1 dX8_byteAt_4 rfl (lv_at hl 1 rfl) ?_
    refine g_aload_n X (or_rv _) dX8_byteAt_5 rfl (lv_at hl 0 rfl) ?_
    refine g_gR X S foX8_24 dX8_byteAt_6 hf (fun v2 hf => ?_)
    refine g_aN X S (by decide) dX8_byteAt_9 hf (fun v3 hf => ?_)
    refine lv_icmp_ge (tgt := 22) X.1 X.2.1 dX8_byteAt_10 (by decide) (fun c4 => ?_) (fun c4 => ?_)
    · replace hf := (if_pos c4).symm.trans hf
      refine lv_iconst (v := 0) X.1 X.2.1 dX8_byteAt_22 (by decide) ?_
      cases hf; exact g_ri X S hr hlk dX8_byteAt_23
    · replace hf := (if_neg c4).symm.trans hf
      refine g_aload_n X (or_rv _) dX8_byteAt_13 rfl (lv_at hl 0 rfl) ?_
      refine g_gR X S foX8_24 dX8_byteAt_14 hf (fun v5 hf => ?_)
      refine lv_iload_n X.1 X.2.1 dX8_byteAt_17 rfl (lv_at hl 1 rfl) ?_
      refine g_aI X S dX8_byteAt_18 hf (fun v6 hf => ?_)
      refine lv_goto (tgt := 23) X.1 X.2.1 dX8_byteAt_19 (by decide) ?_
      cases hf; exact g_ri X S hr hlk dX8_byteAt_23
def fX8_isLetter (a0 : Int32) : Option (Int32) := if a0 < 97 then some 0 else if 122 < a0 then some 0 else some 1
theorem cX8_isLetter_m (l : Launch) {E : EE} {A : Nat → Prop} {a0 : Int32} {h : Hp} {r9 : Int32} (hf : fX8_isLetter a0 = some r9) : Met l yX8_isLetter (wsM yX8_isLetter cX8_isLetter 1 (some .boolean)) (rmm 8 0 0) (PcE E A h [.int a0]) (Qi E A h r9) 0 0 A := by
  refine met_of (by decide +kernel) (by simp [lg_sl, cat_rv, cat_wv, cat_sv, cat_i, cat_l, cat_a]) (fun p e s m args below meth c ls X hr hlk hnm S hl => ?_)
  have hl : lv_has ls 1 [(0, .int a0)] := by simpa [lv_args, cat_rv, cat_wv, cat_sv, cat_i, cat_l, cat_a] using hl
  generalize hH : s.heap = H at S ⊢
  generalize hlo : ([] : List Loc) = locs at S ⊢
  clear hH hlo
  unfold fX8_isLetter at hf
  refine lv_iload_n X.1 X.2.1 dX8_isLetter_0 rfl (lv_at hl 0 rfl) ?_
  refine lv_bipush (v := 97) X.1 X.2.1 dX8_isLetter_1 (by decide) ?_
  refine lv_icmp_lt (tgt := 16) X.1 X.2.1 dX8_isLetter_3 (by decide) (fun c1 => ?_) (fun c1 => ?_)
  · replace hf := (if_pos c1).symm.trans hf
    refine lv_iconst (v := 0) X.1 X.2.1 dX8_isLetter_16 (by decide) ?_
    cases hf; exact g_rz X S hr hlk (by decide) dX8_isLetter_17
  · replace hf := (if_neg c1).symm.trans hf
    refine lv_iload_n X.1 X.2.1 dX8_isLetter_6 rfl (lv_at hl 0 rfl) ?_
    refine lv_bipush (v := 122) X.1 X.2.1 dX8_isLetter_7 (by decide) ?_
    refine lv_icmp_gt (tgt := 16) X.1 X.2.1 dX8_isLetter_9 (by decide) (fun c2 => ?_) (fun c2 => ?_)
    · replace hf := (if_pos c2).symm.trans hf
      refine lv_iconst (v := 0) X.1 X.2.1 dX8_isLetter_16 (by decide) ?_
      cases hf; exact g_rz X S hr hlk (by decide) dX8_isLetter_17
    · replace hf := (if_neg c2).symm.trans hf
      refine lv_iconst (v := 1) X.1 X.2.1 dX8_isLetter_12 (by decide) ?_
      refine lv_goto (tgt := 17) X.1 X.2.1 dX8_isLetter_13 (by decide) ?_
      cases hf; exact g_rz X S hr hlk (by decide) dX8_isLetter_17
def fX8_isDigit (a0 : Int32) : Option (Int32) := if a0 < 48 then some 0 else if 57 < a0 then some 0 else some 1
theorem cX8_isDigit_m (l : Launch) {E : EE} {A : Nat → Prop} {a0 : Int32} {h : Hp} {r9 : Int32} (hf : fX8_isDigit a0 = some r9) : Met l yX8_isDigit (wsM yX8_isDigit cX8_isDigit 1 (some .boolean)) (rmm 8 0 0) (PcE E A h [.int a0]) (Qi E A h r9) 0 0 A := by
  refine met_of (by decide +kernel) (by simp [lg_sl, cat_rv, cat_wv, cat_sv, cat_i, cat_l, cat_a]) (fun p e s m args below meth c ls X hr hlk hnm S hl => ?_)
  have hl : lv_has ls 1 [(0, .int a0)] := by simpa [lv_args, cat_rv, cat_wv, cat_sv, cat_i, cat_l, cat_a] using hl
  generalize hH : s.heap = H at S ⊢
  generalize hlo : ([] : List Loc) = locs at S ⊢
  clear hH hlo
  unfold fX8_isDigit at hf
  refine lv_iload_n X.1 X.2.1 dX8_isDigit_0 rfl (lv_at hl 0 rfl) ?_
  refine lv_bipush (v := 48) X.1 X.2.1 dX8_isDigit_1 (by decide) ?_
  refine lv_icmp_lt (tgt := 16) X.1 X.2.1 dX8_isDigit_3 (by decide) (fun c1 => ?_) (fun c1 => ?_)
  · replace hf := (if_pos c1).symm.trans hf
    refine lv_iconst (v := 0) X.1 X.2.1 dX8_isDigit_16 (by decide) ?_
    cases hf; exact g_rz X S hr hlk (by decide) dX8_isDigit_17
  · replace hf := (if_neg c1).symm.trans hf
    refine lv_iload_n X.1 X.2.1 dX8_isDigit_6 rfl (lv_at hl 0 rfl) ?_
    refine lv_bipush (v := 57) X.1 X.2.1 dX8_isDigit_7 (by decide) ?_
    refine lv_icmp_gt (tgt := 16) X.1 X.2.1 dX8_isDigit_9 (by decide) (fun c2 => ?_) (fun c2 => ?_)
    · replace hf := (if_pos c2).symm.trans hf
      refine lv_iconst (v := 0) X.1 X.2.1 dX8_isDigit_16 (by decide) ?_
      cases hf; exact g_rz X S hr hlk (by decide) dX8_isDigit_17
    · replace hf := (if_neg c2).symm.trans hf
      refine lv_iconst (v := 1) X.1 X.2.1 dX8_isDigit_12 (by decide) ?_
      refine lv_goto (tgt := 17) X.1 X.2.1 dX8_isDigit_13 (by decide) ?_
      cases hf; exact g_rz X S hr hlk (by decide) dX8_isDigit_17
def fX8_hexDigit_17 (x0 : Int32) : Option (Int32) := if x0 < 97 then some (-1) else if 102 < x0 then some (-1) else some ((x0 - 97) + 10)
theorem wfX8_hexDigit_17 {h : Hp} {r9 : Int32} (X : Cx p E A 8 R s m args c cX8_hexDigit yX8_hexDigit.cls 1) (hr : meth.sig.returnType = (some .int)) (hlk : meth.locks = false) (hnm : meth.name = yX8_hexDigit.name) :
    ∀ (x0 : Int32) (H : Heap) (locs : List Loc) (ls : Array Slot), lv_has ls 1 [(0, .int x0)] → St E A s h H locs → fX8_hexDigit_17 x0 = some r9 → W p l e R s m args below meth c H locs 0 0 (MQ below (Qi E A h r9) args s 0 0 A) (F0 m 17 ls []) := by
  intro x0 H locs ls hl S hf
  unfold fX8_hexDigit_17 at hf
  refine lv_iload_n X.1 X.2.1 dX8_hexDigit_17 rfl (lv_at hl 0 rfl) ?_
  refine lv_bipush (v := 97) X.1 X.2.1 dX8_hexDigit_18 (by decide) ?_
  refine lv_icmp_lt (tgt := 39) X.1 X.2.1 dX8_hexDigit_20 (by decide) (fun c1 => ?_) (fun c1 => ?_)
  · replace hf := (if_pos c1).symm.trans hf
    refine lv_iconst (v := (-1)) X.1 X.2.1 dX8_hexDigit_39 (by decide) ?_
    cases hf; exact g_ri X S hr hlk dX8_hexDigit_40
  · replace hf := (if_neg c1).symm.trans hf
    refine lv_iload_n X.1 X.2.1 dX8_hexDigit_23 rfl (lv_at hl 0 rfl) ?_
    refine lv_bipush (v := 102) X.1 X.2.1 dX8_hexDigit_24 (by decide) ?_
    refine lv_icmp_gt (tgt := 39) X.1 X.2.1 dX8_hexDigit_26 (by decide) (fun c2 => ?_) (fun c2 => ?_)
    · replace hf := (if_pos c2).symm.trans hf
      refine lv_iconst (v := (-1)) X.1 X.2.1 dX8_hexDigit_39 (by decide) ?_
      cases hf; exact g_ri X S hr hlk dX8_hexDigit_40
    · replace hf := (if_neg c2).symm.trans hf
      refine lv_iload_n X.1 X.2.1 dX8_hexDigit_29 rfl (lv_at hl 0 rfl) ?_
      refine lv_bipush (v := 97) X.1 X.2.1 dX8_hexDigit_30 (by decide) ?_
      refine lv_isub X.1 X.2.1 dX8_hexDigit_32 ?_
      refine lv_bipush (v := 10) X.1 X.2.1 dX8_hexDigit_33 (by decide) ?_
      refine lv_iadd X.1 X.2.1 dX8_hexDigit_35 ?_
      refine lv_goto (tgt := 40) X.1 X.2.1 dX8_hexDigit_36 (by decide) ?_
      cases hf; exact g_ri X S hr hlk dX8_hexDigit_40
def fX8_hexDigit (a0 : Int32) : Option (Int32) := if a0 < 48 then fX8_hexDigit_17 a0 else if 57 < a0 then fX8_hexDigit_17 a0 else some (a0 - 48)
theorem cX8_hexDigit_m (l : Launch) {E : EE} {A : Nat → Prop} {a0 : Int32} {h : Hp} {r9 : Int32} (hf : fX8_hexDigit a0 = some r9) : Met l yX8_hexDigit (wsM yX8_hexDigit cX8_hexDigit 1 (some .int)) (rmm 8 0 0) (PcE E A h [.int a0]) (Qi E A h r9) 0 0 A := by
  refine met_of (by decide +kernel) (by simp [lg_sl, cat_rv, cat_wv, cat_sv, cat_i, cat_l, cat_a]) (fun p e s m args below meth c ls X hr hlk hnm S hl => ?_)
  have hl : lv_has ls 1 [(0, .int a0)] := by simpa [lv_args, cat_rv, cat_wv, cat_sv, cat_i, cat_l, cat_a] using hl
  generalize hH : s.heap = H at S ⊢
  generalize hlo : ([] : List Loc) = locs at S ⊢
  clear hH hlo
  unfold fX8_hexDigit at hf
  refine lv_iload_n X.1 X.2.1 dX8_hexDigit_0 rfl (lv_at hl 0 rfl) ?_
  refine lv_bipush (v := 48) X.1 X.2.1 dX8_hexDigit_1 (by decide) ?_
  refine lv_icmp_lt (tgt := 17) X.1 X.2.1 dX8_hexDigit_3 (by decide) (fun c1 => ?_) (fun c1 => ?_)
  · replace hf := (if_pos c1).symm.trans hf
    exact wfX8_hexDigit_17 X hr hlk hnm _ _ _ _ hl S hf
  · replace hf := (if_neg c1).symm.trans hf
    refine lv_iload_n X.1 X.2.1 dX8_hexDigit_6 rfl (lv_at hl 0 rfl) ?_
    refine lv_bipush (v := 57) X.1 X.2.1 dX8_hexDigit_7 (by decide) ?_
    refine lv_icmp_gt (tgt := 17) X.1 X.2.1 dX8_hexDigit_9 (by decide) (fun c2 => ?_) (fun c2 => ?_)
    · replace hf := (if_pos c2).symm.trans hf
      exact wfX8_hexDigit_17 X hr hlk hnm _ _ _ _ hl S hf
    · replace hf := (if_neg c2).symm.trans hf
      refine lv_iload_n X.1 X.2.1 dX8_hexDigit_12 rfl (lv_at hl 0 rfl) ?_
      refine lv_bipush (v := 48) X.1 X.2.1 dX8_hexDigit_13 (by decide) ?_
      refine lv_isub X.1 X.2.1 dX8_hexDigit_15 ?_
      cases hf; exact g_ri X S hr hlk dX8_hexDigit_16
def fX8_advance_45 (k8 : Nat → Hp → Option (Hp)) (x0 : Nat) (h : Hp) : Option (Hp) := ob (gI 7 x0 8 h) fun v1 => ob (pI 7 x0 8 (v1 + 1) h) fun h => k8 x0 h
theorem wfX8_advance_45 {k8 : Nat → Hp → Option (Hp)} {h9 : Hp} (X : Cx p E A 9 R s m args c cX8_advance yX8_advance.cls 2) (hr : meth.sig.returnType = none) (hlk : meth.locks = false) (hnm : meth.name = yX8_advance.name) (hk8 : ∀ (x0 : Nat) (h : Hp) (H : Heap) (locs : List Loc) (ls : Array Slot), lv_has ls 2 [(0, rv x0)] → St E A s h H locs → k8 x0 h = some h9 → W p l e R s m args below meth c H locs 0 0 (MQ below (Qv E A h9) args s 0 0 A) (F0 m 8 ls [])) :
    ∀ (x0 : Nat) (h : Hp) (H : Heap) (locs : List Loc) (ls : Array Slot), lv_has ls 2 [(0, rv x0)] → St E A s h H locs → fX8_advance_45 k8 x0 h = some h9 → W p l e R s m args below meth c H locs 0 0 (MQ below (Qv E A h9) args s 0 0 A) (F0 m 45 ls []) := by
  intro x0 h H locs ls hl S hf
  unfold fX8_advance_45 at hf
  refine g_aload_n X (or_rv _) dX8_advance_45 rfl (lv_at hl 0 rfl) ?_
  refine lv_dup X.1 X.2.1 dX8_advance_46 (cat_rv _) ?_
  refine g_gI X S foX8_101 rfl dX8_advance_47 hf (fun v1 hf => ?_)
  refine lv_iconst (v := 1) X.1 X.2.1 dX8_advance_50 (by decide) ?_
  refine lv_iadd X.1 X.2.1 dX8_advance_51 ?_
  refine g_pI X S fpX8_101 (Or.inl rfl) dX8_advance_52 hf (fun h H locs hm hf S => ?_)
  refine lv_goto (tgt := 8) X.1 X.2.1 dX8_advance_55 (by decide) ?_
  exact hk8 _ _ _ _ _ hl S hf
def fX8_advance_159 (x0 : Nat) (h : Hp) : Option (Hp) := ob (gR 7 x0 3 h) fun v1 => ob (gI 7 x0 8 h) fun v2 => ob (gI 7 x0 9 h) fun v3 => ob (fX11_told v1 v2 v3 h) fun v4 => ob (pR 7 x0 7 v4 h) fun h => some h
theorem wfX8_advance_159 {h9 : Hp} (X : Cx p E A 9 R s m args c cX8_advance yX8_advance.cls 2) (hr : meth.sig.returnType = none) (hlk : meth.locks = false) (hnm : meth.name = yX8_advance.name) :
    ∀ (x0 : Nat) (h : Hp) (H : Heap) (locs : List Loc) (ls : Array Slot), lv_has ls 2 [(0, rv x0)] → St E A s h H locs → fX8_advance_159 x0 h = some h9 → W p l e R s m args below meth c H locs 0 0 (MQ below (Qv E A h9) args s 0 0 A) (F0 m 159 ls []) := by
  intro x0 h H locs ls hl S hf
  unfold fX8_advance_159 at hf
  refine g_aload_n X (or_rv _) dX8_advance_159 rfl (lv_at hl 0 rfl) ?_
  refine g_aload_n X (or_rv _) dX8_advance_160 rfl (lv_at hl 0 rfl) ?_
  refine g_gR X S foX8_24 dX8_advance_161 hf (fun v1 hf => ?_)
  refine g_aload_n X (or_rv _) dX8_advance_164 rfl (lv_at hl 0 rfl) ?_
  refine g_gI X S foX8_101 rfl dX8_advance_165 hf (fun v2 hf => ?_)
  refine g_aload_n X (or_rv _) dX8_advance_168 rfl (lv_at hl 0 rfl) ?_
  refine g_gI X S foX8_48 rfl dX8_advance_169 hf (fun v3 hf => ?_)
  obtain ⟨v4, hc, hf⟩ := ob_some hf
  refine g_cq S (runS (As := [rv v1, .int v2, .int v3]) (rest := [rv x0]) X S coX8_225 (by decide) (cX11_told_m l hc) rfl hl.1 (by simp [cat_rv, cat_wv, cat_sv, cat_i, cat_l, cat_a]) rfl ⟨Nat.zero_le _, Nat.zero_le _⟩ dX8_advance_172) (fun H locs S => ?_)
  change W _ _ _ _ _ _ _ _ _ _ _ _ _ _ _ (F0 _ _ _ (wv E v4 :: _))
  refine g_pW X S fpX8_66 (Or.inl ⟨_, rfl⟩) (Or.inl rfl) dX8_advance_175 hf (fun h H locs hm hf S => ?_)
  refine lv_goto (tgt := 336) X.1 X.2.1 dX8_advance_178 (by decide) ?_
  cases hf; exact g_rv X S hr hlk dX8_advance_336
def fX8_advance_121 (k121 : Nat → Hp → Option (Hp)) (x0 : Nat) (h : Hp) : Option (Hp) := ob (gI 7 x0 9 h) fun v1 => ob (gI 7 x0 4 h) fun v2 => if v2 ≤ v1 then fX8_advance_159 x0 h else ob (gI 7 x0 9 h) fun v4 => ob (fX8_byteAt x0 v4 h) fun v5 => ob (fX8_isLetter v5) fun v6 => if v6 = 0 then fX8_advance_159 x0 h else ob (gI 7 x0 9 h) fun v8 => ob (pI 7 x0 9 (v8 + 1) h) fun h => k121 x0 h
theorem wfX8_advance_121 {k121 : Nat → Hp → Option (Hp)} {h9 : Hp} (X : Cx p E A 9 R s m args c cX8_advance yX8_advance.cls 2) (hr : meth.sig.returnType = none) (hlk : meth.locks = false) (hnm : meth.name = yX8_advance.name) (hk121 : ∀ (x0 : Nat) (h : Hp) (H : Heap) (locs : List Loc) (ls : Array Slot), lv_has ls 2 [(0, rv x0)] → St E A s h H locs → k121 x0 h = some h9 → W p l e R s m args below meth c H locs 0 0 (MQ below (Qv E A h9) args s 0 0 A) (F0 m 121 ls [])) :
    ∀ (x0 : Nat) (h : Hp) (H : Heap) (locs : List Loc) (ls : Array Slot), lv_has ls 2 [(0, rv x0)] → St E A s h H locs → fX8_advance_121 k121 x0 h = some h9 → W p l e R s m args below meth c H locs 0 0 (MQ below (Qv E A h9) args s 0 0 A) (F0 m 121 ls []) := by
  intro x0 h H locs ls hl S hf
  unfold fX8_advance_121 at hf
  refine g_aload_n X (or_rv _) dX8_advance_121 rfl (lv_at hl 0 rfl) ?_
  refine g_gI X S foX8_48 rfl dX8_advance_122 hf (fun v1 hf => ?_)
  refine g_aload_n X (or_rv _) dX8_advance_125 rfl (lv_at hl 0 rfl) ?_
  refine g_gI X S foX8_38 rfl dX8_advance_126 hf (fun v2 hf => ?_)
  refine lv_icmp_ge (tgt := 159) X.1 X.2.1 dX8_advance_129 (by decide) (fun c3 => ?_) (fun c3 => ?_)
  · replace hf := (if_pos c3).symm.trans hf
    exact wfX8_advance_159 X hr hlk hnm _ _ _ _ _ hl S hf
  · replace hf := (if_neg c3).symm.trans hf
    refine g_aload_n X (or_rv _) dX8_advance_132 rfl (lv_at hl 0 rfl) ?_
    refine g_aload_n X (or_rv _) dX8_advance_133 rfl (lv_at hl 0 rfl) ?_
    refine g_gI X S foX8_48 rfl dX8_advance_134 hf (fun v4 hf => ?_)
    obtain ⟨v5, hc, hf⟩ := ob_some hf
    refine g_ci S (runV (As := [.int v4]) (rest := []) X S coX8_107 (by decide) (cX8_byteAt_m l hc) (tkX8_byteAt hc) rfl hl.1 (by decide) rfl ⟨Nat.zero_le _, Nat.zero_le _⟩ dX8_advance_137) (fun H locs S => ?_)
    obtain ⟨v6, hc, hf⟩ := ob_some hf
    refine g_ci S (runS (As := [.int v5]) (rest := []) X S coX8_222 (by decide) (cX8_isLetter_m l hc) rfl hl.1 (by decide) rfl ⟨Nat.zero_le _, Nat.zero_le _⟩ dX8_advance_140) (fun H locs S => ?_)
    refine lv_if_eq (tgt := 159) X.1 X.2.1 dX8_advance_143 (by decide) (fun c7 => ?_) (fun c7 => ?_)
    · replace hf := (if_pos c7).symm.trans hf
      exact wfX8_advance_159 X hr hlk hnm _ _ _ _ _ hl S hf
    · replace hf := (if_neg c7).symm.trans hf
      refine g_aload_n X (or_rv _) dX8_advance_146 rfl (lv_at hl 0 rfl) ?_
      refine lv_dup X.1 X.2.1 dX8_advance_147 (cat_rv _) ?_
      refine g_gI X S foX8_48 rfl dX8_advance_148 hf (fun v8 hf => ?_)
      refine lv_iconst (v := 1) X.1 X.2.1 dX8_advance_151 (by decide) ?_
      refine lv_iadd X.1 X.2.1 dX8_advance_152 ?_
      refine g_pI X S fpX8_48 (Or.inl rfl) dX8_advance_153 hf (fun h H locs hm hf S => ?_)
      refine lv_goto (tgt := 121) X.1 X.2.1 dX8_advance_156 (by decide) ?_
      exact hk121 _ _ _ _ _ hl S hf
theorem wfX8_advance_121_l {h9 : Hp} (X : Cx p E A 9 R s m args c cX8_advance yX8_advance.cls 2) (hr : meth.sig.returnType = none) (hlk : meth.locks = false) (hnm : meth.name = yX8_advance.name) :
    ∀ (n : Nat) (x0 : Nat) (h : Hp) (H : Heap) (locs : List Loc) (ls : Array Slot), lv_has ls 2 [(0, rv x0)] → St E A s h H locs → lp (fun _ _ => none) (fX8_advance_121) n x0 h = some h9 → W p l e R s m args below meth c H locs 0 0 (MQ below (Qv E A h9) args s 0 0 A) (F0 m 121 ls []) := by
  intro n
  induction n with
  | zero =>
    intro x0 h H locs ls hl S hf
    exact nomatch hf
  | succ n ih =>
    intro x0 h H locs ls hl S hf
    exact wfX8_advance_121 X hr hlk hnm ih x0 h H locs ls hl S hf
def fX8_advance_193 (k193 : Nat → Hp → Option (Hp)) (x0 : Nat) (h : Hp) : Option (Hp) := ob (gI 7 x0 9 h) fun v1 => ob (gI 7 x0 4 h) fun v2 => if v2 ≤ v1 then some h else ob (gI 7 x0 9 h) fun v4 => ob (fX8_byteAt x0 v4 h) fun v5 => ob (fX8_isDigit v5) fun v6 => if v6 = 0 then some h else ob (gI 7 x0 9 h) fun v8 => ob (pI 7 x0 9 (v8 + 1) h) fun h => k193 x0 h
theorem wfX8_advance_193 {k193 : Nat → Hp → Option (Hp)} {h9 : Hp} (X : Cx p E A 9 R s m args c cX8_advance yX8_advance.cls 2) (hr : meth.sig.returnType = none) (hlk : meth.locks = false) (hnm : meth.name = yX8_advance.name) (hk193 : ∀ (x0 : Nat) (h : Hp) (H : Heap) (locs : List Loc) (ls : Array Slot), lv_has ls 2 [(0, rv x0)] → St E A s h H locs → k193 x0 h = some h9 → W p l e R s m args below meth c H locs 0 0 (MQ below (Qv E A h9) args s 0 0 A) (F0 m 193 ls [])) :
    ∀ (x0 : Nat) (h : Hp) (H : Heap) (locs : List Loc) (ls : Array Slot), lv_has ls 2 [(0, rv x0)] → St E A s h H locs → fX8_advance_193 k193 x0 h = some h9 → W p l e R s m args below meth c H locs 0 0 (MQ below (Qv E A h9) args s 0 0 A) (F0 m 193 ls []) := by
  intro x0 h H locs ls hl S hf
  unfold fX8_advance_193 at hf
  refine g_aload_n X (or_rv _) dX8_advance_193 rfl (lv_at hl 0 rfl) ?_
  refine g_gI X S foX8_48 rfl dX8_advance_194 hf (fun v1 hf => ?_)
  refine g_aload_n X (or_rv _) dX8_advance_197 rfl (lv_at hl 0 rfl) ?_
  refine g_gI X S foX8_38 rfl dX8_advance_198 hf (fun v2 hf => ?_)
  refine lv_icmp_ge (tgt := 336) X.1 X.2.1 dX8_advance_201 (by decide) (fun c3 => ?_) (fun c3 => ?_)
  · replace hf := (if_pos c3).symm.trans hf
    cases hf; exact g_rv X S hr hlk dX8_advance_336
  · replace hf := (if_neg c3).symm.trans hf
    refine g_aload_n X (or_rv _) dX8_advance_204 rfl (lv_at hl 0 rfl) ?_
    refine g_aload_n X (or_rv _) dX8_advance_205 rfl (lv_at hl 0 rfl) ?_
    refine g_gI X S foX8_48 rfl dX8_advance_206 hf (fun v4 hf => ?_)
    obtain ⟨v5, hc, hf⟩ := ob_some hf
    refine g_ci S (runV (As := [.int v4]) (rest := []) X S coX8_107 (by decide) (cX8_byteAt_m l hc) (tkX8_byteAt hc) rfl hl.1 (by decide) rfl ⟨Nat.zero_le _, Nat.zero_le _⟩ dX8_advance_209) (fun H locs S => ?_)
    obtain ⟨v6, hc, hf⟩ := ob_some hf
    refine g_ci S (runS (As := [.int v5]) (rest := []) X S coX8_228 (by decide) (cX8_isDigit_m l hc) rfl hl.1 (by decide) rfl ⟨Nat.zero_le _, Nat.zero_le _⟩ dX8_advance_212) (fun H locs S => ?_)
    refine lv_if_eq (tgt := 336) X.1 X.2.1 dX8_advance_215 (by decide) (fun c7 => ?_) (fun c7 => ?_)
    · replace hf := (if_pos c7).symm.trans hf
      cases hf; exact g_rv X S hr hlk dX8_advance_336
    · replace hf := (if_neg c7).symm.trans hf
      refine g_aload_n X (or_rv _) dX8_advance_218 rfl (lv_at hl 0 rfl) ?_
      refine lv_dup X.1 X.2.1 dX8_advance_219 (cat_rv _) ?_
      refine g_gI X S foX8_48 rfl dX8_advance_220 hf (fun v8 hf => ?_)
      refine lv_iconst (v := 1) X.1 X.2.1 dX8_advance_223 (by decide) ?_
      refine lv_iadd X.1 X.2.1 dX8_advance_224 ?_
      refine g_pI X S fpX8_48 (Or.inl rfl) dX8_advance_225 hf (fun h H locs hm hf S => ?_)
      refine lv_goto (tgt := 193) X.1 X.2.1 dX8_advance_228 (by decide) ?_
      exact hk193 _ _ _ _ _ hl S hf
theorem wfX8_advance_193_l {h9 : Hp} (X : Cx p E A 9 R s m args c cX8_advance yX8_advance.cls 2) (hr : meth.sig.returnType = none) (hlk : meth.locks = false) (hnm : meth.name = yX8_advance.name) :
    ∀ (n : Nat) (x0 : Nat) (h : Hp) (H : Heap) (locs : List Loc) (ls : Array Slot), lv_has ls 2 [(0, rv x0)] → St E A s h H locs → lp (fun _ _ => none) (fX8_advance_193) n x0 h = some h9 → W p l e R s m args below meth c H locs 0 0 (MQ below (Qv E A h9) args s 0 0 A) (F0 m 193 ls []) := by
  intro n
  induction n with
  | zero =>
    intro x0 h H locs ls hl S hf
    exact nomatch hf
  | succ n ih =>
    intro x0 h H locs ls hl S hf
    exact wfX8_advance_193 X hr hlk hnm ih x0 h H locs ls hl S hf
def fX8_advance_296 (y0 : Int32) (y1 : Nat) (h : Hp) : Option (Hp) := ob (pI 7 y1 6 y0 h) fun h => some h
theorem wfX8_advance_296 {h9 : Hp} (X : Cx p E A 9 R s m args c cX8_advance yX8_advance.cls 2) (hr : meth.sig.returnType = none) (hlk : meth.locks = false) (hnm : meth.name = yX8_advance.name) :
    ∀ (y0 : Int32) (y1 : Nat) (h : Hp) (H : Heap) (locs : List Loc) (ls : Array Slot), lv_has ls 2 [] → St E A s h H locs → fX8_advance_296 y0 y1 h = some h9 → W p l e R s m args below meth c H locs 0 0 (MQ below (Qv E A h9) args s 0 0 A) (F0 m 296 ls [.int y0, rv y1]) := by
  intro y0 y1 h H locs ls hl S hf
  unfold fX8_advance_296 at hf
  refine g_pI X S fpX8_54 (Or.inl rfl) dX8_advance_296 hf (fun h H locs hm hf S => ?_)
  refine lv_goto (tgt := 336) X.1 X.2.1 dX8_advance_299 (by decide) ?_
  cases hf; exact g_rv X S hr hlk dX8_advance_336
def fX8_advance_276 (x0 : Nat) (h : Hp) : Option (Hp) := ob (gI 7 x0 9 h) fun v1 => ob (gI 7 x0 8 h) fun v2 => if (v1 - v2) ≤ 1 then fX8_advance_296 6 x0 h else fX8_advance_296 3 x0 h
theorem wfX8_advance_276 {h9 : Hp} (X : Cx p E A 9 R s m args c cX8_advance yX8_advance.cls 2) (hr : meth.sig.returnType = none) (hlk : meth.locks = false) (hnm : meth.name = yX8_advance.name) :
    ∀ (x0 : Nat) (h : Hp) (H : Heap) (locs : List Loc) (ls : Array Slot), lv_has ls 2 [(0, rv x0)] → St E A s h H locs → fX8_advance_276 x0 h = some h9 → W p l e R s m args below meth c H locs 0 0 (MQ below (Qv E A h9) args s 0 0 A) (F0 m 276 ls []) := by
  intro x0 h H locs ls hl S hf
  unfold fX8_advance_276 at hf
  refine g_aload_n X (or_rv _) dX8_advance_276 rfl (lv_at hl 0 rfl) ?_
  refine g_aload_n X (or_rv _) dX8_advance_277 rfl (lv_at hl 0 rfl) ?_
  refine g_gI X S foX8_48 rfl dX8_advance_278 hf (fun v1 hf => ?_)
  refine g_aload_n X (or_rv _) dX8_advance_281 rfl (lv_at hl 0 rfl) ?_
  refine g_gI X S foX8_101 rfl dX8_advance_282 hf (fun v2 hf => ?_)
  refine lv_isub X.1 X.2.1 dX8_advance_285 ?_
  refine lv_iconst (v := 1) X.1 X.2.1 dX8_advance_286 (by decide) ?_
  refine lv_icmp_le (tgt := 294) X.1 X.2.1 dX8_advance_287 (by decide) (fun c3 => ?_) (fun c3 => ?_)
  · replace hf := (if_pos c3).symm.trans hf
    refine lv_bipush (v := 6) X.1 X.2.1 dX8_advance_294 (by decide) ?_
    exact wfX8_advance_296 X hr hlk hnm _ _ _ _ _ _ (lv_sub hl [] rfl) S hf
  · replace hf := (if_neg c3).symm.trans hf
    refine lv_iconst (v := 3) X.1 X.2.1 dX8_advance_290 (by decide) ?_
    refine lv_goto (tgt := 296) X.1 X.2.1 dX8_advance_291 (by decide) ?_
    exact wfX8_advance_296 X hr hlk hnm _ _ _ _ _ _ (lv_sub hl [] rfl) S hf
def fX8_advance_237 (k237 : Nat → Hp → Option (Hp)) (x0 : Nat) (h : Hp) : Option (Hp) := ob (gI 7 x0 9 h) fun v1 => ob (gI 7 x0 4 h) fun v2 => if v2 ≤ v1 then fX8_advance_276 x0 h else ob (gI 7 x0 9 h) fun v4 => ob (fX8_byteAt x0 v4 h) fun v5 => ob (fX8_hexDigit v5) fun v6 => if v6 = (-1) then fX8_advance_276 x0 h else ob (gI 7 x0 9 h) fun v8 => ob (pI 7 x0 9 (v8 + 1) h) fun h => k237 x0 h
theorem wfX8_advance_237 {k237 : Nat → Hp → Option (Hp)} {h9 : Hp} (X : Cx p E A 9 R s m args c cX8_advance yX8_advance.cls 2) (hr : meth.sig.returnType = none) (hlk : meth.locks = false) (hnm : meth.name = yX8_advance.name) (hk237 : ∀ (x0 : Nat) (h : Hp) (H : Heap) (locs : List Loc) (ls : Array Slot), lv_has ls 2 [(0, rv x0)] → St E A s h H locs → k237 x0 h = some h9 → W p l e R s m args below meth c H locs 0 0 (MQ below (Qv E A h9) args s 0 0 A) (F0 m 237 ls [])) :
    ∀ (x0 : Nat) (h : Hp) (H : Heap) (locs : List Loc) (ls : Array Slot), lv_has ls 2 [(0, rv x0)] → St E A s h H locs → fX8_advance_237 k237 x0 h = some h9 → W p l e R s m args below meth c H locs 0 0 (MQ below (Qv E A h9) args s 0 0 A) (F0 m 237 ls []) := by
  intro x0 h H locs ls hl S hf
  unfold fX8_advance_237 at hf
  refine g_aload_n X (or_rv _) dX8_advance_237 rfl (lv_at hl 0 rfl) ?_
  refine g_gI X S foX8_48 rfl dX8_advance_238 hf (fun v1 hf => ?_)
  refine g_aload_n X (or_rv _) dX8_advance_241 rfl (lv_at hl 0 rfl) ?_
  refine g_gI X S foX8_38 rfl dX8_advance_242 hf (fun v2 hf => ?_)
  refine lv_icmp_ge (tgt := 276) X.1 X.2.1 dX8_advance_245 (by decide) (fun c3 => ?_) (fun c3 => ?_)
  · replace hf := (if_pos c3).symm.trans hf
    exact wfX8_advance_276 X hr hlk hnm _ _ _ _ _ hl S hf
  · replace hf := (if_neg c3).symm.trans hf
    refine g_aload_n X (or_rv _) dX8_advance_248 rfl (lv_at hl 0 rfl) ?_
    refine g_aload_n X (or_rv _) dX8_advance_249 rfl (lv_at hl 0 rfl) ?_
    refine g_gI X S foX8_48 rfl dX8_advance_250 hf (fun v4 hf => ?_)
    obtain ⟨v5, hc, hf⟩ := ob_some hf
    refine g_ci S (runV (As := [.int v4]) (rest := []) X S coX8_107 (by decide) (cX8_byteAt_m l hc) (tkX8_byteAt hc) rfl hl.1 (by decide) rfl ⟨Nat.zero_le _, Nat.zero_le _⟩ dX8_advance_253) (fun H locs S => ?_)
    obtain ⟨v6, hc, hf⟩ := ob_some hf
    refine g_ci S (runS (As := [.int v5]) (rest := []) X S coX8_111 (by decide) (cX8_hexDigit_m l hc) rfl hl.1 (by decide) rfl ⟨Nat.zero_le _, Nat.zero_le _⟩ dX8_advance_256) (fun H locs S => ?_)
    refine lv_iconst (v := (-1)) X.1 X.2.1 dX8_advance_259 (by decide) ?_
    refine lv_icmp_eq (tgt := 276) X.1 X.2.1 dX8_advance_260 (by decide) (fun c7 => ?_) (fun c7 => ?_)
    · replace hf := (if_pos c7).symm.trans hf
      exact wfX8_advance_276 X hr hlk hnm _ _ _ _ _ hl S hf
    · replace hf := (if_neg c7).symm.trans hf
      refine g_aload_n X (or_rv _) dX8_advance_263 rfl (lv_at hl 0 rfl) ?_
      refine lv_dup X.1 X.2.1 dX8_advance_264 (cat_rv _) ?_
      refine g_gI X S foX8_48 rfl dX8_advance_265 hf (fun v8 hf => ?_)
      refine lv_iconst (v := 1) X.1 X.2.1 dX8_advance_268 (by decide) ?_
      refine lv_iadd X.1 X.2.1 dX8_advance_269 ?_
      refine g_pI X S fpX8_48 (Or.inl rfl) dX8_advance_270 hf (fun h H locs hm hf S => ?_)
      refine lv_goto (tgt := 237) X.1 X.2.1 dX8_advance_273 (by decide) ?_
      exact hk237 _ _ _ _ _ hl S hf
theorem wfX8_advance_237_l {h9 : Hp} (X : Cx p E A 9 R s m args c cX8_advance yX8_advance.cls 2) (hr : meth.sig.returnType = none) (hlk : meth.locks = false) (hnm : meth.name = yX8_advance.name) :
    ∀ (n : Nat) (x0 : Nat) (h : Hp) (H : Heap) (locs : List Loc) (ls : Array Slot), lv_has ls 2 [(0, rv x0)] → St E A s h H locs → lp (fun _ _ => none) (fX8_advance_237) n x0 h = some h9 → W p l e R s m args below meth c H locs 0 0 (MQ below (Qv E A h9) args s 0 0 A) (F0 m 237 ls []) := by
  intro n
  induction n with
  | zero =>
    intro x0 h H locs ls hl S hf
    exact nomatch hf
  | succ n ih =>
    intro x0 h H locs ls hl S hf
    exact wfX8_advance_237 X hr hlk hnm ih x0 h H locs ls hl S hf
def fX8_advance_327 (k333 : Int32 → Nat → Hp → Option (Hp)) (y0 : Nat) (h : Hp) : Option (Hp) := k333 4 y0 h
theorem wfX8_advance_327 {k333 : Int32 → Nat → Hp → Option (Hp)} {h9 : Hp} (X : Cx p E A 9 R s m args c cX8_advance yX8_advance.cls 2) (hr : meth.sig.returnType = none) (hlk : meth.locks = false) (hnm : meth.name = yX8_advance.name) (hk333 : ∀ (y0 : Int32) (y1 : Nat) (h : Hp) (H : Heap) (locs : List Loc) (ls : Array Slot), lv_has ls 2 [] → St E A s h H locs → k333 y0 y1 h = some h9 → W p l e R s m args below meth c H locs 0 0 (MQ below (Qv E A h9) args s 0 0 A) (F0 m 333 ls [.int y0, rv y1])) :
    ∀ (y0 : Nat) (h : Hp) (H : Heap) (locs : List Loc) (ls : Array Slot), lv_has ls 2 [] → St E A s h H locs → fX8_advance_327 k333 y0 h = some h9 → W p l e R s m args below meth c H locs 0 0 (MQ below (Qv E A h9) args s 0 0 A) (F0 m 327 ls [rv y0]) := by
  intro y0 h H locs ls hl S hf
  unfold fX8_advance_327 at hf
  refine lv_iconst (v := 4) X.1 X.2.1 dX8_advance_327 (by decide) ?_
  refine lv_goto (tgt := 333) X.1 X.2.1 dX8_advance_328 (by decide) ?_
  exact hk333 _ _ _ _ _ _ hl S hf
def fX8_advance_333 (y0 : Int32) (y1 : Nat) (h : Hp) : Option (Hp) := ob (pI 7 y1 6 y0 h) fun h => some h
theorem wfX8_advance_333 {h9 : Hp} (X : Cx p E A 9 R s m args c cX8_advance yX8_advance.cls 2) (hr : meth.sig.returnType = none) (hlk : meth.locks = false) (hnm : meth.name = yX8_advance.name) :
    ∀ (y0 : Int32) (y1 : Nat) (h : Hp) (H : Heap) (locs : List Loc) (ls : Array Slot), lv_has ls 2 [] → St E A s h H locs → fX8_advance_333 y0 y1 h = some h9 → W p l e R s m args below meth c H locs 0 0 (MQ below (Qv E A h9) args s 0 0 A) (F0 m 333 ls [.int y0, rv y1]) := by
  intro y0 y1 h H locs ls hl S hf
  unfold fX8_advance_333 at hf
  refine g_pI X S fpX8_54 (Or.inl rfl) dX8_advance_333 hf (fun h H locs hm hf S => ?_)
  cases hf; exact g_rv X S hr hlk dX8_advance_336
def fX8_advance_58 (x0 : Nat) (h : Hp) : Option (Hp) := ob (gI 7 x0 8 h) fun v1 => ob (pI 7 x0 9 (v1 + 1) h) fun h => ob (pR 7 x0 7 0 h) fun h => ob (gI 7 x0 8 h) fun v2 => ob (fX8_byteAt x0 v2 h) fun v3 => ob (gI 7 x0 8 h) fun v4 => ob (gI 7 x0 4 h) fun v5 => if v4 < v5 then ob (fX8_isLetter v3) fun v7 => if v7 = 0 then ob (fX8_isDigit v3) fun v9 => if v9 = 0 then if v3 = 35 then lp (fun _ _ => none) (fX8_advance_237) FU x0 h else if v3 = 59 then fX8_advance_327 fX8_advance_333 x0 h else if v3 = 58 then fX8_advance_327 fX8_advance_333 x0 h else if v3 = 37 then fX8_advance_327 fX8_advance_333 x0 h else if v3 = 45 then fX8_advance_327 fX8_advance_333 x0 h else fX8_advance_333 6 x0 h else ob (pI 7 x0 6 2 h) fun h => lp (fun _ _ => none) (fX8_advance_193) FU x0 h else ob (pI 7 x0 6 1 h) fun h => lp (fun _ _ => none) (fX8_advance_121) FU x0 h else ob (pI 7 x0 6 5 h) fun h => ob (gI 7 x0 8 h) fun v16 => ob (pI 7 x0 9 v16 h) fun h => some h
theorem wfX8_advance_58 {h9 : Hp} (X : Cx p E A 9 R s m args c cX8_advance yX8_advance.cls 2) (hr : meth.sig.returnType = none) (hlk : meth.locks = false) (hnm : meth.name = yX8_advance.name) :
    ∀ (x0 : Nat) (h : Hp) (H : Heap) (locs : List Loc) (ls : Array Slot), lv_has ls 2 [(0, rv x0)] → St E A s h H locs → fX8_advance_58 x0 h = some h9 → W p l e R s m args below meth c H locs 0 0 (MQ below (Qv E A h9) args s 0 0 A) (F0 m 58 ls []) := by
  intro x0 h H locs ls hl S hf
  unfold fX8_advance_58 at hf
  refine g_aload_n X (or_rv _) dX8_advance_58 rfl (lv_at hl 0 rfl) ?_
  refine g_aload_n X (or_rv _) dX8_advance_59 rfl (lv_at hl 0 rfl) ?_
  refine g_gI X S foX8_101 rfl dX8_advance_60 hf (fun v1 hf => ?_)
  refine lv_iconst (v := 1) X.1 X.2.1 dX8_advance_63 (by decide) ?_
  refine lv_iadd X.1 X.2.1 dX8_advance_64 ?_
  refine g_pI X S fpX8_48 (Or.inl rfl) dX8_advance_65 hf (fun h H locs hm hf S => ?_)
  refine g_aload_n X (or_rv _) dX8_advance_68 rfl (lv_at hl 0 rfl) ?_
  refine lv_null X.1 X.2.1 dX8_advance_69 ?_
  refine g_pW X S fpX8_66 (Or.inl ⟨_, rfl⟩) (Or.inl rfl) dX8_advance_70 hf (fun h H locs hm hf S => ?_)
  refine g_aload_n X (or_rv _) dX8_advance_73 rfl (lv_at hl 0 rfl) ?_
  refine g_aload_n X (or_rv _) dX8_advance_74 rfl (lv_at hl 0 rfl) ?_
  refine g_gI X S foX8_101 rfl dX8_advance_75 hf (fun v2 hf => ?_)
  obtain ⟨v3, hc, hf⟩ := ob_some hf
  refine g_ci S (runV (As := [.int v2]) (rest := []) X S coX8_107 (by decide) (cX8_byteAt_m l hc) (tkX8_byteAt hc) rfl hl.1 (by decide) rfl ⟨Nat.zero_le _, Nat.zero_le _⟩ dX8_advance_78) (fun H locs S => ?_)
  refine lv_istore_n (i := 1) (lv' := [(1, .int v3), (0, rv x0)]) X.1 X.2.1 dX8_advance_81 rfl hl (by decide) (by simp [List.filter, cat_rv, cat_wv, cat_sv]) (fun ls hl => ?_)
  refine g_aload_n X (or_rv _) dX8_advance_82 rfl (lv_at hl 1 rfl) ?_
  refine g_gI X S foX8_101 rfl dX8_advance_83 hf (fun v4 hf => ?_)
  refine g_aload_n X (or_rv _) dX8_advance_86 rfl (lv_at hl 1 rfl) ?_
  refine g_gI X S foX8_38 rfl dX8_advance_87 hf (fun v5 hf => ?_)
  refine lv_icmp_lt (tgt := 109) X.1 X.2.1 dX8_advance_90 (by decide) (fun c6 => ?_) (fun c6 => ?_)
  · replace hf := (if_pos c6).symm.trans hf
    refine lv_iload_n X.1 X.2.1 dX8_advance_109 rfl (lv_at hl 0 rfl) ?_
    obtain ⟨v7, hc, hf⟩ := ob_some hf
    refine g_ci S (runS (As := [.int v3]) (rest := []) X S coX8_222 (by decide) (cX8_isLetter_m l hc) rfl hl.1 (by decide) rfl ⟨Nat.zero_le _, Nat.zero_le _⟩ dX8_advance_110) (fun H locs S => ?_)
    refine lv_if_eq (tgt := 181) X.1 X.2.1 dX8_advance_113 (by decide) (fun c8 => ?_) (fun c8 => ?_)
    · replace hf := (if_pos c8).symm.trans hf
      refine lv_iload_n X.1 X.2.1 dX8_advance_181 rfl (lv_at hl 0 rfl) ?_
      obtain ⟨v9, hc, hf⟩ := ob_some hf
      refine g_ci S (runS (As := [.int v3]) (rest := []) X S coX8_228 (by decide) (cX8_isDigit_m l hc) rfl hl.1 (by decide) rfl ⟨Nat.zero_le _, Nat.zero_le _⟩ dX8_advance_182) (fun H locs S => ?_)
      refine lv_if_eq (tgt := 231) X.1 X.2.1 dX8_advance_185 (by decide) (fun c10 => ?_) (fun c10 => ?_)
      · replace hf := (if_pos c10).symm.trans hf
        refine lv_iload_n X.1 X.2.1 dX8_advance_231 rfl (lv_at hl 0 rfl) ?_
        refine lv_bipush (v := 35) X.1 X.2.1 dX8_advance_232 (by decide) ?_
        refine lv_icmp_ne (tgt := 302) X.1 X.2.1 dX8_advance_234 (by decide) (fun c11 => ?_) (fun c11 => ?_)
        · replace hf := (if_neg c11).symm.trans hf
          refine g_aload_n X (or_rv _) dX8_advance_302 rfl (lv_at hl 1 rfl) ?_
          refine lv_iload_n X.1 X.2.1 dX8_advance_303 rfl (lv_at hl 0 rfl) ?_
          refine lv_bipush (v := 59) X.1 X.2.1 dX8_advance_304 (by decide) ?_
          refine lv_icmp_eq (tgt := 327) X.1 X.2.1 dX8_advance_306 (by decide) (fun c12 => ?_) (fun c12 => ?_)
          · replace hf := (if_pos c12).symm.trans hf
            exact wfX8_advance_327 X hr hlk hnm (wfX8_advance_333 X hr hlk hnm) _ _ _ _ _ (lv_sub hl [] rfl) S hf
          · replace hf := (if_neg c12).symm.trans hf
            refine lv_iload_n X.1 X.2.1 dX8_advance_309 rfl (lv_at hl 0 rfl) ?_
            refine lv_bipush (v := 58) X.1 X.2.1 dX8_advance_310 (by decide) ?_
            refine lv_icmp_eq (tgt := 327) X.1 X.2.1 dX8_advance_312 (by decide) (fun c13 => ?_) (fun c13 => ?_)
            · replace hf := (if_pos c13).symm.trans hf
              exact wfX8_advance_327 X hr hlk hnm (wfX8_advance_333 X hr hlk hnm) _ _ _ _ _ (lv_sub hl [] rfl) S hf
            · replace hf := (if_neg c13).symm.trans hf
              refine lv_iload_n X.1 X.2.1 dX8_advance_315 rfl (lv_at hl 0 rfl) ?_
              refine lv_bipush (v := 37) X.1 X.2.1 dX8_advance_316 (by decide) ?_
              refine lv_icmp_eq (tgt := 327) X.1 X.2.1 dX8_advance_318 (by decide) (fun c14 => ?_) (fun c14 => ?_)
              · replace hf := (if_pos c14).symm.trans hf
                exact wfX8_advance_327 X hr hlk hnm (wfX8_advance_333 X hr hlk hnm) _ _ _ _ _ (lv_sub hl [] rfl) S hf
              · replace hf := (if_neg c14).symm.trans hf
                refine lv_iload_n X.1 X.2.1 dX8_advance_321 rfl (lv_at hl 0 rfl) ?_
                refine lv_bipush (v := 45) X.1 X.2.1 dX8_advance_322 (by decide) ?_
                refine lv_icmp_ne (tgt := 331) X.1 X.2.1 dX8_advance_324 (by decide) (fun c15 => ?_) (fun c15 => ?_)
                · replace hf := (if_neg c15).symm.trans hf
                  refine lv_bipush (v := 6) X.1 X.2.1 dX8_advance_331 (by decide) ?_
                  exact wfX8_advance_333 X hr hlk hnm _ _ _ _ _ _ (lv_sub hl [] rfl) S hf
                · replace hf := (if_pos c15).symm.trans hf
                  exact wfX8_advance_327 X hr hlk hnm (wfX8_advance_333 X hr hlk hnm) _ _ _ _ _ (lv_sub hl [] rfl) S hf
        · replace hf := (if_pos c11).symm.trans hf
          exact wfX8_advance_237_l X hr hlk hnm FU _ _ _ _ _ (lv_sub hl [1] rfl) S hf
      · replace hf := (if_neg c10).symm.trans hf
        refine g_aload_n X (or_rv _) dX8_advance_188 rfl (lv_at hl 1 rfl) ?_
        refine lv_iconst (v := 2) X.1 X.2.1 dX8_advance_189 (by decide) ?_
        refine g_pI X S fpX8_54 (Or.inl rfl) dX8_advance_190 hf (fun h H locs hm hf S => ?_)
        exact wfX8_advance_193_l X hr hlk hnm FU _ _ _ _ _ (lv_sub hl [1] rfl) S hf
    · replace hf := (if_neg c8).symm.trans hf
      refine g_aload_n X (or_rv _) dX8_advance_116 rfl (lv_at hl 1 rfl) ?_
      refine lv_iconst (v := 1) X.1 X.2.1 dX8_advance_117 (by decide) ?_
      refine g_pI X S fpX8_54 (Or.inl rfl) dX8_advance_118 hf (fun h H locs hm hf S => ?_)
      exact wfX8_advance_121_l X hr hlk hnm FU _ _ _ _ _ (lv_sub hl [1] rfl) S hf
  · replace hf := (if_neg c6).symm.trans hf
    refine g_aload_n X (or_rv _) dX8_advance_93 rfl (lv_at hl 1 rfl) ?_
    refine lv_iconst (v := 5) X.1 X.2.1 dX8_advance_94 (by decide) ?_
    refine g_pI X S fpX8_54 (Or.inl rfl) dX8_advance_95 hf (fun h H locs hm hf S => ?_)
    refine g_aload_n X (or_rv _) dX8_advance_98 rfl (lv_at hl 1 rfl) ?_
    refine g_aload_n X (or_rv _) dX8_advance_99 rfl (lv_at hl 1 rfl) ?_
    refine g_gI X S foX8_101 rfl dX8_advance_100 hf (fun v16 hf => ?_)
    refine g_pI X S fpX8_48 (Or.inl rfl) dX8_advance_103 hf (fun h H locs hm hf S => ?_)
    refine lv_goto (tgt := 336) X.1 X.2.1 dX8_advance_106 (by decide) ?_
    cases hf; exact g_rv X S hr hlk dX8_advance_336
def fX8_advance_8 (k8 : Nat → Hp → Option (Hp)) (x0 : Nat) (h : Hp) : Option (Hp) := ob (gI 7 x0 8 h) fun v1 => ob (gI 7 x0 4 h) fun v2 => if v2 ≤ v1 then fX8_advance_58 x0 h else ob (gI 7 x0 8 h) fun v4 => ob (fX8_byteAt x0 v4 h) fun v5 => if v5 = 32 then fX8_advance_45 k8 x0 h else ob (gI 7 x0 8 h) fun v7 => ob (fX8_byteAt x0 v7 h) fun v8 => if v8 = 10 then fX8_advance_45 k8 x0 h else fX8_advance_58 x0 h
theorem wfX8_advance_8 {k8 : Nat → Hp → Option (Hp)} {h9 : Hp} (X : Cx p E A 9 R s m args c cX8_advance yX8_advance.cls 2) (hr : meth.sig.returnType = none) (hlk : meth.locks = false) (hnm : meth.name = yX8_advance.name) (hk8 : ∀ (x0 : Nat) (h : Hp) (H : Heap) (locs : List Loc) (ls : Array Slot), lv_has ls 2 [(0, rv x0)] → St E A s h H locs → k8 x0 h = some h9 → W p l e R s m args below meth c H locs 0 0 (MQ below (Qv E A h9) args s 0 0 A) (F0 m 8 ls [])) :
    ∀ (x0 : Nat) (h : Hp) (H : Heap) (locs : List Loc) (ls : Array Slot), lv_has ls 2 [(0, rv x0)] → St E A s h H locs → fX8_advance_8 k8 x0 h = some h9 → W p l e R s m args below meth c H locs 0 0 (MQ below (Qv E A h9) args s 0 0 A) (F0 m 8 ls []) := by
  intro x0 h H locs ls hl S hf
  unfold fX8_advance_8 at hf
  refine g_aload_n X (or_rv _) dX8_advance_8 rfl (lv_at hl 0 rfl) ?_
  refine g_gI X S foX8_101 rfl dX8_advance_9 hf (fun v1 hf => ?_)
  refine g_aload_n X (or_rv _) dX8_advance_12 rfl (lv_at hl 0 rfl) ?_
  refine g_gI X S foX8_38 rfl dX8_advance_13 hf (fun v2 hf => ?_)
  refine lv_icmp_ge (tgt := 58) X.1 X.2.1 dX8_advance_16 (by decide) (fun c3 => ?_) (fun c3 => ?_)
  · replace hf := (if_pos c3).symm.trans hf
    exact wfX8_advance_58 X hr hlk hnm _ _ _ _ _ hl S hf
  · replace hf := (if_neg c3).symm.trans hf
    refine g_aload_n X (or_rv _) dX8_advance_19 rfl (lv_at hl 0 rfl) ?_
    refine g_aload_n X (or_rv _) dX8_advance_20 rfl (lv_at hl 0 rfl) ?_
    refine g_gI X S foX8_101 rfl dX8_advance_21 hf (fun v4 hf => ?_)
    obtain ⟨v5, hc, hf⟩ := ob_some hf
    refine g_ci S (runV (As := [.int v4]) (rest := []) X S coX8_107 (by decide) (cX8_byteAt_m l hc) (tkX8_byteAt hc) rfl hl.1 (by decide) rfl ⟨Nat.zero_le _, Nat.zero_le _⟩ dX8_advance_24) (fun H locs S => ?_)
    refine lv_bipush (v := 32) X.1 X.2.1 dX8_advance_27 (by decide) ?_
    refine lv_icmp_eq (tgt := 45) X.1 X.2.1 dX8_advance_29 (by decide) (fun c6 => ?_) (fun c6 => ?_)
    · replace hf := (if_pos c6).symm.trans hf
      exact wfX8_advance_45 X hr hlk hnm hk8 _ _ _ _ _ hl S hf
    · replace hf := (if_neg c6).symm.trans hf
      refine g_aload_n X (or_rv _) dX8_advance_32 rfl (lv_at hl 0 rfl) ?_
      refine g_aload_n X (or_rv _) dX8_advance_33 rfl (lv_at hl 0 rfl) ?_
      refine g_gI X S foX8_101 rfl dX8_advance_34 hf (fun v7 hf => ?_)
      obtain ⟨v8, hc, hf⟩ := ob_some hf
      refine g_ci S (runV (As := [.int v7]) (rest := []) X S coX8_107 (by decide) (cX8_byteAt_m l hc) (tkX8_byteAt hc) rfl hl.1 (by decide) rfl ⟨Nat.zero_le _, Nat.zero_le _⟩ dX8_advance_37) (fun H locs S => ?_)
      refine lv_bipush (v := 10) X.1 X.2.1 dX8_advance_40 (by decide) ?_
      refine lv_icmp_ne (tgt := 58) X.1 X.2.1 dX8_advance_42 (by decide) (fun c9 => ?_) (fun c9 => ?_)
      · replace hf := (if_neg c9).symm.trans hf
        exact wfX8_advance_58 X hr hlk hnm _ _ _ _ _ hl S hf
      · replace hf := (if_pos c9).symm.trans hf
        exact wfX8_advance_45 X hr hlk hnm hk8 _ _ _ _ _ hl S hf
theorem wfX8_advance_8_l {h9 : Hp} (X : Cx p E A 9 R s m args c cX8_advance yX8_advance.cls 2) (hr : meth.sig.returnType = none) (hlk : meth.locks = false) (hnm : meth.name = yX8_advance.name) :
    ∀ (n : Nat) (x0 : Nat) (h : Hp) (H : Heap) (locs : List Loc) (ls : Array Slot), lv_has ls 2 [(0, rv x0)] → St E A s h H locs → lp (fun _ _ => none) (fX8_advance_8) n x0 h = some h9 → W p l e R s m args below meth c H locs 0 0 (MQ below (Qv E A h9) args s 0 0 A) (F0 m 8 ls []) := by
  intro n
  induction n with
  | zero =>
    intro x0 h H locs ls hl S hf
    exact nomatch hf
  | succ n ih =>
    intro x0 h H locs ls hl S hf
    exact wfX8_advance_8 X hr hlk hnm ih x0 h H locs ls hl S hf
def fX8_advance (a0 : Nat) (h : Hp) : Option (Hp) := gd 7 a0 h (ob (gI 7 a0 9 h) fun v1 => ob (pI 7 a0 8 v1 h) fun h => lp (fun _ _ => none) (fX8_advance_8) FU a0 h)
theorem tkX8_advance {a0 : Nat} {h : Hp} {r9 : Hp} (e : fX8_advance a0 h = some r9) : hK h a0 = 7 := by
  unfold fX8_advance at e
  exact (gd_some e).1
theorem cX8_advance_m (l : Launch) {E : EE} {A : Nat → Prop} {a0 : Nat} {h : Hp} {h9 : Hp} (hf : fX8_advance a0 h = some h9) : Met l yX8_advance (wsM yX8_advance cX8_advance 2 none) (rmm 9 0 0) (PcE E A h [rv a0]) (Qv E A h9) 0 0 A := by
  refine met_of (by decide +kernel) (by simp [lg_sl, cat_rv, cat_wv, cat_sv, cat_i, cat_l, cat_a]) (fun p e s m args below meth c ls X hr hlk hnm S hl => ?_)
  have hl : lv_has ls 2 [(0, rv a0)] := by simpa [lv_args, cat_rv, cat_wv, cat_sv, cat_i, cat_l, cat_a] using hl
  generalize hH : s.heap = H at S ⊢
  generalize hlo : ([] : List Loc) = locs at S ⊢
  clear hH hlo
  unfold fX8_advance at hf
  obtain ⟨hth, hf⟩ := gd_some hf
  refine g_aload_n X (or_rv _) dX8_advance_0 rfl (lv_at hl 0 rfl) ?_
  refine g_aload_n X (or_rv _) dX8_advance_1 rfl (lv_at hl 0 rfl) ?_
  refine g_gI X S foX8_48 rfl dX8_advance_2 hf (fun v1 hf => ?_)
  refine g_pI X S fpX8_101 (Or.inl rfl) dX8_advance_5 hf (fun h H locs hm hf S => ?_)
  exact wfX8_advance_8_l X hr hlk hnm FU _ _ _ _ _ hl S hf
def fX8_fail (a0 : Nat) (a1 : Int32) (h : Hp) : Option (Hp) := gd 7 a0 h (ob (gI 7 a0 10 h) fun v1 => if v1 = 0 then ob (pI 7 a0 10 a1 h) fun h => ob (gI 7 a0 8 h) fun v3 => ob (pI 7 a0 11 v3 h) fun h => some h else some h)
theorem tkX8_fail {a0 : Nat} {a1 : Int32} {h : Hp} {r9 : Hp} (e : fX8_fail a0 a1 h = some r9) : hK h a0 = 7 := by
  unfold fX8_fail at e
  exact (gd_some e).1
theorem cX8_fail_m (l : Launch) {E : EE} {A : Nat → Prop} {a0 : Nat} {a1 : Int32} {h : Hp} {h9 : Hp} (hf : fX8_fail a0 a1 h = some h9) : Met l yX8_fail (wsM yX8_fail cX8_fail 2 none) (rmm 8 0 0) (PcE E A h [rv a0, .int a1]) (Qv E A h9) 0 0 A := by
  refine met_of (by decide +kernel) (by simp [lg_sl, cat_rv, cat_wv, cat_sv, cat_i, cat_l, cat_a]) (fun p e s m args below meth c ls X hr hlk hnm S hl => ?_)
  have hl : lv_has ls 2 [(0, rv a0), (1, .int a1)] := by simpa [lv_args, cat_rv, cat_wv, cat_sv, cat_i, cat_l, cat_a] using hl
  generalize hH : s.heap = H at S ⊢
  generalize hlo : ([] : List Loc) = locs at S ⊢
  clear hH hlo
  unfold fX8_fail at hf
  obtain ⟨hth, hf⟩ := gd_some hf
  refine g_aload_n X (or_rv _) dX8_fail_0 rfl (lv_at hl 0 rfl) ?_
  refine g_gI X S foX8_45 rfl dX8_fail_1 hf (fun v1 hf => ?_)
  refine lv_if_ne (tgt := 20) X.1 X.2.1 dX8_fail_4 (by decide) (fun c2 => ?_) (fun c2 => ?_)
  · replace hf := (if_neg c2).symm.trans hf
    cases hf; exact g_rv X S hr hlk dX8_fail_20
  · replace hf := (if_pos c2).symm.trans hf
    refine g_aload_n X (or_rv _) dX8_fail_7 rfl (lv_at hl 0 rfl) ?_
    refine lv_iload_n X.1 X.2.1 dX8_fail_8 rfl (lv_at hl 1 rfl) ?_
    refine g_pI X S fpX8_45 (Or.inl rfl) dX8_fail_9 hf (fun h H locs hm hf S => ?_)
    refine g_aload_n X (or_rv _) dX8_fail_12 rfl (lv_at hl 0 rfl) ?_
    refine g_aload_n X (or_rv _) dX8_fail_13 rfl (lv_at hl 0 rfl) ?_
    refine g_gI X S foX8_101 rfl dX8_fail_14 hf (fun v3 hf => ?_)
    refine g_pI X S fpX8_63 (Or.inl rfl) dX8_fail_17 hf (fun h H locs hm hf S => ?_)
    cases hf; exact g_rv X S hr hlk dX8_fail_20
def fX8_passNumber_15 (x0 : Nat) (h : Hp) : Option (Int32 × Hp) := ob (fX8_fail x0 1 h) fun h => some (0, h)
theorem wfX8_passNumber_15 {r9 : Int32} {h9 : Hp} (X : Cx p E A 10 R s m args c cX8_passNumber yX8_passNumber.cls 5) (hr : meth.sig.returnType = (some .int)) (hlk : meth.locks = false) (hnm : meth.name = yX8_passNumber.name) :
    ∀ (x0 : Nat) (h : Hp) (H : Heap) (locs : List Loc) (ls : Array Slot), lv_has ls 5 [(0, rv x0)] → St E A s h H locs → fX8_passNumber_15 x0 h = some (r9, h9) → W p l e R s m args below meth c H locs 0 0 (MQ below (Qi E A h9 r9) args s 0 0 A) (F0 m 15 ls []) := by
  intro x0 h H locs ls hl S hf
  unfold fX8_passNumber_15 at hf
  refine g_aload_n X (or_rv _) dX8_passNumber_15 rfl (lv_at hl 0 rfl) ?_
  refine lv_iconst (v := 1) X.1 X.2.1 dX8_passNumber_16 (by decide) ?_
  obtain ⟨h, hc, hf⟩ := ob_some hf
  refine g_cv S (runV (As := [.int 1]) (rest := []) X S coX8_104 (by decide) (cX8_fail_m l hc) (tkX8_fail hc) rfl hl.1 (by decide) rfl ⟨Nat.zero_le _, Nat.zero_le _⟩ dX8_passNumber_17) (fun H locs S => ?_)
  refine lv_iconst (v := 0) X.1 X.2.1 dX8_passNumber_20 (by decide) ?_
  cases hf; exact g_ri X S hr hlk dX8_passNumber_21
def fX8_passNumber_75 (x0 : Nat) (h : Hp) : Option (Int32 × Hp) := ob (fX8_fail x0 2 h) fun h => some (0, h)
theorem wfX8_passNumber_75 {r9 : Int32} {h9 : Hp} (X : Cx p E A 10 R s m args c cX8_passNumber yX8_passNumber.cls 5) (hr : meth.sig.returnType = (some .int)) (hlk : meth.locks = false) (hnm : meth.name = yX8_passNumber.name) :
    ∀ (x0 : Nat) (h : Hp) (H : Heap) (locs : List Loc) (ls : Array Slot), lv_has ls 5 [(0, rv x0)] → St E A s h H locs → fX8_passNumber_75 x0 h = some (r9, h9) → W p l e R s m args below meth c H locs 0 0 (MQ below (Qi E A h9 r9) args s 0 0 A) (F0 m 75 ls []) := by
  intro x0 h H locs ls hl S hf
  unfold fX8_passNumber_75 at hf
  refine g_aload_n X (or_rv _) dX8_passNumber_75 rfl (lv_at hl 0 rfl) ?_
  refine lv_iconst (v := 2) X.1 X.2.1 dX8_passNumber_76 (by decide) ?_
  obtain ⟨h, hc, hf⟩ := ob_some hf
  refine g_cv S (runV (As := [.int 2]) (rest := []) X S coX8_104 (by decide) (cX8_fail_m l hc) (tkX8_fail hc) rfl hl.1 (by decide) rfl ⟨Nat.zero_le _, Nat.zero_le _⟩ dX8_passNumber_77) (fun H locs S => ?_)
  refine lv_iconst (v := 0) X.1 X.2.1 dX8_passNumber_80 (by decide) ?_
  cases hf; exact g_ri X S hr hlk dX8_passNumber_81
def fX8_passNumber_30 (k30 : Nat → Int32 → Int32 → Int32 → Int32 → Hp → Option (Int32 × Hp)) (x0 : Nat) (x1 : Int32) (x2 : Int32) (x3 : Int32) (x4 : Int32) (h : Hp) : Option (Int32 × Hp) := ob (gI 7 x0 9 h) fun v1 => if v1 ≤ x4 then if x3 < x1 then fX8_passNumber_75 x0 h else if x3 ≤ x2 then ob (fX8_advance x0 h) fun h => some (x3, h) else fX8_passNumber_75 x0 h else ob (fX8_byteAt x0 x4 h) fun v6 => lt (imin (((x3 * 10) + v6) - 48) 1000000) fun z7 => lt (x4 + 1) fun z8 => k30 x0 x1 x2 z7 z8 h
theorem wfX8_passNumber_30 {k30 : Nat → Int32 → Int32 → Int32 → Int32 → Hp → Option (Int32 × Hp)} {r9 : Int32} {h9 : Hp} (X : Cx p E A 10 R s m args c cX8_passNumber yX8_passNumber.cls 5) (hr : meth.sig.returnType = (some .int)) (hlk : meth.locks = false) (hnm : meth.name = yX8_passNumber.name) (hk30 : ∀ (x0 : Nat) (x1 : Int32) (x2 : Int32) (x3 : Int32) (x4 : Int32) (h : Hp) (H : Heap) (locs : List Loc) (ls : Array Slot), lv_has ls 5 [(0, rv x0), (1, .int x1), (2, .int x2), (3, .int x3), (4, .int x4)] → St E A s h H locs → k30 x0 x1 x2 x3 x4 h = some (r9, h9) → W p l e R s m args below meth c H locs 0 0 (MQ below (Qi E A h9 r9) args s 0 0 A) (F0 m 30 ls [])) :
    ∀ (x0 : Nat) (x1 : Int32) (x2 : Int32) (x3 : Int32) (x4 : Int32) (h : Hp) (H : Heap) (locs : List Loc) (ls : Array Slot), lv_has ls 5 [(0, rv x0), (1, .int x1), (2, .int x2), (3, .int x3), (4, .int x4)] → St E A s h H locs → fX8_passNumber_30 k30 x0 x1 x2 x3 x4 h = some (r9, h9) → W p l e R s m args below meth c H locs 0 0 (MQ below (Qi E A h9 r9) args s 0 0 A) (F0 m 30 ls []) := by
  intro x0 x1 x2 x3 x4 h H locs ls hl S hf
  unfold fX8_passNumber_30 at hf
  refine lv_iload X.1 X.2.1 dX8_passNumber_30 (lv_at hl 4 rfl) ?_
  refine g_aload_n X (or_rv _) dX8_passNumber_32 rfl (lv_at hl 0 rfl) ?_
  refine g_gI X S foX8_48 rfl dX8_passNumber_33 hf (fun v1 hf => ?_)
  refine lv_icmp_ge (tgt := 65) X.1 X.2.1 dX8_passNumber_36 (by decide) (fun c2 => ?_) (fun c2 => ?_)
  · replace hf := (if_pos c2).symm.trans hf
    refine lv_iload_n X.1 X.2.1 dX8_passNumber_65 rfl (lv_at hl 3 rfl) ?_
    refine lv_iload_n X.1 X.2.1 dX8_passNumber_66 rfl (lv_at hl 1 rfl) ?_
    refine lv_icmp_lt (tgt := 75) X.1 X.2.1 dX8_passNumber_67 (by decide) (fun c3 => ?_) (fun c3 => ?_)
    · replace hf := (if_pos c3).symm.trans hf
      exact wfX8_passNumber_75 X hr hlk hnm _ _ _ _ _ (lv_sub hl [0] rfl) S hf
    · replace hf := (if_neg c3).symm.trans hf
      refine lv_iload_n X.1 X.2.1 dX8_passNumber_70 rfl (lv_at hl 3 rfl) ?_
      refine lv_iload_n X.1 X.2.1 dX8_passNumber_71 rfl (lv_at hl 2 rfl) ?_
      refine lv_icmp_le (tgt := 82) X.1 X.2.1 dX8_passNumber_72 (by decide) (fun c4 => ?_) (fun c4 => ?_)
      · replace hf := (if_pos c4).symm.trans hf
        refine g_aload_n X (or_rv _) dX8_passNumber_82 rfl (lv_at hl 0 rfl) ?_
        obtain ⟨h, hc, hf⟩ := ob_some hf
        refine g_cv S (runV (As := []) (rest := []) X S coX8_51 (by decide) (cX8_advance_m l hc) (tkX8_advance hc) rfl hl.1 (by decide) rfl ⟨Nat.zero_le _, Nat.zero_le _⟩ dX8_passNumber_83) (fun H locs S => ?_)
        refine lv_iload_n X.1 X.2.1 dX8_passNumber_86 rfl (lv_at hl 3 rfl) ?_
        cases hf; exact g_ri X S hr hlk dX8_passNumber_87
      · replace hf := (if_neg c4).symm.trans hf
        exact wfX8_passNumber_75 X hr hlk hnm _ _ _ _ _ (lv_sub hl [0] rfl) S hf
  · replace hf := (if_neg c2).symm.trans hf
    refine lv_iload_n X.1 X.2.1 dX8_passNumber_39 rfl (lv_at hl 3 rfl) ?_
    refine lv_bipush (v := 10) X.1 X.2.1 dX8_passNumber_40 (by decide) ?_
    refine lv_imul X.1 X.2.1 dX8_passNumber_42 ?_
    refine g_aload_n X (or_rv _) dX8_passNumber_43 rfl (lv_at hl 0 rfl) ?_
    refine lv_iload X.1 X.2.1 dX8_passNumber_44 (lv_at hl 4 rfl) ?_
    obtain ⟨v6, hc, hf⟩ := ob_some hf
    refine g_ci S (runV (As := [.int x4]) (rest := [.int (x3 * 10)]) X S coX8_107 (by decide) (cX8_byteAt_m l hc) (tkX8_byteAt hc) rfl hl.1 (by simp [cat_rv, cat_wv, cat_sv, cat_i, cat_l, cat_a]) rfl ⟨Nat.zero_le _, Nat.zero_le _⟩ dX8_passNumber_46) (fun H locs S => ?_)
    refine lv_iadd X.1 X.2.1 dX8_passNumber_49 ?_
    refine lv_bipush (v := 48) X.1 X.2.1 dX8_passNumber_50 (by decide) ?_
    refine lv_isub X.1 X.2.1 dX8_passNumber_52 ?_
    refine lv_ldc X.1 X.2.1 X.2.2.2.1 (X.2.2.1 _ kuX8_221) dX8_passNumber_53 ?_
    refine g_min (rest := []) X hl.1 (by decide) (by decide) mlX8_32 u_min_s u_math u_min_c (Nat.zero_le _) (Nat.zero_le _) dX8_passNumber_55 ?_
    refine g_lti hf (fun z7 hf => ?_)
    refine lv_istore_n (i := 3) (lv' := [(3, .int z7), (0, rv x0), (1, .int x1), (2, .int x2), (4, .int x4)]) X.1 X.2.1 dX8_passNumber_58 rfl hl (by decide) rfl (fun ls hl => ?_)
    obtain ⟨z8, ez8, hf⟩ := lt_some hf
    refine lv_iinc (v := z8) (lv' := [(4, .int z8), (3, .int z7), (0, rv x0), (1, .int x1), (2, .int x2)]) X.1 X.2.1 dX8_passNumber_59 hl (k := 4) rfl (by rw [← ez8]; rfl) (by decide) rfl (fun ls hl => ?_)
    refine lv_goto (tgt := 30) X.1 X.2.1 dX8_passNumber_62 (by decide) ?_
    exact hk30 _ _ _ _ _ _ _ _ _ (lv_sub hl [2, 3, 4, 1, 0] rfl) S hf
theorem wfX8_passNumber_30_l {r9 : Int32} {h9 : Hp} (X : Cx p E A 10 R s m args c cX8_passNumber yX8_passNumber.cls 5) (hr : meth.sig.returnType = (some .int)) (hlk : meth.locks = false) (hnm : meth.name = yX8_passNumber.name) :
    ∀ (n : Nat) (x0 : Nat) (x1 : Int32) (x2 : Int32) (x3 : Int32) (x4 : Int32) (h : Hp) (H : Heap) (locs : List Loc) (ls : Array Slot), lv_has ls 5 [(0, rv x0), (1, .int x1), (2, .int x2), (3, .int x3), (4, .int x4)] → St E A s h H locs → lp (fun _ _ _ _ _ _ => none) (fX8_passNumber_30) n x0 x1 x2 x3 x4 h = some (r9, h9) → W p l e R s m args below meth c H locs 0 0 (MQ below (Qi E A h9 r9) args s 0 0 A) (F0 m 30 ls []) := by
  intro n
  induction n with
  | zero =>
    intro x0 x1 x2 x3 x4 h H locs ls hl S hf
    exact nomatch hf
  | succ n ih =>
    intro x0 x1 x2 x3 x4 h H locs ls hl S hf
    exact wfX8_passNumber_30 X hr hlk hnm ih x0 x1 x2 x3 x4 h H locs ls hl S hf
def fX8_passNumber (a0 : Nat) (a1 : Int32) (a2 : Int32) (h : Hp) : Option (Int32 × Hp) := gd 7 a0 h (ob (gI 7 a0 10 h) fun v1 => if v1 = 0 then ob (gI 7 a0 6 h) fun v3 => if v3 = 2 then ob (gI 7 a0 8 h) fun v5 => lp (fun _ _ _ _ _ _ => none) (fX8_passNumber_30) FU a0 a1 a2 0 v5 h else fX8_passNumber_15 a0 h else fX8_passNumber_15 a0 h)
theorem tkX8_passNumber {a0 : Nat} {a1 : Int32} {a2 : Int32} {h : Hp} {r9 : Int32 × Hp} (e : fX8_passNumber a0 a1 a2 h = some r9) : hK h a0 = 7 := by
  unfold fX8_passNumber at e
  exact (gd_some e).1
theorem cX8_passNumber_m (l : Launch) {E : EE} {A : Nat → Prop} {a0 : Nat} {a1 : Int32} {a2 : Int32} {h : Hp} {r9 : Int32} {h9 : Hp} (hf : fX8_passNumber a0 a1 a2 h = some (r9, h9)) : Met l yX8_passNumber (wsM yX8_passNumber cX8_passNumber 5 (some .int)) (rmm 10 0 0) (PcE E A h [rv a0, .int a1, .int a2]) (Qi E A h9 r9) 0 0 A := by
  refine met_of (by decide +kernel) (by simp [lg_sl, cat_rv, cat_wv, cat_sv, cat_i, cat_l, cat_a]) (fun p e s m args below meth c ls X hr hlk hnm S hl => ?_)
  have hl : lv_has ls 5 [(0, rv a0), (1, .int a1), (2, .int a2)] := by simpa [lv_args, cat_rv, cat_wv, cat_sv, cat_i, cat_l, cat_a] using hl
  generalize hH : s.heap = H at S ⊢
  generalize hlo : ([] : List Loc) = locs at S ⊢
  clear hH hlo
  unfold fX8_passNumber at hf
  obtain ⟨hth, hf⟩ := gd_some hf
  refine g_aload_n X (or_rv _) dX8_passNumber_0 rfl (lv_at hl 0 rfl) ?_
  refine g_gI X S foX8_45 rfl dX8_passNumber_1 hf (fun v1 hf => ?_)
  refine lv_if_ne (tgt := 15) X.1 X.2.1 dX8_passNumber_4 (by decide) (fun c2 => ?_) (fun c2 => ?_)
  · replace hf := (if_neg c2).symm.trans hf
    exact wfX8_passNumber_15 X hr hlk hnm _ _ _ _ _ (lv_sub hl [0] rfl) S hf
  · replace hf := (if_pos c2).symm.trans hf
    refine g_aload_n X (or_rv _) dX8_passNumber_7 rfl (lv_at hl 0 rfl) ?_
    refine g_gI X S foX8_54 rfl dX8_passNumber_8 hf (fun v3 hf => ?_)
    refine lv_iconst (v := 2) X.1 X.2.1 dX8_passNumber_11 (by decide) ?_
    refine lv_icmp_eq (tgt := 22) X.1 X.2.1 dX8_passNumber_12 (by decide) (fun c4 => ?_) (fun c4 => ?_)
    · replace hf := (if_pos c4).symm.trans hf
      refine lv_iconst (v := 0) X.1 X.2.1 dX8_passNumber_22 (by decide) ?_
      refine lv_istore_n (i := 3) (lv' := [(3, .int 0), (0, rv a0), (1, .int a1), (2, .int a2)]) X.1 X.2.1 dX8_passNumber_23 rfl hl (by decide) rfl (fun ls hl => ?_)
      refine g_aload_n X (or_rv _) dX8_passNumber_24 rfl (lv_at hl 1 rfl) ?_
      refine g_gI X S foX8_101 rfl dX8_passNumber_25 hf (fun v5 hf => ?_)
      refine lv_istore (lv' := [(4, .int v5), (3, .int 0), (0, rv a0), (1, .int a1), (2, .int a2)]) X.1 X.2.1 dX8_passNumber_28 hl (by decide) rfl (fun ls hl => ?_)
      exact wfX8_passNumber_30_l X hr hlk hnm FU _ _ _ _ _ _ _ _ _ (lv_sub hl [2, 3, 4, 1, 0] rfl) S hf
    · replace hf := (if_neg c4).symm.trans hf
      exact wfX8_passNumber_15 X hr hlk hnm _ _ _ _ _ (lv_sub hl [0] rfl) S hf
def fX8_layHex_29 (x0 : Nat) (h : Hp) : Option (Hp) := ob (fX8_fail x0 2 h) fun h => some h
theorem wfX8_layHex_29 {h9 : Hp} (X : Cx p E A 10 R s m args c cX8_layHex yX8_layHex.cls 4) (hr : meth.sig.returnType = none) (hlk : meth.locks = false) (hnm : meth.name = yX8_layHex.name) :
    ∀ (x0 : Nat) (h : Hp) (H : Heap) (locs : List Loc) (ls : Array Slot), lv_has ls 4 [(0, rv x0)] → St E A s h H locs → fX8_layHex_29 x0 h = some h9 → W p l e R s m args below meth c H locs 0 0 (MQ below (Qv E A h9) args s 0 0 A) (F0 m 29 ls []) := by
  intro x0 h H locs ls hl S hf
  unfold fX8_layHex_29 at hf
  refine g_aload_n X (or_rv _) dX8_layHex_29 rfl (lv_at hl 0 rfl) ?_
  refine lv_iconst (v := 2) X.1 X.2.1 dX8_layHex_30 (by decide) ?_
  obtain ⟨h, hc, hf⟩ := ob_some hf
  refine g_cv S (runV (As := [.int 2]) (rest := []) X S coX8_104 (by decide) (cX8_fail_m l hc) (tkX8_fail hc) rfl hl.1 (by decide) rfl ⟨Nat.zero_le _, Nat.zero_le _⟩ dX8_layHex_31) (fun H locs S => ?_)
  cases hf; exact g_rv X S hr hlk dX8_layHex_34
def fX8_layHex_37 (k37 : Nat → Int32 → Int32 → Int32 → Hp → Option (Hp)) (x0 : Nat) (x1 : Int32) (x2 : Int32) (x3 : Int32) (h : Hp) : Option (Hp) := if x2 ≤ x3 then ob (fX8_advance x0 h) fun h => some h else ob (gR 7 x0 5 h) fun v3 => ob (gI 7 x0 8 h) fun v4 => ob (fX8_byteAt x0 ((v4 + 1) + x3) h) fun v5 => ob (fX8_hexDigit v5) fun v6 => ob (fX6_layHalf v3 ((2 * x1) + x3) v6 h) fun h => lt (x3 + 1) fun z8 => k37 x0 x1 x2 z8 h
theorem wfX8_layHex_37 {k37 : Nat → Int32 → Int32 → Int32 → Hp → Option (Hp)} {h9 : Hp} (X : Cx p E A 10 R s m args c cX8_layHex yX8_layHex.cls 4) (hr : meth.sig.returnType = none) (hlk : meth.locks = false) (hnm : meth.name = yX8_layHex.name) (hk37 : ∀ (x0 : Nat) (x1 : Int32) (x2 : Int32) (x3 : Int32) (h : Hp) (H : Heap) (locs : List Loc) (ls : Array Slot), lv_has ls 4 [(0, rv x0), (1, .int x1), (2, .int x2), (3, .int x3)] → St E A s h H locs → k37 x0 x1 x2 x3 h = some h9 → W p l e R s m args below meth c H locs 0 0 (MQ below (Qv E A h9) args s 0 0 A) (F0 m 37 ls [])) :
    ∀ (x0 : Nat) (x1 : Int32) (x2 : Int32) (x3 : Int32) (h : Hp) (H : Heap) (locs : List Loc) (ls : Array Slot), lv_has ls 4 [(0, rv x0), (1, .int x1), (2, .int x2), (3, .int x3)] → St E A s h H locs → fX8_layHex_37 k37 x0 x1 x2 x3 h = some h9 → W p l e R s m args below meth c H locs 0 0 (MQ below (Qv E A h9) args s 0 0 A) (F0 m 37 ls []) := by
  intro x0 x1 x2 x3 h H locs ls hl S hf
  unfold fX8_layHex_37 at hf
  refine lv_iload_n X.1 X.2.1 dX8_layHex_37 rfl (lv_at hl 3 rfl) ?_
  refine lv_iload_n X.1 X.2.1 dX8_layHex_38 rfl (lv_at hl 2 rfl) ?_
  refine lv_icmp_ge (tgt := 75) X.1 X.2.1 dX8_layHex_39 (by decide) (fun c1 => ?_) (fun c1 => ?_)
  · replace hf := (if_pos c1).symm.trans hf
    refine g_aload_n X (or_rv _) dX8_layHex_75 rfl (lv_at hl 0 rfl) ?_
    obtain ⟨h, hc, hf⟩ := ob_some hf
    refine g_cv S (runV (As := []) (rest := []) X S coX8_51 (by decide) (cX8_advance_m l hc) (tkX8_advance hc) rfl hl.1 (by decide) rfl ⟨Nat.zero_le _, Nat.zero_le _⟩ dX8_layHex_76) (fun H locs S => ?_)
    cases hf; exact g_rv X S hr hlk dX8_layHex_79
  · replace hf := (if_neg c1).symm.trans hf
    refine g_aload_n X (or_rv _) dX8_layHex_42 rfl (lv_at hl 0 rfl) ?_
    refine g_gR X S foX8_28 dX8_layHex_43 hf (fun v3 hf => ?_)
    refine lv_iconst (v := 2) X.1 X.2.1 dX8_layHex_46 (by decide) ?_
    refine lv_iload_n X.1 X.2.1 dX8_layHex_47 rfl (lv_at hl 1 rfl) ?_
    refine lv_imul X.1 X.2.1 dX8_layHex_48 ?_
    refine lv_iload_n X.1 X.2.1 dX8_layHex_49 rfl (lv_at hl 3 rfl) ?_
    refine lv_iadd X.1 X.2.1 dX8_layHex_50 ?_
    refine g_aload_n X (or_rv _) dX8_layHex_51 rfl (lv_at hl 0 rfl) ?_
    refine g_aload_n X (or_rv _) dX8_layHex_52 rfl (lv_at hl 0 rfl) ?_
    refine g_gI X S foX8_101 rfl dX8_layHex_53 hf (fun v4 hf => ?_)
    refine lv_iconst (v := 1) X.1 X.2.1 dX8_layHex_56 (by decide) ?_
    refine lv_iadd X.1 X.2.1 dX8_layHex_57 ?_
    refine lv_iload_n X.1 X.2.1 dX8_layHex_58 rfl (lv_at hl 3 rfl) ?_
    refine lv_iadd X.1 X.2.1 dX8_layHex_59 ?_
    obtain ⟨v5, hc, hf⟩ := ob_some hf
    refine g_ci S (runV (As := [.int ((v4 + 1) + x3)]) (rest := [.int ((2 * x1) + x3), rv v3]) X S coX8_107 (by decide) (cX8_byteAt_m l hc) (tkX8_byteAt hc) rfl hl.1 (by simp [cat_rv, cat_wv, cat_sv, cat_i, cat_l, cat_a]) rfl ⟨Nat.zero_le _, Nat.zero_le _⟩ dX8_layHex_60) (fun H locs S => ?_)
    obtain ⟨v6, hc, hf⟩ := ob_some hf
    refine g_ci S (runS (As := [.int v5]) (rest := [.int ((2 * x1) + x3), rv v3]) X S coX8_111 (by decide) (cX8_hexDigit_m l hc) rfl hl.1 (by simp [cat_rv, cat_wv, cat_sv, cat_i, cat_l, cat_a]) rfl ⟨Nat.zero_le _, Nat.zero_le _⟩ dX8_layHex_63) (fun H locs S => ?_)
    obtain ⟨h, hc, hf⟩ := ob_some hf
    refine g_cv S (runV (As := [.int ((2 * x1) + x3), .int v6]) (rest := []) X S coX8_114 (by decide) (cX6_layHalf_m l hc) (tkX6_layHalf hc) rfl hl.1 (by decide) rfl ⟨Nat.zero_le _, Nat.zero_le _⟩ dX8_layHex_66) (fun H locs S => ?_)
    obtain ⟨z8, ez8, hf⟩ := lt_some hf
    refine lv_iinc (v := z8) (lv' := [(3, .int z8), (0, rv x0), (1, .int x1), (2, .int x2)]) X.1 X.2.1 dX8_layHex_69 hl (k := 3) rfl (by rw [← ez8]; rfl) (by decide) rfl (fun ls hl => ?_)
    refine lv_goto (tgt := 37) X.1 X.2.1 dX8_layHex_72 (by decide) ?_
    exact hk37 _ _ _ _ _ _ _ _ (lv_sub hl [1, 2, 3, 0] rfl) S hf
theorem wfX8_layHex_37_l {h9 : Hp} (X : Cx p E A 10 R s m args c cX8_layHex yX8_layHex.cls 4) (hr : meth.sig.returnType = none) (hlk : meth.locks = false) (hnm : meth.name = yX8_layHex.name) :
    ∀ (n : Nat) (x0 : Nat) (x1 : Int32) (x2 : Int32) (x3 : Int32) (h : Hp) (H : Heap) (locs : List Loc) (ls : Array Slot), lv_has ls 4 [(0, rv x0), (1, .int x1), (2, .int x2), (3, .int x3)] → St E A s h H locs → lp (fun _ _ _ _ _ => none) (fX8_layHex_37) n x0 x1 x2 x3 h = some h9 → W p l e R s m args below meth c H locs 0 0 (MQ below (Qv E A h9) args s 0 0 A) (F0 m 37 ls []) := by
  intro n
  induction n with
  | zero =>
    intro x0 x1 x2 x3 h H locs ls hl S hf
    exact nomatch hf
  | succ n ih =>
    intro x0 x1 x2 x3 h H locs ls hl S hf
    exact wfX8_layHex_37 X hr hlk hnm ih x0 x1 x2 x3 h H locs ls hl S hf
def fX8_layHex (a0 : Nat) (a1 : Int32) (h : Hp) : Option (Hp) := gd 7 a0 h (ob (gI 7 a0 9 h) fun v1 => ob (gI 7 a0 8 h) fun v2 => lt ((v1 - v2) - 1) fun z3 => if (irm z3 2) = 0 then if (a1 + (z3 / 2)) ≤ 256 then lp (fun _ _ _ _ _ => none) (fX8_layHex_37) FU a0 a1 z3 0 h else fX8_layHex_29 a0 h else fX8_layHex_29 a0 h)
theorem tkX8_layHex {a0 : Nat} {a1 : Int32} {h : Hp} {r9 : Hp} (e : fX8_layHex a0 a1 h = some r9) : hK h a0 = 7 := by
  unfold fX8_layHex at e
  exact (gd_some e).1
theorem cX8_layHex_m (l : Launch) {E : EE} {A : Nat → Prop} {a0 : Nat} {a1 : Int32} {h : Hp} {h9 : Hp} (hf : fX8_layHex a0 a1 h = some h9) : Met l yX8_layHex (wsM yX8_layHex cX8_layHex 4 none) (rmm 10 0 0) (PcE E A h [rv a0, .int a1]) (Qv E A h9) 0 0 A := by
  refine met_of (by decide +kernel) (by simp [lg_sl, cat_rv, cat_wv, cat_sv, cat_i, cat_l, cat_a]) (fun p e s m args below meth c ls X hr hlk hnm S hl => ?_)
  have hl : lv_has ls 4 [(0, rv a0), (1, .int a1)] := by simpa [lv_args, cat_rv, cat_wv, cat_sv, cat_i, cat_l, cat_a] using hl
  generalize hH : s.heap = H at S ⊢
  generalize hlo : ([] : List Loc) = locs at S ⊢
  clear hH hlo
  unfold fX8_layHex at hf
  obtain ⟨hth, hf⟩ := gd_some hf
  refine g_aload_n X (or_rv _) dX8_layHex_0 rfl (lv_at hl 0 rfl) ?_
  refine g_gI X S foX8_48 rfl dX8_layHex_1 hf (fun v1 hf => ?_)
  refine g_aload_n X (or_rv _) dX8_layHex_4 rfl (lv_at hl 0 rfl) ?_
  refine g_gI X S foX8_101 rfl dX8_layHex_5 hf (fun v2 hf => ?_)
  refine lv_isub X.1 X.2.1 dX8_layHex_8 ?_
  refine lv_iconst (v := 1) X.1 X.2.1 dX8_layHex_9 (by decide) ?_
  refine lv_isub X.1 X.2.1 dX8_layHex_10 ?_
  refine g_lti hf (fun z3 hf => ?_)
  refine lv_istore_n (i := 2) (lv' := [(2, .int z3), (0, rv a0), (1, .int a1)]) X.1 X.2.1 dX8_layHex_11 rfl hl (by decide) rfl (fun ls hl => ?_)
  refine lv_iload_n X.1 X.2.1 dX8_layHex_12 rfl (lv_at hl 0 rfl) ?_
  refine lv_iconst (v := 2) X.1 X.2.1 dX8_layHex_13 (by decide) ?_
  refine g_irem X (by decide) dX8_layHex_14 ?_
  refine lv_if_ne (tgt := 29) X.1 X.2.1 dX8_layHex_15 (by decide) (fun c4 => ?_) (fun c4 => ?_)
  · replace hf := (if_neg c4).symm.trans hf
    exact wfX8_layHex_29 X hr hlk hnm _ _ _ _ _ (lv_sub hl [1] rfl) S hf
  · replace hf := (if_pos c4).symm.trans hf
    refine lv_iload_n X.1 X.2.1 dX8_layHex_18 rfl (lv_at hl 2 rfl) ?_
    refine lv_iload_n X.1 X.2.1 dX8_layHex_19 rfl (lv_at hl 0 rfl) ?_
    refine lv_iconst (v := 2) X.1 X.2.1 dX8_layHex_20 (by decide) ?_
    refine g_idiv X (by decide) dX8_layHex_21 ?_
    refine lv_iadd X.1 X.2.1 dX8_layHex_22 ?_
    refine lv_sipush (v := 256) X.1 X.2.1 dX8_layHex_23 (by decide) ?_
    refine lv_icmp_le (tgt := 35) X.1 X.2.1 dX8_layHex_26 (by decide) (fun c5 => ?_) (fun c5 => ?_)
    · replace hf := (if_pos c5).symm.trans hf
      refine lv_iconst (v := 0) X.1 X.2.1 dX8_layHex_35 (by decide) ?_
      refine lv_istore_n (i := 3) (lv' := [(3, .int 0), (2, .int z3), (0, rv a0), (1, .int a1)]) X.1 X.2.1 dX8_layHex_36 rfl hl (by decide) rfl (fun ls hl => ?_)
      exact wfX8_layHex_37_l X hr hlk hnm FU _ _ _ _ _ _ _ _ (lv_sub hl [2, 3, 1, 0] rfl) S hf
    · replace hf := (if_neg c5).symm.trans hf
      exact wfX8_layHex_29 X hr hlk hnm _ _ _ _ _ (lv_sub hl [1] rfl) S hf
def fX8_isHere (a0 : Nat) (a1 : Int32) (h : Hp) : Option (Int32) := gd 7 a0 h (ob (gI 7 a0 10 h) fun v1 => if v1 = 0 then ob (gI 7 a0 6 h) fun v3 => if v3 = 4 then ob (gI 7 a0 8 h) fun v5 => ob (fX8_byteAt a0 v5 h) fun v6 => if v6 = a1 then some 1 else some 0 else some 0 else some 0)
theorem tkX8_isHere {a0 : Nat} {a1 : Int32} {h : Hp} {r9 : Int32} (e : fX8_isHere a0 a1 h = some r9) : hK h a0 = 7 := by
  unfold fX8_isHere at e
  exact (gd_some e).1
theorem cX8_isHere_m (l : Launch) {E : EE} {A : Nat → Prop} {a0 : Nat} {a1 : Int32} {h : Hp} {r9 : Int32} (hf : fX8_isHere a0 a1 h = some r9) : Met l yX8_isHere (wsM yX8_isHere cX8_isHere 2 (some .boolean)) (rmm 9 0 0) (PcE E A h [rv a0, .int a1]) (Qi E A h r9) 0 0 A := by
  refine met_of (by decide +kernel) (by simp [lg_sl, cat_rv, cat_wv, cat_sv, cat_i, cat_l, cat_a]) (fun p e s m args below meth c ls X hr hlk hnm S hl => ?_)
  have hl : lv_has ls 2 [(0, rv a0), (1, .int a1)] := by simpa [lv_args, cat_rv, cat_wv, cat_sv, cat_i, cat_l, cat_a] using hl
  generalize hH : s.heap = H at S ⊢
  generalize hlo : ([] : List Loc) = locs at S ⊢
  clear hH hlo
  unfold fX8_isHere at hf
  obtain ⟨hth, hf⟩ := gd_some hf
  refine g_aload_n X (or_rv _) dX8_isHere_0 rfl (lv_at hl 0 rfl) ?_
  refine g_gI X S foX8_45 rfl dX8_isHere_1 hf (fun v1 hf => ?_)
  refine lv_if_ne (tgt := 31) X.1 X.2.1 dX8_isHere_4 (by decide) (fun c2 => ?_) (fun c2 => ?_)
  · replace hf := (if_neg c2).symm.trans hf
    refine lv_iconst (v := 0) X.1 X.2.1 dX8_isHere_31 (by decide) ?_
    cases hf; exact g_rz X S hr hlk (by decide) dX8_isHere_32
  · replace hf := (if_pos c2).symm.trans hf
    refine g_aload_n X (or_rv _) dX8_isHere_7 rfl (lv_at hl 0 rfl) ?_
    refine g_gI X S foX8_54 rfl dX8_isHere_8 hf (fun v3 hf => ?_)
    refine lv_iconst (v := 4) X.1 X.2.1 dX8_isHere_11 (by decide) ?_
    refine lv_icmp_ne (tgt := 31) X.1 X.2.1 dX8_isHere_12 (by decide) (fun c4 => ?_) (fun c4 => ?_)
    · replace hf := (if_neg c4).symm.trans hf
      refine lv_iconst (v := 0) X.1 X.2.1 dX8_isHere_31 (by decide) ?_
      cases hf; exact g_rz X S hr hlk (by decide) dX8_isHere_32
    · replace hf := (if_pos c4).symm.trans hf
      refine g_aload_n X (or_rv _) dX8_isHere_15 rfl (lv_at hl 0 rfl) ?_
      refine g_aload_n X (or_rv _) dX8_isHere_16 rfl (lv_at hl 0 rfl) ?_
      refine g_gI X S foX8_101 rfl dX8_isHere_17 hf (fun v5 hf => ?_)
      obtain ⟨v6, hc, hf⟩ := ob_some hf
      refine g_ci S (runV (As := [.int v5]) (rest := []) X S coX8_107 (by decide) (cX8_byteAt_m l hc) (tkX8_byteAt hc) rfl hl.1 (by decide) rfl ⟨Nat.zero_le _, Nat.zero_le _⟩ dX8_isHere_20) (fun H locs S => ?_)
      refine lv_iload_n X.1 X.2.1 dX8_isHere_23 rfl (lv_at hl 1 rfl) ?_
      refine lv_icmp_ne (tgt := 31) X.1 X.2.1 dX8_isHere_24 (by decide) (fun c7 => ?_) (fun c7 => ?_)
      · replace hf := (if_neg c7).symm.trans hf
        refine lv_iconst (v := 0) X.1 X.2.1 dX8_isHere_31 (by decide) ?_
        cases hf; exact g_rz X S hr hlk (by decide) dX8_isHere_32
      · replace hf := (if_pos c7).symm.trans hf
        refine lv_iconst (v := 1) X.1 X.2.1 dX8_isHere_27 (by decide) ?_
        refine lv_goto (tgt := 32) X.1 X.2.1 dX8_isHere_28 (by decide) ?_
        cases hf; exact g_rz X S hr hlk (by decide) dX8_isHere_32
def fX8_passed (a0 : Nat) (a1 : Int32) (h : Hp) : Option (Int32 × Hp) := gd 7 a0 h (ob (fX8_isHere a0 a1 h) fun v1 => if v1 = 0 then rz v1 (some (v1, h)) else ob (fX8_advance a0 h) fun h => rz v1 (some (v1, h)))
theorem tkX8_passed {a0 : Nat} {a1 : Int32} {h : Hp} {r9 : Int32 × Hp} (e : fX8_passed a0 a1 h = some r9) : hK h a0 = 7 := by
  unfold fX8_passed at e
  exact (gd_some e).1
theorem cX8_passed_m (l : Launch) {E : EE} {A : Nat → Prop} {a0 : Nat} {a1 : Int32} {h : Hp} {r9 : Int32} {h9 : Hp} (hf : fX8_passed a0 a1 h = some (r9, h9)) : Met l yX8_passed (wsM yX8_passed cX8_passed 3 (some .boolean)) (rmm 10 0 0) (PcE E A h [rv a0, .int a1]) (Qi E A h9 r9) 0 0 A := by
  refine met_of (by decide +kernel) (by simp [lg_sl, cat_rv, cat_wv, cat_sv, cat_i, cat_l, cat_a]) (fun p e s m args below meth c ls X hr hlk hnm S hl => ?_)
  have hl : lv_has ls 3 [(0, rv a0), (1, .int a1)] := by simpa [lv_args, cat_rv, cat_wv, cat_sv, cat_i, cat_l, cat_a] using hl
  generalize hH : s.heap = H at S ⊢
  generalize hlo : ([] : List Loc) = locs at S ⊢
  clear hH hlo
  unfold fX8_passed at hf
  obtain ⟨hth, hf⟩ := gd_some hf
  refine g_aload_n X (or_rv _) dX8_passed_0 rfl (lv_at hl 0 rfl) ?_
  refine lv_iload_n X.1 X.2.1 dX8_passed_1 rfl (lv_at hl 1 rfl) ?_
  obtain ⟨v1, hc, hf⟩ := ob_some hf
  refine g_ci S (runV (As := [.int a1]) (rest := []) X S coX8_218 (by decide) (cX8_isHere_m l hc) (tkX8_isHere hc) rfl hl.1 (by decide) rfl ⟨Nat.zero_le _, Nat.zero_le _⟩ dX8_passed_2) (fun H locs S => ?_)
  refine lv_istore_n (i := 2) (lv' := [(2, .int v1), (0, rv a0), (1, .int a1)]) X.1 X.2.1 dX8_passed_5 rfl hl (by decide) rfl (fun ls hl => ?_)
  refine lv_iload_n X.1 X.2.1 dX8_passed_6 rfl (lv_at hl 0 rfl) ?_
  refine lv_if_eq (tgt := 14) X.1 X.2.1 dX8_passed_7 (by decide) (fun c2 => ?_) (fun c2 => ?_)
  · replace hf := (if_pos c2).symm.trans hf
    refine lv_iload_n X.1 X.2.1 dX8_passed_14 rfl (lv_at hl 0 rfl) ?_
    obtain ⟨hz, hf⟩ := rz_some hf
    cases hf; exact g_rz X S hr hlk hz dX8_passed_15
  · replace hf := (if_neg c2).symm.trans hf
    refine g_aload_n X (or_rv _) dX8_passed_10 rfl (lv_at hl 1 rfl) ?_
    obtain ⟨h, hc, hf⟩ := ob_some hf
    refine g_cv S (runV (As := []) (rest := []) X S coX8_51 (by decide) (cX8_advance_m l hc) (tkX8_advance hc) rfl hl.1 (by decide) rfl ⟨Nat.zero_le _, Nat.zero_le _⟩ dX8_passed_11) (fun H locs S => ?_)
    refine lv_iload_n X.1 X.2.1 dX8_passed_14 rfl (lv_at hl 0 rfl) ?_
    obtain ⟨hz, hf⟩ := rz_some hf
    cases hf; exact g_rz X S hr hlk hz dX8_passed_15
def fX8_digitBack (a0 : Nat) (a1 : Int32) (a2 : Int32) (a3 : Int32) (h : Hp) : Option (Int32) := gd 7 a0 h (if a1 ≤ (a2 - a3) then ob (fX8_byteAt a0 (a2 - a3) h) fun v2 => some (v2 - 48) else some 0)
theorem tkX8_digitBack {a0 : Nat} {a1 : Int32} {a2 : Int32} {a3 : Int32} {h : Hp} {r9 : Int32} (e : fX8_digitBack a0 a1 a2 a3 h = some r9) : hK h a0 = 7 := by
  unfold fX8_digitBack at e
  exact (gd_some e).1
theorem cX8_digitBack_m (l : Launch) {E : EE} {A : Nat → Prop} {a0 : Nat} {a1 : Int32} {a2 : Int32} {a3 : Int32} {h : Hp} {r9 : Int32} (hf : fX8_digitBack a0 a1 a2 a3 h = some r9) : Met l yX8_digitBack (wsM yX8_digitBack cX8_digitBack 4 (some .int)) (rmm 9 0 0) (PcE E A h [rv a0, .int a1, .int a2, .int a3]) (Qi E A h r9) 0 0 A := by
  refine met_of (by decide +kernel) (by simp [lg_sl, cat_rv, cat_wv, cat_sv, cat_i, cat_l, cat_a]) (fun p e s m args below meth c ls X hr hlk hnm S hl => ?_)
  have hl : lv_has ls 4 [(0, rv a0), (1, .int a1), (2, .int a2), (3, .int a3)] := by simpa [lv_args, cat_rv, cat_wv, cat_sv, cat_i, cat_l, cat_a] using hl
  generalize hH : s.heap = H at S ⊢
  generalize hlo : ([] : List Loc) = locs at S ⊢
  clear hH hlo
  unfold fX8_digitBack at hf
  obtain ⟨hth, hf⟩ := gd_some hf
  refine lv_iload_n X.1 X.2.1 dX8_digitBack_0 rfl (lv_at hl 2 rfl) ?_
  refine lv_iload_n X.1 X.2.1 dX8_digitBack_1 rfl (lv_at hl 3 rfl) ?_
  refine lv_isub X.1 X.2.1 dX8_digitBack_2 ?_
  refine lv_iload_n X.1 X.2.1 dX8_digitBack_3 rfl (lv_at hl 1 rfl) ?_
  refine lv_icmp_ge (tgt := 11) X.1 X.2.1 dX8_digitBack_4 (by decide) (fun c1 => ?_) (fun c1 => ?_)
  · replace hf := (if_pos c1).symm.trans hf
    refine g_aload_n X (or_rv _) dX8_digitBack_11 rfl (lv_at hl 0 rfl) ?_
    refine lv_iload_n X.1 X.2.1 dX8_digitBack_12 rfl (lv_at hl 2 rfl) ?_
    refine lv_iload_n X.1 X.2.1 dX8_digitBack_13 rfl (lv_at hl 3 rfl) ?_
    refine lv_isub X.1 X.2.1 dX8_digitBack_14 ?_
    obtain ⟨v2, hc, hf⟩ := ob_some hf
    refine g_ci S (runV (As := [.int (a2 - a3)]) (rest := []) X S coX8_107 (by decide) (cX8_byteAt_m l hc) (tkX8_byteAt hc) rfl hl.1 (by decide) rfl ⟨Nat.zero_le _, Nat.zero_le _⟩ dX8_digitBack_15) (fun H locs S => ?_)
    refine lv_bipush (v := 48) X.1 X.2.1 dX8_digitBack_18 (by decide) ?_
    refine lv_isub X.1 X.2.1 dX8_digitBack_20 ?_
    cases hf; exact g_ri X S hr hlk dX8_digitBack_21
  · replace hf := (if_neg c1).symm.trans hf
    refine lv_iconst (v := 0) X.1 X.2.1 dX8_digitBack_7 (by decide) ?_
    refine lv_goto (tgt := 21) X.1 X.2.1 dX8_digitBack_8 (by decide) ?_
    cases hf; exact g_ri X S hr hlk dX8_digitBack_21
def fX8_layZoned_32 (k3 : Nat → Int32 → Int32 → Int32 → Int32 → Int32 → Int32 → Hp → Option (Hp)) (x0 : Nat) (x1 : Int32) (x2 : Int32) (x3 : Int32) (x4 : Int32) (x5 : Int32) (x6 : Int32) (y0 : Int32) (y1 : Int32) (y2 : Nat) (h : Hp) : Option (Hp) := ob (fX6_layHalf y2 y1 y0 h) fun h => ob (gR 7 x0 5 h) fun v2 => ob (fX8_digitBack x0 x3 x4 x6 h) fun v3 => ob (fX6_layHalf v2 ((2 * (x1 - x6)) + 1) v3 h) fun h => lt (x6 + 1) fun z5 => k3 x0 x1 x2 x3 x4 x5 z5 h
theorem wfX8_layZoned_32 {k3 : Nat → Int32 → Int32 → Int32 → Int32 → Int32 → Int32 → Hp → Option (Hp)} {h9 : Hp} (X : Cx p E A 10 R s m args c cX8_layZoned yX8_layZoned.cls 7) (hr : meth.sig.returnType = none) (hlk : meth.locks = false) (hnm : meth.name = yX8_layZoned.name) (hk3 : ∀ (x0 : Nat) (x1 : Int32) (x2 : Int32) (x3 : Int32) (x4 : Int32) (x5 : Int32) (x6 : Int32) (h : Hp) (H : Heap) (locs : List Loc) (ls : Array Slot), lv_has ls 7 [(0, rv x0), (1, .int x1), (2, .int x2), (3, .int x3), (4, .int x4), (5, .int x5), (6, .int x6)] → St E A s h H locs → k3 x0 x1 x2 x3 x4 x5 x6 h = some h9 → W p l e R s m args below meth c H locs 0 0 (MQ below (Qv E A h9) args s 0 0 A) (F0 m 3 ls [])) :
    ∀ (x0 : Nat) (x1 : Int32) (x2 : Int32) (x3 : Int32) (x4 : Int32) (x5 : Int32) (x6 : Int32) (y0 : Int32) (y1 : Int32) (y2 : Nat) (h : Hp) (H : Heap) (locs : List Loc) (ls : Array Slot), lv_has ls 7 [(0, rv x0), (1, .int x1), (2, .int x2), (3, .int x3), (4, .int x4), (5, .int x5), (6, .int x6)] → St E A s h H locs → fX8_layZoned_32 k3 x0 x1 x2 x3 x4 x5 x6 y0 y1 y2 h = some h9 → W p l e R s m args below meth c H locs 0 0 (MQ below (Qv E A h9) args s 0 0 A) (F0 m 32 ls [.int y0, .int y1, rv y2]) := by
  intro x0 x1 x2 x3 x4 x5 x6 y0 y1 y2 h H locs ls hl S hf
  unfold fX8_layZoned_32 at hf
  obtain ⟨h, hc, hf⟩ := ob_some hf
  refine g_cv S (runV (As := [.int y1, .int y0]) (rest := []) X S coX8_114 (by decide) (cX6_layHalf_m l hc) (tkX6_layHalf hc) rfl hl.1 (by decide) rfl ⟨Nat.zero_le _, Nat.zero_le _⟩ dX8_layZoned_32) (fun H locs S => ?_)
  refine g_aload_n X (or_rv _) dX8_layZoned_35 rfl (lv_at hl 0 rfl) ?_
  refine g_gR X S foX8_28 dX8_layZoned_36 hf (fun v2 hf => ?_)
  refine lv_iconst (v := 2) X.1 X.2.1 dX8_layZoned_39 (by decide) ?_
  refine lv_iload_n X.1 X.2.1 dX8_layZoned_40 rfl (lv_at hl 1 rfl) ?_
  refine lv_iload X.1 X.2.1 dX8_layZoned_41 (lv_at hl 6 rfl) ?_
  refine lv_isub X.1 X.2.1 dX8_layZoned_43 ?_
  refine lv_imul X.1 X.2.1 dX8_layZoned_44 ?_
  refine lv_iconst (v := 1) X.1 X.2.1 dX8_layZoned_45 (by decide) ?_
  refine lv_iadd X.1 X.2.1 dX8_layZoned_46 ?_
  refine g_aload_n X (or_rv _) dX8_layZoned_47 rfl (lv_at hl 0 rfl) ?_
  refine lv_iload_n X.1 X.2.1 dX8_layZoned_48 rfl (lv_at hl 3 rfl) ?_
  refine lv_iload X.1 X.2.1 dX8_layZoned_49 (lv_at hl 4 rfl) ?_
  refine lv_iload X.1 X.2.1 dX8_layZoned_51 (lv_at hl 6 rfl) ?_
  obtain ⟨v3, hc, hf⟩ := ob_some hf
  refine g_ci S (runV (As := [.int x3, .int x4, .int x6]) (rest := [.int ((2 * (x1 - x6)) + 1), rv v2]) X S coX8_138 (by decide) (cX8_digitBack_m l hc) (tkX8_digitBack hc) rfl hl.1 (by simp [cat_rv, cat_wv, cat_sv, cat_i, cat_l, cat_a]) rfl ⟨Nat.zero_le _, Nat.zero_le _⟩ dX8_layZoned_53) (fun H locs S => ?_)
  obtain ⟨h, hc, hf⟩ := ob_some hf
  refine g_cv S (runV (As := [.int ((2 * (x1 - x6)) + 1), .int v3]) (rest := []) X S coX8_114 (by decide) (cX6_layHalf_m l hc) (tkX6_layHalf hc) rfl hl.1 (by decide) rfl ⟨Nat.zero_le _, Nat.zero_le _⟩ dX8_layZoned_56) (fun H locs S => ?_)
  obtain ⟨z5, ez5, hf⟩ := lt_some hf
  refine lv_iinc (v := z5) (lv' := [(6, .int z5), (0, rv x0), (1, .int x1), (2, .int x2), (3, .int x3), (4, .int x4), (5, .int x5)]) X.1 X.2.1 dX8_layZoned_59 hl (k := 6) rfl (by rw [← ez5]; rfl) (by decide) rfl (fun ls hl => ?_)
  refine lv_goto (tgt := 3) X.1 X.2.1 dX8_layZoned_62 (by decide) ?_
  exact hk3 _ _ _ _ _ _ _ _ _ _ _ (lv_sub hl [1, 2, 3, 4, 5, 6, 0] rfl) S hf
def fX8_layZoned_3 (k3 : Nat → Int32 → Int32 → Int32 → Int32 → Int32 → Int32 → Hp → Option (Hp)) (x0 : Nat) (x1 : Int32) (x2 : Int32) (x3 : Int32) (x4 : Int32) (x5 : Int32) (x6 : Int32) (h : Hp) : Option (Hp) := if x2 < x6 then some h else ob (gR 7 x0 5 h) fun v2 => if x6 = 1 then fX8_layZoned_32 k3 x0 x1 x2 x3 x4 x5 x6 x5 (2 * (x1 - x6)) v2 h else fX8_layZoned_32 k3 x0 x1 x2 x3 x4 x5 x6 15 (2 * (x1 - x6)) v2 h
theorem wfX8_layZoned_3 {k3 : Nat → Int32 → Int32 → Int32 → Int32 → Int32 → Int32 → Hp → Option (Hp)} {h9 : Hp} (X : Cx p E A 10 R s m args c cX8_layZoned yX8_layZoned.cls 7) (hr : meth.sig.returnType = none) (hlk : meth.locks = false) (hnm : meth.name = yX8_layZoned.name) (hk3 : ∀ (x0 : Nat) (x1 : Int32) (x2 : Int32) (x3 : Int32) (x4 : Int32) (x5 : Int32) (x6 : Int32) (h : Hp) (H : Heap) (locs : List Loc) (ls : Array Slot), lv_has ls 7 [(0, rv x0), (1, .int x1), (2, .int x2), (3, .int x3), (4, .int x4), (5, .int x5), (6, .int x6)] → St E A s h H locs → k3 x0 x1 x2 x3 x4 x5 x6 h = some h9 → W p l e R s m args below meth c H locs 0 0 (MQ below (Qv E A h9) args s 0 0 A) (F0 m 3 ls [])) :
    ∀ (x0 : Nat) (x1 : Int32) (x2 : Int32) (x3 : Int32) (x4 : Int32) (x5 : Int32) (x6 : Int32) (h : Hp) (H : Heap) (locs : List Loc) (ls : Array Slot), lv_has ls 7 [(0, rv x0), (1, .int x1), (2, .int x2), (3, .int x3), (4, .int x4), (5, .int x5), (6, .int x6)] → St E A s h H locs → fX8_layZoned_3 k3 x0 x1 x2 x3 x4 x5 x6 h = some h9 → W p l e R s m args below meth c H locs 0 0 (MQ below (Qv E A h9) args s 0 0 A) (F0 m 3 ls []) := by
  intro x0 x1 x2 x3 x4 x5 x6 h H locs ls hl S hf
  unfold fX8_layZoned_3 at hf
  refine lv_iload X.1 X.2.1 dX8_layZoned_3 (lv_at hl 6 rfl) ?_
  refine lv_iload_n X.1 X.2.1 dX8_layZoned_5 rfl (lv_at hl 2 rfl) ?_
  refine lv_icmp_gt (tgt := 65) X.1 X.2.1 dX8_layZoned_6 (by decide) (fun c1 => ?_) (fun c1 => ?_)
  · replace hf := (if_pos c1).symm.trans hf
    cases hf; exact g_rv X S hr hlk dX8_layZoned_65
  · replace hf := (if_neg c1).symm.trans hf
    refine g_aload_n X (or_rv _) dX8_layZoned_9 rfl (lv_at hl 0 rfl) ?_
    refine g_gR X S foX8_28 dX8_layZoned_10 hf (fun v2 hf => ?_)
    refine lv_iconst (v := 2) X.1 X.2.1 dX8_layZoned_13 (by decide) ?_
    refine lv_iload_n X.1 X.2.1 dX8_layZoned_14 rfl (lv_at hl 1 rfl) ?_
    refine lv_iload X.1 X.2.1 dX8_layZoned_15 (lv_at hl 6 rfl) ?_
    refine lv_isub X.1 X.2.1 dX8_layZoned_17 ?_
    refine lv_imul X.1 X.2.1 dX8_layZoned_18 ?_
    refine lv_iload X.1 X.2.1 dX8_layZoned_19 (lv_at hl 6 rfl) ?_
    refine lv_iconst (v := 1) X.1 X.2.1 dX8_layZoned_21 (by decide) ?_
    refine lv_icmp_ne (tgt := 30) X.1 X.2.1 dX8_layZoned_22 (by decide) (fun c3 => ?_) (fun c3 => ?_)
    · replace hf := (if_neg c3).symm.trans hf
      refine lv_bipush (v := 15) X.1 X.2.1 dX8_layZoned_30 (by decide) ?_
      exact wfX8_layZoned_32 X hr hlk hnm hk3 _ _ _ _ _ _ _ _ _ _ _ _ _ _ hl S hf
    · replace hf := (if_pos c3).symm.trans hf
      refine lv_iload X.1 X.2.1 dX8_layZoned_25 (lv_at hl 5 rfl) ?_
      refine lv_goto (tgt := 32) X.1 X.2.1 dX8_layZoned_27 (by decide) ?_
      exact wfX8_layZoned_32 X hr hlk hnm hk3 _ _ _ _ _ _ _ _ _ _ _ _ _ _ hl S hf
theorem wfX8_layZoned_3_l {h9 : Hp} (X : Cx p E A 10 R s m args c cX8_layZoned yX8_layZoned.cls 7) (hr : meth.sig.returnType = none) (hlk : meth.locks = false) (hnm : meth.name = yX8_layZoned.name) :
    ∀ (n : Nat) (x0 : Nat) (x1 : Int32) (x2 : Int32) (x3 : Int32) (x4 : Int32) (x5 : Int32) (x6 : Int32) (h : Hp) (H : Heap) (locs : List Loc) (ls : Array Slot), lv_has ls 7 [(0, rv x0), (1, .int x1), (2, .int x2), (3, .int x3), (4, .int x4), (5, .int x5), (6, .int x6)] → St E A s h H locs → lp (fun _ _ _ _ _ _ _ _ => none) (fX8_layZoned_3) n x0 x1 x2 x3 x4 x5 x6 h = some h9 → W p l e R s m args below meth c H locs 0 0 (MQ below (Qv E A h9) args s 0 0 A) (F0 m 3 ls []) := by
  intro n
  induction n with
  | zero =>
    intro x0 x1 x2 x3 x4 x5 x6 h H locs ls hl S hf
    exact nomatch hf
  | succ n ih =>
    intro x0 x1 x2 x3 x4 x5 x6 h H locs ls hl S hf
    exact wfX8_layZoned_3 X hr hlk hnm ih x0 x1 x2 x3 x4 x5 x6 h H locs ls hl S hf
def fX8_layZoned (a0 : Nat) (a1 : Int32) (a2 : Int32) (a3 : Int32) (a4 : Int32) (a5 : Int32) (h : Hp) : Option (Hp) := gd 7 a0 h (lp (fun _ _ _ _ _ _ _ _ => none) (fX8_layZoned_3) FU a0 a1 a2 a3 a4 a5 1 h)
theorem tkX8_layZoned {a0 : Nat} {a1 : Int32} {a2 : Int32} {a3 : Int32} {a4 : Int32} {a5 : Int32} {h : Hp} {r9 : Hp} (e : fX8_layZoned a0 a1 a2 a3 a4 a5 h = some r9) : hK h a0 = 7 := by
  unfold fX8_layZoned at e
  exact (gd_some e).1
theorem cX8_layZoned_m (l : Launch) {E : EE} {A : Nat → Prop} {a0 : Nat} {a1 : Int32} {a2 : Int32} {a3 : Int32} {a4 : Int32} {a5 : Int32} {h : Hp} {h9 : Hp} (hf : fX8_layZoned a0 a1 a2 a3 a4 a5 h = some h9) : Met l yX8_layZoned (wsM yX8_layZoned cX8_layZoned 7 none) (rmm 10 0 0) (PcE E A h [rv a0, .int a1, .int a2, .int a3, .int a4, .int a5]) (Qv E A h9) 0 0 A := by
  refine met_of (by decide +kernel) (by simp [lg_sl, cat_rv, cat_wv, cat_sv, cat_i, cat_l, cat_a]) (fun p e s m args below meth c ls X hr hlk hnm S hl => ?_)
  have hl : lv_has ls 7 [(0, rv a0), (1, .int a1), (2, .int a2), (3, .int a3), (4, .int a4), (5, .int a5)] := by simpa [lv_args, cat_rv, cat_wv, cat_sv, cat_i, cat_l, cat_a] using hl
  generalize hH : s.heap = H at S ⊢
  generalize hlo : ([] : List Loc) = locs at S ⊢
  clear hH hlo
  unfold fX8_layZoned at hf
  obtain ⟨hth, hf⟩ := gd_some hf
  refine lv_iconst (v := 1) X.1 X.2.1 dX8_layZoned_0 (by decide) ?_
  refine lv_istore (lv' := [(6, .int 1), (0, rv a0), (1, .int a1), (2, .int a2), (3, .int a3), (4, .int a4), (5, .int a5)]) X.1 X.2.1 dX8_layZoned_1 hl (by decide) rfl (fun ls hl => ?_)
  exact wfX8_layZoned_3_l X hr hlk hnm FU _ _ _ _ _ _ _ _ _ _ _ (lv_sub hl [1, 2, 3, 4, 5, 6, 0] rfl) S hf
def fX8_layPacked_17 (k17 : Nat → Int32 → Int32 → Int32 → Int32 → Int32 → Hp → Option (Hp)) (x0 : Nat) (x1 : Int32) (x2 : Int32) (x3 : Int32) (x4 : Int32) (x6 : Int32) (h : Hp) : Option (Hp) := if (2 * x2) ≤ x6 then some h else ob (gR 7 x0 5 h) fun v2 => ob (fX8_digitBack x0 x3 x4 x6 h) fun v3 => ob (fX6_layHalf v2 (((2 * x1) - 1) - x6) v3 h) fun h => lt (x6 + 1) fun z5 => k17 x0 x1 x2 x3 x4 z5 h
theorem wfX8_layPacked_17 {k17 : Nat → Int32 → Int32 → Int32 → Int32 → Int32 → Hp → Option (Hp)} {h9 : Hp} (X : Cx p E A 10 R s m args c cX8_layPacked yX8_layPacked.cls 7) (hr : meth.sig.returnType = none) (hlk : meth.locks = false) (hnm : meth.name = yX8_layPacked.name) (hk17 : ∀ (x0 : Nat) (x1 : Int32) (x2 : Int32) (x3 : Int32) (x4 : Int32) (x6 : Int32) (h : Hp) (H : Heap) (locs : List Loc) (ls : Array Slot), lv_has ls 7 [(0, rv x0), (1, .int x1), (2, .int x2), (3, .int x3), (4, .int x4), (6, .int x6)] → St E A s h H locs → k17 x0 x1 x2 x3 x4 x6 h = some h9 → W p l e R s m args below meth c H locs 0 0 (MQ below (Qv E A h9) args s 0 0 A) (F0 m 17 ls [])) :
    ∀ (x0 : Nat) (x1 : Int32) (x2 : Int32) (x3 : Int32) (x4 : Int32) (x6 : Int32) (h : Hp) (H : Heap) (locs : List Loc) (ls : Array Slot), lv_has ls 7 [(0, rv x0), (1, .int x1), (2, .int x2), (3, .int x3), (4, .int x4), (6, .int x6)] → St E A s h H locs → fX8_layPacked_17 k17 x0 x1 x2 x3 x4 x6 h = some h9 → W p l e R s m args below meth c H locs 0 0 (MQ below (Qv E A h9) args s 0 0 A) (F0 m 17 ls []) := by
  intro x0 x1 x2 x3 x4 x6 h H locs ls hl S hf
  unfold fX8_layPacked_17 at hf
  refine lv_iload X.1 X.2.1 dX8_layPacked_17 (lv_at hl 5 rfl) ?_
  refine lv_iconst (v := 2) X.1 X.2.1 dX8_layPacked_19 (by decide) ?_
  refine lv_iload_n X.1 X.2.1 dX8_layPacked_20 rfl (lv_at hl 2 rfl) ?_
  refine lv_imul X.1 X.2.1 dX8_layPacked_21 ?_
  refine lv_icmp_ge (tgt := 55) X.1 X.2.1 dX8_layPacked_22 (by decide) (fun c1 => ?_) (fun c1 => ?_)
  · replace hf := (if_pos c1).symm.trans hf
    cases hf; exact g_rv X S hr hlk dX8_layPacked_55
  · replace hf := (if_neg c1).symm.trans hf
    refine g_aload_n X (or_rv _) dX8_layPacked_25 rfl (lv_at hl 0 rfl) ?_
    refine g_gR X S foX8_28 dX8_layPacked_26 hf (fun v2 hf => ?_)
    refine lv_iconst (v := 2) X.1 X.2.1 dX8_layPacked_29 (by decide) ?_
    refine lv_iload_n X.1 X.2.1 dX8_layPacked_30 rfl (lv_at hl 1 rfl) ?_
    refine lv_imul X.1 X.2.1 dX8_layPacked_31 ?_
    refine lv_iconst (v := 1) X.1 X.2.1 dX8_layPacked_32 (by decide) ?_
    refine lv_isub X.1 X.2.1 dX8_layPacked_33 ?_
    refine lv_iload X.1 X.2.1 dX8_layPacked_34 (lv_at hl 5 rfl) ?_
    refine lv_isub X.1 X.2.1 dX8_layPacked_36 ?_
    refine g_aload_n X (or_rv _) dX8_layPacked_37 rfl (lv_at hl 0 rfl) ?_
    refine lv_iload_n X.1 X.2.1 dX8_layPacked_38 rfl (lv_at hl 3 rfl) ?_
    refine lv_iload X.1 X.2.1 dX8_layPacked_39 (lv_at hl 4 rfl) ?_
    refine lv_iload X.1 X.2.1 dX8_layPacked_41 (lv_at hl 5 rfl) ?_
    obtain ⟨v3, hc, hf⟩ := ob_some hf
    refine g_ci S (runV (As := [.int x3, .int x4, .int x6]) (rest := [.int (((2 * x1) - 1) - x6), rv v2]) X S coX8_138 (by decide) (cX8_digitBack_m l hc) (tkX8_digitBack hc) rfl hl.1 (by simp [cat_rv, cat_wv, cat_sv, cat_i, cat_l, cat_a]) rfl ⟨Nat.zero_le _, Nat.zero_le _⟩ dX8_layPacked_43) (fun H locs S => ?_)
    obtain ⟨h, hc, hf⟩ := ob_some hf
    refine g_cv S (runV (As := [.int (((2 * x1) - 1) - x6), .int v3]) (rest := []) X S coX8_114 (by decide) (cX6_layHalf_m l hc) (tkX6_layHalf hc) rfl hl.1 (by decide) rfl ⟨Nat.zero_le _, Nat.zero_le _⟩ dX8_layPacked_46) (fun H locs S => ?_)
    obtain ⟨z5, ez5, hf⟩ := lt_some hf
    refine lv_iinc (v := z5) (lv' := [(6, .int z5), (0, rv x0), (1, .int x1), (2, .int x2), (3, .int x3), (4, .int x4)]) X.1 X.2.1 dX8_layPacked_49 hl (k := 5) rfl (by rw [← ez5]; rfl) (by decide) rfl (fun ls hl => ?_)
    refine lv_goto (tgt := 17) X.1 X.2.1 dX8_layPacked_52 (by decide) ?_
    exact hk17 _ _ _ _ _ _ _ _ _ _ (lv_sub hl [1, 2, 3, 4, 5, 0] rfl) S hf
theorem wfX8_layPacked_17_l {h9 : Hp} (X : Cx p E A 10 R s m args c cX8_layPacked yX8_layPacked.cls 7) (hr : meth.sig.returnType = none) (hlk : meth.locks = false) (hnm : meth.name = yX8_layPacked.name) :
    ∀ (n : Nat) (x0 : Nat) (x1 : Int32) (x2 : Int32) (x3 : Int32) (x4 : Int32) (x6 : Int32) (h : Hp) (H : Heap) (locs : List Loc) (ls : Array Slot), lv_has ls 7 [(0, rv x0), (1, .int x1), (2, .int x2), (3, .int x3), (4, .int x4), (6, .int x6)] → St E A s h H locs → lp (fun _ _ _ _ _ _ _ => none) (fX8_layPacked_17) n x0 x1 x2 x3 x4 x6 h = some h9 → W p l e R s m args below meth c H locs 0 0 (MQ below (Qv E A h9) args s 0 0 A) (F0 m 17 ls []) := by
  intro n
  induction n with
  | zero =>
    intro x0 x1 x2 x3 x4 x6 h H locs ls hl S hf
    exact nomatch hf
  | succ n ih =>
    intro x0 x1 x2 x3 x4 x6 h H locs ls hl S hf
    exact wfX8_layPacked_17 X hr hlk hnm ih x0 x1 x2 x3 x4 x6 h H locs ls hl S hf
def fX8_layPacked (a0 : Nat) (a1 : Int32) (a2 : Int32) (a3 : Int32) (a4 : Int32) (a5 : Int32) (h : Hp) : Option (Hp) := gd 7 a0 h (ob (gR 7 a0 5 h) fun v1 => ob (fX6_layHalf v1 ((2 * a1) - 1) a5 h) fun h => lp (fun _ _ _ _ _ _ _ => none) (fX8_layPacked_17) FU a0 a1 a2 a3 a4 1 h)
theorem tkX8_layPacked {a0 : Nat} {a1 : Int32} {a2 : Int32} {a3 : Int32} {a4 : Int32} {a5 : Int32} {h : Hp} {r9 : Hp} (e : fX8_layPacked a0 a1 a2 a3 a4 a5 h = some r9) : hK h a0 = 7 := by
  unfold fX8_layPacked at e
  exact (gd_some e).1
theorem cX8_layPacked_m (l : Launch) {E : EE} {A : Nat → Prop} {a0 : Nat} {a1 : Int32} {a2 : Int32} {a3 : Int32} {a4 : Int32} {a5 : Int32} {h : Hp} {h9 : Hp} (hf : fX8_layPacked a0 a1 a2 a3 a4 a5 h = some h9) : Met l yX8_layPacked (wsM yX8_layPacked cX8_layPacked 7 none) (rmm 10 0 0) (PcE E A h [rv a0, .int a1, .int a2, .int a3, .int a4, .int a5]) (Qv E A h9) 0 0 A := by
  refine met_of (by decide +kernel) (by simp [lg_sl, cat_rv, cat_wv, cat_sv, cat_i, cat_l, cat_a]) (fun p e s m args below meth c ls X hr hlk hnm S hl => ?_)
  have hl : lv_has ls 7 [(0, rv a0), (1, .int a1), (2, .int a2), (3, .int a3), (4, .int a4), (5, .int a5)] := by simpa [lv_args, cat_rv, cat_wv, cat_sv, cat_i, cat_l, cat_a] using hl
  generalize hH : s.heap = H at S ⊢
  generalize hlo : ([] : List Loc) = locs at S ⊢
  clear hH hlo
  unfold fX8_layPacked at hf
  obtain ⟨hth, hf⟩ := gd_some hf
  refine g_aload_n X (or_rv _) dX8_layPacked_0 rfl (lv_at hl 0 rfl) ?_
  refine g_gR X S foX8_28 dX8_layPacked_1 hf (fun v1 hf => ?_)
  refine lv_iconst (v := 2) X.1 X.2.1 dX8_layPacked_4 (by decide) ?_
  refine lv_iload_n X.1 X.2.1 dX8_layPacked_5 rfl (lv_at hl 1 rfl) ?_
  refine lv_imul X.1 X.2.1 dX8_layPacked_6 ?_
  refine lv_iconst (v := 1) X.1 X.2.1 dX8_layPacked_7 (by decide) ?_
  refine lv_isub X.1 X.2.1 dX8_layPacked_8 ?_
  refine lv_iload X.1 X.2.1 dX8_layPacked_9 (lv_at hl 5 rfl) ?_
  obtain ⟨h, hc, hf⟩ := ob_some hf
  refine g_cv S (runV (As := [.int ((2 * a1) - 1), .int a5]) (rest := []) X S coX8_114 (by decide) (cX6_layHalf_m l hc) (tkX6_layHalf hc) rfl hl.1 (by decide) rfl ⟨Nat.zero_le _, Nat.zero_le _⟩ dX8_layPacked_11) (fun H locs S => ?_)
  refine lv_iconst (v := 1) X.1 X.2.1 dX8_layPacked_14 (by decide) ?_
  refine lv_istore (lv' := [(6, .int 1), (0, rv a0), (1, .int a1), (2, .int a2), (3, .int a3), (4, .int a4), (5, .int a5)]) X.1 X.2.1 dX8_layPacked_15 hl (by decide) rfl (fun ls hl => ?_)
  exact wfX8_layPacked_17_l X hr hlk hnm FU _ _ _ _ _ _ _ _ _ _ (lv_sub hl [1, 2, 3, 4, 5, 0] rfl) S hf
def fX8_readDigits_128 (x0 : Nat) (x1 : Int32) (x2 : Int32) (x3 : Int32) (x4 : Int32) (x5 : Int32) (y0 : Int32) (h : Hp) : Option (Hp) := ob2 (fX8_passNumber x0 y0 (imin 16 (256 - x1)) h) fun v1 h => ob (gI 7 x0 10 h) fun v2 => if v2 = 0 then if x2 = 0 then ob (fX8_layPacked x0 (x1 + v1) v1 x4 x5 x3 h) fun h => some h else ob (fX8_layZoned x0 (x1 + v1) v1 x4 x5 x3 h) fun h => some h else some h
theorem wfX8_readDigits_128 {h9 : Hp} (X : Cx p E A 11 R s m args c cX8_readDigits yX8_readDigits.cls 8) (hr : meth.sig.returnType = none) (hlk : meth.locks = false) (hnm : meth.name = yX8_readDigits.name) :
    ∀ (x0 : Nat) (x1 : Int32) (x2 : Int32) (x3 : Int32) (x4 : Int32) (x5 : Int32) (y0 : Int32) (h : Hp) (H : Heap) (locs : List Loc) (ls : Array Slot), lv_has ls 8 [(0, rv x0), (1, .int x1), (2, .int x2), (3, .int x3), (4, .int x4), (5, .int x5)] → St E A s h H locs → fX8_readDigits_128 x0 x1 x2 x3 x4 x5 y0 h = some h9 → W p l e R s m args below meth c H locs 0 0 (MQ below (Qv E A h9) args s 0 0 A) (F0 m 128 ls [.int y0]) := by
  intro x0 x1 x2 x3 x4 x5 y0 h H locs ls hl S hf
  unfold fX8_readDigits_128 at hf
  refine lv_istore (lv' := [(6, .int y0), (0, rv x0), (1, .int x1), (2, .int x2), (3, .int x3), (4, .int x4), (5, .int x5)]) X.1 X.2.1 dX8_readDigits_128 hl (by decide) rfl (fun ls hl => ?_)
  refine g_aload_n X (or_rv _) dX8_readDigits_130 rfl (lv_at hl 1 rfl) ?_
  refine lv_iload X.1 X.2.1 dX8_readDigits_131 (lv_at hl 0 rfl) ?_
  refine lv_bipush (v := 16) X.1 X.2.1 dX8_readDigits_133 (by decide) ?_
  refine lv_sipush (v := 256) X.1 X.2.1 dX8_readDigits_135 (by decide) ?_
  refine lv_iload_n X.1 X.2.1 dX8_readDigits_138 rfl (lv_at hl 2 rfl) ?_
  refine lv_isub X.1 X.2.1 dX8_readDigits_139 ?_
  refine g_min (rest := [.int y0, rv x0]) X hl.1 (by decide) (by simp [cat_rv, cat_wv, cat_sv, cat_i, cat_l, cat_a]) mlX8_32 u_min_s u_math u_min_c (Nat.zero_le _) (Nat.zero_le _) dX8_readDigits_140 ?_
  obtain ⟨v1, h, hc, hf⟩ := ob2_some hf
  refine g_ci S (runV (As := [.int y0, .int (imin 16 (256 - x1))]) (rest := []) X S coX8_92 (by decide) (cX8_passNumber_m l hc) (tkX8_passNumber hc) rfl hl.1 (by decide) rfl ⟨Nat.zero_le _, Nat.zero_le _⟩ dX8_readDigits_143) (fun H locs S => ?_)
  refine lv_istore (lv' := [(7, .int v1), (6, .int y0), (0, rv x0), (1, .int x1), (2, .int x2), (3, .int x3), (4, .int x4), (5, .int x5)]) X.1 X.2.1 dX8_readDigits_146 hl (by decide) rfl (fun ls hl => ?_)
  refine g_aload_n X (or_rv _) dX8_readDigits_148 rfl (lv_at hl 2 rfl) ?_
  refine g_gI X S foX8_45 rfl dX8_readDigits_149 hf (fun v2 hf => ?_)
  refine lv_if_eq (tgt := 156) X.1 X.2.1 dX8_readDigits_152 (by decide) (fun c3 => ?_) (fun c3 => ?_)
  · replace hf := (if_pos c3).symm.trans hf
    refine lv_iload_n X.1 X.2.1 dX8_readDigits_156 rfl (lv_at hl 4 rfl) ?_
    refine lv_if_eq (tgt := 178) X.1 X.2.1 dX8_readDigits_157 (by decide) (fun c4 => ?_) (fun c4 => ?_)
    · replace hf := (if_pos c4).symm.trans hf
      refine g_aload_n X (or_rv _) dX8_readDigits_178 rfl (lv_at hl 2 rfl) ?_
      refine lv_iload_n X.1 X.2.1 dX8_readDigits_179 rfl (lv_at hl 3 rfl) ?_
      refine lv_iload X.1 X.2.1 dX8_readDigits_180 (lv_at hl 0 rfl) ?_
      refine lv_iadd X.1 X.2.1 dX8_readDigits_182 ?_
      refine lv_iload X.1 X.2.1 dX8_readDigits_183 (lv_at hl 0 rfl) ?_
      refine lv_iload X.1 X.2.1 dX8_readDigits_185 (lv_at hl 6 rfl) ?_
      refine lv_iload X.1 X.2.1 dX8_readDigits_187 (lv_at hl 7 rfl) ?_
      refine lv_iload_n X.1 X.2.1 dX8_readDigits_189 rfl (lv_at hl 5 rfl) ?_
      obtain ⟨h, hc, hf⟩ := ob_some hf
      refine g_cv S (runV (As := [.int (x1 + v1), .int v1, .int x4, .int x5, .int x3]) (rest := []) X S coX8_135 (by decide) (cX8_layPacked_m l hc) (tkX8_layPacked hc) rfl hl.1 (by decide) rfl ⟨Nat.zero_le _, Nat.zero_le _⟩ dX8_readDigits_190) (fun H locs S => ?_)
      cases hf; exact g_rv X S hr hlk dX8_readDigits_193
    · replace hf := (if_neg c4).symm.trans hf
      refine g_aload_n X (or_rv _) dX8_readDigits_160 rfl (lv_at hl 2 rfl) ?_
      refine lv_iload_n X.1 X.2.1 dX8_readDigits_161 rfl (lv_at hl 3 rfl) ?_
      refine lv_iload X.1 X.2.1 dX8_readDigits_162 (lv_at hl 0 rfl) ?_
      refine lv_iadd X.1 X.2.1 dX8_readDigits_164 ?_
      refine lv_iload X.1 X.2.1 dX8_readDigits_165 (lv_at hl 0 rfl) ?_
      refine lv_iload X.1 X.2.1 dX8_readDigits_167 (lv_at hl 6 rfl) ?_
      refine lv_iload X.1 X.2.1 dX8_readDigits_169 (lv_at hl 7 rfl) ?_
      refine lv_iload_n X.1 X.2.1 dX8_readDigits_171 rfl (lv_at hl 5 rfl) ?_
      obtain ⟨h, hc, hf⟩ := ob_some hf
      refine g_cv S (runV (As := [.int (x1 + v1), .int v1, .int x4, .int x5, .int x3]) (rest := []) X S coX8_131 (by decide) (cX8_layZoned_m l hc) (tkX8_layZoned hc) rfl hl.1 (by decide) rfl ⟨Nat.zero_le _, Nat.zero_le _⟩ dX8_readDigits_172) (fun H locs S => ?_)
      refine lv_goto (tgt := 193) X.1 X.2.1 dX8_readDigits_175 (by decide) ?_
      cases hf; exact g_rv X S hr hlk dX8_readDigits_193
  · replace hf := (if_neg c3).symm.trans hf
    cases hf; exact g_rv X S hr hlk dX8_readDigits_155
def fX8_readDigits_56 (x0 : Nat) (x1 : Int32) (x2 : Int32) (y0 : Int32) (h : Hp) : Option (Hp) := ob (gI 7 x0 8 h) fun v1 => ob (gI 7 x0 9 h) fun v2 => ob (gI 7 x0 6 h) fun v3 => if v3 = 2 then ob (fX8_advance x0 h) fun h => ob (gR 7 x0 7 h) fun v6 => wk v6 4 (if v6 = 4 then ob (fX8_advance x0 h) fun h => if x2 = 0 then fX8_readDigits_128 x0 x1 x2 y0 v1 v2 (((v2 - v1) / 2) + 1) h else fX8_readDigits_128 x0 x1 x2 y0 v1 v2 (v2 - v1) h else ob (fX8_fail x0 1 h) fun h => some h) else ob (fX8_fail x0 1 h) fun h => some h
theorem wfX8_readDigits_56 {h9 : Hp} (X : Cx p E A 11 R s m args c cX8_readDigits yX8_readDigits.cls 8) (hr : meth.sig.returnType = none) (hlk : meth.locks = false) (hnm : meth.name = yX8_readDigits.name) :
    ∀ (x0 : Nat) (x1 : Int32) (x2 : Int32) (y0 : Int32) (h : Hp) (H : Heap) (locs : List Loc) (ls : Array Slot), lv_has ls 8 [(0, rv x0), (1, .int x1), (2, .int x2)] → St E A s h H locs → fX8_readDigits_56 x0 x1 x2 y0 h = some h9 → W p l e R s m args below meth c H locs 0 0 (MQ below (Qv E A h9) args s 0 0 A) (F0 m 56 ls [.int y0]) := by
  intro x0 x1 x2 y0 h H locs ls hl S hf
  unfold fX8_readDigits_56 at hf
  refine lv_istore_n (i := 3) (lv' := [(3, .int y0), (0, rv x0), (1, .int x1), (2, .int x2)]) X.1 X.2.1 dX8_readDigits_56 rfl hl (by decide) rfl (fun ls hl => ?_)
  refine g_aload_n X (or_rv _) dX8_readDigits_57 rfl (lv_at hl 1 rfl) ?_
  refine g_gI X S foX8_101 rfl dX8_readDigits_58 hf (fun v1 hf => ?_)
  refine lv_istore (lv' := [(4, .int v1), (3, .int y0), (0, rv x0), (1, .int x1), (2, .int x2)]) X.1 X.2.1 dX8_readDigits_61 hl (by decide) rfl (fun ls hl => ?_)
  refine g_aload_n X (or_rv _) dX8_readDigits_63 rfl (lv_at hl 2 rfl) ?_
  refine g_gI X S foX8_48 rfl dX8_readDigits_64 hf (fun v2 hf => ?_)
  refine lv_istore (lv' := [(5, .int v2), (4, .int v1), (3, .int y0), (0, rv x0), (1, .int x1), (2, .int x2)]) X.1 X.2.1 dX8_readDigits_67 hl (by decide) rfl (fun ls hl => ?_)
  refine g_aload_n X (or_rv _) dX8_readDigits_69 rfl (lv_at hl 3 rfl) ?_
  refine g_gI X S foX8_54 rfl dX8_readDigits_70 hf (fun v3 hf => ?_)
  refine lv_iconst (v := 2) X.1 X.2.1 dX8_readDigits_73 (by decide) ?_
  refine lv_icmp_eq (tgt := 83) X.1 X.2.1 dX8_readDigits_74 (by decide) (fun c4 => ?_) (fun c4 => ?_)
  · replace hf := (if_pos c4).symm.trans hf
    refine g_aload_n X (or_rv _) dX8_readDigits_83 rfl (lv_at hl 3 rfl) ?_
    obtain ⟨h, hc, hf⟩ := ob_some hf
    refine g_cv S (runV (As := []) (rest := []) X S coX8_51 (by decide) (cX8_advance_m l hc) (tkX8_advance hc) rfl hl.1 (by decide) rfl ⟨Nat.zero_le _, Nat.zero_le _⟩ dX8_readDigits_84) (fun H locs S => ?_)
    refine g_aload_n X (or_rv _) dX8_readDigits_87 rfl (lv_at hl 3 rfl) ?_
    refine g_gW X S foX8_66 dX8_readDigits_88 hf (fun v6 hf => ?_)
    refine g_getw X S sfX8_128 (i := 3) ⟨by decide, rfl⟩ dX8_readDigits_91 ?_
    obtain ⟨hwa, hwb, hf⟩ := wk_some hf
    refine g_acmpeqW (tgt := 103) X dX8_readDigits_94 (by decide) hwa hwb (fun c8 => ?_) (fun c8 => ?_)
    · replace hf := (if_pos c8).symm.trans hf
      refine g_aload_n X (or_rv _) dX8_readDigits_103 rfl (lv_at hl 3 rfl) ?_
      obtain ⟨h, hc, hf⟩ := ob_some hf
      refine g_cv S (runV (As := []) (rest := []) X S coX8_51 (by decide) (cX8_advance_m l hc) (tkX8_advance hc) rfl hl.1 (by decide) rfl ⟨Nat.zero_le _, Nat.zero_le _⟩ dX8_readDigits_104) (fun H locs S => ?_)
      refine lv_iload_n X.1 X.2.1 dX8_readDigits_107 rfl (lv_at hl 5 rfl) ?_
      refine lv_if_eq (tgt := 119) X.1 X.2.1 dX8_readDigits_108 (by decide) (fun c10 => ?_) (fun c10 => ?_)
      · replace hf := (if_pos c10).symm.trans hf
        refine lv_iload X.1 X.2.1 dX8_readDigits_119 (lv_at hl 0 rfl) ?_
        refine lv_iload X.1 X.2.1 dX8_readDigits_121 (lv_at hl 1 rfl) ?_
        refine lv_isub X.1 X.2.1 dX8_readDigits_123 ?_
        refine lv_iconst (v := 2) X.1 X.2.1 dX8_readDigits_124 (by decide) ?_
        refine g_idiv X (by decide) dX8_readDigits_125 ?_
        refine lv_iconst (v := 1) X.1 X.2.1 dX8_readDigits_126 (by decide) ?_
        refine lv_iadd X.1 X.2.1 dX8_readDigits_127 ?_
        exact wfX8_readDigits_128 X hr hlk hnm _ _ _ _ _ _ _ _ _ _ _ (lv_sub hl [3, 4, 5, 2, 1, 0] rfl) S hf
      · replace hf := (if_neg c10).symm.trans hf
        refine lv_iload X.1 X.2.1 dX8_readDigits_111 (lv_at hl 0 rfl) ?_
        refine lv_iload X.1 X.2.1 dX8_readDigits_113 (lv_at hl 1 rfl) ?_
        refine lv_isub X.1 X.2.1 dX8_readDigits_115 ?_
        refine lv_goto (tgt := 128) X.1 X.2.1 dX8_readDigits_116 (by decide) ?_
        exact wfX8_readDigits_128 X hr hlk hnm _ _ _ _ _ _ _ _ _ _ _ (lv_sub hl [3, 4, 5, 2, 1, 0] rfl) S hf
    · replace hf := (if_neg c8).symm.trans hf
      refine g_aload_n X (or_rv _) dX8_readDigits_97 rfl (lv_at hl 3 rfl) ?_
      refine lv_iconst (v := 1) X.1 X.2.1 dX8_readDigits_98 (by decide) ?_
      obtain ⟨h, hc, hf⟩ := ob_some hf
      refine g_cv S (runV (As := [.int 1]) (rest := []) X S coX8_104 (by decide) (cX8_fail_m l hc) (tkX8_fail hc) rfl hl.1 (by decide) rfl ⟨Nat.zero_le _, Nat.zero_le _⟩ dX8_readDigits_99) (fun H locs S => ?_)
      cases hf; exact g_rv X S hr hlk dX8_readDigits_102
  · replace hf := (if_neg c4).symm.trans hf
    refine g_aload_n X (or_rv _) dX8_readDigits_77 rfl (lv_at hl 3 rfl) ?_
    refine lv_iconst (v := 1) X.1 X.2.1 dX8_readDigits_78 (by decide) ?_
    obtain ⟨h, hc, hf⟩ := ob_some hf
    refine g_cv S (runV (As := [.int 1]) (rest := []) X S coX8_104 (by decide) (cX8_fail_m l hc) (tkX8_fail hc) rfl hl.1 (by decide) rfl ⟨Nat.zero_le _, Nat.zero_le _⟩ dX8_readDigits_79) (fun H locs S => ?_)
    cases hf; exact g_rv X S hr hlk dX8_readDigits_82
def fX8_readDigits_36 (x0 : Nat) (x1 : Int32) (x2 : Int32) (h : Hp) : Option (Hp) := ob (fX8_advance x0 h) fun h => ob2 (fX8_passed x0 45 h) fun v2 h => if v2 = 0 then fX8_readDigits_56 x0 x1 x2 12 h else fX8_readDigits_56 x0 x1 x2 13 h
theorem wfX8_readDigits_36 {h9 : Hp} (X : Cx p E A 11 R s m args c cX8_readDigits yX8_readDigits.cls 8) (hr : meth.sig.returnType = none) (hlk : meth.locks = false) (hnm : meth.name = yX8_readDigits.name) :
    ∀ (x0 : Nat) (x1 : Int32) (x2 : Int32) (h : Hp) (H : Heap) (locs : List Loc) (ls : Array Slot), lv_has ls 8 [(0, rv x0), (1, .int x1), (2, .int x2)] → St E A s h H locs → fX8_readDigits_36 x0 x1 x2 h = some h9 → W p l e R s m args below meth c H locs 0 0 (MQ below (Qv E A h9) args s 0 0 A) (F0 m 36 ls []) := by
  intro x0 x1 x2 h H locs ls hl S hf
  unfold fX8_readDigits_36 at hf
  refine g_aload_n X (or_rv _) dX8_readDigits_36 rfl (lv_at hl 0 rfl) ?_
  obtain ⟨h, hc, hf⟩ := ob_some hf
  refine g_cv S (runV (As := []) (rest := []) X S coX8_51 (by decide) (cX8_advance_m l hc) (tkX8_advance hc) rfl hl.1 (by decide) rfl ⟨Nat.zero_le _, Nat.zero_le _⟩ dX8_readDigits_37) (fun H locs S => ?_)
  refine g_aload_n X (or_rv _) dX8_readDigits_40 rfl (lv_at hl 0 rfl) ?_
  refine lv_bipush (v := 45) X.1 X.2.1 dX8_readDigits_41 (by decide) ?_
  obtain ⟨v2, h, hc, hf⟩ := ob2_some hf
  refine g_ci S (runV (As := [.int 45]) (rest := []) X S coX8_124 (by decide) (cX8_passed_m l hc) (tkX8_passed hc) rfl hl.1 (by decide) rfl ⟨Nat.zero_le _, Nat.zero_le _⟩ dX8_readDigits_43) (fun H locs S => ?_)
  refine lv_if_eq (tgt := 54) X.1 X.2.1 dX8_readDigits_46 (by decide) (fun c3 => ?_) (fun c3 => ?_)
  · replace hf := (if_pos c3).symm.trans hf
    refine lv_bipush (v := 12) X.1 X.2.1 dX8_readDigits_54 (by decide) ?_
    exact wfX8_readDigits_56 X hr hlk hnm _ _ _ _ _ _ _ _ hl S hf
  · replace hf := (if_neg c3).symm.trans hf
    refine lv_bipush (v := 13) X.1 X.2.1 dX8_readDigits_49 (by decide) ?_
    refine lv_goto (tgt := 56) X.1 X.2.1 dX8_readDigits_51 (by decide) ?_
    exact wfX8_readDigits_56 X hr hlk hnm _ _ _ _ _ _ _ _ hl S hf
def fX8_readDigits_15 (x0 : Nat) (x1 : Int32) (y0 : Int32) (h : Hp) : Option (Hp) := if y0 = 0 then ob (gR 7 x0 7 h) fun v2 => wk v2 2 (if v2 = 2 then fX8_readDigits_36 x0 x1 y0 h else ob (fX8_fail x0 1 h) fun h => some h) else fX8_readDigits_36 x0 x1 y0 h
theorem wfX8_readDigits_15 {h9 : Hp} (X : Cx p E A 11 R s m args c cX8_readDigits yX8_readDigits.cls 8) (hr : meth.sig.returnType = none) (hlk : meth.locks = false) (hnm : meth.name = yX8_readDigits.name) :
    ∀ (x0 : Nat) (x1 : Int32) (y0 : Int32) (h : Hp) (H : Heap) (locs : List Loc) (ls : Array Slot), lv_has ls 8 [(0, rv x0), (1, .int x1)] → St E A s h H locs → fX8_readDigits_15 x0 x1 y0 h = some h9 → W p l e R s m args below meth c H locs 0 0 (MQ below (Qv E A h9) args s 0 0 A) (F0 m 15 ls [.int y0]) := by
  intro x0 x1 y0 h H locs ls hl S hf
  unfold fX8_readDigits_15 at hf
  refine lv_istore_n (i := 2) (lv' := [(2, .int y0), (0, rv x0), (1, .int x1)]) X.1 X.2.1 dX8_readDigits_15 rfl hl (by decide) rfl (fun ls hl => ?_)
  refine lv_iload_n X.1 X.2.1 dX8_readDigits_16 rfl (lv_at hl 0 rfl) ?_
  refine lv_if_ne (tgt := 36) X.1 X.2.1 dX8_readDigits_17 (by decide) (fun c1 => ?_) (fun c1 => ?_)
  · replace hf := (if_neg c1).symm.trans hf
    exact wfX8_readDigits_36 X hr hlk hnm _ _ _ _ _ _ _ (lv_sub hl [1, 2, 0] rfl) S hf
  · replace hf := (if_pos c1).symm.trans hf
    refine g_aload_n X (or_rv _) dX8_readDigits_20 rfl (lv_at hl 1 rfl) ?_
    refine g_gW X S foX8_66 dX8_readDigits_21 hf (fun v2 hf => ?_)
    refine g_getw X S sfX8_121 (i := 1) ⟨by decide, rfl⟩ dX8_readDigits_24 ?_
    obtain ⟨hwa, hwb, hf⟩ := wk_some hf
    refine g_acmpeqW (tgt := 36) X dX8_readDigits_27 (by decide) hwa hwb (fun c4 => ?_) (fun c4 => ?_)
    · replace hf := (if_pos c4).symm.trans hf
      exact wfX8_readDigits_36 X hr hlk hnm _ _ _ _ _ _ _ (lv_sub hl [1, 2, 0] rfl) S hf
    · replace hf := (if_neg c4).symm.trans hf
      refine g_aload_n X (or_rv _) dX8_readDigits_30 rfl (lv_at hl 1 rfl) ?_
      refine lv_iconst (v := 1) X.1 X.2.1 dX8_readDigits_31 (by decide) ?_
      obtain ⟨h, hc, hf⟩ := ob_some hf
      refine g_cv S (runV (As := [.int 1]) (rest := []) X S coX8_104 (by decide) (cX8_fail_m l hc) (tkX8_fail hc) rfl hl.1 (by decide) rfl ⟨Nat.zero_le _, Nat.zero_le _⟩ dX8_readDigits_32) (fun H locs S => ?_)
      cases hf; exact g_rv X S hr hlk dX8_readDigits_35
def fX8_readDigits (a0 : Nat) (a1 : Int32) (h : Hp) : Option (Hp) := gd 7 a0 h (ob (gR 7 a0 7 h) fun v1 => wk v1 3 (if v1 = 3 then fX8_readDigits_15 a0 a1 1 h else fX8_readDigits_15 a0 a1 0 h))
theorem tkX8_readDigits {a0 : Nat} {a1 : Int32} {h : Hp} {r9 : Hp} (e : fX8_readDigits a0 a1 h = some r9) : hK h a0 = 7 := by
  unfold fX8_readDigits at e
  exact (gd_some e).1
theorem cX8_readDigits_m (l : Launch) {E : EE} {A : Nat → Prop} {a0 : Nat} {a1 : Int32} {h : Hp} {h9 : Hp} (hf : fX8_readDigits a0 a1 h = some h9) : Met l yX8_readDigits (wsM yX8_readDigits cX8_readDigits 8 none) (rmm 11 0 0) (PcE E A h [rv a0, .int a1]) (Qv E A h9) 0 0 A := by
  refine met_of (by decide +kernel) (by simp [lg_sl, cat_rv, cat_wv, cat_sv, cat_i, cat_l, cat_a]) (fun p e s m args below meth c ls X hr hlk hnm S hl => ?_)
  have hl : lv_has ls 8 [(0, rv a0), (1, .int a1)] := by simpa [lv_args, cat_rv, cat_wv, cat_sv, cat_i, cat_l, cat_a] using hl
  generalize hH : s.heap = H at S ⊢
  generalize hlo : ([] : List Loc) = locs at S ⊢
  clear hH hlo
  unfold fX8_readDigits at hf
  obtain ⟨hth, hf⟩ := gd_some hf
  refine g_aload_n X (or_rv _) dX8_readDigits_0 rfl (lv_at hl 0 rfl) ?_
  refine g_gW X S foX8_66 dX8_readDigits_1 hf (fun v1 hf => ?_)
  refine g_getw X S sfX8_118 (i := 2) ⟨by decide, rfl⟩ dX8_readDigits_4 ?_
  obtain ⟨hwa, hwb, hf⟩ := wk_some hf
  refine g_acmpneW (tgt := 14) X dX8_readDigits_7 (by decide) hwa hwb (fun c3 => ?_) (fun c3 => ?_)
  · replace hf := (if_neg c3).symm.trans hf
    refine lv_iconst (v := 0) X.1 X.2.1 dX8_readDigits_14 (by decide) ?_
    exact wfX8_readDigits_15 X hr hlk hnm _ _ _ _ _ _ _ hl S hf
  · replace hf := (if_pos c3).symm.trans hf
    refine lv_iconst (v := 1) X.1 X.2.1 dX8_readDigits_10 (by decide) ?_
    refine lv_goto (tgt := 15) X.1 X.2.1 dX8_readDigits_11 (by decide) ?_
    exact wfX8_readDigits_15 X hr hlk hnm _ _ _ _ _ _ _ hl S hf
def fX8_readLaying (a0 : Nat) (h : Hp) : Option (Hp) := gd 7 a0 h (ob2 (fX8_passNumber a0 0 255 h) fun v1 h => ob (gI 7 a0 10 h) fun v2 => if v2 = 0 then ob (gI 7 a0 6 h) fun v4 => if v4 = 3 then ob (fX8_layHex a0 v1 h) fun h => some h else ob (fX8_readDigits a0 v1 h) fun h => some h else some h)
theorem tkX8_readLaying {a0 : Nat} {h : Hp} {r9 : Hp} (e : fX8_readLaying a0 h = some r9) : hK h a0 = 7 := by
  unfold fX8_readLaying at e
  exact (gd_some e).1
theorem cX8_readLaying_m (l : Launch) {E : EE} {A : Nat → Prop} {a0 : Nat} {h : Hp} {h9 : Hp} (hf : fX8_readLaying a0 h = some h9) : Met l yX8_readLaying (wsM yX8_readLaying cX8_readLaying 2 none) (rmm 12 0 0) (PcE E A h [rv a0]) (Qv E A h9) 0 0 A := by
  refine met_of (by decide +kernel) (by simp [lg_sl, cat_rv, cat_wv, cat_sv, cat_i, cat_l, cat_a]) (fun p e s m args below meth c ls X hr hlk hnm S hl => ?_)
  have hl : lv_has ls 2 [(0, rv a0)] := by simpa [lv_args, cat_rv, cat_wv, cat_sv, cat_i, cat_l, cat_a] using hl
  generalize hH : s.heap = H at S ⊢
  generalize hlo : ([] : List Loc) = locs at S ⊢
  clear hH hlo
  unfold fX8_readLaying at hf
  obtain ⟨hth, hf⟩ := gd_some hf
  refine g_aload_n X (or_rv _) dX8_readLaying_0 rfl (lv_at hl 0 rfl) ?_
  refine lv_iconst (v := 0) X.1 X.2.1 dX8_readLaying_1 (by decide) ?_
  refine lv_sipush (v := 255) X.1 X.2.1 dX8_readLaying_2 (by decide) ?_
  obtain ⟨v1, h, hc, hf⟩ := ob2_some hf
  refine g_ci S (runV (As := [.int 0, .int 255]) (rest := []) X S coX8_92 (by decide) (cX8_passNumber_m l hc) (tkX8_passNumber hc) rfl hl.1 (by decide) rfl ⟨Nat.zero_le _, Nat.zero_le _⟩ dX8_readLaying_5) (fun H locs S => ?_)
  refine lv_istore_n (i := 1) (lv' := [(1, .int v1), (0, rv a0)]) X.1 X.2.1 dX8_readLaying_8 rfl hl (by decide) (by simp [List.filter, cat_rv, cat_wv, cat_sv]) (fun ls hl => ?_)
  refine g_aload_n X (or_rv _) dX8_readLaying_9 rfl (lv_at hl 1 rfl) ?_
  refine g_gI X S foX8_45 rfl dX8_readLaying_10 hf (fun v2 hf => ?_)
  refine lv_if_eq (tgt := 17) X.1 X.2.1 dX8_readLaying_13 (by decide) (fun c3 => ?_) (fun c3 => ?_)
  · replace hf := (if_pos c3).symm.trans hf
    refine g_aload_n X (or_rv _) dX8_readLaying_17 rfl (lv_at hl 1 rfl) ?_
    refine g_gI X S foX8_54 rfl dX8_readLaying_18 hf (fun v4 hf => ?_)
    refine lv_iconst (v := 3) X.1 X.2.1 dX8_readLaying_21 (by decide) ?_
    refine lv_icmp_ne (tgt := 33) X.1 X.2.1 dX8_readLaying_22 (by decide) (fun c5 => ?_) (fun c5 => ?_)
    · replace hf := (if_neg c5).symm.trans hf
      refine g_aload_n X (or_rv _) dX8_readLaying_33 rfl (lv_at hl 1 rfl) ?_
      refine lv_iload_n X.1 X.2.1 dX8_readLaying_34 rfl (lv_at hl 0 rfl) ?_
      obtain ⟨h, hc, hf⟩ := ob_some hf
      refine g_cv S (runV (As := [.int v1]) (rest := []) X S coX8_98 (by decide) (cX8_readDigits_m l hc) (tkX8_readDigits hc) rfl hl.1 (by decide) rfl ⟨Nat.zero_le _, Nat.zero_le _⟩ dX8_readLaying_35) (fun H locs S => ?_)
      cases hf; exact g_rv X S hr hlk dX8_readLaying_38
    · replace hf := (if_pos c5).symm.trans hf
      refine g_aload_n X (or_rv _) dX8_readLaying_25 rfl (lv_at hl 1 rfl) ?_
      refine lv_iload_n X.1 X.2.1 dX8_readLaying_26 rfl (lv_at hl 0 rfl) ?_
      obtain ⟨h, hc, hf⟩ := ob_some hf
      refine g_cv S (runV (As := [.int v1]) (rest := []) X S coX8_95 (by decide) (cX8_layHex_m l hc) (tkX8_layHex hc) rfl hl.1 (by decide) rfl ⟨Nat.zero_le _, Nat.zero_le _⟩ dX8_readLaying_27) (fun H locs S => ?_)
      refine lv_goto (tgt := 38) X.1 X.2.1 dX8_readLaying_30 (by decide) ?_
      cases hf; exact g_rv X S hr hlk dX8_readLaying_38
  · replace hf := (if_neg c3).symm.trans hf
    cases hf; exact g_rv X S hr hlk dX8_readLaying_16
def fX8_nameHere_15 (x0 : Nat) (h : Hp) : Option (Int64 × Hp) := ob (fX8_fail x0 1 h) fun h => some (0, h)
theorem wfX8_nameHere_15 {r9 : Int64} {h9 : Hp} (X : Cx p E A 9 R s m args c cX8_nameHere yX8_nameHere.cls 4) (hr : meth.sig.returnType = (some .long)) (hlk : meth.locks = false) (hnm : meth.name = yX8_nameHere.name) :
    ∀ (x0 : Nat) (h : Hp) (H : Heap) (locs : List Loc) (ls : Array Slot), lv_has ls 4 [(0, rv x0)] → St E A s h H locs → fX8_nameHere_15 x0 h = some (r9, h9) → W p l e R s m args below meth c H locs 0 0 (MQ below (Ql E A h9 r9) args s 0 0 A) (F0 m 15 ls []) := by
  intro x0 h H locs ls hl S hf
  unfold fX8_nameHere_15 at hf
  refine g_aload_n X (or_rv _) dX8_nameHere_15 rfl (lv_at hl 0 rfl) ?_
  refine lv_iconst (v := 1) X.1 X.2.1 dX8_nameHere_16 (by decide) ?_
  obtain ⟨h, hc, hf⟩ := ob_some hf
  refine g_cv S (runV (As := [.int 1]) (rest := []) X S coX8_104 (by decide) (cX8_fail_m l hc) (tkX8_fail hc) rfl hl.1 (by decide) rfl ⟨Nat.zero_le _, Nat.zero_le _⟩ dX8_nameHere_17) (fun H locs S => ?_)
  refine lv_lconst (v := 0) X.1 X.2.1 dX8_nameHere_20 (by decide) ?_
  cases hf; exact g_rl X S hr hlk dX8_nameHere_21
def fX8_nameHere_50 (k50 : Nat → Int64 → Int32 → Hp → Option (Int64 × Hp)) (x0 : Nat) (x1 : Int64) (x3 : Int32) (h : Hp) : Option (Int64 × Hp) := ob (gI 7 x0 9 h) fun v1 => if v1 ≤ x3 then some (x1, h) else ob (fX8_byteAt x0 x3 h) fun v3 => lt ((x1 * 27) + (Int32.toInt64 ((v3 - 97) + 1))) fun z4 => lt (x3 + 1) fun z5 => k50 x0 z4 z5 h
theorem wfX8_nameHere_50 {k50 : Nat → Int64 → Int32 → Hp → Option (Int64 × Hp)} {r9 : Int64} {h9 : Hp} (X : Cx p E A 9 R s m args c cX8_nameHere yX8_nameHere.cls 4) (hr : meth.sig.returnType = (some .long)) (hlk : meth.locks = false) (hnm : meth.name = yX8_nameHere.name) (hk50 : ∀ (x0 : Nat) (x1 : Int64) (x3 : Int32) (h : Hp) (H : Heap) (locs : List Loc) (ls : Array Slot), lv_has ls 4 [(0, rv x0), (1, .long x1), (3, .int x3)] → St E A s h H locs → k50 x0 x1 x3 h = some (r9, h9) → W p l e R s m args below meth c H locs 0 0 (MQ below (Ql E A h9 r9) args s 0 0 A) (F0 m 50 ls [])) :
    ∀ (x0 : Nat) (x1 : Int64) (x3 : Int32) (h : Hp) (H : Heap) (locs : List Loc) (ls : Array Slot), lv_has ls 4 [(0, rv x0), (1, .long x1), (3, .int x3)] → St E A s h H locs → fX8_nameHere_50 k50 x0 x1 x3 h = some (r9, h9) → W p l e R s m args below meth c H locs 0 0 (MQ below (Ql E A h9 r9) args s 0 0 A) (F0 m 50 ls []) := by
  intro x0 x1 x3 h H locs ls hl S hf
  unfold fX8_nameHere_50 at hf
  refine lv_iload_n X.1 X.2.1 dX8_nameHere_50 rfl (lv_at hl 2 rfl) ?_
  refine g_aload_n X (or_rv _) dX8_nameHere_51 rfl (lv_at hl 0 rfl) ?_
  refine g_gI X S foX8_48 rfl dX8_nameHere_52 hf (fun v1 hf => ?_)
  refine lv_icmp_ge (tgt := 82) X.1 X.2.1 dX8_nameHere_55 (by decide) (fun c2 => ?_) (fun c2 => ?_)
  · replace hf := (if_pos c2).symm.trans hf
    refine lv_lload_n X.1 X.2.1 dX8_nameHere_82 rfl (lv_at hl 1 rfl) ?_
    cases hf; exact g_rl X S hr hlk dX8_nameHere_83
  · replace hf := (if_neg c2).symm.trans hf
    refine lv_lload_n X.1 X.2.1 dX8_nameHere_58 rfl (lv_at hl 1 rfl) ?_
    refine lv_ldc2 X.1 X.2.1 X.2.2.2.1 (X.2.2.1 _ kuX8_216) dX8_nameHere_59 ?_
    refine lv_lmul X.1 X.2.1 dX8_nameHere_62 ?_
    refine g_aload_n X (or_rv _) dX8_nameHere_63 rfl (lv_at hl 0 rfl) ?_
    refine lv_iload_n X.1 X.2.1 dX8_nameHere_64 rfl (lv_at hl 2 rfl) ?_
    obtain ⟨v3, hc, hf⟩ := ob_some hf
    refine g_ci S (runV (As := [.int x3]) (rest := [.long (x1 * 27)]) X S coX8_107 (by decide) (cX8_byteAt_m l hc) (tkX8_byteAt hc) rfl hl.1 (by simp [cat_rv, cat_wv, cat_sv, cat_i, cat_l, cat_a]) rfl ⟨Nat.zero_le _, Nat.zero_le _⟩ dX8_nameHere_65) (fun H locs S => ?_)
    refine lv_bipush (v := 97) X.1 X.2.1 dX8_nameHere_68 (by decide) ?_
    refine lv_isub X.1 X.2.1 dX8_nameHere_70 ?_
    refine lv_iconst (v := 1) X.1 X.2.1 dX8_nameHere_71 (by decide) ?_
    refine lv_iadd X.1 X.2.1 dX8_nameHere_72 ?_
    refine lv_i2l (v := Int32.toInt64 ((v3 - 97) + 1)) X.1 X.2.1 dX8_nameHere_73 rfl ?_
    refine lv_ladd X.1 X.2.1 dX8_nameHere_74 ?_
    refine g_ltl hf (fun z4 hf => ?_)
    refine lv_lstore_n (i := 1) (lv' := [(1, .long z4), (0, rv x0), (3, .int x3)]) X.1 X.2.1 dX8_nameHere_75 rfl hl (by decide) (by simp [List.filter, cat_rv, cat_wv, cat_sv]) (fun ls hl => ?_)
    obtain ⟨z5, ez5, hf⟩ := lt_some hf
    refine lv_iinc (v := z5) (lv' := [(3, .int z5), (1, .long z4), (0, rv x0)]) X.1 X.2.1 dX8_nameHere_76 hl (k := 2) rfl (by rw [← ez5]; rfl) (by decide) rfl (fun ls hl => ?_)
    refine lv_goto (tgt := 50) X.1 X.2.1 dX8_nameHere_79 (by decide) ?_
    exact hk50 _ _ _ _ _ _ _ (lv_sub hl [2, 1, 0] rfl) S hf
theorem wfX8_nameHere_50_l {r9 : Int64} {h9 : Hp} (X : Cx p E A 9 R s m args c cX8_nameHere yX8_nameHere.cls 4) (hr : meth.sig.returnType = (some .long)) (hlk : meth.locks = false) (hnm : meth.name = yX8_nameHere.name) :
    ∀ (n : Nat) (x0 : Nat) (x1 : Int64) (x3 : Int32) (h : Hp) (H : Heap) (locs : List Loc) (ls : Array Slot), lv_has ls 4 [(0, rv x0), (1, .long x1), (3, .int x3)] → St E A s h H locs → lp (fun _ _ _ _ => none) (fX8_nameHere_50) n x0 x1 x3 h = some (r9, h9) → W p l e R s m args below meth c H locs 0 0 (MQ below (Ql E A h9 r9) args s 0 0 A) (F0 m 50 ls []) := by
  intro n
  induction n with
  | zero =>
    intro x0 x1 x3 h H locs ls hl S hf
    exact nomatch hf
  | succ n ih =>
    intro x0 x1 x3 h H locs ls hl S hf
    exact wfX8_nameHere_50 X hr hlk hnm ih x0 x1 x3 h H locs ls hl S hf
def fX8_nameHere (a0 : Nat) (h : Hp) : Option (Int64 × Hp) := gd 7 a0 h (ob (gI 7 a0 6 h) fun v1 => if v1 = 1 then ob (gR 7 a0 7 h) fun v3 => if v3 = 0 then ob (gI 7 a0 9 h) fun v5 => ob (gI 7 a0 8 h) fun v6 => if (v5 - v6) ≤ 8 then ob (gI 7 a0 8 h) fun v8 => lp (fun _ _ _ _ => none) (fX8_nameHere_50) FU a0 0 v8 h else ob (fX8_fail a0 2 h) fun h => some (0, h) else fX8_nameHere_15 a0 h else fX8_nameHere_15 a0 h)
theorem tkX8_nameHere {a0 : Nat} {h : Hp} {r9 : Int64 × Hp} (e : fX8_nameHere a0 h = some r9) : hK h a0 = 7 := by
  unfold fX8_nameHere at e
  exact (gd_some e).1
theorem cX8_nameHere_m (l : Launch) {E : EE} {A : Nat → Prop} {a0 : Nat} {h : Hp} {r9 : Int64} {h9 : Hp} (hf : fX8_nameHere a0 h = some (r9, h9)) : Met l yX8_nameHere (wsM yX8_nameHere cX8_nameHere 4 (some .long)) (rmm 9 0 0) (PcE E A h [rv a0]) (Ql E A h9 r9) 0 0 A := by
  refine met_of (by decide +kernel) (by simp [lg_sl, cat_rv, cat_wv, cat_sv, cat_i, cat_l, cat_a]) (fun p e s m args below meth c ls X hr hlk hnm S hl => ?_)
  have hl : lv_has ls 4 [(0, rv a0)] := by simpa [lv_args, cat_rv, cat_wv, cat_sv, cat_i, cat_l, cat_a] using hl
  generalize hH : s.heap = H at S ⊢
  generalize hlo : ([] : List Loc) = locs at S ⊢
  clear hH hlo
  unfold fX8_nameHere at hf
  obtain ⟨hth, hf⟩ := gd_some hf
  refine g_aload_n X (or_rv _) dX8_nameHere_0 rfl (lv_at hl 0 rfl) ?_
  refine g_gI X S foX8_54 rfl dX8_nameHere_1 hf (fun v1 hf => ?_)
  refine lv_iconst (v := 1) X.1 X.2.1 dX8_nameHere_4 (by decide) ?_
  refine lv_icmp_ne (tgt := 15) X.1 X.2.1 dX8_nameHere_5 (by decide) (fun c2 => ?_) (fun c2 => ?_)
  · replace hf := (if_neg c2).symm.trans hf
    exact wfX8_nameHere_15 X hr hlk hnm _ _ _ _ _ hl S hf
  · replace hf := (if_pos c2).symm.trans hf
    refine g_aload_n X (or_rv _) dX8_nameHere_8 rfl (lv_at hl 0 rfl) ?_
    refine g_gW X S foX8_66 dX8_nameHere_9 hf (fun v3 hf => ?_)
    refine g_ifnullW (tgt := 22) X dX8_nameHere_12 (by decide) (fun c4 => ?_) (fun c4 => ?_)
    · replace hf := (if_pos c4).symm.trans hf
      refine g_aload_n X (or_rv _) dX8_nameHere_22 rfl (lv_at hl 0 rfl) ?_
      refine g_gI X S foX8_48 rfl dX8_nameHere_23 hf (fun v5 hf => ?_)
      refine g_aload_n X (or_rv _) dX8_nameHere_26 rfl (lv_at hl 0 rfl) ?_
      refine g_gI X S foX8_101 rfl dX8_nameHere_27 hf (fun v6 hf => ?_)
      refine lv_isub X.1 X.2.1 dX8_nameHere_30 ?_
      refine lv_bipush (v := 8) X.1 X.2.1 dX8_nameHere_31 (by decide) ?_
      refine lv_icmp_le (tgt := 43) X.1 X.2.1 dX8_nameHere_33 (by decide) (fun c7 => ?_) (fun c7 => ?_)
      · replace hf := (if_pos c7).symm.trans hf
        refine lv_lconst (v := 0) X.1 X.2.1 dX8_nameHere_43 (by decide) ?_
        refine lv_lstore_n (i := 1) (lv' := [(1, .long 0), (0, rv a0)]) X.1 X.2.1 dX8_nameHere_44 rfl hl (by decide) (by simp [List.filter, cat_rv, cat_wv, cat_sv]) (fun ls hl => ?_)
        refine g_aload_n X (or_rv _) dX8_nameHere_45 rfl (lv_at hl 1 rfl) ?_
        refine g_gI X S foX8_101 rfl dX8_nameHere_46 hf (fun v8 hf => ?_)
        refine lv_istore_n (i := 3) (lv' := [(3, .int v8), (1, .long 0), (0, rv a0)]) X.1 X.2.1 dX8_nameHere_49 rfl hl (by decide) rfl (fun ls hl => ?_)
        exact wfX8_nameHere_50_l X hr hlk hnm FU _ _ _ _ _ _ _ (lv_sub hl [2, 1, 0] rfl) S hf
      · replace hf := (if_neg c7).symm.trans hf
        refine g_aload_n X (or_rv _) dX8_nameHere_36 rfl (lv_at hl 0 rfl) ?_
        refine lv_iconst (v := 2) X.1 X.2.1 dX8_nameHere_37 (by decide) ?_
        obtain ⟨h, hc, hf⟩ := ob_some hf
        refine g_cv S (runV (As := [.int 2]) (rest := []) X S coX8_104 (by decide) (cX8_fail_m l hc) (tkX8_fail hc) rfl hl.1 (by decide) rfl ⟨Nat.zero_le _, Nat.zero_le _⟩ dX8_nameHere_38) (fun H locs S => ?_)
        refine lv_lconst (v := 0) X.1 X.2.1 dX8_nameHere_41 (by decide) ?_
        cases hf; exact g_rl X S hr hlk dX8_nameHere_42
    · replace hf := (if_neg c4).symm.trans hf
      exact wfX8_nameHere_15 X hr hlk hnm _ _ _ _ _ hl S hf
def fX8_named_2 (h : Hp) (k2 : Nat → Int64 → Int32 → Option (Int32)) (x0 : Nat) (x1 : Int64) (x3 : Int32) : Option (Int32) := ob (gR 7 x0 5 h) fun v1 => ob (fX6_size v1 h) fun v2 => if v2 ≤ x3 then some (-1) else ob (gR 7 x0 0 h) fun v4 => ob (aN 102 v4 h) fun v5 => if v5 ≤ x3 then some (-1) else ob (gR 7 x0 0 h) fun v7 => ob (aL v7 x3 h) fun v8 => if (lg_cmp v8 x1) = 0 then some x3 else lt (x3 + 1) fun z10 => k2 x0 x1 z10
theorem wfX8_named_2 {h : Hp} {k2 : Nat → Int64 → Int32 → Option (Int32)} {r9 : Int32} (X : Cx p E A 9 R s m args c cX8_named yX8_named.cls 4) (hr : meth.sig.returnType = (some .int)) (hlk : meth.locks = false) (hnm : meth.name = yX8_named.name) (hk2 : ∀ (x0 : Nat) (x1 : Int64) (x3 : Int32) (H : Heap) (locs : List Loc) (ls : Array Slot), lv_has ls 4 [(0, rv x0), (1, .long x1), (3, .int x3)] → St E A s h H locs → k2 x0 x1 x3 = some r9 → W p l e R s m args below meth c H locs 0 0 (MQ below (Qi E A h r9) args s 0 0 A) (F0 m 2 ls [])) :
    ∀ (x0 : Nat) (x1 : Int64) (x3 : Int32) (H : Heap) (locs : List Loc) (ls : Array Slot), lv_has ls 4 [(0, rv x0), (1, .long x1), (3, .int x3)] → St E A s h H locs → fX8_named_2 h k2 x0 x1 x3 = some r9 → W p l e R s m args below meth c H locs 0 0 (MQ below (Qi E A h r9) args s 0 0 A) (F0 m 2 ls []) := by
  intro x0 x1 x3 H locs ls hl S hf
  unfold fX8_named_2 at hf
  refine lv_iload_n X.1 X.2.1 dX8_named_2 rfl (lv_at hl 2 rfl) ?_
  refine g_aload_n X (or_rv _) dX8_named_3 rfl (lv_at hl 0 rfl) ?_
  refine g_gR X S foX8_28 dX8_named_4 hf (fun v1 hf => ?_)
  obtain ⟨v2, hc, hf⟩ := ob_some hf
  refine g_ci S (runV (As := []) (rest := [.int x3]) X S coX8_153 (by decide) (cX6_size_m l hc) (tkX6_size hc) rfl hl.1 (by simp [cat_rv, cat_wv, cat_sv, cat_i, cat_l, cat_a]) rfl ⟨Nat.zero_le _, Nat.zero_le _⟩ dX8_named_7) (fun H locs S => ?_)
  refine lv_icmp_ge (tgt := 41) X.1 X.2.1 dX8_named_10 (by decide) (fun c3 => ?_) (fun c3 => ?_)
  · replace hf := (if_pos c3).symm.trans hf
    refine lv_iconst (v := (-1)) X.1 X.2.1 dX8_named_41 (by decide) ?_
    cases hf; exact g_ri X S hr hlk dX8_named_42
  · replace hf := (if_neg c3).symm.trans hf
    refine lv_iload_n X.1 X.2.1 dX8_named_13 rfl (lv_at hl 2 rfl) ?_
    refine g_aload_n X (or_rv _) dX8_named_14 rfl (lv_at hl 0 rfl) ?_
    refine g_gR X S foX8_11 dX8_named_15 hf (fun v4 hf => ?_)
    refine g_aN X S (by decide) dX8_named_18 hf (fun v5 hf => ?_)
    refine lv_icmp_ge (tgt := 41) X.1 X.2.1 dX8_named_19 (by decide) (fun c6 => ?_) (fun c6 => ?_)
    · replace hf := (if_pos c6).symm.trans hf
      refine lv_iconst (v := (-1)) X.1 X.2.1 dX8_named_41 (by decide) ?_
      cases hf; exact g_ri X S hr hlk dX8_named_42
    · replace hf := (if_neg c6).symm.trans hf
      refine g_aload_n X (or_rv _) dX8_named_22 rfl (lv_at hl 0 rfl) ?_
      refine g_gR X S foX8_11 dX8_named_23 hf (fun v7 hf => ?_)
      refine lv_iload_n X.1 X.2.1 dX8_named_26 rfl (lv_at hl 2 rfl) ?_
      refine g_aL X S dX8_named_27 hf (fun v8 hf => ?_)
      refine lv_lload_n X.1 X.2.1 dX8_named_28 rfl (lv_at hl 1 rfl) ?_
      refine W.lcmp X.1 X.2.1 dX8_named_29 ?_
      refine lv_if_ne (tgt := 35) X.1 X.2.1 dX8_named_30 (by decide) (fun c9 => ?_) (fun c9 => ?_)
      · replace hf := (if_neg c9).symm.trans hf
        obtain ⟨z10, ez10, hf⟩ := lt_some hf
        refine lv_iinc (v := z10) (lv' := [(3, .int z10), (0, rv x0), (1, .long x1)]) X.1 X.2.1 dX8_named_35 hl (k := 2) rfl (by rw [← ez10]; rfl) (by decide) rfl (fun ls hl => ?_)
        refine lv_goto (tgt := 2) X.1 X.2.1 dX8_named_38 (by decide) ?_
        exact hk2 _ _ _ _ _ _ (lv_sub hl [1, 2, 0] rfl) S hf
      · replace hf := (if_pos c9).symm.trans hf
        refine lv_iload_n X.1 X.2.1 dX8_named_33 rfl (lv_at hl 2 rfl) ?_
        cases hf; exact g_ri X S hr hlk dX8_named_34
theorem wfX8_named_2_l {h : Hp} {r9 : Int32} (X : Cx p E A 9 R s m args c cX8_named yX8_named.cls 4) (hr : meth.sig.returnType = (some .int)) (hlk : meth.locks = false) (hnm : meth.name = yX8_named.name) :
    ∀ (n : Nat) (x0 : Nat) (x1 : Int64) (x3 : Int32) (H : Heap) (locs : List Loc) (ls : Array Slot), lv_has ls 4 [(0, rv x0), (1, .long x1), (3, .int x3)] → St E A s h H locs → lp (fun _ _ _ => none) (fX8_named_2 h) n x0 x1 x3 = some r9 → W p l e R s m args below meth c H locs 0 0 (MQ below (Qi E A h r9) args s 0 0 A) (F0 m 2 ls []) := by
  intro n
  induction n with
  | zero =>
    intro x0 x1 x3 H locs ls hl S hf
    exact nomatch hf
  | succ n ih =>
    intro x0 x1 x3 H locs ls hl S hf
    exact wfX8_named_2 X hr hlk hnm ih x0 x1 x3 H locs ls hl S hf
def fX8_named (a0 : Nat) (a1 : Int64) (h : Hp) : Option (Int32) := gd 7 a0 h (lp (fun _ _ _ => none) (fX8_named_2 h) FU a0 a1 0)
theorem tkX8_named {a0 : Nat} {a1 : Int64} {h : Hp} {r9 : Int32} (e : fX8_named a0 a1 h = some r9) : hK h a0 = 7 := by
  unfold fX8_named at e
  exact (gd_some e).1
theorem cX8_named_m (l : Launch) {E : EE} {A : Nat → Prop} {a0 : Nat} {a1 : Int64} {h : Hp} {r9 : Int32} (hf : fX8_named a0 a1 h = some r9) : Met l yX8_named (wsM yX8_named cX8_named 4 (some .int)) (rmm 9 0 0) (PcE E A h [rv a0, .long a1]) (Qi E A h r9) 0 0 A := by
  refine met_of (by decide +kernel) (by simp [lg_sl, cat_rv, cat_wv, cat_sv, cat_i, cat_l, cat_a]) (fun p e s m args below meth c ls X hr hlk hnm S hl => ?_)
  have hl : lv_has ls 4 [(0, rv a0), (1, .long a1)] := by simpa [lv_args, cat_rv, cat_wv, cat_sv, cat_i, cat_l, cat_a] using hl
  generalize hH : s.heap = H at S ⊢
  generalize hlo : ([] : List Loc) = locs at S ⊢
  clear hH hlo
  unfold fX8_named at hf
  obtain ⟨hth, hf⟩ := gd_some hf
  refine lv_iconst (v := 0) X.1 X.2.1 dX8_named_0 (by decide) ?_
  refine lv_istore_n (i := 3) (lv' := [(3, .int 0), (0, rv a0), (1, .long a1)]) X.1 X.2.1 dX8_named_1 rfl hl (by decide) rfl (fun ls hl => ?_)
  exact wfX8_named_2_l X hr hlk hnm FU _ _ _ _ _ _ (lv_sub hl [1, 2, 0] rfl) S hf
def fX8_passSign (a0 : Nat) (a1 : Int32) (h : Hp) : Option (Hp) := gd 7 a0 h (ob (fX8_isHere a0 a1 h) fun v1 => if v1 = 0 then ob (fX8_fail a0 1 h) fun h => some h else ob (fX8_advance a0 h) fun h => some h)
theorem tkX8_passSign {a0 : Nat} {a1 : Int32} {h : Hp} {r9 : Hp} (e : fX8_passSign a0 a1 h = some r9) : hK h a0 = 7 := by
  unfold fX8_passSign at e
  exact (gd_some e).1
theorem cX8_passSign_m (l : Launch) {E : EE} {A : Nat → Prop} {a0 : Nat} {a1 : Int32} {h : Hp} {h9 : Hp} (hf : fX8_passSign a0 a1 h = some h9) : Met l yX8_passSign (wsM yX8_passSign cX8_passSign 2 none) (rmm 10 0 0) (PcE E A h [rv a0, .int a1]) (Qv E A h9) 0 0 A := by
  refine met_of (by decide +kernel) (by simp [lg_sl, cat_rv, cat_wv, cat_sv, cat_i, cat_l, cat_a]) (fun p e s m args below meth c ls X hr hlk hnm S hl => ?_)
  have hl : lv_has ls 2 [(0, rv a0), (1, .int a1)] := by simpa [lv_args, cat_rv, cat_wv, cat_sv, cat_i, cat_l, cat_a] using hl
  generalize hH : s.heap = H at S ⊢
  generalize hlo : ([] : List Loc) = locs at S ⊢
  clear hH hlo
  unfold fX8_passSign at hf
  obtain ⟨hth, hf⟩ := gd_some hf
  refine g_aload_n X (or_rv _) dX8_passSign_0 rfl (lv_at hl 0 rfl) ?_
  refine lv_iload_n X.1 X.2.1 dX8_passSign_1 rfl (lv_at hl 1 rfl) ?_
  obtain ⟨v1, hc, hf⟩ := ob_some hf
  refine g_ci S (runV (As := [.int a1]) (rest := []) X S coX8_218 (by decide) (cX8_isHere_m l hc) (tkX8_isHere hc) rfl hl.1 (by decide) rfl ⟨Nat.zero_le _, Nat.zero_le _⟩ dX8_passSign_2) (fun H locs S => ?_)
  refine lv_if_eq (tgt := 15) X.1 X.2.1 dX8_passSign_5 (by decide) (fun c2 => ?_) (fun c2 => ?_)
  · replace hf := (if_pos c2).symm.trans hf
    refine g_aload_n X (or_rv _) dX8_passSign_15 rfl (lv_at hl 0 rfl) ?_
    refine lv_iconst (v := 1) X.1 X.2.1 dX8_passSign_16 (by decide) ?_
    obtain ⟨h, hc, hf⟩ := ob_some hf
    refine g_cv S (runV (As := [.int 1]) (rest := []) X S coX8_104 (by decide) (cX8_fail_m l hc) (tkX8_fail hc) rfl hl.1 (by decide) rfl ⟨Nat.zero_le _, Nat.zero_le _⟩ dX8_passSign_17) (fun H locs S => ?_)
    cases hf; exact g_rv X S hr hlk dX8_passSign_20
  · replace hf := (if_neg c2).symm.trans hf
    refine g_aload_n X (or_rv _) dX8_passSign_8 rfl (lv_at hl 0 rfl) ?_
    obtain ⟨h, hc, hf⟩ := ob_some hf
    refine g_cv S (runV (As := []) (rest := []) X S coX8_51 (by decide) (cX8_advance_m l hc) (tkX8_advance hc) rfl hl.1 (by decide) rfl ⟨Nat.zero_le _, Nat.zero_le _⟩ dX8_passSign_9) (fun H locs S => ?_)
    refine lv_goto (tgt := 20) X.1 X.2.1 dX8_passSign_12 (by decide) ?_
    cases hf; exact g_rv X S hr hlk dX8_passSign_20
def fX8_readLabel_43 (x0 : Nat) (x1 : Int64) (h : Hp) : Option (Int64 × Hp) := ob (gI 7 x0 10 h) fun v1 => if v1 = 0 then ob (fX8_advance x0 h) fun h => ob (fX8_passSign x0 58 h) fun h => some (x1, h) else some (x1, h)
theorem wfX8_readLabel_43 {r9 : Int64} {h9 : Hp} (X : Cx p E A 11 R s m args c cX8_readLabel yX8_readLabel.cls 3) (hr : meth.sig.returnType = (some .long)) (hlk : meth.locks = false) (hnm : meth.name = yX8_readLabel.name) :
    ∀ (x0 : Nat) (x1 : Int64) (h : Hp) (H : Heap) (locs : List Loc) (ls : Array Slot), lv_has ls 3 [(0, rv x0), (1, .long x1)] → St E A s h H locs → fX8_readLabel_43 x0 x1 h = some (r9, h9) → W p l e R s m args below meth c H locs 0 0 (MQ below (Ql E A h9 r9) args s 0 0 A) (F0 m 43 ls []) := by
  intro x0 x1 h H locs ls hl S hf
  unfold fX8_readLabel_43 at hf
  refine g_aload_n X (or_rv _) dX8_readLabel_43 rfl (lv_at hl 0 rfl) ?_
  refine g_gI X S foX8_45 rfl dX8_readLabel_44 hf (fun v1 hf => ?_)
  refine lv_if_ne (tgt := 60) X.1 X.2.1 dX8_readLabel_47 (by decide) (fun c2 => ?_) (fun c2 => ?_)
  · replace hf := (if_neg c2).symm.trans hf
    refine lv_lload_n X.1 X.2.1 dX8_readLabel_60 rfl (lv_at hl 1 rfl) ?_
    cases hf; exact g_rl X S hr hlk dX8_readLabel_61
  · replace hf := (if_pos c2).symm.trans hf
    refine g_aload_n X (or_rv _) dX8_readLabel_50 rfl (lv_at hl 0 rfl) ?_
    obtain ⟨h, hc, hf⟩ := ob_some hf
    refine g_cv S (runV (As := []) (rest := []) X S coX8_51 (by decide) (cX8_advance_m l hc) (tkX8_advance hc) rfl hl.1 (by decide) rfl ⟨Nat.zero_le _, Nat.zero_le _⟩ dX8_readLabel_51) (fun H locs S => ?_)
    refine g_aload_n X (or_rv _) dX8_readLabel_54 rfl (lv_at hl 0 rfl) ?_
    refine lv_bipush (v := 58) X.1 X.2.1 dX8_readLabel_55 (by decide) ?_
    obtain ⟨h, hc, hf⟩ := ob_some hf
    refine g_cv S (runV (As := [.int 58]) (rest := []) X S coX8_86 (by decide) (cX8_passSign_m l hc) (tkX8_passSign hc) rfl hl.1 (by decide) rfl ⟨Nat.zero_le _, Nat.zero_le _⟩ dX8_readLabel_57) (fun H locs S => ?_)
    refine lv_lload_n X.1 X.2.1 dX8_readLabel_60 rfl (lv_at hl 1 rfl) ?_
    cases hf; exact g_rl X S hr hlk dX8_readLabel_61
def fX8_readLabel (a0 : Nat) (h : Hp) : Option (Int64 × Hp) := gd 7 a0 h (ob (gI 7 a0 6 h) fun v1 => if v1 = 1 then ob (gR 7 a0 7 h) fun v3 => if v3 = 0 then ob2 (fX8_nameHere a0 h) fun v5 h => ob (gI 7 a0 10 h) fun v6 => if v6 = 0 then ob (fX8_named a0 v5 h) fun v8 => if v8 = (-1) then fX8_readLabel_43 a0 v5 h else ob (fX8_fail a0 4 h) fun h => fX8_readLabel_43 a0 v5 h else fX8_readLabel_43 a0 v5 h else some (0, h) else some (0, h))
theorem tkX8_readLabel {a0 : Nat} {h : Hp} {r9 : Int64 × Hp} (e : fX8_readLabel a0 h = some r9) : hK h a0 = 7 := by
  unfold fX8_readLabel at e
  exact (gd_some e).1
theorem cX8_readLabel_m (l : Launch) {E : EE} {A : Nat → Prop} {a0 : Nat} {h : Hp} {r9 : Int64} {h9 : Hp} (hf : fX8_readLabel a0 h = some (r9, h9)) : Met l yX8_readLabel (wsM yX8_readLabel cX8_readLabel 3 (some .long)) (rmm 11 0 0) (PcE E A h [rv a0]) (Ql E A h9 r9) 0 0 A := by
  refine met_of (by decide +kernel) (by simp [lg_sl, cat_rv, cat_wv, cat_sv, cat_i, cat_l, cat_a]) (fun p e s m args below meth c ls X hr hlk hnm S hl => ?_)
  have hl : lv_has ls 3 [(0, rv a0)] := by simpa [lv_args, cat_rv, cat_wv, cat_sv, cat_i, cat_l, cat_a] using hl
  generalize hH : s.heap = H at S ⊢
  generalize hlo : ([] : List Loc) = locs at S ⊢
  clear hH hlo
  unfold fX8_readLabel at hf
  obtain ⟨hth, hf⟩ := gd_some hf
  refine g_aload_n X (or_rv _) dX8_readLabel_0 rfl (lv_at hl 0 rfl) ?_
  refine g_gI X S foX8_54 rfl dX8_readLabel_1 hf (fun v1 hf => ?_)
  refine lv_iconst (v := 1) X.1 X.2.1 dX8_readLabel_4 (by decide) ?_
  refine lv_icmp_ne (tgt := 15) X.1 X.2.1 dX8_readLabel_5 (by decide) (fun c2 => ?_) (fun c2 => ?_)
  · replace hf := (if_neg c2).symm.trans hf
    refine lv_lconst (v := 0) X.1 X.2.1 dX8_readLabel_15 (by decide) ?_
    cases hf; exact g_rl X S hr hlk dX8_readLabel_16
  · replace hf := (if_pos c2).symm.trans hf
    refine g_aload_n X (or_rv _) dX8_readLabel_8 rfl (lv_at hl 0 rfl) ?_
    refine g_gW X S foX8_66 dX8_readLabel_9 hf (fun v3 hf => ?_)
    refine g_ifnullW (tgt := 17) X dX8_readLabel_12 (by decide) (fun c4 => ?_) (fun c4 => ?_)
    · replace hf := (if_pos c4).symm.trans hf
      refine g_aload_n X (or_rv _) dX8_readLabel_17 rfl (lv_at hl 0 rfl) ?_
      obtain ⟨v5, h, hc, hf⟩ := ob2_some hf
      refine g_cl S (runV (As := []) (rest := []) X S coX8_142 (by decide) (cX8_nameHere_m l hc) (tkX8_nameHere hc) rfl hl.1 (by decide) rfl ⟨Nat.zero_le _, Nat.zero_le _⟩ dX8_readLabel_18) (fun H locs S => ?_)
      refine lv_lstore_n (i := 1) (lv' := [(1, .long v5), (0, rv a0)]) X.1 X.2.1 dX8_readLabel_21 rfl hl (by decide) (by simp [List.filter, cat_rv, cat_wv, cat_sv]) (fun ls hl => ?_)
      refine g_aload_n X (or_rv _) dX8_readLabel_22 rfl (lv_at hl 1 rfl) ?_
      refine g_gI X S foX8_45 rfl dX8_readLabel_23 hf (fun v6 hf => ?_)
      refine lv_if_ne (tgt := 43) X.1 X.2.1 dX8_readLabel_26 (by decide) (fun c7 => ?_) (fun c7 => ?_)
      · replace hf := (if_neg c7).symm.trans hf
        exact wfX8_readLabel_43 X hr hlk hnm _ _ _ _ _ _ (lv_sub hl [1, 0] rfl) S hf
      · replace hf := (if_pos c7).symm.trans hf
        refine g_aload_n X (or_rv _) dX8_readLabel_29 rfl (lv_at hl 1 rfl) ?_
        refine lv_lload_n X.1 X.2.1 dX8_readLabel_30 rfl (lv_at hl 0 rfl) ?_
        obtain ⟨v8, hc, hf⟩ := ob_some hf
        refine g_ci S (runV (As := [.long v5]) (rest := []) X S coX8_145 (by decide) (cX8_named_m l hc) (tkX8_named hc) rfl hl.1 (by decide) rfl ⟨Nat.zero_le _, Nat.zero_le _⟩ dX8_readLabel_31) (fun H locs S => ?_)
        refine lv_iconst (v := (-1)) X.1 X.2.1 dX8_readLabel_34 (by decide) ?_
        refine lv_icmp_eq (tgt := 43) X.1 X.2.1 dX8_readLabel_35 (by decide) (fun c9 => ?_) (fun c9 => ?_)
        · replace hf := (if_pos c9).symm.trans hf
          exact wfX8_readLabel_43 X hr hlk hnm _ _ _ _ _ _ (lv_sub hl [1, 0] rfl) S hf
        · replace hf := (if_neg c9).symm.trans hf
          refine g_aload_n X (or_rv _) dX8_readLabel_38 rfl (lv_at hl 1 rfl) ?_
          refine lv_iconst (v := 4) X.1 X.2.1 dX8_readLabel_39 (by decide) ?_
          obtain ⟨h, hc, hf⟩ := ob_some hf
          refine g_cv S (runV (As := [.int 4]) (rest := []) X S coX8_104 (by decide) (cX8_fail_m l hc) (tkX8_fail hc) rfl hl.1 (by decide) rfl ⟨Nat.zero_le _, Nat.zero_le _⟩ dX8_readLabel_40) (fun H locs S => ?_)
          exact wfX8_readLabel_43 X hr hlk hnm _ _ _ _ _ _ (lv_sub hl [1, 0] rfl) S hf
    · replace hf := (if_neg c4).symm.trans hf
      refine lv_lconst (v := 0) X.1 X.2.1 dX8_readLabel_15 (by decide) ?_
      cases hf; exact g_rl X S hr hlk dX8_readLabel_16
def fX8_readTarget (a0 : Nat) (h : Hp) : Option (Hp) := gd 7 a0 h (ob2 (fX8_nameHere a0 h) fun v1 h => ob (gR 7 a0 5 h) fun v2 => ob (fX6_size v2 h) fun v3 => lt (v3 - 1) fun z4 => ob (gI 7 a0 10 h) fun v5 => if v5 = 0 then if z4 < 0 then some h else ob (gR 7 a0 1 h) fun v8 => ob (aN 102 v8 h) fun v9 => if v9 ≤ z4 then some h else ob (gR 7 a0 1 h) fun v11 => ob (qL v11 z4 v1 h) fun h => ob (gR 7 a0 2 h) fun v12 => ob (gI 7 a0 8 h) fun v13 => ob (qI v12 z4 v13 h) fun h => ob (fX8_advance a0 h) fun h => some h else some h)
theorem tkX8_readTarget {a0 : Nat} {h : Hp} {r9 : Hp} (e : fX8_readTarget a0 h = some r9) : hK h a0 = 7 := by
  unfold fX8_readTarget at e
  exact (gd_some e).1
theorem cX8_readTarget_m (l : Launch) {E : EE} {A : Nat → Prop} {a0 : Nat} {h : Hp} {h9 : Hp} (hf : fX8_readTarget a0 h = some h9) : Met l yX8_readTarget (wsM yX8_readTarget cX8_readTarget 4 none) (rmm 10 0 0) (PcE E A h [rv a0]) (Qv E A h9) 0 0 A := by
  refine met_of (by decide +kernel) (by simp [lg_sl, cat_rv, cat_wv, cat_sv, cat_i, cat_l, cat_a]) (fun p e s m args below meth c ls X hr hlk hnm S hl => ?_)
  have hl : lv_has ls 4 [(0, rv a0)] := by simpa [lv_args, cat_rv, cat_wv, cat_sv, cat_i, cat_l, cat_a] using hl
  generalize hH : s.heap = H at S ⊢
  generalize hlo : ([] : List Loc) = locs at S ⊢
  clear hH hlo
  unfold fX8_readTarget at hf
  obtain ⟨hth, hf⟩ := gd_some hf
  refine g_aload_n X (or_rv _) dX8_readTarget_0 rfl (lv_at hl 0 rfl) ?_
  obtain ⟨v1, h, hc, hf⟩ := ob2_some hf
  refine g_cl S (runV (As := []) (rest := []) X S coX8_142 (by decide) (cX8_nameHere_m l hc) (tkX8_nameHere hc) rfl hl.1 (by decide) rfl ⟨Nat.zero_le _, Nat.zero_le _⟩ dX8_readTarget_1) (fun H locs S => ?_)
  refine lv_lstore_n (i := 1) (lv' := [(1, .long v1), (0, rv a0)]) X.1 X.2.1 dX8_readTarget_4 rfl hl (by decide) (by simp [List.filter, cat_rv, cat_wv, cat_sv]) (fun ls hl => ?_)
  refine g_aload_n X (or_rv _) dX8_readTarget_5 rfl (lv_at hl 1 rfl) ?_
  refine g_gR X S foX8_28 dX8_readTarget_6 hf (fun v2 hf => ?_)
  obtain ⟨v3, hc, hf⟩ := ob_some hf
  refine g_ci S (runV (As := []) (rest := []) X S coX8_153 (by decide) (cX6_size_m l hc) (tkX6_size hc) rfl hl.1 (by decide) rfl ⟨Nat.zero_le _, Nat.zero_le _⟩ dX8_readTarget_9) (fun H locs S => ?_)
  refine lv_iconst (v := 1) X.1 X.2.1 dX8_readTarget_12 (by decide) ?_
  refine lv_isub X.1 X.2.1 dX8_readTarget_13 ?_
  refine g_lti hf (fun z4 hf => ?_)
  refine lv_istore_n (i := 3) (lv' := [(3, .int z4), (1, .long v1), (0, rv a0)]) X.1 X.2.1 dX8_readTarget_14 rfl hl (by decide) rfl (fun ls hl => ?_)
  refine g_aload_n X (or_rv _) dX8_readTarget_15 rfl (lv_at hl 2 rfl) ?_
  refine g_gI X S foX8_45 rfl dX8_readTarget_16 hf (fun v5 hf => ?_)
  refine lv_if_ne (tgt := 56) X.1 X.2.1 dX8_readTarget_19 (by decide) (fun c6 => ?_) (fun c6 => ?_)
  · replace hf := (if_neg c6).symm.trans hf
    cases hf; exact g_rv X S hr hlk dX8_readTarget_56
  · replace hf := (if_pos c6).symm.trans hf
    refine lv_iload_n X.1 X.2.1 dX8_readTarget_22 rfl (lv_at hl 0 rfl) ?_
    refine lv_if_lt (tgt := 56) X.1 X.2.1 dX8_readTarget_23 (by decide) (fun c7 => ?_) (fun c7 => ?_)
    · replace hf := (if_pos c7).symm.trans hf
      cases hf; exact g_rv X S hr hlk dX8_readTarget_56
    · replace hf := (if_neg c7).symm.trans hf
      refine lv_iload_n X.1 X.2.1 dX8_readTarget_26 rfl (lv_at hl 0 rfl) ?_
      refine g_aload_n X (or_rv _) dX8_readTarget_27 rfl (lv_at hl 2 rfl) ?_
      refine g_gR X S foX8_17 dX8_readTarget_28 hf (fun v8 hf => ?_)
      refine g_aN X S (by decide) dX8_readTarget_31 hf (fun v9 hf => ?_)
      refine lv_icmp_ge (tgt := 56) X.1 X.2.1 dX8_readTarget_32 (by decide) (fun c10 => ?_) (fun c10 => ?_)
      · replace hf := (if_pos c10).symm.trans hf
        cases hf; exact g_rv X S hr hlk dX8_readTarget_56
      · replace hf := (if_neg c10).symm.trans hf
        refine g_aload_n X (or_rv _) dX8_readTarget_35 rfl (lv_at hl 2 rfl) ?_
        refine g_gR X S foX8_17 dX8_readTarget_36 hf (fun v11 hf => ?_)
        refine lv_iload_n X.1 X.2.1 dX8_readTarget_39 rfl (lv_at hl 0 rfl) ?_
        refine lv_lload_n X.1 X.2.1 dX8_readTarget_40 rfl (lv_at hl 1 rfl) ?_
        refine g_qL X S dX8_readTarget_41 hf (fun h H locs hm hf S => ?_)
        refine g_aload_n X (or_rv _) dX8_readTarget_42 rfl (lv_at hl 2 rfl) ?_
        refine g_gR X S foX8_20 dX8_readTarget_43 hf (fun v12 hf => ?_)
        refine lv_iload_n X.1 X.2.1 dX8_readTarget_46 rfl (lv_at hl 0 rfl) ?_
        refine g_aload_n X (or_rv _) dX8_readTarget_47 rfl (lv_at hl 2 rfl) ?_
        refine g_gI X S foX8_101 rfl dX8_readTarget_48 hf (fun v13 hf => ?_)
        refine g_qI X S dX8_readTarget_51 hf (fun h H locs hm hf S => ?_)
        refine g_aload_n X (or_rv _) dX8_readTarget_52 rfl (lv_at hl 2 rfl) ?_
        obtain ⟨h, hc, hf⟩ := ob_some hf
        refine g_cv S (runV (As := []) (rest := []) X S coX8_51 (by decide) (cX8_advance_m l hc) (tkX8_advance hc) rfl hl.1 (by decide) rfl ⟨Nat.zero_le _, Nat.zero_le _⟩ dX8_readTarget_53) (fun H locs S => ?_)
        cases hf; exact g_rv X S hr hlk dX8_readTarget_56
def fX8_readPiece_192 (y0 : Int32) (y1 : Nat) (h : Hp) : Option (Hp) := ob (pI 5 y1 2 y0 h) fun h => some h
theorem wfX8_readPiece_192 {h9 : Hp} (X : Cx p E A 11 R s m args c cX8_readPiece yX8_readPiece.cls 3) (hr : meth.sig.returnType = none) (hlk : meth.locks = false) (hnm : meth.name = yX8_readPiece.name) :
    ∀ (y0 : Int32) (y1 : Nat) (h : Hp) (H : Heap) (locs : List Loc) (ls : Array Slot), lv_has ls 3 [] → St E A s h H locs → fX8_readPiece_192 y0 y1 h = some h9 → W p l e R s m args below meth c H locs 0 0 (MQ below (Qv E A h9) args s 0 0 A) (F0 m 192 ls [.int y0, rv y1]) := by
  intro y0 y1 h H locs ls hl S hf
  unfold fX8_readPiece_192 at hf
  refine g_pI X S fpX8_182 (Or.inl rfl) dX8_readPiece_192 hf (fun h H locs hm hf S => ?_)
  refine lv_goto (tgt := 465) X.1 X.2.1 dX8_readPiece_195 (by decide) ?_
  cases hf; exact g_rv X S hr hlk dX8_readPiece_465
def fX8_readPiece_234 (y0 : Int32) (y1 : Nat) (h : Hp) : Option (Hp) := ob (pI 5 y1 5 y0 h) fun h => some h
theorem wfX8_readPiece_234 {h9 : Hp} (X : Cx p E A 11 R s m args c cX8_readPiece yX8_readPiece.cls 3) (hr : meth.sig.returnType = none) (hlk : meth.locks = false) (hnm : meth.name = yX8_readPiece.name) :
    ∀ (y0 : Int32) (y1 : Nat) (h : Hp) (H : Heap) (locs : List Loc) (ls : Array Slot), lv_has ls 3 [] → St E A s h H locs → fX8_readPiece_234 y0 y1 h = some h9 → W p l e R s m args below meth c H locs 0 0 (MQ below (Qv E A h9) args s 0 0 A) (F0 m 234 ls [.int y0, rv y1]) := by
  intro y0 y1 h H locs ls hl S hf
  unfold fX8_readPiece_234 at hf
  refine g_pI X S fpX8_188 (Or.inl rfl) dX8_readPiece_234 hf (fun h H locs hm hf S => ?_)
  refine lv_goto (tgt := 465) X.1 X.2.1 dX8_readPiece_237 (by decide) ?_
  cases hf; exact g_rv X S hr hlk dX8_readPiece_465
def fX8_readPiece_362 (y0 : Int32) (y1 : Nat) (h : Hp) : Option (Hp) := ob (pI 5 y1 8 y0 h) fun h => some h
theorem wfX8_readPiece_362 {h9 : Hp} (X : Cx p E A 11 R s m args c cX8_readPiece yX8_readPiece.cls 3) (hr : meth.sig.returnType = none) (hlk : meth.locks = false) (hnm : meth.name = yX8_readPiece.name) :
    ∀ (y0 : Int32) (y1 : Nat) (h : Hp) (H : Heap) (locs : List Loc) (ls : Array Slot), lv_has ls 3 [] → St E A s h H locs → fX8_readPiece_362 y0 y1 h = some h9 → W p l e R s m args below meth c H locs 0 0 (MQ below (Qv E A h9) args s 0 0 A) (F0 m 362 ls [.int y0, rv y1]) := by
  intro y0 y1 h H locs ls hl S hf
  unfold fX8_readPiece_362 at hf
  refine g_pI X S fpX8_200 (Or.inl rfl) dX8_readPiece_362 hf (fun h H locs hm hf S => ?_)
  refine lv_goto (tgt := 465) X.1 X.2.1 dX8_readPiece_365 (by decide) ?_
  cases hf; exact g_rv X S hr hlk dX8_readPiece_465
def fX8_readPiece_412 (y0 : Int32) (y1 : Nat) (h : Hp) : Option (Hp) := ob (pI 5 y1 8 y0 h) fun h => some h
theorem wfX8_readPiece_412 {h9 : Hp} (X : Cx p E A 11 R s m args c cX8_readPiece yX8_readPiece.cls 3) (hr : meth.sig.returnType = none) (hlk : meth.locks = false) (hnm : meth.name = yX8_readPiece.name) :
    ∀ (y0 : Int32) (y1 : Nat) (h : Hp) (H : Heap) (locs : List Loc) (ls : Array Slot), lv_has ls 3 [] → St E A s h H locs → fX8_readPiece_412 y0 y1 h = some h9 → W p l e R s m args below meth c H locs 0 0 (MQ below (Qv E A h9) args s 0 0 A) (F0 m 412 ls [.int y0, rv y1]) := by
  intro y0 y1 h H locs ls hl S hf
  unfold fX8_readPiece_412 at hf
  refine g_pI X S fpX8_200 (Or.inl rfl) dX8_readPiece_412 hf (fun h H locs hm hf S => ?_)
  refine lv_goto (tgt := 465) X.1 X.2.1 dX8_readPiece_415 (by decide) ?_
  cases hf; exact g_rv X S hr hlk dX8_readPiece_465
def fX8_readPiece (a0 : Nat) (a1 : Nat) (a2 : Int32) (h : Hp) : Option (Hp) := gd 7 a0 h (if a2 = 37 then ob (fX8_passSign a0 37 h) fun h => some h else if a2 = 43 then ob2 (fX8_passed a0 45 h) fun v4 h => if v4 = 0 then ob2 (fX8_passNumber a0 0 9999 h) fun v6 h => fX8_readPiece_412 v6 a1 h else ob2 (fX8_passNumber a0 0 9999 h) fun v7 h => fX8_readPiece_412 (-v7) a1 h else if a2 = 56 then ob (pI 5 a1 3 8 h) fun h => some h else if a2 = 58 then ob (fX8_passSign a0 58 h) fun h => some h else if a2 = 61 then ob (gI 5 a1 3 h) fun v12 => ob (pI 5 a1 6 v12 h) fun h => some h else if a2 = 76 then ob2 (fX8_passNumber a0 1 64 h) fun v14 h => ob (pI 5 a1 3 v14 h) fun h => some h else if a2 = 100 then ob2 (fX8_passNumber a0 0 9 h) fun v16 h => ob (pI 5 a1 9 v16 h) fun h => some h else if a2 = 103 then ob2 (fX8_passNumber a0 1 8 h) fun v18 h => ob (pI 5 a1 8 v18 h) fun h => some h else if a2 = 108 then ob2 (fX8_passNumber a0 1 16 h) fun v20 h => ob (pI 5 a1 3 v20 h) fun h => some h else if a2 = 109 then ob2 (fX8_passNumber a0 1 16 h) fun v22 h => ob (pI 5 a1 6 v22 h) fun h => some h else if a2 = 110 then ob (fX8_readTarget a0 h) fun h => some h else if a2 = 111 then ob2 (fX8_passNumber a0 0 15 h) fun v26 h => ob (pI 5 a1 8 v26 h) fun h => some h else if a2 = 112 then ob2 (fX8_passNumber a0 0 255 h) fun v28 h => ob (pI 5 a1 1 v28 h) fun h => some h else if a2 = 113 then ob2 (fX8_passNumber a0 0 255 h) fun v30 h => ob (pI 5 a1 4 v30 h) fun h => some h else if a2 = 114 then ob2 (fX8_passNumber a0 0 7 h) fun v32 h => ob (pI 5 a1 7 v32 h) fun h => some h else if a2 = 115 then ob2 (fX8_passed a0 45 h) fun v34 h => if v34 = 0 then ob2 (fX8_passNumber a0 0 31 h) fun v36 h => fX8_readPiece_362 v36 a1 h else ob2 (fX8_passNumber a0 0 32 h) fun v37 h => fX8_readPiece_362 (-v37) a1 h else if a2 = 120 then ob2 (fX8_passed a0 37 h) fun v39 h => if v39 = 0 then fX8_readPiece_192 (-1) a1 h else ob2 (fX8_passNumber a0 0 7 h) fun v41 h => fX8_readPiece_192 v41 a1 h else if a2 = 121 then ob2 (fX8_passed a0 37 h) fun v43 h => if v43 = 0 then fX8_readPiece_234 (-1) a1 h else ob2 (fX8_passNumber a0 0 7 h) fun v45 h => fX8_readPiece_234 v45 a1 h else ob (gI 7 a0 6 h) fun v46 => if v46 = 1 then ob (fX8_readTarget a0 h) fun h => some h else some h)
theorem tkX8_readPiece {a0 : Nat} {a1 : Nat} {a2 : Int32} {h : Hp} {r9 : Hp} (e : fX8_readPiece a0 a1 a2 h = some r9) : hK h a0 = 7 := by
  unfold fX8_readPiece at e
  exact (gd_some e).1
theorem cX8_readPiece_m (l : Launch) {E : EE} {A : Nat → Prop} {a0 : Nat} {a1 : Nat} {a2 : Int32} {h : Hp} {h9 : Hp} (hf : fX8_readPiece a0 a1 a2 h = some h9) : Met l yX8_readPiece (wsM yX8_readPiece cX8_readPiece 3 none) (rmm 11 0 0) (PcE E A h [rv a0, rv a1, .int a2]) (Qv E A h9) 0 0 A := by
  refine met_of (by decide +kernel) (by simp [lg_sl, cat_rv, cat_wv, cat_sv, cat_i, cat_l, cat_a]) (fun p e s m args below meth c ls X hr hlk hnm S hl => ?_)
  have hl : lv_has ls 3 [(0, rv a0), (1, rv a1), (2, .int a2)] := by simpa [lv_args, cat_rv, cat_wv, cat_sv, cat_i, cat_l, cat_a] using hl
  generalize hH : s.heap = H at S ⊢
  generalize hlo : ([] : List Loc) = locs at S ⊢
  clear hH hlo
  unfold fX8_readPiece at hf
  obtain ⟨hth, hf⟩ := gd_some hf
  refine lv_iload_n X.1 X.2.1 dX8_readPiece_0 rfl (lv_at hl 2 rfl) ?_
  by_cases c1 : a2 = 37
  · replace hf := (if_pos c1).symm.trans hf
    refine lv_lookup (tgt := 311) X.1 X.2.1 dX8_readPiece_1 (by decide +kernel) (by rw [c1]) rfl ?_
    refine g_aload_n X (or_rv _) dX8_readPiece_311 rfl (lv_at hl 0 rfl) ?_
    refine lv_bipush (v := 37) X.1 X.2.1 dX8_readPiece_312 (by decide) ?_
    obtain ⟨h, hc, hf⟩ := ob_some hf
    refine g_cv S (runV (As := [.int 37]) (rest := []) X S coX8_86 (by decide) (cX8_passSign_m l hc) (tkX8_passSign hc) rfl hl.1 (by decide) rfl ⟨Nat.zero_le _, Nat.zero_le _⟩ dX8_readPiece_314) (fun H locs S => ?_)
    refine lv_goto (tgt := 465) X.1 X.2.1 dX8_readPiece_317 (by decide) ?_
    cases hf; exact g_rv X S hr hlk dX8_readPiece_465
  replace hf := (if_neg c1).symm.trans hf
  by_cases c3 : a2 = 43
  · replace hf := (if_pos c3).symm.trans hf
    refine lv_lookup (tgt := 382) X.1 X.2.1 dX8_readPiece_1 (by decide +kernel) (by rw [c3]) rfl ?_
    refine g_aload_n X (or_rv _) dX8_readPiece_382 rfl (lv_at hl 1 rfl) ?_
    refine g_aload_n X (or_rv _) dX8_readPiece_383 rfl (lv_at hl 0 rfl) ?_
    refine lv_bipush (v := 45) X.1 X.2.1 dX8_readPiece_384 (by decide) ?_
    obtain ⟨v4, h, hc, hf⟩ := ob2_some hf
    refine g_ci S (runV (As := [.int 45]) (rest := [rv a1]) X S coX8_124 (by decide) (cX8_passed_m l hc) (tkX8_passed hc) rfl hl.1 (by simp [cat_rv, cat_wv, cat_sv, cat_i, cat_l, cat_a]) rfl ⟨Nat.zero_le _, Nat.zero_le _⟩ dX8_readPiece_386) (fun H locs S => ?_)
    refine lv_if_eq (tgt := 404) X.1 X.2.1 dX8_readPiece_389 (by decide) (fun c5 => ?_) (fun c5 => ?_)
    · replace hf := (if_pos c5).symm.trans hf
      refine g_aload_n X (or_rv _) dX8_readPiece_404 rfl (lv_at hl 0 rfl) ?_
      refine lv_iconst (v := 0) X.1 X.2.1 dX8_readPiece_405 (by decide) ?_
      refine lv_sipush (v := 9999) X.1 X.2.1 dX8_readPiece_406 (by decide) ?_
      obtain ⟨v6, h, hc, hf⟩ := ob2_some hf
      refine g_ci S (runV (As := [.int 0, .int 9999]) (rest := [rv a1]) X S coX8_92 (by decide) (cX8_passNumber_m l hc) (tkX8_passNumber hc) rfl hl.1 (by simp [cat_rv, cat_wv, cat_sv, cat_i, cat_l, cat_a]) rfl ⟨Nat.zero_le _, Nat.zero_le _⟩ dX8_readPiece_409) (fun H locs S => ?_)
      exact wfX8_readPiece_412 X hr hlk hnm _ _ _ _ _ _ (lv_sub hl [] rfl) S hf
    · replace hf := (if_neg c5).symm.trans hf
      refine g_aload_n X (or_rv _) dX8_readPiece_392 rfl (lv_at hl 0 rfl) ?_
      refine lv_iconst (v := 0) X.1 X.2.1 dX8_readPiece_393 (by decide) ?_
      refine lv_sipush (v := 9999) X.1 X.2.1 dX8_readPiece_394 (by decide) ?_
      obtain ⟨v7, h, hc, hf⟩ := ob2_some hf
      refine g_ci S (runV (As := [.int 0, .int 9999]) (rest := [rv a1]) X S coX8_92 (by decide) (cX8_passNumber_m l hc) (tkX8_passNumber hc) rfl hl.1 (by simp [cat_rv, cat_wv, cat_sv, cat_i, cat_l, cat_a]) rfl ⟨Nat.zero_le _, Nat.zero_le _⟩ dX8_readPiece_397) (fun H locs S => ?_)
      refine lv_ineg X.1 X.2.1 dX8_readPiece_400 ?_
      refine lv_goto (tgt := 412) X.1 X.2.1 dX8_readPiece_401 (by decide) ?_
      exact wfX8_readPiece_412 X hr hlk hnm _ _ _ _ _ _ (lv_sub hl [] rfl) S hf
  replace hf := (if_neg c3).symm.trans hf
  by_cases c8 : a2 = 56
  · replace hf := (if_pos c8).symm.trans hf
    refine lv_lookup (tgt := 302) X.1 X.2.1 dX8_readPiece_1 (by decide +kernel) (by rw [c8]) rfl ?_
    refine g_aload_n X (or_rv _) dX8_readPiece_302 rfl (lv_at hl 1 rfl) ?_
    refine lv_bipush (v := 8) X.1 X.2.1 dX8_readPiece_303 (by decide) ?_
    refine g_pI X S fpX8_191 (Or.inl rfl) dX8_readPiece_305 hf (fun h H locs hm hf S => ?_)
    refine lv_goto (tgt := 465) X.1 X.2.1 dX8_readPiece_308 (by decide) ?_
    cases hf; exact g_rv X S hr hlk dX8_readPiece_465
  replace hf := (if_neg c8).symm.trans hf
  by_cases c9 : a2 = 58
  · replace hf := (if_pos c9).symm.trans hf
    refine lv_lookup (tgt := 240) X.1 X.2.1 dX8_readPiece_1 (by decide +kernel) (by rw [c9]) rfl ?_
    refine g_aload_n X (or_rv _) dX8_readPiece_240 rfl (lv_at hl 0 rfl) ?_
    refine lv_bipush (v := 58) X.1 X.2.1 dX8_readPiece_241 (by decide) ?_
    obtain ⟨h, hc, hf⟩ := ob_some hf
    refine g_cv S (runV (As := [.int 58]) (rest := []) X S coX8_86 (by decide) (cX8_passSign_m l hc) (tkX8_passSign hc) rfl hl.1 (by decide) rfl ⟨Nat.zero_le _, Nat.zero_le _⟩ dX8_readPiece_243) (fun H locs S => ?_)
    refine lv_goto (tgt := 465) X.1 X.2.1 dX8_readPiece_246 (by decide) ?_
    cases hf; exact g_rv X S hr hlk dX8_readPiece_465
  replace hf := (if_neg c9).symm.trans hf
  by_cases c11 : a2 = 61
  · replace hf := (if_pos c11).symm.trans hf
    refine lv_lookup (tgt := 291) X.1 X.2.1 dX8_readPiece_1 (by decide +kernel) (by rw [c11]) rfl ?_
    refine g_aload_n X (or_rv _) dX8_readPiece_291 rfl (lv_at hl 1 rfl) ?_
    refine g_aload_n X (or_rv _) dX8_readPiece_292 rfl (lv_at hl 1 rfl) ?_
    refine g_gI X S foX8_191 rfl dX8_readPiece_293 hf (fun v12 hf => ?_)
    refine g_pI X S fpX8_194 (Or.inl rfl) dX8_readPiece_296 hf (fun h H locs hm hf S => ?_)
    refine lv_goto (tgt := 465) X.1 X.2.1 dX8_readPiece_299 (by decide) ?_
    cases hf; exact g_rv X S hr hlk dX8_readPiece_465
  replace hf := (if_neg c11).symm.trans hf
  by_cases c13 : a2 = 76
  · replace hf := (if_pos c13).symm.trans hf
    refine lv_lookup (tgt := 263) X.1 X.2.1 dX8_readPiece_1 (by decide +kernel) (by rw [c13]) rfl ?_
    refine g_aload_n X (or_rv _) dX8_readPiece_263 rfl (lv_at hl 1 rfl) ?_
    refine g_aload_n X (or_rv _) dX8_readPiece_264 rfl (lv_at hl 0 rfl) ?_
    refine lv_iconst (v := 1) X.1 X.2.1 dX8_readPiece_265 (by decide) ?_
    refine lv_bipush (v := 64) X.1 X.2.1 dX8_readPiece_266 (by decide) ?_
    obtain ⟨v14, h, hc, hf⟩ := ob2_some hf
    refine g_ci S (runV (As := [.int 1, .int 64]) (rest := [rv a1]) X S coX8_92 (by decide) (cX8_passNumber_m l hc) (tkX8_passNumber hc) rfl hl.1 (by simp [cat_rv, cat_wv, cat_sv, cat_i, cat_l, cat_a]) rfl ⟨Nat.zero_le _, Nat.zero_le _⟩ dX8_readPiece_268) (fun H locs S => ?_)
    refine g_pI X S fpX8_191 (Or.inl rfl) dX8_readPiece_271 hf (fun h H locs hm hf S => ?_)
    refine lv_goto (tgt := 465) X.1 X.2.1 dX8_readPiece_274 (by decide) ?_
    cases hf; exact g_rv X S hr hlk dX8_readPiece_465
  replace hf := (if_neg c13).symm.trans hf
  by_cases c15 : a2 = 100
  · replace hf := (if_pos c15).symm.trans hf
    refine lv_lookup (tgt := 368) X.1 X.2.1 dX8_readPiece_1 (by decide +kernel) (by rw [c15]) rfl ?_
    refine g_aload_n X (or_rv _) dX8_readPiece_368 rfl (lv_at hl 1 rfl) ?_
    refine g_aload_n X (or_rv _) dX8_readPiece_369 rfl (lv_at hl 0 rfl) ?_
    refine lv_iconst (v := 0) X.1 X.2.1 dX8_readPiece_370 (by decide) ?_
    refine lv_bipush (v := 9) X.1 X.2.1 dX8_readPiece_371 (by decide) ?_
    obtain ⟨v16, h, hc, hf⟩ := ob2_some hf
    refine g_ci S (runV (As := [.int 0, .int 9]) (rest := [rv a1]) X S coX8_92 (by decide) (cX8_passNumber_m l hc) (tkX8_passNumber hc) rfl hl.1 (by simp [cat_rv, cat_wv, cat_sv, cat_i, cat_l, cat_a]) rfl ⟨Nat.zero_le _, Nat.zero_le _⟩ dX8_readPiece_373) (fun H locs S => ?_)
    refine g_pI X S fpX8_203 (Or.inl rfl) dX8_readPiece_376 hf (fun h H locs hm hf S => ?_)
    refine lv_goto (tgt := 465) X.1 X.2.1 dX8_readPiece_379 (by decide) ?_
    cases hf; exact g_rv X S hr hlk dX8_readPiece_465
  replace hf := (if_neg c15).symm.trans hf
  by_cases c17 : a2 = 103
  · replace hf := (if_pos c17).symm.trans hf
    refine lv_lookup (tgt := 432) X.1 X.2.1 dX8_readPiece_1 (by decide +kernel) (by rw [c17]) rfl ?_
    refine g_aload_n X (or_rv _) dX8_readPiece_432 rfl (lv_at hl 1 rfl) ?_
    refine g_aload_n X (or_rv _) dX8_readPiece_433 rfl (lv_at hl 0 rfl) ?_
    refine lv_iconst (v := 1) X.1 X.2.1 dX8_readPiece_434 (by decide) ?_
    refine lv_bipush (v := 8) X.1 X.2.1 dX8_readPiece_435 (by decide) ?_
    obtain ⟨v18, h, hc, hf⟩ := ob2_some hf
    refine g_ci S (runV (As := [.int 1, .int 8]) (rest := [rv a1]) X S coX8_92 (by decide) (cX8_passNumber_m l hc) (tkX8_passNumber hc) rfl hl.1 (by simp [cat_rv, cat_wv, cat_sv, cat_i, cat_l, cat_a]) rfl ⟨Nat.zero_le _, Nat.zero_le _⟩ dX8_readPiece_437) (fun H locs S => ?_)
    refine g_pI X S fpX8_200 (Or.inl rfl) dX8_readPiece_440 hf (fun h H locs hm hf S => ?_)
    refine lv_goto (tgt := 465) X.1 X.2.1 dX8_readPiece_443 (by decide) ?_
    cases hf; exact g_rv X S hr hlk dX8_readPiece_465
  replace hf := (if_neg c17).symm.trans hf
  by_cases c19 : a2 = 108
  · replace hf := (if_pos c19).symm.trans hf
    refine lv_lookup (tgt := 249) X.1 X.2.1 dX8_readPiece_1 (by decide +kernel) (by rw [c19]) rfl ?_
    refine g_aload_n X (or_rv _) dX8_readPiece_249 rfl (lv_at hl 1 rfl) ?_
    refine g_aload_n X (or_rv _) dX8_readPiece_250 rfl (lv_at hl 0 rfl) ?_
    refine lv_iconst (v := 1) X.1 X.2.1 dX8_readPiece_251 (by decide) ?_
    refine lv_bipush (v := 16) X.1 X.2.1 dX8_readPiece_252 (by decide) ?_
    obtain ⟨v20, h, hc, hf⟩ := ob2_some hf
    refine g_ci S (runV (As := [.int 1, .int 16]) (rest := [rv a1]) X S coX8_92 (by decide) (cX8_passNumber_m l hc) (tkX8_passNumber hc) rfl hl.1 (by simp [cat_rv, cat_wv, cat_sv, cat_i, cat_l, cat_a]) rfl ⟨Nat.zero_le _, Nat.zero_le _⟩ dX8_readPiece_254) (fun H locs S => ?_)
    refine g_pI X S fpX8_191 (Or.inl rfl) dX8_readPiece_257 hf (fun h H locs hm hf S => ?_)
    refine lv_goto (tgt := 465) X.1 X.2.1 dX8_readPiece_260 (by decide) ?_
    cases hf; exact g_rv X S hr hlk dX8_readPiece_465
  replace hf := (if_neg c19).symm.trans hf
  by_cases c21 : a2 = 109
  · replace hf := (if_pos c21).symm.trans hf
    refine lv_lookup (tgt := 277) X.1 X.2.1 dX8_readPiece_1 (by decide +kernel) (by rw [c21]) rfl ?_
    refine g_aload_n X (or_rv _) dX8_readPiece_277 rfl (lv_at hl 1 rfl) ?_
    refine g_aload_n X (or_rv _) dX8_readPiece_278 rfl (lv_at hl 0 rfl) ?_
    refine lv_iconst (v := 1) X.1 X.2.1 dX8_readPiece_279 (by decide) ?_
    refine lv_bipush (v := 16) X.1 X.2.1 dX8_readPiece_280 (by decide) ?_
    obtain ⟨v22, h, hc, hf⟩ := ob2_some hf
    refine g_ci S (runV (As := [.int 1, .int 16]) (rest := [rv a1]) X S coX8_92 (by decide) (cX8_passNumber_m l hc) (tkX8_passNumber hc) rfl hl.1 (by simp [cat_rv, cat_wv, cat_sv, cat_i, cat_l, cat_a]) rfl ⟨Nat.zero_le _, Nat.zero_le _⟩ dX8_readPiece_282) (fun H locs S => ?_)
    refine g_pI X S fpX8_194 (Or.inl rfl) dX8_readPiece_285 hf (fun h H locs hm hf S => ?_)
    refine lv_goto (tgt := 465) X.1 X.2.1 dX8_readPiece_288 (by decide) ?_
    cases hf; exact g_rv X S hr hlk dX8_readPiece_465
  replace hf := (if_neg c21).symm.trans hf
  by_cases c23 : a2 = 110
  · replace hf := (if_pos c23).symm.trans hf
    refine lv_lookup (tgt := 446) X.1 X.2.1 dX8_readPiece_1 (by decide +kernel) (by rw [c23]) rfl ?_
    refine g_aload_n X (or_rv _) dX8_readPiece_446 rfl (lv_at hl 0 rfl) ?_
    obtain ⟨h, hc, hf⟩ := ob_some hf
    refine g_cv S (runV (As := []) (rest := []) X S coX8_206 (by decide) (cX8_readTarget_m l hc) (tkX8_readTarget hc) rfl hl.1 (by decide) rfl ⟨Nat.zero_le _, Nat.zero_le _⟩ dX8_readPiece_447) (fun H locs S => ?_)
    refine lv_goto (tgt := 465) X.1 X.2.1 dX8_readPiece_450 (by decide) ?_
    cases hf; exact g_rv X S hr hlk dX8_readPiece_465
  replace hf := (if_neg c23).symm.trans hf
  by_cases c25 : a2 = 111
  · replace hf := (if_pos c25).symm.trans hf
    refine lv_lookup (tgt := 418) X.1 X.2.1 dX8_readPiece_1 (by decide +kernel) (by rw [c25]) rfl ?_
    refine g_aload_n X (or_rv _) dX8_readPiece_418 rfl (lv_at hl 1 rfl) ?_
    refine g_aload_n X (or_rv _) dX8_readPiece_419 rfl (lv_at hl 0 rfl) ?_
    refine lv_iconst (v := 0) X.1 X.2.1 dX8_readPiece_420 (by decide) ?_
    refine lv_bipush (v := 15) X.1 X.2.1 dX8_readPiece_421 (by decide) ?_
    obtain ⟨v26, h, hc, hf⟩ := ob2_some hf
    refine g_ci S (runV (As := [.int 0, .int 15]) (rest := [rv a1]) X S coX8_92 (by decide) (cX8_passNumber_m l hc) (tkX8_passNumber hc) rfl hl.1 (by simp [cat_rv, cat_wv, cat_sv, cat_i, cat_l, cat_a]) rfl ⟨Nat.zero_le _, Nat.zero_le _⟩ dX8_readPiece_423) (fun H locs S => ?_)
    refine g_pI X S fpX8_200 (Or.inl rfl) dX8_readPiece_426 hf (fun h H locs hm hf S => ?_)
    refine lv_goto (tgt := 465) X.1 X.2.1 dX8_readPiece_429 (by decide) ?_
    cases hf; exact g_rv X S hr hlk dX8_readPiece_465
  replace hf := (if_neg c25).symm.trans hf
  by_cases c27 : a2 = 112
  · replace hf := (if_pos c27).symm.trans hf
    refine lv_lookup (tgt := 156) X.1 X.2.1 dX8_readPiece_1 (by decide +kernel) (by rw [c27]) rfl ?_
    refine g_aload_n X (or_rv _) dX8_readPiece_156 rfl (lv_at hl 1 rfl) ?_
    refine g_aload_n X (or_rv _) dX8_readPiece_157 rfl (lv_at hl 0 rfl) ?_
    refine lv_iconst (v := 0) X.1 X.2.1 dX8_readPiece_158 (by decide) ?_
    refine lv_sipush (v := 255) X.1 X.2.1 dX8_readPiece_159 (by decide) ?_
    obtain ⟨v28, h, hc, hf⟩ := ob2_some hf
    refine g_ci S (runV (As := [.int 0, .int 255]) (rest := [rv a1]) X S coX8_92 (by decide) (cX8_passNumber_m l hc) (tkX8_passNumber hc) rfl hl.1 (by simp [cat_rv, cat_wv, cat_sv, cat_i, cat_l, cat_a]) rfl ⟨Nat.zero_le _, Nat.zero_le _⟩ dX8_readPiece_162) (fun H locs S => ?_)
    refine g_pI X S fpX8_177 (Or.inl rfl) dX8_readPiece_165 hf (fun h H locs hm hf S => ?_)
    refine lv_goto (tgt := 465) X.1 X.2.1 dX8_readPiece_168 (by decide) ?_
    cases hf; exact g_rv X S hr hlk dX8_readPiece_465
  replace hf := (if_neg c27).symm.trans hf
  by_cases c29 : a2 = 113
  · replace hf := (if_pos c29).symm.trans hf
    refine lv_lookup (tgt := 198) X.1 X.2.1 dX8_readPiece_1 (by decide +kernel) (by rw [c29]) rfl ?_
    refine g_aload_n X (or_rv _) dX8_readPiece_198 rfl (lv_at hl 1 rfl) ?_
    refine g_aload_n X (or_rv _) dX8_readPiece_199 rfl (lv_at hl 0 rfl) ?_
    refine lv_iconst (v := 0) X.1 X.2.1 dX8_readPiece_200 (by decide) ?_
    refine lv_sipush (v := 255) X.1 X.2.1 dX8_readPiece_201 (by decide) ?_
    obtain ⟨v30, h, hc, hf⟩ := ob2_some hf
    refine g_ci S (runV (As := [.int 0, .int 255]) (rest := [rv a1]) X S coX8_92 (by decide) (cX8_passNumber_m l hc) (tkX8_passNumber hc) rfl hl.1 (by simp [cat_rv, cat_wv, cat_sv, cat_i, cat_l, cat_a]) rfl ⟨Nat.zero_le _, Nat.zero_le _⟩ dX8_readPiece_204) (fun H locs S => ?_)
    refine g_pI X S fpX8_185 (Or.inl rfl) dX8_readPiece_207 hf (fun h H locs hm hf S => ?_)
    refine lv_goto (tgt := 465) X.1 X.2.1 dX8_readPiece_210 (by decide) ?_
    cases hf; exact g_rv X S hr hlk dX8_readPiece_465
  replace hf := (if_neg c29).symm.trans hf
  by_cases c31 : a2 = 114
  · replace hf := (if_pos c31).symm.trans hf
    refine lv_lookup (tgt := 320) X.1 X.2.1 dX8_readPiece_1 (by decide +kernel) (by rw [c31]) rfl ?_
    refine g_aload_n X (or_rv _) dX8_readPiece_320 rfl (lv_at hl 1 rfl) ?_
    refine g_aload_n X (or_rv _) dX8_readPiece_321 rfl (lv_at hl 0 rfl) ?_
    refine lv_iconst (v := 0) X.1 X.2.1 dX8_readPiece_322 (by decide) ?_
    refine lv_bipush (v := 7) X.1 X.2.1 dX8_readPiece_323 (by decide) ?_
    obtain ⟨v32, h, hc, hf⟩ := ob2_some hf
    refine g_ci S (runV (As := [.int 0, .int 7]) (rest := [rv a1]) X S coX8_92 (by decide) (cX8_passNumber_m l hc) (tkX8_passNumber hc) rfl hl.1 (by simp [cat_rv, cat_wv, cat_sv, cat_i, cat_l, cat_a]) rfl ⟨Nat.zero_le _, Nat.zero_le _⟩ dX8_readPiece_325) (fun H locs S => ?_)
    refine g_pI X S fpX8_197 (Or.inl rfl) dX8_readPiece_328 hf (fun h H locs hm hf S => ?_)
    refine lv_goto (tgt := 465) X.1 X.2.1 dX8_readPiece_331 (by decide) ?_
    cases hf; exact g_rv X S hr hlk dX8_readPiece_465
  replace hf := (if_neg c31).symm.trans hf
  by_cases c33 : a2 = 115
  · replace hf := (if_pos c33).symm.trans hf
    refine lv_lookup (tgt := 334) X.1 X.2.1 dX8_readPiece_1 (by decide +kernel) (by rw [c33]) rfl ?_
    refine g_aload_n X (or_rv _) dX8_readPiece_334 rfl (lv_at hl 1 rfl) ?_
    refine g_aload_n X (or_rv _) dX8_readPiece_335 rfl (lv_at hl 0 rfl) ?_
    refine lv_bipush (v := 45) X.1 X.2.1 dX8_readPiece_336 (by decide) ?_
    obtain ⟨v34, h, hc, hf⟩ := ob2_some hf
    refine g_ci S (runV (As := [.int 45]) (rest := [rv a1]) X S coX8_124 (by decide) (cX8_passed_m l hc) (tkX8_passed hc) rfl hl.1 (by simp [cat_rv, cat_wv, cat_sv, cat_i, cat_l, cat_a]) rfl ⟨Nat.zero_le _, Nat.zero_le _⟩ dX8_readPiece_338) (fun H locs S => ?_)
    refine lv_if_eq (tgt := 355) X.1 X.2.1 dX8_readPiece_341 (by decide) (fun c35 => ?_) (fun c35 => ?_)
    · replace hf := (if_pos c35).symm.trans hf
      refine g_aload_n X (or_rv _) dX8_readPiece_355 rfl (lv_at hl 0 rfl) ?_
      refine lv_iconst (v := 0) X.1 X.2.1 dX8_readPiece_356 (by decide) ?_
      refine lv_bipush (v := 31) X.1 X.2.1 dX8_readPiece_357 (by decide) ?_
      obtain ⟨v36, h, hc, hf⟩ := ob2_some hf
      refine g_ci S (runV (As := [.int 0, .int 31]) (rest := [rv a1]) X S coX8_92 (by decide) (cX8_passNumber_m l hc) (tkX8_passNumber hc) rfl hl.1 (by simp [cat_rv, cat_wv, cat_sv, cat_i, cat_l, cat_a]) rfl ⟨Nat.zero_le _, Nat.zero_le _⟩ dX8_readPiece_359) (fun H locs S => ?_)
      exact wfX8_readPiece_362 X hr hlk hnm _ _ _ _ _ _ (lv_sub hl [] rfl) S hf
    · replace hf := (if_neg c35).symm.trans hf
      refine g_aload_n X (or_rv _) dX8_readPiece_344 rfl (lv_at hl 0 rfl) ?_
      refine lv_iconst (v := 0) X.1 X.2.1 dX8_readPiece_345 (by decide) ?_
      refine lv_bipush (v := 32) X.1 X.2.1 dX8_readPiece_346 (by decide) ?_
      obtain ⟨v37, h, hc, hf⟩ := ob2_some hf
      refine g_ci S (runV (As := [.int 0, .int 32]) (rest := [rv a1]) X S coX8_92 (by decide) (cX8_passNumber_m l hc) (tkX8_passNumber hc) rfl hl.1 (by simp [cat_rv, cat_wv, cat_sv, cat_i, cat_l, cat_a]) rfl ⟨Nat.zero_le _, Nat.zero_le _⟩ dX8_readPiece_348) (fun H locs S => ?_)
      refine lv_ineg X.1 X.2.1 dX8_readPiece_351 ?_
      refine lv_goto (tgt := 362) X.1 X.2.1 dX8_readPiece_352 (by decide) ?_
      exact wfX8_readPiece_362 X hr hlk hnm _ _ _ _ _ _ (lv_sub hl [] rfl) S hf
  replace hf := (if_neg c33).symm.trans hf
  by_cases c38 : a2 = 120
  · replace hf := (if_pos c38).symm.trans hf
    refine lv_lookup (tgt := 171) X.1 X.2.1 dX8_readPiece_1 (by decide +kernel) (by rw [c38]) rfl ?_
    refine g_aload_n X (or_rv _) dX8_readPiece_171 rfl (lv_at hl 1 rfl) ?_
    refine g_aload_n X (or_rv _) dX8_readPiece_172 rfl (lv_at hl 0 rfl) ?_
    refine lv_bipush (v := 37) X.1 X.2.1 dX8_readPiece_173 (by decide) ?_
    obtain ⟨v39, h, hc, hf⟩ := ob2_some hf
    refine g_ci S (runV (As := [.int 37]) (rest := [rv a1]) X S coX8_124 (by decide) (cX8_passed_m l hc) (tkX8_passed hc) rfl hl.1 (by simp [cat_rv, cat_wv, cat_sv, cat_i, cat_l, cat_a]) rfl ⟨Nat.zero_le _, Nat.zero_le _⟩ dX8_readPiece_175) (fun H locs S => ?_)
    refine lv_if_eq (tgt := 191) X.1 X.2.1 dX8_readPiece_178 (by decide) (fun c40 => ?_) (fun c40 => ?_)
    · replace hf := (if_pos c40).symm.trans hf
      refine lv_iconst (v := (-1)) X.1 X.2.1 dX8_readPiece_191 (by decide) ?_
      exact wfX8_readPiece_192 X hr hlk hnm _ _ _ _ _ _ (lv_sub hl [] rfl) S hf
    · replace hf := (if_neg c40).symm.trans hf
      refine g_aload_n X (or_rv _) dX8_readPiece_181 rfl (lv_at hl 0 rfl) ?_
      refine lv_iconst (v := 0) X.1 X.2.1 dX8_readPiece_182 (by decide) ?_
      refine lv_bipush (v := 7) X.1 X.2.1 dX8_readPiece_183 (by decide) ?_
      obtain ⟨v41, h, hc, hf⟩ := ob2_some hf
      refine g_ci S (runV (As := [.int 0, .int 7]) (rest := [rv a1]) X S coX8_92 (by decide) (cX8_passNumber_m l hc) (tkX8_passNumber hc) rfl hl.1 (by simp [cat_rv, cat_wv, cat_sv, cat_i, cat_l, cat_a]) rfl ⟨Nat.zero_le _, Nat.zero_le _⟩ dX8_readPiece_185) (fun H locs S => ?_)
      refine lv_goto (tgt := 192) X.1 X.2.1 dX8_readPiece_188 (by decide) ?_
      exact wfX8_readPiece_192 X hr hlk hnm _ _ _ _ _ _ (lv_sub hl [] rfl) S hf
  replace hf := (if_neg c38).symm.trans hf
  by_cases c42 : a2 = 121
  · replace hf := (if_pos c42).symm.trans hf
    refine lv_lookup (tgt := 213) X.1 X.2.1 dX8_readPiece_1 (by decide +kernel) (by rw [c42]) rfl ?_
    refine g_aload_n X (or_rv _) dX8_readPiece_213 rfl (lv_at hl 1 rfl) ?_
    refine g_aload_n X (or_rv _) dX8_readPiece_214 rfl (lv_at hl 0 rfl) ?_
    refine lv_bipush (v := 37) X.1 X.2.1 dX8_readPiece_215 (by decide) ?_
    obtain ⟨v43, h, hc, hf⟩ := ob2_some hf
    refine g_ci S (runV (As := [.int 37]) (rest := [rv a1]) X S coX8_124 (by decide) (cX8_passed_m l hc) (tkX8_passed hc) rfl hl.1 (by simp [cat_rv, cat_wv, cat_sv, cat_i, cat_l, cat_a]) rfl ⟨Nat.zero_le _, Nat.zero_le _⟩ dX8_readPiece_217) (fun H locs S => ?_)
    refine lv_if_eq (tgt := 233) X.1 X.2.1 dX8_readPiece_220 (by decide) (fun c44 => ?_) (fun c44 => ?_)
    · replace hf := (if_pos c44).symm.trans hf
      refine lv_iconst (v := (-1)) X.1 X.2.1 dX8_readPiece_233 (by decide) ?_
      exact wfX8_readPiece_234 X hr hlk hnm _ _ _ _ _ _ (lv_sub hl [] rfl) S hf
    · replace hf := (if_neg c44).symm.trans hf
      refine g_aload_n X (or_rv _) dX8_readPiece_223 rfl (lv_at hl 0 rfl) ?_
      refine lv_iconst (v := 0) X.1 X.2.1 dX8_readPiece_224 (by decide) ?_
      refine lv_bipush (v := 7) X.1 X.2.1 dX8_readPiece_225 (by decide) ?_
      obtain ⟨v45, h, hc, hf⟩ := ob2_some hf
      refine g_ci S (runV (As := [.int 0, .int 7]) (rest := [rv a1]) X S coX8_92 (by decide) (cX8_passNumber_m l hc) (tkX8_passNumber hc) rfl hl.1 (by simp [cat_rv, cat_wv, cat_sv, cat_i, cat_l, cat_a]) rfl ⟨Nat.zero_le _, Nat.zero_le _⟩ dX8_readPiece_227) (fun H locs S => ?_)
      refine lv_goto (tgt := 234) X.1 X.2.1 dX8_readPiece_230 (by decide) ?_
      exact wfX8_readPiece_234 X hr hlk hnm _ _ _ _ _ _ (lv_sub hl [] rfl) S hf
  replace hf := (if_neg c42).symm.trans hf
  refine lv_lookup (off := 452) (tgt := 453) X.1 X.2.1 dX8_readPiece_1 (by decide +kernel) (by have e0 := i32_ne c1 (n := 37) (by decide); have e1 := i32_ne c3 (n := 43) (by decide); have e2 := i32_ne c8 (n := 56) (by decide); have e3 := i32_ne c9 (n := 58) (by decide); have e4 := i32_ne c11 (n := 61) (by decide); have e5 := i32_ne c13 (n := 76) (by decide); have e6 := i32_ne c15 (n := 100) (by decide); have e7 := i32_ne c17 (n := 103) (by decide); have e8 := i32_ne c19 (n := 108) (by decide); have e9 := i32_ne c21 (n := 109) (by decide); have e10 := i32_ne c23 (n := 110) (by decide); have e11 := i32_ne c25 (n := 111) (by decide); have e12 := i32_ne c27 (n := 112) (by decide); have e13 := i32_ne c29 (n := 113) (by decide); have e14 := i32_ne c31 (n := 114) (by decide); have e15 := i32_ne c33 (n := 115) (by decide); have e16 := i32_ne c38 (n := 120) (by decide); have e17 := i32_ne c42 (n := 121) (by decide); simp [Op.lookupswitch.offset, e0, Ne.symm e0, e1, Ne.symm e1, e2, Ne.symm e2, e3, Ne.symm e3, e4, Ne.symm e4, e5, Ne.symm e5, e6, Ne.symm e6, e7, Ne.symm e7, e8, Ne.symm e8, e9, Ne.symm e9, e10, Ne.symm e10, e11, Ne.symm e11, e12, Ne.symm e12, e13, Ne.symm e13, e14, Ne.symm e14, e15, Ne.symm e15, e16, Ne.symm e16, e17, Ne.symm e17]) rfl ?_
  refine g_aload_n X (or_rv _) dX8_readPiece_453 rfl (lv_at hl 0 rfl) ?_
  refine g_gI X S foX8_54 rfl dX8_readPiece_454 hf (fun v46 hf => ?_)
  refine lv_iconst (v := 1) X.1 X.2.1 dX8_readPiece_457 (by decide) ?_
  refine lv_icmp_ne (tgt := 465) X.1 X.2.1 dX8_readPiece_458 (by decide) (fun c47 => ?_) (fun c47 => ?_)
  · replace hf := (if_neg c47).symm.trans hf
    cases hf; exact g_rv X S hr hlk dX8_readPiece_465
  · replace hf := (if_pos c47).symm.trans hf
    refine g_aload_n X (or_rv _) dX8_readPiece_461 rfl (lv_at hl 0 rfl) ?_
    obtain ⟨h, hc, hf⟩ := ob_some hf
    refine g_cv S (runV (As := []) (rest := []) X S coX8_206 (by decide) (cX8_readTarget_m l hc) (tkX8_readTarget hc) rfl hl.1 (by decide) rfl ⟨Nat.zero_le _, Nat.zero_le _⟩ dX8_readPiece_462) (fun H locs S => ?_)
    cases hf; exact g_rv X S hr hlk dX8_readPiece_465
def fX8_readInstruction_25 (x0 : Nat) (h : Hp) : Option (Hp) := obk h (fX8_fail x0 1 h) fun h => some h
theorem wfX8_readInstruction_25 {h0 : Hp} {h9 : Hp} (X : Cx p E A 12 R s m args c cX8_readInstruction yX8_readInstruction.cls 7) (hr : meth.sig.returnType = none) (hlk : meth.locks = false) (hnm : meth.name = yX8_readInstruction.name) :
    ∀ (x0 : Nat) (h : Hp) (H : Heap) (locs : List Loc) (ls : Array Slot) (cells slots : Nat), lv_has ls 7 [(0, rv x0)] → St E A s h H locs → AlI R s h0 h cells slots → fX8_readInstruction_25 x0 h = some h9 → W p l e R s m args below meth c H locs cells slots (MQ below (QG (Qv E A h9) h0 h9) args s R.cells R.slots A) (F0 m 25 ls []) := by
  intro x0 h H locs ls cells slots hl S AI hf
  unfold fX8_readInstruction_25 at hf
  refine g_aload_n X (or_rv _) dX8_readInstruction_25 rfl (lv_at hl 0 rfl) ?_
  refine lv_iconst (v := 1) X.1 X.2.1 dX8_readInstruction_26 (by decide) ?_
  obtain ⟨h, hc, hok, hf⟩ := obk_some hf
  refine g_cv S (runV (As := [.int 1]) (rest := []) X S coX8_104 (by decide) (cX8_fail_m l hc) (tkX8_fail hc) rfl hl.1 (by decide) rfl AI.fit dX8_readInstruction_27) (fun H locs S => ?_)
  replace AI := AI.kc hok
  cases hf; exact g_rvA X S AI hr hlk dX8_readInstruction_30
def fX8_readInstruction_66 (x0 : Nat) (h : Hp) : Option (Hp) := obk h (fX8_fail x0 2 h) fun h => some h
theorem wfX8_readInstruction_66 {h0 : Hp} {h9 : Hp} (X : Cx p E A 12 R s m args c cX8_readInstruction yX8_readInstruction.cls 7) (hr : meth.sig.returnType = none) (hlk : meth.locks = false) (hnm : meth.name = yX8_readInstruction.name) :
    ∀ (x0 : Nat) (h : Hp) (H : Heap) (locs : List Loc) (ls : Array Slot) (cells slots : Nat), lv_has ls 7 [(0, rv x0)] → St E A s h H locs → AlI R s h0 h cells slots → fX8_readInstruction_66 x0 h = some h9 → W p l e R s m args below meth c H locs cells slots (MQ below (QG (Qv E A h9) h0 h9) args s R.cells R.slots A) (F0 m 66 ls []) := by
  intro x0 h H locs ls cells slots hl S AI hf
  unfold fX8_readInstruction_66 at hf
  refine g_aload_n X (or_rv _) dX8_readInstruction_66 rfl (lv_at hl 0 rfl) ?_
  refine lv_iconst (v := 2) X.1 X.2.1 dX8_readInstruction_67 (by decide) ?_
  obtain ⟨h, hc, hok, hf⟩ := obk_some hf
  refine g_cv S (runV (As := [.int 2]) (rest := []) X S coX8_104 (by decide) (cX8_fail_m l hc) (tkX8_fail hc) rfl hl.1 (by decide) rfl AI.fit dX8_readInstruction_68) (fun H locs S => ?_)
  replace AI := AI.kc hok
  cases hf; exact g_rvA X S AI hr hlk dX8_readInstruction_71
def fX8_readInstruction_102 (k102 : Nat → Nat → Nat → Int32 → Hp → Option (Hp)) (x0 : Nat) (x4 : Nat) (x5 : Nat) (x6 : Int32) (h : Hp) : Option (Hp) := ob (sLen x5) fun v1 => if v1 ≤ x6 then some h else ob (gI 7 x0 10 h) fun v3 => if v3 = 0 then ob (sAt x5 x6) fun v5 => obk h (fX8_readPiece x0 x4 v5 h) fun h => lt (x6 + 1) fun z7 => k102 x0 x4 x5 z7 h else some h
theorem wfX8_readInstruction_102 {h0 : Hp} {k102 : Nat → Nat → Nat → Int32 → Hp → Option (Hp)} {h9 : Hp} (X : Cx p E A 12 R s m args c cX8_readInstruction yX8_readInstruction.cls 7) (hr : meth.sig.returnType = none) (hlk : meth.locks = false) (hnm : meth.name = yX8_readInstruction.name) (hk102 : ∀ (x0 : Nat) (x4 : Nat) (x5 : Nat) (x6 : Int32) (h : Hp) (H : Heap) (locs : List Loc) (ls : Array Slot) (cells slots : Nat), lv_has ls 7 [(0, rv x0), (4, rv x4), (5, sv E x5), (6, .int x6)] → St E A s h H locs → AlI R s h0 h cells slots → k102 x0 x4 x5 x6 h = some h9 → W p l e R s m args below meth c H locs cells slots (MQ below (QG (Qv E A h9) h0 h9) args s R.cells R.slots A) (F0 m 102 ls [])) :
    ∀ (x0 : Nat) (x4 : Nat) (x5 : Nat) (x6 : Int32) (h : Hp) (H : Heap) (locs : List Loc) (ls : Array Slot) (cells slots : Nat), lv_has ls 7 [(0, rv x0), (4, rv x4), (5, sv E x5), (6, .int x6)] → St E A s h H locs → AlI R s h0 h cells slots → fX8_readInstruction_102 k102 x0 x4 x5 x6 h = some h9 → W p l e R s m args below meth c H locs cells slots (MQ below (QG (Qv E A h9) h0 h9) args s R.cells R.slots A) (F0 m 102 ls []) := by
  intro x0 x4 x5 x6 h H locs ls cells slots hl S AI hf
  unfold fX8_readInstruction_102 at hf
  refine lv_iload X.1 X.2.1 dX8_readInstruction_102 (lv_at hl 3 rfl) ?_
  refine g_aload X (or_sv _ _) dX8_readInstruction_104 (lv_at hl 2 rfl) ?_
  refine g_sLen (rest := [.int x6]) X S hl.1 (by decide) (by simp [cat_rv, cat_wv, cat_sv, cat_i, cat_l, cat_a]) jfX8_165 AI.fit.1 AI.fit.2 dX8_readInstruction_106 hf (fun v1 H locs hf S => ?_)
  refine lv_icmp_ge (tgt := 138) X.1 X.2.1 dX8_readInstruction_109 (by decide) (fun c2 => ?_) (fun c2 => ?_)
  · replace hf := (if_pos c2).symm.trans hf
    cases hf; exact g_rvA X S AI hr hlk dX8_readInstruction_138
  · replace hf := (if_neg c2).symm.trans hf
    refine g_aload_n X (or_rv _) dX8_readInstruction_112 rfl (lv_at hl 0 rfl) ?_
    refine g_gI X S foX8_45 rfl dX8_readInstruction_113 hf (fun v3 hf => ?_)
    refine lv_if_ne (tgt := 138) X.1 X.2.1 dX8_readInstruction_116 (by decide) (fun c4 => ?_) (fun c4 => ?_)
    · replace hf := (if_neg c4).symm.trans hf
      cases hf; exact g_rvA X S AI hr hlk dX8_readInstruction_138
    · replace hf := (if_pos c4).symm.trans hf
      refine g_aload_n X (or_rv _) dX8_readInstruction_119 rfl (lv_at hl 0 rfl) ?_
      refine g_aload X (or_rv _) dX8_readInstruction_120 (lv_at hl 1 rfl) ?_
      refine g_aload X (or_sv _ _) dX8_readInstruction_122 (lv_at hl 2 rfl) ?_
      refine lv_iload X.1 X.2.1 dX8_readInstruction_124 (lv_at hl 3 rfl) ?_
      refine g_sAt (rest := [rv x4, rv x0]) X S hl.1 (by decide) (by simp [cat_rv, cat_wv, cat_sv, cat_i, cat_l, cat_a]) jfX8_169 AI.fit.1 AI.fit.2 dX8_readInstruction_126 hf (fun v5 H locs hf S => ?_)
      obtain ⟨h, hc, hok, hf⟩ := obk_some hf
      refine g_cv S (runV (As := [rv x4, .int v5]) (rest := []) X S coX8_173 (by decide) (cX8_readPiece_m l hc) (tkX8_readPiece hc) rfl hl.1 (by decide) rfl AI.fit dX8_readInstruction_129) (fun H locs S => ?_)
      replace AI := AI.kc hok
      obtain ⟨z7, ez7, hf⟩ := lt_some hf
      refine lv_iinc (v := z7) (lv' := [(6, .int z7), (0, rv x0), (4, rv x4), (5, sv E x5)]) X.1 X.2.1 dX8_readInstruction_132 hl (k := 3) rfl (by rw [← ez7]; rfl) (by decide) (by simp [List.filter, cat_rv, cat_wv, cat_sv]) (fun ls hl => ?_)
      refine lv_goto (tgt := 102) X.1 X.2.1 dX8_readInstruction_135 (by decide) ?_
      exact hk102 _ _ _ _ _ _ _ _ _ _ (lv_sub hl [1, 2, 3, 0] rfl) S AI hf
theorem wfX8_readInstruction_102_l {h0 : Hp} {h9 : Hp} (X : Cx p E A 12 R s m args c cX8_readInstruction yX8_readInstruction.cls 7) (hr : meth.sig.returnType = none) (hlk : meth.locks = false) (hnm : meth.name = yX8_readInstruction.name) :
    ∀ (n : Nat) (x0 : Nat) (x4 : Nat) (x5 : Nat) (x6 : Int32) (h : Hp) (H : Heap) (locs : List Loc) (ls : Array Slot) (cells slots : Nat), lv_has ls 7 [(0, rv x0), (4, rv x4), (5, sv E x5), (6, .int x6)] → St E A s h H locs → AlI R s h0 h cells slots → lp (fun _ _ _ _ _ => none) (fX8_readInstruction_102) n x0 x4 x5 x6 h = some h9 → W p l e R s m args below meth c H locs cells slots (MQ below (QG (Qv E A h9) h0 h9) args s R.cells R.slots A) (F0 m 102 ls []) := by
  intro n
  induction n with
  | zero =>
    intro x0 x4 x5 x6 h H locs ls cells slots hl S AI hf
    exact nomatch hf
  | succ n ih =>
    intro x0 x4 x5 x6 h H locs ls cells slots hl S AI hf
    exact wfX8_readInstruction_102 X hr hlk hnm ih x0 x4 x5 x6 h H locs ls cells slots hl S AI hf
def fX8_readInstruction (a0 : Nat) (a1 : Int64) (h : Hp) : Option (Hp) := gd 7 a0 h (ob (gI 7 a0 10 h) fun v1 => if v1 = 0 then ob (gR 7 a0 7 h) fun v3 => if v3 = 0 then fX8_readInstruction_25 a0 h else ob (gR 7 a0 7 h) fun v5 => ob (wdI v5) fun v6 => if v6 = 0 then fX8_readInstruction_25 a0 h else ob (gR 7 a0 5 h) fun v8 => ob (fX6_size v8 h) fun v9 => ob (gR 7 a0 5 h) fun v10 => ob (gR 7 a0 7 h) fun v11 => oba2 h (fX6_opened v10 v11 h) fun v12 h => if v12 = 0 then fX8_readInstruction_66 a0 h else ob (gR 7 a0 0 h) fun v14 => ob (aN 102 v14 h) fun v15 => if v9 < v15 then ob (gR 7 a0 0 h) fun v17 => ob (qL v17 v9 a1 h) fun h => ob (gR 7 a0 1 h) fun v18 => ob (qL v18 v9 0 h) fun h => ob (gR 7 a0 7 h) fun v19 => ob (wdF v19) fun v20 => obk h (fX8_advance a0 h) fun h => lp (fun _ _ _ _ _ => none) (fX8_readInstruction_102) FU a0 v12 v20 0 h else fX8_readInstruction_66 a0 h else some h)
theorem tkX8_readInstruction {a0 : Nat} {a1 : Int64} {h : Hp} {r9 : Hp} (e : fX8_readInstruction a0 a1 h = some r9) : hK h a0 = 7 := by
  unfold fX8_readInstruction at e
  exact (gd_some e).1
theorem cX8_readInstruction_m (l : Launch) {E : EE} {A : Nat → Prop} {a0 : Nat} {a1 : Int64} {h : Hp} {h9 : Hp} {mc ms : Nat} (hmc : mc + hX h = hC h) (hms : ms + hU h = hZ h) (hf : fX8_readInstruction a0 a1 h = some h9) : Met l yX8_readInstruction (wsM yX8_readInstruction cX8_readInstruction 7 none) (rmm 12 mc ms) (PcF E A h [rv a0, .long a1]) (QG (Qv E A h9) h h9) mc ms A := by
  refine met_ofA (by decide +kernel) (by simp [lg_sl, cat_rv, cat_wv, cat_sv, cat_i, cat_l, cat_a]) hmc hms (fun p e s m args below meth c ls X hr hlk hnm S AI hl => ?_)
  have hl : lv_has ls 7 [(0, rv a0), (1, .long a1)] := by simpa [lv_args, cat_rv, cat_wv, cat_sv, cat_i, cat_l, cat_a] using hl
  generalize hH : s.heap = H at S ⊢
  generalize hlo : ([] : List Loc) = locs at S ⊢
  clear hH hlo
  unfold fX8_readInstruction at hf
  obtain ⟨hth, hf⟩ := gd_some hf
  refine g_aload_n X (or_rv _) dX8_readInstruction_0 rfl (lv_at hl 0 rfl) ?_
  refine g_gI X S foX8_45 rfl dX8_readInstruction_1 hf (fun v1 hf => ?_)
  refine lv_if_eq (tgt := 8) X.1 X.2.1 dX8_readInstruction_4 (by decide) (fun c2 => ?_) (fun c2 => ?_)
  · replace hf := (if_pos c2).symm.trans hf
    refine g_aload_n X (or_rv _) dX8_readInstruction_8 rfl (lv_at hl 0 rfl) ?_
    refine g_gW X S foX8_66 dX8_readInstruction_9 hf (fun v3 hf => ?_)
    refine g_ifnullW (tgt := 25) X dX8_readInstruction_12 (by decide) (fun c4 => ?_) (fun c4 => ?_)
    · replace hf := (if_pos c4).symm.trans hf
      exact wfX8_readInstruction_25 X hr hlk hnm _ _ _ _ _ _ _ (lv_sub hl [0] rfl) S AI hf
    · replace hf := (if_neg c4).symm.trans hf
      refine g_aload_n X (or_rv _) dX8_readInstruction_15 rfl (lv_at hl 0 rfl) ?_
      refine g_gW X S foX8_66 dX8_readInstruction_16 hf (fun v5 hf => ?_)
      refine g_wdI X S (wfX8_149) dX8_readInstruction_19 hf (fun v6 hf => ?_)
      refine lv_if_ne (tgt := 31) X.1 X.2.1 dX8_readInstruction_22 (by decide) (fun c7 => ?_) (fun c7 => ?_)
      · replace hf := (if_neg c7).symm.trans hf
        refine g_aload_n X (or_rv _) dX8_readInstruction_31 rfl (lv_at hl 0 rfl) ?_
        refine g_gR X S foX8_28 dX8_readInstruction_32 hf (fun v8 hf => ?_)
        obtain ⟨v9, hc, hf⟩ := ob_some hf
        refine g_ci S (runV (As := []) (rest := []) X S coX8_153 (by decide) (cX6_size_m l hc) (tkX6_size hc) rfl hl.1 (by decide) rfl AI.fit dX8_readInstruction_35) (fun H locs S => ?_)
        refine lv_istore_n (i := 3) (lv' := [(3, .int v9), (0, rv a0), (1, .long a1)]) X.1 X.2.1 dX8_readInstruction_38 rfl hl (by decide) rfl (fun ls hl => ?_)
        refine g_aload_n X (or_rv _) dX8_readInstruction_39 rfl (lv_at hl 1 rfl) ?_
        refine g_gR X S foX8_28 dX8_readInstruction_40 hf (fun v10 hf => ?_)
        refine g_aload_n X (or_rv _) dX8_readInstruction_43 rfl (lv_at hl 1 rfl) ?_
        refine g_gW X S foX8_66 dX8_readInstruction_44 hf (fun v11 hf => ?_)
        obtain ⟨v12, h, hc, hok, hf⟩ := oba2_some hf
        refine g_cqA S AI hok (fun hsz => runVF (As := [wv E v11]) (rest := []) X S hsz coX8_157 (by decide) (cX6_opened_m l AI.mcs.1 AI.mcs.2 hc) (tkX6_opened hc) rfl hl.1 (by decide) rfl AI.room dX8_readInstruction_47) (fun H locs cells slots S AI => ?_)
        change W _ _ _ _ _ _ _ _ _ _ _ _ _ _ _ (F0 _ _ _ (rv v12 :: _))
        refine g_astore (lv' := [(4, rv v12), (3, .int v9), (0, rv a0), (1, .long a1)]) X (or_rv _) dX8_readInstruction_50 hl (by decide) rfl (fun ls hl => ?_)
        refine g_aload X (or_rv _) dX8_readInstruction_52 (lv_at hl 0 rfl) ?_
        refine g_ifnull (tgt := 66) X dX8_readInstruction_54 (by decide) (fun c13 => ?_) (fun c13 => ?_)
        · replace hf := (if_pos c13).symm.trans hf
          exact wfX8_readInstruction_66 X hr hlk hnm _ _ _ _ _ _ _ (lv_sub hl [2] rfl) S AI hf
        · replace hf := (if_neg c13).symm.trans hf
          refine lv_iload_n X.1 X.2.1 dX8_readInstruction_57 rfl (lv_at hl 1 rfl) ?_
          refine g_aload_n X (or_rv _) dX8_readInstruction_58 rfl (lv_at hl 2 rfl) ?_
          refine g_gR X S foX8_11 dX8_readInstruction_59 hf (fun v14 hf => ?_)
          refine g_aN X S (by decide) dX8_readInstruction_62 hf (fun v15 hf => ?_)
          refine lv_icmp_lt (tgt := 72) X.1 X.2.1 dX8_readInstruction_63 (by decide) (fun c16 => ?_) (fun c16 => ?_)
          · replace hf := (if_pos c16).symm.trans hf
            refine g_aload_n X (or_rv _) dX8_readInstruction_72 rfl (lv_at hl 2 rfl) ?_
            refine g_gR X S foX8_11 dX8_readInstruction_73 hf (fun v17 hf => ?_)
            refine lv_iload_n X.1 X.2.1 dX8_readInstruction_76 rfl (lv_at hl 1 rfl) ?_
            refine lv_lload_n X.1 X.2.1 dX8_readInstruction_77 rfl (lv_at hl 3 rfl) ?_
            refine g_qL X S dX8_readInstruction_78 hf (fun h H locs hm hf S => ?_)
            replace AI := AI.sm hm
            refine g_aload_n X (or_rv _) dX8_readInstruction_79 rfl (lv_at hl 2 rfl) ?_
            refine g_gR X S foX8_17 dX8_readInstruction_80 hf (fun v18 hf => ?_)
            refine lv_iload_n X.1 X.2.1 dX8_readInstruction_83 rfl (lv_at hl 1 rfl) ?_
            refine lv_lconst (v := 0) X.1 X.2.1 dX8_readInstruction_84 (by decide) ?_
            refine g_qL X S dX8_readInstruction_85 hf (fun h H locs hm hf S => ?_)
            replace AI := AI.sm hm
            refine g_aload_n X (or_rv _) dX8_readInstruction_86 rfl (lv_at hl 2 rfl) ?_
            refine g_gW X S foX8_66 dX8_readInstruction_87 hf (fun v19 hf => ?_)
            refine g_wdF X S (wfX8_161) dX8_readInstruction_90 hf (fun v20 hf => ?_)
            refine g_astore (lv' := [(5, sv E v20), (4, rv v12), (3, .int v9), (0, rv a0), (1, .long a1)]) X (or_sv _ _) dX8_readInstruction_93 hl (by decide) (by simp [List.filter, cat_rv, cat_wv, cat_sv]) (fun ls hl => ?_)
            refine g_aload_n X (or_rv _) dX8_readInstruction_95 rfl (lv_at hl 3 rfl) ?_
            obtain ⟨h, hc, hok, hf⟩ := obk_some hf
            refine g_cv S (runV (As := []) (rest := []) X S coX8_51 (by decide) (cX8_advance_m l hc) (tkX8_advance hc) rfl hl.1 (by decide) rfl AI.fit dX8_readInstruction_96) (fun H locs S => ?_)
            replace AI := AI.kc hok
            refine lv_iconst (v := 0) X.1 X.2.1 dX8_readInstruction_99 (by decide) ?_
            refine lv_istore (lv' := [(6, .int 0), (5, sv E v20), (4, rv v12), (3, .int v9), (0, rv a0), (1, .long a1)]) X.1 X.2.1 dX8_readInstruction_100 hl (by decide) (by simp [List.filter, cat_rv, cat_wv, cat_sv]) (fun ls hl => ?_)
            exact wfX8_readInstruction_102_l X hr hlk hnm FU _ _ _ _ _ _ _ _ _ _ (lv_sub hl [4, 2, 1, 0] rfl) S AI hf
          · replace hf := (if_neg c16).symm.trans hf
            exact wfX8_readInstruction_66 X hr hlk hnm _ _ _ _ _ _ _ (lv_sub hl [2] rfl) S AI hf
      · replace hf := (if_pos c7).symm.trans hf
        exact wfX8_readInstruction_25 X hr hlk hnm _ _ _ _ _ _ _ (lv_sub hl [0] rfl) S AI hf
  · replace hf := (if_neg c2).symm.trans hf
    cases hf; exact g_rvA X S AI hr hlk dX8_readInstruction_7
def fX8_readLine_31 (x0 : Nat) (h : Hp) : Option (Hp) := obk h (fX8_passSign x0 59 h) fun h => some h
theorem wfX8_readLine_31 {h0 : Hp} {h9 : Hp} (X : Cx p E A 13 R s m args c cX8_readLine yX8_readLine.cls 3) (hr : meth.sig.returnType = none) (hlk : meth.locks = false) (hnm : meth.name = yX8_readLine.name) :
    ∀ (x0 : Nat) (h : Hp) (H : Heap) (locs : List Loc) (ls : Array Slot) (cells slots : Nat), lv_has ls 3 [(0, rv x0)] → St E A s h H locs → AlI R s h0 h cells slots → fX8_readLine_31 x0 h = some h9 → W p l e R s m args below meth c H locs cells slots (MQ below (QG (Qv E A h9) h0 h9) args s R.cells R.slots A) (F0 m 31 ls []) := by
  intro x0 h H locs ls cells slots hl S AI hf
  unfold fX8_readLine_31 at hf
  refine g_aload_n X (or_rv _) dX8_readLine_31 rfl (lv_at hl 0 rfl) ?_
  refine lv_bipush (v := 59) X.1 X.2.1 dX8_readLine_32 (by decide) ?_
  obtain ⟨h, hc, hok, hf⟩ := obk_some hf
  refine g_cv S (runV (As := [.int 59]) (rest := []) X S coX8_86 (by decide) (cX8_passSign_m l hc) (tkX8_passSign hc) rfl hl.1 (by decide) rfl AI.fit dX8_readLine_34) (fun H locs S => ?_)
  replace AI := AI.kc hok
  cases hf; exact g_rvA X S AI hr hlk dX8_readLine_37
def fX8_readLine (a0 : Nat) (h : Hp) : Option (Hp) := gd 7 a0 h (ob (gR 7 a0 7 h) fun v1 => wk v1 1 (if v1 = 1 then obk h (fX8_advance a0 h) fun h => obk h (fX8_readLaying a0 h) fun h => fX8_readLine_31 a0 h else obk2 h (fX8_readLabel a0 h) fun v4 h => oba h (fX8_readInstruction a0 v4 h) fun h => fX8_readLine_31 a0 h))
theorem tkX8_readLine {a0 : Nat} {h : Hp} {r9 : Hp} (e : fX8_readLine a0 h = some r9) : hK h a0 = 7 := by
  unfold fX8_readLine at e
  exact (gd_some e).1
theorem cX8_readLine_m (l : Launch) {E : EE} {A : Nat → Prop} {a0 : Nat} {h : Hp} {h9 : Hp} {mc ms : Nat} (hmc : mc + hX h = hC h) (hms : ms + hU h = hZ h) (hf : fX8_readLine a0 h = some h9) : Met l yX8_readLine (wsM yX8_readLine cX8_readLine 3 none) (rmm 13 mc ms) (PcF E A h [rv a0]) (QG (Qv E A h9) h h9) mc ms A := by
  refine met_ofA (by decide +kernel) (by simp [lg_sl, cat_rv, cat_wv, cat_sv, cat_i, cat_l, cat_a]) hmc hms (fun p e s m args below meth c ls X hr hlk hnm S AI hl => ?_)
  have hl : lv_has ls 3 [(0, rv a0)] := by simpa [lv_args, cat_rv, cat_wv, cat_sv, cat_i, cat_l, cat_a] using hl
  generalize hH : s.heap = H at S ⊢
  generalize hlo : ([] : List Loc) = locs at S ⊢
  clear hH hlo
  unfold fX8_readLine at hf
  obtain ⟨hth, hf⟩ := gd_some hf
  refine g_aload_n X (or_rv _) dX8_readLine_0 rfl (lv_at hl 0 rfl) ?_
  refine g_gW X S foX8_66 dX8_readLine_1 hf (fun v1 hf => ?_)
  refine g_getw X S sfX8_70 (i := 0) ⟨by decide, rfl⟩ dX8_readLine_4 ?_
  obtain ⟨hwa, hwb, hf⟩ := wk_some hf
  refine g_acmpneW (tgt := 21) X dX8_readLine_7 (by decide) hwa hwb (fun c3 => ?_) (fun c3 => ?_)
  · replace hf := (if_neg c3).symm.trans hf
    refine g_aload_n X (or_rv _) dX8_readLine_21 rfl (lv_at hl 0 rfl) ?_
    obtain ⟨v4, h, hc, hok, hf⟩ := obk2_some hf
    refine g_cl S (runV (As := []) (rest := []) X S coX8_78 (by decide) (cX8_readLabel_m l hc) (tkX8_readLabel hc) rfl hl.1 (by decide) rfl AI.fit dX8_readLine_22) (fun H locs S => ?_)
    replace AI := AI.kc hok
    refine lv_lstore_n (i := 1) (lv' := [(1, .long v4), (0, rv a0)]) X.1 X.2.1 dX8_readLine_25 rfl hl (by decide) (by simp [List.filter, cat_rv, cat_wv, cat_sv]) (fun ls hl => ?_)
    refine g_aload_n X (or_rv _) dX8_readLine_26 rfl (lv_at hl 1 rfl) ?_
    refine lv_lload_n X.1 X.2.1 dX8_readLine_27 rfl (lv_at hl 0 rfl) ?_
    obtain ⟨h, hc, hok, hf⟩ := oba_some hf
    refine g_cvA S AI hok (fun hsz => runVF (As := [.long v4]) (rest := []) X S hsz coX8_82 (by decide) (cX8_readInstruction_m l AI.mcs.1 AI.mcs.2 hc) (tkX8_readInstruction hc) rfl hl.1 (by decide) rfl AI.room dX8_readLine_28) (fun H locs cells slots S AI => ?_)
    exact wfX8_readLine_31 X hr hlk hnm _ _ _ _ _ _ _ (lv_sub hl [1] rfl) S AI hf
  · replace hf := (if_pos c3).symm.trans hf
    refine g_aload_n X (or_rv _) dX8_readLine_10 rfl (lv_at hl 0 rfl) ?_
    obtain ⟨h, hc, hok, hf⟩ := obk_some hf
    refine g_cv S (runV (As := []) (rest := []) X S coX8_51 (by decide) (cX8_advance_m l hc) (tkX8_advance hc) rfl hl.1 (by decide) rfl AI.fit dX8_readLine_11) (fun H locs S => ?_)
    replace AI := AI.kc hok
    refine g_aload_n X (or_rv _) dX8_readLine_14 rfl (lv_at hl 0 rfl) ?_
    obtain ⟨h, hc, hok, hf⟩ := obk_some hf
    refine g_cv S (runV (As := []) (rest := []) X S coX8_75 (by decide) (cX8_readLaying_m l hc) (tkX8_readLaying hc) rfl hl.1 (by decide) rfl AI.fit dX8_readLine_15) (fun H locs S => ?_)
    replace AI := AI.kc hok
    refine lv_goto (tgt := 31) X.1 X.2.1 dX8_readLine_18 (by decide) ?_
    exact wfX8_readLine_31 X hr hlk hnm _ _ _ _ _ _ _ hl S AI hf
def fX8_bindNames_2 (k2 : Nat → Int32 → Hp → Option (Hp)) (x0 : Nat) (x1 : Int32) (h : Hp) : Option (Hp) := ob (gR 7 x0 5 h) fun v1 => ob (fX6_size v1 h) fun v2 => if v2 ≤ x1 then some h else ob (gR 7 x0 1 h) fun v4 => ob (aN 102 v4 h) fun v5 => if v5 ≤ x1 then some h else ob (gI 7 x0 10 h) fun v7 => if v7 = 0 then ob (gR 7 x0 5 h) fun v9 => ob (fX6_told v9 x1 h) fun v10 => if v10 = 0 then lt (x1 + 1) fun z12 => k2 x0 z12 h else ob (gR 7 x0 1 h) fun v13 => ob (aL v13 x1 h) fun v14 => if (lg_cmp v14 0) = 0 then lt (x1 + 1) fun z16 => k2 x0 z16 h else ob (gR 7 x0 1 h) fun v17 => ob (aL v17 x1 h) fun v18 => ob (fX8_named x0 v18 h) fun v19 => ob (pI 5 v10 10 v19 h) fun h => ob (gI 5 v10 10 h) fun v20 => if v20 = (-1) then ob (pI 7 x0 10 3 h) fun h => ob (gR 7 x0 2 h) fun v23 => ob (aI v23 x1 h) fun v24 => ob (pI 7 x0 11 v24 h) fun h => lt (x1 + 1) fun z25 => k2 x0 z25 h else lt (x1 + 1) fun z22 => k2 x0 z22 h else some h
theorem wfX8_bindNames_2 {k2 : Nat → Int32 → Hp → Option (Hp)} {h9 : Hp} (X : Cx p E A 10 R s m args c cX8_bindNames yX8_bindNames.cls 3) (hr : meth.sig.returnType = none) (hlk : meth.locks = false) (hnm : meth.name = yX8_bindNames.name) (hk2 : ∀ (x0 : Nat) (x1 : Int32) (h : Hp) (H : Heap) (locs : List Loc) (ls : Array Slot), lv_has ls 3 [(0, rv x0), (1, .int x1)] → St E A s h H locs → k2 x0 x1 h = some h9 → W p l e R s m args below meth c H locs 0 0 (MQ below (Qv E A h9) args s 0 0 A) (F0 m 2 ls [])) :
    ∀ (x0 : Nat) (x1 : Int32) (h : Hp) (H : Heap) (locs : List Loc) (ls : Array Slot), lv_has ls 3 [(0, rv x0), (1, .int x1)] → St E A s h H locs → fX8_bindNames_2 k2 x0 x1 h = some h9 → W p l e R s m args below meth c H locs 0 0 (MQ below (Qv E A h9) args s 0 0 A) (F0 m 2 ls []) := by
  intro x0 x1 h H locs ls hl S hf
  unfold fX8_bindNames_2 at hf
  refine lv_iload_n X.1 X.2.1 dX8_bindNames_2 rfl (lv_at hl 1 rfl) ?_
  refine g_aload_n X (or_rv _) dX8_bindNames_3 rfl (lv_at hl 0 rfl) ?_
  refine g_gR X S foX8_28 dX8_bindNames_4 hf (fun v1 hf => ?_)
  obtain ⟨v2, hc, hf⟩ := ob_some hf
  refine g_ci S (runV (As := []) (rest := [.int x1]) X S coX8_153 (by decide) (cX6_size_m l hc) (tkX6_size hc) rfl hl.1 (by simp [cat_rv, cat_wv, cat_sv, cat_i, cat_l, cat_a]) rfl ⟨Nat.zero_le _, Nat.zero_le _⟩ dX8_bindNames_7) (fun H locs S => ?_)
  refine lv_icmp_ge (tgt := 96) X.1 X.2.1 dX8_bindNames_10 (by decide) (fun c3 => ?_) (fun c3 => ?_)
  · replace hf := (if_pos c3).symm.trans hf
    cases hf; exact g_rv X S hr hlk dX8_bindNames_96
  · replace hf := (if_neg c3).symm.trans hf
    refine lv_iload_n X.1 X.2.1 dX8_bindNames_13 rfl (lv_at hl 1 rfl) ?_
    refine g_aload_n X (or_rv _) dX8_bindNames_14 rfl (lv_at hl 0 rfl) ?_
    refine g_gR X S foX8_17 dX8_bindNames_15 hf (fun v4 hf => ?_)
    refine g_aN X S (by decide) dX8_bindNames_18 hf (fun v5 hf => ?_)
    refine lv_icmp_ge (tgt := 96) X.1 X.2.1 dX8_bindNames_19 (by decide) (fun c6 => ?_) (fun c6 => ?_)
    · replace hf := (if_pos c6).symm.trans hf
      cases hf; exact g_rv X S hr hlk dX8_bindNames_96
    · replace hf := (if_neg c6).symm.trans hf
      refine g_aload_n X (or_rv _) dX8_bindNames_22 rfl (lv_at hl 0 rfl) ?_
      refine g_gI X S foX8_45 rfl dX8_bindNames_23 hf (fun v7 hf => ?_)
      refine lv_if_ne (tgt := 96) X.1 X.2.1 dX8_bindNames_26 (by decide) (fun c8 => ?_) (fun c8 => ?_)
      · replace hf := (if_neg c8).symm.trans hf
        cases hf; exact g_rv X S hr hlk dX8_bindNames_96
      · replace hf := (if_pos c8).symm.trans hf
        refine g_aload_n X (or_rv _) dX8_bindNames_29 rfl (lv_at hl 0 rfl) ?_
        refine g_gR X S foX8_28 dX8_bindNames_30 hf (fun v9 hf => ?_)
        refine lv_iload_n X.1 X.2.1 dX8_bindNames_33 rfl (lv_at hl 1 rfl) ?_
        obtain ⟨v10, hc, hf⟩ := ob_some hf
        refine g_cq S (runV (As := [.int x1]) (rest := []) X S coX8_209 (by decide) (cX6_told_m l hc) (tkX6_told hc) rfl hl.1 (by decide) rfl ⟨Nat.zero_le _, Nat.zero_le _⟩ dX8_bindNames_34) (fun H locs S => ?_)
        change W _ _ _ _ _ _ _ _ _ _ _ _ _ _ _ (F0 _ _ _ (rv v10 :: _))
        refine g_astore_n (i := 2) (lv' := [(2, rv v10), (0, rv x0), (1, .int x1)]) X (or_rv _) dX8_bindNames_37 rfl hl (by decide) rfl (fun ls hl => ?_)
        refine g_aload_n X (or_rv _) dX8_bindNames_38 rfl (lv_at hl 0 rfl) ?_
        refine g_ifnull (tgt := 90) X dX8_bindNames_39 (by decide) (fun c11 => ?_) (fun c11 => ?_)
        · replace hf := (if_pos c11).symm.trans hf
          obtain ⟨z12, ez12, hf⟩ := lt_some hf
          refine lv_iinc (v := z12) (lv' := [(1, .int z12), (2, rv v10), (0, rv x0)]) X.1 X.2.1 dX8_bindNames_90 hl (k := 2) rfl (by rw [← ez12]; rfl) (by decide) (by simp [List.filter, cat_rv, cat_wv, cat_sv]) (fun ls hl => ?_)
          refine lv_goto (tgt := 2) X.1 X.2.1 dX8_bindNames_93 (by decide) ?_
          exact hk2 _ _ _ _ _ _ (lv_sub hl [2, 0] rfl) S hf
        · replace hf := (if_neg c11).symm.trans hf
          refine g_aload_n X (or_rv _) dX8_bindNames_42 rfl (lv_at hl 1 rfl) ?_
          refine g_gR X S foX8_17 dX8_bindNames_43 hf (fun v13 hf => ?_)
          refine lv_iload_n X.1 X.2.1 dX8_bindNames_46 rfl (lv_at hl 2 rfl) ?_
          refine g_aL X S dX8_bindNames_47 hf (fun v14 hf => ?_)
          refine lv_lconst (v := 0) X.1 X.2.1 dX8_bindNames_48 (by decide) ?_
          refine W.lcmp X.1 X.2.1 dX8_bindNames_49 ?_
          refine lv_if_eq (tgt := 90) X.1 X.2.1 dX8_bindNames_50 (by decide) (fun c15 => ?_) (fun c15 => ?_)
          · replace hf := (if_pos c15).symm.trans hf
            obtain ⟨z16, ez16, hf⟩ := lt_some hf
            refine lv_iinc (v := z16) (lv' := [(1, .int z16), (2, rv v10), (0, rv x0)]) X.1 X.2.1 dX8_bindNames_90 hl (k := 2) rfl (by rw [← ez16]; rfl) (by decide) (by simp [List.filter, cat_rv, cat_wv, cat_sv]) (fun ls hl => ?_)
            refine lv_goto (tgt := 2) X.1 X.2.1 dX8_bindNames_93 (by decide) ?_
            exact hk2 _ _ _ _ _ _ (lv_sub hl [2, 0] rfl) S hf
          · replace hf := (if_neg c15).symm.trans hf
            refine g_aload_n X (or_rv _) dX8_bindNames_53 rfl (lv_at hl 0 rfl) ?_
            refine g_aload_n X (or_rv _) dX8_bindNames_54 rfl (lv_at hl 1 rfl) ?_
            refine g_aload_n X (or_rv _) dX8_bindNames_55 rfl (lv_at hl 1 rfl) ?_
            refine g_gR X S foX8_17 dX8_bindNames_56 hf (fun v17 hf => ?_)
            refine lv_iload_n X.1 X.2.1 dX8_bindNames_59 rfl (lv_at hl 2 rfl) ?_
            refine g_aL X S dX8_bindNames_60 hf (fun v18 hf => ?_)
            obtain ⟨v19, hc, hf⟩ := ob_some hf
            refine g_ci S (runV (As := [.long v18]) (rest := [rv v10]) X S coX8_145 (by decide) (cX8_named_m l hc) (tkX8_named hc) rfl hl.1 (by simp [cat_rv, cat_wv, cat_sv, cat_i, cat_l, cat_a]) rfl ⟨Nat.zero_le _, Nat.zero_le _⟩ dX8_bindNames_61) (fun H locs S => ?_)
            refine g_pI X S fpX8_213 (Or.inl rfl) dX8_bindNames_64 hf (fun h H locs hm hf S => ?_)
            refine g_aload_n X (or_rv _) dX8_bindNames_67 rfl (lv_at hl 0 rfl) ?_
            refine g_gI X S foX8_213 rfl dX8_bindNames_68 hf (fun v20 hf => ?_)
            refine lv_iconst (v := (-1)) X.1 X.2.1 dX8_bindNames_71 (by decide) ?_
            refine lv_icmp_ne (tgt := 90) X.1 X.2.1 dX8_bindNames_72 (by decide) (fun c21 => ?_) (fun c21 => ?_)
            · replace hf := (if_neg c21).symm.trans hf
              obtain ⟨z22, ez22, hf⟩ := lt_some hf
              refine lv_iinc (v := z22) (lv' := [(1, .int z22), (2, rv v10), (0, rv x0)]) X.1 X.2.1 dX8_bindNames_90 hl (k := 2) rfl (by rw [← ez22]; rfl) (by decide) (by simp [List.filter, cat_rv, cat_wv, cat_sv]) (fun ls hl => ?_)
              refine lv_goto (tgt := 2) X.1 X.2.1 dX8_bindNames_93 (by decide) ?_
              exact hk2 _ _ _ _ _ _ (lv_sub hl [2, 0] rfl) S hf
            · replace hf := (if_pos c21).symm.trans hf
              refine g_aload_n X (or_rv _) dX8_bindNames_75 rfl (lv_at hl 1 rfl) ?_
              refine lv_iconst (v := 3) X.1 X.2.1 dX8_bindNames_76 (by decide) ?_
              refine g_pI X S fpX8_45 (Or.inl rfl) dX8_bindNames_77 hf (fun h H locs hm hf S => ?_)
              refine g_aload_n X (or_rv _) dX8_bindNames_80 rfl (lv_at hl 1 rfl) ?_
              refine g_aload_n X (or_rv _) dX8_bindNames_81 rfl (lv_at hl 1 rfl) ?_
              refine g_gR X S foX8_20 dX8_bindNames_82 hf (fun v23 hf => ?_)
              refine lv_iload_n X.1 X.2.1 dX8_bindNames_85 rfl (lv_at hl 2 rfl) ?_
              refine g_aI X S dX8_bindNames_86 hf (fun v24 hf => ?_)
              refine g_pI X S fpX8_63 (Or.inl rfl) dX8_bindNames_87 hf (fun h H locs hm hf S => ?_)
              obtain ⟨z25, ez25, hf⟩ := lt_some hf
              refine lv_iinc (v := z25) (lv' := [(1, .int z25), (2, rv v10), (0, rv x0)]) X.1 X.2.1 dX8_bindNames_90 hl (k := 2) rfl (by rw [← ez25]; rfl) (by decide) (by simp [List.filter, cat_rv, cat_wv, cat_sv]) (fun ls hl => ?_)
              refine lv_goto (tgt := 2) X.1 X.2.1 dX8_bindNames_93 (by decide) ?_
              exact hk2 _ _ _ _ _ _ (lv_sub hl [2, 0] rfl) S hf
theorem wfX8_bindNames_2_l {h9 : Hp} (X : Cx p E A 10 R s m args c cX8_bindNames yX8_bindNames.cls 3) (hr : meth.sig.returnType = none) (hlk : meth.locks = false) (hnm : meth.name = yX8_bindNames.name) :
    ∀ (n : Nat) (x0 : Nat) (x1 : Int32) (h : Hp) (H : Heap) (locs : List Loc) (ls : Array Slot), lv_has ls 3 [(0, rv x0), (1, .int x1)] → St E A s h H locs → lp (fun _ _ _ => none) (fX8_bindNames_2) n x0 x1 h = some h9 → W p l e R s m args below meth c H locs 0 0 (MQ below (Qv E A h9) args s 0 0 A) (F0 m 2 ls []) := by
  intro n
  induction n with
  | zero =>
    intro x0 x1 h H locs ls hl S hf
    exact nomatch hf
  | succ n ih =>
    intro x0 x1 h H locs ls hl S hf
    exact wfX8_bindNames_2 X hr hlk hnm ih x0 x1 h H locs ls hl S hf
def fX8_bindNames (a0 : Nat) (h : Hp) : Option (Hp) := gd 7 a0 h (lp (fun _ _ _ => none) (fX8_bindNames_2) FU a0 0 h)
theorem tkX8_bindNames {a0 : Nat} {h : Hp} {r9 : Hp} (e : fX8_bindNames a0 h = some r9) : hK h a0 = 7 := by
  unfold fX8_bindNames at e
  exact (gd_some e).1
theorem cX8_bindNames_m (l : Launch) {E : EE} {A : Nat → Prop} {a0 : Nat} {h : Hp} {h9 : Hp} (hf : fX8_bindNames a0 h = some h9) : Met l yX8_bindNames (wsM yX8_bindNames cX8_bindNames 3 none) (rmm 10 0 0) (PcE E A h [rv a0]) (Qv E A h9) 0 0 A := by
  refine met_of (by decide +kernel) (by simp [lg_sl, cat_rv, cat_wv, cat_sv, cat_i, cat_l, cat_a]) (fun p e s m args below meth c ls X hr hlk hnm S hl => ?_)
  have hl : lv_has ls 3 [(0, rv a0)] := by simpa [lv_args, cat_rv, cat_wv, cat_sv, cat_i, cat_l, cat_a] using hl
  generalize hH : s.heap = H at S ⊢
  generalize hlo : ([] : List Loc) = locs at S ⊢
  clear hH hlo
  unfold fX8_bindNames at hf
  obtain ⟨hth, hf⟩ := gd_some hf
  refine lv_iconst (v := 0) X.1 X.2.1 dX8_bindNames_0 (by decide) ?_
  refine lv_istore_n (i := 1) (lv' := [(1, .int 0), (0, rv a0)]) X.1 X.2.1 dX8_bindNames_1 rfl hl (by decide) (by simp [List.filter, cat_rv, cat_wv, cat_sv]) (fun ls hl => ?_)
  exact wfX8_bindNames_2_l X hr hlk hnm FU _ _ _ _ _ _ (lv_sub hl [1, 0] rfl) S hf
def fX8_parse_81 (x0 : Nat) (h : Hp) : Option (Int32 × Hp) := ob (gI 7 x0 10 h) fun v1 => if v1 = 0 then obk h (fX8_bindNames x0 h) fun h => ob (gI 7 x0 10 h) fun v5 => some (v5, h) else ob (gI 7 x0 10 h) fun v3 => some (v3, h)
theorem wfX8_parse_81 {h0 : Hp} {r9 : Int32} {h9 : Hp} (X : Cx p E A 14 R s m args c cX8_parse yX8_parse.cls 5) (hr : meth.sig.returnType = (some .int)) (hlk : meth.locks = false) (hnm : meth.name = yX8_parse.name) :
    ∀ (x0 : Nat) (h : Hp) (H : Heap) (locs : List Loc) (ls : Array Slot) (cells slots : Nat), lv_has ls 5 [(0, rv x0)] → St E A s h H locs → AlI R s h0 h cells slots → fX8_parse_81 x0 h = some (r9, h9) → W p l e R s m args below meth c H locs cells slots (MQ below (QG (Qi E A h9 r9) h0 h9) args s R.cells R.slots A) (F0 m 81 ls []) := by
  intro x0 h H locs ls cells slots hl S AI hf
  unfold fX8_parse_81 at hf
  refine g_aload_n X (or_rv _) dX8_parse_81 rfl (lv_at hl 0 rfl) ?_
  refine g_gI X S foX8_45 rfl dX8_parse_82 hf (fun v1 hf => ?_)
  refine lv_if_ne (tgt := 92) X.1 X.2.1 dX8_parse_85 (by decide) (fun c2 => ?_) (fun c2 => ?_)
  · replace hf := (if_neg c2).symm.trans hf
    refine g_aload_n X (or_rv _) dX8_parse_92 rfl (lv_at hl 0 rfl) ?_
    refine g_gI X S foX8_45 rfl dX8_parse_93 hf (fun v3 hf => ?_)
    cases hf; exact g_riA X S AI hr hlk dX8_parse_96
  · replace hf := (if_pos c2).symm.trans hf
    refine g_aload_n X (or_rv _) dX8_parse_88 rfl (lv_at hl 0 rfl) ?_
    obtain ⟨h, hc, hok, hf⟩ := obk_some hf
    refine g_cv S (runV (As := []) (rest := []) X S coX8_60 (by decide) (cX8_bindNames_m l hc) (tkX8_bindNames hc) rfl hl.1 (by decide) rfl AI.fit dX8_parse_89) (fun H locs S => ?_)
    replace AI := AI.kc hok
    refine g_aload_n X (or_rv _) dX8_parse_92 rfl (lv_at hl 0 rfl) ?_
    refine g_gI X S foX8_45 rfl dX8_parse_93 hf (fun v5 hf => ?_)
    cases hf; exact g_riA X S AI hr hlk dX8_parse_96
def fX8_parse_47 (k47 : Nat → Int32 → Hp → Option (Int32 × Hp)) (x0 : Nat) (x4 : Int32) (h : Hp) : Option (Int32 × Hp) := ob (gI 7 x0 4 h) fun v1 => if v1 < x4 then fX8_parse_81 x0 h else ob (gI 7 x0 10 h) fun v3 => if v3 = 0 then ob (gI 7 x0 6 h) fun v5 => if v5 = 5 then fX8_parse_81 x0 h else oba h (fX8_readLine x0 h) fun h => lt (x4 + 1) fun z8 => k47 x0 z8 h else fX8_parse_81 x0 h
theorem wfX8_parse_47 {h0 : Hp} {k47 : Nat → Int32 → Hp → Option (Int32 × Hp)} {r9 : Int32} {h9 : Hp} (X : Cx p E A 14 R s m args c cX8_parse yX8_parse.cls 5) (hr : meth.sig.returnType = (some .int)) (hlk : meth.locks = false) (hnm : meth.name = yX8_parse.name) (hk47 : ∀ (x0 : Nat) (x4 : Int32) (h : Hp) (H : Heap) (locs : List Loc) (ls : Array Slot) (cells slots : Nat), lv_has ls 5 [(0, rv x0), (4, .int x4)] → St E A s h H locs → AlI R s h0 h cells slots → k47 x0 x4 h = some (r9, h9) → W p l e R s m args below meth c H locs cells slots (MQ below (QG (Qi E A h9 r9) h0 h9) args s R.cells R.slots A) (F0 m 47 ls [])) :
    ∀ (x0 : Nat) (x4 : Int32) (h : Hp) (H : Heap) (locs : List Loc) (ls : Array Slot) (cells slots : Nat), lv_has ls 5 [(0, rv x0), (4, .int x4)] → St E A s h H locs → AlI R s h0 h cells slots → fX8_parse_47 k47 x0 x4 h = some (r9, h9) → W p l e R s m args below meth c H locs cells slots (MQ below (QG (Qi E A h9 r9) h0 h9) args s R.cells R.slots A) (F0 m 47 ls []) := by
  intro x0 x4 h H locs ls cells slots hl S AI hf
  unfold fX8_parse_47 at hf
  refine lv_iload X.1 X.2.1 dX8_parse_47 (lv_at hl 1 rfl) ?_
  refine g_aload_n X (or_rv _) dX8_parse_49 rfl (lv_at hl 0 rfl) ?_
  refine g_gI X S foX8_38 rfl dX8_parse_50 hf (fun v1 hf => ?_)
  refine lv_icmp_gt (tgt := 81) X.1 X.2.1 dX8_parse_53 (by decide) (fun c2 => ?_) (fun c2 => ?_)
  · replace hf := (if_pos c2).symm.trans hf
    exact wfX8_parse_81 X hr hlk hnm _ _ _ _ _ _ _ (lv_sub hl [0] rfl) S AI hf
  · replace hf := (if_neg c2).symm.trans hf
    refine g_aload_n X (or_rv _) dX8_parse_56 rfl (lv_at hl 0 rfl) ?_
    refine g_gI X S foX8_45 rfl dX8_parse_57 hf (fun v3 hf => ?_)
    refine lv_if_ne (tgt := 81) X.1 X.2.1 dX8_parse_60 (by decide) (fun c4 => ?_) (fun c4 => ?_)
    · replace hf := (if_neg c4).symm.trans hf
      exact wfX8_parse_81 X hr hlk hnm _ _ _ _ _ _ _ (lv_sub hl [0] rfl) S AI hf
    · replace hf := (if_pos c4).symm.trans hf
      refine g_aload_n X (or_rv _) dX8_parse_63 rfl (lv_at hl 0 rfl) ?_
      refine g_gI X S foX8_54 rfl dX8_parse_64 hf (fun v5 hf => ?_)
      refine lv_iconst (v := 5) X.1 X.2.1 dX8_parse_67 (by decide) ?_
      refine lv_icmp_eq (tgt := 81) X.1 X.2.1 dX8_parse_68 (by decide) (fun c6 => ?_) (fun c6 => ?_)
      · replace hf := (if_pos c6).symm.trans hf
        exact wfX8_parse_81 X hr hlk hnm _ _ _ _ _ _ _ (lv_sub hl [0] rfl) S AI hf
      · replace hf := (if_neg c6).symm.trans hf
        refine g_aload_n X (or_rv _) dX8_parse_71 rfl (lv_at hl 0 rfl) ?_
        obtain ⟨h, hc, hok, hf⟩ := oba_some hf
        refine g_cvA S AI hok (fun hsz => runVF (As := []) (rest := []) X S hsz coX8_57 (by decide) (cX8_readLine_m l AI.mcs.1 AI.mcs.2 hc) (tkX8_readLine hc) rfl hl.1 (by decide) rfl AI.room dX8_parse_72) (fun H locs cells slots S AI => ?_)
        obtain ⟨z8, ez8, hf⟩ := lt_some hf
        refine lv_iinc (v := z8) (lv' := [(4, .int z8), (0, rv x0)]) X.1 X.2.1 dX8_parse_75 hl (k := 1) rfl (by rw [← ez8]; rfl) (by decide) rfl (fun ls hl => ?_)
        refine lv_goto (tgt := 47) X.1 X.2.1 dX8_parse_78 (by decide) ?_
        exact hk47 _ _ _ _ _ _ _ _ (lv_sub hl [1, 0] rfl) S AI hf
theorem wfX8_parse_47_l {h0 : Hp} {r9 : Int32} {h9 : Hp} (X : Cx p E A 14 R s m args c cX8_parse yX8_parse.cls 5) (hr : meth.sig.returnType = (some .int)) (hlk : meth.locks = false) (hnm : meth.name = yX8_parse.name) :
    ∀ (n : Nat) (x0 : Nat) (x4 : Int32) (h : Hp) (H : Heap) (locs : List Loc) (ls : Array Slot) (cells slots : Nat), lv_has ls 5 [(0, rv x0), (4, .int x4)] → St E A s h H locs → AlI R s h0 h cells slots → lp (fun _ _ _ => none) (fX8_parse_47) n x0 x4 h = some (r9, h9) → W p l e R s m args below meth c H locs cells slots (MQ below (QG (Qi E A h9 r9) h0 h9) args s R.cells R.slots A) (F0 m 47 ls []) := by
  intro n
  induction n with
  | zero =>
    intro x0 x4 h H locs ls cells slots hl S AI hf
    exact nomatch hf
  | succ n ih =>
    intro x0 x4 h H locs ls cells slots hl S AI hf
    exact wfX8_parse_47 X hr hlk hnm ih x0 x4 h H locs ls cells slots hl S AI hf
def fX8_parse (a0 : Nat) (a1 : Nat) (a2 : Int32) (a3 : Nat) (h : Hp) : Option (Int32 × Hp) := gd 7 a0 h (ob (pR 7 a0 3 a1 h) fun h => ob (gR 7 a0 3 h) fun v1 => ob (aN 101 v1 h) fun v2 => ob (pI 7 a0 4 (imin a2 v2) h) fun h => ob (pR 7 a0 5 a3 h) fun h => ob (gR 7 a0 5 h) fun v3 => obk h (fX6_clear v3 h) fun h => ob (pI 7 a0 10 0 h) fun h => ob (pI 7 a0 9 0 h) fun h => obk h (fX8_advance a0 h) fun h => lp (fun _ _ _ => none) (fX8_parse_47) FU a0 0 h)
theorem tkX8_parse {a0 : Nat} {a1 : Nat} {a2 : Int32} {a3 : Nat} {h : Hp} {r9 : Int32 × Hp} (e : fX8_parse a0 a1 a2 a3 h = some r9) : hK h a0 = 7 := by
  unfold fX8_parse at e
  exact (gd_some e).1
theorem cX8_parse_m (l : Launch) {E : EE} {A : Nat → Prop} {a0 : Nat} {a1 : Nat} {a2 : Int32} {a3 : Nat} {h : Hp} {r9 : Int32} {h9 : Hp} {mc ms : Nat} (hmc : mc + hX h = hC h) (hms : ms + hU h = hZ h) (hf : fX8_parse a0 a1 a2 a3 h = some (r9, h9)) : Met l yX8_parse (wsM yX8_parse cX8_parse 5 (some .int)) (rmm 14 mc ms) (PcF E A h [rv a0, rv a1, .int a2, rv a3]) (QG (Qi E A h9 r9) h h9) mc ms A := by
  refine met_ofA (by decide +kernel) (by simp [lg_sl, cat_rv, cat_wv, cat_sv, cat_i, cat_l, cat_a]) hmc hms (fun p e s m args below meth c ls X hr hlk hnm S AI hl => ?_)
  have hl : lv_has ls 5 [(0, rv a0), (1, rv a1), (2, .int a2), (3, rv a3)] := by simpa [lv_args, cat_rv, cat_wv, cat_sv, cat_i, cat_l, cat_a] using hl
  generalize hH : s.heap = H at S ⊢
  generalize hlo : ([] : List Loc) = locs at S ⊢
  clear hH hlo
  unfold fX8_parse at hf
  obtain ⟨hth, hf⟩ := gd_some hf
  refine g_aload_n X (or_rv _) dX8_parse_0 rfl (lv_at hl 0 rfl) ?_
  refine g_aload_n X (or_rv _) dX8_parse_1 rfl (lv_at hl 1 rfl) ?_
  refine g_pR X S fpX8_24 (Or.inr ⟨_, rfl⟩) (Or.inl rfl) dX8_parse_2 hf (fun h H locs hm hf S => ?_)
  replace AI := AI.sm hm
  refine g_aload_n X (or_rv _) dX8_parse_5 rfl (lv_at hl 0 rfl) ?_
  refine lv_iload_n X.1 X.2.1 dX8_parse_6 rfl (lv_at hl 2 rfl) ?_
  refine g_aload_n X (or_rv _) dX8_parse_7 rfl (lv_at hl 0 rfl) ?_
  refine g_gR X S foX8_24 dX8_parse_8 hf (fun v1 hf => ?_)
  refine g_aN X S (by decide) dX8_parse_11 hf (fun v2 hf => ?_)
  refine g_min (rest := [rv a0]) X hl.1 (by decide) (by simp [cat_rv, cat_wv, cat_sv, cat_i, cat_l, cat_a]) mlX8_32 u_min_s u_math u_min_c AI.fit.1 AI.fit.2 dX8_parse_12 ?_
  refine g_pI X S fpX8_38 (Or.inl rfl) dX8_parse_15 hf (fun h H locs hm hf S => ?_)
  replace AI := AI.sm hm
  refine g_aload_n X (or_rv _) dX8_parse_18 rfl (lv_at hl 0 rfl) ?_
  refine g_aload_n X (or_rv _) dX8_parse_19 rfl (lv_at hl 3 rfl) ?_
  refine g_pR X S fpX8_28 (Or.inl ⟨_, rfl⟩) (Or.inl rfl) dX8_parse_20 hf (fun h H locs hm hf S => ?_)
  replace AI := AI.sm hm
  refine g_aload_n X (or_rv _) dX8_parse_23 rfl (lv_at hl 0 rfl) ?_
  refine g_gR X S foX8_28 dX8_parse_24 hf (fun v3 hf => ?_)
  obtain ⟨h, hc, hok, hf⟩ := obk_some hf
  refine g_cv S (runV (As := []) (rest := []) X S coX8_42 (by decide) (cX6_clear_m l hc) (tkX6_clear hc) rfl hl.1 (by decide) rfl AI.fit dX8_parse_27) (fun H locs S => ?_)
  replace AI := AI.kc hok
  refine g_aload_n X (or_rv _) dX8_parse_30 rfl (lv_at hl 0 rfl) ?_
  refine lv_iconst (v := 0) X.1 X.2.1 dX8_parse_31 (by decide) ?_
  refine g_pI X S fpX8_45 (Or.inl rfl) dX8_parse_32 hf (fun h H locs hm hf S => ?_)
  replace AI := AI.sm hm
  refine g_aload_n X (or_rv _) dX8_parse_35 rfl (lv_at hl 0 rfl) ?_
  refine lv_iconst (v := 0) X.1 X.2.1 dX8_parse_36 (by decide) ?_
  refine g_pI X S fpX8_48 (Or.inl rfl) dX8_parse_37 hf (fun h H locs hm hf S => ?_)
  replace AI := AI.sm hm
  refine g_aload_n X (or_rv _) dX8_parse_40 rfl (lv_at hl 0 rfl) ?_
  obtain ⟨h, hc, hok, hf⟩ := obk_some hf
  refine g_cv S (runV (As := []) (rest := []) X S coX8_51 (by decide) (cX8_advance_m l hc) (tkX8_advance hc) rfl hl.1 (by decide) rfl AI.fit dX8_parse_41) (fun H locs S => ?_)
  replace AI := AI.kc hok
  refine lv_iconst (v := 0) X.1 X.2.1 dX8_parse_44 (by decide) ?_
  refine lv_istore (lv' := [(4, .int 0), (0, rv a0), (1, rv a1), (2, .int a2), (3, rv a3)]) X.1 X.2.1 dX8_parse_45 hl (by decide) (by simp [List.filter, cat_rv, cat_wv, cat_sv]) (fun ls hl => ?_)
  exact wfX8_parse_47_l X hr hlk hnm FU _ _ _ _ _ _ _ _ (lv_sub hl [1, 0] rfl) S AI hf
def fX8_faultPlace (a0 : Nat) (h : Hp) : Option (Int32) := gd 7 a0 h (ob (gI 7 a0 11 h) fun v1 => some v1)
theorem tkX8_faultPlace {a0 : Nat} {h : Hp} {r9 : Int32} (e : fX8_faultPlace a0 h = some r9) : hK h a0 = 7 := by
  unfold fX8_faultPlace at e
  exact (gd_some e).1
theorem cX8_faultPlace_m (l : Launch) {E : EE} {A : Nat → Prop} {a0 : Nat} {h : Hp} {r9 : Int32} (hf : fX8_faultPlace a0 h = some r9) : Met l yX8_faultPlace (wsM yX8_faultPlace cX8_faultPlace 1 (some .int)) (rmm 8 0 0) (PcE E A h [rv a0]) (Qi E A h r9) 0 0 A := by
  refine met_of (by decide +kernel) (by simp [lg_sl, cat_rv, cat_wv, cat_sv, cat_i, cat_l, cat_a]) (fun p e s m args below meth c ls X hr hlk hnm S hl => ?_)
  have hl : lv_has ls 1 [(0, rv a0)] := by simpa [lv_args, cat_rv, cat_wv, cat_sv, cat_i, cat_l, cat_a] using hl
  generalize hH : s.heap = H at S ⊢
  generalize hlo : ([] : List Loc) = locs at S ⊢
  clear hH hlo
  unfold fX8_faultPlace at hf
  obtain ⟨hth, hf⟩ := gd_some hf
  refine g_aload_n X (or_rv _) dX8_faultPlace_0 rfl (lv_at hl 0 rfl) ?_
  refine g_gI X S foX8_63 rfl dX8_faultPlace_1 hf (fun v1 hf => ?_)
  cases hf; exact g_ri X S hr hlk dX8_faultPlace_4
end GM
