section GM
variable {p : Program} {l : Launch} {e : Env} {R : Room} {s : State} {m : MethodId} {args : Array Value} {below : List Frame} {meth : Method} {c : Code} {E : EE} {A : Nat → Prop}
def fX6_init (a0 : Nat) (h : Hp) : Option (Hp) := gd 6 a0 h (ob2 (newA 104 4 60 h) fun p1 h => ob (pR 6 a0 0 p1 h) fun h => ob2 (newA 101 4 256 h) fun p2 h => ob (pR 6 a0 1 p2 h) fun h => some h)
theorem tkX6_init {a0 : Nat} {h : Hp} {r9 : Hp} (e : fX6_init a0 h = some r9) : hK h a0 = 6 := by
  unfold fX6_init at e
  exact (gd_some e).1
theorem cX6_init_m (l : Launch) {E : EE} {A : Nat → Prop} {a0 : Nat} {h : Hp} {h9 : Hp} {mc ms : Nat} (hmc : mc + hX h = hC h) (hms : ms + hU h = hZ h) (hf : fX6_init a0 h = some h9) : Met l yX6_init (wsM yX6_init cX6_init 1 none) (rmm 8 mc ms) (PcF E A h [rv a0]) (QG (Qv E A h9) h h9) mc ms A := by
  refine met_ofA (by decide +kernel) (by simp [lg_sl, cat_rv, cat_wv, cat_sv, cat_i, cat_l, cat_a]) hmc hms (fun p e s m args below meth c ls X hr hlk hnm S AI hl => ?_)
  have hl : lv_has ls 1 [(0, rv a0)] := by simpa [lv_args, cat_rv, cat_wv, cat_sv, cat_i, cat_l, cat_a] using hl
  generalize hH : s.heap = H at S ⊢
  generalize hlo : ([] : List Loc) = locs at S ⊢
  clear hH hlo
  unfold fX6_init at hf
  obtain ⟨hth, hf⟩ := gd_some hf
  refine g_aload_n X (or_rv _) dX6_init_0 rfl (lv_at hl 0 rfl) ?_
  refine g_oi (rest := []) X S hl.1 oiX6_1 dX6_init_1 (by decide) (by decide) (dom_ne S.1.1 hth (by decide)) ?_
  refine g_aload_n X (or_rv _) dX6_init_4 rfl (lv_at hl 0 rfl) ?_
  refine lv_bipush (v := 60) X.1 X.2.1 dX6_init_5 (by decide) ?_
  refine g_newQ (t0 := 3) X S AI ⟨by decide, rfl⟩ (Kon.ao104 X.2.2.2.2.2.2.2.1) clX6_9 dX6_init_7 hf (fun p1 h H cells slots hf S AI => ?_)
  refine g_pR X S fpX6_11 (Or.inr ⟨_, rfl⟩) (Or.inr hnm) dX6_init_10 hf (fun h H locs hm hf S => ?_)
  replace AI := AI.sm hm
  refine g_aload_n X (or_rv _) dX6_init_13 rfl (lv_at hl 0 rfl) ?_
  refine lv_sipush (v := 256) X.1 X.2.1 dX6_init_14 (by decide) ?_
  refine g_newI X S AI dX6_init_17 hf (fun p2 h H cells slots hf S AI => ?_)
  refine g_pR X S fpX6_17 (Or.inr ⟨_, rfl⟩) (Or.inr hnm) dX6_init_19 hf (fun h H locs hm hf S => ?_)
  replace AI := AI.sm hm
  cases hf; exact g_rvA X S AI hr hlk dX6_init_22
def fX10_clearGuards_4 (k4 : Nat → Int32 → Hp → Option (Hp)) (x0 : Nat) (x1 : Int32) (h : Hp) : Option (Hp) := if 276 ≤ x1 then ob (gR 9 x0 0 h) fun v2 => ob (qI v2 266 (-1) h) fun h => some h else ob (gR 9 x0 0 h) fun v3 => ob (qI v3 x1 (-1) h) fun h => lt (x1 + 1) fun z4 => k4 x0 z4 h
theorem wfX10_clearGuards_4 {k4 : Nat → Int32 → Hp → Option (Hp)} {h9 : Hp} (X : Cx p E A 8 R s m args c cX10_clearGuards yX10_clearGuards.cls 2) (hr : meth.sig.returnType = none) (hlk : meth.locks = false) (hnm : meth.name = yX10_clearGuards.name) (hk4 : ∀ (x0 : Nat) (x1 : Int32) (h : Hp) (H : Heap) (locs : List Loc) (ls : Array Slot), lv_has ls 2 [(0, rv x0), (1, .int x1)] → St E A s h H locs → k4 x0 x1 h = some h9 → W p l e R s m args below meth c H locs 0 0 (MQ below (Qv E A h9) args s 0 0 A) (F0 m 4 ls [])) :
    ∀ (x0 : Nat) (x1 : Int32) (h : Hp) (H : Heap) (locs : List Loc) (ls : Array Slot), lv_has ls 2 [(0, rv x0), (1, .int x1)] → St E A s h H locs → fX10_clearGuards_4 k4 x0 x1 h = some h9 → W p l e R s m args below meth c H locs 0 0 (MQ below (Qv E A h9) args s 0 0 A) (F0 m 4 ls []) := by
  intro x0 x1 h H locs ls hl S hf
  unfold fX10_clearGuards_4 at hf
  refine lv_iload_n X.1 X.2.1 dX10_clearGuards_4 rfl (lv_at hl 1 rfl) ?_
  refine lv_sipush (v := 276) X.1 X.2.1 dX10_clearGuards_5 (by decide) ?_
  refine lv_icmp_ge (tgt := 24) X.1 X.2.1 dX10_clearGuards_8 (by decide) (fun c1 => ?_) (fun c1 => ?_)
  · replace hf := (if_pos c1).symm.trans hf
    refine g_aload_n X (or_rv _) dX10_clearGuards_24 rfl (lv_at hl 0 rfl) ?_
    refine g_gR X S foX10_13 dX10_clearGuards_25 hf (fun v2 hf => ?_)
    refine lv_sipush (v := 266) X.1 X.2.1 dX10_clearGuards_28 (by decide) ?_
    refine lv_iconst (v := (-1)) X.1 X.2.1 dX10_clearGuards_31 (by decide) ?_
    refine g_qI X S dX10_clearGuards_32 hf (fun h H locs hm hf S => ?_)
    cases hf; exact g_rv X S hr hlk dX10_clearGuards_33
  · replace hf := (if_neg c1).symm.trans hf
    refine g_aload_n X (or_rv _) dX10_clearGuards_11 rfl (lv_at hl 0 rfl) ?_
    refine g_gR X S foX10_13 dX10_clearGuards_12 hf (fun v3 hf => ?_)
    refine lv_iload_n X.1 X.2.1 dX10_clearGuards_15 rfl (lv_at hl 1 rfl) ?_
    refine lv_iconst (v := (-1)) X.1 X.2.1 dX10_clearGuards_16 (by decide) ?_
    refine g_qI X S dX10_clearGuards_17 hf (fun h H locs hm hf S => ?_)
    obtain ⟨z4, ez4, hf⟩ := lt_some hf
    refine lv_iinc (v := z4) (lv' := [(1, .int z4), (0, rv x0)]) X.1 X.2.1 dX10_clearGuards_18 hl (k := 1) rfl (by rw [← ez4]; rfl) (by decide) (by simp [List.filter, cat_rv, cat_wv, cat_sv]) (fun ls hl => ?_)
    refine lv_goto (tgt := 4) X.1 X.2.1 dX10_clearGuards_21 (by decide) ?_
    exact hk4 _ _ _ _ _ _ (lv_sub hl [1, 0] rfl) S hf
theorem wfX10_clearGuards_4_l {h9 : Hp} (X : Cx p E A 8 R s m args c cX10_clearGuards yX10_clearGuards.cls 2) (hr : meth.sig.returnType = none) (hlk : meth.locks = false) (hnm : meth.name = yX10_clearGuards.name) :
    ∀ (n : Nat) (x0 : Nat) (x1 : Int32) (h : Hp) (H : Heap) (locs : List Loc) (ls : Array Slot), lv_has ls 2 [(0, rv x0), (1, .int x1)] → St E A s h H locs → lp (fun _ _ _ => none) (fX10_clearGuards_4) n x0 x1 h = some h9 → W p l e R s m args below meth c H locs 0 0 (MQ below (Qv E A h9) args s 0 0 A) (F0 m 4 ls []) := by
  intro n
  induction n with
  | zero =>
    intro x0 x1 h H locs ls hl S hf
    exact nomatch hf
  | succ n ih =>
    intro x0 x1 h H locs ls hl S hf
    exact wfX10_clearGuards_4 X hr hlk hnm ih x0 x1 h H locs ls hl S hf
def fX10_clearGuards (a0 : Nat) (h : Hp) : Option (Hp) := gd 9 a0 h (lp (fun _ _ _ => none) (fX10_clearGuards_4) FU a0 268 h)
theorem tkX10_clearGuards {a0 : Nat} {h : Hp} {r9 : Hp} (e : fX10_clearGuards a0 h = some r9) : hK h a0 = 9 := by
  unfold fX10_clearGuards at e
  exact (gd_some e).1
theorem cX10_clearGuards_m (l : Launch) {E : EE} {A : Nat → Prop} {a0 : Nat} {h : Hp} {h9 : Hp} (hf : fX10_clearGuards a0 h = some h9) : Met l yX10_clearGuards (wsM yX10_clearGuards cX10_clearGuards 2 none) (rmm 8 0 0) (PcE E A h [rv a0]) (Qv E A h9) 0 0 A := by
  refine met_of (by decide +kernel) (by simp [lg_sl, cat_rv, cat_wv, cat_sv, cat_i, cat_l, cat_a]) (fun p e s m args below meth c ls X hr hlk hnm S hl => ?_)
  have hl : lv_has ls 2 [(0, rv a0)] := by simpa [lv_args, cat_rv, cat_wv, cat_sv, cat_i, cat_l, cat_a] using hl
  generalize hH : s.heap = H at S ⊢
  generalize hlo : ([] : List Loc) = locs at S ⊢
  clear hH hlo
  unfold fX10_clearGuards at hf
  obtain ⟨hth, hf⟩ := gd_some hf
  refine lv_sipush (v := 268) X.1 X.2.1 dX10_clearGuards_0 (by decide) ?_
  refine lv_istore_n (i := 1) (lv' := [(1, .int 268), (0, rv a0)]) X.1 X.2.1 dX10_clearGuards_3 rfl hl (by decide) (by simp [List.filter, cat_rv, cat_wv, cat_sv]) (fun ls hl => ?_)
  exact wfX10_clearGuards_4_l X hr hlk hnm FU _ _ _ _ _ _ (lv_sub hl [1, 0] rfl) S hf
def fX10_clear_2 (k2 : Nat → Int32 → Hp → Option (Hp)) (x0 : Nat) (x1 : Int32) (h : Hp) : Option (Hp) := if 411 ≤ x1 then ob (fX10_clearGuards x0 h) fun h => ob (gR 9 x0 0 h) fun v3 => ob (qI v3 267 1 h) fun h => some h else ob (gR 9 x0 0 h) fun v4 => ob (qI v4 x1 0 h) fun h => lt (x1 + 1) fun z5 => k2 x0 z5 h
theorem wfX10_clear_2 {k2 : Nat → Int32 → Hp → Option (Hp)} {h9 : Hp} (X : Cx p E A 9 R s m args c cX10_clear yX10_clear.cls 2) (hr : meth.sig.returnType = none) (hlk : meth.locks = false) (hnm : meth.name = yX10_clear.name) (hk2 : ∀ (x0 : Nat) (x1 : Int32) (h : Hp) (H : Heap) (locs : List Loc) (ls : Array Slot), lv_has ls 2 [(0, rv x0), (1, .int x1)] → St E A s h H locs → k2 x0 x1 h = some h9 → W p l e R s m args below meth c H locs 0 0 (MQ below (Qv E A h9) args s 0 0 A) (F0 m 2 ls [])) :
    ∀ (x0 : Nat) (x1 : Int32) (h : Hp) (H : Heap) (locs : List Loc) (ls : Array Slot), lv_has ls 2 [(0, rv x0), (1, .int x1)] → St E A s h H locs → fX10_clear_2 k2 x0 x1 h = some h9 → W p l e R s m args below meth c H locs 0 0 (MQ below (Qv E A h9) args s 0 0 A) (F0 m 2 ls []) := by
  intro x0 x1 h H locs ls hl S hf
  unfold fX10_clear_2 at hf
  refine lv_iload_n X.1 X.2.1 dX10_clear_2 rfl (lv_at hl 1 rfl) ?_
  refine lv_sipush (v := 411) X.1 X.2.1 dX10_clear_3 (by decide) ?_
  refine lv_icmp_ge (tgt := 22) X.1 X.2.1 dX10_clear_6 (by decide) (fun c1 => ?_) (fun c1 => ?_)
  · replace hf := (if_pos c1).symm.trans hf
    refine g_aload_n X (or_rv _) dX10_clear_22 rfl (lv_at hl 0 rfl) ?_
    obtain ⟨h, hc, hf⟩ := ob_some hf
    refine g_cv S (runV (As := []) (rest := []) X S coX10_59 (by decide) (cX10_clearGuards_m l hc) (tkX10_clearGuards hc) rfl hl.1 (by decide) rfl ⟨Nat.zero_le _, Nat.zero_le _⟩ dX10_clear_23) (fun H locs S => ?_)
    refine g_aload_n X (or_rv _) dX10_clear_26 rfl (lv_at hl 0 rfl) ?_
    refine g_gR X S foX10_13 dX10_clear_27 hf (fun v3 hf => ?_)
    refine lv_sipush (v := 267) X.1 X.2.1 dX10_clear_30 (by decide) ?_
    refine lv_iconst (v := 1) X.1 X.2.1 dX10_clear_33 (by decide) ?_
    refine g_qI X S dX10_clear_34 hf (fun h H locs hm hf S => ?_)
    cases hf; exact g_rv X S hr hlk dX10_clear_35
  · replace hf := (if_neg c1).symm.trans hf
    refine g_aload_n X (or_rv _) dX10_clear_9 rfl (lv_at hl 0 rfl) ?_
    refine g_gR X S foX10_13 dX10_clear_10 hf (fun v4 hf => ?_)
    refine lv_iload_n X.1 X.2.1 dX10_clear_13 rfl (lv_at hl 1 rfl) ?_
    refine lv_iconst (v := 0) X.1 X.2.1 dX10_clear_14 (by decide) ?_
    refine g_qI X S dX10_clear_15 hf (fun h H locs hm hf S => ?_)
    obtain ⟨z5, ez5, hf⟩ := lt_some hf
    refine lv_iinc (v := z5) (lv' := [(1, .int z5), (0, rv x0)]) X.1 X.2.1 dX10_clear_16 hl (k := 1) rfl (by rw [← ez5]; rfl) (by decide) (by simp [List.filter, cat_rv, cat_wv, cat_sv]) (fun ls hl => ?_)
    refine lv_goto (tgt := 2) X.1 X.2.1 dX10_clear_19 (by decide) ?_
    exact hk2 _ _ _ _ _ _ (lv_sub hl [1, 0] rfl) S hf
theorem wfX10_clear_2_l {h9 : Hp} (X : Cx p E A 9 R s m args c cX10_clear yX10_clear.cls 2) (hr : meth.sig.returnType = none) (hlk : meth.locks = false) (hnm : meth.name = yX10_clear.name) :
    ∀ (n : Nat) (x0 : Nat) (x1 : Int32) (h : Hp) (H : Heap) (locs : List Loc) (ls : Array Slot), lv_has ls 2 [(0, rv x0), (1, .int x1)] → St E A s h H locs → lp (fun _ _ _ => none) (fX10_clear_2) n x0 x1 h = some h9 → W p l e R s m args below meth c H locs 0 0 (MQ below (Qv E A h9) args s 0 0 A) (F0 m 2 ls []) := by
  intro n
  induction n with
  | zero =>
    intro x0 x1 h H locs ls hl S hf
    exact nomatch hf
  | succ n ih =>
    intro x0 x1 h H locs ls hl S hf
    exact wfX10_clear_2 X hr hlk hnm ih x0 x1 h H locs ls hl S hf
def fX10_clear (a0 : Nat) (h : Hp) : Option (Hp) := gd 9 a0 h (lp (fun _ _ _ => none) (fX10_clear_2) FU a0 0 h)
theorem tkX10_clear {a0 : Nat} {h : Hp} {r9 : Hp} (e : fX10_clear a0 h = some r9) : hK h a0 = 9 := by
  unfold fX10_clear at e
  exact (gd_some e).1
theorem cX10_clear_m (l : Launch) {E : EE} {A : Nat → Prop} {a0 : Nat} {h : Hp} {h9 : Hp} (hf : fX10_clear a0 h = some h9) : Met l yX10_clear (wsM yX10_clear cX10_clear 2 none) (rmm 9 0 0) (PcE E A h [rv a0]) (Qv E A h9) 0 0 A := by
  refine met_of (by decide +kernel) (by simp [lg_sl, cat_rv, cat_wv, cat_sv, cat_i, cat_l, cat_a]) (fun p e s m args below meth c ls X hr hlk hnm S hl => ?_)
  have hl : lv_has ls 2 [(0, rv a0)] := by simpa [lv_args, cat_rv, cat_wv, cat_sv, cat_i, cat_l, cat_a] using hl
  generalize hH : s.heap = H at S ⊢
  generalize hlo : ([] : List Loc) = locs at S ⊢
  clear hH hlo
  unfold fX10_clear at hf
  obtain ⟨hth, hf⟩ := gd_some hf
  refine lv_iconst (v := 0) X.1 X.2.1 dX10_clear_0 (by decide) ?_
  refine lv_istore_n (i := 1) (lv' := [(1, .int 0), (0, rv a0)]) X.1 X.2.1 dX10_clear_1 rfl hl (by decide) (by simp [List.filter, cat_rv, cat_wv, cat_sv]) (fun ls hl => ?_)
  exact wfX10_clear_2_l X hr hlk hnm FU _ _ _ _ _ _ (lv_sub hl [1, 0] rfl) S hf
def fX10_init (a0 : Nat) (h : Hp) : Option (Hp) := gd 9 a0 h (ob2 (newA 101 4 411 h) fun p1 h => ob (pR 9 a0 0 p1 h) fun h => obk h (fX10_clear a0 h) fun h => some h)
theorem tkX10_init {a0 : Nat} {h : Hp} {r9 : Hp} (e : fX10_init a0 h = some r9) : hK h a0 = 9 := by
  unfold fX10_init at e
  exact (gd_some e).1
theorem cX10_init_m (l : Launch) {E : EE} {A : Nat → Prop} {a0 : Nat} {h : Hp} {h9 : Hp} {mc ms : Nat} (hmc : mc + hX h = hC h) (hms : ms + hU h = hZ h) (hf : fX10_init a0 h = some h9) : Met l yX10_init (wsM yX10_init cX10_init 1 none) (rmm 10 mc ms) (PcF E A h [rv a0]) (QG (Qv E A h9) h h9) mc ms A := by
  refine met_ofA (by decide +kernel) (by simp [lg_sl, cat_rv, cat_wv, cat_sv, cat_i, cat_l, cat_a]) hmc hms (fun p e s m args below meth c ls X hr hlk hnm S AI hl => ?_)
  have hl : lv_has ls 1 [(0, rv a0)] := by simpa [lv_args, cat_rv, cat_wv, cat_sv, cat_i, cat_l, cat_a] using hl
  generalize hH : s.heap = H at S ⊢
  generalize hlo : ([] : List Loc) = locs at S ⊢
  clear hH hlo
  unfold fX10_init at hf
  obtain ⟨hth, hf⟩ := gd_some hf
  refine g_aload_n X (or_rv _) dX10_init_0 rfl (lv_at hl 0 rfl) ?_
  refine g_oi (rest := []) X S hl.1 oiX10_7 dX10_init_1 (by decide) (by decide) (dom_ne S.1.1 hth (by decide)) ?_
  refine g_aload_n X (or_rv _) dX10_init_4 rfl (lv_at hl 0 rfl) ?_
  refine lv_sipush (v := 411) X.1 X.2.1 dX10_init_5 (by decide) ?_
  refine g_newI X S AI dX10_init_8 hf (fun p1 h H cells slots hf S AI => ?_)
  refine g_pR X S fpX10_13 (Or.inr ⟨_, rfl⟩) (Or.inr hnm) dX10_init_10 hf (fun h H locs hm hf S => ?_)
  replace AI := AI.sm hm
  refine g_aload_n X (or_rv _) dX10_init_13 rfl (lv_at hl 0 rfl) ?_
  obtain ⟨h, hc, hok, hf⟩ := obk_some hf
  refine g_cv S (runV (As := []) (rest := []) X S coX10_17 (by decide) (cX10_clear_m l hc) (tkX10_clear hc) rfl hl.1 (by decide) rfl AI.fit dX10_init_14) (fun H locs S => ?_)
  replace AI := AI.kc hok
  cases hf; exact g_rvA X S AI hr hlk dX10_init_17
def fX5_init (a0 : Nat) (h : Hp) : Option (Hp) := gd 5 a0 h (ob (pR 5 a0 0 29 h) fun h => some h)
theorem tkX5_init {a0 : Nat} {h : Hp} {r9 : Hp} (e : fX5_init a0 h = some r9) : hK h a0 = 5 := by
  unfold fX5_init at e
  exact (gd_some e).1
theorem cX5_init_m (l : Launch) {E : EE} {A : Nat → Prop} {a0 : Nat} {h : Hp} {h9 : Hp} (hf : fX5_init a0 h = some h9) : Met l yX5_init (wsM yX5_init cX5_init 1 none) (rmm 8 0 0) (PcE E A h [rv a0]) (Qv E A h9) 0 0 A := by
  refine met_of (by decide +kernel) (by simp [lg_sl, cat_rv, cat_wv, cat_sv, cat_i, cat_l, cat_a]) (fun p e s m args below meth c ls X hr hlk hnm S hl => ?_)
  have hl : lv_has ls 1 [(0, rv a0)] := by simpa [lv_args, cat_rv, cat_wv, cat_sv, cat_i, cat_l, cat_a] using hl
  generalize hH : s.heap = H at S ⊢
  generalize hlo : ([] : List Loc) = locs at S ⊢
  clear hH hlo
  unfold fX5_init at hf
  obtain ⟨hth, hf⟩ := gd_some hf
  refine g_aload_n X (or_rv _) dX5_init_0 rfl (lv_at hl 0 rfl) ?_
  refine g_oi (rest := []) X S hl.1 oiX5_3 dX5_init_1 (by decide) (by decide) (dom_ne S.1.1 hth (by decide)) ?_
  refine g_aload_n X (or_rv _) dX5_init_4 rfl (lv_at hl 0 rfl) ?_
  refine g_getw X S sfX5_9 (i := 28) ⟨by decide, rfl⟩ dX5_init_5 ?_
  refine g_pW X S fpX5_15 (Or.inl ⟨_, rfl⟩) (Or.inl rfl) dX5_init_8 hf (fun h H locs hm hf S => ?_)
  cases hf; exact g_rv X S hr hlk dX5_init_11
def fX6_clear_7 (k7 : Nat → Int32 → Hp → Option (Hp)) (x0 : Nat) (x1 : Int32) (h : Hp) : Option (Hp) := ob (gR 6 x0 1 h) fun v1 => ob (aN 101 v1 h) fun v2 => if v2 ≤ x1 then some h else ob (gR 6 x0 1 h) fun v4 => ob (qI v4 x1 0 h) fun h => lt (x1 + 1) fun z5 => k7 x0 z5 h
theorem wfX6_clear_7 {k7 : Nat → Int32 → Hp → Option (Hp)} {h9 : Hp} (X : Cx p E A 8 R s m args c cX6_clear yX6_clear.cls 2) (hr : meth.sig.returnType = none) (hlk : meth.locks = false) (hnm : meth.name = yX6_clear.name) (hk7 : ∀ (x0 : Nat) (x1 : Int32) (h : Hp) (H : Heap) (locs : List Loc) (ls : Array Slot), lv_has ls 2 [(0, rv x0), (1, .int x1)] → St E A s h H locs → k7 x0 x1 h = some h9 → W p l e R s m args below meth c H locs 0 0 (MQ below (Qv E A h9) args s 0 0 A) (F0 m 7 ls [])) :
    ∀ (x0 : Nat) (x1 : Int32) (h : Hp) (H : Heap) (locs : List Loc) (ls : Array Slot), lv_has ls 2 [(0, rv x0), (1, .int x1)] → St E A s h H locs → fX6_clear_7 k7 x0 x1 h = some h9 → W p l e R s m args below meth c H locs 0 0 (MQ below (Qv E A h9) args s 0 0 A) (F0 m 7 ls []) := by
  intro x0 x1 h H locs ls hl S hf
  unfold fX6_clear_7 at hf
  refine lv_iload_n X.1 X.2.1 dX6_clear_7 rfl (lv_at hl 1 rfl) ?_
  refine g_aload_n X (or_rv _) dX6_clear_8 rfl (lv_at hl 0 rfl) ?_
  refine g_gR X S foX6_17 dX6_clear_9 hf (fun v1 hf => ?_)
  refine g_aN X S (by decide) dX6_clear_12 hf (fun v2 hf => ?_)
  refine lv_icmp_ge (tgt := 29) X.1 X.2.1 dX6_clear_13 (by decide) (fun c3 => ?_) (fun c3 => ?_)
  · replace hf := (if_pos c3).symm.trans hf
    cases hf; exact g_rv X S hr hlk dX6_clear_29
  · replace hf := (if_neg c3).symm.trans hf
    refine g_aload_n X (or_rv _) dX6_clear_16 rfl (lv_at hl 0 rfl) ?_
    refine g_gR X S foX6_17 dX6_clear_17 hf (fun v4 hf => ?_)
    refine lv_iload_n X.1 X.2.1 dX6_clear_20 rfl (lv_at hl 1 rfl) ?_
    refine lv_iconst (v := 0) X.1 X.2.1 dX6_clear_21 (by decide) ?_
    refine g_qI X S dX6_clear_22 hf (fun h H locs hm hf S => ?_)
    obtain ⟨z5, ez5, hf⟩ := lt_some hf
    refine lv_iinc (v := z5) (lv' := [(1, .int z5), (0, rv x0)]) X.1 X.2.1 dX6_clear_23 hl (k := 1) rfl (by rw [← ez5]; rfl) (by decide) (by simp [List.filter, cat_rv, cat_wv, cat_sv]) (fun ls hl => ?_)
    refine lv_goto (tgt := 7) X.1 X.2.1 dX6_clear_26 (by decide) ?_
    exact hk7 _ _ _ _ _ _ (lv_sub hl [1, 0] rfl) S hf
theorem wfX6_clear_7_l {h9 : Hp} (X : Cx p E A 8 R s m args c cX6_clear yX6_clear.cls 2) (hr : meth.sig.returnType = none) (hlk : meth.locks = false) (hnm : meth.name = yX6_clear.name) :
    ∀ (n : Nat) (x0 : Nat) (x1 : Int32) (h : Hp) (H : Heap) (locs : List Loc) (ls : Array Slot), lv_has ls 2 [(0, rv x0), (1, .int x1)] → St E A s h H locs → lp (fun _ _ _ => none) (fX6_clear_7) n x0 x1 h = some h9 → W p l e R s m args below meth c H locs 0 0 (MQ below (Qv E A h9) args s 0 0 A) (F0 m 7 ls []) := by
  intro n
  induction n with
  | zero =>
    intro x0 x1 h H locs ls hl S hf
    exact nomatch hf
  | succ n ih =>
    intro x0 x1 h H locs ls hl S hf
    exact wfX6_clear_7 X hr hlk hnm ih x0 x1 h H locs ls hl S hf
def fX6_clear (a0 : Nat) (h : Hp) : Option (Hp) := gd 6 a0 h (ob (pI 6 a0 2 0 h) fun h => lp (fun _ _ _ => none) (fX6_clear_7) FU a0 0 h)
theorem tkX6_clear {a0 : Nat} {h : Hp} {r9 : Hp} (e : fX6_clear a0 h = some r9) : hK h a0 = 6 := by
  unfold fX6_clear at e
  exact (gd_some e).1
theorem cX6_clear_m (l : Launch) {E : EE} {A : Nat → Prop} {a0 : Nat} {h : Hp} {h9 : Hp} (hf : fX6_clear a0 h = some h9) : Met l yX6_clear (wsM yX6_clear cX6_clear 2 none) (rmm 8 0 0) (PcE E A h [rv a0]) (Qv E A h9) 0 0 A := by
  refine met_of (by decide +kernel) (by simp [lg_sl, cat_rv, cat_wv, cat_sv, cat_i, cat_l, cat_a]) (fun p e s m args below meth c ls X hr hlk hnm S hl => ?_)
  have hl : lv_has ls 2 [(0, rv a0)] := by simpa [lv_args, cat_rv, cat_wv, cat_sv, cat_i, cat_l, cat_a] using hl
  generalize hH : s.heap = H at S ⊢
  generalize hlo : ([] : List Loc) = locs at S ⊢
  clear hH hlo
  unfold fX6_clear at hf
  obtain ⟨hth, hf⟩ := gd_some hf
  refine g_aload_n X (or_rv _) dX6_clear_0 rfl (lv_at hl 0 rfl) ?_
  refine lv_iconst (v := 0) X.1 X.2.1 dX6_clear_1 (by decide) ?_
  refine g_pI X S fpX6_21 (Or.inl rfl) dX6_clear_2 hf (fun h H locs hm hf S => ?_)
  refine lv_iconst (v := 0) X.1 X.2.1 dX6_clear_5 (by decide) ?_
  refine lv_istore_n (i := 1) (lv' := [(1, .int 0), (0, rv a0)]) X.1 X.2.1 dX6_clear_6 rfl hl (by decide) (by simp [List.filter, cat_rv, cat_wv, cat_sv]) (fun ls hl => ?_)
  exact wfX6_clear_7_l X hr hlk hnm FU _ _ _ _ _ _ (lv_sub hl [1, 0] rfl) S hf
def fX11_told_78 (h : Hp) (k14 : Nat → Int32 → Int32 → Int32 → Option (Nat)) (x0 : Nat) (x1 : Int32) (x2 : Int32) (x3 : Int32) (x4 : Nat) (x5 : Int32) : Option (Nat) := if x5 ≤ 0 then lt (x3 + 1) fun z2 => k14 x0 x1 x2 z2 else ob (sLen x4) fun v3 => if x5 = v3 then ob (alW x3) fun v7 => some v7 else lt (x3 + 1) fun z5 => k14 x0 x1 x2 z5
theorem wfX11_told_78 {h : Hp} {k14 : Nat → Int32 → Int32 → Int32 → Option (Nat)} {r9 : Nat} (X : Cx p E A 8 R s m args c cX11_told yX11_told.cls 6) (hr : meth.sig.returnType = (some (.object "NibbleEngine$Word"))) (hlk : meth.locks = false) (hnm : meth.name = yX11_told.name) (hk14 : ∀ (x0 : Nat) (x1 : Int32) (x2 : Int32) (x3 : Int32) (H : Heap) (locs : List Loc) (ls : Array Slot), lv_has ls 6 [(0, rv x0), (1, .int x1), (2, .int x2), (3, .int x3)] → St E A s h H locs → k14 x0 x1 x2 x3 = some r9 → W p l e R s m args below meth c H locs 0 0 (MQ below (Qq E A h (oF E.2.2.2.1 r9)) args s 0 0 A) (F0 m 14 ls [])) :
    ∀ (x0 : Nat) (x1 : Int32) (x2 : Int32) (x3 : Int32) (x4 : Nat) (x5 : Int32) (H : Heap) (locs : List Loc) (ls : Array Slot), lv_has ls 6 [(0, rv x0), (1, .int x1), (2, .int x2), (3, .int x3), (4, sv E x4), (5, .int x5)] → St E A s h H locs → fX11_told_78 h k14 x0 x1 x2 x3 x4 x5 = some r9 → W p l e R s m args below meth c H locs 0 0 (MQ below (Qq E A h (oF E.2.2.2.1 r9)) args s 0 0 A) (F0 m 78 ls []) := by
  intro x0 x1 x2 x3 x4 x5 H locs ls hl S hf
  unfold fX11_told_78 at hf
  refine lv_iload X.1 X.2.1 dX11_told_78 (lv_at hl 5 rfl) ?_
  refine lv_if_le (tgt := 99) X.1 X.2.1 dX11_told_80 (by decide) (fun c1 => ?_) (fun c1 => ?_)
  · replace hf := (if_pos c1).symm.trans hf
    obtain ⟨z2, ez2, hf⟩ := lt_some hf
    refine lv_iinc (v := z2) (lv' := [(3, .int z2), (0, rv x0), (1, .int x1), (2, .int x2), (4, sv E x4), (5, .int x5)]) X.1 X.2.1 dX11_told_99 hl (k := 3) rfl (by rw [← ez2]; rfl) (by decide) rfl (fun ls hl => ?_)
    refine lv_goto (tgt := 14) X.1 X.2.1 dX11_told_102 (by decide) ?_
    exact hk14 _ _ _ _ _ _ _ (lv_sub hl [1, 2, 3, 0] rfl) S hf
  · replace hf := (if_neg c1).symm.trans hf
    refine lv_iload X.1 X.2.1 dX11_told_83 (lv_at hl 5 rfl) ?_
    refine g_aload X (or_sv _ _) dX11_told_85 (lv_at hl 4 rfl) ?_
    refine g_sLen (rest := [.int x5]) X S hl.1 (by decide) (by simp [cat_rv, cat_wv, cat_sv, cat_i, cat_l, cat_a]) jfX11_128 (Nat.zero_le _) (Nat.zero_le _) dX11_told_87 hf (fun v3 H locs hf S => ?_)
    refine lv_icmp_ne (tgt := 99) X.1 X.2.1 dX11_told_90 (by decide) (fun c4 => ?_) (fun c4 => ?_)
    · replace hf := (if_neg c4).symm.trans hf
      obtain ⟨z5, ez5, hf⟩ := lt_some hf
      refine lv_iinc (v := z5) (lv' := [(3, .int z5), (0, rv x0), (1, .int x1), (2, .int x2), (4, sv E x4), (5, .int x5)]) X.1 X.2.1 dX11_told_99 hl (k := 3) rfl (by rw [← ez5]; rfl) (by decide) rfl (fun ls hl => ?_)
      refine lv_goto (tgt := 14) X.1 X.2.1 dX11_told_102 (by decide) ?_
      exact hk14 _ _ _ _ _ _ _ (lv_sub hl [1, 2, 3, 0] rfl) S hf
    · replace hf := (if_pos c4).symm.trans hf
      refine g_getall X S sfX11_125 dX11_told_93 (fun q6 hq6 => ?_)
      refine lv_iload_n X.1 X.2.1 dX11_told_96 rfl (lv_at hl 3 rfl) ?_
      refine g_all X S hq6 dX11_told_97 hf (fun v7 hf => ?_)
      cases hf; exact g_rq X S hr (Or.inl ⟨_, rfl⟩) hlk dX11_told_98
def fX11_told_35 (h : Hp) (k14 : Nat → Int32 → Int32 → Int32 → Option (Nat)) (k35 : Nat → Int32 → Int32 → Int32 → Nat → Int32 → Option (Nat)) (x0 : Nat) (x1 : Int32) (x2 : Int32) (x3 : Int32) (x4 : Nat) (x5 : Int32) : Option (Nat) := ob (sLen x4) fun v1 => if v1 = (x2 - x1) then ob (sLen x4) fun v3 => if v3 ≤ x5 then fX11_told_78 h k14 x0 x1 x2 x3 x4 x5 else ob (sAt x4 x5) fun v5 => ob (aI x0 (x1 + x5) h) fun v6 => if v5 = v6 then lt (x5 + 1) fun z8 => k35 x0 x1 x2 x3 x4 z8 else fX11_told_78 h k14 x0 x1 x2 x3 x4 x5 else fX11_told_78 h k14 x0 x1 x2 x3 x4 x5
theorem wfX11_told_35 {h : Hp} {k14 : Nat → Int32 → Int32 → Int32 → Option (Nat)} {k35 : Nat → Int32 → Int32 → Int32 → Nat → Int32 → Option (Nat)} {r9 : Nat} (X : Cx p E A 8 R s m args c cX11_told yX11_told.cls 6) (hr : meth.sig.returnType = (some (.object "NibbleEngine$Word"))) (hlk : meth.locks = false) (hnm : meth.name = yX11_told.name) (hk14 : ∀ (x0 : Nat) (x1 : Int32) (x2 : Int32) (x3 : Int32) (H : Heap) (locs : List Loc) (ls : Array Slot), lv_has ls 6 [(0, rv x0), (1, .int x1), (2, .int x2), (3, .int x3)] → St E A s h H locs → k14 x0 x1 x2 x3 = some r9 → W p l e R s m args below meth c H locs 0 0 (MQ below (Qq E A h (oF E.2.2.2.1 r9)) args s 0 0 A) (F0 m 14 ls [])) (hk35 : ∀ (x0 : Nat) (x1 : Int32) (x2 : Int32) (x3 : Int32) (x4 : Nat) (x5 : Int32) (H : Heap) (locs : List Loc) (ls : Array Slot), lv_has ls 6 [(0, rv x0), (1, .int x1), (2, .int x2), (3, .int x3), (4, sv E x4), (5, .int x5)] → St E A s h H locs → k35 x0 x1 x2 x3 x4 x5 = some r9 → W p l e R s m args below meth c H locs 0 0 (MQ below (Qq E A h (oF E.2.2.2.1 r9)) args s 0 0 A) (F0 m 35 ls [])) :
    ∀ (x0 : Nat) (x1 : Int32) (x2 : Int32) (x3 : Int32) (x4 : Nat) (x5 : Int32) (H : Heap) (locs : List Loc) (ls : Array Slot), lv_has ls 6 [(0, rv x0), (1, .int x1), (2, .int x2), (3, .int x3), (4, sv E x4), (5, .int x5)] → St E A s h H locs → fX11_told_35 h k14 k35 x0 x1 x2 x3 x4 x5 = some r9 → W p l e R s m args below meth c H locs 0 0 (MQ below (Qq E A h (oF E.2.2.2.1 r9)) args s 0 0 A) (F0 m 35 ls []) := by
  intro x0 x1 x2 x3 x4 x5 H locs ls hl S hf
  unfold fX11_told_35 at hf
  refine g_aload X (or_sv _ _) dX11_told_35 (lv_at hl 4 rfl) ?_
  refine g_sLen (rest := []) X S hl.1 (by decide) (by decide) jfX11_128 (Nat.zero_le _) (Nat.zero_le _) dX11_told_37 hf (fun v1 H locs hf S => ?_)
  refine lv_iload_n X.1 X.2.1 dX11_told_40 rfl (lv_at hl 2 rfl) ?_
  refine lv_iload_n X.1 X.2.1 dX11_told_41 rfl (lv_at hl 1 rfl) ?_
  refine lv_isub X.1 X.2.1 dX11_told_42 ?_
  refine lv_icmp_ne (tgt := 78) X.1 X.2.1 dX11_told_43 (by decide) (fun c2 => ?_) (fun c2 => ?_)
  · replace hf := (if_neg c2).symm.trans hf
    exact wfX11_told_78 X hr hlk hnm hk14 _ _ _ _ _ _ _ _ _ hl S hf
  · replace hf := (if_pos c2).symm.trans hf
    refine lv_iload X.1 X.2.1 dX11_told_46 (lv_at hl 5 rfl) ?_
    refine g_aload X (or_sv _ _) dX11_told_48 (lv_at hl 4 rfl) ?_
    refine g_sLen (rest := [.int x5]) X S hl.1 (by decide) (by simp [cat_rv, cat_wv, cat_sv, cat_i, cat_l, cat_a]) jfX11_128 (Nat.zero_le _) (Nat.zero_le _) dX11_told_50 hf (fun v3 H locs hf S => ?_)
    refine lv_icmp_ge (tgt := 78) X.1 X.2.1 dX11_told_53 (by decide) (fun c4 => ?_) (fun c4 => ?_)
    · replace hf := (if_pos c4).symm.trans hf
      exact wfX11_told_78 X hr hlk hnm hk14 _ _ _ _ _ _ _ _ _ hl S hf
    · replace hf := (if_neg c4).symm.trans hf
      refine g_aload X (or_sv _ _) dX11_told_56 (lv_at hl 4 rfl) ?_
      refine lv_iload X.1 X.2.1 dX11_told_58 (lv_at hl 5 rfl) ?_
      refine g_sAt (rest := []) X S hl.1 (by decide) (by decide) jfX11_134 (Nat.zero_le _) (Nat.zero_le _) dX11_told_60 hf (fun v5 H locs hf S => ?_)
      refine g_aload_n X (or_rv _) dX11_told_63 rfl (lv_at hl 0 rfl) ?_
      refine lv_iload_n X.1 X.2.1 dX11_told_64 rfl (lv_at hl 1 rfl) ?_
      refine lv_iload X.1 X.2.1 dX11_told_65 (lv_at hl 5 rfl) ?_
      refine lv_iadd X.1 X.2.1 dX11_told_67 ?_
      refine g_aI X S dX11_told_68 hf (fun v6 hf => ?_)
      refine lv_icmp_ne (tgt := 78) X.1 X.2.1 dX11_told_69 (by decide) (fun c7 => ?_) (fun c7 => ?_)
      · replace hf := (if_neg c7).symm.trans hf
        exact wfX11_told_78 X hr hlk hnm hk14 _ _ _ _ _ _ _ _ _ hl S hf
      · replace hf := (if_pos c7).symm.trans hf
        obtain ⟨z8, ez8, hf⟩ := lt_some hf
        refine lv_iinc (v := z8) (lv' := [(5, .int z8), (0, rv x0), (1, .int x1), (2, .int x2), (3, .int x3), (4, sv E x4)]) X.1 X.2.1 dX11_told_72 hl (k := 5) rfl (by rw [← ez8]; rfl) (by decide) (by simp [List.filter, cat_rv, cat_wv, cat_sv]) (fun ls hl => ?_)
        refine lv_goto (tgt := 35) X.1 X.2.1 dX11_told_75 (by decide) ?_
        exact hk35 _ _ _ _ _ _ _ _ _ (lv_sub hl [1, 2, 3, 4, 5, 0] rfl) S hf
theorem wfX11_told_35_l {h : Hp} {k14 : Nat → Int32 → Int32 → Int32 → Option (Nat)} {r9 : Nat} (X : Cx p E A 8 R s m args c cX11_told yX11_told.cls 6) (hr : meth.sig.returnType = (some (.object "NibbleEngine$Word"))) (hlk : meth.locks = false) (hnm : meth.name = yX11_told.name) (hk14 : ∀ (x0 : Nat) (x1 : Int32) (x2 : Int32) (x3 : Int32) (H : Heap) (locs : List Loc) (ls : Array Slot), lv_has ls 6 [(0, rv x0), (1, .int x1), (2, .int x2), (3, .int x3)] → St E A s h H locs → k14 x0 x1 x2 x3 = some r9 → W p l e R s m args below meth c H locs 0 0 (MQ below (Qq E A h (oF E.2.2.2.1 r9)) args s 0 0 A) (F0 m 14 ls [])) :
    ∀ (n : Nat) (x0 : Nat) (x1 : Int32) (x2 : Int32) (x3 : Int32) (x4 : Nat) (x5 : Int32) (H : Heap) (locs : List Loc) (ls : Array Slot), lv_has ls 6 [(0, rv x0), (1, .int x1), (2, .int x2), (3, .int x3), (4, sv E x4), (5, .int x5)] → St E A s h H locs → lp (fun _ _ _ _ _ _ => none) (fX11_told_35 h k14) n x0 x1 x2 x3 x4 x5 = some r9 → W p l e R s m args below meth c H locs 0 0 (MQ below (Qq E A h (oF E.2.2.2.1 r9)) args s 0 0 A) (F0 m 35 ls []) := by
  intro n
  induction n with
  | zero =>
    intro x0 x1 x2 x3 x4 x5 H locs ls hl S hf
    exact nomatch hf
  | succ n ih =>
    intro x0 x1 x2 x3 x4 x5 H locs ls hl S hf
    exact wfX11_told_35 X hr hlk hnm hk14 ih x0 x1 x2 x3 x4 x5 H locs ls hl S hf
def fX11_told_14 (h : Hp) (k14 : Nat → Int32 → Int32 → Int32 → Option (Nat)) (x0 : Nat) (x1 : Int32) (x2 : Int32) (x3 : Int32) : Option (Nat) := if 29 ≤ x3 then some 0 else ob (alW x3) fun v5 => ob (wdT v5) fun v6 => lp (fun _ _ _ _ _ _ => none) (fX11_told_35 h k14) FU x0 x1 x2 x3 v6 0
theorem wfX11_told_14 {h : Hp} {k14 : Nat → Int32 → Int32 → Int32 → Option (Nat)} {r9 : Nat} (X : Cx p E A 8 R s m args c cX11_told yX11_told.cls 6) (hr : meth.sig.returnType = (some (.object "NibbleEngine$Word"))) (hlk : meth.locks = false) (hnm : meth.name = yX11_told.name) (hk14 : ∀ (x0 : Nat) (x1 : Int32) (x2 : Int32) (x3 : Int32) (H : Heap) (locs : List Loc) (ls : Array Slot), lv_has ls 6 [(0, rv x0), (1, .int x1), (2, .int x2), (3, .int x3)] → St E A s h H locs → k14 x0 x1 x2 x3 = some r9 → W p l e R s m args below meth c H locs 0 0 (MQ below (Qq E A h (oF E.2.2.2.1 r9)) args s 0 0 A) (F0 m 14 ls [])) :
    ∀ (x0 : Nat) (x1 : Int32) (x2 : Int32) (x3 : Int32) (H : Heap) (locs : List Loc) (ls : Array Slot), lv_has ls 6 [(0, rv x0), (1, .int x1), (2, .int x2), (3, .int x3)] → St E A s h H locs → fX11_told_14 h k14 x0 x1 x2 x3 = some r9 → W p l e R s m args below meth c H locs 0 0 (MQ below (Qq E A h (oF E.2.2.2.1 r9)) args s 0 0 A) (F0 m 14 ls []) := by
  intro x0 x1 x2 x3 H locs ls hl S hf
  unfold fX11_told_14 at hf
  refine lv_iload_n X.1 X.2.1 dX11_told_14 rfl (lv_at hl 3 rfl) ?_
  refine g_getall X S sfX11_125 dX11_told_15 (fun q1 hq1 => ?_)
  refine g_alen X S hq1 dX11_told_18 ?_
  refine lv_icmp_ge (tgt := 105) X.1 X.2.1 dX11_told_19 (by decide) (fun c3 => ?_) (fun c3 => ?_)
  · replace hf := (if_pos c3).symm.trans hf
    refine lv_null X.1 X.2.1 dX11_told_105 ?_
    cases hf; exact g_rq X S hr (Or.inl ⟨_, rfl⟩) hlk dX11_told_106
  · replace hf := (if_neg c3).symm.trans hf
    refine g_getall X S sfX11_125 dX11_told_22 (fun q4 hq4 => ?_)
    refine lv_iload_n X.1 X.2.1 dX11_told_25 rfl (lv_at hl 3 rfl) ?_
    refine g_all X S hq4 dX11_told_26 hf (fun v5 hf => ?_)
    refine g_wdT X S (wfX11_110) dX11_told_27 hf (fun v6 hf => ?_)
    refine g_astore (lv' := [(4, sv E v6), (0, rv x0), (1, .int x1), (2, .int x2), (3, .int x3)]) X (or_sv _ _) dX11_told_30 hl (by decide) rfl (fun ls hl => ?_)
    refine lv_iconst (v := 0) X.1 X.2.1 dX11_told_32 (by decide) ?_
    refine lv_istore (lv' := [(5, .int 0), (4, sv E v6), (0, rv x0), (1, .int x1), (2, .int x2), (3, .int x3)]) X.1 X.2.1 dX11_told_33 hl (by decide) (by simp [List.filter, cat_rv, cat_wv, cat_sv]) (fun ls hl => ?_)
    exact wfX11_told_35_l X hr hlk hnm hk14 FU _ _ _ _ _ _ _ _ _ (lv_sub hl [2, 3, 4, 5, 1, 0] rfl) S hf
theorem wfX11_told_14_l {h : Hp} {r9 : Nat} (X : Cx p E A 8 R s m args c cX11_told yX11_told.cls 6) (hr : meth.sig.returnType = (some (.object "NibbleEngine$Word"))) (hlk : meth.locks = false) (hnm : meth.name = yX11_told.name) :
    ∀ (n : Nat) (x0 : Nat) (x1 : Int32) (x2 : Int32) (x3 : Int32) (H : Heap) (locs : List Loc) (ls : Array Slot), lv_has ls 6 [(0, rv x0), (1, .int x1), (2, .int x2), (3, .int x3)] → St E A s h H locs → lp (fun _ _ _ _ => none) (fX11_told_14 h) n x0 x1 x2 x3 = some r9 → W p l e R s m args below meth c H locs 0 0 (MQ below (Qq E A h (oF E.2.2.2.1 r9)) args s 0 0 A) (F0 m 14 ls []) := by
  intro n
  induction n with
  | zero =>
    intro x0 x1 x2 x3 H locs ls hl S hf
    exact nomatch hf
  | succ n ih =>
    intro x0 x1 x2 x3 H locs ls hl S hf
    exact wfX11_told_14 X hr hlk hnm ih x0 x1 x2 x3 H locs ls hl S hf
def fX11_told (a0 : Nat) (a1 : Int32) (a2 : Int32) (h : Hp) : Option (Nat) := if a1 < 0 then some 0 else ob (aN 101 a0 h) fun v2 => if a2 ≤ v2 then lp (fun _ _ _ _ => none) (fX11_told_14 h) FU a0 a1 a2 0 else some 0
theorem cX11_told_m (l : Launch) {E : EE} {A : Nat → Prop} {a0 : Nat} {a1 : Int32} {a2 : Int32} {h : Hp} {r9 : Nat} (hf : fX11_told a0 a1 a2 h = some r9) : Met l yX11_told (wsM yX11_told cX11_told 6 (some (.object "NibbleEngine$Word"))) (rmm 8 0 0) (PcE E A h [rv a0, .int a1, .int a2]) (Qq E A h (oF E.2.2.2.1 r9)) 0 0 A := by
  refine met_of (by decide +kernel) (by simp [lg_sl, cat_rv, cat_wv, cat_sv, cat_i, cat_l, cat_a]) (fun p e s m args below meth c ls X hr hlk hnm S hl => ?_)
  have hl : lv_has ls 6 [(0, rv a0), (1, .int a1), (2, .int a2)] := by simpa [lv_args, cat_rv, cat_wv, cat_sv, cat_i, cat_l, cat_a] using hl
  generalize hH : s.heap = H at S ⊢
  generalize hlo : ([] : List Loc) = locs at S ⊢
  clear hH hlo
  unfold fX11_told at hf
  refine lv_iload_n X.1 X.2.1 dX11_told_0 rfl (lv_at hl 1 rfl) ?_
  refine lv_if_lt (tgt := 10) X.1 X.2.1 dX11_told_1 (by decide) (fun c1 => ?_) (fun c1 => ?_)
  · replace hf := (if_pos c1).symm.trans hf
    refine lv_null X.1 X.2.1 dX11_told_10 ?_
    cases hf; exact g_rq X S hr (Or.inl ⟨_, rfl⟩) hlk dX11_told_11
  · replace hf := (if_neg c1).symm.trans hf
    refine lv_iload_n X.1 X.2.1 dX11_told_4 rfl (lv_at hl 2 rfl) ?_
    refine g_aload_n X (or_rv _) dX11_told_5 rfl (lv_at hl 0 rfl) ?_
    refine g_aN X S (by decide) dX11_told_6 hf (fun v2 hf => ?_)
    refine lv_icmp_le (tgt := 12) X.1 X.2.1 dX11_told_7 (by decide) (fun c3 => ?_) (fun c3 => ?_)
    · replace hf := (if_pos c3).symm.trans hf
      refine lv_iconst (v := 0) X.1 X.2.1 dX11_told_12 (by decide) ?_
      refine lv_istore_n (i := 3) (lv' := [(3, .int 0), (0, rv a0), (1, .int a1), (2, .int a2)]) X.1 X.2.1 dX11_told_13 rfl hl (by decide) rfl (fun ls hl => ?_)
      exact wfX11_told_14_l X hr hlk hnm FU _ _ _ _ _ _ _ (lv_sub hl [1, 2, 3, 0] rfl) S hf
    · replace hf := (if_neg c3).symm.trans hf
      refine lv_null X.1 X.2.1 dX11_told_10 ?_
      cases hf; exact g_rq X S hr (Or.inl ⟨_, rfl⟩) hlk dX11_told_11
def fX10_isPlace (a0 : Int32) : Option (Int32) := if a0 < 0 then some 0 else if 256 ≤ a0 then some 0 else some 1
theorem cX10_isPlace_m (l : Launch) {E : EE} {A : Nat → Prop} {a0 : Int32} {h : Hp} {r9 : Int32} (hf : fX10_isPlace a0 = some r9) : Met l yX10_isPlace (wsM yX10_isPlace cX10_isPlace 1 (some .boolean)) (rmm 8 0 0) (PcE E A h [.int a0]) (Qi E A h r9) 0 0 A := by
  refine met_of (by decide +kernel) (by simp [lg_sl, cat_rv, cat_wv, cat_sv, cat_i, cat_l, cat_a]) (fun p e s m args below meth c ls X hr hlk hnm S hl => ?_)
  have hl : lv_has ls 1 [(0, .int a0)] := by simpa [lv_args, cat_rv, cat_wv, cat_sv, cat_i, cat_l, cat_a] using hl
  generalize hH : s.heap = H at S ⊢
  generalize hlo : ([] : List Loc) = locs at S ⊢
  clear hH hlo
  unfold fX10_isPlace at hf
  refine lv_iload_n X.1 X.2.1 dX10_isPlace_0 rfl (lv_at hl 0 rfl) ?_
  refine lv_if_lt (tgt := 15) X.1 X.2.1 dX10_isPlace_1 (by decide) (fun c1 => ?_) (fun c1 => ?_)
  · replace hf := (if_pos c1).symm.trans hf
    refine lv_iconst (v := 0) X.1 X.2.1 dX10_isPlace_15 (by decide) ?_
    cases hf; exact g_rz X S hr hlk (by decide) dX10_isPlace_16
  · replace hf := (if_neg c1).symm.trans hf
    refine lv_iload_n X.1 X.2.1 dX10_isPlace_4 rfl (lv_at hl 0 rfl) ?_
    refine lv_sipush (v := 256) X.1 X.2.1 dX10_isPlace_5 (by decide) ?_
    refine lv_icmp_ge (tgt := 15) X.1 X.2.1 dX10_isPlace_8 (by decide) (fun c2 => ?_) (fun c2 => ?_)
    · replace hf := (if_pos c2).symm.trans hf
      refine lv_iconst (v := 0) X.1 X.2.1 dX10_isPlace_15 (by decide) ?_
      cases hf; exact g_rz X S hr hlk (by decide) dX10_isPlace_16
    · replace hf := (if_neg c2).symm.trans hf
      refine lv_iconst (v := 1) X.1 X.2.1 dX10_isPlace_11 (by decide) ?_
      refine lv_goto (tgt := 16) X.1 X.2.1 dX10_isPlace_12 (by decide) ?_
      cases hf; exact g_rz X S hr hlk (by decide) dX10_isPlace_16
def fX10_withHalf (a0 : Int32) (a1 : Int32) (a2 : Int32) : Option (Int32) := if a1 = 0 then some ((a2 <<< ((4 : Int32) &&& 31)) ||| (a0 &&& (15 : Int32))) else some ((a0 &&& (240 : Int32)) ||| a2)
theorem cX10_withHalf_m (l : Launch) {E : EE} {A : Nat → Prop} {a0 : Int32} {a1 : Int32} {a2 : Int32} {h : Hp} {r9 : Int32} (hf : fX10_withHalf a0 a1 a2 = some r9) : Met l yX10_withHalf (wsM yX10_withHalf cX10_withHalf 3 (some .int)) (rmm 8 0 0) (PcE E A h [.int a0, .int a1, .int a2]) (Qi E A h r9) 0 0 A := by
  refine met_of (by decide +kernel) (by simp [lg_sl, cat_rv, cat_wv, cat_sv, cat_i, cat_l, cat_a]) (fun p e s m args below meth c ls X hr hlk hnm S hl => ?_)
  have hl : lv_has ls 3 [(0, .int a0), (1, .int a1), (2, .int a2)] := by simpa [lv_args, cat_rv, cat_wv, cat_sv, cat_i, cat_l, cat_a] using hl
  generalize hH : s.heap = H at S ⊢
  generalize hlo : ([] : List Loc) = locs at S ⊢
  clear hH hlo
  unfold fX10_withHalf at hf
  refine lv_iload_n X.1 X.2.1 dX10_withHalf_0 rfl (lv_at hl 1 rfl) ?_
  refine lv_if_ne (tgt := 15) X.1 X.2.1 dX10_withHalf_1 (by decide) (fun c1 => ?_) (fun c1 => ?_)
  · replace hf := (if_neg c1).symm.trans hf
    refine lv_iload_n X.1 X.2.1 dX10_withHalf_15 rfl (lv_at hl 0 rfl) ?_
    refine lv_sipush (v := 240) X.1 X.2.1 dX10_withHalf_16 (by decide) ?_
    refine lv_iand X.1 X.2.1 dX10_withHalf_19 ?_
    refine lv_iload_n X.1 X.2.1 dX10_withHalf_20 rfl (lv_at hl 2 rfl) ?_
    refine lv_ior X.1 X.2.1 dX10_withHalf_21 ?_
    cases hf; exact g_ri X S hr hlk dX10_withHalf_22
  · replace hf := (if_pos c1).symm.trans hf
    refine lv_iload_n X.1 X.2.1 dX10_withHalf_4 rfl (lv_at hl 2 rfl) ?_
    refine lv_iconst (v := 4) X.1 X.2.1 dX10_withHalf_5 (by decide) ?_
    refine lv_ishl X.1 X.2.1 dX10_withHalf_6 ?_
    refine lv_iload_n X.1 X.2.1 dX10_withHalf_7 rfl (lv_at hl 0 rfl) ?_
    refine lv_bipush (v := 15) X.1 X.2.1 dX10_withHalf_8 (by decide) ?_
    refine lv_iand X.1 X.2.1 dX10_withHalf_10 ?_
    refine lv_ior X.1 X.2.1 dX10_withHalf_11 ?_
    refine lv_goto (tgt := 22) X.1 X.2.1 dX10_withHalf_12 (by decide) ?_
    cases hf; exact g_ri X S hr hlk dX10_withHalf_22
def fX6_layHalf (a0 : Nat) (a1 : Int32) (a2 : Int32) (h : Hp) : Option (Hp) := gd 6 a0 h (lt (a1 >>> ((1 : Int32) &&& 31)) fun z1 => ob (fX10_isPlace z1) fun v2 => if v2 = 0 then some h else ob (gR 6 a0 1 h) fun v4 => ob (gR 6 a0 1 h) fun v5 => ob (aI v5 z1 h) fun v6 => ob (fX10_withHalf v6 (a1 &&& (1 : Int32)) a2) fun v7 => ob (qI v4 z1 v7 h) fun h => some h)
theorem tkX6_layHalf {a0 : Nat} {a1 : Int32} {a2 : Int32} {h : Hp} {r9 : Hp} (e : fX6_layHalf a0 a1 a2 h = some r9) : hK h a0 = 6 := by
  unfold fX6_layHalf at e
  exact (gd_some e).1
theorem cX6_layHalf_m (l : Launch) {E : EE} {A : Nat → Prop} {a0 : Nat} {a1 : Int32} {a2 : Int32} {h : Hp} {h9 : Hp} (hf : fX6_layHalf a0 a1 a2 h = some h9) : Met l yX6_layHalf (wsM yX6_layHalf cX6_layHalf 4 none) (rmm 9 0 0) (PcE E A h [rv a0, .int a1, .int a2]) (Qv E A h9) 0 0 A := by
  refine met_of (by decide +kernel) (by simp [lg_sl, cat_rv, cat_wv, cat_sv, cat_i, cat_l, cat_a]) (fun p e s m args below meth c ls X hr hlk hnm S hl => ?_)
  have hl : lv_has ls 4 [(0, rv a0), (1, .int a1), (2, .int a2)] := by simpa [lv_args, cat_rv, cat_wv, cat_sv, cat_i, cat_l, cat_a] using hl
  generalize hH : s.heap = H at S ⊢
  generalize hlo : ([] : List Loc) = locs at S ⊢
  clear hH hlo
  unfold fX6_layHalf at hf
  obtain ⟨hth, hf⟩ := gd_some hf
  refine lv_iload_n X.1 X.2.1 dX6_layHalf_0 rfl (lv_at hl 1 rfl) ?_
  refine lv_iconst (v := 1) X.1 X.2.1 dX6_layHalf_1 (by decide) ?_
  refine lv_ishr X.1 X.2.1 dX6_layHalf_2 ?_
  refine g_lti hf (fun z1 hf => ?_)
  refine lv_istore_n (i := 3) (lv' := [(3, .int z1), (0, rv a0), (1, .int a1), (2, .int a2)]) X.1 X.2.1 dX6_layHalf_3 rfl hl (by decide) rfl (fun ls hl => ?_)
  refine lv_iload_n X.1 X.2.1 dX6_layHalf_4 rfl (lv_at hl 0 rfl) ?_
  obtain ⟨v2, hc, hf⟩ := ob_some hf
  refine g_ci S (runS (As := [.int z1]) (rest := []) X S coX6_30 (by decide) (cX10_isPlace_m l hc) rfl hl.1 (by decide) rfl ⟨Nat.zero_le _, Nat.zero_le _⟩ dX6_layHalf_5) (fun H locs S => ?_)
  refine lv_if_eq (tgt := 30) X.1 X.2.1 dX6_layHalf_8 (by decide) (fun c3 => ?_) (fun c3 => ?_)
  · replace hf := (if_pos c3).symm.trans hf
    cases hf; exact g_rv X S hr hlk dX6_layHalf_30
  · replace hf := (if_neg c3).symm.trans hf
    refine g_aload_n X (or_rv _) dX6_layHalf_11 rfl (lv_at hl 1 rfl) ?_
    refine g_gR X S foX6_17 dX6_layHalf_12 hf (fun v4 hf => ?_)
    refine lv_iload_n X.1 X.2.1 dX6_layHalf_15 rfl (lv_at hl 0 rfl) ?_
    refine g_aload_n X (or_rv _) dX6_layHalf_16 rfl (lv_at hl 1 rfl) ?_
    refine g_gR X S foX6_17 dX6_layHalf_17 hf (fun v5 hf => ?_)
    refine lv_iload_n X.1 X.2.1 dX6_layHalf_20 rfl (lv_at hl 0 rfl) ?_
    refine g_aI X S dX6_layHalf_21 hf (fun v6 hf => ?_)
    refine lv_iload_n X.1 X.2.1 dX6_layHalf_22 rfl (lv_at hl 2 rfl) ?_
    refine lv_iconst (v := 1) X.1 X.2.1 dX6_layHalf_23 (by decide) ?_
    refine lv_iand X.1 X.2.1 dX6_layHalf_24 ?_
    refine lv_iload_n X.1 X.2.1 dX6_layHalf_25 rfl (lv_at hl 3 rfl) ?_
    obtain ⟨v7, hc, hf⟩ := ob_some hf
    refine g_ci S (runS (As := [.int v6, .int (a1 &&& (1 : Int32)), .int a2]) (rest := [.int z1, rv v4]) X S coX6_34 (by decide) (cX10_withHalf_m l hc) rfl hl.1 (by simp [cat_rv, cat_wv, cat_sv, cat_i, cat_l, cat_a]) rfl ⟨Nat.zero_le _, Nat.zero_le _⟩ dX6_layHalf_26) (fun H locs S => ?_)
    refine g_qI X S dX6_layHalf_29 hf (fun h H locs hm hf S => ?_)
    cases hf; exact g_rv X S hr hlk dX6_layHalf_30
def fX6_size (a0 : Nat) (h : Hp) : Option (Int32) := gd 6 a0 h (ob (gI 6 a0 2 h) fun v1 => some v1)
theorem tkX6_size {a0 : Nat} {h : Hp} {r9 : Int32} (e : fX6_size a0 h = some r9) : hK h a0 = 6 := by
  unfold fX6_size at e
  exact (gd_some e).1
theorem cX6_size_m (l : Launch) {E : EE} {A : Nat → Prop} {a0 : Nat} {h : Hp} {r9 : Int32} (hf : fX6_size a0 h = some r9) : Met l yX6_size (wsM yX6_size cX6_size 1 (some .int)) (rmm 8 0 0) (PcE E A h [rv a0]) (Qi E A h r9) 0 0 A := by
  refine met_of (by decide +kernel) (by simp [lg_sl, cat_rv, cat_wv, cat_sv, cat_i, cat_l, cat_a]) (fun p e s m args below meth c ls X hr hlk hnm S hl => ?_)
  have hl : lv_has ls 1 [(0, rv a0)] := by simpa [lv_args, cat_rv, cat_wv, cat_sv, cat_i, cat_l, cat_a] using hl
  generalize hH : s.heap = H at S ⊢
  generalize hlo : ([] : List Loc) = locs at S ⊢
  clear hH hlo
  unfold fX6_size at hf
  obtain ⟨hth, hf⟩ := gd_some hf
  refine g_aload_n X (or_rv _) dX6_size_0 rfl (lv_at hl 0 rfl) ?_
  refine g_gI X S foX6_21 rfl dX6_size_1 hf (fun v1 hf => ?_)
  cases hf; exact g_ri X S hr hlk dX6_size_4
def fX5_renew (a0 : Nat) (a1 : Nat) (h : Hp) : Option (Hp) := gd 5 a0 h (ob (pR 5 a0 0 a1 h) fun h => ob (pI 5 a0 1 0 h) fun h => ob (pI 5 a0 2 (-1) h) fun h => ob (pI 5 a0 3 0 h) fun h => ob (pI 5 a0 4 0 h) fun h => ob (pI 5 a0 5 (-1) h) fun h => ob (pI 5 a0 6 0 h) fun h => ob (pI 5 a0 7 0 h) fun h => ob (pI 5 a0 8 0 h) fun h => ob (pI 5 a0 9 0 h) fun h => ob (pI 5 a0 10 (-1) h) fun h => some h)
theorem tkX5_renew {a0 : Nat} {a1 : Nat} {h : Hp} {r9 : Hp} (e : fX5_renew a0 a1 h = some r9) : hK h a0 = 5 := by
  unfold fX5_renew at e
  exact (gd_some e).1
theorem cX5_renew_m (l : Launch) {E : EE} {A : Nat → Prop} {a0 : Nat} {a1 : Nat} {h : Hp} {h9 : Hp} (hf : fX5_renew a0 a1 h = some h9) : Met l yX5_renew (wsM yX5_renew cX5_renew 2 none) (rmm 8 0 0) (PcE E A h [rv a0, wv E a1]) (Qv E A h9) 0 0 A := by
  refine met_of (by decide +kernel) (by simp [lg_sl, cat_rv, cat_wv, cat_sv, cat_i, cat_l, cat_a]) (fun p e s m args below meth c ls X hr hlk hnm S hl => ?_)
  have hl : lv_has ls 2 [(0, rv a0), (1, wv E a1)] := by simpa [lv_args, cat_rv, cat_wv, cat_sv, cat_i, cat_l, cat_a] using hl
  generalize hH : s.heap = H at S ⊢
  generalize hlo : ([] : List Loc) = locs at S ⊢
  clear hH hlo
  unfold fX5_renew at hf
  obtain ⟨hth, hf⟩ := gd_some hf
  refine g_aload_n X (or_rv _) dX5_renew_0 rfl (lv_at hl 0 rfl) ?_
  refine g_aload_n X (or_wv _ _) dX5_renew_1 rfl (lv_at hl 1 rfl) ?_
  refine g_pW X S fpX5_15 (Or.inl ⟨_, rfl⟩) (Or.inl rfl) dX5_renew_2 hf (fun h H locs hm hf S => ?_)
  refine g_aload_n X (or_rv _) dX5_renew_5 rfl (lv_at hl 0 rfl) ?_
  refine lv_iconst (v := 0) X.1 X.2.1 dX5_renew_6 (by decide) ?_
  refine g_pI X S fpX5_20 (Or.inl rfl) dX5_renew_7 hf (fun h H locs hm hf S => ?_)
  refine g_aload_n X (or_rv _) dX5_renew_10 rfl (lv_at hl 0 rfl) ?_
  refine lv_iconst (v := (-1)) X.1 X.2.1 dX5_renew_11 (by decide) ?_
  refine g_pI X S fpX5_24 (Or.inl rfl) dX5_renew_12 hf (fun h H locs hm hf S => ?_)
  refine g_aload_n X (or_rv _) dX5_renew_15 rfl (lv_at hl 0 rfl) ?_
  refine lv_iconst (v := 0) X.1 X.2.1 dX5_renew_16 (by decide) ?_
  refine g_pI X S fpX5_27 (Or.inl rfl) dX5_renew_17 hf (fun h H locs hm hf S => ?_)
  refine g_aload_n X (or_rv _) dX5_renew_20 rfl (lv_at hl 0 rfl) ?_
  refine lv_iconst (v := 0) X.1 X.2.1 dX5_renew_21 (by decide) ?_
  refine g_pI X S fpX5_30 (Or.inl rfl) dX5_renew_22 hf (fun h H locs hm hf S => ?_)
  refine g_aload_n X (or_rv _) dX5_renew_25 rfl (lv_at hl 0 rfl) ?_
  refine lv_iconst (v := (-1)) X.1 X.2.1 dX5_renew_26 (by decide) ?_
  refine g_pI X S fpX5_33 (Or.inl rfl) dX5_renew_27 hf (fun h H locs hm hf S => ?_)
  refine g_aload_n X (or_rv _) dX5_renew_30 rfl (lv_at hl 0 rfl) ?_
  refine lv_iconst (v := 0) X.1 X.2.1 dX5_renew_31 (by decide) ?_
  refine g_pI X S fpX5_36 (Or.inl rfl) dX5_renew_32 hf (fun h H locs hm hf S => ?_)
  refine g_aload_n X (or_rv _) dX5_renew_35 rfl (lv_at hl 0 rfl) ?_
  refine lv_iconst (v := 0) X.1 X.2.1 dX5_renew_36 (by decide) ?_
  refine g_pI X S fpX5_39 (Or.inl rfl) dX5_renew_37 hf (fun h H locs hm hf S => ?_)
  refine g_aload_n X (or_rv _) dX5_renew_40 rfl (lv_at hl 0 rfl) ?_
  refine lv_iconst (v := 0) X.1 X.2.1 dX5_renew_41 (by decide) ?_
  refine g_pI X S fpX5_42 (Or.inl rfl) dX5_renew_42 hf (fun h H locs hm hf S => ?_)
  refine g_aload_n X (or_rv _) dX5_renew_45 rfl (lv_at hl 0 rfl) ?_
  refine lv_iconst (v := 0) X.1 X.2.1 dX5_renew_46 (by decide) ?_
  refine g_pI X S fpX5_45 (Or.inl rfl) dX5_renew_47 hf (fun h H locs hm hf S => ?_)
  refine g_aload_n X (or_rv _) dX5_renew_50 rfl (lv_at hl 0 rfl) ?_
  refine lv_iconst (v := (-1)) X.1 X.2.1 dX5_renew_51 (by decide) ?_
  refine g_pI X S fpX5_48 (Or.inl rfl) dX5_renew_52 hf (fun h H locs hm hf S => ?_)
  cases hf; exact g_rv X S hr hlk dX5_renew_55
def fX6_opened_39 (x0 : Nat) (x1 : Nat) (h : Hp) : Option (Nat × Hp) := ob (gR 6 x0 0 h) fun v1 => ob (gI 6 x0 2 h) fun v2 => ob (aR 104 v1 v2 h) fun v3 => obk h (fX5_renew v3 x1 h) fun h => ob (gI 6 x0 2 h) fun v5 => ob (pI 6 x0 2 (v5 + 1) h) fun h => some (v3, h)
theorem wfX6_opened_39 {h0 : Hp} {r9 : Nat} {h9 : Hp} (X : Cx p E A 9 R s m args c cX6_opened yX6_opened.cls 3) (hr : meth.sig.returnType = (some (.object "NibbleEngine$Instruction"))) (hlk : meth.locks = false) (hnm : meth.name = yX6_opened.name) :
    ∀ (x0 : Nat) (x1 : Nat) (h : Hp) (H : Heap) (locs : List Loc) (ls : Array Slot) (cells slots : Nat), lv_has ls 3 [(0, rv x0), (1, wv E x1)] → St E A s h H locs → AlI R s h0 h cells slots → fX6_opened_39 x0 x1 h = some (r9, h9) → W p l e R s m args below meth c H locs cells slots (MQ below (QG (Qq E A h9 (oR r9)) h0 h9) args s R.cells R.slots A) (F0 m 39 ls []) := by
  intro x0 x1 h H locs ls cells slots hl S AI hf
  unfold fX6_opened_39 at hf
  refine g_aload_n X (or_rv _) dX6_opened_39 rfl (lv_at hl 0 rfl) ?_
  refine g_gR X S foX6_11 dX6_opened_40 hf (fun v1 hf => ?_)
  refine g_aload_n X (or_rv _) dX6_opened_43 rfl (lv_at hl 0 rfl) ?_
  refine g_gI X S foX6_21 rfl dX6_opened_44 hf (fun v2 hf => ?_)
  refine g_aR X S (by decide) dX6_opened_47 hf (fun v3 hf => ?_)
  refine g_astore_n (i := 2) (lv' := [(2, rv v3), (0, rv x0), (1, wv E x1)]) X (or_rv _) dX6_opened_48 rfl hl (by decide) (by simp [List.filter, cat_rv, cat_wv, cat_sv]) (fun ls hl => ?_)
  refine g_aload_n X (or_rv _) dX6_opened_49 rfl (lv_at hl 0 rfl) ?_
  refine g_aload_n X (or_wv _ _) dX6_opened_50 rfl (lv_at hl 2 rfl) ?_
  obtain ⟨h, hc, hok, hf⟩ := obk_some hf
  refine g_cv S (runV (As := [wv E x1]) (rest := []) X S coX6_26 (by decide) (cX5_renew_m l hc) (tkX5_renew hc) rfl hl.1 (by decide) rfl AI.fit dX6_opened_51) (fun H locs S => ?_)
  replace AI := AI.kc hok
  refine g_aload_n X (or_rv _) dX6_opened_54 rfl (lv_at hl 1 rfl) ?_
  refine lv_dup X.1 X.2.1 dX6_opened_55 (cat_rv _) ?_
  refine g_gI X S foX6_21 rfl dX6_opened_56 hf (fun v5 hf => ?_)
  refine lv_iconst (v := 1) X.1 X.2.1 dX6_opened_59 (by decide) ?_
  refine lv_iadd X.1 X.2.1 dX6_opened_60 ?_
  refine g_pI X S fpX6_21 (Or.inl rfl) dX6_opened_61 hf (fun h H locs hm hf S => ?_)
  replace AI := AI.sm hm
  refine g_aload_n X (or_rv _) dX6_opened_64 rfl (lv_at hl 0 rfl) ?_
  cases hf; exact g_rqA X S AI hr (Or.inl ⟨_, rfl⟩) hlk dX6_opened_65
def fX6_opened (a0 : Nat) (a1 : Nat) (h : Hp) : Option (Nat × Hp) := gd 6 a0 h (ob (gI 6 a0 2 h) fun v1 => if v1 < 60 then ob (gR 6 a0 0 h) fun v3 => ob (gI 6 a0 2 h) fun v4 => ob (aR 104 v3 v4 h) fun v5 => if v5 = 0 then ob (gR 6 a0 0 h) fun v7 => ob (gI 6 a0 2 h) fun v8 => ob2 (newO 5 11 h) fun p9 h => obk h (fX5_init p9 h) fun h => ob (qR 104 5 v7 v8 p9 h) fun h => fX6_opened_39 a0 a1 h else fX6_opened_39 a0 a1 h else some (0, h))
theorem tkX6_opened {a0 : Nat} {a1 : Nat} {h : Hp} {r9 : Nat × Hp} (e : fX6_opened a0 a1 h = some r9) : hK h a0 = 6 := by
  unfold fX6_opened at e
  exact (gd_some e).1
theorem cX6_opened_m (l : Launch) {E : EE} {A : Nat → Prop} {a0 : Nat} {a1 : Nat} {h : Hp} {r9 : Nat} {h9 : Hp} {mc ms : Nat} (hmc : mc + hX h = hC h) (hms : ms + hU h = hZ h) (hf : fX6_opened a0 a1 h = some (r9, h9)) : Met l yX6_opened (wsM yX6_opened cX6_opened 3 (some (.object "NibbleEngine$Instruction"))) (rmm 9 mc ms) (PcF E A h [rv a0, wv E a1]) (QG (Qq E A h9 (oR r9)) h h9) mc ms A := by
  refine met_ofA (by decide +kernel) (by simp [lg_sl, cat_rv, cat_wv, cat_sv, cat_i, cat_l, cat_a]) hmc hms (fun p e s m args below meth c ls X hr hlk hnm S AI hl => ?_)
  have hl : lv_has ls 3 [(0, rv a0), (1, wv E a1)] := by simpa [lv_args, cat_rv, cat_wv, cat_sv, cat_i, cat_l, cat_a] using hl
  generalize hH : s.heap = H at S ⊢
  generalize hlo : ([] : List Loc) = locs at S ⊢
  clear hH hlo
  unfold fX6_opened at hf
  obtain ⟨hth, hf⟩ := gd_some hf
  refine g_aload_n X (or_rv _) dX6_opened_0 rfl (lv_at hl 0 rfl) ?_
  refine g_gI X S foX6_21 rfl dX6_opened_1 hf (fun v1 hf => ?_)
  refine lv_bipush (v := 60) X.1 X.2.1 dX6_opened_4 (by decide) ?_
  refine lv_icmp_lt (tgt := 11) X.1 X.2.1 dX6_opened_6 (by decide) (fun c2 => ?_) (fun c2 => ?_)
  · replace hf := (if_pos c2).symm.trans hf
    refine g_aload_n X (or_rv _) dX6_opened_11 rfl (lv_at hl 0 rfl) ?_
    refine g_gR X S foX6_11 dX6_opened_12 hf (fun v3 hf => ?_)
    refine g_aload_n X (or_rv _) dX6_opened_15 rfl (lv_at hl 0 rfl) ?_
    refine g_gI X S foX6_21 rfl dX6_opened_16 hf (fun v4 hf => ?_)
    refine g_aR X S (by decide) dX6_opened_19 hf (fun v5 hf => ?_)
    refine g_ifnonnull (tgt := 39) X dX6_opened_20 (by decide) (fun c6 => ?_) (fun c6 => ?_)
    · replace hf := (if_neg c6).symm.trans hf
      exact wfX6_opened_39 X hr hlk hnm _ _ _ _ _ _ _ _ hl S AI hf
    · replace hf := (if_pos c6).symm.trans hf
      refine g_aload_n X (or_rv _) dX6_opened_23 rfl (lv_at hl 0 rfl) ?_
      refine g_gR X S foX6_11 dX6_opened_24 hf (fun v7 hf => ?_)
      refine g_aload_n X (or_rv _) dX6_opened_27 rfl (lv_at hl 0 rfl) ?_
      refine g_gI X S foX6_21 rfl dX6_opened_28 hf (fun v8 hf => ?_)
      refine g_newO X S AI noX6_9 dX6_opened_31 hf (fun p9 h H cells slots hkp9 hf S AI => ?_)
      refine lv_dup X.1 X.2.1 dX6_opened_34 (cat_rv _) ?_
      obtain ⟨h, hc, hok, hf⟩ := obk_some hf
      refine g_cv S (runI (As := []) (rest := [rv p9, .int v8, rv v7]) X S coX6_25 (by decide) (cX5_init_m l hc) (tkX5_init hc) (by decide) rfl hl.1 (by simp [cat_rv, cat_wv, cat_sv, cat_i, cat_l, cat_a]) rfl AI.fit dX6_opened_35) (fun H locs S => ?_)
      replace AI := AI.kc hok
      refine g_qR X S (d := 5) (by decide) rfl (by decide) (by decide) dX6_opened_38 hf (fun h H locs hm hf S => ?_)
      replace AI := AI.sm hm
      exact wfX6_opened_39 X hr hlk hnm _ _ _ _ _ _ _ _ hl S AI hf
  · replace hf := (if_neg c2).symm.trans hf
    refine lv_null X.1 X.2.1 dX6_opened_9 ?_
    cases hf; exact g_rqA X S AI hr (Or.inl ⟨_, rfl⟩) hlk dX6_opened_10
def fX6_told (a0 : Nat) (a1 : Int32) (h : Hp) : Option (Nat) := gd 6 a0 h (if a1 < 0 then some 0 else ob (gI 6 a0 2 h) fun v2 => if v2 ≤ a1 then some 0 else ob (gR 6 a0 0 h) fun v4 => ob (aR 104 v4 a1 h) fun v5 => some v5)
theorem tkX6_told {a0 : Nat} {a1 : Int32} {h : Hp} {r9 : Nat} (e : fX6_told a0 a1 h = some r9) : hK h a0 = 6 := by
  unfold fX6_told at e
  exact (gd_some e).1
theorem cX6_told_m (l : Launch) {E : EE} {A : Nat → Prop} {a0 : Nat} {a1 : Int32} {h : Hp} {r9 : Nat} (hf : fX6_told a0 a1 h = some r9) : Met l yX6_told (wsM yX6_told cX6_told 2 (some (.object "NibbleEngine$Instruction"))) (rmm 8 0 0) (PcE E A h [rv a0, .int a1]) (Qq E A h (oR r9)) 0 0 A := by
  refine met_of (by decide +kernel) (by simp [lg_sl, cat_rv, cat_wv, cat_sv, cat_i, cat_l, cat_a]) (fun p e s m args below meth c ls X hr hlk hnm S hl => ?_)
  have hl : lv_has ls 2 [(0, rv a0), (1, .int a1)] := by simpa [lv_args, cat_rv, cat_wv, cat_sv, cat_i, cat_l, cat_a] using hl
  generalize hH : s.heap = H at S ⊢
  generalize hlo : ([] : List Loc) = locs at S ⊢
  clear hH hlo
  unfold fX6_told at hf
  obtain ⟨hth, hf⟩ := gd_some hf
  refine lv_iload_n X.1 X.2.1 dX6_told_0 rfl (lv_at hl 1 rfl) ?_
  refine lv_if_lt (tgt := 21) X.1 X.2.1 dX6_told_1 (by decide) (fun c1 => ?_) (fun c1 => ?_)
  · replace hf := (if_pos c1).symm.trans hf
    refine lv_null X.1 X.2.1 dX6_told_21 ?_
    cases hf; exact g_rq X S hr (Or.inl ⟨_, rfl⟩) hlk dX6_told_22
  · replace hf := (if_neg c1).symm.trans hf
    refine lv_iload_n X.1 X.2.1 dX6_told_4 rfl (lv_at hl 1 rfl) ?_
    refine g_aload_n X (or_rv _) dX6_told_5 rfl (lv_at hl 0 rfl) ?_
    refine g_gI X S foX6_21 rfl dX6_told_6 hf (fun v2 hf => ?_)
    refine lv_icmp_ge (tgt := 21) X.1 X.2.1 dX6_told_9 (by decide) (fun c3 => ?_) (fun c3 => ?_)
    · replace hf := (if_pos c3).symm.trans hf
      refine lv_null X.1 X.2.1 dX6_told_21 ?_
      cases hf; exact g_rq X S hr (Or.inl ⟨_, rfl⟩) hlk dX6_told_22
    · replace hf := (if_neg c3).symm.trans hf
      refine g_aload_n X (or_rv _) dX6_told_12 rfl (lv_at hl 0 rfl) ?_
      refine g_gR X S foX6_11 dX6_told_13 hf (fun v4 hf => ?_)
      refine lv_iload_n X.1 X.2.1 dX6_told_16 rfl (lv_at hl 1 rfl) ?_
      refine g_aR X S (by decide) dX6_told_17 hf (fun v5 hf => ?_)
      refine lv_goto (tgt := 22) X.1 X.2.1 dX6_told_18 (by decide) ?_
      cases hf; exact g_rq X S hr (Or.inl ⟨_, rfl⟩) hlk dX6_told_22
def fX6_laidAt (a0 : Nat) (a1 : Int32) (h : Hp) : Option (Int32) := gd 6 a0 h (ob (fX10_isPlace a1) fun v1 => if v1 = 0 then some 0 else ob (gR 6 a0 1 h) fun v3 => ob (aI v3 a1 h) fun v4 => some v4)
theorem tkX6_laidAt {a0 : Nat} {a1 : Int32} {h : Hp} {r9 : Int32} (e : fX6_laidAt a0 a1 h = some r9) : hK h a0 = 6 := by
  unfold fX6_laidAt at e
  exact (gd_some e).1
theorem cX6_laidAt_m (l : Launch) {E : EE} {A : Nat → Prop} {a0 : Nat} {a1 : Int32} {h : Hp} {r9 : Int32} (hf : fX6_laidAt a0 a1 h = some r9) : Met l yX6_laidAt (wsM yX6_laidAt cX6_laidAt 2 (some .int)) (rmm 9 0 0) (PcE E A h [rv a0, .int a1]) (Qi E A h r9) 0 0 A := by
  refine met_of (by decide +kernel) (by simp [lg_sl, cat_rv, cat_wv, cat_sv, cat_i, cat_l, cat_a]) (fun p e s m args below meth c ls X hr hlk hnm S hl => ?_)
  have hl : lv_has ls 2 [(0, rv a0), (1, .int a1)] := by simpa [lv_args, cat_rv, cat_wv, cat_sv, cat_i, cat_l, cat_a] using hl
  generalize hH : s.heap = H at S ⊢
  generalize hlo : ([] : List Loc) = locs at S ⊢
  clear hH hlo
  unfold fX6_laidAt at hf
  obtain ⟨hth, hf⟩ := gd_some hf
  refine lv_iload_n X.1 X.2.1 dX6_laidAt_0 rfl (lv_at hl 1 rfl) ?_
  obtain ⟨v1, hc, hf⟩ := ob_some hf
  refine g_ci S (runS (As := [.int a1]) (rest := []) X S coX6_30 (by decide) (cX10_isPlace_m l hc) rfl hl.1 (by decide) rfl ⟨Nat.zero_le _, Nat.zero_le _⟩ dX6_laidAt_1) (fun H locs S => ?_)
  refine lv_if_eq (tgt := 16) X.1 X.2.1 dX6_laidAt_4 (by decide) (fun c2 => ?_) (fun c2 => ?_)
  · replace hf := (if_pos c2).symm.trans hf
    refine lv_iconst (v := 0) X.1 X.2.1 dX6_laidAt_16 (by decide) ?_
    cases hf; exact g_ri X S hr hlk dX6_laidAt_17
  · replace hf := (if_neg c2).symm.trans hf
    refine g_aload_n X (or_rv _) dX6_laidAt_7 rfl (lv_at hl 0 rfl) ?_
    refine g_gR X S foX6_17 dX6_laidAt_8 hf (fun v3 hf => ?_)
    refine lv_iload_n X.1 X.2.1 dX6_laidAt_11 rfl (lv_at hl 1 rfl) ?_
    refine g_aI X S dX6_laidAt_12 hf (fun v4 hf => ?_)
    refine lv_goto (tgt := 17) X.1 X.2.1 dX6_laidAt_13 (by decide) ?_
    cases hf; exact g_ri X S hr hlk dX6_laidAt_17
def fX10_restart_73 (y0 : Int32) (y1 : Int32) (y2 : Nat) (h : Hp) : Option (Hp) := ob (qI y2 y1 y0 h) fun h => some h
theorem wfX10_restart_73 {h9 : Hp} (X : Cx p E A 10 R s m args c cX10_restart yX10_restart.cls 3) (hr : meth.sig.returnType = none) (hlk : meth.locks = false) (hnm : meth.name = yX10_restart.name) :
    ∀ (y0 : Int32) (y1 : Int32) (y2 : Nat) (h : Hp) (H : Heap) (locs : List Loc) (ls : Array Slot), lv_has ls 3 [] → St E A s h H locs → fX10_restart_73 y0 y1 y2 h = some h9 → W p l e R s m args below meth c H locs 0 0 (MQ below (Qv E A h9) args s 0 0 A) (F0 m 73 ls [.int y0, .int y1, rv y2]) := by
  intro y0 y1 y2 h H locs ls hl S hf
  unfold fX10_restart_73 at hf
  refine g_qI X S dX10_restart_73 hf (fun h H locs hm hf S => ?_)
  cases hf; exact g_rv X S hr hlk dX10_restart_74
def fX10_restart_30 (k30 : Nat → Nat → Int32 → Hp → Option (Hp)) (x0 : Nat) (x1 : Nat) (x2 : Int32) (h : Hp) : Option (Hp) := if 268 ≤ x2 then ob (fX10_clearGuards x0 h) fun h => ob (gR 9 x0 0 h) fun v3 => ob (fX6_size x1 h) fun v4 => if v4 ≤ 0 then fX10_restart_73 1 267 v3 h else fX10_restart_73 0 267 v3 h else ob (gR 9 x0 0 h) fun v6 => ob (qI v6 x2 0 h) fun h => lt (x2 + 1) fun z7 => k30 x0 x1 z7 h
theorem wfX10_restart_30 {k30 : Nat → Nat → Int32 → Hp → Option (Hp)} {h9 : Hp} (X : Cx p E A 10 R s m args c cX10_restart yX10_restart.cls 3) (hr : meth.sig.returnType = none) (hlk : meth.locks = false) (hnm : meth.name = yX10_restart.name) (hk30 : ∀ (x0 : Nat) (x1 : Nat) (x2 : Int32) (h : Hp) (H : Heap) (locs : List Loc) (ls : Array Slot), lv_has ls 3 [(0, rv x0), (1, rv x1), (2, .int x2)] → St E A s h H locs → k30 x0 x1 x2 h = some h9 → W p l e R s m args below meth c H locs 0 0 (MQ below (Qv E A h9) args s 0 0 A) (F0 m 30 ls [])) :
    ∀ (x0 : Nat) (x1 : Nat) (x2 : Int32) (h : Hp) (H : Heap) (locs : List Loc) (ls : Array Slot), lv_has ls 3 [(0, rv x0), (1, rv x1), (2, .int x2)] → St E A s h H locs → fX10_restart_30 k30 x0 x1 x2 h = some h9 → W p l e R s m args below meth c H locs 0 0 (MQ below (Qv E A h9) args s 0 0 A) (F0 m 30 ls []) := by
  intro x0 x1 x2 h H locs ls hl S hf
  unfold fX10_restart_30 at hf
  refine lv_iload_n X.1 X.2.1 dX10_restart_30 rfl (lv_at hl 2 rfl) ?_
  refine lv_sipush (v := 268) X.1 X.2.1 dX10_restart_31 (by decide) ?_
  refine lv_icmp_ge (tgt := 50) X.1 X.2.1 dX10_restart_34 (by decide) (fun c1 => ?_) (fun c1 => ?_)
  · replace hf := (if_pos c1).symm.trans hf
    refine g_aload_n X (or_rv _) dX10_restart_50 rfl (lv_at hl 0 rfl) ?_
    obtain ⟨h, hc, hf⟩ := ob_some hf
    refine g_cv S (runV (As := []) (rest := []) X S coX10_59 (by decide) (cX10_clearGuards_m l hc) (tkX10_clearGuards hc) rfl hl.1 (by decide) rfl ⟨Nat.zero_le _, Nat.zero_le _⟩ dX10_restart_51) (fun H locs S => ?_)
    refine g_aload_n X (or_rv _) dX10_restart_54 rfl (lv_at hl 0 rfl) ?_
    refine g_gR X S foX10_13 dX10_restart_55 hf (fun v3 hf => ?_)
    refine lv_sipush (v := 267) X.1 X.2.1 dX10_restart_58 (by decide) ?_
    refine g_aload_n X (or_rv _) dX10_restart_61 rfl (lv_at hl 1 rfl) ?_
    obtain ⟨v4, hc, hf⟩ := ob_some hf
    refine g_ci S (runV (As := []) (rest := [.int 267, rv v3]) X S coX10_62 (by decide) (cX6_size_m l hc) (tkX6_size hc) rfl hl.1 (by simp [cat_rv, cat_wv, cat_sv, cat_i, cat_l, cat_a]) rfl ⟨Nat.zero_le _, Nat.zero_le _⟩ dX10_restart_62) (fun H locs S => ?_)
    refine lv_if_le (tgt := 72) X.1 X.2.1 dX10_restart_65 (by decide) (fun c5 => ?_) (fun c5 => ?_)
    · replace hf := (if_pos c5).symm.trans hf
      refine lv_iconst (v := 1) X.1 X.2.1 dX10_restart_72 (by decide) ?_
      exact wfX10_restart_73 X hr hlk hnm _ _ _ _ _ _ _ (lv_sub hl [] rfl) S hf
    · replace hf := (if_neg c5).symm.trans hf
      refine lv_iconst (v := 0) X.1 X.2.1 dX10_restart_68 (by decide) ?_
      refine lv_goto (tgt := 73) X.1 X.2.1 dX10_restart_69 (by decide) ?_
      exact wfX10_restart_73 X hr hlk hnm _ _ _ _ _ _ _ (lv_sub hl [] rfl) S hf
  · replace hf := (if_neg c1).symm.trans hf
    refine g_aload_n X (or_rv _) dX10_restart_37 rfl (lv_at hl 0 rfl) ?_
    refine g_gR X S foX10_13 dX10_restart_38 hf (fun v6 hf => ?_)
    refine lv_iload_n X.1 X.2.1 dX10_restart_41 rfl (lv_at hl 2 rfl) ?_
    refine lv_iconst (v := 0) X.1 X.2.1 dX10_restart_42 (by decide) ?_
    refine g_qI X S dX10_restart_43 hf (fun h H locs hm hf S => ?_)
    obtain ⟨z7, ez7, hf⟩ := lt_some hf
    refine lv_iinc (v := z7) (lv' := [(2, .int z7), (0, rv x0), (1, rv x1)]) X.1 X.2.1 dX10_restart_44 hl (k := 2) rfl (by rw [← ez7]; rfl) (by decide) (by simp [List.filter, cat_rv, cat_wv, cat_sv]) (fun ls hl => ?_)
    refine lv_goto (tgt := 30) X.1 X.2.1 dX10_restart_47 (by decide) ?_
    exact hk30 _ _ _ _ _ _ _ (lv_sub hl [1, 2, 0] rfl) S hf
theorem wfX10_restart_30_l {h9 : Hp} (X : Cx p E A 10 R s m args c cX10_restart yX10_restart.cls 3) (hr : meth.sig.returnType = none) (hlk : meth.locks = false) (hnm : meth.name = yX10_restart.name) :
    ∀ (n : Nat) (x0 : Nat) (x1 : Nat) (x2 : Int32) (h : Hp) (H : Heap) (locs : List Loc) (ls : Array Slot), lv_has ls 3 [(0, rv x0), (1, rv x1), (2, .int x2)] → St E A s h H locs → lp (fun _ _ _ _ => none) (fX10_restart_30) n x0 x1 x2 h = some h9 → W p l e R s m args below meth c H locs 0 0 (MQ below (Qv E A h9) args s 0 0 A) (F0 m 30 ls []) := by
  intro n
  induction n with
  | zero =>
    intro x0 x1 x2 h H locs ls hl S hf
    exact nomatch hf
  | succ n ih =>
    intro x0 x1 x2 h H locs ls hl S hf
    exact wfX10_restart_30 X hr hlk hnm ih x0 x1 x2 h H locs ls hl S hf
def fX10_restart_2 (k2 : Nat → Nat → Int32 → Hp → Option (Hp)) (x0 : Nat) (x1 : Nat) (x2 : Int32) (h : Hp) : Option (Hp) := if 256 ≤ x2 then lp (fun _ _ _ _ => none) (fX10_restart_30) FU x0 x1 256 h else ob (gR 9 x0 0 h) fun v2 => ob (fX6_laidAt x1 x2 h) fun v3 => ob (qI v2 x2 v3 h) fun h => lt (x2 + 1) fun z4 => k2 x0 x1 z4 h
theorem wfX10_restart_2 {k2 : Nat → Nat → Int32 → Hp → Option (Hp)} {h9 : Hp} (X : Cx p E A 10 R s m args c cX10_restart yX10_restart.cls 3) (hr : meth.sig.returnType = none) (hlk : meth.locks = false) (hnm : meth.name = yX10_restart.name) (hk2 : ∀ (x0 : Nat) (x1 : Nat) (x2 : Int32) (h : Hp) (H : Heap) (locs : List Loc) (ls : Array Slot), lv_has ls 3 [(0, rv x0), (1, rv x1), (2, .int x2)] → St E A s h H locs → k2 x0 x1 x2 h = some h9 → W p l e R s m args below meth c H locs 0 0 (MQ below (Qv E A h9) args s 0 0 A) (F0 m 2 ls [])) :
    ∀ (x0 : Nat) (x1 : Nat) (x2 : Int32) (h : Hp) (H : Heap) (locs : List Loc) (ls : Array Slot), lv_has ls 3 [(0, rv x0), (1, rv x1), (2, .int x2)] → St E A s h H locs → fX10_restart_2 k2 x0 x1 x2 h = some h9 → W p l e R s m args below meth c H locs 0 0 (MQ below (Qv E A h9) args s 0 0 A) (F0 m 2 ls []) := by
  intro x0 x1 x2 h H locs ls hl S hf
  unfold fX10_restart_2 at hf
  refine lv_iload_n X.1 X.2.1 dX10_restart_2 rfl (lv_at hl 2 rfl) ?_
  refine lv_sipush (v := 256) X.1 X.2.1 dX10_restart_3 (by decide) ?_
  refine lv_icmp_ge (tgt := 26) X.1 X.2.1 dX10_restart_6 (by decide) (fun c1 => ?_) (fun c1 => ?_)
  · replace hf := (if_pos c1).symm.trans hf
    refine lv_sipush (v := 256) X.1 X.2.1 dX10_restart_26 (by decide) ?_
    refine lv_istore_n (i := 2) (lv' := [(2, .int 256), (0, rv x0), (1, rv x1)]) X.1 X.2.1 dX10_restart_29 rfl hl (by decide) (by simp [List.filter, cat_rv, cat_wv, cat_sv]) (fun ls hl => ?_)
    exact wfX10_restart_30_l X hr hlk hnm FU _ _ _ _ _ _ _ (lv_sub hl [1, 2, 0] rfl) S hf
  · replace hf := (if_neg c1).symm.trans hf
    refine g_aload_n X (or_rv _) dX10_restart_9 rfl (lv_at hl 0 rfl) ?_
    refine g_gR X S foX10_13 dX10_restart_10 hf (fun v2 hf => ?_)
    refine lv_iload_n X.1 X.2.1 dX10_restart_13 rfl (lv_at hl 2 rfl) ?_
    refine g_aload_n X (or_rv _) dX10_restart_14 rfl (lv_at hl 1 rfl) ?_
    refine lv_iload_n X.1 X.2.1 dX10_restart_15 rfl (lv_at hl 2 rfl) ?_
    obtain ⟨v3, hc, hf⟩ := ob_some hf
    refine g_ci S (runV (As := [.int x2]) (rest := [.int x2, rv v2]) X S coX10_56 (by decide) (cX6_laidAt_m l hc) (tkX6_laidAt hc) rfl hl.1 (by simp [cat_rv, cat_wv, cat_sv, cat_i, cat_l, cat_a]) rfl ⟨Nat.zero_le _, Nat.zero_le _⟩ dX10_restart_16) (fun H locs S => ?_)
    refine g_qI X S dX10_restart_19 hf (fun h H locs hm hf S => ?_)
    obtain ⟨z4, ez4, hf⟩ := lt_some hf
    refine lv_iinc (v := z4) (lv' := [(2, .int z4), (0, rv x0), (1, rv x1)]) X.1 X.2.1 dX10_restart_20 hl (k := 2) rfl (by rw [← ez4]; rfl) (by decide) (by simp [List.filter, cat_rv, cat_wv, cat_sv]) (fun ls hl => ?_)
    refine lv_goto (tgt := 2) X.1 X.2.1 dX10_restart_23 (by decide) ?_
    exact hk2 _ _ _ _ _ _ _ (lv_sub hl [1, 2, 0] rfl) S hf
theorem wfX10_restart_2_l {h9 : Hp} (X : Cx p E A 10 R s m args c cX10_restart yX10_restart.cls 3) (hr : meth.sig.returnType = none) (hlk : meth.locks = false) (hnm : meth.name = yX10_restart.name) :
    ∀ (n : Nat) (x0 : Nat) (x1 : Nat) (x2 : Int32) (h : Hp) (H : Heap) (locs : List Loc) (ls : Array Slot), lv_has ls 3 [(0, rv x0), (1, rv x1), (2, .int x2)] → St E A s h H locs → lp (fun _ _ _ _ => none) (fX10_restart_2) n x0 x1 x2 h = some h9 → W p l e R s m args below meth c H locs 0 0 (MQ below (Qv E A h9) args s 0 0 A) (F0 m 2 ls []) := by
  intro n
  induction n with
  | zero =>
    intro x0 x1 x2 h H locs ls hl S hf
    exact nomatch hf
  | succ n ih =>
    intro x0 x1 x2 h H locs ls hl S hf
    exact wfX10_restart_2 X hr hlk hnm ih x0 x1 x2 h H locs ls hl S hf
def fX10_restart (a0 : Nat) (a1 : Nat) (h : Hp) : Option (Hp) := gd 9 a0 h (lp (fun _ _ _ _ => none) (fX10_restart_2) FU a0 a1 0 h)
theorem tkX10_restart {a0 : Nat} {a1 : Nat} {h : Hp} {r9 : Hp} (e : fX10_restart a0 a1 h = some r9) : hK h a0 = 9 := by
  unfold fX10_restart at e
  exact (gd_some e).1
theorem cX10_restart_m (l : Launch) {E : EE} {A : Nat → Prop} {a0 : Nat} {a1 : Nat} {h : Hp} {h9 : Hp} (hf : fX10_restart a0 a1 h = some h9) : Met l yX10_restart (wsM yX10_restart cX10_restart 3 none) (rmm 10 0 0) (PcE E A h [rv a0, rv a1]) (Qv E A h9) 0 0 A := by
  refine met_of (by decide +kernel) (by simp [lg_sl, cat_rv, cat_wv, cat_sv, cat_i, cat_l, cat_a]) (fun p e s m args below meth c ls X hr hlk hnm S hl => ?_)
  have hl : lv_has ls 3 [(0, rv a0), (1, rv a1)] := by simpa [lv_args, cat_rv, cat_wv, cat_sv, cat_i, cat_l, cat_a] using hl
  generalize hH : s.heap = H at S ⊢
  generalize hlo : ([] : List Loc) = locs at S ⊢
  clear hH hlo
  unfold fX10_restart at hf
  obtain ⟨hth, hf⟩ := gd_some hf
  refine lv_iconst (v := 0) X.1 X.2.1 dX10_restart_0 (by decide) ?_
  refine lv_istore_n (i := 2) (lv' := [(2, .int 0), (0, rv a0), (1, rv a1)]) X.1 X.2.1 dX10_restart_1 rfl hl (by decide) (by simp [List.filter, cat_rv, cat_wv, cat_sv]) (fun ls hl => ?_)
  exact wfX10_restart_2_l X hr hlk hnm FU _ _ _ _ _ _ _ (lv_sub hl [1, 2, 0] rfl) S hf
def fX10_renew (a0 : Nat) (a1 : Nat) (h : Hp) : Option (Hp) := gd 9 a0 h (ob (fX10_clear a0 h) fun h => ob (fX10_restart a0 a1 h) fun h => some h)
theorem tkX10_renew {a0 : Nat} {a1 : Nat} {h : Hp} {r9 : Hp} (e : fX10_renew a0 a1 h = some r9) : hK h a0 = 9 := by
  unfold fX10_renew at e
  exact (gd_some e).1
theorem cX10_renew_m (l : Launch) {E : EE} {A : Nat → Prop} {a0 : Nat} {a1 : Nat} {h : Hp} {h9 : Hp} (hf : fX10_renew a0 a1 h = some h9) : Met l yX10_renew (wsM yX10_renew cX10_renew 2 none) (rmm 11 0 0) (PcE E A h [rv a0, rv a1]) (Qv E A h9) 0 0 A := by
  refine met_of (by decide +kernel) (by simp [lg_sl, cat_rv, cat_wv, cat_sv, cat_i, cat_l, cat_a]) (fun p e s m args below meth c ls X hr hlk hnm S hl => ?_)
  have hl : lv_has ls 2 [(0, rv a0), (1, rv a1)] := by simpa [lv_args, cat_rv, cat_wv, cat_sv, cat_i, cat_l, cat_a] using hl
  generalize hH : s.heap = H at S ⊢
  generalize hlo : ([] : List Loc) = locs at S ⊢
  clear hH hlo
  unfold fX10_renew at hf
  obtain ⟨hth, hf⟩ := gd_some hf
  refine g_aload_n X (or_rv _) dX10_renew_0 rfl (lv_at hl 0 rfl) ?_
  obtain ⟨h, hc, hf⟩ := ob_some hf
  refine g_cv S (runV (As := []) (rest := []) X S coX10_17 (by decide) (cX10_clear_m l hc) (tkX10_clear hc) rfl hl.1 (by decide) rfl ⟨Nat.zero_le _, Nat.zero_le _⟩ dX10_renew_1) (fun H locs S => ?_)
  refine g_aload_n X (or_rv _) dX10_renew_4 rfl (lv_at hl 0 rfl) ?_
  refine g_aload_n X (or_rv _) dX10_renew_5 rfl (lv_at hl 1 rfl) ?_
  obtain ⟨h, hc, hf⟩ := ob_some hf
  refine g_cv S (runV (As := [rv a1]) (rest := []) X S coX10_52 (by decide) (cX10_restart_m l hc) (tkX10_restart hc) rfl hl.1 (by decide) rfl ⟨Nat.zero_le _, Nat.zero_le _⟩ dX10_renew_6) (fun H locs S => ?_)
  cases hf; exact g_rv X S hr hlk dX10_renew_9
def fX10_cell (a0 : Nat) (a1 : Int32) (h : Hp) : Option (Int32) := gd 9 a0 h (if a1 < 0 then some 0 else if 411 ≤ a1 then some 0 else ob (gR 9 a0 0 h) fun v3 => ob (aI v3 a1 h) fun v4 => some v4)
theorem tkX10_cell {a0 : Nat} {a1 : Int32} {h : Hp} {r9 : Int32} (e : fX10_cell a0 a1 h = some r9) : hK h a0 = 9 := by
  unfold fX10_cell at e
  exact (gd_some e).1
theorem cX10_cell_m (l : Launch) {E : EE} {A : Nat → Prop} {a0 : Nat} {a1 : Int32} {h : Hp} {r9 : Int32} (hf : fX10_cell a0 a1 h = some r9) : Met l yX10_cell (wsM yX10_cell cX10_cell 2 (some .int)) (rmm 8 0 0) (PcE E A h [rv a0, .int a1]) (Qi E A h r9) 0 0 A := by
  refine met_of (by decide +kernel) (by simp [lg_sl, cat_rv, cat_wv, cat_sv, cat_i, cat_l, cat_a]) (fun p e s m args below meth c ls X hr hlk hnm S hl => ?_)
  have hl : lv_has ls 2 [(0, rv a0), (1, .int a1)] := by simpa [lv_args, cat_rv, cat_wv, cat_sv, cat_i, cat_l, cat_a] using hl
  generalize hH : s.heap = H at S ⊢
  generalize hlo : ([] : List Loc) = locs at S ⊢
  clear hH hlo
  unfold fX10_cell at hf
  obtain ⟨hth, hf⟩ := gd_some hf
  refine lv_iload_n X.1 X.2.1 dX10_cell_0 rfl (lv_at hl 1 rfl) ?_
  refine lv_if_lt (tgt := 20) X.1 X.2.1 dX10_cell_1 (by decide) (fun c1 => ?_) (fun c1 => ?_)
  · replace hf := (if_pos c1).symm.trans hf
    refine lv_iconst (v := 0) X.1 X.2.1 dX10_cell_20 (by decide) ?_
    cases hf; exact g_ri X S hr hlk dX10_cell_21
  · replace hf := (if_neg c1).symm.trans hf
    refine lv_iload_n X.1 X.2.1 dX10_cell_4 rfl (lv_at hl 1 rfl) ?_
    refine lv_sipush (v := 411) X.1 X.2.1 dX10_cell_5 (by decide) ?_
    refine lv_icmp_ge (tgt := 20) X.1 X.2.1 dX10_cell_8 (by decide) (fun c2 => ?_) (fun c2 => ?_)
    · replace hf := (if_pos c2).symm.trans hf
      refine lv_iconst (v := 0) X.1 X.2.1 dX10_cell_20 (by decide) ?_
      cases hf; exact g_ri X S hr hlk dX10_cell_21
    · replace hf := (if_neg c2).symm.trans hf
      refine g_aload_n X (or_rv _) dX10_cell_11 rfl (lv_at hl 0 rfl) ?_
      refine g_gR X S foX10_13 dX10_cell_12 hf (fun v3 hf => ?_)
      refine lv_iload_n X.1 X.2.1 dX10_cell_15 rfl (lv_at hl 1 rfl) ?_
      refine g_aI X S dX10_cell_16 hf (fun v4 hf => ?_)
      refine lv_goto (tgt := 21) X.1 X.2.1 dX10_cell_17 (by decide) ?_
      cases hf; exact g_ri X S hr hlk dX10_cell_21
def fX10_neverDone_4 (h : Hp) (k4 : Nat → Int32 → Int32 → Int32 → Option (Int32)) (x0 : Nat) (x1 : Int32) (x2 : Int32) (x3 : Int32) : Option (Int32) := if x1 ≤ x3 then some x2 else ob (fX10_cell x0 (351 + x3) h) fun v2 => if v2 = 0 then lt (x2 + 1) fun z5 => lt (x3 + 1) fun z6 => k4 x0 x1 z5 z6 else lt (x3 + 1) fun z4 => k4 x0 x1 x2 z4
theorem wfX10_neverDone_4 {h : Hp} {k4 : Nat → Int32 → Int32 → Int32 → Option (Int32)} {r9 : Int32} (X : Cx p E A 9 R s m args c cX10_neverDone yX10_neverDone.cls 4) (hr : meth.sig.returnType = (some .int)) (hlk : meth.locks = false) (hnm : meth.name = yX10_neverDone.name) (hk4 : ∀ (x0 : Nat) (x1 : Int32) (x2 : Int32) (x3 : Int32) (H : Heap) (locs : List Loc) (ls : Array Slot), lv_has ls 4 [(0, rv x0), (1, .int x1), (2, .int x2), (3, .int x3)] → St E A s h H locs → k4 x0 x1 x2 x3 = some r9 → W p l e R s m args below meth c H locs 0 0 (MQ below (Qi E A h r9) args s 0 0 A) (F0 m 4 ls [])) :
    ∀ (x0 : Nat) (x1 : Int32) (x2 : Int32) (x3 : Int32) (H : Heap) (locs : List Loc) (ls : Array Slot), lv_has ls 4 [(0, rv x0), (1, .int x1), (2, .int x2), (3, .int x3)] → St E A s h H locs → fX10_neverDone_4 h k4 x0 x1 x2 x3 = some r9 → W p l e R s m args below meth c H locs 0 0 (MQ below (Qi E A h r9) args s 0 0 A) (F0 m 4 ls []) := by
  intro x0 x1 x2 x3 H locs ls hl S hf
  unfold fX10_neverDone_4 at hf
  refine lv_iload_n X.1 X.2.1 dX10_neverDone_4 rfl (lv_at hl 3 rfl) ?_
  refine lv_iload_n X.1 X.2.1 dX10_neverDone_5 rfl (lv_at hl 1 rfl) ?_
  refine lv_icmp_ge (tgt := 30) X.1 X.2.1 dX10_neverDone_6 (by decide) (fun c1 => ?_) (fun c1 => ?_)
  · replace hf := (if_pos c1).symm.trans hf
    refine lv_iload_n X.1 X.2.1 dX10_neverDone_30 rfl (lv_at hl 2 rfl) ?_
    cases hf; exact g_ri X S hr hlk dX10_neverDone_31
  · replace hf := (if_neg c1).symm.trans hf
    refine g_aload_n X (or_rv _) dX10_neverDone_9 rfl (lv_at hl 0 rfl) ?_
    refine lv_sipush (v := 351) X.1 X.2.1 dX10_neverDone_10 (by decide) ?_
    refine lv_iload_n X.1 X.2.1 dX10_neverDone_13 rfl (lv_at hl 3 rfl) ?_
    refine lv_iadd X.1 X.2.1 dX10_neverDone_14 ?_
    obtain ⟨v2, hc, hf⟩ := ob_some hf
    refine g_ci S (runV (As := [.int (351 + x3)]) (rest := []) X S coX10_36 (by decide) (cX10_cell_m l hc) (tkX10_cell hc) rfl hl.1 (by decide) rfl ⟨Nat.zero_le _, Nat.zero_le _⟩ dX10_neverDone_15) (fun H locs S => ?_)
    refine lv_if_ne (tgt := 24) X.1 X.2.1 dX10_neverDone_18 (by decide) (fun c3 => ?_) (fun c3 => ?_)
    · replace hf := (if_neg c3).symm.trans hf
      obtain ⟨z4, ez4, hf⟩ := lt_some hf
      refine lv_iinc (v := z4) (lv' := [(3, .int z4), (0, rv x0), (1, .int x1), (2, .int x2)]) X.1 X.2.1 dX10_neverDone_24 hl (k := 3) rfl (by rw [← ez4]; rfl) (by decide) rfl (fun ls hl => ?_)
      refine lv_goto (tgt := 4) X.1 X.2.1 dX10_neverDone_27 (by decide) ?_
      exact hk4 _ _ _ _ _ _ _ (lv_sub hl [1, 2, 3, 0] rfl) S hf
    · replace hf := (if_pos c3).symm.trans hf
      obtain ⟨z5, ez5, hf⟩ := lt_some hf
      refine lv_iinc (v := z5) (lv' := [(2, .int z5), (0, rv x0), (1, .int x1), (3, .int x3)]) X.1 X.2.1 dX10_neverDone_21 hl (k := 2) rfl (by rw [← ez5]; rfl) (by decide) rfl (fun ls hl => ?_)
      obtain ⟨z6, ez6, hf⟩ := lt_some hf
      refine lv_iinc (v := z6) (lv' := [(3, .int z6), (2, .int z5), (0, rv x0), (1, .int x1)]) X.1 X.2.1 dX10_neverDone_24 hl (k := 3) rfl (by rw [← ez6]; rfl) (by decide) rfl (fun ls hl => ?_)
      refine lv_goto (tgt := 4) X.1 X.2.1 dX10_neverDone_27 (by decide) ?_
      exact hk4 _ _ _ _ _ _ _ (lv_sub hl [2, 3, 1, 0] rfl) S hf
theorem wfX10_neverDone_4_l {h : Hp} {r9 : Int32} (X : Cx p E A 9 R s m args c cX10_neverDone yX10_neverDone.cls 4) (hr : meth.sig.returnType = (some .int)) (hlk : meth.locks = false) (hnm : meth.name = yX10_neverDone.name) :
    ∀ (n : Nat) (x0 : Nat) (x1 : Int32) (x2 : Int32) (x3 : Int32) (H : Heap) (locs : List Loc) (ls : Array Slot), lv_has ls 4 [(0, rv x0), (1, .int x1), (2, .int x2), (3, .int x3)] → St E A s h H locs → lp (fun _ _ _ _ => none) (fX10_neverDone_4 h) n x0 x1 x2 x3 = some r9 → W p l e R s m args below meth c H locs 0 0 (MQ below (Qi E A h r9) args s 0 0 A) (F0 m 4 ls []) := by
  intro n
  induction n with
  | zero =>
    intro x0 x1 x2 x3 H locs ls hl S hf
    exact nomatch hf
  | succ n ih =>
    intro x0 x1 x2 x3 H locs ls hl S hf
    exact wfX10_neverDone_4 X hr hlk hnm ih x0 x1 x2 x3 H locs ls hl S hf
def fX10_neverDone (a0 : Nat) (a1 : Int32) (h : Hp) : Option (Int32) := gd 9 a0 h (lp (fun _ _ _ _ => none) (fX10_neverDone_4 h) FU a0 a1 0 0)
theorem tkX10_neverDone {a0 : Nat} {a1 : Int32} {h : Hp} {r9 : Int32} (e : fX10_neverDone a0 a1 h = some r9) : hK h a0 = 9 := by
  unfold fX10_neverDone at e
  exact (gd_some e).1
theorem cX10_neverDone_m (l : Launch) {E : EE} {A : Nat → Prop} {a0 : Nat} {a1 : Int32} {h : Hp} {r9 : Int32} (hf : fX10_neverDone a0 a1 h = some r9) : Met l yX10_neverDone (wsM yX10_neverDone cX10_neverDone 4 (some .int)) (rmm 9 0 0) (PcE E A h [rv a0, .int a1]) (Qi E A h r9) 0 0 A := by
  refine met_of (by decide +kernel) (by simp [lg_sl, cat_rv, cat_wv, cat_sv, cat_i, cat_l, cat_a]) (fun p e s m args below meth c ls X hr hlk hnm S hl => ?_)
  have hl : lv_has ls 4 [(0, rv a0), (1, .int a1)] := by simpa [lv_args, cat_rv, cat_wv, cat_sv, cat_i, cat_l, cat_a] using hl
  generalize hH : s.heap = H at S ⊢
  generalize hlo : ([] : List Loc) = locs at S ⊢
  clear hH hlo
  unfold fX10_neverDone at hf
  obtain ⟨hth, hf⟩ := gd_some hf
  refine lv_iconst (v := 0) X.1 X.2.1 dX10_neverDone_0 (by decide) ?_
  refine lv_istore_n (i := 2) (lv' := [(2, .int 0), (0, rv a0), (1, .int a1)]) X.1 X.2.1 dX10_neverDone_1 rfl hl (by decide) rfl (fun ls hl => ?_)
  refine lv_iconst (v := 0) X.1 X.2.1 dX10_neverDone_2 (by decide) ?_
  refine lv_istore_n (i := 3) (lv' := [(3, .int 0), (2, .int 0), (0, rv a0), (1, .int a1)]) X.1 X.2.1 dX10_neverDone_3 rfl hl (by decide) rfl (fun ls hl => ?_)
  exact wfX10_neverDone_4_l X hr hlk hnm FU _ _ _ _ _ _ _ (lv_sub hl [2, 3, 1, 0] rfl) S hf
def fX10_traced (a0 : Nat) (h : Hp) : Option (Int32) := gd 9 a0 h (ob (gR 9 a0 0 h) fun v1 => ob (aI v1 276 h) fun v2 => some (imin v2 64))
theorem tkX10_traced {a0 : Nat} {h : Hp} {r9 : Int32} (e : fX10_traced a0 h = some r9) : hK h a0 = 9 := by
  unfold fX10_traced at e
  exact (gd_some e).1
theorem cX10_traced_m (l : Launch) {E : EE} {A : Nat → Prop} {a0 : Nat} {h : Hp} {r9 : Int32} (hf : fX10_traced a0 h = some r9) : Met l yX10_traced (wsM yX10_traced cX10_traced 1 (some .int)) (rmm 8 0 0) (PcE E A h [rv a0]) (Qi E A h r9) 0 0 A := by
  refine met_of (by decide +kernel) (by simp [lg_sl, cat_rv, cat_wv, cat_sv, cat_i, cat_l, cat_a]) (fun p e s m args below meth c ls X hr hlk hnm S hl => ?_)
  have hl : lv_has ls 1 [(0, rv a0)] := by simpa [lv_args, cat_rv, cat_wv, cat_sv, cat_i, cat_l, cat_a] using hl
  generalize hH : s.heap = H at S ⊢
  generalize hlo : ([] : List Loc) = locs at S ⊢
  clear hH hlo
  unfold fX10_traced at hf
  obtain ⟨hth, hf⟩ := gd_some hf
  refine g_aload_n X (or_rv _) dX10_traced_0 rfl (lv_at hl 0 rfl) ?_
  refine g_gR X S foX10_13 dX10_traced_1 hf (fun v1 hf => ?_)
  refine lv_sipush (v := 276) X.1 X.2.1 dX10_traced_4 (by decide) ?_
  refine g_aI X S dX10_traced_7 hf (fun v2 hf => ?_)
  refine lv_bipush (v := 64) X.1 X.2.1 dX10_traced_8 (by decide) ?_
  refine g_min (rest := []) X hl.1 (by decide) (by decide) mlX10_30 u_min_s u_math u_min_c (Nat.zero_le _) (Nat.zero_le _) dX10_traced_10 ?_
  cases hf; exact g_ri X S hr hlk dX10_traced_13
def fJ9_floorMod_7cf53 (a0 : Int32) (a1 : Int32) : Option (Int32) := nz (a1 = 0) (lt (irm a0 a1) fun z2 => if 0 ≤ (a0 ^^^ a1) then some z2 else if z2 = 0 then some z2 else some (z2 + a1))
theorem cJ9_floorMod_7cf53_m (l : Launch) {E : EE} {A : Nat → Prop} {a0 : Int32} {a1 : Int32} {h : Hp} {r9 : Int32} (hf : fJ9_floorMod_7cf53 a0 a1 = some r9) : Met l yJ9_floorMod_7cf53 (wsM yJ9_floorMod_7cf53 cJ9_floorMod_7cf53 3 (some .int)) (rmm 8 0 0) (PcE E A h [.int a0, .int a1]) (Qi E A h r9) 0 0 A := by
  refine met_ofF (by decide +kernel) (by simp [lg_sl, cat_rv, cat_wv, cat_sv, cat_i, cat_l, cat_a]) (fun p e s m args below meth c ls X hr hlk hnm S hl => ?_)
  have hl : lv_has ls 3 [(0, .int a0), (1, .int a1)] := by simpa [lv_args, cat_rv, cat_wv, cat_sv, cat_i, cat_l, cat_a] using hl
  generalize hH : s.heap = H at S ⊢
  generalize hlo : ([] : List Loc) = locs at S ⊢
  clear hH hlo
  unfold fJ9_floorMod_7cf53 at hf
  refine lv_iload_n X.1 X.2.1 dJ9_floorMod_7cf53_0 rfl (lv_at hl 0 rfl) ?_
  refine lv_iload_n X.1 X.2.1 dJ9_floorMod_7cf53_1 rfl (lv_at hl 1 rfl) ?_
  obtain ⟨c1, hf⟩ := nz_some hf
  refine g_irem X c1 dJ9_floorMod_7cf53_2 ?_
  refine g_lti hf (fun z2 hf => ?_)
  refine lv_istore_n (i := 2) (lv' := [(2, .int z2), (0, .int a0), (1, .int a1)]) X.1 X.2.1 dJ9_floorMod_7cf53_3 rfl hl (by decide) rfl (fun ls hl => ?_)
  refine lv_iload_n X.1 X.2.1 dJ9_floorMod_7cf53_4 rfl (lv_at hl 1 rfl) ?_
  refine lv_iload_n X.1 X.2.1 dJ9_floorMod_7cf53_5 rfl (lv_at hl 2 rfl) ?_
  refine lv_ixor X.1 X.2.1 dJ9_floorMod_7cf53_6 ?_
  refine lv_if_ge (tgt := 18) X.1 X.2.1 dJ9_floorMod_7cf53_7 (by decide) (fun c3 => ?_) (fun c3 => ?_)
  · replace hf := (if_pos c3).symm.trans hf
    refine lv_iload_n X.1 X.2.1 dJ9_floorMod_7cf53_18 rfl (lv_at hl 0 rfl) ?_
    cases hf; exact g_ri X S hr hlk dJ9_floorMod_7cf53_19
  · replace hf := (if_neg c3).symm.trans hf
    refine lv_iload_n X.1 X.2.1 dJ9_floorMod_7cf53_10 rfl (lv_at hl 0 rfl) ?_
    refine lv_if_eq (tgt := 18) X.1 X.2.1 dJ9_floorMod_7cf53_11 (by decide) (fun c4 => ?_) (fun c4 => ?_)
    · replace hf := (if_pos c4).symm.trans hf
      refine lv_iload_n X.1 X.2.1 dJ9_floorMod_7cf53_18 rfl (lv_at hl 0 rfl) ?_
      cases hf; exact g_ri X S hr hlk dJ9_floorMod_7cf53_19
    · replace hf := (if_neg c4).symm.trans hf
      refine lv_iload_n X.1 X.2.1 dJ9_floorMod_7cf53_14 rfl (lv_at hl 0 rfl) ?_
      refine lv_iload_n X.1 X.2.1 dJ9_floorMod_7cf53_15 rfl (lv_at hl 2 rfl) ?_
      refine lv_iadd X.1 X.2.1 dJ9_floorMod_7cf53_16 ?_
      cases hf; exact g_ri X S hr hlk dJ9_floorMod_7cf53_17
def fX10_latest (a0 : Nat) (a1 : Int32) (h : Hp) : Option (Int32) := gd 9 a0 h (ob (gR 9 a0 0 h) fun v1 => ob (aI v1 276 h) fun v2 => ob (fJ9_floorMod_7cf53 ((v2 - 1) - a1) 64) fun v3 => ob (fX10_cell a0 (287 + v3) h) fun v4 => some v4)
theorem tkX10_latest {a0 : Nat} {a1 : Int32} {h : Hp} {r9 : Int32} (e : fX10_latest a0 a1 h = some r9) : hK h a0 = 9 := by
  unfold fX10_latest at e
  exact (gd_some e).1
theorem cX10_latest_m (l : Launch) {E : EE} {A : Nat → Prop} {a0 : Nat} {a1 : Int32} {h : Hp} {r9 : Int32} (hf : fX10_latest a0 a1 h = some r9) : Met l yX10_latest (wsM yX10_latest cX10_latest 2 (some .int)) (rmm 9 0 0) (PcE E A h [rv a0, .int a1]) (Qi E A h r9) 0 0 A := by
  refine met_of (by decide +kernel) (by simp [lg_sl, cat_rv, cat_wv, cat_sv, cat_i, cat_l, cat_a]) (fun p e s m args below meth c ls X hr hlk hnm S hl => ?_)
  have hl : lv_has ls 2 [(0, rv a0), (1, .int a1)] := by simpa [lv_args, cat_rv, cat_wv, cat_sv, cat_i, cat_l, cat_a] using hl
  generalize hH : s.heap = H at S ⊢
  generalize hlo : ([] : List Loc) = locs at S ⊢
  clear hH hlo
  unfold fX10_latest at hf
  obtain ⟨hth, hf⟩ := gd_some hf
  refine g_aload_n X (or_rv _) dX10_latest_0 rfl (lv_at hl 0 rfl) ?_
  refine lv_sipush (v := 287) X.1 X.2.1 dX10_latest_1 (by decide) ?_
  refine g_aload_n X (or_rv _) dX10_latest_4 rfl (lv_at hl 0 rfl) ?_
  refine g_gR X S foX10_13 dX10_latest_5 hf (fun v1 hf => ?_)
  refine lv_sipush (v := 276) X.1 X.2.1 dX10_latest_8 (by decide) ?_
  refine g_aI X S dX10_latest_11 hf (fun v2 hf => ?_)
  refine lv_iconst (v := 1) X.1 X.2.1 dX10_latest_12 (by decide) ?_
  refine lv_isub X.1 X.2.1 dX10_latest_13 ?_
  refine lv_iload_n X.1 X.2.1 dX10_latest_14 rfl (lv_at hl 1 rfl) ?_
  refine lv_isub X.1 X.2.1 dX10_latest_15 ?_
  refine lv_bipush (v := 64) X.1 X.2.1 dX10_latest_16 (by decide) ?_
  obtain ⟨v3, hc, hf⟩ := ob_some hf
  refine g_ci S (runS (As := [.int ((v2 - 1) - a1), .int 64]) (rest := [.int 287, rv a0]) X S coX10_33 (by decide) (cJ9_floorMod_7cf53_m l hc) rfl hl.1 (by simp [cat_rv, cat_wv, cat_sv, cat_i, cat_l, cat_a]) rfl ⟨Nat.zero_le _, Nat.zero_le _⟩ dX10_latest_18) (fun H locs S => ?_)
  refine lv_iadd X.1 X.2.1 dX10_latest_21 ?_
  obtain ⟨v4, hc, hf⟩ := ob_some hf
  refine g_ci S (runV (As := [.int (287 + v3)]) (rest := []) X S coX10_36 (by decide) (cX10_cell_m l hc) (tkX10_cell hc) rfl hl.1 (by decide) rfl ⟨Nat.zero_le _, Nat.zero_le _⟩ dX10_latest_22) (fun H locs S => ?_)
  cases hf; exact g_ri X S hr hlk dX10_latest_25
def fX10_causes (a0 : Nat) (h : Hp) : Option (Int32) := gd 9 a0 h (ob (gR 9 a0 0 h) fun v1 => ob (aI v1 277 h) fun v2 => if v2 = 0 then some 0 else ob (gR 9 a0 0 h) fun v4 => ob (aI v4 278 h) fun v5 => if v5 = 4 then some 3 else ob (gR 9 a0 0 h) fun v7 => ob (aI v7 278 h) fun v8 => if v8 = 5 then some 3 else some 2)
theorem tkX10_causes {a0 : Nat} {h : Hp} {r9 : Int32} (e : fX10_causes a0 h = some r9) : hK h a0 = 9 := by
  unfold fX10_causes at e
  exact (gd_some e).1
theorem cX10_causes_m (l : Launch) {E : EE} {A : Nat → Prop} {a0 : Nat} {h : Hp} {r9 : Int32} (hf : fX10_causes a0 h = some r9) : Met l yX10_causes (wsM yX10_causes cX10_causes 1 (some .int)) (rmm 8 0 0) (PcE E A h [rv a0]) (Qi E A h r9) 0 0 A := by
  refine met_of (by decide +kernel) (by simp [lg_sl, cat_rv, cat_wv, cat_sv, cat_i, cat_l, cat_a]) (fun p e s m args below meth c ls X hr hlk hnm S hl => ?_)
  have hl : lv_has ls 1 [(0, rv a0)] := by simpa [lv_args, cat_rv, cat_wv, cat_sv, cat_i, cat_l, cat_a] using hl
  generalize hH : s.heap = H at S ⊢
  generalize hlo : ([] : List Loc) = locs at S ⊢
  clear hH hlo
  unfold fX10_causes at hf
  obtain ⟨hth, hf⟩ := gd_some hf
  refine g_aload_n X (or_rv _) dX10_causes_0 rfl (lv_at hl 0 rfl) ?_
  refine g_gR X S foX10_13 dX10_causes_1 hf (fun v1 hf => ?_)
  refine lv_sipush (v := 277) X.1 X.2.1 dX10_causes_4 (by decide) ?_
  refine g_aI X S dX10_causes_7 hf (fun v2 hf => ?_)
  refine lv_if_ne (tgt := 13) X.1 X.2.1 dX10_causes_8 (by decide) (fun c3 => ?_) (fun c3 => ?_)
  · replace hf := (if_neg c3).symm.trans hf
    refine g_aload_n X (or_rv _) dX10_causes_13 rfl (lv_at hl 0 rfl) ?_
    refine g_gR X S foX10_13 dX10_causes_14 hf (fun v4 hf => ?_)
    refine lv_sipush (v := 278) X.1 X.2.1 dX10_causes_17 (by decide) ?_
    refine g_aI X S dX10_causes_20 hf (fun v5 hf => ?_)
    refine lv_iconst (v := 4) X.1 X.2.1 dX10_causes_21 (by decide) ?_
    refine lv_icmp_eq (tgt := 37) X.1 X.2.1 dX10_causes_22 (by decide) (fun c6 => ?_) (fun c6 => ?_)
    · replace hf := (if_pos c6).symm.trans hf
      refine lv_iconst (v := 3) X.1 X.2.1 dX10_causes_37 (by decide) ?_
      refine lv_goto (tgt := 42) X.1 X.2.1 dX10_causes_38 (by decide) ?_
      cases hf; exact g_ri X S hr hlk dX10_causes_42
    · replace hf := (if_neg c6).symm.trans hf
      refine g_aload_n X (or_rv _) dX10_causes_25 rfl (lv_at hl 0 rfl) ?_
      refine g_gR X S foX10_13 dX10_causes_26 hf (fun v7 hf => ?_)
      refine lv_sipush (v := 278) X.1 X.2.1 dX10_causes_29 (by decide) ?_
      refine g_aI X S dX10_causes_32 hf (fun v8 hf => ?_)
      refine lv_iconst (v := 5) X.1 X.2.1 dX10_causes_33 (by decide) ?_
      refine lv_icmp_ne (tgt := 41) X.1 X.2.1 dX10_causes_34 (by decide) (fun c9 => ?_) (fun c9 => ?_)
      · replace hf := (if_neg c9).symm.trans hf
        refine lv_iconst (v := 2) X.1 X.2.1 dX10_causes_41 (by decide) ?_
        cases hf; exact g_ri X S hr hlk dX10_causes_42
      · replace hf := (if_pos c9).symm.trans hf
        refine lv_iconst (v := 3) X.1 X.2.1 dX10_causes_37 (by decide) ?_
        refine lv_goto (tgt := 42) X.1 X.2.1 dX10_causes_38 (by decide) ?_
        cases hf; exact g_ri X S hr hlk dX10_causes_42
  · replace hf := (if_pos c3).symm.trans hf
    refine lv_iconst (v := 0) X.1 X.2.1 dX10_causes_11 (by decide) ?_
    cases hf; exact g_ri X S hr hlk dX10_causes_12
def fX10_isField (a0 : Int32) (a1 : Int32) : Option (Int32) := if a1 < 0 then some 0 else if 256 < a1 then some 0 else if a0 < 0 then some 0 else if (256 - a1) < a0 then some 0 else some 1
theorem cX10_isField_m (l : Launch) {E : EE} {A : Nat → Prop} {a0 : Int32} {a1 : Int32} {h : Hp} {r9 : Int32} (hf : fX10_isField a0 a1 = some r9) : Met l yX10_isField (wsM yX10_isField cX10_isField 2 (some .boolean)) (rmm 8 0 0) (PcE E A h [.int a0, .int a1]) (Qi E A h r9) 0 0 A := by
  refine met_of (by decide +kernel) (by simp [lg_sl, cat_rv, cat_wv, cat_sv, cat_i, cat_l, cat_a]) (fun p e s m args below meth c ls X hr hlk hnm S hl => ?_)
  have hl : lv_has ls 2 [(0, .int a0), (1, .int a1)] := by simpa [lv_args, cat_rv, cat_wv, cat_sv, cat_i, cat_l, cat_a] using hl
  generalize hH : s.heap = H at S ⊢
  generalize hlo : ([] : List Loc) = locs at S ⊢
  clear hH hlo
  unfold fX10_isField at hf
  refine lv_iload_n X.1 X.2.1 dX10_isField_0 rfl (lv_at hl 1 rfl) ?_
  refine lv_if_lt (tgt := 28) X.1 X.2.1 dX10_isField_1 (by decide) (fun c1 => ?_) (fun c1 => ?_)
  · replace hf := (if_pos c1).symm.trans hf
    refine lv_iconst (v := 0) X.1 X.2.1 dX10_isField_28 (by decide) ?_
    cases hf; exact g_rz X S hr hlk (by decide) dX10_isField_29
  · replace hf := (if_neg c1).symm.trans hf
    refine lv_iload_n X.1 X.2.1 dX10_isField_4 rfl (lv_at hl 1 rfl) ?_
    refine lv_sipush (v := 256) X.1 X.2.1 dX10_isField_5 (by decide) ?_
    refine lv_icmp_gt (tgt := 28) X.1 X.2.1 dX10_isField_8 (by decide) (fun c2 => ?_) (fun c2 => ?_)
    · replace hf := (if_pos c2).symm.trans hf
      refine lv_iconst (v := 0) X.1 X.2.1 dX10_isField_28 (by decide) ?_
      cases hf; exact g_rz X S hr hlk (by decide) dX10_isField_29
    · replace hf := (if_neg c2).symm.trans hf
      refine lv_iload_n X.1 X.2.1 dX10_isField_11 rfl (lv_at hl 0 rfl) ?_
      refine lv_if_lt (tgt := 28) X.1 X.2.1 dX10_isField_12 (by decide) (fun c3 => ?_) (fun c3 => ?_)
      · replace hf := (if_pos c3).symm.trans hf
        refine lv_iconst (v := 0) X.1 X.2.1 dX10_isField_28 (by decide) ?_
        cases hf; exact g_rz X S hr hlk (by decide) dX10_isField_29
      · replace hf := (if_neg c3).symm.trans hf
        refine lv_iload_n X.1 X.2.1 dX10_isField_15 rfl (lv_at hl 0 rfl) ?_
        refine lv_sipush (v := 256) X.1 X.2.1 dX10_isField_16 (by decide) ?_
        refine lv_iload_n X.1 X.2.1 dX10_isField_19 rfl (lv_at hl 1 rfl) ?_
        refine lv_isub X.1 X.2.1 dX10_isField_20 ?_
        refine lv_icmp_gt (tgt := 28) X.1 X.2.1 dX10_isField_21 (by decide) (fun c4 => ?_) (fun c4 => ?_)
        · replace hf := (if_pos c4).symm.trans hf
          refine lv_iconst (v := 0) X.1 X.2.1 dX10_isField_28 (by decide) ?_
          cases hf; exact g_rz X S hr hlk (by decide) dX10_isField_29
        · replace hf := (if_neg c4).symm.trans hf
          refine lv_iconst (v := 1) X.1 X.2.1 dX10_isField_24 (by decide) ?_
          refine lv_goto (tgt := 29) X.1 X.2.1 dX10_isField_25 (by decide) ?_
          cases hf; exact g_rz X S hr hlk (by decide) dX10_isField_29
def fX10_firstFlaw_107 (h : Hp) (k137 : Nat → Int32 → Int32 → Int32 → Int32 → Int32 → Option (Int32)) (x0 : Nat) (x3 : Int32) (x5 : Int32) (x6 : Int32) (x7 : Int32) (y0 : Int32) : Option (Int32) := k137 x0 x3 x5 x6 x7 y0
theorem wfX10_firstFlaw_107 {h : Hp} {k137 : Nat → Int32 → Int32 → Int32 → Int32 → Int32 → Option (Int32)} {r9 : Int32} (X : Cx p E A 8 R s m args c cX10_firstFlaw yX10_firstFlaw.cls 10) (hr : meth.sig.returnType = (some .int)) (hlk : meth.locks = false) (hnm : meth.name = yX10_firstFlaw.name) (hk137 : ∀ (x0 : Nat) (x3 : Int32) (x5 : Int32) (x6 : Int32) (x7 : Int32) (x9 : Int32) (H : Heap) (locs : List Loc) (ls : Array Slot), lv_has ls 10 [(0, rv x0), (3, .int x3), (5, .int x5), (6, .int x6), (7, .int x7), (9, .int x9)] → St E A s h H locs → k137 x0 x3 x5 x6 x7 x9 = some r9 → W p l e R s m args below meth c H locs 0 0 (MQ below (Qi E A h r9) args s 0 0 A) (F0 m 137 ls [])) :
    ∀ (x0 : Nat) (x3 : Int32) (x5 : Int32) (x6 : Int32) (x7 : Int32) (y0 : Int32) (H : Heap) (locs : List Loc) (ls : Array Slot), lv_has ls 10 [(0, rv x0), (3, .int x3), (5, .int x5), (6, .int x6), (7, .int x7)] → St E A s h H locs → fX10_firstFlaw_107 h k137 x0 x3 x5 x6 x7 y0 = some r9 → W p l e R s m args below meth c H locs 0 0 (MQ below (Qi E A h r9) args s 0 0 A) (F0 m 107 ls [.int y0]) := by
  intro x0 x3 x5 x6 x7 y0 H locs ls hl S hf
  unfold fX10_firstFlaw_107 at hf
  refine lv_istore (lv' := [(9, .int y0), (0, rv x0), (3, .int x3), (5, .int x5), (6, .int x6), (7, .int x7)]) X.1 X.2.1 dX10_firstFlaw_107 hl (by decide) rfl (fun ls hl => ?_)
  refine lv_goto (tgt := 137) X.1 X.2.1 dX10_firstFlaw_109 (by decide) ?_
  exact hk137 _ _ _ _ _ _ _ _ _ (lv_sub hl [1, 2, 3, 4, 5, 0] rfl) S hf
def fX10_firstFlaw_135 (h : Hp) (k137 : Nat → Int32 → Int32 → Int32 → Int32 → Int32 → Option (Int32)) (x0 : Nat) (x3 : Int32) (x5 : Int32) (x6 : Int32) (x7 : Int32) (y0 : Int32) : Option (Int32) := k137 x0 x3 x5 x6 x7 y0
theorem wfX10_firstFlaw_135 {h : Hp} {k137 : Nat → Int32 → Int32 → Int32 → Int32 → Int32 → Option (Int32)} {r9 : Int32} (X : Cx p E A 8 R s m args c cX10_firstFlaw yX10_firstFlaw.cls 10) (hr : meth.sig.returnType = (some .int)) (hlk : meth.locks = false) (hnm : meth.name = yX10_firstFlaw.name) (hk137 : ∀ (x0 : Nat) (x3 : Int32) (x5 : Int32) (x6 : Int32) (x7 : Int32) (x9 : Int32) (H : Heap) (locs : List Loc) (ls : Array Slot), lv_has ls 10 [(0, rv x0), (3, .int x3), (5, .int x5), (6, .int x6), (7, .int x7), (9, .int x9)] → St E A s h H locs → k137 x0 x3 x5 x6 x7 x9 = some r9 → W p l e R s m args below meth c H locs 0 0 (MQ below (Qi E A h r9) args s 0 0 A) (F0 m 137 ls [])) :
    ∀ (x0 : Nat) (x3 : Int32) (x5 : Int32) (x6 : Int32) (x7 : Int32) (y0 : Int32) (H : Heap) (locs : List Loc) (ls : Array Slot), lv_has ls 10 [(0, rv x0), (3, .int x3), (5, .int x5), (6, .int x6), (7, .int x7)] → St E A s h H locs → fX10_firstFlaw_135 h k137 x0 x3 x5 x6 x7 y0 = some r9 → W p l e R s m args below meth c H locs 0 0 (MQ below (Qi E A h r9) args s 0 0 A) (F0 m 135 ls [.int y0]) := by
  intro x0 x3 x5 x6 x7 y0 H locs ls hl S hf
  unfold fX10_firstFlaw_135 at hf
  refine lv_istore (lv' := [(9, .int y0), (0, rv x0), (3, .int x3), (5, .int x5), (6, .int x6), (7, .int x7)]) X.1 X.2.1 dX10_firstFlaw_135 hl (by decide) rfl (fun ls hl => ?_)
  exact hk137 _ _ _ _ _ _ _ _ _ (lv_sub hl [1, 2, 3, 4, 5, 0] rfl) S hf
def fX10_firstFlaw_137 (h : Hp) (k32 : Nat → Int32 → Int32 → Int32 → Int32 → Option (Int32)) (x0 : Nat) (x3 : Int32) (x5 : Int32) (x6 : Int32) (x7 : Int32) (x9 : Int32) : Option (Int32) := if x9 = 0 then some x7 else lt (x7 + 1) fun z2 => k32 x0 x3 x5 x6 z2
theorem wfX10_firstFlaw_137 {h : Hp} {k32 : Nat → Int32 → Int32 → Int32 → Int32 → Option (Int32)} {r9 : Int32} (X : Cx p E A 8 R s m args c cX10_firstFlaw yX10_firstFlaw.cls 10) (hr : meth.sig.returnType = (some .int)) (hlk : meth.locks = false) (hnm : meth.name = yX10_firstFlaw.name) (hk32 : ∀ (x0 : Nat) (x3 : Int32) (x5 : Int32) (x6 : Int32) (x7 : Int32) (H : Heap) (locs : List Loc) (ls : Array Slot), lv_has ls 10 [(0, rv x0), (3, .int x3), (5, .int x5), (6, .int x6), (7, .int x7)] → St E A s h H locs → k32 x0 x3 x5 x6 x7 = some r9 → W p l e R s m args below meth c H locs 0 0 (MQ below (Qi E A h r9) args s 0 0 A) (F0 m 32 ls [])) :
    ∀ (x0 : Nat) (x3 : Int32) (x5 : Int32) (x6 : Int32) (x7 : Int32) (x9 : Int32) (H : Heap) (locs : List Loc) (ls : Array Slot), lv_has ls 10 [(0, rv x0), (3, .int x3), (5, .int x5), (6, .int x6), (7, .int x7), (9, .int x9)] → St E A s h H locs → fX10_firstFlaw_137 h k32 x0 x3 x5 x6 x7 x9 = some r9 → W p l e R s m args below meth c H locs 0 0 (MQ below (Qi E A h r9) args s 0 0 A) (F0 m 137 ls []) := by
  intro x0 x3 x5 x6 x7 x9 H locs ls hl S hf
  unfold fX10_firstFlaw_137 at hf
  refine lv_iload X.1 X.2.1 dX10_firstFlaw_137 (lv_at hl 5 rfl) ?_
  refine lv_if_ne (tgt := 145) X.1 X.2.1 dX10_firstFlaw_139 (by decide) (fun c1 => ?_) (fun c1 => ?_)
  · replace hf := (if_neg c1).symm.trans hf
    obtain ⟨z2, ez2, hf⟩ := lt_some hf
    refine lv_iinc (v := z2) (lv' := [(7, .int z2), (0, rv x0), (3, .int x3), (5, .int x5), (6, .int x6), (9, .int x9)]) X.1 X.2.1 dX10_firstFlaw_145 hl (k := 4) rfl (by rw [← ez2]; rfl) (by decide) rfl (fun ls hl => ?_)
    refine lv_goto (tgt := 32) X.1 X.2.1 dX10_firstFlaw_148 (by decide) ?_
    exact hk32 _ _ _ _ _ _ _ _ (lv_sub hl [1, 2, 3, 4, 0] rfl) S hf
  · replace hf := (if_pos c1).symm.trans hf
    refine lv_iload X.1 X.2.1 dX10_firstFlaw_142 (lv_at hl 4 rfl) ?_
    cases hf; exact g_ri X S hr hlk dX10_firstFlaw_144
def fX10_firstFlaw_86 (h : Hp) (k32 : Nat → Int32 → Int32 → Int32 → Int32 → Option (Int32)) (x0 : Nat) (x3 : Int32) (x5 : Int32) (x6 : Int32) (x7 : Int32) (x8 : Int32) (y0 : Int32) : Option (Int32) := if x7 = x6 then if x8 ≤ 9 then fX10_firstFlaw_107 h (fX10_firstFlaw_137 h k32) x0 x3 x5 x6 x7 0 else fX10_firstFlaw_107 h (fX10_firstFlaw_137 h k32) x0 x3 x5 x6 x7 1 else if x3 = 0 then fX10_firstFlaw_137 h k32 x0 x3 x5 x6 x7 y0 else if (x7 &&& (1 : Int32)) = 0 then if x8 = 15 then fX10_firstFlaw_135 h (fX10_firstFlaw_137 h k32) x0 x3 x5 x6 x7 1 else fX10_firstFlaw_135 h (fX10_firstFlaw_137 h k32) x0 x3 x5 x6 x7 0 else fX10_firstFlaw_137 h k32 x0 x3 x5 x6 x7 y0
theorem wfX10_firstFlaw_86 {h : Hp} {k32 : Nat → Int32 → Int32 → Int32 → Int32 → Option (Int32)} {r9 : Int32} (X : Cx p E A 8 R s m args c cX10_firstFlaw yX10_firstFlaw.cls 10) (hr : meth.sig.returnType = (some .int)) (hlk : meth.locks = false) (hnm : meth.name = yX10_firstFlaw.name) (hk32 : ∀ (x0 : Nat) (x3 : Int32) (x5 : Int32) (x6 : Int32) (x7 : Int32) (H : Heap) (locs : List Loc) (ls : Array Slot), lv_has ls 10 [(0, rv x0), (3, .int x3), (5, .int x5), (6, .int x6), (7, .int x7)] → St E A s h H locs → k32 x0 x3 x5 x6 x7 = some r9 → W p l e R s m args below meth c H locs 0 0 (MQ below (Qi E A h r9) args s 0 0 A) (F0 m 32 ls [])) :
    ∀ (x0 : Nat) (x3 : Int32) (x5 : Int32) (x6 : Int32) (x7 : Int32) (x8 : Int32) (y0 : Int32) (H : Heap) (locs : List Loc) (ls : Array Slot), lv_has ls 10 [(0, rv x0), (3, .int x3), (5, .int x5), (6, .int x6), (7, .int x7), (8, .int x8)] → St E A s h H locs → fX10_firstFlaw_86 h k32 x0 x3 x5 x6 x7 x8 y0 = some r9 → W p l e R s m args below meth c H locs 0 0 (MQ below (Qi E A h r9) args s 0 0 A) (F0 m 86 ls [.int y0]) := by
  intro x0 x3 x5 x6 x7 x8 y0 H locs ls hl S hf
  unfold fX10_firstFlaw_86 at hf
  refine lv_istore (lv' := [(9, .int y0), (0, rv x0), (3, .int x3), (5, .int x5), (6, .int x6), (7, .int x7), (8, .int x8)]) X.1 X.2.1 dX10_firstFlaw_86 hl (by decide) rfl (fun ls hl => ?_)
  refine lv_iload X.1 X.2.1 dX10_firstFlaw_88 (lv_at hl 5 rfl) ?_
  refine lv_iload X.1 X.2.1 dX10_firstFlaw_90 (lv_at hl 4 rfl) ?_
  refine lv_icmp_ne (tgt := 112) X.1 X.2.1 dX10_firstFlaw_92 (by decide) (fun c1 => ?_) (fun c1 => ?_)
  · replace hf := (if_neg c1).symm.trans hf
    refine lv_iload_n X.1 X.2.1 dX10_firstFlaw_112 rfl (lv_at hl 2 rfl) ?_
    refine lv_if_eq (tgt := 137) X.1 X.2.1 dX10_firstFlaw_113 (by decide) (fun c2 => ?_) (fun c2 => ?_)
    · replace hf := (if_pos c2).symm.trans hf
      exact wfX10_firstFlaw_137 X hr hlk hnm hk32 _ _ _ _ _ _ _ _ _ (lv_sub hl [1, 2, 3, 4, 5, 0] rfl) S hf
    · replace hf := (if_neg c2).symm.trans hf
      refine lv_iload X.1 X.2.1 dX10_firstFlaw_116 (lv_at hl 5 rfl) ?_
      refine lv_iconst (v := 1) X.1 X.2.1 dX10_firstFlaw_118 (by decide) ?_
      refine lv_iand X.1 X.2.1 dX10_firstFlaw_119 ?_
      refine lv_if_ne (tgt := 137) X.1 X.2.1 dX10_firstFlaw_120 (by decide) (fun c3 => ?_) (fun c3 => ?_)
      · replace hf := (if_neg c3).symm.trans hf
        exact wfX10_firstFlaw_137 X hr hlk hnm hk32 _ _ _ _ _ _ _ _ _ (lv_sub hl [1, 2, 3, 4, 5, 0] rfl) S hf
      · replace hf := (if_pos c3).symm.trans hf
        refine lv_iload X.1 X.2.1 dX10_firstFlaw_123 (lv_at hl 6 rfl) ?_
        refine lv_bipush (v := 15) X.1 X.2.1 dX10_firstFlaw_125 (by decide) ?_
        refine lv_icmp_ne (tgt := 134) X.1 X.2.1 dX10_firstFlaw_127 (by decide) (fun c4 => ?_) (fun c4 => ?_)
        · replace hf := (if_neg c4).symm.trans hf
          refine lv_iconst (v := 0) X.1 X.2.1 dX10_firstFlaw_134 (by decide) ?_
          exact wfX10_firstFlaw_135 X hr hlk hnm (wfX10_firstFlaw_137 X hr hlk hnm hk32) _ _ _ _ _ _ _ _ _ (lv_sub hl [1, 2, 3, 4, 5] rfl) S hf
        · replace hf := (if_pos c4).symm.trans hf
          refine lv_iconst (v := 1) X.1 X.2.1 dX10_firstFlaw_130 (by decide) ?_
          refine lv_goto (tgt := 135) X.1 X.2.1 dX10_firstFlaw_131 (by decide) ?_
          exact wfX10_firstFlaw_135 X hr hlk hnm (wfX10_firstFlaw_137 X hr hlk hnm hk32) _ _ _ _ _ _ _ _ _ (lv_sub hl [1, 2, 3, 4, 5] rfl) S hf
  · replace hf := (if_pos c1).symm.trans hf
    refine lv_iload X.1 X.2.1 dX10_firstFlaw_95 (lv_at hl 6 rfl) ?_
    refine lv_bipush (v := 9) X.1 X.2.1 dX10_firstFlaw_97 (by decide) ?_
    refine lv_icmp_le (tgt := 106) X.1 X.2.1 dX10_firstFlaw_99 (by decide) (fun c5 => ?_) (fun c5 => ?_)
    · replace hf := (if_pos c5).symm.trans hf
      refine lv_iconst (v := 0) X.1 X.2.1 dX10_firstFlaw_106 (by decide) ?_
      exact wfX10_firstFlaw_107 X hr hlk hnm (wfX10_firstFlaw_137 X hr hlk hnm hk32) _ _ _ _ _ _ _ _ _ (lv_sub hl [1, 2, 3, 4, 5] rfl) S hf
    · replace hf := (if_neg c5).symm.trans hf
      refine lv_iconst (v := 1) X.1 X.2.1 dX10_firstFlaw_102 (by decide) ?_
      refine lv_goto (tgt := 107) X.1 X.2.1 dX10_firstFlaw_103 (by decide) ?_
      exact wfX10_firstFlaw_107 X hr hlk hnm (wfX10_firstFlaw_137 X hr hlk hnm hk32) _ _ _ _ _ _ _ _ _ (lv_sub hl [1, 2, 3, 4, 5] rfl) S hf
def fX10_firstFlaw_68 (h : Hp) (k32 : Nat → Int32 → Int32 → Int32 → Int32 → Option (Int32)) (x0 : Nat) (x3 : Int32) (x5 : Int32) (x6 : Int32) (x7 : Int32) (y0 : Int32) (y1 : Int32) : Option (Int32) := lt ((y1 >>> (y0 &&& 31)) &&& (15 : Int32)) fun z1 => if 10 ≤ z1 then fX10_firstFlaw_86 h k32 x0 x3 x5 x6 x7 z1 0 else fX10_firstFlaw_86 h k32 x0 x3 x5 x6 x7 z1 1
theorem wfX10_firstFlaw_68 {h : Hp} {k32 : Nat → Int32 → Int32 → Int32 → Int32 → Option (Int32)} {r9 : Int32} (X : Cx p E A 8 R s m args c cX10_firstFlaw yX10_firstFlaw.cls 10) (hr : meth.sig.returnType = (some .int)) (hlk : meth.locks = false) (hnm : meth.name = yX10_firstFlaw.name) (hk32 : ∀ (x0 : Nat) (x3 : Int32) (x5 : Int32) (x6 : Int32) (x7 : Int32) (H : Heap) (locs : List Loc) (ls : Array Slot), lv_has ls 10 [(0, rv x0), (3, .int x3), (5, .int x5), (6, .int x6), (7, .int x7)] → St E A s h H locs → k32 x0 x3 x5 x6 x7 = some r9 → W p l e R s m args below meth c H locs 0 0 (MQ below (Qi E A h r9) args s 0 0 A) (F0 m 32 ls [])) :
    ∀ (x0 : Nat) (x3 : Int32) (x5 : Int32) (x6 : Int32) (x7 : Int32) (y0 : Int32) (y1 : Int32) (H : Heap) (locs : List Loc) (ls : Array Slot), lv_has ls 10 [(0, rv x0), (3, .int x3), (5, .int x5), (6, .int x6), (7, .int x7)] → St E A s h H locs → fX10_firstFlaw_68 h k32 x0 x3 x5 x6 x7 y0 y1 = some r9 → W p l e R s m args below meth c H locs 0 0 (MQ below (Qi E A h r9) args s 0 0 A) (F0 m 68 ls [.int y0, .int y1]) := by
  intro x0 x3 x5 x6 x7 y0 y1 H locs ls hl S hf
  unfold fX10_firstFlaw_68 at hf
  refine lv_ishr X.1 X.2.1 dX10_firstFlaw_68 ?_
  refine lv_bipush (v := 15) X.1 X.2.1 dX10_firstFlaw_69 (by decide) ?_
  refine lv_iand X.1 X.2.1 dX10_firstFlaw_71 ?_
  refine g_lti hf (fun z1 hf => ?_)
  refine lv_istore (lv' := [(8, .int z1), (0, rv x0), (3, .int x3), (5, .int x5), (6, .int x6), (7, .int x7)]) X.1 X.2.1 dX10_firstFlaw_72 hl (by decide) rfl (fun ls hl => ?_)
  refine lv_iload X.1 X.2.1 dX10_firstFlaw_74 (lv_at hl 0 rfl) ?_
  refine lv_bipush (v := 10) X.1 X.2.1 dX10_firstFlaw_76 (by decide) ?_
  refine lv_icmp_ge (tgt := 85) X.1 X.2.1 dX10_firstFlaw_78 (by decide) (fun c2 => ?_) (fun c2 => ?_)
  · replace hf := (if_pos c2).symm.trans hf
    refine lv_iconst (v := 0) X.1 X.2.1 dX10_firstFlaw_85 (by decide) ?_
    exact wfX10_firstFlaw_86 X hr hlk hnm hk32 _ _ _ _ _ _ _ _ _ _ (lv_sub hl [1, 2, 3, 4, 5, 0] rfl) S hf
  · replace hf := (if_neg c2).symm.trans hf
    refine lv_iconst (v := 1) X.1 X.2.1 dX10_firstFlaw_81 (by decide) ?_
    refine lv_goto (tgt := 86) X.1 X.2.1 dX10_firstFlaw_82 (by decide) ?_
    exact wfX10_firstFlaw_86 X hr hlk hnm hk32 _ _ _ _ _ _ _ _ _ _ (lv_sub hl [1, 2, 3, 4, 5, 0] rfl) S hf
def fX10_firstFlaw_32 (h : Hp) (k32 : Nat → Int32 → Int32 → Int32 → Int32 → Option (Int32)) (x0 : Nat) (x3 : Int32) (x5 : Int32) (x6 : Int32) (x7 : Int32) : Option (Int32) := if x5 < x7 then some (-1) else if 512 ≤ x7 then some (-1) else ob (gR 9 x0 0 h) fun v3 => ob (aI v3 (x7 >>> ((1 : Int32) &&& 31)) h) fun v4 => if (x7 &&& (1 : Int32)) = 0 then fX10_firstFlaw_68 h k32 x0 x3 x5 x6 x7 4 v4 else fX10_firstFlaw_68 h k32 x0 x3 x5 x6 x7 0 v4
theorem wfX10_firstFlaw_32 {h : Hp} {k32 : Nat → Int32 → Int32 → Int32 → Int32 → Option (Int32)} {r9 : Int32} (X : Cx p E A 8 R s m args c cX10_firstFlaw yX10_firstFlaw.cls 10) (hr : meth.sig.returnType = (some .int)) (hlk : meth.locks = false) (hnm : meth.name = yX10_firstFlaw.name) (hk32 : ∀ (x0 : Nat) (x3 : Int32) (x5 : Int32) (x6 : Int32) (x7 : Int32) (H : Heap) (locs : List Loc) (ls : Array Slot), lv_has ls 10 [(0, rv x0), (3, .int x3), (5, .int x5), (6, .int x6), (7, .int x7)] → St E A s h H locs → k32 x0 x3 x5 x6 x7 = some r9 → W p l e R s m args below meth c H locs 0 0 (MQ below (Qi E A h r9) args s 0 0 A) (F0 m 32 ls [])) :
    ∀ (x0 : Nat) (x3 : Int32) (x5 : Int32) (x6 : Int32) (x7 : Int32) (H : Heap) (locs : List Loc) (ls : Array Slot), lv_has ls 10 [(0, rv x0), (3, .int x3), (5, .int x5), (6, .int x6), (7, .int x7)] → St E A s h H locs → fX10_firstFlaw_32 h k32 x0 x3 x5 x6 x7 = some r9 → W p l e R s m args below meth c H locs 0 0 (MQ below (Qi E A h r9) args s 0 0 A) (F0 m 32 ls []) := by
  intro x0 x3 x5 x6 x7 H locs ls hl S hf
  unfold fX10_firstFlaw_32 at hf
  refine lv_iload X.1 X.2.1 dX10_firstFlaw_32 (lv_at hl 4 rfl) ?_
  refine lv_iload X.1 X.2.1 dX10_firstFlaw_34 (lv_at hl 2 rfl) ?_
  refine lv_icmp_gt (tgt := 151) X.1 X.2.1 dX10_firstFlaw_36 (by decide) (fun c1 => ?_) (fun c1 => ?_)
  · replace hf := (if_pos c1).symm.trans hf
    refine lv_iconst (v := (-1)) X.1 X.2.1 dX10_firstFlaw_151 (by decide) ?_
    cases hf; exact g_ri X S hr hlk dX10_firstFlaw_152
  · replace hf := (if_neg c1).symm.trans hf
    refine lv_iload X.1 X.2.1 dX10_firstFlaw_39 (lv_at hl 4 rfl) ?_
    refine lv_sipush (v := 512) X.1 X.2.1 dX10_firstFlaw_41 (by decide) ?_
    refine lv_icmp_ge (tgt := 151) X.1 X.2.1 dX10_firstFlaw_44 (by decide) (fun c2 => ?_) (fun c2 => ?_)
    · replace hf := (if_pos c2).symm.trans hf
      refine lv_iconst (v := (-1)) X.1 X.2.1 dX10_firstFlaw_151 (by decide) ?_
      cases hf; exact g_ri X S hr hlk dX10_firstFlaw_152
    · replace hf := (if_neg c2).symm.trans hf
      refine g_aload_n X (or_rv _) dX10_firstFlaw_47 rfl (lv_at hl 0 rfl) ?_
      refine g_gR X S foX10_13 dX10_firstFlaw_48 hf (fun v3 hf => ?_)
      refine lv_iload X.1 X.2.1 dX10_firstFlaw_51 (lv_at hl 4 rfl) ?_
      refine lv_iconst (v := 1) X.1 X.2.1 dX10_firstFlaw_53 (by decide) ?_
      refine lv_ishr X.1 X.2.1 dX10_firstFlaw_54 ?_
      refine g_aI X S dX10_firstFlaw_55 hf (fun v4 hf => ?_)
      refine lv_iload X.1 X.2.1 dX10_firstFlaw_56 (lv_at hl 4 rfl) ?_
      refine lv_iconst (v := 1) X.1 X.2.1 dX10_firstFlaw_58 (by decide) ?_
      refine lv_iand X.1 X.2.1 dX10_firstFlaw_59 ?_
      refine lv_if_ne (tgt := 67) X.1 X.2.1 dX10_firstFlaw_60 (by decide) (fun c5 => ?_) (fun c5 => ?_)
      · replace hf := (if_neg c5).symm.trans hf
        refine lv_iconst (v := 0) X.1 X.2.1 dX10_firstFlaw_67 (by decide) ?_
        exact wfX10_firstFlaw_68 X hr hlk hnm hk32 _ _ _ _ _ _ _ _ _ _ hl S hf
      · replace hf := (if_pos c5).symm.trans hf
        refine lv_iconst (v := 4) X.1 X.2.1 dX10_firstFlaw_63 (by decide) ?_
        refine lv_goto (tgt := 68) X.1 X.2.1 dX10_firstFlaw_64 (by decide) ?_
        exact wfX10_firstFlaw_68 X hr hlk hnm hk32 _ _ _ _ _ _ _ _ _ _ hl S hf
theorem wfX10_firstFlaw_32_l {h : Hp} {r9 : Int32} (X : Cx p E A 8 R s m args c cX10_firstFlaw yX10_firstFlaw.cls 10) (hr : meth.sig.returnType = (some .int)) (hlk : meth.locks = false) (hnm : meth.name = yX10_firstFlaw.name) :
    ∀ (n : Nat) (x0 : Nat) (x3 : Int32) (x5 : Int32) (x6 : Int32) (x7 : Int32) (H : Heap) (locs : List Loc) (ls : Array Slot), lv_has ls 10 [(0, rv x0), (3, .int x3), (5, .int x5), (6, .int x6), (7, .int x7)] → St E A s h H locs → lp (fun _ _ _ _ _ => none) (fX10_firstFlaw_32 h) n x0 x3 x5 x6 x7 = some r9 → W p l e R s m args below meth c H locs 0 0 (MQ below (Qi E A h r9) args s 0 0 A) (F0 m 32 ls []) := by
  intro n
  induction n with
  | zero =>
    intro x0 x3 x5 x6 x7 H locs ls hl S hf
    exact nomatch hf
  | succ n ih =>
    intro x0 x3 x5 x6 x7 H locs ls hl S hf
    exact wfX10_firstFlaw_32 X hr hlk hnm ih x0 x3 x5 x6 x7 H locs ls hl S hf
def fX10_firstFlaw_22 (h : Hp) (x0 : Nat) (x3 : Int32) (x4 : Int32) (x5 : Int32) (y0 : Int32) : Option (Int32) := lt (imax x4 0) fun z1 => lp (fun _ _ _ _ _ => none) (fX10_firstFlaw_32 h) FU x0 x3 x5 y0 z1
theorem wfX10_firstFlaw_22 {h : Hp} {r9 : Int32} (X : Cx p E A 8 R s m args c cX10_firstFlaw yX10_firstFlaw.cls 10) (hr : meth.sig.returnType = (some .int)) (hlk : meth.locks = false) (hnm : meth.name = yX10_firstFlaw.name) :
    ∀ (x0 : Nat) (x3 : Int32) (x4 : Int32) (x5 : Int32) (y0 : Int32) (H : Heap) (locs : List Loc) (ls : Array Slot), lv_has ls 10 [(0, rv x0), (3, .int x3), (4, .int x4), (5, .int x5)] → St E A s h H locs → fX10_firstFlaw_22 h x0 x3 x4 x5 y0 = some r9 → W p l e R s m args below meth c H locs 0 0 (MQ below (Qi E A h r9) args s 0 0 A) (F0 m 22 ls [.int y0]) := by
  intro x0 x3 x4 x5 y0 H locs ls hl S hf
  unfold fX10_firstFlaw_22 at hf
  refine lv_istore (lv' := [(6, .int y0), (0, rv x0), (3, .int x3), (4, .int x4), (5, .int x5)]) X.1 X.2.1 dX10_firstFlaw_22 hl (by decide) rfl (fun ls hl => ?_)
  refine lv_iload X.1 X.2.1 dX10_firstFlaw_24 (lv_at hl 3 rfl) ?_
  refine lv_iconst (v := 0) X.1 X.2.1 dX10_firstFlaw_26 (by decide) ?_
  refine g_max (rest := []) X hl.1 (by decide) (by decide) mlX10_24 u_max_s u_math u_max_c (Nat.zero_le _) (Nat.zero_le _) dX10_firstFlaw_27 ?_
  refine g_lti hf (fun z1 hf => ?_)
  refine lv_istore (lv' := [(7, .int z1), (6, .int y0), (0, rv x0), (3, .int x3), (4, .int x4), (5, .int x5)]) X.1 X.2.1 dX10_firstFlaw_30 hl (by decide) rfl (fun ls hl => ?_)
  exact wfX10_firstFlaw_32_l X hr hlk hnm FU _ _ _ _ _ _ _ _ (lv_sub hl [2, 3, 5, 1, 0] rfl) S hf
def fX10_firstFlaw (a0 : Nat) (a1 : Int32) (a2 : Int32) (a3 : Int32) (a4 : Int32) (h : Hp) : Option (Int32) := gd 9 a0 h (lt ((2 * (a1 + a2)) - 1) fun z1 => if a3 = 0 then fX10_firstFlaw_22 h a0 a3 a4 z1 z1 else fX10_firstFlaw_22 h a0 a3 a4 z1 (z1 - 1))
theorem tkX10_firstFlaw {a0 : Nat} {a1 : Int32} {a2 : Int32} {a3 : Int32} {a4 : Int32} {h : Hp} {r9 : Int32} (e : fX10_firstFlaw a0 a1 a2 a3 a4 h = some r9) : hK h a0 = 9 := by
  unfold fX10_firstFlaw at e
  exact (gd_some e).1
theorem cX10_firstFlaw_m (l : Launch) {E : EE} {A : Nat → Prop} {a0 : Nat} {a1 : Int32} {a2 : Int32} {a3 : Int32} {a4 : Int32} {h : Hp} {r9 : Int32} (hf : fX10_firstFlaw a0 a1 a2 a3 a4 h = some r9) : Met l yX10_firstFlaw (wsM yX10_firstFlaw cX10_firstFlaw 10 (some .int)) (rmm 8 0 0) (PcE E A h [rv a0, .int a1, .int a2, .int a3, .int a4]) (Qi E A h r9) 0 0 A := by
  refine met_of (by decide +kernel) (by simp [lg_sl, cat_rv, cat_wv, cat_sv, cat_i, cat_l, cat_a]) (fun p e s m args below meth c ls X hr hlk hnm S hl => ?_)
  have hl : lv_has ls 10 [(0, rv a0), (1, .int a1), (2, .int a2), (3, .int a3), (4, .int a4)] := by simpa [lv_args, cat_rv, cat_wv, cat_sv, cat_i, cat_l, cat_a] using hl
  generalize hH : s.heap = H at S ⊢
  generalize hlo : ([] : List Loc) = locs at S ⊢
  clear hH hlo
  unfold fX10_firstFlaw at hf
  obtain ⟨hth, hf⟩ := gd_some hf
  refine lv_iconst (v := 2) X.1 X.2.1 dX10_firstFlaw_0 (by decide) ?_
  refine lv_iload_n X.1 X.2.1 dX10_firstFlaw_1 rfl (lv_at hl 1 rfl) ?_
  refine lv_iload_n X.1 X.2.1 dX10_firstFlaw_2 rfl (lv_at hl 2 rfl) ?_
  refine lv_iadd X.1 X.2.1 dX10_firstFlaw_3 ?_
  refine lv_imul X.1 X.2.1 dX10_firstFlaw_4 ?_
  refine lv_iconst (v := 1) X.1 X.2.1 dX10_firstFlaw_5 (by decide) ?_
  refine lv_isub X.1 X.2.1 dX10_firstFlaw_6 ?_
  refine g_lti hf (fun z1 hf => ?_)
  refine lv_istore (lv' := [(5, .int z1), (0, rv a0), (1, .int a1), (2, .int a2), (3, .int a3), (4, .int a4)]) X.1 X.2.1 dX10_firstFlaw_7 hl (by decide) rfl (fun ls hl => ?_)
  refine lv_iload_n X.1 X.2.1 dX10_firstFlaw_9 rfl (lv_at hl 4 rfl) ?_
  refine lv_if_eq (tgt := 20) X.1 X.2.1 dX10_firstFlaw_10 (by decide) (fun c2 => ?_) (fun c2 => ?_)
  · replace hf := (if_pos c2).symm.trans hf
    refine lv_iload X.1 X.2.1 dX10_firstFlaw_20 (lv_at hl 0 rfl) ?_
    exact wfX10_firstFlaw_22 X hr hlk hnm _ _ _ _ _ _ _ _ (lv_sub hl [1, 4, 5, 0] rfl) S hf
  · replace hf := (if_neg c2).symm.trans hf
    refine lv_iload X.1 X.2.1 dX10_firstFlaw_13 (lv_at hl 0 rfl) ?_
    refine lv_iconst (v := 1) X.1 X.2.1 dX10_firstFlaw_15 (by decide) ?_
    refine lv_isub X.1 X.2.1 dX10_firstFlaw_16 ?_
    refine lv_goto (tgt := 22) X.1 X.2.1 dX10_firstFlaw_17 (by decide) ?_
    exact wfX10_firstFlaw_22 X hr hlk hnm _ _ _ _ _ _ _ _ (lv_sub hl [1, 4, 5, 0] rfl) S hf
def fX10_half (a0 : Nat) (a1 : Int32) (h : Hp) : Option (Int32) := gd 9 a0 h (lt (a1 >>> ((1 : Int32) &&& 31)) fun z1 => if z1 < 0 then some 0 else if z1 < 256 then ob (gR 9 a0 0 h) fun v4 => ob (aI v4 z1 h) fun v5 => if (a1 &&& (1 : Int32)) = 0 then some ((v5 >>> ((4 : Int32) &&& 31)) &&& (15 : Int32)) else some ((v5 >>> ((0 : Int32) &&& 31)) &&& (15 : Int32)) else some 0)
theorem tkX10_half {a0 : Nat} {a1 : Int32} {h : Hp} {r9 : Int32} (e : fX10_half a0 a1 h = some r9) : hK h a0 = 9 := by
  unfold fX10_half at e
  exact (gd_some e).1
theorem cX10_half_m (l : Launch) {E : EE} {A : Nat → Prop} {a0 : Nat} {a1 : Int32} {h : Hp} {r9 : Int32} (hf : fX10_half a0 a1 h = some r9) : Met l yX10_half (wsM yX10_half cX10_half 3 (some .int)) (rmm 8 0 0) (PcE E A h [rv a0, .int a1]) (Qi E A h r9) 0 0 A := by
  refine met_of (by decide +kernel) (by simp [lg_sl, cat_rv, cat_wv, cat_sv, cat_i, cat_l, cat_a]) (fun p e s m args below meth c ls X hr hlk hnm S hl => ?_)
  have hl : lv_has ls 3 [(0, rv a0), (1, .int a1)] := by simpa [lv_args, cat_rv, cat_wv, cat_sv, cat_i, cat_l, cat_a] using hl
  generalize hH : s.heap = H at S ⊢
  generalize hlo : ([] : List Loc) = locs at S ⊢
  clear hH hlo
  unfold fX10_half at hf
  obtain ⟨hth, hf⟩ := gd_some hf
  refine lv_iload_n X.1 X.2.1 dX10_half_0 rfl (lv_at hl 1 rfl) ?_
  refine lv_iconst (v := 1) X.1 X.2.1 dX10_half_1 (by decide) ?_
  refine lv_ishr X.1 X.2.1 dX10_half_2 ?_
  refine g_lti hf (fun z1 hf => ?_)
  refine lv_istore_n (i := 2) (lv' := [(2, .int z1), (0, rv a0), (1, .int a1)]) X.1 X.2.1 dX10_half_3 rfl hl (by decide) rfl (fun ls hl => ?_)
  refine lv_iload_n X.1 X.2.1 dX10_half_4 rfl (lv_at hl 0 rfl) ?_
  refine lv_if_lt (tgt := 15) X.1 X.2.1 dX10_half_5 (by decide) (fun c2 => ?_) (fun c2 => ?_)
  · replace hf := (if_pos c2).symm.trans hf
    refine lv_iconst (v := 0) X.1 X.2.1 dX10_half_15 (by decide) ?_
    refine lv_goto (tgt := 40) X.1 X.2.1 dX10_half_16 (by decide) ?_
    cases hf; exact g_ri X S hr hlk dX10_half_40
  · replace hf := (if_neg c2).symm.trans hf
    refine lv_iload_n X.1 X.2.1 dX10_half_8 rfl (lv_at hl 0 rfl) ?_
    refine lv_sipush (v := 256) X.1 X.2.1 dX10_half_9 (by decide) ?_
    refine lv_icmp_lt (tgt := 19) X.1 X.2.1 dX10_half_12 (by decide) (fun c3 => ?_) (fun c3 => ?_)
    · replace hf := (if_pos c3).symm.trans hf
      refine g_aload_n X (or_rv _) dX10_half_19 rfl (lv_at hl 1 rfl) ?_
      refine g_gR X S foX10_13 dX10_half_20 hf (fun v4 hf => ?_)
      refine lv_iload_n X.1 X.2.1 dX10_half_23 rfl (lv_at hl 0 rfl) ?_
      refine g_aI X S dX10_half_24 hf (fun v5 hf => ?_)
      refine lv_iload_n X.1 X.2.1 dX10_half_25 rfl (lv_at hl 2 rfl) ?_
      refine lv_iconst (v := 1) X.1 X.2.1 dX10_half_26 (by decide) ?_
      refine lv_iand X.1 X.2.1 dX10_half_27 ?_
      refine lv_if_ne (tgt := 35) X.1 X.2.1 dX10_half_28 (by decide) (fun c6 => ?_) (fun c6 => ?_)
      · replace hf := (if_neg c6).symm.trans hf
        refine lv_iconst (v := 0) X.1 X.2.1 dX10_half_35 (by decide) ?_
        refine lv_ishr X.1 X.2.1 dX10_half_36 ?_
        refine lv_bipush (v := 15) X.1 X.2.1 dX10_half_37 (by decide) ?_
        refine lv_iand X.1 X.2.1 dX10_half_39 ?_
        cases hf; exact g_ri X S hr hlk dX10_half_40
      · replace hf := (if_pos c6).symm.trans hf
        refine lv_iconst (v := 4) X.1 X.2.1 dX10_half_31 (by decide) ?_
        refine lv_goto (tgt := 36) X.1 X.2.1 dX10_half_32 (by decide) ?_
        refine lv_ishr X.1 X.2.1 dX10_half_36 ?_
        refine lv_bipush (v := 15) X.1 X.2.1 dX10_half_37 (by decide) ?_
        refine lv_iand X.1 X.2.1 dX10_half_39 ?_
        cases hf; exact g_ri X S hr hlk dX10_half_40
    · replace hf := (if_neg c3).symm.trans hf
      refine lv_iconst (v := 0) X.1 X.2.1 dX10_half_15 (by decide) ?_
      refine lv_goto (tgt := 40) X.1 X.2.1 dX10_half_16 (by decide) ?_
      cases hf; exact g_ri X S hr hlk dX10_half_40
def fX10_running (a0 : Nat) (h : Hp) : Option (Int32) := gd 9 a0 h (ob (gR 9 a0 0 h) fun v1 => ob (aI v1 267 h) fun v2 => if v2 = 0 then some 1 else some 0)
theorem tkX10_running {a0 : Nat} {h : Hp} {r9 : Int32} (e : fX10_running a0 h = some r9) : hK h a0 = 9 := by
  unfold fX10_running at e
  exact (gd_some e).1
theorem cX10_running_m (l : Launch) {E : EE} {A : Nat → Prop} {a0 : Nat} {h : Hp} {r9 : Int32} (hf : fX10_running a0 h = some r9) : Met l yX10_running (wsM yX10_running cX10_running 1 (some .boolean)) (rmm 8 0 0) (PcE E A h [rv a0]) (Qi E A h r9) 0 0 A := by
  refine met_of (by decide +kernel) (by simp [lg_sl, cat_rv, cat_wv, cat_sv, cat_i, cat_l, cat_a]) (fun p e s m args below meth c ls X hr hlk hnm S hl => ?_)
  have hl : lv_has ls 1 [(0, rv a0)] := by simpa [lv_args, cat_rv, cat_wv, cat_sv, cat_i, cat_l, cat_a] using hl
  generalize hH : s.heap = H at S ⊢
  generalize hlo : ([] : List Loc) = locs at S ⊢
  clear hH hlo
  unfold fX10_running at hf
  obtain ⟨hth, hf⟩ := gd_some hf
  refine g_aload_n X (or_rv _) dX10_running_0 rfl (lv_at hl 0 rfl) ?_
  refine g_gR X S foX10_13 dX10_running_1 hf (fun v1 hf => ?_)
  refine lv_sipush (v := 267) X.1 X.2.1 dX10_running_4 (by decide) ?_
  refine g_aI X S dX10_running_7 hf (fun v2 hf => ?_)
  refine lv_if_ne (tgt := 15) X.1 X.2.1 dX10_running_8 (by decide) (fun c3 => ?_) (fun c3 => ?_)
  · replace hf := (if_neg c3).symm.trans hf
    refine lv_iconst (v := 0) X.1 X.2.1 dX10_running_15 (by decide) ?_
    cases hf; exact g_rz X S hr hlk (by decide) dX10_running_16
  · replace hf := (if_pos c3).symm.trans hf
    refine lv_iconst (v := 1) X.1 X.2.1 dX10_running_11 (by decide) ?_
    refine lv_goto (tgt := 16) X.1 X.2.1 dX10_running_12 (by decide) ?_
    cases hf; exact g_rz X S hr hlk (by decide) dX10_running_16
def fX10_become (a0 : Nat) (a1 : Nat) (h : Hp) : Option (Hp) := gd 9 a0 h (ob (gR 9 a1 0 h) fun v1 => ob (gR 9 a0 0 h) fun v2 => ob (cpA v1 0 v2 0 411 h) fun h => some h)
theorem tkX10_become {a0 : Nat} {a1 : Nat} {h : Hp} {r9 : Hp} (e : fX10_become a0 a1 h = some r9) : hK h a0 = 9 := by
  unfold fX10_become at e
  exact (gd_some e).1
theorem cX10_become_m (l : Launch) {E : EE} {A : Nat → Prop} {a0 : Nat} {a1 : Nat} {h : Hp} {h9 : Hp} (hf : fX10_become a0 a1 h = some h9) : Met l yX10_become (wsM yX10_become cX10_become 2 none) (rmm 8 0 0) (PcE E A h [rv a0, rv a1]) (Qv E A h9) 0 0 A := by
  refine met_of (by decide +kernel) (by simp [lg_sl, cat_rv, cat_wv, cat_sv, cat_i, cat_l, cat_a]) (fun p e s m args below meth c ls X hr hlk hnm S hl => ?_)
  have hl : lv_has ls 2 [(0, rv a0), (1, rv a1)] := by simpa [lv_args, cat_rv, cat_wv, cat_sv, cat_i, cat_l, cat_a] using hl
  generalize hH : s.heap = H at S ⊢
  generalize hlo : ([] : List Loc) = locs at S ⊢
  clear hH hlo
  unfold fX10_become at hf
  obtain ⟨hth, hf⟩ := gd_some hf
  refine g_aload_n X (or_rv _) dX10_become_0 rfl (lv_at hl 1 rfl) ?_
  refine g_gR X S foX10_13 dX10_become_1 hf (fun v1 hf => ?_)
  refine lv_iconst (v := 0) X.1 X.2.1 dX10_become_4 (by decide) ?_
  refine g_aload_n X (or_rv _) dX10_become_5 rfl (lv_at hl 0 rfl) ?_
  refine g_gR X S foX10_13 dX10_become_6 hf (fun v2 hf => ?_)
  refine lv_iconst (v := 0) X.1 X.2.1 dX10_become_9 (by decide) ?_
  refine lv_sipush (v := 411) X.1 X.2.1 dX10_become_10 (by decide) ?_
  refine g_cp (rest := []) X S hl.1 (by decide) (by decide) mlX10_46 u_ac_n u_ac_s u_ac_i dX10_become_13 hf (fun h H locs hm hf S => ?_)
  cases hf; exact g_rv X S hr hlk dX10_become_16
def fX10_put (a0 : Nat) (a1 : Int32) (a2 : Int32) (h : Hp) : Option (Hp) := gd 9 a0 h (if a1 < 0 then some h else if 411 ≤ a1 then some h else ob (gR 9 a0 0 h) fun v3 => ob (qI v3 a1 a2 h) fun h => some h)
theorem tkX10_put {a0 : Nat} {a1 : Int32} {a2 : Int32} {h : Hp} {r9 : Hp} (e : fX10_put a0 a1 a2 h = some r9) : hK h a0 = 9 := by
  unfold fX10_put at e
  exact (gd_some e).1
theorem cX10_put_m (l : Launch) {E : EE} {A : Nat → Prop} {a0 : Nat} {a1 : Int32} {a2 : Int32} {h : Hp} {h9 : Hp} (hf : fX10_put a0 a1 a2 h = some h9) : Met l yX10_put (wsM yX10_put cX10_put 3 none) (rmm 8 0 0) (PcE E A h [rv a0, .int a1, .int a2]) (Qv E A h9) 0 0 A := by
  refine met_of (by decide +kernel) (by simp [lg_sl, cat_rv, cat_wv, cat_sv, cat_i, cat_l, cat_a]) (fun p e s m args below meth c ls X hr hlk hnm S hl => ?_)
  have hl : lv_has ls 3 [(0, rv a0), (1, .int a1), (2, .int a2)] := by simpa [lv_args, cat_rv, cat_wv, cat_sv, cat_i, cat_l, cat_a] using hl
  generalize hH : s.heap = H at S ⊢
  generalize hlo : ([] : List Loc) = locs at S ⊢
  clear hH hlo
  unfold fX10_put at hf
  obtain ⟨hth, hf⟩ := gd_some hf
  refine lv_iload_n X.1 X.2.1 dX10_put_0 rfl (lv_at hl 1 rfl) ?_
  refine lv_if_lt (tgt := 18) X.1 X.2.1 dX10_put_1 (by decide) (fun c1 => ?_) (fun c1 => ?_)
  · replace hf := (if_pos c1).symm.trans hf
    cases hf; exact g_rv X S hr hlk dX10_put_18
  · replace hf := (if_neg c1).symm.trans hf
    refine lv_iload_n X.1 X.2.1 dX10_put_4 rfl (lv_at hl 1 rfl) ?_
    refine lv_sipush (v := 411) X.1 X.2.1 dX10_put_5 (by decide) ?_
    refine lv_icmp_ge (tgt := 18) X.1 X.2.1 dX10_put_8 (by decide) (fun c2 => ?_) (fun c2 => ?_)
    · replace hf := (if_pos c2).symm.trans hf
      cases hf; exact g_rv X S hr hlk dX10_put_18
    · replace hf := (if_neg c2).symm.trans hf
      refine g_aload_n X (or_rv _) dX10_put_11 rfl (lv_at hl 0 rfl) ?_
      refine g_gR X S foX10_13 dX10_put_12 hf (fun v3 hf => ?_)
      refine lv_iload_n X.1 X.2.1 dX10_put_15 rfl (lv_at hl 1 rfl) ?_
      refine lv_iload_n X.1 X.2.1 dX10_put_16 rfl (lv_at hl 2 rfl) ?_
      refine g_qI X S dX10_put_17 hf (fun h H locs hm hf S => ?_)
      cases hf; exact g_rv X S hr hlk dX10_put_18
def fX10_record (a0 : Nat) (a1 : Int32) (h : Hp) : Option (Hp) := gd 9 a0 h (ob (gR 9 a0 0 h) fun v1 => ob (aI v1 276 h) fun v2 => ob (fJ9_floorMod_7cf53 v2 64) fun v3 => ob (fX10_put a0 (287 + v3) a1 h) fun h => ob (fX10_cell a0 (351 + a1) h) fun v5 => ob (fX10_put a0 (351 + a1) (v5 + 1) h) fun h => ob (gR 9 a0 0 h) fun v7 => ob (aI v7 276 h) fun v8 => ob (qI v7 276 (v8 + 1) h) fun h => some h)
theorem tkX10_record {a0 : Nat} {a1 : Int32} {h : Hp} {r9 : Hp} (e : fX10_record a0 a1 h = some r9) : hK h a0 = 9 := by
  unfold fX10_record at e
  exact (gd_some e).1
theorem cX10_record_m (l : Launch) {E : EE} {A : Nat → Prop} {a0 : Nat} {a1 : Int32} {h : Hp} {h9 : Hp} (hf : fX10_record a0 a1 h = some h9) : Met l yX10_record (wsM yX10_record cX10_record 2 none) (rmm 9 0 0) (PcE E A h [rv a0, .int a1]) (Qv E A h9) 0 0 A := by
  refine met_of (by decide +kernel) (by simp [lg_sl, cat_rv, cat_wv, cat_sv, cat_i, cat_l, cat_a]) (fun p e s m args below meth c ls X hr hlk hnm S hl => ?_)
  have hl : lv_has ls 2 [(0, rv a0), (1, .int a1)] := by simpa [lv_args, cat_rv, cat_wv, cat_sv, cat_i, cat_l, cat_a] using hl
  generalize hH : s.heap = H at S ⊢
  generalize hlo : ([] : List Loc) = locs at S ⊢
  clear hH hlo
  unfold fX10_record at hf
  obtain ⟨hth, hf⟩ := gd_some hf
  refine g_aload_n X (or_rv _) dX10_record_0 rfl (lv_at hl 0 rfl) ?_
  refine lv_sipush (v := 287) X.1 X.2.1 dX10_record_1 (by decide) ?_
  refine g_aload_n X (or_rv _) dX10_record_4 rfl (lv_at hl 0 rfl) ?_
  refine g_gR X S foX10_13 dX10_record_5 hf (fun v1 hf => ?_)
  refine lv_sipush (v := 276) X.1 X.2.1 dX10_record_8 (by decide) ?_
  refine g_aI X S dX10_record_11 hf (fun v2 hf => ?_)
  refine lv_bipush (v := 64) X.1 X.2.1 dX10_record_12 (by decide) ?_
  obtain ⟨v3, hc, hf⟩ := ob_some hf
  refine g_ci S (runS (As := [.int v2, .int 64]) (rest := [.int 287, rv a0]) X S coX10_33 (by decide) (cJ9_floorMod_7cf53_m l hc) rfl hl.1 (by simp [cat_rv, cat_wv, cat_sv, cat_i, cat_l, cat_a]) rfl ⟨Nat.zero_le _, Nat.zero_le _⟩ dX10_record_14) (fun H locs S => ?_)
  refine lv_iadd X.1 X.2.1 dX10_record_17 ?_
  refine lv_iload_n X.1 X.2.1 dX10_record_18 rfl (lv_at hl 1 rfl) ?_
  obtain ⟨h, hc, hf⟩ := ob_some hf
  refine g_cv S (runV (As := [.int (287 + v3), .int a1]) (rest := []) X S coX10_40 (by decide) (cX10_put_m l hc) (tkX10_put hc) rfl hl.1 (by decide) rfl ⟨Nat.zero_le _, Nat.zero_le _⟩ dX10_record_19) (fun H locs S => ?_)
  refine g_aload_n X (or_rv _) dX10_record_22 rfl (lv_at hl 0 rfl) ?_
  refine lv_sipush (v := 351) X.1 X.2.1 dX10_record_23 (by decide) ?_
  refine lv_iload_n X.1 X.2.1 dX10_record_26 rfl (lv_at hl 1 rfl) ?_
  refine lv_iadd X.1 X.2.1 dX10_record_27 ?_
  refine g_aload_n X (or_rv _) dX10_record_28 rfl (lv_at hl 0 rfl) ?_
  refine lv_sipush (v := 351) X.1 X.2.1 dX10_record_29 (by decide) ?_
  refine lv_iload_n X.1 X.2.1 dX10_record_32 rfl (lv_at hl 1 rfl) ?_
  refine lv_iadd X.1 X.2.1 dX10_record_33 ?_
  obtain ⟨v5, hc, hf⟩ := ob_some hf
  refine g_ci S (runV (As := [.int (351 + a1)]) (rest := [.int (351 + a1), rv a0]) X S coX10_36 (by decide) (cX10_cell_m l hc) (tkX10_cell hc) rfl hl.1 (by simp [cat_rv, cat_wv, cat_sv, cat_i, cat_l, cat_a]) rfl ⟨Nat.zero_le _, Nat.zero_le _⟩ dX10_record_34) (fun H locs S => ?_)
  refine lv_iconst (v := 1) X.1 X.2.1 dX10_record_37 (by decide) ?_
  refine lv_iadd X.1 X.2.1 dX10_record_38 ?_
  obtain ⟨h, hc, hf⟩ := ob_some hf
  refine g_cv S (runV (As := [.int (351 + a1), .int (v5 + 1)]) (rest := []) X S coX10_40 (by decide) (cX10_put_m l hc) (tkX10_put hc) rfl hl.1 (by decide) rfl ⟨Nat.zero_le _, Nat.zero_le _⟩ dX10_record_39) (fun H locs S => ?_)
  refine g_aload_n X (or_rv _) dX10_record_42 rfl (lv_at hl 0 rfl) ?_
  refine g_gR X S foX10_13 dX10_record_43 hf (fun v7 hf => ?_)
  refine lv_sipush (v := 276) X.1 X.2.1 dX10_record_46 (by decide) ?_
  refine lv_dup2_11 X.1 X.2.1 dX10_record_49 rfl (cat_rv _) ?_
  refine g_aI X S dX10_record_50 hf (fun v8 hf => ?_)
  refine lv_iconst (v := 1) X.1 X.2.1 dX10_record_51 (by decide) ?_
  refine lv_iadd X.1 X.2.1 dX10_record_52 ?_
  refine g_qI X S dX10_record_53 hf (fun h H locs hm hf S => ?_)
  cases hf; exact g_rv X S hr hlk dX10_record_54
def fX10_isByte (a0 : Int32) : Option (Int32) := if a0 < 0 then some 0 else if 256 ≤ a0 then some 0 else some 1
theorem cX10_isByte_m (l : Launch) {E : EE} {A : Nat → Prop} {a0 : Int32} {h : Hp} {r9 : Int32} (hf : fX10_isByte a0 = some r9) : Met l yX10_isByte (wsM yX10_isByte cX10_isByte 1 (some .boolean)) (rmm 8 0 0) (PcE E A h [.int a0]) (Qi E A h r9) 0 0 A := by
  refine met_of (by decide +kernel) (by simp [lg_sl, cat_rv, cat_wv, cat_sv, cat_i, cat_l, cat_a]) (fun p e s m args below meth c ls X hr hlk hnm S hl => ?_)
  have hl : lv_has ls 1 [(0, .int a0)] := by simpa [lv_args, cat_rv, cat_wv, cat_sv, cat_i, cat_l, cat_a] using hl
  generalize hH : s.heap = H at S ⊢
  generalize hlo : ([] : List Loc) = locs at S ⊢
  clear hH hlo
  unfold fX10_isByte at hf
  refine lv_iload_n X.1 X.2.1 dX10_isByte_0 rfl (lv_at hl 0 rfl) ?_
  refine lv_if_lt (tgt := 15) X.1 X.2.1 dX10_isByte_1 (by decide) (fun c1 => ?_) (fun c1 => ?_)
  · replace hf := (if_pos c1).symm.trans hf
    refine lv_iconst (v := 0) X.1 X.2.1 dX10_isByte_15 (by decide) ?_
    cases hf; exact g_rz X S hr hlk (by decide) dX10_isByte_16
  · replace hf := (if_neg c1).symm.trans hf
    refine lv_iload_n X.1 X.2.1 dX10_isByte_4 rfl (lv_at hl 0 rfl) ?_
    refine lv_sipush (v := 256) X.1 X.2.1 dX10_isByte_5 (by decide) ?_
    refine lv_icmp_ge (tgt := 15) X.1 X.2.1 dX10_isByte_8 (by decide) (fun c2 => ?_) (fun c2 => ?_)
    · replace hf := (if_pos c2).symm.trans hf
      refine lv_iconst (v := 0) X.1 X.2.1 dX10_isByte_15 (by decide) ?_
      cases hf; exact g_rz X S hr hlk (by decide) dX10_isByte_16
    · replace hf := (if_neg c2).symm.trans hf
      refine lv_iconst (v := 1) X.1 X.2.1 dX10_isByte_11 (by decide) ?_
      refine lv_goto (tgt := 16) X.1 X.2.1 dX10_isByte_12 (by decide) ?_
      cases hf; exact g_rz X S hr hlk (by decide) dX10_isByte_16
def fX10_alike_3 (h : Hp) (k3 : Nat → Nat → Int32 → Int32 → Int32 → Option (Int32)) (x0 : Nat) (x1 : Nat) (x2 : Int32) (x3 : Int32) (x4 : Int32) : Option (Int32) := if x2 ≤ x4 then some 1 else if 411 ≤ x4 then some 1 else ob (gR 9 x0 0 h) fun v3 => ob (aI v3 x4 h) fun v4 => ob (gR 9 x1 0 h) fun v5 => ob (aI v5 x4 h) fun v6 => if v4 = v6 then lt (x4 + 1) fun z8 => k3 x0 x1 x2 x3 z8 else if x4 = x3 then lt (x4 + 1) fun z10 => k3 x0 x1 x2 x3 z10 else some 0
theorem wfX10_alike_3 {h : Hp} {k3 : Nat → Nat → Int32 → Int32 → Int32 → Option (Int32)} {r9 : Int32} (X : Cx p E A 8 R s m args c cX10_alike yX10_alike.cls 5) (hr : meth.sig.returnType = (some .boolean)) (hlk : meth.locks = false) (hnm : meth.name = yX10_alike.name) (hk3 : ∀ (x0 : Nat) (x1 : Nat) (x2 : Int32) (x3 : Int32) (x4 : Int32) (H : Heap) (locs : List Loc) (ls : Array Slot), lv_has ls 5 [(0, rv x0), (1, rv x1), (2, .int x2), (3, .int x3), (4, .int x4)] → St E A s h H locs → k3 x0 x1 x2 x3 x4 = some r9 → W p l e R s m args below meth c H locs 0 0 (MQ below (Qi E A h r9) args s 0 0 A) (F0 m 3 ls [])) :
    ∀ (x0 : Nat) (x1 : Nat) (x2 : Int32) (x3 : Int32) (x4 : Int32) (H : Heap) (locs : List Loc) (ls : Array Slot), lv_has ls 5 [(0, rv x0), (1, rv x1), (2, .int x2), (3, .int x3), (4, .int x4)] → St E A s h H locs → fX10_alike_3 h k3 x0 x1 x2 x3 x4 = some r9 → W p l e R s m args below meth c H locs 0 0 (MQ below (Qi E A h r9) args s 0 0 A) (F0 m 3 ls []) := by
  intro x0 x1 x2 x3 x4 H locs ls hl S hf
  unfold fX10_alike_3 at hf
  refine lv_iload X.1 X.2.1 dX10_alike_3 (lv_at hl 4 rfl) ?_
  refine lv_iload_n X.1 X.2.1 dX10_alike_5 rfl (lv_at hl 2 rfl) ?_
  refine lv_icmp_ge (tgt := 48) X.1 X.2.1 dX10_alike_6 (by decide) (fun c1 => ?_) (fun c1 => ?_)
  · replace hf := (if_pos c1).symm.trans hf
    refine lv_iconst (v := 1) X.1 X.2.1 dX10_alike_48 (by decide) ?_
    cases hf; exact g_rz X S hr hlk (by decide) dX10_alike_49
  · replace hf := (if_neg c1).symm.trans hf
    refine lv_iload X.1 X.2.1 dX10_alike_9 (lv_at hl 4 rfl) ?_
    refine lv_sipush (v := 411) X.1 X.2.1 dX10_alike_11 (by decide) ?_
    refine lv_icmp_ge (tgt := 48) X.1 X.2.1 dX10_alike_14 (by decide) (fun c2 => ?_) (fun c2 => ?_)
    · replace hf := (if_pos c2).symm.trans hf
      refine lv_iconst (v := 1) X.1 X.2.1 dX10_alike_48 (by decide) ?_
      cases hf; exact g_rz X S hr hlk (by decide) dX10_alike_49
    · replace hf := (if_neg c2).symm.trans hf
      refine g_aload_n X (or_rv _) dX10_alike_17 rfl (lv_at hl 0 rfl) ?_
      refine g_gR X S foX10_13 dX10_alike_18 hf (fun v3 hf => ?_)
      refine lv_iload X.1 X.2.1 dX10_alike_21 (lv_at hl 4 rfl) ?_
      refine g_aI X S dX10_alike_23 hf (fun v4 hf => ?_)
      refine g_aload_n X (or_rv _) dX10_alike_24 rfl (lv_at hl 1 rfl) ?_
      refine g_gR X S foX10_13 dX10_alike_25 hf (fun v5 hf => ?_)
      refine lv_iload X.1 X.2.1 dX10_alike_28 (lv_at hl 4 rfl) ?_
      refine g_aI X S dX10_alike_30 hf (fun v6 hf => ?_)
      refine lv_icmp_eq (tgt := 42) X.1 X.2.1 dX10_alike_31 (by decide) (fun c7 => ?_) (fun c7 => ?_)
      · replace hf := (if_pos c7).symm.trans hf
        obtain ⟨z8, ez8, hf⟩ := lt_some hf
        refine lv_iinc (v := z8) (lv' := [(4, .int z8), (0, rv x0), (1, rv x1), (2, .int x2), (3, .int x3)]) X.1 X.2.1 dX10_alike_42 hl (k := 4) rfl (by rw [← ez8]; rfl) (by decide) rfl (fun ls hl => ?_)
        refine lv_goto (tgt := 3) X.1 X.2.1 dX10_alike_45 (by decide) ?_
        exact hk3 _ _ _ _ _ _ _ _ (lv_sub hl [1, 2, 3, 4, 0] rfl) S hf
      · replace hf := (if_neg c7).symm.trans hf
        refine lv_iload X.1 X.2.1 dX10_alike_34 (lv_at hl 4 rfl) ?_
        refine lv_iload_n X.1 X.2.1 dX10_alike_36 rfl (lv_at hl 3 rfl) ?_
        refine lv_icmp_eq (tgt := 42) X.1 X.2.1 dX10_alike_37 (by decide) (fun c9 => ?_) (fun c9 => ?_)
        · replace hf := (if_pos c9).symm.trans hf
          obtain ⟨z10, ez10, hf⟩ := lt_some hf
          refine lv_iinc (v := z10) (lv' := [(4, .int z10), (0, rv x0), (1, rv x1), (2, .int x2), (3, .int x3)]) X.1 X.2.1 dX10_alike_42 hl (k := 4) rfl (by rw [← ez10]; rfl) (by decide) rfl (fun ls hl => ?_)
          refine lv_goto (tgt := 3) X.1 X.2.1 dX10_alike_45 (by decide) ?_
          exact hk3 _ _ _ _ _ _ _ _ (lv_sub hl [1, 2, 3, 4, 0] rfl) S hf
        · replace hf := (if_neg c9).symm.trans hf
          refine lv_iconst (v := 0) X.1 X.2.1 dX10_alike_40 (by decide) ?_
          cases hf; exact g_rz X S hr hlk (by decide) dX10_alike_41
theorem wfX10_alike_3_l {h : Hp} {r9 : Int32} (X : Cx p E A 8 R s m args c cX10_alike yX10_alike.cls 5) (hr : meth.sig.returnType = (some .boolean)) (hlk : meth.locks = false) (hnm : meth.name = yX10_alike.name) :
    ∀ (n : Nat) (x0 : Nat) (x1 : Nat) (x2 : Int32) (x3 : Int32) (x4 : Int32) (H : Heap) (locs : List Loc) (ls : Array Slot), lv_has ls 5 [(0, rv x0), (1, rv x1), (2, .int x2), (3, .int x3), (4, .int x4)] → St E A s h H locs → lp (fun _ _ _ _ _ => none) (fX10_alike_3 h) n x0 x1 x2 x3 x4 = some r9 → W p l e R s m args below meth c H locs 0 0 (MQ below (Qi E A h r9) args s 0 0 A) (F0 m 3 ls []) := by
  intro n
  induction n with
  | zero =>
    intro x0 x1 x2 x3 x4 H locs ls hl S hf
    exact nomatch hf
  | succ n ih =>
    intro x0 x1 x2 x3 x4 H locs ls hl S hf
    exact wfX10_alike_3 X hr hlk hnm ih x0 x1 x2 x3 x4 H locs ls hl S hf
def fX10_alike (a0 : Nat) (a1 : Nat) (a2 : Int32) (a3 : Int32) (h : Hp) : Option (Int32) := gd 9 a0 h (lp (fun _ _ _ _ _ => none) (fX10_alike_3 h) FU a0 a1 a2 a3 0)
theorem tkX10_alike {a0 : Nat} {a1 : Nat} {a2 : Int32} {a3 : Int32} {h : Hp} {r9 : Int32} (e : fX10_alike a0 a1 a2 a3 h = some r9) : hK h a0 = 9 := by
  unfold fX10_alike at e
  exact (gd_some e).1
theorem cX10_alike_m (l : Launch) {E : EE} {A : Nat → Prop} {a0 : Nat} {a1 : Nat} {a2 : Int32} {a3 : Int32} {h : Hp} {r9 : Int32} (hf : fX10_alike a0 a1 a2 a3 h = some r9) : Met l yX10_alike (wsM yX10_alike cX10_alike 5 (some .boolean)) (rmm 8 0 0) (PcE E A h [rv a0, rv a1, .int a2, .int a3]) (Qi E A h r9) 0 0 A := by
  refine met_of (by decide +kernel) (by simp [lg_sl, cat_rv, cat_wv, cat_sv, cat_i, cat_l, cat_a]) (fun p e s m args below meth c ls X hr hlk hnm S hl => ?_)
  have hl : lv_has ls 5 [(0, rv a0), (1, rv a1), (2, .int a2), (3, .int a3)] := by simpa [lv_args, cat_rv, cat_wv, cat_sv, cat_i, cat_l, cat_a] using hl
  generalize hH : s.heap = H at S ⊢
  generalize hlo : ([] : List Loc) = locs at S ⊢
  clear hH hlo
  unfold fX10_alike at hf
  obtain ⟨hth, hf⟩ := gd_some hf
  refine lv_iconst (v := 0) X.1 X.2.1 dX10_alike_0 (by decide) ?_
  refine lv_istore (lv' := [(4, .int 0), (0, rv a0), (1, rv a1), (2, .int a2), (3, .int a3)]) X.1 X.2.1 dX10_alike_1 hl (by decide) rfl (fun ls hl => ?_)
  exact wfX10_alike_3_l X hr hlk hnm FU _ _ _ _ _ _ _ _ (lv_sub hl [1, 2, 3, 4, 0] rfl) S hf
def fX10_putHalf (a0 : Nat) (a1 : Int32) (a2 : Int32) (h : Hp) : Option (Hp) := gd 9 a0 h (lt (a1 >>> ((1 : Int32) &&& 31)) fun z1 => if z1 < 0 then some h else if 256 ≤ z1 then some h else ob (gR 9 a0 0 h) fun v4 => ob (gR 9 a0 0 h) fun v5 => ob (aI v5 z1 h) fun v6 => ob (fX10_withHalf v6 (a1 &&& (1 : Int32)) a2) fun v7 => ob (qI v4 z1 v7 h) fun h => some h)
theorem tkX10_putHalf {a0 : Nat} {a1 : Int32} {a2 : Int32} {h : Hp} {r9 : Hp} (e : fX10_putHalf a0 a1 a2 h = some r9) : hK h a0 = 9 := by
  unfold fX10_putHalf at e
  exact (gd_some e).1
theorem cX10_putHalf_m (l : Launch) {E : EE} {A : Nat → Prop} {a0 : Nat} {a1 : Int32} {a2 : Int32} {h : Hp} {h9 : Hp} (hf : fX10_putHalf a0 a1 a2 h = some h9) : Met l yX10_putHalf (wsM yX10_putHalf cX10_putHalf 4 none) (rmm 9 0 0) (PcE E A h [rv a0, .int a1, .int a2]) (Qv E A h9) 0 0 A := by
  refine met_of (by decide +kernel) (by simp [lg_sl, cat_rv, cat_wv, cat_sv, cat_i, cat_l, cat_a]) (fun p e s m args below meth c ls X hr hlk hnm S hl => ?_)
  have hl : lv_has ls 4 [(0, rv a0), (1, .int a1), (2, .int a2)] := by simpa [lv_args, cat_rv, cat_wv, cat_sv, cat_i, cat_l, cat_a] using hl
  generalize hH : s.heap = H at S ⊢
  generalize hlo : ([] : List Loc) = locs at S ⊢
  clear hH hlo
  unfold fX10_putHalf at hf
  obtain ⟨hth, hf⟩ := gd_some hf
  refine lv_iload_n X.1 X.2.1 dX10_putHalf_0 rfl (lv_at hl 1 rfl) ?_
  refine lv_iconst (v := 1) X.1 X.2.1 dX10_putHalf_1 (by decide) ?_
  refine lv_ishr X.1 X.2.1 dX10_putHalf_2 ?_
  refine g_lti hf (fun z1 hf => ?_)
  refine lv_istore_n (i := 3) (lv' := [(3, .int z1), (0, rv a0), (1, .int a1), (2, .int a2)]) X.1 X.2.1 dX10_putHalf_3 rfl hl (by decide) rfl (fun ls hl => ?_)
  refine lv_iload_n X.1 X.2.1 dX10_putHalf_4 rfl (lv_at hl 0 rfl) ?_
  refine lv_if_lt (tgt := 34) X.1 X.2.1 dX10_putHalf_5 (by decide) (fun c2 => ?_) (fun c2 => ?_)
  · replace hf := (if_pos c2).symm.trans hf
    cases hf; exact g_rv X S hr hlk dX10_putHalf_34
  · replace hf := (if_neg c2).symm.trans hf
    refine lv_iload_n X.1 X.2.1 dX10_putHalf_8 rfl (lv_at hl 0 rfl) ?_
    refine lv_sipush (v := 256) X.1 X.2.1 dX10_putHalf_9 (by decide) ?_
    refine lv_icmp_ge (tgt := 34) X.1 X.2.1 dX10_putHalf_12 (by decide) (fun c3 => ?_) (fun c3 => ?_)
    · replace hf := (if_pos c3).symm.trans hf
      cases hf; exact g_rv X S hr hlk dX10_putHalf_34
    · replace hf := (if_neg c3).symm.trans hf
      refine g_aload_n X (or_rv _) dX10_putHalf_15 rfl (lv_at hl 1 rfl) ?_
      refine g_gR X S foX10_13 dX10_putHalf_16 hf (fun v4 hf => ?_)
      refine lv_iload_n X.1 X.2.1 dX10_putHalf_19 rfl (lv_at hl 0 rfl) ?_
      refine g_aload_n X (or_rv _) dX10_putHalf_20 rfl (lv_at hl 1 rfl) ?_
      refine g_gR X S foX10_13 dX10_putHalf_21 hf (fun v5 hf => ?_)
      refine lv_iload_n X.1 X.2.1 dX10_putHalf_24 rfl (lv_at hl 0 rfl) ?_
      refine g_aI X S dX10_putHalf_25 hf (fun v6 hf => ?_)
      refine lv_iload_n X.1 X.2.1 dX10_putHalf_26 rfl (lv_at hl 2 rfl) ?_
      refine lv_iconst (v := 1) X.1 X.2.1 dX10_putHalf_27 (by decide) ?_
      refine lv_iand X.1 X.2.1 dX10_putHalf_28 ?_
      refine lv_iload_n X.1 X.2.1 dX10_putHalf_29 rfl (lv_at hl 3 rfl) ?_
      obtain ⟨v7, hc, hf⟩ := ob_some hf
      refine g_ci S (runS (As := [.int v6, .int (a1 &&& (1 : Int32)), .int a2]) (rest := [.int z1, rv v4]) X S coX10_20 (by decide) (cX10_withHalf_m l hc) rfl hl.1 (by simp [cat_rv, cat_wv, cat_sv, cat_i, cat_l, cat_a]) rfl ⟨Nat.zero_le _, Nat.zero_le _⟩ dX10_putHalf_30) (fun H locs S => ?_)
      refine g_qI X S dX10_putHalf_33 hf (fun h H locs hm hf S => ?_)
      cases hf; exact g_rv X S hr hlk dX10_putHalf_34
def fX10_unlike_4 (h : Hp) (k4 : Nat → Nat → Int32 → Int32 → Option (Int32)) (x0 : Nat) (x1 : Nat) (x2 : Int32) (x3 : Int32) : Option (Int32) := if 256 ≤ x3 then some x2 else ob (gR 9 x0 0 h) fun v2 => ob (aI v2 x3 h) fun v3 => ob (gR 9 x1 0 h) fun v4 => ob (aI v4 x3 h) fun v5 => if v3 = v5 then lt (x3 + 1) fun z7 => k4 x0 x1 x2 z7 else lt (x2 + 1) fun z8 => lt (x3 + 1) fun z9 => k4 x0 x1 z8 z9
theorem wfX10_unlike_4 {h : Hp} {k4 : Nat → Nat → Int32 → Int32 → Option (Int32)} {r9 : Int32} (X : Cx p E A 8 R s m args c cX10_unlike yX10_unlike.cls 4) (hr : meth.sig.returnType = (some .int)) (hlk : meth.locks = false) (hnm : meth.name = yX10_unlike.name) (hk4 : ∀ (x0 : Nat) (x1 : Nat) (x2 : Int32) (x3 : Int32) (H : Heap) (locs : List Loc) (ls : Array Slot), lv_has ls 4 [(0, rv x0), (1, rv x1), (2, .int x2), (3, .int x3)] → St E A s h H locs → k4 x0 x1 x2 x3 = some r9 → W p l e R s m args below meth c H locs 0 0 (MQ below (Qi E A h r9) args s 0 0 A) (F0 m 4 ls [])) :
    ∀ (x0 : Nat) (x1 : Nat) (x2 : Int32) (x3 : Int32) (H : Heap) (locs : List Loc) (ls : Array Slot), lv_has ls 4 [(0, rv x0), (1, rv x1), (2, .int x2), (3, .int x3)] → St E A s h H locs → fX10_unlike_4 h k4 x0 x1 x2 x3 = some r9 → W p l e R s m args below meth c H locs 0 0 (MQ below (Qi E A h r9) args s 0 0 A) (F0 m 4 ls []) := by
  intro x0 x1 x2 x3 H locs ls hl S hf
  unfold fX10_unlike_4 at hf
  refine lv_iload_n X.1 X.2.1 dX10_unlike_4 rfl (lv_at hl 3 rfl) ?_
  refine lv_sipush (v := 256) X.1 X.2.1 dX10_unlike_5 (by decide) ?_
  refine lv_icmp_ge (tgt := 35) X.1 X.2.1 dX10_unlike_8 (by decide) (fun c1 => ?_) (fun c1 => ?_)
  · replace hf := (if_pos c1).symm.trans hf
    refine lv_iload_n X.1 X.2.1 dX10_unlike_35 rfl (lv_at hl 2 rfl) ?_
    cases hf; exact g_ri X S hr hlk dX10_unlike_36
  · replace hf := (if_neg c1).symm.trans hf
    refine g_aload_n X (or_rv _) dX10_unlike_11 rfl (lv_at hl 0 rfl) ?_
    refine g_gR X S foX10_13 dX10_unlike_12 hf (fun v2 hf => ?_)
    refine lv_iload_n X.1 X.2.1 dX10_unlike_15 rfl (lv_at hl 3 rfl) ?_
    refine g_aI X S dX10_unlike_16 hf (fun v3 hf => ?_)
    refine g_aload_n X (or_rv _) dX10_unlike_17 rfl (lv_at hl 1 rfl) ?_
    refine g_gR X S foX10_13 dX10_unlike_18 hf (fun v4 hf => ?_)
    refine lv_iload_n X.1 X.2.1 dX10_unlike_21 rfl (lv_at hl 3 rfl) ?_
    refine g_aI X S dX10_unlike_22 hf (fun v5 hf => ?_)
    refine lv_icmp_eq (tgt := 29) X.1 X.2.1 dX10_unlike_23 (by decide) (fun c6 => ?_) (fun c6 => ?_)
    · replace hf := (if_pos c6).symm.trans hf
      obtain ⟨z7, ez7, hf⟩ := lt_some hf
      refine lv_iinc (v := z7) (lv' := [(3, .int z7), (0, rv x0), (1, rv x1), (2, .int x2)]) X.1 X.2.1 dX10_unlike_29 hl (k := 3) rfl (by rw [← ez7]; rfl) (by decide) rfl (fun ls hl => ?_)
      refine lv_goto (tgt := 4) X.1 X.2.1 dX10_unlike_32 (by decide) ?_
      exact hk4 _ _ _ _ _ _ _ (lv_sub hl [1, 2, 3, 0] rfl) S hf
    · replace hf := (if_neg c6).symm.trans hf
      obtain ⟨z8, ez8, hf⟩ := lt_some hf
      refine lv_iinc (v := z8) (lv' := [(2, .int z8), (0, rv x0), (1, rv x1), (3, .int x3)]) X.1 X.2.1 dX10_unlike_26 hl (k := 2) rfl (by rw [← ez8]; rfl) (by decide) (by simp [List.filter, cat_rv, cat_wv, cat_sv]) (fun ls hl => ?_)
      obtain ⟨z9, ez9, hf⟩ := lt_some hf
      refine lv_iinc (v := z9) (lv' := [(3, .int z9), (2, .int z8), (0, rv x0), (1, rv x1)]) X.1 X.2.1 dX10_unlike_29 hl (k := 3) rfl (by rw [← ez9]; rfl) (by decide) rfl (fun ls hl => ?_)
      refine lv_goto (tgt := 4) X.1 X.2.1 dX10_unlike_32 (by decide) ?_
      exact hk4 _ _ _ _ _ _ _ (lv_sub hl [2, 3, 1, 0] rfl) S hf
theorem wfX10_unlike_4_l {h : Hp} {r9 : Int32} (X : Cx p E A 8 R s m args c cX10_unlike yX10_unlike.cls 4) (hr : meth.sig.returnType = (some .int)) (hlk : meth.locks = false) (hnm : meth.name = yX10_unlike.name) :
    ∀ (n : Nat) (x0 : Nat) (x1 : Nat) (x2 : Int32) (x3 : Int32) (H : Heap) (locs : List Loc) (ls : Array Slot), lv_has ls 4 [(0, rv x0), (1, rv x1), (2, .int x2), (3, .int x3)] → St E A s h H locs → lp (fun _ _ _ _ => none) (fX10_unlike_4 h) n x0 x1 x2 x3 = some r9 → W p l e R s m args below meth c H locs 0 0 (MQ below (Qi E A h r9) args s 0 0 A) (F0 m 4 ls []) := by
  intro n
  induction n with
  | zero =>
    intro x0 x1 x2 x3 H locs ls hl S hf
    exact nomatch hf
  | succ n ih =>
    intro x0 x1 x2 x3 H locs ls hl S hf
    exact wfX10_unlike_4 X hr hlk hnm ih x0 x1 x2 x3 H locs ls hl S hf
def fX10_unlike (a0 : Nat) (a1 : Nat) (h : Hp) : Option (Int32) := gd 9 a0 h (lp (fun _ _ _ _ => none) (fX10_unlike_4 h) FU a0 a1 0 0)
theorem tkX10_unlike {a0 : Nat} {a1 : Nat} {h : Hp} {r9 : Int32} (e : fX10_unlike a0 a1 h = some r9) : hK h a0 = 9 := by
  unfold fX10_unlike at e
  exact (gd_some e).1
theorem cX10_unlike_m (l : Launch) {E : EE} {A : Nat → Prop} {a0 : Nat} {a1 : Nat} {h : Hp} {r9 : Int32} (hf : fX10_unlike a0 a1 h = some r9) : Met l yX10_unlike (wsM yX10_unlike cX10_unlike 4 (some .int)) (rmm 8 0 0) (PcE E A h [rv a0, rv a1]) (Qi E A h r9) 0 0 A := by
  refine met_of (by decide +kernel) (by simp [lg_sl, cat_rv, cat_wv, cat_sv, cat_i, cat_l, cat_a]) (fun p e s m args below meth c ls X hr hlk hnm S hl => ?_)
  have hl : lv_has ls 4 [(0, rv a0), (1, rv a1)] := by simpa [lv_args, cat_rv, cat_wv, cat_sv, cat_i, cat_l, cat_a] using hl
  generalize hH : s.heap = H at S ⊢
  generalize hlo : ([] : List Loc) = locs at S ⊢
  clear hH hlo
  unfold fX10_unlike at hf
  obtain ⟨hth, hf⟩ := gd_some hf
  refine lv_iconst (v := 0) X.1 X.2.1 dX10_unlike_0 (by decide) ?_
  refine lv_istore_n (i := 2) (lv' := [(2, .int 0), (0, rv a0), (1, rv a1)]) X.1 X.2.1 dX10_unlike_1 rfl hl (by decide) (by simp [List.filter, cat_rv, cat_wv, cat_sv]) (fun ls hl => ?_)
  refine lv_iconst (v := 0) X.1 X.2.1 dX10_unlike_2 (by decide) ?_
  refine lv_istore_n (i := 3) (lv' := [(3, .int 0), (2, .int 0), (0, rv a0), (1, rv a1)]) X.1 X.2.1 dX10_unlike_3 rfl hl (by decide) rfl (fun ls hl => ?_)
  exact wfX10_unlike_4_l X hr hlk hnm FU _ _ _ _ _ _ _ (lv_sub hl [2, 3, 1, 0] rfl) S hf
end GM
