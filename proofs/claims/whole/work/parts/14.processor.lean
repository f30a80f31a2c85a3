section GM
variable {p : Program} {l : Launch} {e : Env} {R : Room} {s : State} {m : MethodId} {args : Array Value} {below : List Frame} {meth : Method} {c : Code} {E : EE} {A : Nat → Prop}
def fX9_init (a0 : Nat) (h : Hp) : Option (Hp) := gd 8 a0 h (ob2 (newO 1 3 h) fun p1 h => oba h (fX1_init p1 h) fun h => ob (pR 8 a0 0 p1 h) fun h => ob2 (newO 1 3 h) fun p3 h => oba h (fX1_init p3 h) fun h => ob (pR 8 a0 1 p3 h) fun h => ob2 (newO 1 3 h) fun p5 h => oba h (fX1_init p5 h) fun h => ob (pR 8 a0 2 p5 h) fun h => ob2 (newO 3 17 h) fun p7 h => oba h (fX3_init p7 h) fun h => ob (pR 8 a0 3 p7 h) fun h => ob2 (newA 101 4 9 h) fun p9 h => ob (pR 8 a0 4 p9 h) fun h => ob2 (newO 6 3 h) fun p10 h => oba h (fX6_init p10 h) fun h => ob (pR 8 a0 5 p10 h) fun h => ob2 (newO 9 1 h) fun p12 h => oba h (fX10_init p12 h) fun h => ob (pR 8 a0 6 p12 h) fun h => ob2 (newO 5 11 h) fun p14 h => obk h (fX5_init p14 h) fun h => ob (pR 8 a0 7 p14 h) fun h => some h)
theorem tkX9_init {a0 : Nat} {h : Hp} {r9 : Hp} (e : fX9_init a0 h = some r9) : hK h a0 = 8 := by
  unfold fX9_init at e
  exact (gd_some e).1
theorem cX9_init_m (l : Launch) {E : EE} {A : Nat → Prop} {a0 : Nat} {h : Hp} {h9 : Hp} {mc ms : Nat} (hmc : mc + hX h = hC h) (hms : ms + hU h = hZ h) (hf : fX9_init a0 h = some h9) : Met l yX9_init (wsM yX9_init cX9_init 1 none) (rmm 12 mc ms) (PcF E A h [rv a0]) (QG (Qv E A h9) h h9) mc ms A := by
  refine met_ofA (by decide +kernel) (by simp [lg_sl, cat_rv, cat_wv, cat_sv, cat_i, cat_l, cat_a]) hmc hms (fun p e s m args below meth c ls X hr hlk hnm S AI hl => ?_)
  have hl : lv_has ls 1 [(0, rv a0)] := by simpa [lv_args, cat_rv, cat_wv, cat_sv, cat_i, cat_l, cat_a] using hl
  generalize hH : s.heap = H at S ⊢
  generalize hlo : ([] : List Loc) = locs at S ⊢
  clear hH hlo
  unfold fX9_init at hf
  obtain ⟨hth, hf⟩ := gd_some hf
  refine g_aload_n X (or_rv _) dX9_init_0 rfl (lv_at hl 0 rfl) ?_
  refine g_oi (rest := []) X S hl.1 oiX9_3 dX9_init_1 (by decide) (by decide) (dom_ne S.1.1 hth (by decide)) ?_
  refine g_aload_n X (or_rv _) dX9_init_4 rfl (lv_at hl 0 rfl) ?_
  refine g_newO X S AI noX9_9 dX9_init_5 hf (fun p1 h H cells slots hkp1 hf S AI => ?_)
  refine lv_dup X.1 X.2.1 dX9_init_8 (cat_rv _) ?_
  obtain ⟨h, hc, hok, hf⟩ := oba_some hf
  refine g_cvA S AI hok (fun hsz => runIF (As := []) (rest := [rv p1, rv a0]) X S hsz coX9_11 (by decide) (cX1_init_m l AI.mcs.1 AI.mcs.2 hc) (tkX1_init hc) (by decide) rfl hl.1 (by simp [cat_rv, cat_wv, cat_sv, cat_i, cat_l, cat_a]) rfl AI.room dX9_init_9) (fun H locs cells slots S AI => ?_)
  refine g_pR X S fpX9_12 (Or.inl ⟨_, rfl⟩) (Or.inr hnm) dX9_init_12 hf (fun h H locs hm hf S => ?_)
  replace AI := AI.sm hm
  refine g_aload_n X (or_rv _) dX9_init_15 rfl (lv_at hl 0 rfl) ?_
  refine g_newO X S AI noX9_9 dX9_init_16 hf (fun p3 h H cells slots hkp3 hf S AI => ?_)
  refine lv_dup X.1 X.2.1 dX9_init_19 (cat_rv _) ?_
  obtain ⟨h, hc, hok, hf⟩ := oba_some hf
  refine g_cvA S AI hok (fun hsz => runIF (As := []) (rest := [rv p3, rv a0]) X S hsz coX9_11 (by decide) (cX1_init_m l AI.mcs.1 AI.mcs.2 hc) (tkX1_init hc) (by decide) rfl hl.1 (by simp [cat_rv, cat_wv, cat_sv, cat_i, cat_l, cat_a]) rfl AI.room dX9_init_20) (fun H locs cells slots S AI => ?_)
  refine g_pR X S fpX9_18 (Or.inl ⟨_, rfl⟩) (Or.inr hnm) dX9_init_23 hf (fun h H locs hm hf S => ?_)
  replace AI := AI.sm hm
  refine g_aload_n X (or_rv _) dX9_init_26 rfl (lv_at hl 0 rfl) ?_
  refine g_newO X S AI noX9_9 dX9_init_27 hf (fun p5 h H cells slots hkp5 hf S AI => ?_)
  refine lv_dup X.1 X.2.1 dX9_init_30 (cat_rv _) ?_
  obtain ⟨h, hc, hok, hf⟩ := oba_some hf
  refine g_cvA S AI hok (fun hsz => runIF (As := []) (rest := [rv p5, rv a0]) X S hsz coX9_11 (by decide) (cX1_init_m l AI.mcs.1 AI.mcs.2 hc) (tkX1_init hc) (by decide) rfl hl.1 (by simp [cat_rv, cat_wv, cat_sv, cat_i, cat_l, cat_a]) rfl AI.room dX9_init_31) (fun H locs cells slots S AI => ?_)
  refine g_pR X S fpX9_21 (Or.inl ⟨_, rfl⟩) (Or.inr hnm) dX9_init_34 hf (fun h H locs hm hf S => ?_)
  replace AI := AI.sm hm
  refine g_aload_n X (or_rv _) dX9_init_37 rfl (lv_at hl 0 rfl) ?_
  refine g_newO X S AI noX9_24 dX9_init_38 hf (fun p7 h H cells slots hkp7 hf S AI => ?_)
  refine lv_dup X.1 X.2.1 dX9_init_41 (cat_rv _) ?_
  obtain ⟨h, hc, hok, hf⟩ := oba_some hf
  refine g_cvA S AI hok (fun hsz => runIF (As := []) (rest := [rv p7, rv a0]) X S hsz coX9_26 (by decide) (cX3_init_m l AI.mcs.1 AI.mcs.2 hc) (tkX3_init hc) (by decide) rfl hl.1 (by simp [cat_rv, cat_wv, cat_sv, cat_i, cat_l, cat_a]) rfl AI.room dX9_init_42) (fun H locs cells slots S AI => ?_)
  refine g_pR X S fpX9_27 (Or.inl ⟨_, rfl⟩) (Or.inr hnm) dX9_init_45 hf (fun h H locs hm hf S => ?_)
  replace AI := AI.sm hm
  refine g_aload_n X (or_rv _) dX9_init_48 rfl (lv_at hl 0 rfl) ?_
  refine lv_bipush (v := 9) X.1 X.2.1 dX9_init_49 (by decide) ?_
  refine g_newI X S AI dX9_init_51 hf (fun p9 h H cells slots hf S AI => ?_)
  refine g_pR X S fpX9_31 (Or.inr ⟨_, rfl⟩) (Or.inr hnm) dX9_init_53 hf (fun h H locs hm hf S => ?_)
  replace AI := AI.sm hm
  refine g_aload_n X (or_rv _) dX9_init_56 rfl (lv_at hl 0 rfl) ?_
  refine g_newO X S AI noX9_35 dX9_init_57 hf (fun p10 h H cells slots hkp10 hf S AI => ?_)
  refine lv_dup X.1 X.2.1 dX9_init_60 (cat_rv _) ?_
  obtain ⟨h, hc, hok, hf⟩ := oba_some hf
  refine g_cvA S AI hok (fun hsz => runIF (As := []) (rest := [rv p10, rv a0]) X S hsz coX9_37 (by decide) (cX6_init_m l AI.mcs.1 AI.mcs.2 hc) (tkX6_init hc) (by decide) rfl hl.1 (by simp [cat_rv, cat_wv, cat_sv, cat_i, cat_l, cat_a]) rfl AI.room dX9_init_61) (fun H locs cells slots S AI => ?_)
  refine g_pR X S fpX9_38 (Or.inl ⟨_, rfl⟩) (Or.inl rfl) dX9_init_64 hf (fun h H locs hm hf S => ?_)
  replace AI := AI.sm hm
  refine g_aload_n X (or_rv _) dX9_init_67 rfl (lv_at hl 0 rfl) ?_
  refine g_newO X S AI noX9_42 dX9_init_68 hf (fun p12 h H cells slots hkp12 hf S AI => ?_)
  refine lv_dup X.1 X.2.1 dX9_init_71 (cat_rv _) ?_
  obtain ⟨h, hc, hok, hf⟩ := oba_some hf
  refine g_cvA S AI hok (fun hsz => runIF (As := []) (rest := [rv p12, rv a0]) X S hsz coX9_44 (by decide) (cX10_init_m l AI.mcs.1 AI.mcs.2 hc) (tkX10_init hc) (by decide) rfl hl.1 (by simp [cat_rv, cat_wv, cat_sv, cat_i, cat_l, cat_a]) rfl AI.room dX9_init_72) (fun H locs cells slots S AI => ?_)
  refine g_pR X S fpX9_45 (Or.inl ⟨_, rfl⟩) (Or.inl rfl) dX9_init_75 hf (fun h H locs hm hf S => ?_)
  replace AI := AI.sm hm
  refine g_aload_n X (or_rv _) dX9_init_78 rfl (lv_at hl 0 rfl) ?_
  refine g_newO X S AI noX9_49 dX9_init_79 hf (fun p14 h H cells slots hkp14 hf S AI => ?_)
  refine lv_dup X.1 X.2.1 dX9_init_82 (cat_rv _) ?_
  obtain ⟨h, hc, hok, hf⟩ := obk_some hf
  refine g_cv S (runI (As := []) (rest := [rv p14, rv a0]) X S coX9_51 (by decide) (cX5_init_m l hc) (tkX5_init hc) (by decide) rfl hl.1 (by simp [cat_rv, cat_wv, cat_sv, cat_i, cat_l, cat_a]) rfl AI.fit dX9_init_83) (fun H locs S => ?_)
  replace AI := AI.kc hok
  refine g_pR X S fpX9_52 (Or.inl ⟨_, rfl⟩) (Or.inl rfl) dX9_init_86 hf (fun h H locs hm hf S => ?_)
  replace AI := AI.sm hm
  cases hf; exact g_rvA X S AI hr hlk dX9_init_89
def fX9_exchange (a0 : Nat) (a1 : Nat) (h : Hp) : Option (Nat × Hp) := gd 8 a0 h (ob (gR 8 a0 5 h) fun v1 => ob (pR 8 a0 5 a1 h) fun h => some (v1, h))
theorem tkX9_exchange {a0 : Nat} {a1 : Nat} {h : Hp} {r9 : Nat × Hp} (e : fX9_exchange a0 a1 h = some r9) : hK h a0 = 8 := by
  unfold fX9_exchange at e
  exact (gd_some e).1
theorem cX9_exchange_m (l : Launch) {E : EE} {A : Nat → Prop} {a0 : Nat} {a1 : Nat} {h : Hp} {r9 : Nat} {h9 : Hp} (hf : fX9_exchange a0 a1 h = some (r9, h9)) : Met l yX9_exchange (wsM yX9_exchange cX9_exchange 3 (some (.object "NibbleEngine$Listing"))) (rmm 8 0 0) (PcE E A h [rv a0, rv a1]) (Qq E A h9 (oR r9)) 0 0 A := by
  refine met_of (by decide +kernel) (by simp [lg_sl, cat_rv, cat_wv, cat_sv, cat_i, cat_l, cat_a]) (fun p e s m args below meth c ls X hr hlk hnm S hl => ?_)
  have hl : lv_has ls 3 [(0, rv a0), (1, rv a1)] := by simpa [lv_args, cat_rv, cat_wv, cat_sv, cat_i, cat_l, cat_a] using hl
  generalize hH : s.heap = H at S ⊢
  generalize hlo : ([] : List Loc) = locs at S ⊢
  clear hH hlo
  unfold fX9_exchange at hf
  obtain ⟨hth, hf⟩ := gd_some hf
  refine g_aload_n X (or_rv _) dX9_exchange_0 rfl (lv_at hl 0 rfl) ?_
  refine g_gR X S foX9_38 dX9_exchange_1 hf (fun v1 hf => ?_)
  refine g_astore_n (i := 2) (lv' := [(2, rv v1), (0, rv a0), (1, rv a1)]) X (or_rv _) dX9_exchange_4 rfl hl (by decide) (by simp [List.filter, cat_rv, cat_wv, cat_sv]) (fun ls hl => ?_)
  refine g_aload_n X (or_rv _) dX9_exchange_5 rfl (lv_at hl 1 rfl) ?_
  refine g_aload_n X (or_rv _) dX9_exchange_6 rfl (lv_at hl 2 rfl) ?_
  refine g_pR X S fpX9_38 (Or.inl ⟨_, rfl⟩) (Or.inl rfl) dX9_exchange_7 hf (fun h H locs hm hf S => ?_)
  refine g_aload_n X (or_rv _) dX9_exchange_10 rfl (lv_at hl 0 rfl) ?_
  cases hf; exact g_rq X S hr (Or.inl ⟨_, rfl⟩) hlk dX9_exchange_11
def fX9_instructions (a0 : Nat) (h : Hp) : Option (Int32) := gd 8 a0 h (ob (gR 8 a0 5 h) fun v1 => ob (fX6_size v1 h) fun v2 => some v2)
theorem tkX9_instructions {a0 : Nat} {h : Hp} {r9 : Int32} (e : fX9_instructions a0 h = some r9) : hK h a0 = 8 := by
  unfold fX9_instructions at e
  exact (gd_some e).1
theorem cX9_instructions_m (l : Launch) {E : EE} {A : Nat → Prop} {a0 : Nat} {h : Hp} {r9 : Int32} (hf : fX9_instructions a0 h = some r9) : Met l yX9_instructions (wsM yX9_instructions cX9_instructions 1 (some .int)) (rmm 9 0 0) (PcE E A h [rv a0]) (Qi E A h r9) 0 0 A := by
  refine met_of (by decide +kernel) (by simp [lg_sl, cat_rv, cat_wv, cat_sv, cat_i, cat_l, cat_a]) (fun p e s m args below meth c ls X hr hlk hnm S hl => ?_)
  have hl : lv_has ls 1 [(0, rv a0)] := by simpa [lv_args, cat_rv, cat_wv, cat_sv, cat_i, cat_l, cat_a] using hl
  generalize hH : s.heap = H at S ⊢
  generalize hlo : ([] : List Loc) = locs at S ⊢
  clear hH hlo
  unfold fX9_instructions at hf
  obtain ⟨hth, hf⟩ := gd_some hf
  refine g_aload_n X (or_rv _) dX9_instructions_0 rfl (lv_at hl 0 rfl) ?_
  refine g_gR X S foX9_38 dX9_instructions_1 hf (fun v1 hf => ?_)
  obtain ⟨v2, hc, hf⟩ := ob_some hf
  refine g_ci S (runV (As := []) (rest := []) X S coX9_56 (by decide) (cX6_size_m l hc) (tkX6_size hc) rfl hl.1 (by decide) rfl ⟨Nat.zero_le _, Nat.zero_le _⟩ dX9_instructions_4) (fun H locs S => ?_)
  cases hf; exact g_ri X S hr hlk dX9_instructions_7
def fX9_held (a0 : Nat) (a1 : Int32) (h : Hp) : Option (Int32) := gd 8 a0 h (if a1 = (-1) then some 0 else ob (gR 8 a0 6 h) fun v2 => ob (fX10_cell v2 (256 + a1) h) fun v3 => some v3)
theorem tkX9_held {a0 : Nat} {a1 : Int32} {h : Hp} {r9 : Int32} (e : fX9_held a0 a1 h = some r9) : hK h a0 = 8 := by
  unfold fX9_held at e
  exact (gd_some e).1
theorem cX9_held_m (l : Launch) {E : EE} {A : Nat → Prop} {a0 : Nat} {a1 : Int32} {h : Hp} {r9 : Int32} (hf : fX9_held a0 a1 h = some r9) : Met l yX9_held (wsM yX9_held cX9_held 2 (some .int)) (rmm 9 0 0) (PcE E A h [rv a0, .int a1]) (Qi E A h r9) 0 0 A := by
  refine met_of (by decide +kernel) (by simp [lg_sl, cat_rv, cat_wv, cat_sv, cat_i, cat_l, cat_a]) (fun p e s m args below meth c ls X hr hlk hnm S hl => ?_)
  have hl : lv_has ls 2 [(0, rv a0), (1, .int a1)] := by simpa [lv_args, cat_rv, cat_wv, cat_sv, cat_i, cat_l, cat_a] using hl
  generalize hH : s.heap = H at S ⊢
  generalize hlo : ([] : List Loc) = locs at S ⊢
  clear hH hlo
  unfold fX9_held at hf
  obtain ⟨hth, hf⟩ := gd_some hf
  refine lv_iload_n X.1 X.2.1 dX9_held_0 rfl (lv_at hl 1 rfl) ?_
  refine lv_iconst (v := (-1)) X.1 X.2.1 dX9_held_1 (by decide) ?_
  refine lv_icmp_ne (tgt := 9) X.1 X.2.1 dX9_held_2 (by decide) (fun c1 => ?_) (fun c1 => ?_)
  · replace hf := (if_neg c1).symm.trans hf
    refine g_aload_n X (or_rv _) dX9_held_9 rfl (lv_at hl 0 rfl) ?_
    refine g_gR X S foX9_45 dX9_held_10 hf (fun v2 hf => ?_)
    refine lv_sipush (v := 256) X.1 X.2.1 dX9_held_13 (by decide) ?_
    refine lv_iload_n X.1 X.2.1 dX9_held_16 rfl (lv_at hl 1 rfl) ?_
    refine lv_iadd X.1 X.2.1 dX9_held_17 ?_
    obtain ⟨v3, hc, hf⟩ := ob_some hf
    refine g_ci S (runV (As := [.int (256 + a1)]) (rest := []) X S coX9_64 (by decide) (cX10_cell_m l hc) (tkX10_cell hc) rfl hl.1 (by decide) rfl ⟨Nat.zero_le _, Nat.zero_le _⟩ dX9_held_18) (fun H locs S => ?_)
    cases hf; exact g_ri X S hr hlk dX9_held_21
  · replace hf := (if_pos c1).symm.trans hf
    refine lv_iconst (v := 0) X.1 X.2.1 dX9_held_5 (by decide) ?_
    refine lv_goto (tgt := 21) X.1 X.2.1 dX9_held_6 (by decide) ?_
    cases hf; exact g_ri X S hr hlk dX9_held_21
def fX9_blame_54 (x1 : Int32) (y0 : Int32) (y1 : Int32) (y2 : Nat) (h : Hp) : Option (Int32 × Hp) := ob (qI y2 y1 y0 h) fun h => some (x1, h)
theorem wfX9_blame_54 {r9 : Int32} {h9 : Hp} (X : Cx p E A 8 R s m args c cX9_blame yX9_blame.cls 3) (hr : meth.sig.returnType = (some .int)) (hlk : meth.locks = false) (hnm : meth.name = yX9_blame.name) :
    ∀ (x1 : Int32) (y0 : Int32) (y1 : Int32) (y2 : Nat) (h : Hp) (H : Heap) (locs : List Loc) (ls : Array Slot), lv_has ls 3 [(1, .int x1)] → St E A s h H locs → fX9_blame_54 x1 y0 y1 y2 h = some (r9, h9) → W p l e R s m args below meth c H locs 0 0 (MQ below (Qi E A h9 r9) args s 0 0 A) (F0 m 54 ls [.int y0, .int y1, rv y2]) := by
  intro x1 y0 y1 y2 h H locs ls hl S hf
  unfold fX9_blame_54 at hf
  refine g_qI X S dX9_blame_54 hf (fun h H locs hm hf S => ?_)
  refine lv_iload_n X.1 X.2.1 dX9_blame_55 rfl (lv_at hl 0 rfl) ?_
  cases hf; exact g_ri X S hr hlk dX9_blame_56
def fX9_blame_27 (x0 : Nat) (x1 : Int32) (x2 : Int32) (y0 : Int32) (y1 : Int32) (y2 : Nat) (h : Hp) : Option (Int32 × Hp) := ob (qI y2 y1 y0 h) fun h => ob (gR 8 x0 4 h) fun v1 => if x2 = 0 then ob (gR 8 x0 7 h) fun v5 => ob (gI 5 v5 3 h) fun v6 => fX9_blame_54 x1 v6 5 v1 h else ob (gR 8 x0 7 h) fun v3 => ob (gI 5 v3 6 h) fun v4 => fX9_blame_54 x1 v4 5 v1 h
theorem wfX9_blame_27 {r9 : Int32} {h9 : Hp} (X : Cx p E A 8 R s m args c cX9_blame yX9_blame.cls 3) (hr : meth.sig.returnType = (some .int)) (hlk : meth.locks = false) (hnm : meth.name = yX9_blame.name) :
    ∀ (x0 : Nat) (x1 : Int32) (x2 : Int32) (y0 : Int32) (y1 : Int32) (y2 : Nat) (h : Hp) (H : Heap) (locs : List Loc) (ls : Array Slot), lv_has ls 3 [(0, rv x0), (1, .int x1), (2, .int x2)] → St E A s h H locs → fX9_blame_27 x0 x1 x2 y0 y1 y2 h = some (r9, h9) → W p l e R s m args below meth c H locs 0 0 (MQ below (Qi E A h9 r9) args s 0 0 A) (F0 m 27 ls [.int y0, .int y1, rv y2]) := by
  intro x0 x1 x2 y0 y1 y2 h H locs ls hl S hf
  unfold fX9_blame_27 at hf
  refine g_qI X S dX9_blame_27 hf (fun h H locs hm hf S => ?_)
  refine g_aload_n X (or_rv _) dX9_blame_28 rfl (lv_at hl 0 rfl) ?_
  refine g_gR X S foX9_31 dX9_blame_29 hf (fun v1 hf => ?_)
  refine lv_iconst (v := 5) X.1 X.2.1 dX9_blame_32 (by decide) ?_
  refine lv_iload_n X.1 X.2.1 dX9_blame_33 rfl (lv_at hl 2 rfl) ?_
  refine lv_if_ne (tgt := 47) X.1 X.2.1 dX9_blame_34 (by decide) (fun c2 => ?_) (fun c2 => ?_)
  · replace hf := (if_neg c2).symm.trans hf
    refine g_aload_n X (or_rv _) dX9_blame_47 rfl (lv_at hl 0 rfl) ?_
    refine g_gR X S foX9_52 dX9_blame_48 hf (fun v3 hf => ?_)
    refine g_gI X S foX9_124 rfl dX9_blame_51 hf (fun v4 hf => ?_)
    exact wfX9_blame_54 X hr hlk hnm _ _ _ _ _ _ _ _ (lv_sub hl [1] rfl) S hf
  · replace hf := (if_pos c2).symm.trans hf
    refine g_aload_n X (or_rv _) dX9_blame_37 rfl (lv_at hl 0 rfl) ?_
    refine g_gR X S foX9_52 dX9_blame_38 hf (fun v5 hf => ?_)
    refine g_gI X S foX9_118 rfl dX9_blame_41 hf (fun v6 hf => ?_)
    refine lv_goto (tgt := 54) X.1 X.2.1 dX9_blame_44 (by decide) ?_
    exact wfX9_blame_54 X hr hlk hnm _ _ _ _ _ _ _ _ (lv_sub hl [1] rfl) S hf
def fX9_blame (a0 : Nat) (a1 : Int32) (a2 : Int32) (h : Hp) : Option (Int32 × Hp) := gd 8 a0 h (ob (gR 8 a0 4 h) fun v1 => ob (qI v1 3 a2 h) fun h => ob (gR 8 a0 4 h) fun v2 => if a2 = 0 then ob (gI 8 a0 8 h) fun v5 => fX9_blame_27 a0 a1 a2 v5 4 v2 h else ob (gI 8 a0 9 h) fun v4 => fX9_blame_27 a0 a1 a2 v4 4 v2 h)
theorem tkX9_blame {a0 : Nat} {a1 : Int32} {a2 : Int32} {h : Hp} {r9 : Int32 × Hp} (e : fX9_blame a0 a1 a2 h = some r9) : hK h a0 = 8 := by
  unfold fX9_blame at e
  exact (gd_some e).1
theorem cX9_blame_m (l : Launch) {E : EE} {A : Nat → Prop} {a0 : Nat} {a1 : Int32} {a2 : Int32} {h : Hp} {r9 : Int32} {h9 : Hp} (hf : fX9_blame a0 a1 a2 h = some (r9, h9)) : Met l yX9_blame (wsM yX9_blame cX9_blame 3 (some .int)) (rmm 8 0 0) (PcE E A h [rv a0, .int a1, .int a2]) (Qi E A h9 r9) 0 0 A := by
  refine met_of (by decide +kernel) (by simp [lg_sl, cat_rv, cat_wv, cat_sv, cat_i, cat_l, cat_a]) (fun p e s m args below meth c ls X hr hlk hnm S hl => ?_)
  have hl : lv_has ls 3 [(0, rv a0), (1, .int a1), (2, .int a2)] := by simpa [lv_args, cat_rv, cat_wv, cat_sv, cat_i, cat_l, cat_a] using hl
  generalize hH : s.heap = H at S ⊢
  generalize hlo : ([] : List Loc) = locs at S ⊢
  clear hH hlo
  unfold fX9_blame at hf
  obtain ⟨hth, hf⟩ := gd_some hf
  refine g_aload_n X (or_rv _) dX9_blame_0 rfl (lv_at hl 0 rfl) ?_
  refine g_gR X S foX9_31 dX9_blame_1 hf (fun v1 hf => ?_)
  refine lv_iconst (v := 3) X.1 X.2.1 dX9_blame_4 (by decide) ?_
  refine lv_iload_n X.1 X.2.1 dX9_blame_5 rfl (lv_at hl 2 rfl) ?_
  refine g_qI X S dX9_blame_6 hf (fun h H locs hm hf S => ?_)
  refine g_aload_n X (or_rv _) dX9_blame_7 rfl (lv_at hl 0 rfl) ?_
  refine g_gR X S foX9_31 dX9_blame_8 hf (fun v2 hf => ?_)
  refine lv_iconst (v := 4) X.1 X.2.1 dX9_blame_11 (by decide) ?_
  refine lv_iload_n X.1 X.2.1 dX9_blame_12 rfl (lv_at hl 2 rfl) ?_
  refine lv_if_ne (tgt := 23) X.1 X.2.1 dX9_blame_13 (by decide) (fun c3 => ?_) (fun c3 => ?_)
  · replace hf := (if_neg c3).symm.trans hf
    refine g_aload_n X (or_rv _) dX9_blame_23 rfl (lv_at hl 0 rfl) ?_
    refine g_gI X S foX9_115 rfl dX9_blame_24 hf (fun v4 hf => ?_)
    exact wfX9_blame_27 X hr hlk hnm _ _ _ _ _ _ _ _ _ _ hl S hf
  · replace hf := (if_pos c3).symm.trans hf
    refine g_aload_n X (or_rv _) dX9_blame_16 rfl (lv_at hl 0 rfl) ?_
    refine g_gI X S foX9_106 rfl dX9_blame_17 hf (fun v5 hf => ?_)
    refine lv_goto (tgt := 27) X.1 X.2.1 dX9_blame_20 (by decide) ?_
    exact wfX9_blame_27 X hr hlk hnm _ _ _ _ _ _ _ _ _ _ hl S hf
def fX9_misfit_26 (k27 : Nat → Int32 → Hp → Option (Int32 × Hp)) (x0 : Nat) (h : Hp) : Option (Int32 × Hp) := k27 x0 0 h
theorem wfX9_misfit_26 {k27 : Nat → Int32 → Hp → Option (Int32 × Hp)} {r9 : Int32} {h9 : Hp} (X : Cx p E A 9 R s m args c cX9_misfit yX9_misfit.cls 2) (hr : meth.sig.returnType = (some .int)) (hlk : meth.locks = false) (hnm : meth.name = yX9_misfit.name) (hk27 : ∀ (x0 : Nat) (y0 : Int32) (h : Hp) (H : Heap) (locs : List Loc) (ls : Array Slot), lv_has ls 2 [(0, rv x0)] → St E A s h H locs → k27 x0 y0 h = some (r9, h9) → W p l e R s m args below meth c H locs 0 0 (MQ below (Qi E A h9 r9) args s 0 0 A) (F0 m 27 ls [.int y0])) :
    ∀ (x0 : Nat) (h : Hp) (H : Heap) (locs : List Loc) (ls : Array Slot), lv_has ls 2 [(0, rv x0)] → St E A s h H locs → fX9_misfit_26 k27 x0 h = some (r9, h9) → W p l e R s m args below meth c H locs 0 0 (MQ below (Qi E A h9 r9) args s 0 0 A) (F0 m 26 ls []) := by
  intro x0 h H locs ls hl S hf
  unfold fX9_misfit_26 at hf
  refine lv_iconst (v := 0) X.1 X.2.1 dX9_misfit_26 (by decide) ?_
  exact hk27 _ _ _ _ _ _ hl S hf
def fX9_misfit_157 (x0 : Nat) (h : Hp) : Option (Int32 × Hp) := ob2 (fX9_blame x0 2 1 h) fun v1 h => some (v1, h)
theorem wfX9_misfit_157 {r9 : Int32} {h9 : Hp} (X : Cx p E A 9 R s m args c cX9_misfit yX9_misfit.cls 2) (hr : meth.sig.returnType = (some .int)) (hlk : meth.locks = false) (hnm : meth.name = yX9_misfit.name) :
    ∀ (x0 : Nat) (h : Hp) (H : Heap) (locs : List Loc) (ls : Array Slot), lv_has ls 2 [(0, rv x0)] → St E A s h H locs → fX9_misfit_157 x0 h = some (r9, h9) → W p l e R s m args below meth c H locs 0 0 (MQ below (Qi E A h9 r9) args s 0 0 A) (F0 m 157 ls []) := by
  intro x0 h H locs ls hl S hf
  unfold fX9_misfit_157 at hf
  refine g_aload_n X (or_rv _) dX9_misfit_157 rfl (lv_at hl 0 rfl) ?_
  refine lv_iconst (v := 2) X.1 X.2.1 dX9_misfit_158 (by decide) ?_
  refine lv_iconst (v := 1) X.1 X.2.1 dX9_misfit_159 (by decide) ?_
  obtain ⟨v1, h, hc, hf⟩ := ob2_some hf
  refine g_ci S (runV (As := [.int 2, .int 1]) (rest := []) X S coX9_134 (by decide) (cX9_blame_m l hc) (tkX9_blame hc) rfl hl.1 (by decide) rfl ⟨Nat.zero_le _, Nat.zero_le _⟩ dX9_misfit_160) (fun H locs S => ?_)
  cases hf; exact g_ri X S hr hlk dX9_misfit_163
def fX9_misfit_27 (x0 : Nat) (y0 : Int32) (h : Hp) : Option (Int32 × Hp) := ob (gR 8 x0 7 h) fun v2 => ob (gR 5 v2 0 h) fun v3 => ob (wdO v3) fun v4 => ob (smI v4) fun v5 => if v5 = 1 then if y0 = 0 then some (0, h) else ob (gI 8 x0 10 h) fun v8 => ob (gI 8 x0 11 h) fun v9 => if v9 ≤ v8 then some (0, h) else ob2 (fX9_blame x0 3 1 h) fun v11 h => some (v11, h) else if v5 = 2 then if y0 = 0 then some (0, h) else ob (gI 8 x0 10 h) fun v14 => ob (gI 8 x0 11 h) fun v15 => if v14 = v15 then some (0, h) else ob2 (fX9_blame x0 3 1 h) fun v17 h => some (v17, h) else if v5 = 3 then if y0 = 0 then some (0, h) else ob (gI 8 x0 10 h) fun v20 => ob (gI 8 x0 11 h) fun v21 => if v20 = v21 then some (0, h) else ob2 (fX9_blame x0 3 1 h) fun v23 h => some (v23, h) else if v5 = 4 then ob (gR 8 x0 7 h) fun v25 => ob (gI 5 v25 6 h) fun v26 => if 8 < v26 then fX9_misfit_157 x0 h else ob (gR 8 x0 7 h) fun v28 => ob (gI 5 v28 6 h) fun v29 => ob (gR 8 x0 7 h) fun v30 => ob (gI 5 v30 3 h) fun v31 => if v29 < v31 then if y0 = 0 then some (0, h) else ob (gI 8 x0 10 h) fun v34 => ob (gI 8 x0 11 h) fun v35 => if v34 = v35 then some (0, h) else ob2 (fX9_blame x0 3 1 h) fun v37 h => some (v37, h) else fX9_misfit_157 x0 h else if v5 = 5 then ob (gR 8 x0 7 h) fun v39 => ob (gI 5 v39 6 h) fun v40 => if 8 < v40 then fX9_misfit_157 x0 h else ob (gR 8 x0 7 h) fun v42 => ob (gI 5 v42 6 h) fun v43 => ob (gR 8 x0 7 h) fun v44 => ob (gI 5 v44 3 h) fun v45 => if v43 < v45 then if y0 = 0 then some (0, h) else ob (gI 8 x0 10 h) fun v48 => ob (gI 8 x0 11 h) fun v49 => if v48 = v49 then some (0, h) else ob2 (fX9_blame x0 3 1 h) fun v51 h => some (v51, h) else fX9_misfit_157 x0 h else some (0, h)
theorem wfX9_misfit_27 {r9 : Int32} {h9 : Hp} (X : Cx p E A 9 R s m args c cX9_misfit yX9_misfit.cls 2) (hr : meth.sig.returnType = (some .int)) (hlk : meth.locks = false) (hnm : meth.name = yX9_misfit.name) :
    ∀ (x0 : Nat) (y0 : Int32) (h : Hp) (H : Heap) (locs : List Loc) (ls : Array Slot), lv_has ls 2 [(0, rv x0)] → St E A s h H locs → fX9_misfit_27 x0 y0 h = some (r9, h9) → W p l e R s m args below meth c H locs 0 0 (MQ below (Qi E A h9 r9) args s 0 0 A) (F0 m 27 ls [.int y0]) := by
  intro x0 y0 h H locs ls hl S hf
  unfold fX9_misfit_27 at hf
  refine lv_istore_n (i := 1) (lv' := [(1, .int y0), (0, rv x0)]) X.1 X.2.1 dX9_misfit_27 rfl hl (by decide) (by simp [List.filter, cat_rv, cat_wv, cat_sv]) (fun ls hl => ?_)
  refine g_getsm X S sfX9_153 dX9_misfit_28 (fun q1 hq1 => ?_)
  refine g_aload_n X (or_rv _) dX9_misfit_31 rfl (lv_at hl 1 rfl) ?_
  refine g_gR X S foX9_52 dX9_misfit_32 hf (fun v2 hf => ?_)
  refine g_gW X S foX9_141 dX9_misfit_35 hf (fun v3 hf => ?_)
  refine g_ord (rest := [.ref q1]) X S hl.1 (by decide) (by simp [cat_rv, cat_wv, cat_sv, cat_i, cat_l, cat_a]) jfX9_158 (Nat.zero_le _) (Nat.zero_le _) dX9_misfit_38 hf (fun v4 H locs hf S => ?_)
  refine g_sm X S hq1 dX9_misfit_41 hf (fun v5 hf => ?_)
  by_cases c6 : v5 = 1
  · replace hf := (if_pos c6).symm.trans hf
    refine lv_tableIn (tgt := 76) X.1 X.2.1 dX9_misfit_42 (by rw [c6]; decide) (by rw [c6]; decide) (by rw [c6]; rfl) (by decide) ?_
    refine lv_iload_n X.1 X.2.1 dX9_misfit_76 rfl (lv_at hl 0 rfl) ?_
    refine lv_if_eq (tgt := 100) X.1 X.2.1 dX9_misfit_77 (by decide) (fun c7 => ?_) (fun c7 => ?_)
    · replace hf := (if_pos c7).symm.trans hf
      refine lv_iconst (v := 0) X.1 X.2.1 dX9_misfit_100 (by decide) ?_
      cases hf; exact g_ri X S hr hlk dX9_misfit_101
    · replace hf := (if_neg c7).symm.trans hf
      refine g_aload_n X (or_rv _) dX9_misfit_80 rfl (lv_at hl 1 rfl) ?_
      refine g_gI X S foX9_121 rfl dX9_misfit_81 hf (fun v8 hf => ?_)
      refine g_aload_n X (or_rv _) dX9_misfit_84 rfl (lv_at hl 1 rfl) ?_
      refine g_gI X S foX9_127 rfl dX9_misfit_85 hf (fun v9 hf => ?_)
      refine lv_icmp_ge (tgt := 100) X.1 X.2.1 dX9_misfit_88 (by decide) (fun c10 => ?_) (fun c10 => ?_)
      · replace hf := (if_pos c10).symm.trans hf
        refine lv_iconst (v := 0) X.1 X.2.1 dX9_misfit_100 (by decide) ?_
        cases hf; exact g_ri X S hr hlk dX9_misfit_101
      · replace hf := (if_neg c10).symm.trans hf
        refine g_aload_n X (or_rv _) dX9_misfit_91 rfl (lv_at hl 1 rfl) ?_
        refine lv_iconst (v := 3) X.1 X.2.1 dX9_misfit_92 (by decide) ?_
        refine lv_iconst (v := 1) X.1 X.2.1 dX9_misfit_93 (by decide) ?_
        obtain ⟨v11, h, hc, hf⟩ := ob2_some hf
        refine g_ci S (runV (As := [.int 3, .int 1]) (rest := []) X S coX9_134 (by decide) (cX9_blame_m l hc) (tkX9_blame hc) rfl hl.1 (by decide) rfl ⟨Nat.zero_le _, Nat.zero_le _⟩ dX9_misfit_94) (fun H locs S => ?_)
        refine lv_goto (tgt := 101) X.1 X.2.1 dX9_misfit_97 (by decide) ?_
        cases hf; exact g_ri X S hr hlk dX9_misfit_101
  replace hf := (if_neg c6).symm.trans hf
  by_cases c12 : v5 = 2
  · replace hf := (if_pos c12).symm.trans hf
    refine lv_tableIn (tgt := 102) X.1 X.2.1 dX9_misfit_42 (by rw [c12]; decide) (by rw [c12]; decide) (by rw [c12]; rfl) (by decide) ?_
    refine lv_iload_n X.1 X.2.1 dX9_misfit_102 rfl (lv_at hl 0 rfl) ?_
    refine lv_if_eq (tgt := 126) X.1 X.2.1 dX9_misfit_103 (by decide) (fun c13 => ?_) (fun c13 => ?_)
    · replace hf := (if_pos c13).symm.trans hf
      refine lv_iconst (v := 0) X.1 X.2.1 dX9_misfit_126 (by decide) ?_
      cases hf; exact g_ri X S hr hlk dX9_misfit_127
    · replace hf := (if_neg c13).symm.trans hf
      refine g_aload_n X (or_rv _) dX9_misfit_106 rfl (lv_at hl 1 rfl) ?_
      refine g_gI X S foX9_121 rfl dX9_misfit_107 hf (fun v14 hf => ?_)
      refine g_aload_n X (or_rv _) dX9_misfit_110 rfl (lv_at hl 1 rfl) ?_
      refine g_gI X S foX9_127 rfl dX9_misfit_111 hf (fun v15 hf => ?_)
      refine lv_icmp_eq (tgt := 126) X.1 X.2.1 dX9_misfit_114 (by decide) (fun c16 => ?_) (fun c16 => ?_)
      · replace hf := (if_pos c16).symm.trans hf
        refine lv_iconst (v := 0) X.1 X.2.1 dX9_misfit_126 (by decide) ?_
        cases hf; exact g_ri X S hr hlk dX9_misfit_127
      · replace hf := (if_neg c16).symm.trans hf
        refine g_aload_n X (or_rv _) dX9_misfit_117 rfl (lv_at hl 1 rfl) ?_
        refine lv_iconst (v := 3) X.1 X.2.1 dX9_misfit_118 (by decide) ?_
        refine lv_iconst (v := 1) X.1 X.2.1 dX9_misfit_119 (by decide) ?_
        obtain ⟨v17, h, hc, hf⟩ := ob2_some hf
        refine g_ci S (runV (As := [.int 3, .int 1]) (rest := []) X S coX9_134 (by decide) (cX9_blame_m l hc) (tkX9_blame hc) rfl hl.1 (by decide) rfl ⟨Nat.zero_le _, Nat.zero_le _⟩ dX9_misfit_120) (fun H locs S => ?_)
        refine lv_goto (tgt := 127) X.1 X.2.1 dX9_misfit_123 (by decide) ?_
        cases hf; exact g_ri X S hr hlk dX9_misfit_127
  replace hf := (if_neg c12).symm.trans hf
  by_cases c18 : v5 = 3
  · replace hf := (if_pos c18).symm.trans hf
    refine lv_tableIn (tgt := 102) X.1 X.2.1 dX9_misfit_42 (by rw [c18]; decide) (by rw [c18]; decide) (by rw [c18]; rfl) (by decide) ?_
    refine lv_iload_n X.1 X.2.1 dX9_misfit_102 rfl (lv_at hl 0 rfl) ?_
    refine lv_if_eq (tgt := 126) X.1 X.2.1 dX9_misfit_103 (by decide) (fun c19 => ?_) (fun c19 => ?_)
    · replace hf := (if_pos c19).symm.trans hf
      refine lv_iconst (v := 0) X.1 X.2.1 dX9_misfit_126 (by decide) ?_
      cases hf; exact g_ri X S hr hlk dX9_misfit_127
    · replace hf := (if_neg c19).symm.trans hf
      refine g_aload_n X (or_rv _) dX9_misfit_106 rfl (lv_at hl 1 rfl) ?_
      refine g_gI X S foX9_121 rfl dX9_misfit_107 hf (fun v20 hf => ?_)
      refine g_aload_n X (or_rv _) dX9_misfit_110 rfl (lv_at hl 1 rfl) ?_
      refine g_gI X S foX9_127 rfl dX9_misfit_111 hf (fun v21 hf => ?_)
      refine lv_icmp_eq (tgt := 126) X.1 X.2.1 dX9_misfit_114 (by decide) (fun c22 => ?_) (fun c22 => ?_)
      · replace hf := (if_pos c22).symm.trans hf
        refine lv_iconst (v := 0) X.1 X.2.1 dX9_misfit_126 (by decide) ?_
        cases hf; exact g_ri X S hr hlk dX9_misfit_127
      · replace hf := (if_neg c22).symm.trans hf
        refine g_aload_n X (or_rv _) dX9_misfit_117 rfl (lv_at hl 1 rfl) ?_
        refine lv_iconst (v := 3) X.1 X.2.1 dX9_misfit_118 (by decide) ?_
        refine lv_iconst (v := 1) X.1 X.2.1 dX9_misfit_119 (by decide) ?_
        obtain ⟨v23, h, hc, hf⟩ := ob2_some hf
        refine g_ci S (runV (As := [.int 3, .int 1]) (rest := []) X S coX9_134 (by decide) (cX9_blame_m l hc) (tkX9_blame hc) rfl hl.1 (by decide) rfl ⟨Nat.zero_le _, Nat.zero_le _⟩ dX9_misfit_120) (fun H locs S => ?_)
        refine lv_goto (tgt := 127) X.1 X.2.1 dX9_misfit_123 (by decide) ?_
        cases hf; exact g_ri X S hr hlk dX9_misfit_127
  replace hf := (if_neg c18).symm.trans hf
  by_cases c24 : v5 = 4
  · replace hf := (if_pos c24).symm.trans hf
    refine lv_tableIn (tgt := 128) X.1 X.2.1 dX9_misfit_42 (by rw [c24]; decide) (by rw [c24]; decide) (by rw [c24]; rfl) (by decide) ?_
    refine g_aload_n X (or_rv _) dX9_misfit_128 rfl (lv_at hl 1 rfl) ?_
    refine g_gR X S foX9_52 dX9_misfit_129 hf (fun v25 hf => ?_)
    refine g_gI X S foX9_124 rfl dX9_misfit_132 hf (fun v26 hf => ?_)
    refine lv_bipush (v := 8) X.1 X.2.1 dX9_misfit_135 (by decide) ?_
    refine lv_icmp_gt (tgt := 157) X.1 X.2.1 dX9_misfit_137 (by decide) (fun c27 => ?_) (fun c27 => ?_)
    · replace hf := (if_pos c27).symm.trans hf
      exact wfX9_misfit_157 X hr hlk hnm _ _ _ _ _ (lv_sub hl [1] rfl) S hf
    · replace hf := (if_neg c27).symm.trans hf
      refine g_aload_n X (or_rv _) dX9_misfit_140 rfl (lv_at hl 1 rfl) ?_
      refine g_gR X S foX9_52 dX9_misfit_141 hf (fun v28 hf => ?_)
      refine g_gI X S foX9_124 rfl dX9_misfit_144 hf (fun v29 hf => ?_)
      refine g_aload_n X (or_rv _) dX9_misfit_147 rfl (lv_at hl 1 rfl) ?_
      refine g_gR X S foX9_52 dX9_misfit_148 hf (fun v30 hf => ?_)
      refine g_gI X S foX9_118 rfl dX9_misfit_151 hf (fun v31 hf => ?_)
      refine lv_icmp_lt (tgt := 164) X.1 X.2.1 dX9_misfit_154 (by decide) (fun c32 => ?_) (fun c32 => ?_)
      · replace hf := (if_pos c32).symm.trans hf
        refine lv_iload_n X.1 X.2.1 dX9_misfit_164 rfl (lv_at hl 0 rfl) ?_
        refine lv_if_eq (tgt := 188) X.1 X.2.1 dX9_misfit_165 (by decide) (fun c33 => ?_) (fun c33 => ?_)
        · replace hf := (if_pos c33).symm.trans hf
          refine lv_iconst (v := 0) X.1 X.2.1 dX9_misfit_188 (by decide) ?_
          cases hf; exact g_ri X S hr hlk dX9_misfit_189
        · replace hf := (if_neg c33).symm.trans hf
          refine g_aload_n X (or_rv _) dX9_misfit_168 rfl (lv_at hl 1 rfl) ?_
          refine g_gI X S foX9_121 rfl dX9_misfit_169 hf (fun v34 hf => ?_)
          refine g_aload_n X (or_rv _) dX9_misfit_172 rfl (lv_at hl 1 rfl) ?_
          refine g_gI X S foX9_127 rfl dX9_misfit_173 hf (fun v35 hf => ?_)
          refine lv_icmp_eq (tgt := 188) X.1 X.2.1 dX9_misfit_176 (by decide) (fun c36 => ?_) (fun c36 => ?_)
          · replace hf := (if_pos c36).symm.trans hf
            refine lv_iconst (v := 0) X.1 X.2.1 dX9_misfit_188 (by decide) ?_
            cases hf; exact g_ri X S hr hlk dX9_misfit_189
          · replace hf := (if_neg c36).symm.trans hf
            refine g_aload_n X (or_rv _) dX9_misfit_179 rfl (lv_at hl 1 rfl) ?_
            refine lv_iconst (v := 3) X.1 X.2.1 dX9_misfit_180 (by decide) ?_
            refine lv_iconst (v := 1) X.1 X.2.1 dX9_misfit_181 (by decide) ?_
            obtain ⟨v37, h, hc, hf⟩ := ob2_some hf
            refine g_ci S (runV (As := [.int 3, .int 1]) (rest := []) X S coX9_134 (by decide) (cX9_blame_m l hc) (tkX9_blame hc) rfl hl.1 (by decide) rfl ⟨Nat.zero_le _, Nat.zero_le _⟩ dX9_misfit_182) (fun H locs S => ?_)
            refine lv_goto (tgt := 189) X.1 X.2.1 dX9_misfit_185 (by decide) ?_
            cases hf; exact g_ri X S hr hlk dX9_misfit_189
      · replace hf := (if_neg c32).symm.trans hf
        exact wfX9_misfit_157 X hr hlk hnm _ _ _ _ _ (lv_sub hl [1] rfl) S hf
  replace hf := (if_neg c24).symm.trans hf
  by_cases c38 : v5 = 5
  · replace hf := (if_pos c38).symm.trans hf
    refine lv_tableIn (tgt := 128) X.1 X.2.1 dX9_misfit_42 (by rw [c38]; decide) (by rw [c38]; decide) (by rw [c38]; rfl) (by decide) ?_
    refine g_aload_n X (or_rv _) dX9_misfit_128 rfl (lv_at hl 1 rfl) ?_
    refine g_gR X S foX9_52 dX9_misfit_129 hf (fun v39 hf => ?_)
    refine g_gI X S foX9_124 rfl dX9_misfit_132 hf (fun v40 hf => ?_)
    refine lv_bipush (v := 8) X.1 X.2.1 dX9_misfit_135 (by decide) ?_
    refine lv_icmp_gt (tgt := 157) X.1 X.2.1 dX9_misfit_137 (by decide) (fun c41 => ?_) (fun c41 => ?_)
    · replace hf := (if_pos c41).symm.trans hf
      exact wfX9_misfit_157 X hr hlk hnm _ _ _ _ _ (lv_sub hl [1] rfl) S hf
    · replace hf := (if_neg c41).symm.trans hf
      refine g_aload_n X (or_rv _) dX9_misfit_140 rfl (lv_at hl 1 rfl) ?_
      refine g_gR X S foX9_52 dX9_misfit_141 hf (fun v42 hf => ?_)
      refine g_gI X S foX9_124 rfl dX9_misfit_144 hf (fun v43 hf => ?_)
      refine g_aload_n X (or_rv _) dX9_misfit_147 rfl (lv_at hl 1 rfl) ?_
      refine g_gR X S foX9_52 dX9_misfit_148 hf (fun v44 hf => ?_)
      refine g_gI X S foX9_118 rfl dX9_misfit_151 hf (fun v45 hf => ?_)
      refine lv_icmp_lt (tgt := 164) X.1 X.2.1 dX9_misfit_154 (by decide) (fun c46 => ?_) (fun c46 => ?_)
      · replace hf := (if_pos c46).symm.trans hf
        refine lv_iload_n X.1 X.2.1 dX9_misfit_164 rfl (lv_at hl 0 rfl) ?_
        refine lv_if_eq (tgt := 188) X.1 X.2.1 dX9_misfit_165 (by decide) (fun c47 => ?_) (fun c47 => ?_)
        · replace hf := (if_pos c47).symm.trans hf
          refine lv_iconst (v := 0) X.1 X.2.1 dX9_misfit_188 (by decide) ?_
          cases hf; exact g_ri X S hr hlk dX9_misfit_189
        · replace hf := (if_neg c47).symm.trans hf
          refine g_aload_n X (or_rv _) dX9_misfit_168 rfl (lv_at hl 1 rfl) ?_
          refine g_gI X S foX9_121 rfl dX9_misfit_169 hf (fun v48 hf => ?_)
          refine g_aload_n X (or_rv _) dX9_misfit_172 rfl (lv_at hl 1 rfl) ?_
          refine g_gI X S foX9_127 rfl dX9_misfit_173 hf (fun v49 hf => ?_)
          refine lv_icmp_eq (tgt := 188) X.1 X.2.1 dX9_misfit_176 (by decide) (fun c50 => ?_) (fun c50 => ?_)
          · replace hf := (if_pos c50).symm.trans hf
            refine lv_iconst (v := 0) X.1 X.2.1 dX9_misfit_188 (by decide) ?_
            cases hf; exact g_ri X S hr hlk dX9_misfit_189
          · replace hf := (if_neg c50).symm.trans hf
            refine g_aload_n X (or_rv _) dX9_misfit_179 rfl (lv_at hl 1 rfl) ?_
            refine lv_iconst (v := 3) X.1 X.2.1 dX9_misfit_180 (by decide) ?_
            refine lv_iconst (v := 1) X.1 X.2.1 dX9_misfit_181 (by decide) ?_
            obtain ⟨v51, h, hc, hf⟩ := ob2_some hf
            refine g_ci S (runV (As := [.int 3, .int 1]) (rest := []) X S coX9_134 (by decide) (cX9_blame_m l hc) (tkX9_blame hc) rfl hl.1 (by decide) rfl ⟨Nat.zero_le _, Nat.zero_le _⟩ dX9_misfit_182) (fun H locs S => ?_)
            refine lv_goto (tgt := 189) X.1 X.2.1 dX9_misfit_185 (by decide) ?_
            cases hf; exact g_ri X S hr hlk dX9_misfit_189
      · replace hf := (if_neg c46).symm.trans hf
        exact wfX9_misfit_157 X hr hlk hnm _ _ _ _ _ (lv_sub hl [1] rfl) S hf
  replace hf := (if_neg c38).symm.trans hf
  refine lv_tableOut (tgt := 190) X.1 X.2.1 dX9_misfit_42 (by have e0 := i32_ne c6 (n := 1) (by decide); have e1 := i32_ne c12 (n := 2) (by decide); have e2 := i32_ne c18 (n := 3) (by decide); have e3 := i32_ne c24 (n := 4) (by decide); have e4 := i32_ne c38 (n := 5) (by decide); omega) (by decide) ?_
  refine lv_iconst (v := 0) X.1 X.2.1 dX9_misfit_190 (by decide) ?_
  cases hf; exact g_ri X S hr hlk dX9_misfit_191
def fX9_misfit (a0 : Nat) (h : Hp) : Option (Int32 × Hp) := gd 8 a0 h (ob (gI 8 a0 8 h) fun v1 => ob (gI 8 a0 11 h) fun v2 => if v2 ≤ v1 then fX9_misfit_26 fX9_misfit_27 a0 h else ob (gI 8 a0 9 h) fun v4 => ob (gI 8 a0 10 h) fun v5 => if v5 ≤ v4 then fX9_misfit_26 fX9_misfit_27 a0 h else fX9_misfit_27 a0 1 h)
theorem tkX9_misfit {a0 : Nat} {h : Hp} {r9 : Int32 × Hp} (e : fX9_misfit a0 h = some r9) : hK h a0 = 8 := by
  unfold fX9_misfit at e
  exact (gd_some e).1
theorem cX9_misfit_m (l : Launch) {E : EE} {A : Nat → Prop} {a0 : Nat} {h : Hp} {r9 : Int32} {h9 : Hp} (hf : fX9_misfit a0 h = some (r9, h9)) : Met l yX9_misfit (wsM yX9_misfit cX9_misfit 2 (some .int)) (rmm 9 0 0) (PcE E A h [rv a0]) (Qi E A h9 r9) 0 0 A := by
  refine met_of (by decide +kernel) (by simp [lg_sl, cat_rv, cat_wv, cat_sv, cat_i, cat_l, cat_a]) (fun p e s m args below meth c ls X hr hlk hnm S hl => ?_)
  have hl : lv_has ls 2 [(0, rv a0)] := by simpa [lv_args, cat_rv, cat_wv, cat_sv, cat_i, cat_l, cat_a] using hl
  generalize hH : s.heap = H at S ⊢
  generalize hlo : ([] : List Loc) = locs at S ⊢
  clear hH hlo
  unfold fX9_misfit at hf
  obtain ⟨hth, hf⟩ := gd_some hf
  refine g_aload_n X (or_rv _) dX9_misfit_0 rfl (lv_at hl 0 rfl) ?_
  refine g_gI X S foX9_106 rfl dX9_misfit_1 hf (fun v1 hf => ?_)
  refine g_aload_n X (or_rv _) dX9_misfit_4 rfl (lv_at hl 0 rfl) ?_
  refine g_gI X S foX9_127 rfl dX9_misfit_5 hf (fun v2 hf => ?_)
  refine lv_icmp_ge (tgt := 26) X.1 X.2.1 dX9_misfit_8 (by decide) (fun c3 => ?_) (fun c3 => ?_)
  · replace hf := (if_pos c3).symm.trans hf
    exact wfX9_misfit_26 X hr hlk hnm (wfX9_misfit_27 X hr hlk hnm) _ _ _ _ _ hl S hf
  · replace hf := (if_neg c3).symm.trans hf
    refine g_aload_n X (or_rv _) dX9_misfit_11 rfl (lv_at hl 0 rfl) ?_
    refine g_gI X S foX9_115 rfl dX9_misfit_12 hf (fun v4 hf => ?_)
    refine g_aload_n X (or_rv _) dX9_misfit_15 rfl (lv_at hl 0 rfl) ?_
    refine g_gI X S foX9_121 rfl dX9_misfit_16 hf (fun v5 hf => ?_)
    refine lv_icmp_ge (tgt := 26) X.1 X.2.1 dX9_misfit_19 (by decide) (fun c6 => ?_) (fun c6 => ?_)
    · replace hf := (if_pos c6).symm.trans hf
      exact wfX9_misfit_26 X hr hlk hnm (wfX9_misfit_27 X hr hlk hnm) _ _ _ _ _ hl S hf
    · replace hf := (if_neg c6).symm.trans hf
      refine lv_iconst (v := 1) X.1 X.2.1 dX9_misfit_22 (by decide) ?_
      refine lv_goto (tgt := 27) X.1 X.2.1 dX9_misfit_23 (by decide) ?_
      exact wfX9_misfit_27 X hr hlk hnm _ _ _ _ _ _ hl S hf
def fX9_blameHalf (a0 : Nat) (a1 : Int32) (a2 : Int32) (h : Hp) : Option (Hp) := gd 8 a0 h (ob (gR 8 a0 4 h) fun v1 => ob (qI v1 6 (a1 >>> ((1 : Int32) &&& 31)) h) fun h => ob (gR 8 a0 4 h) fun v2 => ob (qI v2 7 (a1 &&& (1 : Int32)) h) fun h => ob (gR 8 a0 4 h) fun v3 => ob (qI v3 8 a2 h) fun h => some h)
theorem tkX9_blameHalf {a0 : Nat} {a1 : Int32} {a2 : Int32} {h : Hp} {r9 : Hp} (e : fX9_blameHalf a0 a1 a2 h = some r9) : hK h a0 = 8 := by
  unfold fX9_blameHalf at e
  exact (gd_some e).1
theorem cX9_blameHalf_m (l : Launch) {E : EE} {A : Nat → Prop} {a0 : Nat} {a1 : Int32} {a2 : Int32} {h : Hp} {h9 : Hp} (hf : fX9_blameHalf a0 a1 a2 h = some h9) : Met l yX9_blameHalf (wsM yX9_blameHalf cX9_blameHalf 3 none) (rmm 8 0 0) (PcE E A h [rv a0, .int a1, .int a2]) (Qv E A h9) 0 0 A := by
  refine met_of (by decide +kernel) (by simp [lg_sl, cat_rv, cat_wv, cat_sv, cat_i, cat_l, cat_a]) (fun p e s m args below meth c ls X hr hlk hnm S hl => ?_)
  have hl : lv_has ls 3 [(0, rv a0), (1, .int a1), (2, .int a2)] := by simpa [lv_args, cat_rv, cat_wv, cat_sv, cat_i, cat_l, cat_a] using hl
  generalize hH : s.heap = H at S ⊢
  generalize hlo : ([] : List Loc) = locs at S ⊢
  clear hH hlo
  unfold fX9_blameHalf at hf
  obtain ⟨hth, hf⟩ := gd_some hf
  refine g_aload_n X (or_rv _) dX9_blameHalf_0 rfl (lv_at hl 0 rfl) ?_
  refine g_gR X S foX9_31 dX9_blameHalf_1 hf (fun v1 hf => ?_)
  refine lv_bipush (v := 6) X.1 X.2.1 dX9_blameHalf_4 (by decide) ?_
  refine lv_iload_n X.1 X.2.1 dX9_blameHalf_6 rfl (lv_at hl 1 rfl) ?_
  refine lv_iconst (v := 1) X.1 X.2.1 dX9_blameHalf_7 (by decide) ?_
  refine lv_ishr X.1 X.2.1 dX9_blameHalf_8 ?_
  refine g_qI X S dX9_blameHalf_9 hf (fun h H locs hm hf S => ?_)
  refine g_aload_n X (or_rv _) dX9_blameHalf_10 rfl (lv_at hl 0 rfl) ?_
  refine g_gR X S foX9_31 dX9_blameHalf_11 hf (fun v2 hf => ?_)
  refine lv_bipush (v := 7) X.1 X.2.1 dX9_blameHalf_14 (by decide) ?_
  refine lv_iload_n X.1 X.2.1 dX9_blameHalf_16 rfl (lv_at hl 1 rfl) ?_
  refine lv_iconst (v := 1) X.1 X.2.1 dX9_blameHalf_17 (by decide) ?_
  refine lv_iand X.1 X.2.1 dX9_blameHalf_18 ?_
  refine g_qI X S dX9_blameHalf_19 hf (fun h H locs hm hf S => ?_)
  refine g_aload_n X (or_rv _) dX9_blameHalf_20 rfl (lv_at hl 0 rfl) ?_
  refine g_gR X S foX9_31 dX9_blameHalf_21 hf (fun v3 hf => ?_)
  refine lv_bipush (v := 8) X.1 X.2.1 dX9_blameHalf_24 (by decide) ?_
  refine lv_iload_n X.1 X.2.1 dX9_blameHalf_26 rfl (lv_at hl 2 rfl) ?_
  refine g_qI X S dX9_blameHalf_27 hf (fun h H locs hm hf S => ?_)
  cases hf; exact g_rv X S hr hlk dX9_blameHalf_28
def fX9_flawed_37 (x0 : Nat) (x1 : Int32) (x2 : Int32) (y0 : Int32) (h : Hp) : Option (Int32 × Hp) := ob (gR 8 x0 6 h) fun v1 => ob (fX10_firstFlaw v1 x2 y0 0 (2 * x2) h) fun v2 => if v2 = (-1) then some (0, h) else ob (gR 8 x0 6 h) fun v4 => ob (fX10_half v4 v2 h) fun v5 => ob (fX9_blameHalf x0 v2 v5 h) fun h => ob2 (fX9_blame x0 4 x1 h) fun v7 h => some (v7, h)
theorem wfX9_flawed_37 {r9 : Int32} {h9 : Hp} (X : Cx p E A 9 R s m args c cX9_flawed yX9_flawed.cls 5) (hr : meth.sig.returnType = (some .int)) (hlk : meth.locks = false) (hnm : meth.name = yX9_flawed.name) :
    ∀ (x0 : Nat) (x1 : Int32) (x2 : Int32) (y0 : Int32) (h : Hp) (H : Heap) (locs : List Loc) (ls : Array Slot), lv_has ls 5 [(0, rv x0), (1, .int x1), (2, .int x2)] → St E A s h H locs → fX9_flawed_37 x0 x1 x2 y0 h = some (r9, h9) → W p l e R s m args below meth c H locs 0 0 (MQ below (Qi E A h9 r9) args s 0 0 A) (F0 m 37 ls [.int y0]) := by
  intro x0 x1 x2 y0 h H locs ls hl S hf
  unfold fX9_flawed_37 at hf
  refine lv_istore_n (i := 3) (lv' := [(3, .int y0), (0, rv x0), (1, .int x1), (2, .int x2)]) X.1 X.2.1 dX9_flawed_37 rfl hl (by decide) rfl (fun ls hl => ?_)
  refine g_aload_n X (or_rv _) dX9_flawed_38 rfl (lv_at hl 1 rfl) ?_
  refine g_gR X S foX9_45 dX9_flawed_39 hf (fun v1 hf => ?_)
  refine lv_iload_n X.1 X.2.1 dX9_flawed_42 rfl (lv_at hl 3 rfl) ?_
  refine lv_iload_n X.1 X.2.1 dX9_flawed_43 rfl (lv_at hl 0 rfl) ?_
  refine lv_iconst (v := 0) X.1 X.2.1 dX9_flawed_44 (by decide) ?_
  refine lv_iconst (v := 2) X.1 X.2.1 dX9_flawed_45 (by decide) ?_
  refine lv_iload_n X.1 X.2.1 dX9_flawed_46 rfl (lv_at hl 3 rfl) ?_
  refine lv_imul X.1 X.2.1 dX9_flawed_47 ?_
  obtain ⟨v2, hc, hf⟩ := ob_some hf
  refine g_ci S (runV (As := [.int x2, .int y0, .int 0, .int (2 * x2)]) (rest := []) X S coX9_161 (by decide) (cX10_firstFlaw_m l hc) (tkX10_firstFlaw hc) rfl hl.1 (by decide) rfl ⟨Nat.zero_le _, Nat.zero_le _⟩ dX9_flawed_48) (fun H locs S => ?_)
  refine lv_istore (lv' := [(4, .int v2), (3, .int y0), (0, rv x0), (1, .int x1), (2, .int x2)]) X.1 X.2.1 dX9_flawed_51 hl (by decide) rfl (fun ls hl => ?_)
  refine lv_iload X.1 X.2.1 dX9_flawed_53 (lv_at hl 0 rfl) ?_
  refine lv_iconst (v := (-1)) X.1 X.2.1 dX9_flawed_55 (by decide) ?_
  refine lv_icmp_ne (tgt := 61) X.1 X.2.1 dX9_flawed_56 (by decide) (fun c3 => ?_) (fun c3 => ?_)
  · replace hf := (if_neg c3).symm.trans hf
    refine g_aload_n X (or_rv _) dX9_flawed_61 rfl (lv_at hl 2 rfl) ?_
    refine lv_iload X.1 X.2.1 dX9_flawed_62 (lv_at hl 0 rfl) ?_
    refine g_aload_n X (or_rv _) dX9_flawed_64 rfl (lv_at hl 2 rfl) ?_
    refine g_gR X S foX9_45 dX9_flawed_65 hf (fun v4 hf => ?_)
    refine lv_iload X.1 X.2.1 dX9_flawed_68 (lv_at hl 0 rfl) ?_
    obtain ⟨v5, hc, hf⟩ := ob_some hf
    refine g_ci S (runV (As := [.int v2]) (rest := [.int v2, rv x0]) X S coX9_165 (by decide) (cX10_half_m l hc) (tkX10_half hc) rfl hl.1 (by simp [cat_rv, cat_wv, cat_sv, cat_i, cat_l, cat_a]) rfl ⟨Nat.zero_le _, Nat.zero_le _⟩ dX9_flawed_70) (fun H locs S => ?_)
    obtain ⟨h, hc, hf⟩ := ob_some hf
    refine g_cv S (runV (As := [.int v2, .int v5]) (rest := []) X S coX9_168 (by decide) (cX9_blameHalf_m l hc) (tkX9_blameHalf hc) rfl hl.1 (by decide) rfl ⟨Nat.zero_le _, Nat.zero_le _⟩ dX9_flawed_73) (fun H locs S => ?_)
    refine g_aload_n X (or_rv _) dX9_flawed_76 rfl (lv_at hl 2 rfl) ?_
    refine lv_iconst (v := 4) X.1 X.2.1 dX9_flawed_77 (by decide) ?_
    refine lv_iload_n X.1 X.2.1 dX9_flawed_78 rfl (lv_at hl 3 rfl) ?_
    obtain ⟨v7, h, hc, hf⟩ := ob2_some hf
    refine g_ci S (runV (As := [.int 4, .int x1]) (rest := []) X S coX9_134 (by decide) (cX9_blame_m l hc) (tkX9_blame hc) rfl hl.1 (by decide) rfl ⟨Nat.zero_le _, Nat.zero_le _⟩ dX9_flawed_79) (fun H locs S => ?_)
    cases hf; exact g_ri X S hr hlk dX9_flawed_82
  · replace hf := (if_pos c3).symm.trans hf
    refine lv_iconst (v := 0) X.1 X.2.1 dX9_flawed_59 (by decide) ?_
    cases hf; exact g_ri X S hr hlk dX9_flawed_60
def fX9_flawed_15 (x0 : Nat) (x1 : Int32) (y0 : Int32) (h : Hp) : Option (Int32 × Hp) := if x1 = 0 then ob (gR 8 x0 7 h) fun v4 => ob (gI 5 v4 3 h) fun v5 => fX9_flawed_37 x0 x1 y0 v5 h else ob (gR 8 x0 7 h) fun v2 => ob (gI 5 v2 6 h) fun v3 => fX9_flawed_37 x0 x1 y0 v3 h
theorem wfX9_flawed_15 {r9 : Int32} {h9 : Hp} (X : Cx p E A 9 R s m args c cX9_flawed yX9_flawed.cls 5) (hr : meth.sig.returnType = (some .int)) (hlk : meth.locks = false) (hnm : meth.name = yX9_flawed.name) :
    ∀ (x0 : Nat) (x1 : Int32) (y0 : Int32) (h : Hp) (H : Heap) (locs : List Loc) (ls : Array Slot), lv_has ls 5 [(0, rv x0), (1, .int x1)] → St E A s h H locs → fX9_flawed_15 x0 x1 y0 h = some (r9, h9) → W p l e R s m args below meth c H locs 0 0 (MQ below (Qi E A h9 r9) args s 0 0 A) (F0 m 15 ls [.int y0]) := by
  intro x0 x1 y0 h H locs ls hl S hf
  unfold fX9_flawed_15 at hf
  refine lv_istore_n (i := 2) (lv' := [(2, .int y0), (0, rv x0), (1, .int x1)]) X.1 X.2.1 dX9_flawed_15 rfl hl (by decide) rfl (fun ls hl => ?_)
  refine lv_iload_n X.1 X.2.1 dX9_flawed_16 rfl (lv_at hl 2 rfl) ?_
  refine lv_if_ne (tgt := 30) X.1 X.2.1 dX9_flawed_17 (by decide) (fun c1 => ?_) (fun c1 => ?_)
  · replace hf := (if_neg c1).symm.trans hf
    refine g_aload_n X (or_rv _) dX9_flawed_30 rfl (lv_at hl 1 rfl) ?_
    refine g_gR X S foX9_52 dX9_flawed_31 hf (fun v2 hf => ?_)
    refine g_gI X S foX9_124 rfl dX9_flawed_34 hf (fun v3 hf => ?_)
    exact wfX9_flawed_37 X hr hlk hnm _ _ _ _ _ _ _ _ (lv_sub hl [1, 2, 0] rfl) S hf
  · replace hf := (if_pos c1).symm.trans hf
    refine g_aload_n X (or_rv _) dX9_flawed_20 rfl (lv_at hl 1 rfl) ?_
    refine g_gR X S foX9_52 dX9_flawed_21 hf (fun v4 hf => ?_)
    refine g_gI X S foX9_118 rfl dX9_flawed_24 hf (fun v5 hf => ?_)
    refine lv_goto (tgt := 37) X.1 X.2.1 dX9_flawed_27 (by decide) ?_
    exact wfX9_flawed_37 X hr hlk hnm _ _ _ _ _ _ _ _ (lv_sub hl [1, 2, 0] rfl) S hf
def fX9_flawed (a0 : Nat) (a1 : Int32) (h : Hp) : Option (Int32 × Hp) := gd 8 a0 h (if a1 = 0 then ob (gI 8 a0 8 h) fun v3 => fX9_flawed_15 a0 a1 v3 h else ob (gI 8 a0 9 h) fun v2 => fX9_flawed_15 a0 a1 v2 h)
theorem tkX9_flawed {a0 : Nat} {a1 : Int32} {h : Hp} {r9 : Int32 × Hp} (e : fX9_flawed a0 a1 h = some r9) : hK h a0 = 8 := by
  unfold fX9_flawed at e
  exact (gd_some e).1
theorem cX9_flawed_m (l : Launch) {E : EE} {A : Nat → Prop} {a0 : Nat} {a1 : Int32} {h : Hp} {r9 : Int32} {h9 : Hp} (hf : fX9_flawed a0 a1 h = some (r9, h9)) : Met l yX9_flawed (wsM yX9_flawed cX9_flawed 5 (some .int)) (rmm 9 0 0) (PcE E A h [rv a0, .int a1]) (Qi E A h9 r9) 0 0 A := by
  refine met_of (by decide +kernel) (by simp [lg_sl, cat_rv, cat_wv, cat_sv, cat_i, cat_l, cat_a]) (fun p e s m args below meth c ls X hr hlk hnm S hl => ?_)
  have hl : lv_has ls 5 [(0, rv a0), (1, .int a1)] := by simpa [lv_args, cat_rv, cat_wv, cat_sv, cat_i, cat_l, cat_a] using hl
  generalize hH : s.heap = H at S ⊢
  generalize hlo : ([] : List Loc) = locs at S ⊢
  clear hH hlo
  unfold fX9_flawed at hf
  obtain ⟨hth, hf⟩ := gd_some hf
  refine lv_iload_n X.1 X.2.1 dX9_flawed_0 rfl (lv_at hl 1 rfl) ?_
  refine lv_if_ne (tgt := 11) X.1 X.2.1 dX9_flawed_1 (by decide) (fun c1 => ?_) (fun c1 => ?_)
  · replace hf := (if_neg c1).symm.trans hf
    refine g_aload_n X (or_rv _) dX9_flawed_11 rfl (lv_at hl 0 rfl) ?_
    refine g_gI X S foX9_115 rfl dX9_flawed_12 hf (fun v2 hf => ?_)
    exact wfX9_flawed_15 X hr hlk hnm _ _ _ _ _ _ _ hl S hf
  · replace hf := (if_pos c1).symm.trans hf
    refine g_aload_n X (or_rv _) dX9_flawed_4 rfl (lv_at hl 0 rfl) ?_
    refine g_gI X S foX9_106 rfl dX9_flawed_5 hf (fun v3 hf => ?_)
    refine lv_goto (tgt := 15) X.1 X.2.1 dX9_flawed_8 (by decide) ?_
    exact wfX9_flawed_15 X hr hlk hnm _ _ _ _ _ _ _ hl S hf
def fX9_checked_176 (x0 : Nat) (x1 : Int32) (h : Hp) : Option (Int32 × Hp) := if x1 = 0 then ob (gR 8 x0 7 h) fun v2 => ob (gR 5 v2 0 h) fun v3 => ob (wdP v3) fun v4 => if (v4 &&& (2 : Int32)) = 0 then some (x1, h) else ob2 (fX9_flawed x0 1 h) fun v6 h => some (v6, h) else some (x1, h)
theorem wfX9_checked_176 {r9 : Int32} {h9 : Hp} (X : Cx p E A 10 R s m args c cX9_checked yX9_checked.cls 2) (hr : meth.sig.returnType = (some .int)) (hlk : meth.locks = false) (hnm : meth.name = yX9_checked.name) :
    ∀ (x0 : Nat) (x1 : Int32) (h : Hp) (H : Heap) (locs : List Loc) (ls : Array Slot), lv_has ls 2 [(0, rv x0), (1, .int x1)] → St E A s h H locs → fX9_checked_176 x0 x1 h = some (r9, h9) → W p l e R s m args below meth c H locs 0 0 (MQ below (Qi E A h9 r9) args s 0 0 A) (F0 m 176 ls []) := by
  intro x0 x1 h H locs ls hl S hf
  unfold fX9_checked_176 at hf
  refine lv_iload_n X.1 X.2.1 dX9_checked_176 rfl (lv_at hl 1 rfl) ?_
  refine lv_if_ne (tgt := 201) X.1 X.2.1 dX9_checked_177 (by decide) (fun c1 => ?_) (fun c1 => ?_)
  · replace hf := (if_neg c1).symm.trans hf
    refine lv_iload_n X.1 X.2.1 dX9_checked_201 rfl (lv_at hl 1 rfl) ?_
    cases hf; exact g_ri X S hr hlk dX9_checked_202
  · replace hf := (if_pos c1).symm.trans hf
    refine g_aload_n X (or_rv _) dX9_checked_180 rfl (lv_at hl 0 rfl) ?_
    refine g_gR X S foX9_52 dX9_checked_181 hf (fun v2 hf => ?_)
    refine g_gW X S foX9_141 dX9_checked_184 hf (fun v3 hf => ?_)
    refine g_wdP X S (wfX9_145) dX9_checked_187 hf (fun v4 hf => ?_)
    refine lv_iconst (v := 2) X.1 X.2.1 dX9_checked_190 (by decide) ?_
    refine lv_iand X.1 X.2.1 dX9_checked_191 ?_
    refine lv_if_eq (tgt := 201) X.1 X.2.1 dX9_checked_192 (by decide) (fun c5 => ?_) (fun c5 => ?_)
    · replace hf := (if_pos c5).symm.trans hf
      refine lv_iload_n X.1 X.2.1 dX9_checked_201 rfl (lv_at hl 1 rfl) ?_
      cases hf; exact g_ri X S hr hlk dX9_checked_202
    · replace hf := (if_neg c5).symm.trans hf
      refine g_aload_n X (or_rv _) dX9_checked_195 rfl (lv_at hl 0 rfl) ?_
      refine lv_iconst (v := 1) X.1 X.2.1 dX9_checked_196 (by decide) ?_
      obtain ⟨v6, h, hc, hf⟩ := ob2_some hf
      refine g_ci S (runV (As := [.int 1]) (rest := []) X S coX9_150 (by decide) (cX9_flawed_m l hc) (tkX9_flawed hc) rfl hl.1 (by decide) rfl ⟨Nat.zero_le _, Nat.zero_le _⟩ dX9_checked_197) (fun H locs S => ?_)
      refine lv_istore_n (i := 1) (lv' := [(1, .int v6), (0, rv x0)]) X.1 X.2.1 dX9_checked_200 rfl hl (by decide) (by simp [List.filter, cat_rv, cat_wv, cat_sv]) (fun ls hl => ?_)
      refine lv_iload_n X.1 X.2.1 dX9_checked_201 rfl (lv_at hl 0 rfl) ?_
      cases hf; exact g_ri X S hr hlk dX9_checked_202
def fX9_checked_146 (x0 : Nat) (h : Hp) : Option (Int32 × Hp) := ob2 (fX9_misfit x0 h) fun v1 h => if v1 = 0 then ob (gR 8 x0 7 h) fun v3 => ob (gR 5 v3 0 h) fun v4 => ob (wdP v4) fun v5 => if (v5 &&& (1 : Int32)) = 0 then fX9_checked_176 x0 v1 h else ob2 (fX9_flawed x0 0 h) fun v7 h => fX9_checked_176 x0 v7 h else fX9_checked_176 x0 v1 h
theorem wfX9_checked_146 {r9 : Int32} {h9 : Hp} (X : Cx p E A 10 R s m args c cX9_checked yX9_checked.cls 2) (hr : meth.sig.returnType = (some .int)) (hlk : meth.locks = false) (hnm : meth.name = yX9_checked.name) :
    ∀ (x0 : Nat) (h : Hp) (H : Heap) (locs : List Loc) (ls : Array Slot), lv_has ls 2 [(0, rv x0)] → St E A s h H locs → fX9_checked_146 x0 h = some (r9, h9) → W p l e R s m args below meth c H locs 0 0 (MQ below (Qi E A h9 r9) args s 0 0 A) (F0 m 146 ls []) := by
  intro x0 h H locs ls hl S hf
  unfold fX9_checked_146 at hf
  refine g_aload_n X (or_rv _) dX9_checked_146 rfl (lv_at hl 0 rfl) ?_
  obtain ⟨v1, h, hc, hf⟩ := ob2_some hf
  refine g_ci S (runV (As := []) (rest := []) X S coX9_138 (by decide) (cX9_misfit_m l hc) (tkX9_misfit hc) rfl hl.1 (by decide) rfl ⟨Nat.zero_le _, Nat.zero_le _⟩ dX9_checked_147) (fun H locs S => ?_)
  refine lv_istore_n (i := 1) (lv' := [(1, .int v1), (0, rv x0)]) X.1 X.2.1 dX9_checked_150 rfl hl (by decide) (by simp [List.filter, cat_rv, cat_wv, cat_sv]) (fun ls hl => ?_)
  refine lv_iload_n X.1 X.2.1 dX9_checked_151 rfl (lv_at hl 0 rfl) ?_
  refine lv_if_ne (tgt := 176) X.1 X.2.1 dX9_checked_152 (by decide) (fun c2 => ?_) (fun c2 => ?_)
  · replace hf := (if_neg c2).symm.trans hf
    exact wfX9_checked_176 X hr hlk hnm _ _ _ _ _ _ (lv_sub hl [1, 0] rfl) S hf
  · replace hf := (if_pos c2).symm.trans hf
    refine g_aload_n X (or_rv _) dX9_checked_155 rfl (lv_at hl 1 rfl) ?_
    refine g_gR X S foX9_52 dX9_checked_156 hf (fun v3 hf => ?_)
    refine g_gW X S foX9_141 dX9_checked_159 hf (fun v4 hf => ?_)
    refine g_wdP X S (wfX9_145) dX9_checked_162 hf (fun v5 hf => ?_)
    refine lv_iconst (v := 1) X.1 X.2.1 dX9_checked_165 (by decide) ?_
    refine lv_iand X.1 X.2.1 dX9_checked_166 ?_
    refine lv_if_eq (tgt := 176) X.1 X.2.1 dX9_checked_167 (by decide) (fun c6 => ?_) (fun c6 => ?_)
    · replace hf := (if_pos c6).symm.trans hf
      exact wfX9_checked_176 X hr hlk hnm _ _ _ _ _ _ (lv_sub hl [1, 0] rfl) S hf
    · replace hf := (if_neg c6).symm.trans hf
      refine g_aload_n X (or_rv _) dX9_checked_170 rfl (lv_at hl 1 rfl) ?_
      refine lv_iconst (v := 0) X.1 X.2.1 dX9_checked_171 (by decide) ?_
      obtain ⟨v7, h, hc, hf⟩ := ob2_some hf
      refine g_ci S (runV (As := [.int 0]) (rest := []) X S coX9_150 (by decide) (cX9_flawed_m l hc) (tkX9_flawed hc) rfl hl.1 (by decide) rfl ⟨Nat.zero_le _, Nat.zero_le _⟩ dX9_checked_172) (fun H locs S => ?_)
      refine lv_istore_n (i := 1) (lv' := [(1, .int v7), (0, rv x0)]) X.1 X.2.1 dX9_checked_175 rfl hl (by decide) (by simp [List.filter, cat_rv, cat_wv, cat_sv]) (fun ls hl => ?_)
      exact wfX9_checked_176 X hr hlk hnm _ _ _ _ _ _ (lv_sub hl [1, 0] rfl) S hf
def fX9_checked_112 (x0 : Nat) (h : Hp) : Option (Int32 × Hp) := ob (gR 8 x0 7 h) fun v1 => ob (gI 5 v1 6 h) fun v2 => if v2 ≤ 0 then fX9_checked_146 x0 h else ob (gI 8 x0 9 h) fun v4 => ob (gR 8 x0 7 h) fun v5 => ob (gI 5 v5 6 h) fun v6 => ob (fX10_isField v4 v6) fun v7 => if v7 = 0 then ob2 (fX9_blame x0 1 1 h) fun v9 h => some (v9, h) else fX9_checked_146 x0 h
theorem wfX9_checked_112 {r9 : Int32} {h9 : Hp} (X : Cx p E A 10 R s m args c cX9_checked yX9_checked.cls 2) (hr : meth.sig.returnType = (some .int)) (hlk : meth.locks = false) (hnm : meth.name = yX9_checked.name) :
    ∀ (x0 : Nat) (h : Hp) (H : Heap) (locs : List Loc) (ls : Array Slot), lv_has ls 2 [(0, rv x0)] → St E A s h H locs → fX9_checked_112 x0 h = some (r9, h9) → W p l e R s m args below meth c H locs 0 0 (MQ below (Qi E A h9 r9) args s 0 0 A) (F0 m 112 ls []) := by
  intro x0 h H locs ls hl S hf
  unfold fX9_checked_112 at hf
  refine g_aload_n X (or_rv _) dX9_checked_112 rfl (lv_at hl 0 rfl) ?_
  refine g_gR X S foX9_52 dX9_checked_113 hf (fun v1 hf => ?_)
  refine g_gI X S foX9_124 rfl dX9_checked_116 hf (fun v2 hf => ?_)
  refine lv_if_le (tgt := 146) X.1 X.2.1 dX9_checked_119 (by decide) (fun c3 => ?_) (fun c3 => ?_)
  · replace hf := (if_pos c3).symm.trans hf
    exact wfX9_checked_146 X hr hlk hnm _ _ _ _ _ hl S hf
  · replace hf := (if_neg c3).symm.trans hf
    refine g_aload_n X (or_rv _) dX9_checked_122 rfl (lv_at hl 0 rfl) ?_
    refine g_gI X S foX9_115 rfl dX9_checked_123 hf (fun v4 hf => ?_)
    refine g_aload_n X (or_rv _) dX9_checked_126 rfl (lv_at hl 0 rfl) ?_
    refine g_gR X S foX9_52 dX9_checked_127 hf (fun v5 hf => ?_)
    refine g_gI X S foX9_124 rfl dX9_checked_130 hf (fun v6 hf => ?_)
    obtain ⟨v7, hc, hf⟩ := ob_some hf
    refine g_ci S (runS (As := [.int v4, .int v6]) (rest := []) X S coX9_130 (by decide) (cX10_isField_m l hc) rfl hl.1 (by decide) rfl ⟨Nat.zero_le _, Nat.zero_le _⟩ dX9_checked_133) (fun H locs S => ?_)
    refine lv_if_ne (tgt := 146) X.1 X.2.1 dX9_checked_136 (by decide) (fun c8 => ?_) (fun c8 => ?_)
    · replace hf := (if_neg c8).symm.trans hf
      exact wfX9_checked_146 X hr hlk hnm _ _ _ _ _ hl S hf
    · replace hf := (if_pos c8).symm.trans hf
      refine g_aload_n X (or_rv _) dX9_checked_139 rfl (lv_at hl 0 rfl) ?_
      refine lv_iconst (v := 1) X.1 X.2.1 dX9_checked_140 (by decide) ?_
      refine lv_iconst (v := 1) X.1 X.2.1 dX9_checked_141 (by decide) ?_
      obtain ⟨v9, h, hc, hf⟩ := ob2_some hf
      refine g_ci S (runV (As := [.int 1, .int 1]) (rest := []) X S coX9_134 (by decide) (cX9_blame_m l hc) (tkX9_blame hc) rfl hl.1 (by decide) rfl ⟨Nat.zero_le _, Nat.zero_le _⟩ dX9_checked_142) (fun H locs S => ?_)
      cases hf; exact g_ri X S hr hlk dX9_checked_145
def fX9_checked (a0 : Nat) (h : Hp) : Option (Int32 × Hp) := gd 8 a0 h (ob (gR 8 a0 7 h) fun v1 => ob (gI 5 v1 1 h) fun v2 => ob (gR 8 a0 7 h) fun v3 => ob (gI 5 v3 2 h) fun v4 => ob (fX9_held a0 v4 h) fun v5 => ob (pI 8 a0 8 (v2 + v5) h) fun h => ob (gR 8 a0 7 h) fun v6 => ob (gI 5 v6 4 h) fun v7 => ob (gR 8 a0 7 h) fun v8 => ob (gI 5 v8 5 h) fun v9 => ob (fX9_held a0 v9 h) fun v10 => ob (pI 8 a0 9 (v7 + v10) h) fun h => ob (gI 8 a0 8 h) fun v11 => ob (gR 8 a0 7 h) fun v12 => ob (gI 5 v12 3 h) fun v13 => ob (pI 8 a0 10 (v11 + v13) h) fun h => ob (gI 8 a0 9 h) fun v14 => ob (gR 8 a0 7 h) fun v15 => ob (gI 5 v15 6 h) fun v16 => ob (pI 8 a0 11 (v14 + v16) h) fun h => ob (gR 8 a0 7 h) fun v17 => ob (gI 5 v17 3 h) fun v18 => if v18 ≤ 0 then fX9_checked_112 a0 h else ob (gI 8 a0 8 h) fun v20 => ob (gR 8 a0 7 h) fun v21 => ob (gI 5 v21 3 h) fun v22 => ob (fX10_isField v20 v22) fun v23 => if v23 = 0 then ob2 (fX9_blame a0 1 0 h) fun v25 h => some (v25, h) else fX9_checked_112 a0 h)
theorem tkX9_checked {a0 : Nat} {h : Hp} {r9 : Int32 × Hp} (e : fX9_checked a0 h = some r9) : hK h a0 = 8 := by
  unfold fX9_checked at e
  exact (gd_some e).1
theorem cX9_checked_m (l : Launch) {E : EE} {A : Nat → Prop} {a0 : Nat} {h : Hp} {r9 : Int32} {h9 : Hp} (hf : fX9_checked a0 h = some (r9, h9)) : Met l yX9_checked (wsM yX9_checked cX9_checked 2 (some .int)) (rmm 10 0 0) (PcE E A h [rv a0]) (Qi E A h9 r9) 0 0 A := by
  refine met_of (by decide +kernel) (by simp [lg_sl, cat_rv, cat_wv, cat_sv, cat_i, cat_l, cat_a]) (fun p e s m args below meth c ls X hr hlk hnm S hl => ?_)
  have hl : lv_has ls 2 [(0, rv a0)] := by simpa [lv_args, cat_rv, cat_wv, cat_sv, cat_i, cat_l, cat_a] using hl
  generalize hH : s.heap = H at S ⊢
  generalize hlo : ([] : List Loc) = locs at S ⊢
  clear hH hlo
  unfold fX9_checked at hf
  obtain ⟨hth, hf⟩ := gd_some hf
  refine g_aload_n X (or_rv _) dX9_checked_0 rfl (lv_at hl 0 rfl) ?_
  refine g_aload_n X (or_rv _) dX9_checked_1 rfl (lv_at hl 0 rfl) ?_
  refine g_gR X S foX9_52 dX9_checked_2 hf (fun v1 hf => ?_)
  refine g_gI X S foX9_97 rfl dX9_checked_5 hf (fun v2 hf => ?_)
  refine g_aload_n X (or_rv _) dX9_checked_8 rfl (lv_at hl 0 rfl) ?_
  refine g_aload_n X (or_rv _) dX9_checked_9 rfl (lv_at hl 0 rfl) ?_
  refine g_gR X S foX9_52 dX9_checked_10 hf (fun v3 hf => ?_)
  refine g_gI X S foX9_100 rfl dX9_checked_13 hf (fun v4 hf => ?_)
  obtain ⟨v5, hc, hf⟩ := ob_some hf
  refine g_ci S (runV (As := [.int v4]) (rest := [.int v2, rv a0]) X S coX9_103 (by decide) (cX9_held_m l hc) (tkX9_held hc) rfl hl.1 (by simp [cat_rv, cat_wv, cat_sv, cat_i, cat_l, cat_a]) rfl ⟨Nat.zero_le _, Nat.zero_le _⟩ dX9_checked_16) (fun H locs S => ?_)
  refine lv_iadd X.1 X.2.1 dX9_checked_19 ?_
  refine g_pI X S fpX9_106 (Or.inl rfl) dX9_checked_20 hf (fun h H locs hm hf S => ?_)
  refine g_aload_n X (or_rv _) dX9_checked_23 rfl (lv_at hl 0 rfl) ?_
  refine g_aload_n X (or_rv _) dX9_checked_24 rfl (lv_at hl 0 rfl) ?_
  refine g_gR X S foX9_52 dX9_checked_25 hf (fun v6 hf => ?_)
  refine g_gI X S foX9_109 rfl dX9_checked_28 hf (fun v7 hf => ?_)
  refine g_aload_n X (or_rv _) dX9_checked_31 rfl (lv_at hl 0 rfl) ?_
  refine g_aload_n X (or_rv _) dX9_checked_32 rfl (lv_at hl 0 rfl) ?_
  refine g_gR X S foX9_52 dX9_checked_33 hf (fun v8 hf => ?_)
  refine g_gI X S foX9_112 rfl dX9_checked_36 hf (fun v9 hf => ?_)
  obtain ⟨v10, hc, hf⟩ := ob_some hf
  refine g_ci S (runV (As := [.int v9]) (rest := [.int v7, rv a0]) X S coX9_103 (by decide) (cX9_held_m l hc) (tkX9_held hc) rfl hl.1 (by simp [cat_rv, cat_wv, cat_sv, cat_i, cat_l, cat_a]) rfl ⟨Nat.zero_le _, Nat.zero_le _⟩ dX9_checked_39) (fun H locs S => ?_)
  refine lv_iadd X.1 X.2.1 dX9_checked_42 ?_
  refine g_pI X S fpX9_115 (Or.inl rfl) dX9_checked_43 hf (fun h H locs hm hf S => ?_)
  refine g_aload_n X (or_rv _) dX9_checked_46 rfl (lv_at hl 0 rfl) ?_
  refine g_aload_n X (or_rv _) dX9_checked_47 rfl (lv_at hl 0 rfl) ?_
  refine g_gI X S foX9_106 rfl dX9_checked_48 hf (fun v11 hf => ?_)
  refine g_aload_n X (or_rv _) dX9_checked_51 rfl (lv_at hl 0 rfl) ?_
  refine g_gR X S foX9_52 dX9_checked_52 hf (fun v12 hf => ?_)
  refine g_gI X S foX9_118 rfl dX9_checked_55 hf (fun v13 hf => ?_)
  refine lv_iadd X.1 X.2.1 dX9_checked_58 ?_
  refine g_pI X S fpX9_121 (Or.inl rfl) dX9_checked_59 hf (fun h H locs hm hf S => ?_)
  refine g_aload_n X (or_rv _) dX9_checked_62 rfl (lv_at hl 0 rfl) ?_
  refine g_aload_n X (or_rv _) dX9_checked_63 rfl (lv_at hl 0 rfl) ?_
  refine g_gI X S foX9_115 rfl dX9_checked_64 hf (fun v14 hf => ?_)
  refine g_aload_n X (or_rv _) dX9_checked_67 rfl (lv_at hl 0 rfl) ?_
  refine g_gR X S foX9_52 dX9_checked_68 hf (fun v15 hf => ?_)
  refine g_gI X S foX9_124 rfl dX9_checked_71 hf (fun v16 hf => ?_)
  refine lv_iadd X.1 X.2.1 dX9_checked_74 ?_
  refine g_pI X S fpX9_127 (Or.inl rfl) dX9_checked_75 hf (fun h H locs hm hf S => ?_)
  refine g_aload_n X (or_rv _) dX9_checked_78 rfl (lv_at hl 0 rfl) ?_
  refine g_gR X S foX9_52 dX9_checked_79 hf (fun v17 hf => ?_)
  refine g_gI X S foX9_118 rfl dX9_checked_82 hf (fun v18 hf => ?_)
  refine lv_if_le (tgt := 112) X.1 X.2.1 dX9_checked_85 (by decide) (fun c19 => ?_) (fun c19 => ?_)
  · replace hf := (if_pos c19).symm.trans hf
    exact wfX9_checked_112 X hr hlk hnm _ _ _ _ _ hl S hf
  · replace hf := (if_neg c19).symm.trans hf
    refine g_aload_n X (or_rv _) dX9_checked_88 rfl (lv_at hl 0 rfl) ?_
    refine g_gI X S foX9_106 rfl dX9_checked_89 hf (fun v20 hf => ?_)
    refine g_aload_n X (or_rv _) dX9_checked_92 rfl (lv_at hl 0 rfl) ?_
    refine g_gR X S foX9_52 dX9_checked_93 hf (fun v21 hf => ?_)
    refine g_gI X S foX9_118 rfl dX9_checked_96 hf (fun v22 hf => ?_)
    obtain ⟨v23, hc, hf⟩ := ob_some hf
    refine g_ci S (runS (As := [.int v20, .int v22]) (rest := []) X S coX9_130 (by decide) (cX10_isField_m l hc) rfl hl.1 (by decide) rfl ⟨Nat.zero_le _, Nat.zero_le _⟩ dX9_checked_99) (fun H locs S => ?_)
    refine lv_if_ne (tgt := 112) X.1 X.2.1 dX9_checked_102 (by decide) (fun c24 => ?_) (fun c24 => ?_)
    · replace hf := (if_neg c24).symm.trans hf
      exact wfX9_checked_112 X hr hlk hnm _ _ _ _ _ hl S hf
    · replace hf := (if_pos c24).symm.trans hf
      refine g_aload_n X (or_rv _) dX9_checked_105 rfl (lv_at hl 0 rfl) ?_
      refine lv_iconst (v := 1) X.1 X.2.1 dX9_checked_106 (by decide) ?_
      refine lv_iconst (v := 0) X.1 X.2.1 dX9_checked_107 (by decide) ?_
      obtain ⟨v25, h, hc, hf⟩ := ob2_some hf
      refine g_ci S (runV (As := [.int 1, .int 0]) (rest := []) X S coX9_134 (by decide) (cX9_blame_m l hc) (tkX9_blame hc) rfl hl.1 (by decide) rfl ⟨Nat.zero_le _, Nat.zero_le _⟩ dX9_checked_108) (fun H locs S => ?_)
      cases hf; exact g_ri X S hr hlk dX9_checked_111
def fX9_putResult_78 (x0 : Nat) (x1 : Int32) (y0 : Int32) (y1 : Int32) (y2 : Nat) (h : Hp) : Option (Int32 × Hp) := ob (fX10_put y2 y1 y0 h) fun h => if x1 = 0 then some (0, h) else ob2 (fX9_blame x0 6 0 h) fun v3 h => some (v3, h)
theorem wfX9_putResult_78 {r9 : Int32} {h9 : Hp} (X : Cx p E A 9 R s m args c cX9_putResult yX9_putResult.cls 2) (hr : meth.sig.returnType = (some .int)) (hlk : meth.locks = false) (hnm : meth.name = yX9_putResult.name) :
    ∀ (x0 : Nat) (x1 : Int32) (y0 : Int32) (y1 : Int32) (y2 : Nat) (h : Hp) (H : Heap) (locs : List Loc) (ls : Array Slot), lv_has ls 2 [(0, rv x0), (1, .int x1)] → St E A s h H locs → fX9_putResult_78 x0 x1 y0 y1 y2 h = some (r9, h9) → W p l e R s m args below meth c H locs 0 0 (MQ below (Qi E A h9 r9) args s 0 0 A) (F0 m 78 ls [.int y0, .int y1, rv y2]) := by
  intro x0 x1 y0 y1 y2 h H locs ls hl S hf
  unfold fX9_putResult_78 at hf
  obtain ⟨h, hc, hf⟩ := ob_some hf
  refine g_cv S (runV (As := [.int y1, .int y0]) (rest := []) X S coX9_233 (by decide) (cX10_put_m l hc) (tkX10_put hc) rfl hl.1 (by decide) rfl ⟨Nat.zero_le _, Nat.zero_le _⟩ dX9_putResult_78) (fun H locs S => ?_)
  refine lv_iload_n X.1 X.2.1 dX9_putResult_81 rfl (lv_at hl 1 rfl) ?_
  refine lv_if_eq (tgt := 95) X.1 X.2.1 dX9_putResult_82 (by decide) (fun c2 => ?_) (fun c2 => ?_)
  · replace hf := (if_pos c2).symm.trans hf
    refine lv_iconst (v := 0) X.1 X.2.1 dX9_putResult_95 (by decide) ?_
    cases hf; exact g_ri X S hr hlk dX9_putResult_96
  · replace hf := (if_neg c2).symm.trans hf
    refine g_aload_n X (or_rv _) dX9_putResult_85 rfl (lv_at hl 0 rfl) ?_
    refine lv_bipush (v := 6) X.1 X.2.1 dX9_putResult_86 (by decide) ?_
    refine lv_iconst (v := 0) X.1 X.2.1 dX9_putResult_88 (by decide) ?_
    obtain ⟨v3, h, hc, hf⟩ := ob2_some hf
    refine g_ci S (runV (As := [.int 6, .int 0]) (rest := []) X S coX9_134 (by decide) (cX9_blame_m l hc) (tkX9_blame hc) rfl hl.1 (by decide) rfl ⟨Nat.zero_le _, Nat.zero_le _⟩ dX9_putResult_89) (fun H locs S => ?_)
    refine lv_goto (tgt := 96) X.1 X.2.1 dX9_putResult_92 (by decide) ?_
    cases hf; exact g_ri X S hr hlk dX9_putResult_96
def fX9_putResult_26 (x0 : Nat) (y0 : Int32) (h : Hp) : Option (Int32 × Hp) := ob (gR 8 x0 2 h) fun v1 => ob (gR 8 x0 6 h) fun v2 => ob (gI 8 x0 8 h) fun v3 => ob (gR 8 x0 7 h) fun v4 => ob (gI 5 v4 3 h) fun v5 => ob (gR 8 x0 2 h) fun v6 => ob (fX1_sign v6 h) fun v7 => ob (fX1_put v1 v2 v3 v5 v7 h) fun h => ob (gR 8 x0 6 h) fun v9 => if y0 = 0 then ob (gR 8 x0 2 h) fun v11 => ob (fX1_kind v11 h) fun v12 => fX9_putResult_78 x0 y0 v12 264 v9 h else fX9_putResult_78 x0 y0 3 264 v9 h
theorem wfX9_putResult_26 {r9 : Int32} {h9 : Hp} (X : Cx p E A 9 R s m args c cX9_putResult yX9_putResult.cls 2) (hr : meth.sig.returnType = (some .int)) (hlk : meth.locks = false) (hnm : meth.name = yX9_putResult.name) :
    ∀ (x0 : Nat) (y0 : Int32) (h : Hp) (H : Heap) (locs : List Loc) (ls : Array Slot), lv_has ls 2 [(0, rv x0)] → St E A s h H locs → fX9_putResult_26 x0 y0 h = some (r9, h9) → W p l e R s m args below meth c H locs 0 0 (MQ below (Qi E A h9 r9) args s 0 0 A) (F0 m 26 ls [.int y0]) := by
  intro x0 y0 h H locs ls hl S hf
  unfold fX9_putResult_26 at hf
  refine lv_istore_n (i := 1) (lv' := [(1, .int y0), (0, rv x0)]) X.1 X.2.1 dX9_putResult_26 rfl hl (by decide) (by simp [List.filter, cat_rv, cat_wv, cat_sv]) (fun ls hl => ?_)
  refine g_aload_n X (or_rv _) dX9_putResult_27 rfl (lv_at hl 1 rfl) ?_
  refine g_gR X S foX9_21 dX9_putResult_28 hf (fun v1 hf => ?_)
  refine g_aload_n X (or_rv _) dX9_putResult_31 rfl (lv_at hl 1 rfl) ?_
  refine g_gR X S foX9_45 dX9_putResult_32 hf (fun v2 hf => ?_)
  refine g_aload_n X (or_rv _) dX9_putResult_35 rfl (lv_at hl 1 rfl) ?_
  refine g_gI X S foX9_106 rfl dX9_putResult_36 hf (fun v3 hf => ?_)
  refine g_aload_n X (or_rv _) dX9_putResult_39 rfl (lv_at hl 1 rfl) ?_
  refine g_gR X S foX9_52 dX9_putResult_40 hf (fun v4 hf => ?_)
  refine g_gI X S foX9_118 rfl dX9_putResult_43 hf (fun v5 hf => ?_)
  refine g_aload_n X (or_rv _) dX9_putResult_46 rfl (lv_at hl 1 rfl) ?_
  refine g_gR X S foX9_21 dX9_putResult_47 hf (fun v6 hf => ?_)
  obtain ⟨v7, hc, hf⟩ := ob_some hf
  refine g_ci S (runV (As := []) (rest := [.int v5, .int v3, rv v2, rv v1]) X S coX9_226 (by decide) (cX1_sign_m l hc) (tkX1_sign hc) rfl hl.1 (by simp [cat_rv, cat_wv, cat_sv, cat_i, cat_l, cat_a]) rfl ⟨Nat.zero_le _, Nat.zero_le _⟩ dX9_putResult_50) (fun H locs S => ?_)
  obtain ⟨h, hc, hf⟩ := ob_some hf
  refine g_cv S (runV (As := [rv v2, .int v3, .int v5, .int v7]) (rest := []) X S coX9_229 (by decide) (cX1_put_m l hc) (tkX1_put hc) rfl hl.1 (by decide) rfl ⟨Nat.zero_le _, Nat.zero_le _⟩ dX9_putResult_53) (fun H locs S => ?_)
  refine g_aload_n X (or_rv _) dX9_putResult_56 rfl (lv_at hl 1 rfl) ?_
  refine g_gR X S foX9_45 dX9_putResult_57 hf (fun v9 hf => ?_)
  refine lv_sipush (v := 264) X.1 X.2.1 dX9_putResult_60 (by decide) ?_
  refine lv_iload_n X.1 X.2.1 dX9_putResult_63 rfl (lv_at hl 0 rfl) ?_
  refine lv_if_eq (tgt := 71) X.1 X.2.1 dX9_putResult_64 (by decide) (fun c10 => ?_) (fun c10 => ?_)
  · replace hf := (if_pos c10).symm.trans hf
    refine g_aload_n X (or_rv _) dX9_putResult_71 rfl (lv_at hl 1 rfl) ?_
    refine g_gR X S foX9_21 dX9_putResult_72 hf (fun v11 hf => ?_)
    obtain ⟨v12, hc, hf⟩ := ob_some hf
    refine g_ci S (runV (As := []) (rest := [.int 264, rv v9]) X S coX9_255 (by decide) (cX1_kind_m l hc) (tkX1_kind hc) rfl hl.1 (by simp [cat_rv, cat_wv, cat_sv, cat_i, cat_l, cat_a]) rfl ⟨Nat.zero_le _, Nat.zero_le _⟩ dX9_putResult_75) (fun H locs S => ?_)
    exact wfX9_putResult_78 X hr hlk hnm _ _ _ _ _ _ _ _ _ (lv_sub hl [1, 0] rfl) S hf
  · replace hf := (if_neg c10).symm.trans hf
    refine lv_iconst (v := 3) X.1 X.2.1 dX9_putResult_67 (by decide) ?_
    refine lv_goto (tgt := 78) X.1 X.2.1 dX9_putResult_68 (by decide) ?_
    exact wfX9_putResult_78 X hr hlk hnm _ _ _ _ _ _ _ _ _ (lv_sub hl [1, 0] rfl) S hf
def fX9_putResult (a0 : Nat) (h : Hp) : Option (Int32 × Hp) := gd 8 a0 h (ob (gR 8 a0 2 h) fun v1 => ob (fX1_size v1 h) fun v2 => ob (gR 8 a0 7 h) fun v3 => ob (gI 5 v3 3 h) fun v4 => if v2 ≤ ((2 * v4) - 1) then fX9_putResult_26 a0 0 h else fX9_putResult_26 a0 1 h)
theorem tkX9_putResult {a0 : Nat} {h : Hp} {r9 : Int32 × Hp} (e : fX9_putResult a0 h = some r9) : hK h a0 = 8 := by
  unfold fX9_putResult at e
  exact (gd_some e).1
theorem cX9_putResult_m (l : Launch) {E : EE} {A : Nat → Prop} {a0 : Nat} {h : Hp} {r9 : Int32} {h9 : Hp} (hf : fX9_putResult a0 h = some (r9, h9)) : Met l yX9_putResult (wsM yX9_putResult cX9_putResult 2 (some .int)) (rmm 9 0 0) (PcE E A h [rv a0]) (Qi E A h9 r9) 0 0 A := by
  refine met_of (by decide +kernel) (by simp [lg_sl, cat_rv, cat_wv, cat_sv, cat_i, cat_l, cat_a]) (fun p e s m args below meth c ls X hr hlk hnm S hl => ?_)
  have hl : lv_has ls 2 [(0, rv a0)] := by simpa [lv_args, cat_rv, cat_wv, cat_sv, cat_i, cat_l, cat_a] using hl
  generalize hH : s.heap = H at S ⊢
  generalize hlo : ([] : List Loc) = locs at S ⊢
  clear hH hlo
  unfold fX9_putResult at hf
  obtain ⟨hth, hf⟩ := gd_some hf
  refine g_aload_n X (or_rv _) dX9_putResult_0 rfl (lv_at hl 0 rfl) ?_
  refine g_gR X S foX9_21 dX9_putResult_1 hf (fun v1 hf => ?_)
  obtain ⟨v2, hc, hf⟩ := ob_some hf
  refine g_ci S (runV (As := []) (rest := []) X S coX9_276 (by decide) (cX1_size_m l hc) (tkX1_size hc) rfl hl.1 (by decide) rfl ⟨Nat.zero_le _, Nat.zero_le _⟩ dX9_putResult_4) (fun H locs S => ?_)
  refine lv_iconst (v := 2) X.1 X.2.1 dX9_putResult_7 (by decide) ?_
  refine g_aload_n X (or_rv _) dX9_putResult_8 rfl (lv_at hl 0 rfl) ?_
  refine g_gR X S foX9_52 dX9_putResult_9 hf (fun v3 hf => ?_)
  refine g_gI X S foX9_118 rfl dX9_putResult_12 hf (fun v4 hf => ?_)
  refine lv_imul X.1 X.2.1 dX9_putResult_15 ?_
  refine lv_iconst (v := 1) X.1 X.2.1 dX9_putResult_16 (by decide) ?_
  refine lv_isub X.1 X.2.1 dX9_putResult_17 ?_
  refine lv_icmp_le (tgt := 25) X.1 X.2.1 dX9_putResult_18 (by decide) (fun c5 => ?_) (fun c5 => ?_)
  · replace hf := (if_pos c5).symm.trans hf
    refine lv_iconst (v := 0) X.1 X.2.1 dX9_putResult_25 (by decide) ?_
    exact wfX9_putResult_26 X hr hlk hnm _ _ _ _ _ _ hl S hf
  · replace hf := (if_neg c5).symm.trans hf
    refine lv_iconst (v := 1) X.1 X.2.1 dX9_putResult_21 (by decide) ?_
    refine lv_goto (tgt := 26) X.1 X.2.1 dX9_putResult_22 (by decide) ?_
    exact wfX9_putResult_26 X hr hlk hnm _ _ _ _ _ _ hl S hf
def fX9_moveNumber (a0 : Nat) (h : Hp) : Option (Int32 × Hp) := gd 8 a0 h (ob (gR 8 a0 2 h) fun v1 => ob (gR 8 a0 6 h) fun v2 => ob (gI 8 a0 9 h) fun v3 => ob (gR 8 a0 7 h) fun v4 => ob (gI 5 v4 6 h) fun v5 => ob (fX1_takePacked v1 v2 v3 v5 h) fun h => ob2 (fX9_putResult a0 h) fun v7 h => some (v7, h))
theorem tkX9_moveNumber {a0 : Nat} {h : Hp} {r9 : Int32 × Hp} (e : fX9_moveNumber a0 h = some r9) : hK h a0 = 8 := by
  unfold fX9_moveNumber at e
  exact (gd_some e).1
theorem cX9_moveNumber_m (l : Launch) {E : EE} {A : Nat → Prop} {a0 : Nat} {h : Hp} {r9 : Int32} {h9 : Hp} (hf : fX9_moveNumber a0 h = some (r9, h9)) : Met l yX9_moveNumber (wsM yX9_moveNumber cX9_moveNumber 1 (some .int)) (rmm 10 0 0) (PcE E A h [rv a0]) (Qi E A h9 r9) 0 0 A := by
  refine met_of (by decide +kernel) (by simp [lg_sl, cat_rv, cat_wv, cat_sv, cat_i, cat_l, cat_a]) (fun p e s m args below meth c ls X hr hlk hnm S hl => ?_)
  have hl : lv_has ls 1 [(0, rv a0)] := by simpa [lv_args, cat_rv, cat_wv, cat_sv, cat_i, cat_l, cat_a] using hl
  generalize hH : s.heap = H at S ⊢
  generalize hlo : ([] : List Loc) = locs at S ⊢
  clear hH hlo
  unfold fX9_moveNumber at hf
  obtain ⟨hth, hf⟩ := gd_some hf
  refine g_aload_n X (or_rv _) dX9_moveNumber_0 rfl (lv_at hl 0 rfl) ?_
  refine g_gR X S foX9_21 dX9_moveNumber_1 hf (fun v1 hf => ?_)
  refine g_aload_n X (or_rv _) dX9_moveNumber_4 rfl (lv_at hl 0 rfl) ?_
  refine g_gR X S foX9_45 dX9_moveNumber_5 hf (fun v2 hf => ?_)
  refine g_aload_n X (or_rv _) dX9_moveNumber_8 rfl (lv_at hl 0 rfl) ?_
  refine g_gI X S foX9_115 rfl dX9_moveNumber_9 hf (fun v3 hf => ?_)
  refine g_aload_n X (or_rv _) dX9_moveNumber_12 rfl (lv_at hl 0 rfl) ?_
  refine g_gR X S foX9_52 dX9_moveNumber_13 hf (fun v4 hf => ?_)
  refine g_gI X S foX9_124 rfl dX9_moveNumber_16 hf (fun v5 hf => ?_)
  obtain ⟨h, hc, hf⟩ := ob_some hf
  refine g_cv S (runV (As := [rv v2, .int v3, .int v5]) (rest := []) X S coX9_244 (by decide) (cX1_takePacked_m l hc) (tkX1_takePacked hc) rfl hl.1 (by decide) rfl ⟨Nat.zero_le _, Nat.zero_le _⟩ dX9_moveNumber_19) (fun H locs S => ?_)
  refine g_aload_n X (or_rv _) dX9_moveNumber_22 rfl (lv_at hl 0 rfl) ?_
  obtain ⟨v7, h, hc, hf⟩ := ob2_some hf
  refine g_ci S (runV (As := []) (rest := []) X S coX9_248 (by decide) (cX9_putResult_m l hc) (tkX9_putResult hc) rfl hl.1 (by decide) rfl ⟨Nat.zero_le _, Nat.zero_le _⟩ dX9_moveNumber_23) (fun H locs S => ?_)
  cases hf; exact g_ri X S hr hlk dX9_moveNumber_26
def fX9_addNumbers (a0 : Nat) (a1 : Int32) (h : Hp) : Option (Int32 × Hp) := gd 8 a0 h (ob (gR 8 a0 0 h) fun v1 => ob (gR 8 a0 6 h) fun v2 => ob (gI 8 a0 8 h) fun v3 => ob (gR 8 a0 7 h) fun v4 => ob (gI 5 v4 3 h) fun v5 => ob (fX1_takePacked v1 v2 v3 v5 h) fun h => ob (gR 8 a0 1 h) fun v7 => ob (gR 8 a0 6 h) fun v8 => ob (gI 8 a0 9 h) fun v9 => ob (gR 8 a0 7 h) fun v10 => ob (gI 5 v10 6 h) fun v11 => ob (fX1_takePacked v7 v8 v9 v11 h) fun h => ob (gR 8 a0 2 h) fun v13 => ob (gR 8 a0 0 h) fun v14 => ob (gR 8 a0 1 h) fun v15 => ob (fX1_add v13 v14 v15 a1 h) fun h => ob2 (fX9_putResult a0 h) fun v17 h => some (v17, h))
theorem tkX9_addNumbers {a0 : Nat} {a1 : Int32} {h : Hp} {r9 : Int32 × Hp} (e : fX9_addNumbers a0 a1 h = some r9) : hK h a0 = 8 := by
  unfold fX9_addNumbers at e
  exact (gd_some e).1
theorem cX9_addNumbers_m (l : Launch) {E : EE} {A : Nat → Prop} {a0 : Nat} {a1 : Int32} {h : Hp} {r9 : Int32} {h9 : Hp} (hf : fX9_addNumbers a0 a1 h = some (r9, h9)) : Met l yX9_addNumbers (wsM yX9_addNumbers cX9_addNumbers 2 (some .int)) (rmm 10 0 0) (PcE E A h [rv a0, .int a1]) (Qi E A h9 r9) 0 0 A := by
  refine met_of (by decide +kernel) (by simp [lg_sl, cat_rv, cat_wv, cat_sv, cat_i, cat_l, cat_a]) (fun p e s m args below meth c ls X hr hlk hnm S hl => ?_)
  have hl : lv_has ls 2 [(0, rv a0), (1, .int a1)] := by simpa [lv_args, cat_rv, cat_wv, cat_sv, cat_i, cat_l, cat_a] using hl
  generalize hH : s.heap = H at S ⊢
  generalize hlo : ([] : List Loc) = locs at S ⊢
  clear hH hlo
  unfold fX9_addNumbers at hf
  obtain ⟨hth, hf⟩ := gd_some hf
  refine g_aload_n X (or_rv _) dX9_addNumbers_0 rfl (lv_at hl 0 rfl) ?_
  refine g_gR X S foX9_12 dX9_addNumbers_1 hf (fun v1 hf => ?_)
  refine g_aload_n X (or_rv _) dX9_addNumbers_4 rfl (lv_at hl 0 rfl) ?_
  refine g_gR X S foX9_45 dX9_addNumbers_5 hf (fun v2 hf => ?_)
  refine g_aload_n X (or_rv _) dX9_addNumbers_8 rfl (lv_at hl 0 rfl) ?_
  refine g_gI X S foX9_106 rfl dX9_addNumbers_9 hf (fun v3 hf => ?_)
  refine g_aload_n X (or_rv _) dX9_addNumbers_12 rfl (lv_at hl 0 rfl) ?_
  refine g_gR X S foX9_52 dX9_addNumbers_13 hf (fun v4 hf => ?_)
  refine g_gI X S foX9_118 rfl dX9_addNumbers_16 hf (fun v5 hf => ?_)
  obtain ⟨h, hc, hf⟩ := ob_some hf
  refine g_cv S (runV (As := [rv v2, .int v3, .int v5]) (rest := []) X S coX9_244 (by decide) (cX1_takePacked_m l hc) (tkX1_takePacked hc) rfl hl.1 (by decide) rfl ⟨Nat.zero_le _, Nat.zero_le _⟩ dX9_addNumbers_19) (fun H locs S => ?_)
  refine g_aload_n X (or_rv _) dX9_addNumbers_22 rfl (lv_at hl 0 rfl) ?_
  refine g_gR X S foX9_18 dX9_addNumbers_23 hf (fun v7 hf => ?_)
  refine g_aload_n X (or_rv _) dX9_addNumbers_26 rfl (lv_at hl 0 rfl) ?_
  refine g_gR X S foX9_45 dX9_addNumbers_27 hf (fun v8 hf => ?_)
  refine g_aload_n X (or_rv _) dX9_addNumbers_30 rfl (lv_at hl 0 rfl) ?_
  refine g_gI X S foX9_115 rfl dX9_addNumbers_31 hf (fun v9 hf => ?_)
  refine g_aload_n X (or_rv _) dX9_addNumbers_34 rfl (lv_at hl 0 rfl) ?_
  refine g_gR X S foX9_52 dX9_addNumbers_35 hf (fun v10 hf => ?_)
  refine g_gI X S foX9_124 rfl dX9_addNumbers_38 hf (fun v11 hf => ?_)
  obtain ⟨h, hc, hf⟩ := ob_some hf
  refine g_cv S (runV (As := [rv v8, .int v9, .int v11]) (rest := []) X S coX9_244 (by decide) (cX1_takePacked_m l hc) (tkX1_takePacked hc) rfl hl.1 (by decide) rfl ⟨Nat.zero_le _, Nat.zero_le _⟩ dX9_addNumbers_41) (fun H locs S => ?_)
  refine g_aload_n X (or_rv _) dX9_addNumbers_44 rfl (lv_at hl 0 rfl) ?_
  refine g_gR X S foX9_21 dX9_addNumbers_45 hf (fun v13 hf => ?_)
  refine g_aload_n X (or_rv _) dX9_addNumbers_48 rfl (lv_at hl 0 rfl) ?_
  refine g_gR X S foX9_12 dX9_addNumbers_49 hf (fun v14 hf => ?_)
  refine g_aload_n X (or_rv _) dX9_addNumbers_52 rfl (lv_at hl 0 rfl) ?_
  refine g_gR X S foX9_18 dX9_addNumbers_53 hf (fun v15 hf => ?_)
  refine lv_iload_n X.1 X.2.1 dX9_addNumbers_56 rfl (lv_at hl 1 rfl) ?_
  obtain ⟨h, hc, hf⟩ := ob_some hf
  refine g_cv S (runV (As := [rv v14, rv v15, .int a1]) (rest := []) X S coX9_251 (by decide) (cX1_add_m l hc) (tkX1_add hc) rfl hl.1 (by decide) rfl ⟨Nat.zero_le _, Nat.zero_le _⟩ dX9_addNumbers_57) (fun H locs S => ?_)
  refine g_aload_n X (or_rv _) dX9_addNumbers_60 rfl (lv_at hl 0 rfl) ?_
  obtain ⟨v17, h, hc, hf⟩ := ob2_some hf
  refine g_ci S (runV (As := []) (rest := []) X S coX9_248 (by decide) (cX9_putResult_m l hc) (tkX9_putResult hc) rfl hl.1 (by decide) rfl ⟨Nat.zero_le _, Nat.zero_le _⟩ dX9_addNumbers_61) (fun H locs S => ?_)
  cases hf; exact g_ri X S hr hlk dX9_addNumbers_64
def fX9_compareNumbers (a0 : Nat) (h : Hp) : Option (Int32 × Hp) := gd 8 a0 h (ob (gR 8 a0 0 h) fun v1 => ob (gR 8 a0 6 h) fun v2 => ob (gI 8 a0 8 h) fun v3 => ob (gR 8 a0 7 h) fun v4 => ob (gI 5 v4 3 h) fun v5 => ob (fX1_takePacked v1 v2 v3 v5 h) fun h => ob (gR 8 a0 1 h) fun v7 => ob (gR 8 a0 6 h) fun v8 => ob (gI 8 a0 9 h) fun v9 => ob (gR 8 a0 7 h) fun v10 => ob (gI 5 v10 6 h) fun v11 => ob (fX1_takePacked v7 v8 v9 v11 h) fun h => ob (gR 8 a0 2 h) fun v13 => ob (gR 8 a0 0 h) fun v14 => ob (gR 8 a0 1 h) fun v15 => ob (fX1_add v13 v14 v15 1 h) fun h => ob (gR 8 a0 6 h) fun v17 => ob (gR 8 a0 2 h) fun v18 => ob (fX1_kind v18 h) fun v19 => ob (fX10_put v17 264 v19 h) fun h => some (0, h))
theorem tkX9_compareNumbers {a0 : Nat} {h : Hp} {r9 : Int32 × Hp} (e : fX9_compareNumbers a0 h = some r9) : hK h a0 = 8 := by
  unfold fX9_compareNumbers at e
  exact (gd_some e).1
theorem cX9_compareNumbers_m (l : Launch) {E : EE} {A : Nat → Prop} {a0 : Nat} {h : Hp} {r9 : Int32} {h9 : Hp} (hf : fX9_compareNumbers a0 h = some (r9, h9)) : Met l yX9_compareNumbers (wsM yX9_compareNumbers cX9_compareNumbers 1 (some .int)) (rmm 10 0 0) (PcE E A h [rv a0]) (Qi E A h9 r9) 0 0 A := by
  refine met_of (by decide +kernel) (by simp [lg_sl, cat_rv, cat_wv, cat_sv, cat_i, cat_l, cat_a]) (fun p e s m args below meth c ls X hr hlk hnm S hl => ?_)
  have hl : lv_has ls 1 [(0, rv a0)] := by simpa [lv_args, cat_rv, cat_wv, cat_sv, cat_i, cat_l, cat_a] using hl
  generalize hH : s.heap = H at S ⊢
  generalize hlo : ([] : List Loc) = locs at S ⊢
  clear hH hlo
  unfold fX9_compareNumbers at hf
  obtain ⟨hth, hf⟩ := gd_some hf
  refine g_aload_n X (or_rv _) dX9_compareNumbers_0 rfl (lv_at hl 0 rfl) ?_
  refine g_gR X S foX9_12 dX9_compareNumbers_1 hf (fun v1 hf => ?_)
  refine g_aload_n X (or_rv _) dX9_compareNumbers_4 rfl (lv_at hl 0 rfl) ?_
  refine g_gR X S foX9_45 dX9_compareNumbers_5 hf (fun v2 hf => ?_)
  refine g_aload_n X (or_rv _) dX9_compareNumbers_8 rfl (lv_at hl 0 rfl) ?_
  refine g_gI X S foX9_106 rfl dX9_compareNumbers_9 hf (fun v3 hf => ?_)
  refine g_aload_n X (or_rv _) dX9_compareNumbers_12 rfl (lv_at hl 0 rfl) ?_
  refine g_gR X S foX9_52 dX9_compareNumbers_13 hf (fun v4 hf => ?_)
  refine g_gI X S foX9_118 rfl dX9_compareNumbers_16 hf (fun v5 hf => ?_)
  obtain ⟨h, hc, hf⟩ := ob_some hf
  refine g_cv S (runV (As := [rv v2, .int v3, .int v5]) (rest := []) X S coX9_244 (by decide) (cX1_takePacked_m l hc) (tkX1_takePacked hc) rfl hl.1 (by decide) rfl ⟨Nat.zero_le _, Nat.zero_le _⟩ dX9_compareNumbers_19) (fun H locs S => ?_)
  refine g_aload_n X (or_rv _) dX9_compareNumbers_22 rfl (lv_at hl 0 rfl) ?_
  refine g_gR X S foX9_18 dX9_compareNumbers_23 hf (fun v7 hf => ?_)
  refine g_aload_n X (or_rv _) dX9_compareNumbers_26 rfl (lv_at hl 0 rfl) ?_
  refine g_gR X S foX9_45 dX9_compareNumbers_27 hf (fun v8 hf => ?_)
  refine g_aload_n X (or_rv _) dX9_compareNumbers_30 rfl (lv_at hl 0 rfl) ?_
  refine g_gI X S foX9_115 rfl dX9_compareNumbers_31 hf (fun v9 hf => ?_)
  refine g_aload_n X (or_rv _) dX9_compareNumbers_34 rfl (lv_at hl 0 rfl) ?_
  refine g_gR X S foX9_52 dX9_compareNumbers_35 hf (fun v10 hf => ?_)
  refine g_gI X S foX9_124 rfl dX9_compareNumbers_38 hf (fun v11 hf => ?_)
  obtain ⟨h, hc, hf⟩ := ob_some hf
  refine g_cv S (runV (As := [rv v8, .int v9, .int v11]) (rest := []) X S coX9_244 (by decide) (cX1_takePacked_m l hc) (tkX1_takePacked hc) rfl hl.1 (by decide) rfl ⟨Nat.zero_le _, Nat.zero_le _⟩ dX9_compareNumbers_41) (fun H locs S => ?_)
  refine g_aload_n X (or_rv _) dX9_compareNumbers_44 rfl (lv_at hl 0 rfl) ?_
  refine g_gR X S foX9_21 dX9_compareNumbers_45 hf (fun v13 hf => ?_)
  refine g_aload_n X (or_rv _) dX9_compareNumbers_48 rfl (lv_at hl 0 rfl) ?_
  refine g_gR X S foX9_12 dX9_compareNumbers_49 hf (fun v14 hf => ?_)
  refine g_aload_n X (or_rv _) dX9_compareNumbers_52 rfl (lv_at hl 0 rfl) ?_
  refine g_gR X S foX9_18 dX9_compareNumbers_53 hf (fun v15 hf => ?_)
  refine lv_iconst (v := 1) X.1 X.2.1 dX9_compareNumbers_56 (by decide) ?_
  obtain ⟨h, hc, hf⟩ := ob_some hf
  refine g_cv S (runV (As := [rv v14, rv v15, .int 1]) (rest := []) X S coX9_251 (by decide) (cX1_add_m l hc) (tkX1_add hc) rfl hl.1 (by decide) rfl ⟨Nat.zero_le _, Nat.zero_le _⟩ dX9_compareNumbers_57) (fun H locs S => ?_)
  refine g_aload_n X (or_rv _) dX9_compareNumbers_60 rfl (lv_at hl 0 rfl) ?_
  refine g_gR X S foX9_45 dX9_compareNumbers_61 hf (fun v17 hf => ?_)
  refine lv_sipush (v := 264) X.1 X.2.1 dX9_compareNumbers_64 (by decide) ?_
  refine g_aload_n X (or_rv _) dX9_compareNumbers_67 rfl (lv_at hl 0 rfl) ?_
  refine g_gR X S foX9_21 dX9_compareNumbers_68 hf (fun v18 hf => ?_)
  obtain ⟨v19, hc, hf⟩ := ob_some hf
  refine g_ci S (runV (As := []) (rest := [.int 264, rv v17]) X S coX9_255 (by decide) (cX1_kind_m l hc) (tkX1_kind hc) rfl hl.1 (by simp [cat_rv, cat_wv, cat_sv, cat_i, cat_l, cat_a]) rfl ⟨Nat.zero_le _, Nat.zero_le _⟩ dX9_compareNumbers_71) (fun H locs S => ?_)
  obtain ⟨h, hc, hf⟩ := ob_some hf
  refine g_cv S (runV (As := [.int 264, .int v19]) (rest := []) X S coX9_233 (by decide) (cX10_put_m l hc) (tkX10_put hc) rfl hl.1 (by decide) rfl ⟨Nat.zero_le _, Nat.zero_le _⟩ dX9_compareNumbers_74) (fun H locs S => ?_)
  refine lv_iconst (v := 0) X.1 X.2.1 dX9_compareNumbers_77 (by decide) ?_
  cases hf; exact g_ri X S hr hlk dX9_compareNumbers_78
def fX9_multiplyNumbers_157 (y0 : Int32) (y1 : Int32) (y2 : Int32) (y3 : Nat) (y4 : Nat) (h : Hp) : Option (Int32 × Hp) := ob (fX1_put y4 y3 y2 y1 y0 h) fun h => some (0, h)
theorem wfX9_multiplyNumbers_157 {r9 : Int32} {h9 : Hp} (X : Cx p E A 10 R s m args c cX9_multiplyNumbers yX9_multiplyNumbers.cls 2) (hr : meth.sig.returnType = (some .int)) (hlk : meth.locks = false) (hnm : meth.name = yX9_multiplyNumbers.name) :
    ∀ (y0 : Int32) (y1 : Int32) (y2 : Int32) (y3 : Nat) (y4 : Nat) (h : Hp) (H : Heap) (locs : List Loc) (ls : Array Slot), lv_has ls 2 [] → St E A s h H locs → fX9_multiplyNumbers_157 y0 y1 y2 y3 y4 h = some (r9, h9) → W p l e R s m args below meth c H locs 0 0 (MQ below (Qi E A h9 r9) args s 0 0 A) (F0 m 157 ls [.int y0, .int y1, .int y2, rv y3, rv y4]) := by
  intro y0 y1 y2 y3 y4 h H locs ls hl S hf
  unfold fX9_multiplyNumbers_157 at hf
  obtain ⟨h, hc, hf⟩ := ob_some hf
  refine g_cv S (runV (As := [rv y3, .int y2, .int y1, .int y0]) (rest := []) X S coX9_229 (by decide) (cX1_put_m l hc) (tkX1_put hc) rfl hl.1 (by decide) rfl ⟨Nat.zero_le _, Nat.zero_le _⟩ dX9_multiplyNumbers_157) (fun H locs S => ?_)
  refine lv_iconst (v := 0) X.1 X.2.1 dX9_multiplyNumbers_160 (by decide) ?_
  cases hf; exact g_ri X S hr hlk dX9_multiplyNumbers_161
def fX9_multiplyNumbers_7 (k7 : Nat → Int32 → Hp → Option (Int32 × Hp)) (x0 : Nat) (x1 : Int32) (h : Hp) : Option (Int32 × Hp) := ob (gI 8 x0 8 h) fun v1 => ob (gR 8 x0 7 h) fun v2 => ob (gI 5 v2 6 h) fun v3 => if (2 * (v1 + v3)) ≤ x1 then ob (gR 8 x0 0 h) fun v5 => ob (gR 8 x0 6 h) fun v6 => ob (gI 8 x0 8 h) fun v7 => ob (gR 8 x0 7 h) fun v8 => ob (gI 5 v8 3 h) fun v9 => ob (fX1_takePacked v5 v6 v7 v9 h) fun h => ob (gR 8 x0 1 h) fun v11 => ob (gR 8 x0 6 h) fun v12 => ob (gI 8 x0 9 h) fun v13 => ob (gR 8 x0 7 h) fun v14 => ob (gI 5 v14 6 h) fun v15 => ob (fX1_takePacked v11 v12 v13 v15 h) fun h => ob (gR 8 x0 2 h) fun v17 => ob (gR 8 x0 0 h) fun v18 => ob (gR 8 x0 1 h) fun v19 => ob (fX1_multiply v17 v18 v19 h) fun h => ob (gR 8 x0 2 h) fun v21 => ob (gR 8 x0 6 h) fun v22 => ob (gI 8 x0 8 h) fun v23 => ob (gR 8 x0 7 h) fun v24 => ob (gI 5 v24 3 h) fun v25 => ob (gR 8 x0 2 h) fun v26 => ob (fX1_below v26 h) fun v27 => if v27 = 0 then fX9_multiplyNumbers_157 12 v25 v23 v22 v21 h else fX9_multiplyNumbers_157 13 v25 v23 v22 v21 h else ob (gR 8 x0 6 h) fun v29 => ob (fX10_half v29 x1 h) fun v30 => if v30 = 0 then lt (x1 + 1) fun z32 => k7 x0 z32 h else ob (gR 8 x0 6 h) fun v33 => ob (fX10_half v33 x1 h) fun v34 => ob (fX9_blameHalf x0 x1 v34 h) fun h => ob2 (fX9_blame x0 5 0 h) fun v36 h => some (v36, h)
theorem wfX9_multiplyNumbers_7 {k7 : Nat → Int32 → Hp → Option (Int32 × Hp)} {r9 : Int32} {h9 : Hp} (X : Cx p E A 10 R s m args c cX9_multiplyNumbers yX9_multiplyNumbers.cls 2) (hr : meth.sig.returnType = (some .int)) (hlk : meth.locks = false) (hnm : meth.name = yX9_multiplyNumbers.name) (hk7 : ∀ (x0 : Nat) (x1 : Int32) (h : Hp) (H : Heap) (locs : List Loc) (ls : Array Slot), lv_has ls 2 [(0, rv x0), (1, .int x1)] → St E A s h H locs → k7 x0 x1 h = some (r9, h9) → W p l e R s m args below meth c H locs 0 0 (MQ below (Qi E A h9 r9) args s 0 0 A) (F0 m 7 ls [])) :
    ∀ (x0 : Nat) (x1 : Int32) (h : Hp) (H : Heap) (locs : List Loc) (ls : Array Slot), lv_has ls 2 [(0, rv x0), (1, .int x1)] → St E A s h H locs → fX9_multiplyNumbers_7 k7 x0 x1 h = some (r9, h9) → W p l e R s m args below meth c H locs 0 0 (MQ below (Qi E A h9 r9) args s 0 0 A) (F0 m 7 ls []) := by
  intro x0 x1 h H locs ls hl S hf
  unfold fX9_multiplyNumbers_7 at hf
  refine lv_iload_n X.1 X.2.1 dX9_multiplyNumbers_7 rfl (lv_at hl 1 rfl) ?_
  refine lv_iconst (v := 2) X.1 X.2.1 dX9_multiplyNumbers_8 (by decide) ?_
  refine g_aload_n X (or_rv _) dX9_multiplyNumbers_9 rfl (lv_at hl 0 rfl) ?_
  refine g_gI X S foX9_106 rfl dX9_multiplyNumbers_10 hf (fun v1 hf => ?_)
  refine g_aload_n X (or_rv _) dX9_multiplyNumbers_13 rfl (lv_at hl 0 rfl) ?_
  refine g_gR X S foX9_52 dX9_multiplyNumbers_14 hf (fun v2 hf => ?_)
  refine g_gI X S foX9_124 rfl dX9_multiplyNumbers_17 hf (fun v3 hf => ?_)
  refine lv_iadd X.1 X.2.1 dX9_multiplyNumbers_20 ?_
  refine lv_imul X.1 X.2.1 dX9_multiplyNumbers_21 ?_
  refine lv_icmp_ge (tgt := 62) X.1 X.2.1 dX9_multiplyNumbers_22 (by decide) (fun c4 => ?_) (fun c4 => ?_)
  · replace hf := (if_pos c4).symm.trans hf
    refine g_aload_n X (or_rv _) dX9_multiplyNumbers_62 rfl (lv_at hl 0 rfl) ?_
    refine g_gR X S foX9_12 dX9_multiplyNumbers_63 hf (fun v5 hf => ?_)
    refine g_aload_n X (or_rv _) dX9_multiplyNumbers_66 rfl (lv_at hl 0 rfl) ?_
    refine g_gR X S foX9_45 dX9_multiplyNumbers_67 hf (fun v6 hf => ?_)
    refine g_aload_n X (or_rv _) dX9_multiplyNumbers_70 rfl (lv_at hl 0 rfl) ?_
    refine g_gI X S foX9_106 rfl dX9_multiplyNumbers_71 hf (fun v7 hf => ?_)
    refine g_aload_n X (or_rv _) dX9_multiplyNumbers_74 rfl (lv_at hl 0 rfl) ?_
    refine g_gR X S foX9_52 dX9_multiplyNumbers_75 hf (fun v8 hf => ?_)
    refine g_gI X S foX9_118 rfl dX9_multiplyNumbers_78 hf (fun v9 hf => ?_)
    obtain ⟨h, hc, hf⟩ := ob_some hf
    refine g_cv S (runV (As := [rv v6, .int v7, .int v9]) (rest := []) X S coX9_244 (by decide) (cX1_takePacked_m l hc) (tkX1_takePacked hc) rfl hl.1 (by decide) rfl ⟨Nat.zero_le _, Nat.zero_le _⟩ dX9_multiplyNumbers_81) (fun H locs S => ?_)
    refine g_aload_n X (or_rv _) dX9_multiplyNumbers_84 rfl (lv_at hl 0 rfl) ?_
    refine g_gR X S foX9_18 dX9_multiplyNumbers_85 hf (fun v11 hf => ?_)
    refine g_aload_n X (or_rv _) dX9_multiplyNumbers_88 rfl (lv_at hl 0 rfl) ?_
    refine g_gR X S foX9_45 dX9_multiplyNumbers_89 hf (fun v12 hf => ?_)
    refine g_aload_n X (or_rv _) dX9_multiplyNumbers_92 rfl (lv_at hl 0 rfl) ?_
    refine g_gI X S foX9_115 rfl dX9_multiplyNumbers_93 hf (fun v13 hf => ?_)
    refine g_aload_n X (or_rv _) dX9_multiplyNumbers_96 rfl (lv_at hl 0 rfl) ?_
    refine g_gR X S foX9_52 dX9_multiplyNumbers_97 hf (fun v14 hf => ?_)
    refine g_gI X S foX9_124 rfl dX9_multiplyNumbers_100 hf (fun v15 hf => ?_)
    obtain ⟨h, hc, hf⟩ := ob_some hf
    refine g_cv S (runV (As := [rv v12, .int v13, .int v15]) (rest := []) X S coX9_244 (by decide) (cX1_takePacked_m l hc) (tkX1_takePacked hc) rfl hl.1 (by decide) rfl ⟨Nat.zero_le _, Nat.zero_le _⟩ dX9_multiplyNumbers_103) (fun H locs S => ?_)
    refine g_aload_n X (or_rv _) dX9_multiplyNumbers_106 rfl (lv_at hl 0 rfl) ?_
    refine g_gR X S foX9_21 dX9_multiplyNumbers_107 hf (fun v17 hf => ?_)
    refine g_aload_n X (or_rv _) dX9_multiplyNumbers_110 rfl (lv_at hl 0 rfl) ?_
    refine g_gR X S foX9_12 dX9_multiplyNumbers_111 hf (fun v18 hf => ?_)
    refine g_aload_n X (or_rv _) dX9_multiplyNumbers_114 rfl (lv_at hl 0 rfl) ?_
    refine g_gR X S foX9_18 dX9_multiplyNumbers_115 hf (fun v19 hf => ?_)
    obtain ⟨h, hc, hf⟩ := ob_some hf
    refine g_cv S (runV (As := [rv v18, rv v19]) (rest := []) X S coX9_258 (by decide) (cX1_multiply_m l hc) (tkX1_multiply hc) rfl hl.1 (by decide) rfl ⟨Nat.zero_le _, Nat.zero_le _⟩ dX9_multiplyNumbers_118) (fun H locs S => ?_)
    refine g_aload_n X (or_rv _) dX9_multiplyNumbers_121 rfl (lv_at hl 0 rfl) ?_
    refine g_gR X S foX9_21 dX9_multiplyNumbers_122 hf (fun v21 hf => ?_)
    refine g_aload_n X (or_rv _) dX9_multiplyNumbers_125 rfl (lv_at hl 0 rfl) ?_
    refine g_gR X S foX9_45 dX9_multiplyNumbers_126 hf (fun v22 hf => ?_)
    refine g_aload_n X (or_rv _) dX9_multiplyNumbers_129 rfl (lv_at hl 0 rfl) ?_
    refine g_gI X S foX9_106 rfl dX9_multiplyNumbers_130 hf (fun v23 hf => ?_)
    refine g_aload_n X (or_rv _) dX9_multiplyNumbers_133 rfl (lv_at hl 0 rfl) ?_
    refine g_gR X S foX9_52 dX9_multiplyNumbers_134 hf (fun v24 hf => ?_)
    refine g_gI X S foX9_118 rfl dX9_multiplyNumbers_137 hf (fun v25 hf => ?_)
    refine g_aload_n X (or_rv _) dX9_multiplyNumbers_140 rfl (lv_at hl 0 rfl) ?_
    refine g_gR X S foX9_21 dX9_multiplyNumbers_141 hf (fun v26 hf => ?_)
    obtain ⟨v27, hc, hf⟩ := ob_some hf
    refine g_ci S (runV (As := []) (rest := [.int v25, .int v23, rv v22, rv v21]) X S coX9_262 (by decide) (cX1_below_m l hc) (tkX1_below hc) rfl hl.1 (by simp [cat_rv, cat_wv, cat_sv, cat_i, cat_l, cat_a]) rfl ⟨Nat.zero_le _, Nat.zero_le _⟩ dX9_multiplyNumbers_144) (fun H locs S => ?_)
    refine lv_if_eq (tgt := 155) X.1 X.2.1 dX9_multiplyNumbers_147 (by decide) (fun c28 => ?_) (fun c28 => ?_)
    · replace hf := (if_pos c28).symm.trans hf
      refine lv_bipush (v := 12) X.1 X.2.1 dX9_multiplyNumbers_155 (by decide) ?_
      exact wfX9_multiplyNumbers_157 X hr hlk hnm _ _ _ _ _ _ _ _ _ (lv_sub hl [] rfl) S hf
    · replace hf := (if_neg c28).symm.trans hf
      refine lv_bipush (v := 13) X.1 X.2.1 dX9_multiplyNumbers_150 (by decide) ?_
      refine lv_goto (tgt := 157) X.1 X.2.1 dX9_multiplyNumbers_152 (by decide) ?_
      exact wfX9_multiplyNumbers_157 X hr hlk hnm _ _ _ _ _ _ _ _ _ (lv_sub hl [] rfl) S hf
  · replace hf := (if_neg c4).symm.trans hf
    refine g_aload_n X (or_rv _) dX9_multiplyNumbers_25 rfl (lv_at hl 0 rfl) ?_
    refine g_gR X S foX9_45 dX9_multiplyNumbers_26 hf (fun v29 hf => ?_)
    refine lv_iload_n X.1 X.2.1 dX9_multiplyNumbers_29 rfl (lv_at hl 1 rfl) ?_
    obtain ⟨v30, hc, hf⟩ := ob_some hf
    refine g_ci S (runV (As := [.int x1]) (rest := []) X S coX9_165 (by decide) (cX10_half_m l hc) (tkX10_half hc) rfl hl.1 (by decide) rfl ⟨Nat.zero_le _, Nat.zero_le _⟩ dX9_multiplyNumbers_30) (fun H locs S => ?_)
    refine lv_if_eq (tgt := 56) X.1 X.2.1 dX9_multiplyNumbers_33 (by decide) (fun c31 => ?_) (fun c31 => ?_)
    · replace hf := (if_pos c31).symm.trans hf
      obtain ⟨z32, ez32, hf⟩ := lt_some hf
      refine lv_iinc (v := z32) (lv' := [(1, .int z32), (0, rv x0)]) X.1 X.2.1 dX9_multiplyNumbers_56 hl (k := 1) rfl (by rw [← ez32]; rfl) (by decide) (by simp [List.filter, cat_rv, cat_wv, cat_sv]) (fun ls hl => ?_)
      refine lv_goto (tgt := 7) X.1 X.2.1 dX9_multiplyNumbers_59 (by decide) ?_
      exact hk7 _ _ _ _ _ _ (lv_sub hl [1, 0] rfl) S hf
    · replace hf := (if_neg c31).symm.trans hf
      refine g_aload_n X (or_rv _) dX9_multiplyNumbers_36 rfl (lv_at hl 0 rfl) ?_
      refine lv_iload_n X.1 X.2.1 dX9_multiplyNumbers_37 rfl (lv_at hl 1 rfl) ?_
      refine g_aload_n X (or_rv _) dX9_multiplyNumbers_38 rfl (lv_at hl 0 rfl) ?_
      refine g_gR X S foX9_45 dX9_multiplyNumbers_39 hf (fun v33 hf => ?_)
      refine lv_iload_n X.1 X.2.1 dX9_multiplyNumbers_42 rfl (lv_at hl 1 rfl) ?_
      obtain ⟨v34, hc, hf⟩ := ob_some hf
      refine g_ci S (runV (As := [.int x1]) (rest := [.int x1, rv x0]) X S coX9_165 (by decide) (cX10_half_m l hc) (tkX10_half hc) rfl hl.1 (by simp [cat_rv, cat_wv, cat_sv, cat_i, cat_l, cat_a]) rfl ⟨Nat.zero_le _, Nat.zero_le _⟩ dX9_multiplyNumbers_43) (fun H locs S => ?_)
      obtain ⟨h, hc, hf⟩ := ob_some hf
      refine g_cv S (runV (As := [.int x1, .int v34]) (rest := []) X S coX9_168 (by decide) (cX9_blameHalf_m l hc) (tkX9_blameHalf hc) rfl hl.1 (by decide) rfl ⟨Nat.zero_le _, Nat.zero_le _⟩ dX9_multiplyNumbers_46) (fun H locs S => ?_)
      refine g_aload_n X (or_rv _) dX9_multiplyNumbers_49 rfl (lv_at hl 0 rfl) ?_
      refine lv_iconst (v := 5) X.1 X.2.1 dX9_multiplyNumbers_50 (by decide) ?_
      refine lv_iconst (v := 0) X.1 X.2.1 dX9_multiplyNumbers_51 (by decide) ?_
      obtain ⟨v36, h, hc, hf⟩ := ob2_some hf
      refine g_ci S (runV (As := [.int 5, .int 0]) (rest := []) X S coX9_134 (by decide) (cX9_blame_m l hc) (tkX9_blame hc) rfl hl.1 (by decide) rfl ⟨Nat.zero_le _, Nat.zero_le _⟩ dX9_multiplyNumbers_52) (fun H locs S => ?_)
      cases hf; exact g_ri X S hr hlk dX9_multiplyNumbers_55
theorem wfX9_multiplyNumbers_7_l {r9 : Int32} {h9 : Hp} (X : Cx p E A 10 R s m args c cX9_multiplyNumbers yX9_multiplyNumbers.cls 2) (hr : meth.sig.returnType = (some .int)) (hlk : meth.locks = false) (hnm : meth.name = yX9_multiplyNumbers.name) :
    ∀ (n : Nat) (x0 : Nat) (x1 : Int32) (h : Hp) (H : Heap) (locs : List Loc) (ls : Array Slot), lv_has ls 2 [(0, rv x0), (1, .int x1)] → St E A s h H locs → lp (fun _ _ _ => none) (fX9_multiplyNumbers_7) n x0 x1 h = some (r9, h9) → W p l e R s m args below meth c H locs 0 0 (MQ below (Qi E A h9 r9) args s 0 0 A) (F0 m 7 ls []) := by
  intro n
  induction n with
  | zero =>
    intro x0 x1 h H locs ls hl S hf
    exact nomatch hf
  | succ n ih =>
    intro x0 x1 h H locs ls hl S hf
    exact wfX9_multiplyNumbers_7 X hr hlk hnm ih x0 x1 h H locs ls hl S hf
def fX9_multiplyNumbers (a0 : Nat) (h : Hp) : Option (Int32 × Hp) := gd 8 a0 h (ob (gI 8 a0 8 h) fun v1 => lt (2 * v1) fun z2 => lp (fun _ _ _ => none) (fX9_multiplyNumbers_7) FU a0 z2 h)
theorem tkX9_multiplyNumbers {a0 : Nat} {h : Hp} {r9 : Int32 × Hp} (e : fX9_multiplyNumbers a0 h = some r9) : hK h a0 = 8 := by
  unfold fX9_multiplyNumbers at e
  exact (gd_some e).1
theorem cX9_multiplyNumbers_m (l : Launch) {E : EE} {A : Nat → Prop} {a0 : Nat} {h : Hp} {r9 : Int32} {h9 : Hp} (hf : fX9_multiplyNumbers a0 h = some (r9, h9)) : Met l yX9_multiplyNumbers (wsM yX9_multiplyNumbers cX9_multiplyNumbers 2 (some .int)) (rmm 10 0 0) (PcE E A h [rv a0]) (Qi E A h9 r9) 0 0 A := by
  refine met_of (by decide +kernel) (by simp [lg_sl, cat_rv, cat_wv, cat_sv, cat_i, cat_l, cat_a]) (fun p e s m args below meth c ls X hr hlk hnm S hl => ?_)
  have hl : lv_has ls 2 [(0, rv a0)] := by simpa [lv_args, cat_rv, cat_wv, cat_sv, cat_i, cat_l, cat_a] using hl
  generalize hH : s.heap = H at S ⊢
  generalize hlo : ([] : List Loc) = locs at S ⊢
  clear hH hlo
  unfold fX9_multiplyNumbers at hf
  obtain ⟨hth, hf⟩ := gd_some hf
  refine lv_iconst (v := 2) X.1 X.2.1 dX9_multiplyNumbers_0 (by decide) ?_
  refine g_aload_n X (or_rv _) dX9_multiplyNumbers_1 rfl (lv_at hl 0 rfl) ?_
  refine g_gI X S foX9_106 rfl dX9_multiplyNumbers_2 hf (fun v1 hf => ?_)
  refine lv_imul X.1 X.2.1 dX9_multiplyNumbers_5 ?_
  refine g_lti hf (fun z2 hf => ?_)
  refine lv_istore_n (i := 1) (lv' := [(1, .int z2), (0, rv a0)]) X.1 X.2.1 dX9_multiplyNumbers_6 rfl hl (by decide) (by simp [List.filter, cat_rv, cat_wv, cat_sv]) (fun ls hl => ?_)
  exact wfX9_multiplyNumbers_7_l X hr hlk hnm FU _ _ _ _ _ _ (lv_sub hl [1, 0] rfl) S hf
def fX9_divideNumbers_102 (x0 : Nat) (h : Hp) : Option (Int32 × Hp) := ob2 (fX9_blame x0 7 0 h) fun v1 h => some (v1, h)
theorem wfX9_divideNumbers_102 {r9 : Int32} {h9 : Hp} (X : Cx p E A 10 R s m args c cX9_divideNumbers yX9_divideNumbers.cls 4) (hr : meth.sig.returnType = (some .int)) (hlk : meth.locks = false) (hnm : meth.name = yX9_divideNumbers.name) :
    ∀ (x0 : Nat) (h : Hp) (H : Heap) (locs : List Loc) (ls : Array Slot), lv_has ls 4 [(0, rv x0)] → St E A s h H locs → fX9_divideNumbers_102 x0 h = some (r9, h9) → W p l e R s m args below meth c H locs 0 0 (MQ below (Qi E A h9 r9) args s 0 0 A) (F0 m 102 ls []) := by
  intro x0 h H locs ls hl S hf
  unfold fX9_divideNumbers_102 at hf
  refine g_aload_n X (or_rv _) dX9_divideNumbers_102 rfl (lv_at hl 0 rfl) ?_
  refine lv_bipush (v := 7) X.1 X.2.1 dX9_divideNumbers_103 (by decide) ?_
  refine lv_iconst (v := 0) X.1 X.2.1 dX9_divideNumbers_105 (by decide) ?_
  obtain ⟨v1, h, hc, hf⟩ := ob2_some hf
  refine g_ci S (runV (As := [.int 7, .int 0]) (rest := []) X S coX9_134 (by decide) (cX9_blame_m l hc) (tkX9_blame hc) rfl hl.1 (by decide) rfl ⟨Nat.zero_le _, Nat.zero_le _⟩ dX9_divideNumbers_106) (fun H locs S => ?_)
  cases hf; exact g_ri X S hr hlk dX9_divideNumbers_109
def fX9_divideNumbers_196 (y0 : Int32) (y1 : Int32) (y2 : Int32) (y3 : Nat) (y4 : Nat) (h : Hp) : Option (Int32 × Hp) := ob (fX1_put y4 y3 y2 y1 y0 h) fun h => some (0, h)
theorem wfX9_divideNumbers_196 {r9 : Int32} {h9 : Hp} (X : Cx p E A 10 R s m args c cX9_divideNumbers yX9_divideNumbers.cls 4) (hr : meth.sig.returnType = (some .int)) (hlk : meth.locks = false) (hnm : meth.name = yX9_divideNumbers.name) :
    ∀ (y0 : Int32) (y1 : Int32) (y2 : Int32) (y3 : Nat) (y4 : Nat) (h : Hp) (H : Heap) (locs : List Loc) (ls : Array Slot), lv_has ls 4 [] → St E A s h H locs → fX9_divideNumbers_196 y0 y1 y2 y3 y4 h = some (r9, h9) → W p l e R s m args below meth c H locs 0 0 (MQ below (Qi E A h9 r9) args s 0 0 A) (F0 m 196 ls [.int y0, .int y1, .int y2, rv y3, rv y4]) := by
  intro y0 y1 y2 y3 y4 h H locs ls hl S hf
  unfold fX9_divideNumbers_196 at hf
  obtain ⟨h, hc, hf⟩ := ob_some hf
  refine g_cv S (runV (As := [rv y3, .int y2, .int y1, .int y0]) (rest := []) X S coX9_229 (by decide) (cX1_put_m l hc) (tkX1_put hc) rfl hl.1 (by decide) rfl ⟨Nat.zero_le _, Nat.zero_le _⟩ dX9_divideNumbers_196) (fun H locs S => ?_)
  refine lv_iconst (v := 0) X.1 X.2.1 dX9_divideNumbers_199 (by decide) ?_
  cases hf; exact g_ri X S hr hlk dX9_divideNumbers_200
def fX9_divideNumbers_147 (x0 : Nat) (x1 : Int32) (x2 : Int64) (y0 : Int32) (y1 : Int32) (y2 : Int32) (y3 : Nat) (y4 : Nat) (h : Hp) : Option (Int32 × Hp) := ob (fX1_put y4 y3 y2 y1 y0 h) fun h => ob (gR 8 x0 2 h) fun v2 => ob (fX1_takeNumber v2 x2 h) fun h => ob (gR 8 x0 2 h) fun v4 => ob (gR 8 x0 6 h) fun v5 => ob (gI 8 x0 8 h) fun v6 => ob (gR 8 x0 7 h) fun v7 => ob (gI 5 v7 6 h) fun v8 => ob (gR 8 x0 0 h) fun v9 => ob (fX1_below v9 h) fun v10 => if v10 = 0 then fX9_divideNumbers_196 12 v8 (v6 + x1) v5 v4 h else fX9_divideNumbers_196 13 v8 (v6 + x1) v5 v4 h
theorem wfX9_divideNumbers_147 {r9 : Int32} {h9 : Hp} (X : Cx p E A 10 R s m args c cX9_divideNumbers yX9_divideNumbers.cls 4) (hr : meth.sig.returnType = (some .int)) (hlk : meth.locks = false) (hnm : meth.name = yX9_divideNumbers.name) :
    ∀ (x0 : Nat) (x1 : Int32) (x2 : Int64) (y0 : Int32) (y1 : Int32) (y2 : Int32) (y3 : Nat) (y4 : Nat) (h : Hp) (H : Heap) (locs : List Loc) (ls : Array Slot), lv_has ls 4 [(0, rv x0), (1, .int x1), (2, .long x2)] → St E A s h H locs → fX9_divideNumbers_147 x0 x1 x2 y0 y1 y2 y3 y4 h = some (r9, h9) → W p l e R s m args below meth c H locs 0 0 (MQ below (Qi E A h9 r9) args s 0 0 A) (F0 m 147 ls [.int y0, .int y1, .int y2, rv y3, rv y4]) := by
  intro x0 x1 x2 y0 y1 y2 y3 y4 h H locs ls hl S hf
  unfold fX9_divideNumbers_147 at hf
  obtain ⟨h, hc, hf⟩ := ob_some hf
  refine g_cv S (runV (As := [rv y3, .int y2, .int y1, .int y0]) (rest := []) X S coX9_229 (by decide) (cX1_put_m l hc) (tkX1_put hc) rfl hl.1 (by decide) rfl ⟨Nat.zero_le _, Nat.zero_le _⟩ dX9_divideNumbers_147) (fun H locs S => ?_)
  refine g_aload_n X (or_rv _) dX9_divideNumbers_150 rfl (lv_at hl 0 rfl) ?_
  refine g_gR X S foX9_21 dX9_divideNumbers_151 hf (fun v2 hf => ?_)
  refine lv_lload_n X.1 X.2.1 dX9_divideNumbers_154 rfl (lv_at hl 2 rfl) ?_
  obtain ⟨h, hc, hf⟩ := ob_some hf
  refine g_cv S (runV (As := [.long x2]) (rest := []) X S coX9_222 (by decide) (cX1_takeNumber_m l hc) (tkX1_takeNumber hc) rfl hl.1 (by decide) rfl ⟨Nat.zero_le _, Nat.zero_le _⟩ dX9_divideNumbers_155) (fun H locs S => ?_)
  refine g_aload_n X (or_rv _) dX9_divideNumbers_158 rfl (lv_at hl 0 rfl) ?_
  refine g_gR X S foX9_21 dX9_divideNumbers_159 hf (fun v4 hf => ?_)
  refine g_aload_n X (or_rv _) dX9_divideNumbers_162 rfl (lv_at hl 0 rfl) ?_
  refine g_gR X S foX9_45 dX9_divideNumbers_163 hf (fun v5 hf => ?_)
  refine g_aload_n X (or_rv _) dX9_divideNumbers_166 rfl (lv_at hl 0 rfl) ?_
  refine g_gI X S foX9_106 rfl dX9_divideNumbers_167 hf (fun v6 hf => ?_)
  refine lv_iload_n X.1 X.2.1 dX9_divideNumbers_170 rfl (lv_at hl 1 rfl) ?_
  refine lv_iadd X.1 X.2.1 dX9_divideNumbers_171 ?_
  refine g_aload_n X (or_rv _) dX9_divideNumbers_172 rfl (lv_at hl 0 rfl) ?_
  refine g_gR X S foX9_52 dX9_divideNumbers_173 hf (fun v7 hf => ?_)
  refine g_gI X S foX9_124 rfl dX9_divideNumbers_176 hf (fun v8 hf => ?_)
  refine g_aload_n X (or_rv _) dX9_divideNumbers_179 rfl (lv_at hl 0 rfl) ?_
  refine g_gR X S foX9_12 dX9_divideNumbers_180 hf (fun v9 hf => ?_)
  obtain ⟨v10, hc, hf⟩ := ob_some hf
  refine g_ci S (runV (As := []) (rest := [.int v8, .int (v6 + x1), rv v5, rv v4]) X S coX9_262 (by decide) (cX1_below_m l hc) (tkX1_below hc) rfl hl.1 (by simp [cat_rv, cat_wv, cat_sv, cat_i, cat_l, cat_a]) rfl ⟨Nat.zero_le _, Nat.zero_le _⟩ dX9_divideNumbers_183) (fun H locs S => ?_)
  refine lv_if_eq (tgt := 194) X.1 X.2.1 dX9_divideNumbers_186 (by decide) (fun c11 => ?_) (fun c11 => ?_)
  · replace hf := (if_pos c11).symm.trans hf
    refine lv_bipush (v := 12) X.1 X.2.1 dX9_divideNumbers_194 (by decide) ?_
    exact wfX9_divideNumbers_196 X hr hlk hnm _ _ _ _ _ _ _ _ _ (lv_sub hl [] rfl) S hf
  · replace hf := (if_neg c11).symm.trans hf
    refine lv_bipush (v := 13) X.1 X.2.1 dX9_divideNumbers_189 (by decide) ?_
    refine lv_goto (tgt := 196) X.1 X.2.1 dX9_divideNumbers_191 (by decide) ?_
    exact wfX9_divideNumbers_196 X hr hlk hnm _ _ _ _ _ _ _ _ _ (lv_sub hl [] rfl) S hf
def fX9_divideNumbers (a0 : Nat) (h : Hp) : Option (Int32 × Hp) := gd 8 a0 h (ob (gR 8 a0 0 h) fun v1 => ob (gR 8 a0 6 h) fun v2 => ob (gI 8 a0 8 h) fun v3 => ob (gR 8 a0 7 h) fun v4 => ob (gI 5 v4 3 h) fun v5 => ob (fX1_takePacked v1 v2 v3 v5 h) fun h => ob (gR 8 a0 1 h) fun v7 => ob (gR 8 a0 6 h) fun v8 => ob (gI 8 a0 9 h) fun v9 => ob (gR 8 a0 7 h) fun v10 => ob (gI 5 v10 6 h) fun v11 => ob (fX1_takePacked v7 v8 v9 v11 h) fun h => ob (gR 8 a0 7 h) fun v13 => ob (gI 5 v13 3 h) fun v14 => ob (gR 8 a0 7 h) fun v15 => ob (gI 5 v15 6 h) fun v16 => lt (v14 - v16) fun z17 => ob (gR 8 a0 2 h) fun v18 => ob (gR 8 a0 0 h) fun v19 => ob (gR 8 a0 1 h) fun v20 => ob (fX1_magnitude v20 h) fun v21 => ob2 (fX1_divide v18 v19 v21 h) fun v22 h => if (lg_cmp v22 (-1)) = 0 then fX9_divideNumbers_102 a0 h else ob (gR 8 a0 2 h) fun v24 => ob (fX1_size v24 h) fun v25 => if v25 ≤ ((2 * z17) - 1) then ob (gR 8 a0 2 h) fun v27 => ob (gR 8 a0 6 h) fun v28 => ob (gI 8 a0 8 h) fun v29 => ob (gR 8 a0 0 h) fun v30 => ob (fX1_below v30 h) fun v31 => ob (gR 8 a0 1 h) fun v32 => ob (fX1_below v32 h) fun v33 => if v31 = v33 then fX9_divideNumbers_147 a0 z17 v22 12 z17 v29 v28 v27 h else fX9_divideNumbers_147 a0 z17 v22 13 z17 v29 v28 v27 h else fX9_divideNumbers_102 a0 h)
theorem tkX9_divideNumbers {a0 : Nat} {h : Hp} {r9 : Int32 × Hp} (e : fX9_divideNumbers a0 h = some r9) : hK h a0 = 8 := by
  unfold fX9_divideNumbers at e
  exact (gd_some e).1
theorem cX9_divideNumbers_m (l : Launch) {E : EE} {A : Nat → Prop} {a0 : Nat} {h : Hp} {r9 : Int32} {h9 : Hp} (hf : fX9_divideNumbers a0 h = some (r9, h9)) : Met l yX9_divideNumbers (wsM yX9_divideNumbers cX9_divideNumbers 4 (some .int)) (rmm 10 0 0) (PcE E A h [rv a0]) (Qi E A h9 r9) 0 0 A := by
  refine met_of (by decide +kernel) (by simp [lg_sl, cat_rv, cat_wv, cat_sv, cat_i, cat_l, cat_a]) (fun p e s m args below meth c ls X hr hlk hnm S hl => ?_)
  have hl : lv_has ls 4 [(0, rv a0)] := by simpa [lv_args, cat_rv, cat_wv, cat_sv, cat_i, cat_l, cat_a] using hl
  generalize hH : s.heap = H at S ⊢
  generalize hlo : ([] : List Loc) = locs at S ⊢
  clear hH hlo
  unfold fX9_divideNumbers at hf
  obtain ⟨hth, hf⟩ := gd_some hf
  refine g_aload_n X (or_rv _) dX9_divideNumbers_0 rfl (lv_at hl 0 rfl) ?_
  refine g_gR X S foX9_12 dX9_divideNumbers_1 hf (fun v1 hf => ?_)
  refine g_aload_n X (or_rv _) dX9_divideNumbers_4 rfl (lv_at hl 0 rfl) ?_
  refine g_gR X S foX9_45 dX9_divideNumbers_5 hf (fun v2 hf => ?_)
  refine g_aload_n X (or_rv _) dX9_divideNumbers_8 rfl (lv_at hl 0 rfl) ?_
  refine g_gI X S foX9_106 rfl dX9_divideNumbers_9 hf (fun v3 hf => ?_)
  refine g_aload_n X (or_rv _) dX9_divideNumbers_12 rfl (lv_at hl 0 rfl) ?_
  refine g_gR X S foX9_52 dX9_divideNumbers_13 hf (fun v4 hf => ?_)
  refine g_gI X S foX9_118 rfl dX9_divideNumbers_16 hf (fun v5 hf => ?_)
  obtain ⟨h, hc, hf⟩ := ob_some hf
  refine g_cv S (runV (As := [rv v2, .int v3, .int v5]) (rest := []) X S coX9_244 (by decide) (cX1_takePacked_m l hc) (tkX1_takePacked hc) rfl hl.1 (by decide) rfl ⟨Nat.zero_le _, Nat.zero_le _⟩ dX9_divideNumbers_19) (fun H locs S => ?_)
  refine g_aload_n X (or_rv _) dX9_divideNumbers_22 rfl (lv_at hl 0 rfl) ?_
  refine g_gR X S foX9_18 dX9_divideNumbers_23 hf (fun v7 hf => ?_)
  refine g_aload_n X (or_rv _) dX9_divideNumbers_26 rfl (lv_at hl 0 rfl) ?_
  refine g_gR X S foX9_45 dX9_divideNumbers_27 hf (fun v8 hf => ?_)
  refine g_aload_n X (or_rv _) dX9_divideNumbers_30 rfl (lv_at hl 0 rfl) ?_
  refine g_gI X S foX9_115 rfl dX9_divideNumbers_31 hf (fun v9 hf => ?_)
  refine g_aload_n X (or_rv _) dX9_divideNumbers_34 rfl (lv_at hl 0 rfl) ?_
  refine g_gR X S foX9_52 dX9_divideNumbers_35 hf (fun v10 hf => ?_)
  refine g_gI X S foX9_124 rfl dX9_divideNumbers_38 hf (fun v11 hf => ?_)
  obtain ⟨h, hc, hf⟩ := ob_some hf
  refine g_cv S (runV (As := [rv v8, .int v9, .int v11]) (rest := []) X S coX9_244 (by decide) (cX1_takePacked_m l hc) (tkX1_takePacked hc) rfl hl.1 (by decide) rfl ⟨Nat.zero_le _, Nat.zero_le _⟩ dX9_divideNumbers_41) (fun H locs S => ?_)
  refine g_aload_n X (or_rv _) dX9_divideNumbers_44 rfl (lv_at hl 0 rfl) ?_
  refine g_gR X S foX9_52 dX9_divideNumbers_45 hf (fun v13 hf => ?_)
  refine g_gI X S foX9_118 rfl dX9_divideNumbers_48 hf (fun v14 hf => ?_)
  refine g_aload_n X (or_rv _) dX9_divideNumbers_51 rfl (lv_at hl 0 rfl) ?_
  refine g_gR X S foX9_52 dX9_divideNumbers_52 hf (fun v15 hf => ?_)
  refine g_gI X S foX9_124 rfl dX9_divideNumbers_55 hf (fun v16 hf => ?_)
  refine lv_isub X.1 X.2.1 dX9_divideNumbers_58 ?_
  refine g_lti hf (fun z17 hf => ?_)
  refine lv_istore_n (i := 1) (lv' := [(1, .int z17), (0, rv a0)]) X.1 X.2.1 dX9_divideNumbers_59 rfl hl (by decide) (by simp [List.filter, cat_rv, cat_wv, cat_sv]) (fun ls hl => ?_)
  refine g_aload_n X (or_rv _) dX9_divideNumbers_60 rfl (lv_at hl 1 rfl) ?_
  refine g_gR X S foX9_21 dX9_divideNumbers_61 hf (fun v18 hf => ?_)
  refine g_aload_n X (or_rv _) dX9_divideNumbers_64 rfl (lv_at hl 1 rfl) ?_
  refine g_gR X S foX9_12 dX9_divideNumbers_65 hf (fun v19 hf => ?_)
  refine g_aload_n X (or_rv _) dX9_divideNumbers_68 rfl (lv_at hl 1 rfl) ?_
  refine g_gR X S foX9_18 dX9_divideNumbers_69 hf (fun v20 hf => ?_)
  obtain ⟨v21, hc, hf⟩ := ob_some hf
  refine g_cl S (runV (As := []) (rest := [rv v19, rv v18]) X S coX9_266 (by decide) (cX1_magnitude_m l hc) (tkX1_magnitude hc) rfl hl.1 (by simp [cat_rv, cat_wv, cat_sv, cat_i, cat_l, cat_a]) rfl ⟨Nat.zero_le _, Nat.zero_le _⟩ dX9_divideNumbers_72) (fun H locs S => ?_)
  obtain ⟨v22, h, hc, hf⟩ := ob2_some hf
  refine g_cl S (runV (As := [rv v19, .long v21]) (rest := []) X S coX9_270 (by decide) (cX1_divide_m l hc) (tkX1_divide hc) rfl hl.1 (by decide) rfl ⟨Nat.zero_le _, Nat.zero_le _⟩ dX9_divideNumbers_75) (fun H locs S => ?_)
  refine lv_lstore_n (i := 2) (lv' := [(2, .long v22), (1, .int z17), (0, rv a0)]) X.1 X.2.1 dX9_divideNumbers_78 rfl hl (by decide) rfl (fun ls hl => ?_)
  refine lv_lload_n X.1 X.2.1 dX9_divideNumbers_79 rfl (lv_at hl 0 rfl) ?_
  refine lv_ldc2 X.1 X.2.1 X.2.2.2.1 (X.2.2.1 _ kuX9_274) dX9_divideNumbers_80 ?_
  refine W.lcmp X.1 X.2.1 dX9_divideNumbers_83 ?_
  refine lv_if_eq (tgt := 102) X.1 X.2.1 dX9_divideNumbers_84 (by decide) (fun c23 => ?_) (fun c23 => ?_)
  · replace hf := (if_pos c23).symm.trans hf
    exact wfX9_divideNumbers_102 X hr hlk hnm _ _ _ _ _ (lv_sub hl [2] rfl) S hf
  · replace hf := (if_neg c23).symm.trans hf
    refine g_aload_n X (or_rv _) dX9_divideNumbers_87 rfl (lv_at hl 2 rfl) ?_
    refine g_gR X S foX9_21 dX9_divideNumbers_88 hf (fun v24 hf => ?_)
    obtain ⟨v25, hc, hf⟩ := ob_some hf
    refine g_ci S (runV (As := []) (rest := []) X S coX9_276 (by decide) (cX1_size_m l hc) (tkX1_size hc) rfl hl.1 (by decide) rfl ⟨Nat.zero_le _, Nat.zero_le _⟩ dX9_divideNumbers_91) (fun H locs S => ?_)
    refine lv_iconst (v := 2) X.1 X.2.1 dX9_divideNumbers_94 (by decide) ?_
    refine lv_iload_n X.1 X.2.1 dX9_divideNumbers_95 rfl (lv_at hl 1 rfl) ?_
    refine lv_imul X.1 X.2.1 dX9_divideNumbers_96 ?_
    refine lv_iconst (v := 1) X.1 X.2.1 dX9_divideNumbers_97 (by decide) ?_
    refine lv_isub X.1 X.2.1 dX9_divideNumbers_98 ?_
    refine lv_icmp_le (tgt := 110) X.1 X.2.1 dX9_divideNumbers_99 (by decide) (fun c26 => ?_) (fun c26 => ?_)
    · replace hf := (if_pos c26).symm.trans hf
      refine g_aload_n X (or_rv _) dX9_divideNumbers_110 rfl (lv_at hl 2 rfl) ?_
      refine g_gR X S foX9_21 dX9_divideNumbers_111 hf (fun v27 hf => ?_)
      refine g_aload_n X (or_rv _) dX9_divideNumbers_114 rfl (lv_at hl 2 rfl) ?_
      refine g_gR X S foX9_45 dX9_divideNumbers_115 hf (fun v28 hf => ?_)
      refine g_aload_n X (or_rv _) dX9_divideNumbers_118 rfl (lv_at hl 2 rfl) ?_
      refine g_gI X S foX9_106 rfl dX9_divideNumbers_119 hf (fun v29 hf => ?_)
      refine lv_iload_n X.1 X.2.1 dX9_divideNumbers_122 rfl (lv_at hl 1 rfl) ?_
      refine g_aload_n X (or_rv _) dX9_divideNumbers_123 rfl (lv_at hl 2 rfl) ?_
      refine g_gR X S foX9_12 dX9_divideNumbers_124 hf (fun v30 hf => ?_)
      obtain ⟨v31, hc, hf⟩ := ob_some hf
      refine g_ci S (runV (As := []) (rest := [.int z17, .int v29, rv v28, rv v27]) X S coX9_262 (by decide) (cX1_below_m l hc) (tkX1_below hc) rfl hl.1 (by simp [cat_rv, cat_wv, cat_sv, cat_i, cat_l, cat_a]) rfl ⟨Nat.zero_le _, Nat.zero_le _⟩ dX9_divideNumbers_127) (fun H locs S => ?_)
      refine g_aload_n X (or_rv _) dX9_divideNumbers_130 rfl (lv_at hl 2 rfl) ?_
      refine g_gR X S foX9_18 dX9_divideNumbers_131 hf (fun v32 hf => ?_)
      obtain ⟨v33, hc, hf⟩ := ob_some hf
      refine g_ci S (runV (As := []) (rest := [.int v31, .int z17, .int v29, rv v28, rv v27]) X S coX9_262 (by decide) (cX1_below_m l hc) (tkX1_below hc) rfl hl.1 (by simp [cat_rv, cat_wv, cat_sv, cat_i, cat_l, cat_a]) rfl ⟨Nat.zero_le _, Nat.zero_le _⟩ dX9_divideNumbers_134) (fun H locs S => ?_)
      refine lv_icmp_eq (tgt := 145) X.1 X.2.1 dX9_divideNumbers_137 (by decide) (fun c34 => ?_) (fun c34 => ?_)
      · replace hf := (if_pos c34).symm.trans hf
        refine lv_bipush (v := 12) X.1 X.2.1 dX9_divideNumbers_145 (by decide) ?_
        exact wfX9_divideNumbers_147 X hr hlk hnm _ _ _ _ _ _ _ _ _ _ _ _ (lv_sub hl [2, 1, 0] rfl) S hf
      · replace hf := (if_neg c34).symm.trans hf
        refine lv_bipush (v := 13) X.1 X.2.1 dX9_divideNumbers_140 (by decide) ?_
        refine lv_goto (tgt := 147) X.1 X.2.1 dX9_divideNumbers_142 (by decide) ?_
        exact wfX9_divideNumbers_147 X hr hlk hnm _ _ _ _ _ _ _ _ _ _ _ _ (lv_sub hl [2, 1, 0] rfl) S hf
    · replace hf := (if_neg c26).symm.trans hf
      exact wfX9_divideNumbers_102 X hr hlk hnm _ _ _ _ _ (lv_sub hl [2] rfl) S hf
def fX9_shiftNumber_79 (x0 : Nat) (h : Hp) : Option (Int32 × Hp) := ob2 (fX9_putResult x0 h) fun v1 h => some (v1, h)
theorem wfX9_shiftNumber_79 {r9 : Int32} {h9 : Hp} (X : Cx p E A 10 R s m args c cX9_shiftNumber yX9_shiftNumber.cls 1) (hr : meth.sig.returnType = (some .int)) (hlk : meth.locks = false) (hnm : meth.name = yX9_shiftNumber.name) :
    ∀ (x0 : Nat) (h : Hp) (H : Heap) (locs : List Loc) (ls : Array Slot), lv_has ls 1 [(0, rv x0)] → St E A s h H locs → fX9_shiftNumber_79 x0 h = some (r9, h9) → W p l e R s m args below meth c H locs 0 0 (MQ below (Qi E A h9 r9) args s 0 0 A) (F0 m 79 ls []) := by
  intro x0 h H locs ls hl S hf
  unfold fX9_shiftNumber_79 at hf
  refine g_aload_n X (or_rv _) dX9_shiftNumber_79 rfl (lv_at hl 0 rfl) ?_
  obtain ⟨v1, h, hc, hf⟩ := ob2_some hf
  refine g_ci S (runV (As := []) (rest := []) X S coX9_248 (by decide) (cX9_putResult_m l hc) (tkX9_putResult hc) rfl hl.1 (by decide) rfl ⟨Nat.zero_le _, Nat.zero_le _⟩ dX9_shiftNumber_80) (fun H locs S => ?_)
  cases hf; exact g_ri X S hr hlk dX9_shiftNumber_83
def fX9_shiftNumber (a0 : Nat) (h : Hp) : Option (Int32 × Hp) := gd 8 a0 h (ob (gR 8 a0 0 h) fun v1 => ob (gR 8 a0 6 h) fun v2 => ob (gI 8 a0 8 h) fun v3 => ob (gR 8 a0 7 h) fun v4 => ob (gI 5 v4 3 h) fun v5 => ob (fX1_takePacked v1 v2 v3 v5 h) fun h => ob (gR 8 a0 7 h) fun v7 => ob (gI 5 v7 8 h) fun v8 => if v8 < 0 then ob (gR 8 a0 2 h) fun v10 => ob (gR 8 a0 0 h) fun v11 => ob (gR 8 a0 7 h) fun v12 => ob (gI 5 v12 8 h) fun v13 => ob (gR 8 a0 7 h) fun v14 => ob (gI 5 v14 9 h) fun v15 => ob (fX1_shiftRight v10 v11 (-v13) v15 h) fun h => fX9_shiftNumber_79 a0 h else ob (gR 8 a0 2 h) fun v17 => ob (gR 8 a0 0 h) fun v18 => ob (gR 8 a0 7 h) fun v19 => ob (gI 5 v19 8 h) fun v20 => ob (fX1_shiftLeft v17 v18 v20 h) fun h => fX9_shiftNumber_79 a0 h)
theorem tkX9_shiftNumber {a0 : Nat} {h : Hp} {r9 : Int32 × Hp} (e : fX9_shiftNumber a0 h = some r9) : hK h a0 = 8 := by
  unfold fX9_shiftNumber at e
  exact (gd_some e).1
theorem cX9_shiftNumber_m (l : Launch) {E : EE} {A : Nat → Prop} {a0 : Nat} {h : Hp} {r9 : Int32} {h9 : Hp} (hf : fX9_shiftNumber a0 h = some (r9, h9)) : Met l yX9_shiftNumber (wsM yX9_shiftNumber cX9_shiftNumber 1 (some .int)) (rmm 10 0 0) (PcE E A h [rv a0]) (Qi E A h9 r9) 0 0 A := by
  refine met_of (by decide +kernel) (by simp [lg_sl, cat_rv, cat_wv, cat_sv, cat_i, cat_l, cat_a]) (fun p e s m args below meth c ls X hr hlk hnm S hl => ?_)
  have hl : lv_has ls 1 [(0, rv a0)] := by simpa [lv_args, cat_rv, cat_wv, cat_sv, cat_i, cat_l, cat_a] using hl
  generalize hH : s.heap = H at S ⊢
  generalize hlo : ([] : List Loc) = locs at S ⊢
  clear hH hlo
  unfold fX9_shiftNumber at hf
  obtain ⟨hth, hf⟩ := gd_some hf
  refine g_aload_n X (or_rv _) dX9_shiftNumber_0 rfl (lv_at hl 0 rfl) ?_
  refine g_gR X S foX9_12 dX9_shiftNumber_1 hf (fun v1 hf => ?_)
  refine g_aload_n X (or_rv _) dX9_shiftNumber_4 rfl (lv_at hl 0 rfl) ?_
  refine g_gR X S foX9_45 dX9_shiftNumber_5 hf (fun v2 hf => ?_)
  refine g_aload_n X (or_rv _) dX9_shiftNumber_8 rfl (lv_at hl 0 rfl) ?_
  refine g_gI X S foX9_106 rfl dX9_shiftNumber_9 hf (fun v3 hf => ?_)
  refine g_aload_n X (or_rv _) dX9_shiftNumber_12 rfl (lv_at hl 0 rfl) ?_
  refine g_gR X S foX9_52 dX9_shiftNumber_13 hf (fun v4 hf => ?_)
  refine g_gI X S foX9_118 rfl dX9_shiftNumber_16 hf (fun v5 hf => ?_)
  obtain ⟨h, hc, hf⟩ := ob_some hf
  refine g_cv S (runV (As := [rv v2, .int v3, .int v5]) (rest := []) X S coX9_244 (by decide) (cX1_takePacked_m l hc) (tkX1_takePacked hc) rfl hl.1 (by decide) rfl ⟨Nat.zero_le _, Nat.zero_le _⟩ dX9_shiftNumber_19) (fun H locs S => ?_)
  refine g_aload_n X (or_rv _) dX9_shiftNumber_22 rfl (lv_at hl 0 rfl) ?_
  refine g_gR X S foX9_52 dX9_shiftNumber_23 hf (fun v7 hf => ?_)
  refine g_gI X S foX9_235 rfl dX9_shiftNumber_26 hf (fun v8 hf => ?_)
  refine lv_if_lt (tgt := 53) X.1 X.2.1 dX9_shiftNumber_29 (by decide) (fun c9 => ?_) (fun c9 => ?_)
  · replace hf := (if_pos c9).symm.trans hf
    refine g_aload_n X (or_rv _) dX9_shiftNumber_53 rfl (lv_at hl 0 rfl) ?_
    refine g_gR X S foX9_21 dX9_shiftNumber_54 hf (fun v10 hf => ?_)
    refine g_aload_n X (or_rv _) dX9_shiftNumber_57 rfl (lv_at hl 0 rfl) ?_
    refine g_gR X S foX9_12 dX9_shiftNumber_58 hf (fun v11 hf => ?_)
    refine g_aload_n X (or_rv _) dX9_shiftNumber_61 rfl (lv_at hl 0 rfl) ?_
    refine g_gR X S foX9_52 dX9_shiftNumber_62 hf (fun v12 hf => ?_)
    refine g_gI X S foX9_235 rfl dX9_shiftNumber_65 hf (fun v13 hf => ?_)
    refine lv_ineg X.1 X.2.1 dX9_shiftNumber_68 ?_
    refine g_aload_n X (or_rv _) dX9_shiftNumber_69 rfl (lv_at hl 0 rfl) ?_
    refine g_gR X S foX9_52 dX9_shiftNumber_70 hf (fun v14 hf => ?_)
    refine g_gI X S foX9_281 rfl dX9_shiftNumber_73 hf (fun v15 hf => ?_)
    obtain ⟨h, hc, hf⟩ := ob_some hf
    refine g_cv S (runV (As := [rv v11, .int (-v13), .int v15]) (rest := []) X S coX9_284 (by decide) (cX1_shiftRight_m l hc) (tkX1_shiftRight hc) rfl hl.1 (by decide) rfl ⟨Nat.zero_le _, Nat.zero_le _⟩ dX9_shiftNumber_76) (fun H locs S => ?_)
    exact wfX9_shiftNumber_79 X hr hlk hnm _ _ _ _ _ hl S hf
  · replace hf := (if_neg c9).symm.trans hf
    refine g_aload_n X (or_rv _) dX9_shiftNumber_32 rfl (lv_at hl 0 rfl) ?_
    refine g_gR X S foX9_21 dX9_shiftNumber_33 hf (fun v17 hf => ?_)
    refine g_aload_n X (or_rv _) dX9_shiftNumber_36 rfl (lv_at hl 0 rfl) ?_
    refine g_gR X S foX9_12 dX9_shiftNumber_37 hf (fun v18 hf => ?_)
    refine g_aload_n X (or_rv _) dX9_shiftNumber_40 rfl (lv_at hl 0 rfl) ?_
    refine g_gR X S foX9_52 dX9_shiftNumber_41 hf (fun v19 hf => ?_)
    refine g_gI X S foX9_235 rfl dX9_shiftNumber_44 hf (fun v20 hf => ?_)
    obtain ⟨h, hc, hf⟩ := ob_some hf
    refine g_cv S (runV (As := [rv v18, .int v20]) (rest := []) X S coX9_277 (by decide) (cX1_shiftLeft_m l hc) (tkX1_shiftLeft hc) rfl hl.1 (by decide) rfl ⟨Nat.zero_le _, Nat.zero_le _⟩ dX9_shiftNumber_47) (fun H locs S => ?_)
    refine lv_goto (tgt := 79) X.1 X.2.1 dX9_shiftNumber_50 (by decide) ?_
    exact wfX9_shiftNumber_79 X hr hlk hnm _ _ _ _ _ hl S hf
def fX9_edited (a0 : Nat) (a1 : Int32) (a2 : Int32) (h : Hp) : Option (Int32 × Hp) := gd 8 a0 h (if a1 = 0 then ob (gR 8 a0 6 h) fun v2 => ob (gR 8 a0 3 h) fun v3 => ob (fX3_condition v3 h) fun v4 => ob (fX10_put v2 264 v4 h) fun h => if a2 = 0 then some (0, h) else ob (gR 8 a0 3 h) fun v7 => ob (fX3_marked v7 h) fun v8 => if v8 = (-1) then some (0, h) else ob (gR 8 a0 6 h) fun v10 => ob (gR 8 a0 3 h) fun v11 => ob (fX3_marked v11 h) fun v12 => ob (fX10_put v10 257 v12 h) fun h => some (0, h) else ob (gR 8 a0 3 h) fun v14 => ob (fX3_looked v14 h) fun v15 => ob (pI 8 a0 9 v15 h) fun h => ob (gI 8 a0 9 h) fun v16 => ob (gR 8 a0 3 h) fun v17 => ob (fX3_held v17 h) fun v18 => ob (fX9_blameHalf a0 (2 * v16) (v18 >>> ((4 : Int32) &&& 31)) h) fun h => ob2 (fX9_blame a0 a1 1 h) fun v20 h => ob (gR 8 a0 4 h) fun v21 => ob (qI v21 5 1 h) fun h => some (a1, h))
theorem tkX9_edited {a0 : Nat} {a1 : Int32} {a2 : Int32} {h : Hp} {r9 : Int32 × Hp} (e : fX9_edited a0 a1 a2 h = some r9) : hK h a0 = 8 := by
  unfold fX9_edited at e
  exact (gd_some e).1
theorem cX9_edited_m (l : Launch) {E : EE} {A : Nat → Prop} {a0 : Nat} {a1 : Int32} {a2 : Int32} {h : Hp} {r9 : Int32} {h9 : Hp} (hf : fX9_edited a0 a1 a2 h = some (r9, h9)) : Met l yX9_edited (wsM yX9_edited cX9_edited 3 (some .int)) (rmm 9 0 0) (PcE E A h [rv a0, .int a1, .int a2]) (Qi E A h9 r9) 0 0 A := by
  refine met_of (by decide +kernel) (by simp [lg_sl, cat_rv, cat_wv, cat_sv, cat_i, cat_l, cat_a]) (fun p e s m args below meth c ls X hr hlk hnm S hl => ?_)
  have hl : lv_has ls 3 [(0, rv a0), (1, .int a1), (2, .int a2)] := by simpa [lv_args, cat_rv, cat_wv, cat_sv, cat_i, cat_l, cat_a] using hl
  generalize hH : s.heap = H at S ⊢
  generalize hlo : ([] : List Loc) = locs at S ⊢
  clear hH hlo
  unfold fX9_edited at hf
  obtain ⟨hth, hf⟩ := gd_some hf
  refine lv_iload_n X.1 X.2.1 dX9_edited_0 rfl (lv_at hl 1 rfl) ?_
  refine lv_if_eq (tgt := 50) X.1 X.2.1 dX9_edited_1 (by decide) (fun c1 => ?_) (fun c1 => ?_)
  · replace hf := (if_pos c1).symm.trans hf
    refine g_aload_n X (or_rv _) dX9_edited_50 rfl (lv_at hl 0 rfl) ?_
    refine g_gR X S foX9_45 dX9_edited_51 hf (fun v2 hf => ?_)
    refine lv_sipush (v := 264) X.1 X.2.1 dX9_edited_54 (by decide) ?_
    refine g_aload_n X (or_rv _) dX9_edited_57 rfl (lv_at hl 0 rfl) ?_
    refine g_gR X S foX9_27 dX9_edited_58 hf (fun v3 hf => ?_)
    obtain ⟨v4, hc, hf⟩ := ob_some hf
    refine g_ci S (runV (As := []) (rest := [.int 264, rv v2]) X S coX9_293 (by decide) (cX3_condition_m l hc) (tkX3_condition hc) rfl hl.1 (by simp [cat_rv, cat_wv, cat_sv, cat_i, cat_l, cat_a]) rfl ⟨Nat.zero_le _, Nat.zero_le _⟩ dX9_edited_61) (fun H locs S => ?_)
    obtain ⟨h, hc, hf⟩ := ob_some hf
    refine g_cv S (runV (As := [.int 264, .int v4]) (rest := []) X S coX9_233 (by decide) (cX10_put_m l hc) (tkX10_put hc) rfl hl.1 (by decide) rfl ⟨Nat.zero_le _, Nat.zero_le _⟩ dX9_edited_64) (fun H locs S => ?_)
    refine lv_iload_n X.1 X.2.1 dX9_edited_67 rfl (lv_at hl 2 rfl) ?_
    refine lv_if_eq (tgt := 99) X.1 X.2.1 dX9_edited_68 (by decide) (fun c6 => ?_) (fun c6 => ?_)
    · replace hf := (if_pos c6).symm.trans hf
      refine lv_iconst (v := 0) X.1 X.2.1 dX9_edited_99 (by decide) ?_
      cases hf; exact g_ri X S hr hlk dX9_edited_100
    · replace hf := (if_neg c6).symm.trans hf
      refine g_aload_n X (or_rv _) dX9_edited_71 rfl (lv_at hl 0 rfl) ?_
      refine g_gR X S foX9_27 dX9_edited_72 hf (fun v7 hf => ?_)
      obtain ⟨v8, hc, hf⟩ := ob_some hf
      refine g_ci S (runV (As := []) (rest := []) X S coX9_296 (by decide) (cX3_marked_m l hc) (tkX3_marked hc) rfl hl.1 (by decide) rfl ⟨Nat.zero_le _, Nat.zero_le _⟩ dX9_edited_75) (fun H locs S => ?_)
      refine lv_iconst (v := (-1)) X.1 X.2.1 dX9_edited_78 (by decide) ?_
      refine lv_icmp_eq (tgt := 99) X.1 X.2.1 dX9_edited_79 (by decide) (fun c9 => ?_) (fun c9 => ?_)
      · replace hf := (if_pos c9).symm.trans hf
        refine lv_iconst (v := 0) X.1 X.2.1 dX9_edited_99 (by decide) ?_
        cases hf; exact g_ri X S hr hlk dX9_edited_100
      · replace hf := (if_neg c9).symm.trans hf
        refine g_aload_n X (or_rv _) dX9_edited_82 rfl (lv_at hl 0 rfl) ?_
        refine g_gR X S foX9_45 dX9_edited_83 hf (fun v10 hf => ?_)
        refine lv_sipush (v := 257) X.1 X.2.1 dX9_edited_86 (by decide) ?_
        refine g_aload_n X (or_rv _) dX9_edited_89 rfl (lv_at hl 0 rfl) ?_
        refine g_gR X S foX9_27 dX9_edited_90 hf (fun v11 hf => ?_)
        obtain ⟨v12, hc, hf⟩ := ob_some hf
        refine g_ci S (runV (As := []) (rest := [.int 257, rv v10]) X S coX9_296 (by decide) (cX3_marked_m l hc) (tkX3_marked hc) rfl hl.1 (by simp [cat_rv, cat_wv, cat_sv, cat_i, cat_l, cat_a]) rfl ⟨Nat.zero_le _, Nat.zero_le _⟩ dX9_edited_93) (fun H locs S => ?_)
        obtain ⟨h, hc, hf⟩ := ob_some hf
        refine g_cv S (runV (As := [.int 257, .int v12]) (rest := []) X S coX9_233 (by decide) (cX10_put_m l hc) (tkX10_put hc) rfl hl.1 (by decide) rfl ⟨Nat.zero_le _, Nat.zero_le _⟩ dX9_edited_96) (fun H locs S => ?_)
        refine lv_iconst (v := 0) X.1 X.2.1 dX9_edited_99 (by decide) ?_
        cases hf; exact g_ri X S hr hlk dX9_edited_100
  · replace hf := (if_neg c1).symm.trans hf
    refine g_aload_n X (or_rv _) dX9_edited_4 rfl (lv_at hl 0 rfl) ?_
    refine g_aload_n X (or_rv _) dX9_edited_5 rfl (lv_at hl 0 rfl) ?_
    refine g_gR X S foX9_27 dX9_edited_6 hf (fun v14 hf => ?_)
    obtain ⟨v15, hc, hf⟩ := ob_some hf
    refine g_ci S (runV (As := []) (rest := [rv a0]) X S coX9_288 (by decide) (cX3_looked_m l hc) (tkX3_looked hc) rfl hl.1 (by simp [cat_rv, cat_wv, cat_sv, cat_i, cat_l, cat_a]) rfl ⟨Nat.zero_le _, Nat.zero_le _⟩ dX9_edited_9) (fun H locs S => ?_)
    refine g_pI X S fpX9_115 (Or.inl rfl) dX9_edited_12 hf (fun h H locs hm hf S => ?_)
    refine g_aload_n X (or_rv _) dX9_edited_15 rfl (lv_at hl 0 rfl) ?_
    refine lv_iconst (v := 2) X.1 X.2.1 dX9_edited_16 (by decide) ?_
    refine g_aload_n X (or_rv _) dX9_edited_17 rfl (lv_at hl 0 rfl) ?_
    refine g_gI X S foX9_115 rfl dX9_edited_18 hf (fun v16 hf => ?_)
    refine lv_imul X.1 X.2.1 dX9_edited_21 ?_
    refine g_aload_n X (or_rv _) dX9_edited_22 rfl (lv_at hl 0 rfl) ?_
    refine g_gR X S foX9_27 dX9_edited_23 hf (fun v17 hf => ?_)
    obtain ⟨v18, hc, hf⟩ := ob_some hf
    refine g_ci S (runV (As := []) (rest := [.int (2 * v16), rv a0]) X S coX9_291 (by decide) (cX3_held_m l hc) (tkX3_held hc) rfl hl.1 (by simp [cat_rv, cat_wv, cat_sv, cat_i, cat_l, cat_a]) rfl ⟨Nat.zero_le _, Nat.zero_le _⟩ dX9_edited_26) (fun H locs S => ?_)
    refine lv_iconst (v := 4) X.1 X.2.1 dX9_edited_29 (by decide) ?_
    refine lv_ishr X.1 X.2.1 dX9_edited_30 ?_
    obtain ⟨h, hc, hf⟩ := ob_some hf
    refine g_cv S (runV (As := [.int (2 * v16), .int (v18 >>> ((4 : Int32) &&& 31))]) (rest := []) X S coX9_168 (by decide) (cX9_blameHalf_m l hc) (tkX9_blameHalf hc) rfl hl.1 (by decide) rfl ⟨Nat.zero_le _, Nat.zero_le _⟩ dX9_edited_31) (fun H locs S => ?_)
    refine g_aload_n X (or_rv _) dX9_edited_34 rfl (lv_at hl 0 rfl) ?_
    refine lv_iload_n X.1 X.2.1 dX9_edited_35 rfl (lv_at hl 1 rfl) ?_
    refine lv_iconst (v := 1) X.1 X.2.1 dX9_edited_36 (by decide) ?_
    obtain ⟨v20, h, hc, hf⟩ := ob2_some hf
    refine g_ci S (runV (As := [.int a1, .int 1]) (rest := []) X S coX9_134 (by decide) (cX9_blame_m l hc) (tkX9_blame hc) rfl hl.1 (by decide) rfl ⟨Nat.zero_le _, Nat.zero_le _⟩ dX9_edited_37) (fun H locs S => ?_)
    refine lv_pop X.1 X.2.1 dX9_edited_40 rfl ?_
    refine g_aload_n X (or_rv _) dX9_edited_41 rfl (lv_at hl 0 rfl) ?_
    refine g_gR X S foX9_31 dX9_edited_42 hf (fun v21 hf => ?_)
    refine lv_iconst (v := 5) X.1 X.2.1 dX9_edited_45 (by decide) ?_
    refine lv_iconst (v := 1) X.1 X.2.1 dX9_edited_46 (by decide) ?_
    refine g_qI X S dX9_edited_47 hf (fun h H locs hm hf S => ?_)
    refine lv_iload_n X.1 X.2.1 dX9_edited_48 rfl (lv_at hl 1 rfl) ?_
    cases hf; exact g_ri X S hr hlk dX9_edited_49
def fX9_toBinary (a0 : Nat) (h : Hp) : Option (Int32 × Hp) := gd 8 a0 h (ob (gR 8 a0 0 h) fun v1 => ob (gR 8 a0 6 h) fun v2 => ob (gI 8 a0 8 h) fun v3 => ob (gR 8 a0 7 h) fun v4 => ob (gI 5 v4 3 h) fun v5 => ob (fX1_takePacked v1 v2 v3 v5 h) fun h => ob (gR 8 a0 0 h) fun v7 => ob (fX1_value v7 h) fun v8 => if (lg_cmp v8 (Int32.toInt64 (Int64.toInt32 v8))) = 0 then ob (gR 8 a0 6 h) fun v10 => ob (gR 8 a0 7 h) fun v11 => ob (gI 5 v11 7 h) fun v12 => ob (fX10_put v10 (256 + v12) (Int64.toInt32 v8) h) fun h => some (0, h) else ob2 (fX9_blame a0 8 0 h) fun v14 h => some (v14, h))
theorem tkX9_toBinary {a0 : Nat} {h : Hp} {r9 : Int32 × Hp} (e : fX9_toBinary a0 h = some r9) : hK h a0 = 8 := by
  unfold fX9_toBinary at e
  exact (gd_some e).1
theorem cX9_toBinary_m (l : Launch) {E : EE} {A : Nat → Prop} {a0 : Nat} {h : Hp} {r9 : Int32} {h9 : Hp} (hf : fX9_toBinary a0 h = some (r9, h9)) : Met l yX9_toBinary (wsM yX9_toBinary cX9_toBinary 3 (some .int)) (rmm 10 0 0) (PcE E A h [rv a0]) (Qi E A h9 r9) 0 0 A := by
  refine met_of (by decide +kernel) (by simp [lg_sl, cat_rv, cat_wv, cat_sv, cat_i, cat_l, cat_a]) (fun p e s m args below meth c ls X hr hlk hnm S hl => ?_)
  have hl : lv_has ls 3 [(0, rv a0)] := by simpa [lv_args, cat_rv, cat_wv, cat_sv, cat_i, cat_l, cat_a] using hl
  generalize hH : s.heap = H at S ⊢
  generalize hlo : ([] : List Loc) = locs at S ⊢
  clear hH hlo
  unfold fX9_toBinary at hf
  obtain ⟨hth, hf⟩ := gd_some hf
  refine g_aload_n X (or_rv _) dX9_toBinary_0 rfl (lv_at hl 0 rfl) ?_
  refine g_gR X S foX9_12 dX9_toBinary_1 hf (fun v1 hf => ?_)
  refine g_aload_n X (or_rv _) dX9_toBinary_4 rfl (lv_at hl 0 rfl) ?_
  refine g_gR X S foX9_45 dX9_toBinary_5 hf (fun v2 hf => ?_)
  refine g_aload_n X (or_rv _) dX9_toBinary_8 rfl (lv_at hl 0 rfl) ?_
  refine g_gI X S foX9_106 rfl dX9_toBinary_9 hf (fun v3 hf => ?_)
  refine g_aload_n X (or_rv _) dX9_toBinary_12 rfl (lv_at hl 0 rfl) ?_
  refine g_gR X S foX9_52 dX9_toBinary_13 hf (fun v4 hf => ?_)
  refine g_gI X S foX9_118 rfl dX9_toBinary_16 hf (fun v5 hf => ?_)
  obtain ⟨h, hc, hf⟩ := ob_some hf
  refine g_cv S (runV (As := [rv v2, .int v3, .int v5]) (rest := []) X S coX9_244 (by decide) (cX1_takePacked_m l hc) (tkX1_takePacked hc) rfl hl.1 (by decide) rfl ⟨Nat.zero_le _, Nat.zero_le _⟩ dX9_toBinary_19) (fun H locs S => ?_)
  refine g_aload_n X (or_rv _) dX9_toBinary_22 rfl (lv_at hl 0 rfl) ?_
  refine g_gR X S foX9_12 dX9_toBinary_23 hf (fun v7 hf => ?_)
  obtain ⟨v8, hc, hf⟩ := ob_some hf
  refine g_cl S (runV (As := []) (rest := []) X S coX9_299 (by decide) (cX1_value_m l hc) (tkX1_value hc) rfl hl.1 (by decide) rfl ⟨Nat.zero_le _, Nat.zero_le _⟩ dX9_toBinary_26) (fun H locs S => ?_)
  refine lv_lstore_n (i := 1) (lv' := [(1, .long v8), (0, rv a0)]) X.1 X.2.1 dX9_toBinary_29 rfl hl (by decide) (by simp [List.filter, cat_rv, cat_wv, cat_sv]) (fun ls hl => ?_)
  refine lv_lload_n X.1 X.2.1 dX9_toBinary_30 rfl (lv_at hl 0 rfl) ?_
  refine lv_lload_n X.1 X.2.1 dX9_toBinary_31 rfl (lv_at hl 0 rfl) ?_
  refine lv_l2i (v := Int64.toInt32 v8) X.1 X.2.1 dX9_toBinary_32 rfl ?_
  refine lv_i2l (v := Int32.toInt64 (Int64.toInt32 v8)) X.1 X.2.1 dX9_toBinary_33 rfl ?_
  refine W.lcmp X.1 X.2.1 dX9_toBinary_34 ?_
  refine lv_if_eq (tgt := 46) X.1 X.2.1 dX9_toBinary_35 (by decide) (fun c9 => ?_) (fun c9 => ?_)
  · replace hf := (if_pos c9).symm.trans hf
    refine g_aload_n X (or_rv _) dX9_toBinary_46 rfl (lv_at hl 1 rfl) ?_
    refine g_gR X S foX9_45 dX9_toBinary_47 hf (fun v10 hf => ?_)
    refine lv_sipush (v := 256) X.1 X.2.1 dX9_toBinary_50 (by decide) ?_
    refine g_aload_n X (or_rv _) dX9_toBinary_53 rfl (lv_at hl 1 rfl) ?_
    refine g_gR X S foX9_52 dX9_toBinary_54 hf (fun v11 hf => ?_)
    refine g_gI X S foX9_219 rfl dX9_toBinary_57 hf (fun v12 hf => ?_)
    refine lv_iadd X.1 X.2.1 dX9_toBinary_60 ?_
    refine lv_lload_n X.1 X.2.1 dX9_toBinary_61 rfl (lv_at hl 0 rfl) ?_
    refine lv_l2i (v := Int64.toInt32 v8) X.1 X.2.1 dX9_toBinary_62 rfl ?_
    obtain ⟨h, hc, hf⟩ := ob_some hf
    refine g_cv S (runV (As := [.int (256 + v12), .int (Int64.toInt32 v8)]) (rest := []) X S coX9_233 (by decide) (cX10_put_m l hc) (tkX10_put hc) rfl hl.1 (by decide) rfl ⟨Nat.zero_le _, Nat.zero_le _⟩ dX9_toBinary_63) (fun H locs S => ?_)
    refine lv_iconst (v := 0) X.1 X.2.1 dX9_toBinary_66 (by decide) ?_
    cases hf; exact g_ri X S hr hlk dX9_toBinary_67
  · replace hf := (if_neg c9).symm.trans hf
    refine g_aload_n X (or_rv _) dX9_toBinary_38 rfl (lv_at hl 1 rfl) ?_
    refine lv_bipush (v := 8) X.1 X.2.1 dX9_toBinary_39 (by decide) ?_
    refine lv_iconst (v := 0) X.1 X.2.1 dX9_toBinary_41 (by decide) ?_
    obtain ⟨v14, h, hc, hf⟩ := ob2_some hf
    refine g_ci S (runV (As := [.int 8, .int 0]) (rest := []) X S coX9_134 (by decide) (cX9_blame_m l hc) (tkX9_blame hc) rfl hl.1 (by decide) rfl ⟨Nat.zero_le _, Nat.zero_le _⟩ dX9_toBinary_42) (fun H locs S => ?_)
    cases hf; exact g_ri X S hr hlk dX9_toBinary_45
def fX9_tested_49 (h : Hp) (k50 : Nat → Int32 → Int32 → Option (Int32)) (x0 : Nat) (x1 : Int32) : Option (Int32) := k50 x0 x1 0
theorem wfX9_tested_49 {h : Hp} {k50 : Nat → Int32 → Int32 → Option (Int32)} {r9 : Int32} (X : Cx p E A 9 R s m args c cX9_tested yX9_tested.cls 4) (hr : meth.sig.returnType = (some .int)) (hlk : meth.locks = false) (hnm : meth.name = yX9_tested.name) (hk50 : ∀ (x0 : Nat) (x1 : Int32) (y0 : Int32) (H : Heap) (locs : List Loc) (ls : Array Slot), lv_has ls 4 [(0, rv x0), (1, .int x1)] → St E A s h H locs → k50 x0 x1 y0 = some r9 → W p l e R s m args below meth c H locs 0 0 (MQ below (Qi E A h r9) args s 0 0 A) (F0 m 50 ls [.int y0])) :
    ∀ (x0 : Nat) (x1 : Int32) (H : Heap) (locs : List Loc) (ls : Array Slot), lv_has ls 4 [(0, rv x0), (1, .int x1)] → St E A s h H locs → fX9_tested_49 h k50 x0 x1 = some r9 → W p l e R s m args below meth c H locs 0 0 (MQ below (Qi E A h r9) args s 0 0 A) (F0 m 49 ls []) := by
  intro x0 x1 H locs ls hl S hf
  unfold fX9_tested_49 at hf
  refine lv_iconst (v := 0) X.1 X.2.1 dX9_tested_49 (by decide) ?_
  exact hk50 _ _ _ _ _ _ hl S hf
def fX9_tested_50 (h : Hp) (x0 : Nat) (x1 : Int32) (y0 : Int32) : Option (Int32) := ob (gR 8 x0 6 h) fun v1 => ob (fX10_half v1 x1 h) fun v2 => if v2 ≤ 9 then some (y0 + 1) else some y0
theorem wfX9_tested_50 {h : Hp} {r9 : Int32} (X : Cx p E A 9 R s m args c cX9_tested yX9_tested.cls 4) (hr : meth.sig.returnType = (some .int)) (hlk : meth.locks = false) (hnm : meth.name = yX9_tested.name) :
    ∀ (x0 : Nat) (x1 : Int32) (y0 : Int32) (H : Heap) (locs : List Loc) (ls : Array Slot), lv_has ls 4 [(0, rv x0), (1, .int x1)] → St E A s h H locs → fX9_tested_50 h x0 x1 y0 = some r9 → W p l e R s m args below meth c H locs 0 0 (MQ below (Qi E A h r9) args s 0 0 A) (F0 m 50 ls [.int y0]) := by
  intro x0 x1 y0 H locs ls hl S hf
  unfold fX9_tested_50 at hf
  refine lv_istore_n (i := 3) (lv' := [(3, .int y0), (0, rv x0), (1, .int x1)]) X.1 X.2.1 dX9_tested_50 rfl hl (by decide) rfl (fun ls hl => ?_)
  refine g_aload_n X (or_rv _) dX9_tested_51 rfl (lv_at hl 1 rfl) ?_
  refine g_gR X S foX9_45 dX9_tested_52 hf (fun v1 hf => ?_)
  refine lv_iload_n X.1 X.2.1 dX9_tested_55 rfl (lv_at hl 2 rfl) ?_
  obtain ⟨v2, hc, hf⟩ := ob_some hf
  refine g_ci S (runV (As := [.int x1]) (rest := []) X S coX9_165 (by decide) (cX10_half_m l hc) (tkX10_half hc) rfl hl.1 (by decide) rfl ⟨Nat.zero_le _, Nat.zero_le _⟩ dX9_tested_56) (fun H locs S => ?_)
  refine lv_bipush (v := 9) X.1 X.2.1 dX9_tested_59 (by decide) ?_
  refine lv_icmp_le (tgt := 68) X.1 X.2.1 dX9_tested_61 (by decide) (fun c3 => ?_) (fun c3 => ?_)
  · replace hf := (if_pos c3).symm.trans hf
    refine lv_iload_n X.1 X.2.1 dX9_tested_68 rfl (lv_at hl 0 rfl) ?_
    refine lv_iconst (v := 1) X.1 X.2.1 dX9_tested_69 (by decide) ?_
    refine lv_iadd X.1 X.2.1 dX9_tested_70 ?_
    cases hf; exact g_ri X S hr hlk dX9_tested_71
  · replace hf := (if_neg c3).symm.trans hf
    refine lv_iload_n X.1 X.2.1 dX9_tested_64 rfl (lv_at hl 0 rfl) ?_
    refine lv_goto (tgt := 71) X.1 X.2.1 dX9_tested_65 (by decide) ?_
    cases hf; exact g_ri X S hr hlk dX9_tested_71
def fX9_tested (a0 : Nat) (h : Hp) : Option (Int32) := gd 8 a0 h (ob (gI 8 a0 10 h) fun v1 => lt ((2 * v1) - 1) fun z2 => ob (gR 8 a0 6 h) fun v3 => ob (gI 8 a0 8 h) fun v4 => ob (gR 8 a0 7 h) fun v5 => ob (gI 5 v5 3 h) fun v6 => ob (gI 8 a0 8 h) fun v7 => ob (fX10_firstFlaw v3 v4 v6 0 (2 * v7) h) fun v8 => if v8 = (-1) then fX9_tested_49 h (fX9_tested_50 h) a0 z2 else if v8 = z2 then fX9_tested_49 h (fX9_tested_50 h) a0 z2 else fX9_tested_50 h a0 z2 2)
theorem tkX9_tested {a0 : Nat} {h : Hp} {r9 : Int32} (e : fX9_tested a0 h = some r9) : hK h a0 = 8 := by
  unfold fX9_tested at e
  exact (gd_some e).1
theorem cX9_tested_m (l : Launch) {E : EE} {A : Nat → Prop} {a0 : Nat} {h : Hp} {r9 : Int32} (hf : fX9_tested a0 h = some r9) : Met l yX9_tested (wsM yX9_tested cX9_tested 4 (some .int)) (rmm 9 0 0) (PcE E A h [rv a0]) (Qi E A h r9) 0 0 A := by
  refine met_of (by decide +kernel) (by simp [lg_sl, cat_rv, cat_wv, cat_sv, cat_i, cat_l, cat_a]) (fun p e s m args below meth c ls X hr hlk hnm S hl => ?_)
  have hl : lv_has ls 4 [(0, rv a0)] := by simpa [lv_args, cat_rv, cat_wv, cat_sv, cat_i, cat_l, cat_a] using hl
  generalize hH : s.heap = H at S ⊢
  generalize hlo : ([] : List Loc) = locs at S ⊢
  clear hH hlo
  unfold fX9_tested at hf
  obtain ⟨hth, hf⟩ := gd_some hf
  refine lv_iconst (v := 2) X.1 X.2.1 dX9_tested_0 (by decide) ?_
  refine g_aload_n X (or_rv _) dX9_tested_1 rfl (lv_at hl 0 rfl) ?_
  refine g_gI X S foX9_121 rfl dX9_tested_2 hf (fun v1 hf => ?_)
  refine lv_imul X.1 X.2.1 dX9_tested_5 ?_
  refine lv_iconst (v := 1) X.1 X.2.1 dX9_tested_6 (by decide) ?_
  refine lv_isub X.1 X.2.1 dX9_tested_7 ?_
  refine g_lti hf (fun z2 hf => ?_)
  refine lv_istore_n (i := 1) (lv' := [(1, .int z2), (0, rv a0)]) X.1 X.2.1 dX9_tested_8 rfl hl (by decide) (by simp [List.filter, cat_rv, cat_wv, cat_sv]) (fun ls hl => ?_)
  refine g_aload_n X (or_rv _) dX9_tested_9 rfl (lv_at hl 1 rfl) ?_
  refine g_gR X S foX9_45 dX9_tested_10 hf (fun v3 hf => ?_)
  refine g_aload_n X (or_rv _) dX9_tested_13 rfl (lv_at hl 1 rfl) ?_
  refine g_gI X S foX9_106 rfl dX9_tested_14 hf (fun v4 hf => ?_)
  refine g_aload_n X (or_rv _) dX9_tested_17 rfl (lv_at hl 1 rfl) ?_
  refine g_gR X S foX9_52 dX9_tested_18 hf (fun v5 hf => ?_)
  refine g_gI X S foX9_118 rfl dX9_tested_21 hf (fun v6 hf => ?_)
  refine lv_iconst (v := 0) X.1 X.2.1 dX9_tested_24 (by decide) ?_
  refine lv_iconst (v := 2) X.1 X.2.1 dX9_tested_25 (by decide) ?_
  refine g_aload_n X (or_rv _) dX9_tested_26 rfl (lv_at hl 1 rfl) ?_
  refine g_gI X S foX9_106 rfl dX9_tested_27 hf (fun v7 hf => ?_)
  refine lv_imul X.1 X.2.1 dX9_tested_30 ?_
  obtain ⟨v8, hc, hf⟩ := ob_some hf
  refine g_ci S (runV (As := [.int v4, .int v6, .int 0, .int (2 * v7)]) (rest := []) X S coX9_161 (by decide) (cX10_firstFlaw_m l hc) (tkX10_firstFlaw hc) rfl hl.1 (by decide) rfl ⟨Nat.zero_le _, Nat.zero_le _⟩ dX9_tested_31) (fun H locs S => ?_)
  refine lv_istore_n (i := 2) (lv' := [(2, .int v8), (1, .int z2), (0, rv a0)]) X.1 X.2.1 dX9_tested_34 rfl hl (by decide) rfl (fun ls hl => ?_)
  refine lv_iload_n X.1 X.2.1 dX9_tested_35 rfl (lv_at hl 0 rfl) ?_
  refine lv_iconst (v := (-1)) X.1 X.2.1 dX9_tested_36 (by decide) ?_
  refine lv_icmp_eq (tgt := 49) X.1 X.2.1 dX9_tested_37 (by decide) (fun c9 => ?_) (fun c9 => ?_)
  · replace hf := (if_pos c9).symm.trans hf
    exact wfX9_tested_49 X hr hlk hnm (wfX9_tested_50 X hr hlk hnm) _ _ _ _ _ (lv_sub hl [2, 1] rfl) S hf
  · replace hf := (if_neg c9).symm.trans hf
    refine lv_iload_n X.1 X.2.1 dX9_tested_40 rfl (lv_at hl 0 rfl) ?_
    refine lv_iload_n X.1 X.2.1 dX9_tested_41 rfl (lv_at hl 1 rfl) ?_
    refine lv_icmp_eq (tgt := 49) X.1 X.2.1 dX9_tested_42 (by decide) (fun c10 => ?_) (fun c10 => ?_)
    · replace hf := (if_pos c10).symm.trans hf
      exact wfX9_tested_49 X hr hlk hnm (wfX9_tested_50 X hr hlk hnm) _ _ _ _ _ (lv_sub hl [2, 1] rfl) S hf
    · replace hf := (if_neg c10).symm.trans hf
      refine lv_iconst (v := 2) X.1 X.2.1 dX9_tested_45 (by decide) ?_
      refine lv_goto (tgt := 50) X.1 X.2.1 dX9_tested_46 (by decide) ?_
      exact wfX9_tested_50 X hr hlk hnm _ _ _ _ _ _ (lv_sub hl [2, 1] rfl) S hf
def fX9_performPlain_205 (y0 : Int32) (y1 : Nat) (h : Hp) : Option (Int32 × Hp) := ob (pI 8 y1 12 y0 h) fun h => some (0, h)
theorem wfX9_performPlain_205 {r9 : Int32} {h9 : Hp} (X : Cx p E A 10 R s m args c cX9_performPlain yX9_performPlain.cls 3) (hr : meth.sig.returnType = (some .int)) (hlk : meth.locks = false) (hnm : meth.name = yX9_performPlain.name) :
    ∀ (y0 : Int32) (y1 : Nat) (h : Hp) (H : Heap) (locs : List Loc) (ls : Array Slot), lv_has ls 3 [] → St E A s h H locs → fX9_performPlain_205 y0 y1 h = some (r9, h9) → W p l e R s m args below meth c H locs 0 0 (MQ below (Qi E A h9 r9) args s 0 0 A) (F0 m 205 ls [.int y0, rv y1]) := by
  intro y0 y1 h H locs ls hl S hf
  unfold fX9_performPlain_205 at hf
  refine g_pI X S fpX9_72 (Or.inl rfl) dX9_performPlain_205 hf (fun h H locs hm hf S => ?_)
  refine lv_goto (tgt := 331) X.1 X.2.1 dX9_performPlain_208 (by decide) ?_
  refine lv_iconst (v := 0) X.1 X.2.1 dX9_performPlain_331 (by decide) ?_
  cases hf; exact g_ri X S hr hlk dX9_performPlain_332
def fX9_performPlain_250 (y0 : Int32) (y1 : Nat) (h : Hp) : Option (Int32 × Hp) := ob (pI 8 y1 12 y0 h) fun h => some (0, h)
theorem wfX9_performPlain_250 {r9 : Int32} {h9 : Hp} (X : Cx p E A 10 R s m args c cX9_performPlain yX9_performPlain.cls 3) (hr : meth.sig.returnType = (some .int)) (hlk : meth.locks = false) (hnm : meth.name = yX9_performPlain.name) :
    ∀ (y0 : Int32) (y1 : Nat) (h : Hp) (H : Heap) (locs : List Loc) (ls : Array Slot), lv_has ls 3 [] → St E A s h H locs → fX9_performPlain_250 y0 y1 h = some (r9, h9) → W p l e R s m args below meth c H locs 0 0 (MQ below (Qi E A h9 r9) args s 0 0 A) (F0 m 250 ls [.int y0, rv y1]) := by
  intro y0 y1 h H locs ls hl S hf
  unfold fX9_performPlain_250 at hf
  refine g_pI X S fpX9_72 (Or.inl rfl) dX9_performPlain_250 hf (fun h H locs hm hf S => ?_)
  refine lv_goto (tgt := 331) X.1 X.2.1 dX9_performPlain_253 (by decide) ?_
  refine lv_iconst (v := 0) X.1 X.2.1 dX9_performPlain_331 (by decide) ?_
  cases hf; exact g_ri X S hr hlk dX9_performPlain_332
def fX9_performPlain_320 (y0 : Int32) (y1 : Nat) (h : Hp) : Option (Int32 × Hp) := ob (pI 8 y1 12 y0 h) fun h => some (0, h)
theorem wfX9_performPlain_320 {r9 : Int32} {h9 : Hp} (X : Cx p E A 10 R s m args c cX9_performPlain yX9_performPlain.cls 3) (hr : meth.sig.returnType = (some .int)) (hlk : meth.locks = false) (hnm : meth.name = yX9_performPlain.name) :
    ∀ (y0 : Int32) (y1 : Nat) (h : Hp) (H : Heap) (locs : List Loc) (ls : Array Slot), lv_has ls 3 [] → St E A s h H locs → fX9_performPlain_320 y0 y1 h = some (r9, h9) → W p l e R s m args below meth c H locs 0 0 (MQ below (Qi E A h9 r9) args s 0 0 A) (F0 m 320 ls [.int y0, rv y1]) := by
  intro y0 y1 h H locs ls hl S hf
  unfold fX9_performPlain_320 at hf
  refine g_pI X S fpX9_72 (Or.inl rfl) dX9_performPlain_320 hf (fun h H locs hm hf S => ?_)
  refine lv_goto (tgt := 331) X.1 X.2.1 dX9_performPlain_323 (by decide) ?_
  refine lv_iconst (v := 0) X.1 X.2.1 dX9_performPlain_331 (by decide) ?_
  cases hf; exact g_ri X S hr hlk dX9_performPlain_332
def fX9_performPlain (a0 : Nat) (h : Hp) : Option (Int32 × Hp) := gd 8 a0 h (ob (gR 8 a0 7 h) fun v1 => ob (gI 5 v1 7 h) fun v2 => lt (256 + v2) fun z3 => ob (gR 8 a0 6 h) fun v4 => ob (fX10_cell v4 z3 h) fun v5 => ob (gR 8 a0 7 h) fun v7 => ob (gR 5 v7 0 h) fun v8 => ob (wdO v8) fun v9 => ob (smI v9) fun v10 => if v10 = 17 then ob (gR 8 a0 2 h) fun v12 => ob (fX1_takeNumber v12 (Int32.toInt64 v5) h) fun h => ob (gR 8 a0 2 h) fun v14 => ob (gR 8 a0 6 h) fun v15 => ob (gI 8 a0 8 h) fun v16 => ob (gR 8 a0 7 h) fun v17 => ob (gI 5 v17 3 h) fun v18 => ob (gR 8 a0 2 h) fun v19 => ob (fX1_sign v19 h) fun v20 => ob (fX1_put v14 v15 v16 v18 v20 h) fun h => some (0, h) else if v10 = 18 then ob (gR 8 a0 6 h) fun v23 => ob (gI 8 a0 8 h) fun v24 => ob (fX10_put v23 z3 v24 h) fun h => some (0, h) else if v10 = 19 then ob (gR 8 a0 6 h) fun v27 => ob (gR 8 a0 7 h) fun v28 => ob (gI 5 v28 8 h) fun v29 => ob (fX10_put v27 z3 (v5 + v29) h) fun h => some (0, h) else if v10 = 20 then ob (gR 8 a0 6 h) fun v32 => ob (fX9_tested a0 h) fun v33 => ob (fX10_put v32 264 v33 h) fun h => some (0, h) else if v10 = 21 then ob (gR 8 a0 6 h) fun v36 => ob (fX10_put v36 z3 (v5 - 1) h) fun h => if (v5 - 1) = 0 then ob (gI 8 a0 12 h) fun v39 => fX9_performPlain_205 v39 a0 h else ob (gR 8 a0 7 h) fun v40 => ob (gI 5 v40 10 h) fun v41 => fX9_performPlain_205 v41 a0 h else if v10 = 22 then ob (gR 8 a0 7 h) fun v43 => ob (gI 5 v43 8 h) fun v44 => ob (gR 8 a0 6 h) fun v45 => ob (fX10_cell v45 264 h) fun v46 => if (v44 &&& ((8 : Int32) >>> (v46 &&& 31))) = 0 then ob (gI 8 a0 12 h) fun v48 => fX9_performPlain_250 v48 a0 h else ob (gR 8 a0 7 h) fun v49 => ob (gI 5 v49 10 h) fun v50 => fX9_performPlain_250 v50 a0 h else if v10 = 23 then ob (gR 8 a0 6 h) fun v52 => ob (gR 8 a0 7 h) fun v53 => ob (gI 5 v53 8 h) fun v54 => ob (gR 8 a0 7 h) fun v55 => ob (gI 5 v55 10 h) fun v56 => ob (fX10_put v52 ((268 + v54) - 1) v56 h) fun h => some (0, h) else if v10 = 24 then ob (gR 8 a0 6 h) fun v59 => ob (fX10_cell v59 266 h) fun v60 => if v60 = (-1) then ob (gI 8 a0 12 h) fun v62 => fX9_performPlain_320 v62 a0 h else ob (gR 8 a0 6 h) fun v63 => ob (fX10_cell v63 266 h) fun v64 => fX9_performPlain_320 (v64 + 1) a0 h else ob (pZ 8 a0 13 1 h) fun h => some (0, h))
theorem tkX9_performPlain {a0 : Nat} {h : Hp} {r9 : Int32 × Hp} (e : fX9_performPlain a0 h = some r9) : hK h a0 = 8 := by
  unfold fX9_performPlain at e
  exact (gd_some e).1
theorem cX9_performPlain_m (l : Launch) {E : EE} {A : Nat → Prop} {a0 : Nat} {h : Hp} {r9 : Int32} {h9 : Hp} (hf : fX9_performPlain a0 h = some (r9, h9)) : Met l yX9_performPlain (wsM yX9_performPlain cX9_performPlain 3 (some .int)) (rmm 10 0 0) (PcE E A h [rv a0]) (Qi E A h9 r9) 0 0 A := by
  refine met_of (by decide +kernel) (by simp [lg_sl, cat_rv, cat_wv, cat_sv, cat_i, cat_l, cat_a]) (fun p e s m args below meth c ls X hr hlk hnm S hl => ?_)
  have hl : lv_has ls 3 [(0, rv a0)] := by simpa [lv_args, cat_rv, cat_wv, cat_sv, cat_i, cat_l, cat_a] using hl
  generalize hH : s.heap = H at S ⊢
  generalize hlo : ([] : List Loc) = locs at S ⊢
  clear hH hlo
  unfold fX9_performPlain at hf
  obtain ⟨hth, hf⟩ := gd_some hf
  refine lv_sipush (v := 256) X.1 X.2.1 dX9_performPlain_0 (by decide) ?_
  refine g_aload_n X (or_rv _) dX9_performPlain_3 rfl (lv_at hl 0 rfl) ?_
  refine g_gR X S foX9_52 dX9_performPlain_4 hf (fun v1 hf => ?_)
  refine g_gI X S foX9_219 rfl dX9_performPlain_7 hf (fun v2 hf => ?_)
  refine lv_iadd X.1 X.2.1 dX9_performPlain_10 ?_
  refine g_lti hf (fun z3 hf => ?_)
  refine lv_istore_n (i := 1) (lv' := [(1, .int z3), (0, rv a0)]) X.1 X.2.1 dX9_performPlain_11 rfl hl (by decide) (by simp [List.filter, cat_rv, cat_wv, cat_sv]) (fun ls hl => ?_)
  refine g_aload_n X (or_rv _) dX9_performPlain_12 rfl (lv_at hl 1 rfl) ?_
  refine g_gR X S foX9_45 dX9_performPlain_13 hf (fun v4 hf => ?_)
  refine lv_iload_n X.1 X.2.1 dX9_performPlain_16 rfl (lv_at hl 0 rfl) ?_
  obtain ⟨v5, hc, hf⟩ := ob_some hf
  refine g_ci S (runV (As := [.int z3]) (rest := []) X S coX9_64 (by decide) (cX10_cell_m l hc) (tkX10_cell hc) rfl hl.1 (by decide) rfl ⟨Nat.zero_le _, Nat.zero_le _⟩ dX9_performPlain_17) (fun H locs S => ?_)
  refine lv_istore_n (i := 2) (lv' := [(2, .int v5), (1, .int z3), (0, rv a0)]) X.1 X.2.1 dX9_performPlain_20 rfl hl (by decide) rfl (fun ls hl => ?_)
  refine g_getsm X S sfX9_153 dX9_performPlain_21 (fun q6 hq6 => ?_)
  refine g_aload_n X (or_rv _) dX9_performPlain_24 rfl (lv_at hl 2 rfl) ?_
  refine g_gR X S foX9_52 dX9_performPlain_25 hf (fun v7 hf => ?_)
  refine g_gW X S foX9_141 dX9_performPlain_28 hf (fun v8 hf => ?_)
  refine g_ord (rest := [.ref q6]) X S hl.1 (by decide) (by simp [cat_rv, cat_wv, cat_sv, cat_i, cat_l, cat_a]) jfX9_158 (Nat.zero_le _) (Nat.zero_le _) dX9_performPlain_31 hf (fun v9 H locs hf S => ?_)
  refine g_sm X S hq6 dX9_performPlain_34 hf (fun v10 hf => ?_)
  by_cases c11 : v10 = 17
  · replace hf := (if_pos c11).symm.trans hf
    refine lv_tableIn (tgt := 80) X.1 X.2.1 dX9_performPlain_35 (by rw [c11]; decide) (by rw [c11]; decide) (by rw [c11]; rfl) (by decide) ?_
    refine g_aload_n X (or_rv _) dX9_performPlain_80 rfl (lv_at hl 2 rfl) ?_
    refine g_gR X S foX9_21 dX9_performPlain_81 hf (fun v12 hf => ?_)
    refine lv_iload_n X.1 X.2.1 dX9_performPlain_84 rfl (lv_at hl 0 rfl) ?_
    refine lv_i2l (v := Int32.toInt64 v5) X.1 X.2.1 dX9_performPlain_85 rfl ?_
    obtain ⟨h, hc, hf⟩ := ob_some hf
    refine g_cv S (runV (As := [.long (Int32.toInt64 v5)]) (rest := []) X S coX9_222 (by decide) (cX1_takeNumber_m l hc) (tkX1_takeNumber hc) rfl hl.1 (by decide) rfl ⟨Nat.zero_le _, Nat.zero_le _⟩ dX9_performPlain_86) (fun H locs S => ?_)
    refine g_aload_n X (or_rv _) dX9_performPlain_89 rfl (lv_at hl 2 rfl) ?_
    refine g_gR X S foX9_21 dX9_performPlain_90 hf (fun v14 hf => ?_)
    refine g_aload_n X (or_rv _) dX9_performPlain_93 rfl (lv_at hl 2 rfl) ?_
    refine g_gR X S foX9_45 dX9_performPlain_94 hf (fun v15 hf => ?_)
    refine g_aload_n X (or_rv _) dX9_performPlain_97 rfl (lv_at hl 2 rfl) ?_
    refine g_gI X S foX9_106 rfl dX9_performPlain_98 hf (fun v16 hf => ?_)
    refine g_aload_n X (or_rv _) dX9_performPlain_101 rfl (lv_at hl 2 rfl) ?_
    refine g_gR X S foX9_52 dX9_performPlain_102 hf (fun v17 hf => ?_)
    refine g_gI X S foX9_118 rfl dX9_performPlain_105 hf (fun v18 hf => ?_)
    refine g_aload_n X (or_rv _) dX9_performPlain_108 rfl (lv_at hl 2 rfl) ?_
    refine g_gR X S foX9_21 dX9_performPlain_109 hf (fun v19 hf => ?_)
    obtain ⟨v20, hc, hf⟩ := ob_some hf
    refine g_ci S (runV (As := []) (rest := [.int v18, .int v16, rv v15, rv v14]) X S coX9_226 (by decide) (cX1_sign_m l hc) (tkX1_sign hc) rfl hl.1 (by simp [cat_rv, cat_wv, cat_sv, cat_i, cat_l, cat_a]) rfl ⟨Nat.zero_le _, Nat.zero_le _⟩ dX9_performPlain_112) (fun H locs S => ?_)
    obtain ⟨h, hc, hf⟩ := ob_some hf
    refine g_cv S (runV (As := [rv v15, .int v16, .int v18, .int v20]) (rest := []) X S coX9_229 (by decide) (cX1_put_m l hc) (tkX1_put hc) rfl hl.1 (by decide) rfl ⟨Nat.zero_le _, Nat.zero_le _⟩ dX9_performPlain_115) (fun H locs S => ?_)
    refine lv_goto (tgt := 331) X.1 X.2.1 dX9_performPlain_118 (by decide) ?_
    refine lv_iconst (v := 0) X.1 X.2.1 dX9_performPlain_331 (by decide) ?_
    cases hf; exact g_ri X S hr hlk dX9_performPlain_332
  replace hf := (if_neg c11).symm.trans hf
  by_cases c22 : v10 = 18
  · replace hf := (if_pos c22).symm.trans hf
    refine lv_tableIn (tgt := 121) X.1 X.2.1 dX9_performPlain_35 (by rw [c22]; decide) (by rw [c22]; decide) (by rw [c22]; rfl) (by decide) ?_
    refine g_aload_n X (or_rv _) dX9_performPlain_121 rfl (lv_at hl 2 rfl) ?_
    refine g_gR X S foX9_45 dX9_performPlain_122 hf (fun v23 hf => ?_)
    refine lv_iload_n X.1 X.2.1 dX9_performPlain_125 rfl (lv_at hl 1 rfl) ?_
    refine g_aload_n X (or_rv _) dX9_performPlain_126 rfl (lv_at hl 2 rfl) ?_
    refine g_gI X S foX9_106 rfl dX9_performPlain_127 hf (fun v24 hf => ?_)
    obtain ⟨h, hc, hf⟩ := ob_some hf
    refine g_cv S (runV (As := [.int z3, .int v24]) (rest := []) X S coX9_233 (by decide) (cX10_put_m l hc) (tkX10_put hc) rfl hl.1 (by decide) rfl ⟨Nat.zero_le _, Nat.zero_le _⟩ dX9_performPlain_130) (fun H locs S => ?_)
    refine lv_goto (tgt := 331) X.1 X.2.1 dX9_performPlain_133 (by decide) ?_
    refine lv_iconst (v := 0) X.1 X.2.1 dX9_performPlain_331 (by decide) ?_
    cases hf; exact g_ri X S hr hlk dX9_performPlain_332
  replace hf := (if_neg c22).symm.trans hf
  by_cases c26 : v10 = 19
  · replace hf := (if_pos c26).symm.trans hf
    refine lv_tableIn (tgt := 136) X.1 X.2.1 dX9_performPlain_35 (by rw [c26]; decide) (by rw [c26]; decide) (by rw [c26]; rfl) (by decide) ?_
    refine g_aload_n X (or_rv _) dX9_performPlain_136 rfl (lv_at hl 2 rfl) ?_
    refine g_gR X S foX9_45 dX9_performPlain_137 hf (fun v27 hf => ?_)
    refine lv_iload_n X.1 X.2.1 dX9_performPlain_140 rfl (lv_at hl 1 rfl) ?_
    refine lv_iload_n X.1 X.2.1 dX9_performPlain_141 rfl (lv_at hl 0 rfl) ?_
    refine g_aload_n X (or_rv _) dX9_performPlain_142 rfl (lv_at hl 2 rfl) ?_
    refine g_gR X S foX9_52 dX9_performPlain_143 hf (fun v28 hf => ?_)
    refine g_gI X S foX9_235 rfl dX9_performPlain_146 hf (fun v29 hf => ?_)
    refine lv_iadd X.1 X.2.1 dX9_performPlain_149 ?_
    obtain ⟨h, hc, hf⟩ := ob_some hf
    refine g_cv S (runV (As := [.int z3, .int (v5 + v29)]) (rest := []) X S coX9_233 (by decide) (cX10_put_m l hc) (tkX10_put hc) rfl hl.1 (by decide) rfl ⟨Nat.zero_le _, Nat.zero_le _⟩ dX9_performPlain_150) (fun H locs S => ?_)
    refine lv_goto (tgt := 331) X.1 X.2.1 dX9_performPlain_153 (by decide) ?_
    refine lv_iconst (v := 0) X.1 X.2.1 dX9_performPlain_331 (by decide) ?_
    cases hf; exact g_ri X S hr hlk dX9_performPlain_332
  replace hf := (if_neg c26).symm.trans hf
  by_cases c31 : v10 = 20
  · replace hf := (if_pos c31).symm.trans hf
    refine lv_tableIn (tgt := 156) X.1 X.2.1 dX9_performPlain_35 (by rw [c31]; decide) (by rw [c31]; decide) (by rw [c31]; rfl) (by decide) ?_
    refine g_aload_n X (or_rv _) dX9_performPlain_156 rfl (lv_at hl 2 rfl) ?_
    refine g_gR X S foX9_45 dX9_performPlain_157 hf (fun v32 hf => ?_)
    refine lv_sipush (v := 264) X.1 X.2.1 dX9_performPlain_160 (by decide) ?_
    refine g_aload_n X (or_rv _) dX9_performPlain_163 rfl (lv_at hl 2 rfl) ?_
    obtain ⟨v33, hc, hf⟩ := ob_some hf
    refine g_ci S (runV (As := []) (rest := [.int 264, rv v32]) X S coX9_238 (by decide) (cX9_tested_m l hc) (tkX9_tested hc) rfl hl.1 (by simp [cat_rv, cat_wv, cat_sv, cat_i, cat_l, cat_a]) rfl ⟨Nat.zero_le _, Nat.zero_le _⟩ dX9_performPlain_164) (fun H locs S => ?_)
    obtain ⟨h, hc, hf⟩ := ob_some hf
    refine g_cv S (runV (As := [.int 264, .int v33]) (rest := []) X S coX9_233 (by decide) (cX10_put_m l hc) (tkX10_put hc) rfl hl.1 (by decide) rfl ⟨Nat.zero_le _, Nat.zero_le _⟩ dX9_performPlain_167) (fun H locs S => ?_)
    refine lv_goto (tgt := 331) X.1 X.2.1 dX9_performPlain_170 (by decide) ?_
    refine lv_iconst (v := 0) X.1 X.2.1 dX9_performPlain_331 (by decide) ?_
    cases hf; exact g_ri X S hr hlk dX9_performPlain_332
  replace hf := (if_neg c31).symm.trans hf
  by_cases c35 : v10 = 21
  · replace hf := (if_pos c35).symm.trans hf
    refine lv_tableIn (tgt := 173) X.1 X.2.1 dX9_performPlain_35 (by rw [c35]; decide) (by rw [c35]; decide) (by rw [c35]; rfl) (by decide) ?_
    refine g_aload_n X (or_rv _) dX9_performPlain_173 rfl (lv_at hl 2 rfl) ?_
    refine g_gR X S foX9_45 dX9_performPlain_174 hf (fun v36 hf => ?_)
    refine lv_iload_n X.1 X.2.1 dX9_performPlain_177 rfl (lv_at hl 1 rfl) ?_
    refine lv_iload_n X.1 X.2.1 dX9_performPlain_178 rfl (lv_at hl 0 rfl) ?_
    refine lv_iconst (v := 1) X.1 X.2.1 dX9_performPlain_179 (by decide) ?_
    refine lv_isub X.1 X.2.1 dX9_performPlain_180 ?_
    obtain ⟨h, hc, hf⟩ := ob_some hf
    refine g_cv S (runV (As := [.int z3, .int (v5 - 1)]) (rest := []) X S coX9_233 (by decide) (cX10_put_m l hc) (tkX10_put hc) rfl hl.1 (by decide) rfl ⟨Nat.zero_le _, Nat.zero_le _⟩ dX9_performPlain_181) (fun H locs S => ?_)
    refine g_aload_n X (or_rv _) dX9_performPlain_184 rfl (lv_at hl 2 rfl) ?_
    refine lv_iload_n X.1 X.2.1 dX9_performPlain_185 rfl (lv_at hl 0 rfl) ?_
    refine lv_iconst (v := 1) X.1 X.2.1 dX9_performPlain_186 (by decide) ?_
    refine lv_isub X.1 X.2.1 dX9_performPlain_187 ?_
    refine lv_if_eq (tgt := 201) X.1 X.2.1 dX9_performPlain_188 (by decide) (fun c38 => ?_) (fun c38 => ?_)
    · replace hf := (if_pos c38).symm.trans hf
      refine g_aload_n X (or_rv _) dX9_performPlain_201 rfl (lv_at hl 2 rfl) ?_
      refine g_gI X S foX9_72 rfl dX9_performPlain_202 hf (fun v39 hf => ?_)
      exact wfX9_performPlain_205 X hr hlk hnm _ _ _ _ _ _ (lv_sub hl [] rfl) S hf
    · replace hf := (if_neg c38).symm.trans hf
      refine g_aload_n X (or_rv _) dX9_performPlain_191 rfl (lv_at hl 2 rfl) ?_
      refine g_gR X S foX9_52 dX9_performPlain_192 hf (fun v40 hf => ?_)
      refine g_gI X S foX9_241 rfl dX9_performPlain_195 hf (fun v41 hf => ?_)
      refine lv_goto (tgt := 205) X.1 X.2.1 dX9_performPlain_198 (by decide) ?_
      exact wfX9_performPlain_205 X hr hlk hnm _ _ _ _ _ _ (lv_sub hl [] rfl) S hf
  replace hf := (if_neg c35).symm.trans hf
  by_cases c42 : v10 = 22
  · replace hf := (if_pos c42).symm.trans hf
    refine lv_tableIn (tgt := 211) X.1 X.2.1 dX9_performPlain_35 (by rw [c42]; decide) (by rw [c42]; decide) (by rw [c42]; rfl) (by decide) ?_
    refine g_aload_n X (or_rv _) dX9_performPlain_211 rfl (lv_at hl 2 rfl) ?_
    refine g_aload_n X (or_rv _) dX9_performPlain_212 rfl (lv_at hl 2 rfl) ?_
    refine g_gR X S foX9_52 dX9_performPlain_213 hf (fun v43 hf => ?_)
    refine g_gI X S foX9_235 rfl dX9_performPlain_216 hf (fun v44 hf => ?_)
    refine lv_bipush (v := 8) X.1 X.2.1 dX9_performPlain_219 (by decide) ?_
    refine g_aload_n X (or_rv _) dX9_performPlain_221 rfl (lv_at hl 2 rfl) ?_
    refine g_gR X S foX9_45 dX9_performPlain_222 hf (fun v45 hf => ?_)
    refine lv_sipush (v := 264) X.1 X.2.1 dX9_performPlain_225 (by decide) ?_
    obtain ⟨v46, hc, hf⟩ := ob_some hf
    refine g_ci S (runV (As := [.int 264]) (rest := [.int 8, .int v44, rv a0]) X S coX9_64 (by decide) (cX10_cell_m l hc) (tkX10_cell hc) rfl hl.1 (by simp [cat_rv, cat_wv, cat_sv, cat_i, cat_l, cat_a]) rfl ⟨Nat.zero_le _, Nat.zero_le _⟩ dX9_performPlain_228) (fun H locs S => ?_)
    refine lv_ishr X.1 X.2.1 dX9_performPlain_231 ?_
    refine lv_iand X.1 X.2.1 dX9_performPlain_232 ?_
    refine lv_if_eq (tgt := 246) X.1 X.2.1 dX9_performPlain_233 (by decide) (fun c47 => ?_) (fun c47 => ?_)
    · replace hf := (if_pos c47).symm.trans hf
      refine g_aload_n X (or_rv _) dX9_performPlain_246 rfl (lv_at hl 2 rfl) ?_
      refine g_gI X S foX9_72 rfl dX9_performPlain_247 hf (fun v48 hf => ?_)
      exact wfX9_performPlain_250 X hr hlk hnm _ _ _ _ _ _ (lv_sub hl [] rfl) S hf
    · replace hf := (if_neg c47).symm.trans hf
      refine g_aload_n X (or_rv _) dX9_performPlain_236 rfl (lv_at hl 2 rfl) ?_
      refine g_gR X S foX9_52 dX9_performPlain_237 hf (fun v49 hf => ?_)
      refine g_gI X S foX9_241 rfl dX9_performPlain_240 hf (fun v50 hf => ?_)
      refine lv_goto (tgt := 250) X.1 X.2.1 dX9_performPlain_243 (by decide) ?_
      exact wfX9_performPlain_250 X hr hlk hnm _ _ _ _ _ _ (lv_sub hl [] rfl) S hf
  replace hf := (if_neg c42).symm.trans hf
  by_cases c51 : v10 = 23
  · replace hf := (if_pos c51).symm.trans hf
    refine lv_tableIn (tgt := 256) X.1 X.2.1 dX9_performPlain_35 (by rw [c51]; decide) (by rw [c51]; decide) (by rw [c51]; rfl) (by decide) ?_
    refine g_aload_n X (or_rv _) dX9_performPlain_256 rfl (lv_at hl 2 rfl) ?_
    refine g_gR X S foX9_45 dX9_performPlain_257 hf (fun v52 hf => ?_)
    refine lv_sipush (v := 268) X.1 X.2.1 dX9_performPlain_260 (by decide) ?_
    refine g_aload_n X (or_rv _) dX9_performPlain_263 rfl (lv_at hl 2 rfl) ?_
    refine g_gR X S foX9_52 dX9_performPlain_264 hf (fun v53 hf => ?_)
    refine g_gI X S foX9_235 rfl dX9_performPlain_267 hf (fun v54 hf => ?_)
    refine lv_iadd X.1 X.2.1 dX9_performPlain_270 ?_
    refine lv_iconst (v := 1) X.1 X.2.1 dX9_performPlain_271 (by decide) ?_
    refine lv_isub X.1 X.2.1 dX9_performPlain_272 ?_
    refine g_aload_n X (or_rv _) dX9_performPlain_273 rfl (lv_at hl 2 rfl) ?_
    refine g_gR X S foX9_52 dX9_performPlain_274 hf (fun v55 hf => ?_)
    refine g_gI X S foX9_241 rfl dX9_performPlain_277 hf (fun v56 hf => ?_)
    obtain ⟨h, hc, hf⟩ := ob_some hf
    refine g_cv S (runV (As := [.int ((268 + v54) - 1), .int v56]) (rest := []) X S coX9_233 (by decide) (cX10_put_m l hc) (tkX10_put hc) rfl hl.1 (by decide) rfl ⟨Nat.zero_le _, Nat.zero_le _⟩ dX9_performPlain_280) (fun H locs S => ?_)
    refine lv_goto (tgt := 331) X.1 X.2.1 dX9_performPlain_283 (by decide) ?_
    refine lv_iconst (v := 0) X.1 X.2.1 dX9_performPlain_331 (by decide) ?_
    cases hf; exact g_ri X S hr hlk dX9_performPlain_332
  replace hf := (if_neg c51).symm.trans hf
  by_cases c58 : v10 = 24
  · replace hf := (if_pos c58).symm.trans hf
    refine lv_tableIn (tgt := 286) X.1 X.2.1 dX9_performPlain_35 (by rw [c58]; decide) (by rw [c58]; decide) (by rw [c58]; rfl) (by decide) ?_
    refine g_aload_n X (or_rv _) dX9_performPlain_286 rfl (lv_at hl 2 rfl) ?_
    refine g_aload_n X (or_rv _) dX9_performPlain_287 rfl (lv_at hl 2 rfl) ?_
    refine g_gR X S foX9_45 dX9_performPlain_288 hf (fun v59 hf => ?_)
    refine lv_sipush (v := 266) X.1 X.2.1 dX9_performPlain_291 (by decide) ?_
    obtain ⟨v60, hc, hf⟩ := ob_some hf
    refine g_ci S (runV (As := [.int 266]) (rest := [rv a0]) X S coX9_64 (by decide) (cX10_cell_m l hc) (tkX10_cell hc) rfl hl.1 (by simp [cat_rv, cat_wv, cat_sv, cat_i, cat_l, cat_a]) rfl ⟨Nat.zero_le _, Nat.zero_le _⟩ dX9_performPlain_294) (fun H locs S => ?_)
    refine lv_iconst (v := (-1)) X.1 X.2.1 dX9_performPlain_297 (by decide) ?_
    refine lv_icmp_eq (tgt := 316) X.1 X.2.1 dX9_performPlain_298 (by decide) (fun c61 => ?_) (fun c61 => ?_)
    · replace hf := (if_pos c61).symm.trans hf
      refine g_aload_n X (or_rv _) dX9_performPlain_316 rfl (lv_at hl 2 rfl) ?_
      refine g_gI X S foX9_72 rfl dX9_performPlain_317 hf (fun v62 hf => ?_)
      exact wfX9_performPlain_320 X hr hlk hnm _ _ _ _ _ _ (lv_sub hl [] rfl) S hf
    · replace hf := (if_neg c61).symm.trans hf
      refine g_aload_n X (or_rv _) dX9_performPlain_301 rfl (lv_at hl 2 rfl) ?_
      refine g_gR X S foX9_45 dX9_performPlain_302 hf (fun v63 hf => ?_)
      refine lv_sipush (v := 266) X.1 X.2.1 dX9_performPlain_305 (by decide) ?_
      obtain ⟨v64, hc, hf⟩ := ob_some hf
      refine g_ci S (runV (As := [.int 266]) (rest := [rv a0]) X S coX9_64 (by decide) (cX10_cell_m l hc) (tkX10_cell hc) rfl hl.1 (by simp [cat_rv, cat_wv, cat_sv, cat_i, cat_l, cat_a]) rfl ⟨Nat.zero_le _, Nat.zero_le _⟩ dX9_performPlain_308) (fun H locs S => ?_)
      refine lv_iconst (v := 1) X.1 X.2.1 dX9_performPlain_311 (by decide) ?_
      refine lv_iadd X.1 X.2.1 dX9_performPlain_312 ?_
      refine lv_goto (tgt := 320) X.1 X.2.1 dX9_performPlain_313 (by decide) ?_
      exact wfX9_performPlain_320 X hr hlk hnm _ _ _ _ _ _ (lv_sub hl [] rfl) S hf
  replace hf := (if_neg c58).symm.trans hf
  refine lv_tableOut (tgt := 326) X.1 X.2.1 dX9_performPlain_35 (by have e0 := i32_ne c11 (n := 17) (by decide); have e1 := i32_ne c22 (n := 18) (by decide); have e2 := i32_ne c26 (n := 19) (by decide); have e3 := i32_ne c31 (n := 20) (by decide); have e4 := i32_ne c35 (n := 21) (by decide); have e5 := i32_ne c42 (n := 22) (by decide); have e6 := i32_ne c51 (n := 23) (by decide); have e7 := i32_ne c58 (n := 24) (by decide); omega) (by decide) ?_
  refine g_aload_n X (or_rv _) dX9_performPlain_326 rfl (lv_at hl 2 rfl) ?_
  refine lv_iconst (v := 1) X.1 X.2.1 dX9_performPlain_327 (by decide) ?_
  refine g_pZ X S fpX9_76 (Or.inl rfl) dX9_performPlain_328 hf (fun h H locs hm hf S => ?_)
  refine lv_iconst (v := 0) X.1 X.2.1 dX9_performPlain_331 (by decide) ?_
  cases hf; exact g_ri X S hr hlk dX9_performPlain_332
def fX9_perform (a0 : Nat) (h : Hp) : Option (Int32 × Hp) := gd 8 a0 h (ob (gR 8 a0 7 h) fun v1 => ob (gI 5 v1 3 h) fun v2 => ob (gR 8 a0 7 h) fun v3 => ob (gI 5 v3 6 h) fun v4 => ob (gR 8 a0 7 h) fun v6 => ob (gR 5 v6 0 h) fun v7 => ob (wdO v7) fun v8 => ob (smI v8) fun v9 => if v9 = 1 then ob2 (fX9_moveNumber a0 h) fun v11 h => some (v11, h) else if v9 = 2 then ob2 (fX9_addNumbers a0 0 h) fun v13 h => some (v13, h) else if v9 = 3 then ob2 (fX9_addNumbers a0 1 h) fun v15 h => some (v15, h) else if v9 = 4 then ob2 (fX9_multiplyNumbers a0 h) fun v17 h => some (v17, h) else if v9 = 5 then ob2 (fX9_divideNumbers a0 h) fun v19 h => some (v19, h) else if v9 = 6 then ob (gR 8 a0 6 h) fun v21 => ob (gI 8 a0 8 h) fun v22 => ob (gI 8 a0 9 h) fun v23 => ob (fX7_packBytes v21 v22 v2 v23 v4 h) fun h => some (0, h) else if v9 = 7 then ob (gR 8 a0 6 h) fun v26 => ob (gI 8 a0 8 h) fun v27 => ob (gI 8 a0 9 h) fun v28 => ob (fX7_unpackBytes v26 v27 v2 v28 v4 h) fun h => some (0, h) else if v9 = 8 then ob (gR 8 a0 6 h) fun v31 => ob (gI 8 a0 8 h) fun v32 => ob (gI 8 a0 9 h) fun v33 => ob (fX7_offsetBytes v31 v32 v2 v33 v4 h) fun h => some (0, h) else if v9 = 9 then ob (gR 8 a0 6 h) fun v36 => ob (gI 8 a0 8 h) fun v37 => ob (gI 8 a0 9 h) fun v38 => ob (fX7_copyBytes v36 v37 v2 v38 255 h) fun h => some (0, h) else if v9 = 10 then ob (gR 8 a0 6 h) fun v41 => ob (gI 8 a0 8 h) fun v42 => ob (gI 8 a0 9 h) fun v43 => ob (fX7_copyBytes v41 v42 v2 v43 15 h) fun h => some (0, h) else if v9 = 11 then ob (gR 8 a0 6 h) fun v46 => ob (gI 8 a0 8 h) fun v47 => ob (gI 8 a0 9 h) fun v48 => ob (fX7_copyBytes v46 v47 v2 v48 240 h) fun h => some (0, h) else if v9 = 12 then ob2 (fX9_compareNumbers a0 h) fun v51 h => some (v51, h) else if v9 = 13 then ob2 (fX9_shiftNumber a0 h) fun v53 h => some (v53, h) else if v9 = 14 then ob (gR 8 a0 3 h) fun v55 => ob (gR 8 a0 6 h) fun v56 => ob (gI 8 a0 8 h) fun v57 => ob (gI 8 a0 9 h) fun v58 => ob2 (fX3_edit v55 v56 v57 v2 v58 h) fun v59 h => ob2 (fX9_edited a0 v59 0 h) fun v60 h => some (v60, h) else if v9 = 15 then ob (gR 8 a0 3 h) fun v62 => ob (gR 8 a0 6 h) fun v63 => ob (gI 8 a0 8 h) fun v64 => ob (gI 8 a0 9 h) fun v65 => ob2 (fX3_edit v62 v63 v64 v2 v65 h) fun v66 h => ob2 (fX9_edited a0 v66 1 h) fun v67 h => some (v67, h) else if v9 = 16 then ob2 (fX9_toBinary a0 h) fun v69 h => some (v69, h) else ob2 (fX9_performPlain a0 h) fun v70 h => some (v70, h))
theorem tkX9_perform {a0 : Nat} {h : Hp} {r9 : Int32 × Hp} (e : fX9_perform a0 h = some r9) : hK h a0 = 8 := by
  unfold fX9_perform at e
  exact (gd_some e).1
theorem cX9_perform_m (l : Launch) {E : EE} {A : Nat → Prop} {a0 : Nat} {h : Hp} {r9 : Int32} {h9 : Hp} (hf : fX9_perform a0 h = some (r9, h9)) : Met l yX9_perform (wsM yX9_perform cX9_perform 3 (some .int)) (rmm 11 0 0) (PcE E A h [rv a0]) (Qi E A h9 r9) 0 0 A := by
  refine met_of (by decide +kernel) (by simp [lg_sl, cat_rv, cat_wv, cat_sv, cat_i, cat_l, cat_a]) (fun p e s m args below meth c ls X hr hlk hnm S hl => ?_)
  have hl : lv_has ls 3 [(0, rv a0)] := by simpa [lv_args, cat_rv, cat_wv, cat_sv, cat_i, cat_l, cat_a] using hl
  generalize hH : s.heap = H at S ⊢
  generalize hlo : ([] : List Loc) = locs at S ⊢
  clear hH hlo
  unfold fX9_perform at hf
  obtain ⟨hth, hf⟩ := gd_some hf
  refine g_aload_n X (or_rv _) dX9_perform_0 rfl (lv_at hl 0 rfl) ?_
  refine g_gR X S foX9_52 dX9_perform_1 hf (fun v1 hf => ?_)
  refine g_gI X S foX9_118 rfl dX9_perform_4 hf (fun v2 hf => ?_)
  refine lv_istore_n (i := 1) (lv' := [(1, .int v2), (0, rv a0)]) X.1 X.2.1 dX9_perform_7 rfl hl (by decide) (by simp [List.filter, cat_rv, cat_wv, cat_sv]) (fun ls hl => ?_)
  refine g_aload_n X (or_rv _) dX9_perform_8 rfl (lv_at hl 1 rfl) ?_
  refine g_gR X S foX9_52 dX9_perform_9 hf (fun v3 hf => ?_)
  refine g_gI X S foX9_124 rfl dX9_perform_12 hf (fun v4 hf => ?_)
  refine lv_istore_n (i := 2) (lv' := [(2, .int v4), (1, .int v2), (0, rv a0)]) X.1 X.2.1 dX9_perform_15 rfl hl (by decide) rfl (fun ls hl => ?_)
  refine g_getsm X S sfX9_153 dX9_perform_16 (fun q5 hq5 => ?_)
  refine g_aload_n X (or_rv _) dX9_perform_19 rfl (lv_at hl 2 rfl) ?_
  refine g_gR X S foX9_52 dX9_perform_20 hf (fun v6 hf => ?_)
  refine g_gW X S foX9_141 dX9_perform_23 hf (fun v7 hf => ?_)
  refine g_ord (rest := [.ref q5]) X S hl.1 (by decide) (by simp [cat_rv, cat_wv, cat_sv, cat_i, cat_l, cat_a]) jfX9_158 (Nat.zero_le _) (Nat.zero_le _) dX9_perform_26 hf (fun v8 H locs hf S => ?_)
  refine g_sm X S hq5 dX9_perform_29 hf (fun v9 hf => ?_)
  by_cases c10 : v9 = 1
  · replace hf := (if_pos c10).symm.trans hf
    refine lv_tableIn (tgt := 227) X.1 X.2.1 dX9_perform_30 (by rw [c10]; decide) (by rw [c10]; decide) (by rw [c10]; rfl) (by decide) ?_
    refine g_aload_n X (or_rv _) dX9_perform_227 rfl (lv_at hl 2 rfl) ?_
    obtain ⟨v11, h, hc, hf⟩ := ob2_some hf
    refine g_ci S (runV (As := []) (rest := []) X S coX9_186 (by decide) (cX9_moveNumber_m l hc) (tkX9_moveNumber hc) rfl hl.1 (by decide) rfl ⟨Nat.zero_le _, Nat.zero_le _⟩ dX9_perform_228) (fun H locs S => ?_)
    cases hf; exact g_ri X S hr hlk dX9_perform_231
  replace hf := (if_neg c10).symm.trans hf
  by_cases c12 : v9 = 2
  · replace hf := (if_pos c12).symm.trans hf
    refine lv_tableIn (tgt := 232) X.1 X.2.1 dX9_perform_30 (by rw [c12]; decide) (by rw [c12]; decide) (by rw [c12]; rfl) (by decide) ?_
    refine g_aload_n X (or_rv _) dX9_perform_232 rfl (lv_at hl 2 rfl) ?_
    refine lv_iconst (v := 0) X.1 X.2.1 dX9_perform_233 (by decide) ?_
    obtain ⟨v13, h, hc, hf⟩ := ob2_some hf
    refine g_ci S (runV (As := [.int 0]) (rest := []) X S coX9_189 (by decide) (cX9_addNumbers_m l hc) (tkX9_addNumbers hc) rfl hl.1 (by decide) rfl ⟨Nat.zero_le _, Nat.zero_le _⟩ dX9_perform_234) (fun H locs S => ?_)
    cases hf; exact g_ri X S hr hlk dX9_perform_237
  replace hf := (if_neg c12).symm.trans hf
  by_cases c14 : v9 = 3
  · replace hf := (if_pos c14).symm.trans hf
    refine lv_tableIn (tgt := 238) X.1 X.2.1 dX9_perform_30 (by rw [c14]; decide) (by rw [c14]; decide) (by rw [c14]; rfl) (by decide) ?_
    refine g_aload_n X (or_rv _) dX9_perform_238 rfl (lv_at hl 2 rfl) ?_
    refine lv_iconst (v := 1) X.1 X.2.1 dX9_perform_239 (by decide) ?_
    obtain ⟨v15, h, hc, hf⟩ := ob2_some hf
    refine g_ci S (runV (As := [.int 1]) (rest := []) X S coX9_189 (by decide) (cX9_addNumbers_m l hc) (tkX9_addNumbers hc) rfl hl.1 (by decide) rfl ⟨Nat.zero_le _, Nat.zero_le _⟩ dX9_perform_240) (fun H locs S => ?_)
    cases hf; exact g_ri X S hr hlk dX9_perform_243
  replace hf := (if_neg c14).symm.trans hf
  by_cases c16 : v9 = 4
  · replace hf := (if_pos c16).symm.trans hf
    refine lv_tableIn (tgt := 249) X.1 X.2.1 dX9_perform_30 (by rw [c16]; decide) (by rw [c16]; decide) (by rw [c16]; rfl) (by decide) ?_
    refine g_aload_n X (or_rv _) dX9_perform_249 rfl (lv_at hl 2 rfl) ?_
    obtain ⟨v17, h, hc, hf⟩ := ob2_some hf
    refine g_ci S (runV (As := []) (rest := []) X S coX9_196 (by decide) (cX9_multiplyNumbers_m l hc) (tkX9_multiplyNumbers hc) rfl hl.1 (by decide) rfl ⟨Nat.zero_le _, Nat.zero_le _⟩ dX9_perform_250) (fun H locs S => ?_)
    cases hf; exact g_ri X S hr hlk dX9_perform_253
  replace hf := (if_neg c16).symm.trans hf
  by_cases c18 : v9 = 5
  · replace hf := (if_pos c18).symm.trans hf
    refine lv_tableIn (tgt := 254) X.1 X.2.1 dX9_perform_30 (by rw [c18]; decide) (by rw [c18]; decide) (by rw [c18]; rfl) (by decide) ?_
    refine g_aload_n X (or_rv _) dX9_perform_254 rfl (lv_at hl 2 rfl) ?_
    obtain ⟨v19, h, hc, hf⟩ := ob2_some hf
    refine g_ci S (runV (As := []) (rest := []) X S coX9_199 (by decide) (cX9_divideNumbers_m l hc) (tkX9_divideNumbers hc) rfl hl.1 (by decide) rfl ⟨Nat.zero_le _, Nat.zero_le _⟩ dX9_perform_255) (fun H locs S => ?_)
    cases hf; exact g_ri X S hr hlk dX9_perform_258
  replace hf := (if_neg c18).symm.trans hf
  by_cases c20 : v9 = 6
  · replace hf := (if_pos c20).symm.trans hf
    refine lv_tableIn (tgt := 108) X.1 X.2.1 dX9_perform_30 (by rw [c20]; decide) (by rw [c20]; decide) (by rw [c20]; rfl) (by decide) ?_
    refine g_aload_n X (or_rv _) dX9_perform_108 rfl (lv_at hl 2 rfl) ?_
    refine g_gR X S foX9_45 dX9_perform_109 hf (fun v21 hf => ?_)
    refine g_aload_n X (or_rv _) dX9_perform_112 rfl (lv_at hl 2 rfl) ?_
    refine g_gI X S foX9_106 rfl dX9_perform_113 hf (fun v22 hf => ?_)
    refine lv_iload_n X.1 X.2.1 dX9_perform_116 rfl (lv_at hl 1 rfl) ?_
    refine g_aload_n X (or_rv _) dX9_perform_117 rfl (lv_at hl 2 rfl) ?_
    refine g_gI X S foX9_115 rfl dX9_perform_118 hf (fun v23 hf => ?_)
    refine lv_iload_n X.1 X.2.1 dX9_perform_121 rfl (lv_at hl 0 rfl) ?_
    obtain ⟨h, hc, hf⟩ := ob_some hf
    refine g_cv S (runS (As := [rv v21, .int v22, .int v2, .int v23, .int v4]) (rest := []) X S coX9_171 (by decide) (cX7_packBytes_m l hc) rfl hl.1 (by decide) rfl ⟨Nat.zero_le _, Nat.zero_le _⟩ dX9_perform_122) (fun H locs S => ?_)
    refine lv_iconst (v := 0) X.1 X.2.1 dX9_perform_125 (by decide) ?_
    cases hf; exact g_ri X S hr hlk dX9_perform_126
  replace hf := (if_neg c20).symm.trans hf
  by_cases c25 : v9 = 7
  · replace hf := (if_pos c25).symm.trans hf
    refine lv_tableIn (tgt := 127) X.1 X.2.1 dX9_perform_30 (by rw [c25]; decide) (by rw [c25]; decide) (by rw [c25]; rfl) (by decide) ?_
    refine g_aload_n X (or_rv _) dX9_perform_127 rfl (lv_at hl 2 rfl) ?_
    refine g_gR X S foX9_45 dX9_perform_128 hf (fun v26 hf => ?_)
    refine g_aload_n X (or_rv _) dX9_perform_131 rfl (lv_at hl 2 rfl) ?_
    refine g_gI X S foX9_106 rfl dX9_perform_132 hf (fun v27 hf => ?_)
    refine lv_iload_n X.1 X.2.1 dX9_perform_135 rfl (lv_at hl 1 rfl) ?_
    refine g_aload_n X (or_rv _) dX9_perform_136 rfl (lv_at hl 2 rfl) ?_
    refine g_gI X S foX9_115 rfl dX9_perform_137 hf (fun v28 hf => ?_)
    refine lv_iload_n X.1 X.2.1 dX9_perform_140 rfl (lv_at hl 0 rfl) ?_
    obtain ⟨h, hc, hf⟩ := ob_some hf
    refine g_cv S (runS (As := [rv v26, .int v27, .int v2, .int v28, .int v4]) (rest := []) X S coX9_177 (by decide) (cX7_unpackBytes_m l hc) rfl hl.1 (by decide) rfl ⟨Nat.zero_le _, Nat.zero_le _⟩ dX9_perform_141) (fun H locs S => ?_)
    refine lv_iconst (v := 0) X.1 X.2.1 dX9_perform_144 (by decide) ?_
    cases hf; exact g_ri X S hr hlk dX9_perform_145
  replace hf := (if_neg c25).symm.trans hf
  by_cases c30 : v9 = 8
  · replace hf := (if_pos c30).symm.trans hf
    refine lv_tableIn (tgt := 146) X.1 X.2.1 dX9_perform_30 (by rw [c30]; decide) (by rw [c30]; decide) (by rw [c30]; rfl) (by decide) ?_
    refine g_aload_n X (or_rv _) dX9_perform_146 rfl (lv_at hl 2 rfl) ?_
    refine g_gR X S foX9_45 dX9_perform_147 hf (fun v31 hf => ?_)
    refine g_aload_n X (or_rv _) dX9_perform_150 rfl (lv_at hl 2 rfl) ?_
    refine g_gI X S foX9_106 rfl dX9_perform_151 hf (fun v32 hf => ?_)
    refine lv_iload_n X.1 X.2.1 dX9_perform_154 rfl (lv_at hl 1 rfl) ?_
    refine g_aload_n X (or_rv _) dX9_perform_155 rfl (lv_at hl 2 rfl) ?_
    refine g_gI X S foX9_115 rfl dX9_perform_156 hf (fun v33 hf => ?_)
    refine lv_iload_n X.1 X.2.1 dX9_perform_159 rfl (lv_at hl 0 rfl) ?_
    obtain ⟨h, hc, hf⟩ := ob_some hf
    refine g_cv S (runS (As := [rv v31, .int v32, .int v2, .int v33, .int v4]) (rest := []) X S coX9_180 (by decide) (cX7_offsetBytes_m l hc) rfl hl.1 (by decide) rfl ⟨Nat.zero_le _, Nat.zero_le _⟩ dX9_perform_160) (fun H locs S => ?_)
    refine lv_iconst (v := 0) X.1 X.2.1 dX9_perform_163 (by decide) ?_
    cases hf; exact g_ri X S hr hlk dX9_perform_164
  replace hf := (if_neg c30).symm.trans hf
  by_cases c35 : v9 = 9
  · replace hf := (if_pos c35).symm.trans hf
    refine lv_tableIn (tgt := 165) X.1 X.2.1 dX9_perform_30 (by rw [c35]; decide) (by rw [c35]; decide) (by rw [c35]; rfl) (by decide) ?_
    refine g_aload_n X (or_rv _) dX9_perform_165 rfl (lv_at hl 2 rfl) ?_
    refine g_gR X S foX9_45 dX9_perform_166 hf (fun v36 hf => ?_)
    refine g_aload_n X (or_rv _) dX9_perform_169 rfl (lv_at hl 2 rfl) ?_
    refine g_gI X S foX9_106 rfl dX9_perform_170 hf (fun v37 hf => ?_)
    refine lv_iload_n X.1 X.2.1 dX9_perform_173 rfl (lv_at hl 1 rfl) ?_
    refine g_aload_n X (or_rv _) dX9_perform_174 rfl (lv_at hl 2 rfl) ?_
    refine g_gI X S foX9_115 rfl dX9_perform_175 hf (fun v38 hf => ?_)
    refine lv_sipush (v := 255) X.1 X.2.1 dX9_perform_178 (by decide) ?_
    obtain ⟨h, hc, hf⟩ := ob_some hf
    refine g_cv S (runS (As := [rv v36, .int v37, .int v2, .int v38, .int 255]) (rest := []) X S coX9_183 (by decide) (cX7_copyBytes_m l hc) rfl hl.1 (by decide) rfl ⟨Nat.zero_le _, Nat.zero_le _⟩ dX9_perform_181) (fun H locs S => ?_)
    refine lv_iconst (v := 0) X.1 X.2.1 dX9_perform_184 (by decide) ?_
    cases hf; exact g_ri X S hr hlk dX9_perform_185
  replace hf := (if_neg c35).symm.trans hf
  by_cases c40 : v9 = 10
  · replace hf := (if_pos c40).symm.trans hf
    refine lv_tableIn (tgt := 186) X.1 X.2.1 dX9_perform_30 (by rw [c40]; decide) (by rw [c40]; decide) (by rw [c40]; rfl) (by decide) ?_
    refine g_aload_n X (or_rv _) dX9_perform_186 rfl (lv_at hl 2 rfl) ?_
    refine g_gR X S foX9_45 dX9_perform_187 hf (fun v41 hf => ?_)
    refine g_aload_n X (or_rv _) dX9_perform_190 rfl (lv_at hl 2 rfl) ?_
    refine g_gI X S foX9_106 rfl dX9_perform_191 hf (fun v42 hf => ?_)
    refine lv_iload_n X.1 X.2.1 dX9_perform_194 rfl (lv_at hl 1 rfl) ?_
    refine g_aload_n X (or_rv _) dX9_perform_195 rfl (lv_at hl 2 rfl) ?_
    refine g_gI X S foX9_115 rfl dX9_perform_196 hf (fun v43 hf => ?_)
    refine lv_bipush (v := 15) X.1 X.2.1 dX9_perform_199 (by decide) ?_
    obtain ⟨h, hc, hf⟩ := ob_some hf
    refine g_cv S (runS (As := [rv v41, .int v42, .int v2, .int v43, .int 15]) (rest := []) X S coX9_183 (by decide) (cX7_copyBytes_m l hc) rfl hl.1 (by decide) rfl ⟨Nat.zero_le _, Nat.zero_le _⟩ dX9_perform_201) (fun H locs S => ?_)
    refine lv_iconst (v := 0) X.1 X.2.1 dX9_perform_204 (by decide) ?_
    cases hf; exact g_ri X S hr hlk dX9_perform_205
  replace hf := (if_neg c40).symm.trans hf
  by_cases c45 : v9 = 11
  · replace hf := (if_pos c45).symm.trans hf
    refine lv_tableIn (tgt := 206) X.1 X.2.1 dX9_perform_30 (by rw [c45]; decide) (by rw [c45]; decide) (by rw [c45]; rfl) (by decide) ?_
    refine g_aload_n X (or_rv _) dX9_perform_206 rfl (lv_at hl 2 rfl) ?_
    refine g_gR X S foX9_45 dX9_perform_207 hf (fun v46 hf => ?_)
    refine g_aload_n X (or_rv _) dX9_perform_210 rfl (lv_at hl 2 rfl) ?_
    refine g_gI X S foX9_106 rfl dX9_perform_211 hf (fun v47 hf => ?_)
    refine lv_iload_n X.1 X.2.1 dX9_perform_214 rfl (lv_at hl 1 rfl) ?_
    refine g_aload_n X (or_rv _) dX9_perform_215 rfl (lv_at hl 2 rfl) ?_
    refine g_gI X S foX9_115 rfl dX9_perform_216 hf (fun v48 hf => ?_)
    refine lv_sipush (v := 240) X.1 X.2.1 dX9_perform_219 (by decide) ?_
    obtain ⟨h, hc, hf⟩ := ob_some hf
    refine g_cv S (runS (As := [rv v46, .int v47, .int v2, .int v48, .int 240]) (rest := []) X S coX9_183 (by decide) (cX7_copyBytes_m l hc) rfl hl.1 (by decide) rfl ⟨Nat.zero_le _, Nat.zero_le _⟩ dX9_perform_222) (fun H locs S => ?_)
    refine lv_iconst (v := 0) X.1 X.2.1 dX9_perform_225 (by decide) ?_
    cases hf; exact g_ri X S hr hlk dX9_perform_226
  replace hf := (if_neg c45).symm.trans hf
  by_cases c50 : v9 = 12
  · replace hf := (if_pos c50).symm.trans hf
    refine lv_tableIn (tgt := 244) X.1 X.2.1 dX9_perform_30 (by rw [c50]; decide) (by rw [c50]; decide) (by rw [c50]; rfl) (by decide) ?_
    refine g_aload_n X (or_rv _) dX9_perform_244 rfl (lv_at hl 2 rfl) ?_
    obtain ⟨v51, h, hc, hf⟩ := ob2_some hf
    refine g_ci S (runV (As := []) (rest := []) X S coX9_193 (by decide) (cX9_compareNumbers_m l hc) (tkX9_compareNumbers hc) rfl hl.1 (by decide) rfl ⟨Nat.zero_le _, Nat.zero_le _⟩ dX9_perform_245) (fun H locs S => ?_)
    cases hf; exact g_ri X S hr hlk dX9_perform_248
  replace hf := (if_neg c50).symm.trans hf
  by_cases c52 : v9 = 13
  · replace hf := (if_pos c52).symm.trans hf
    refine lv_tableIn (tgt := 259) X.1 X.2.1 dX9_perform_30 (by rw [c52]; decide) (by rw [c52]; decide) (by rw [c52]; rfl) (by decide) ?_
    refine g_aload_n X (or_rv _) dX9_perform_259 rfl (lv_at hl 2 rfl) ?_
    obtain ⟨v53, h, hc, hf⟩ := ob2_some hf
    refine g_ci S (runV (As := []) (rest := []) X S coX9_202 (by decide) (cX9_shiftNumber_m l hc) (tkX9_shiftNumber hc) rfl hl.1 (by decide) rfl ⟨Nat.zero_le _, Nat.zero_le _⟩ dX9_perform_260) (fun H locs S => ?_)
    cases hf; exact g_ri X S hr hlk dX9_perform_263
  replace hf := (if_neg c52).symm.trans hf
  by_cases c54 : v9 = 14
  · replace hf := (if_pos c54).symm.trans hf
    refine lv_tableIn (tgt := 264) X.1 X.2.1 dX9_perform_30 (by rw [c54]; decide) (by rw [c54]; decide) (by rw [c54]; rfl) (by decide) ?_
    refine g_aload_n X (or_rv _) dX9_perform_264 rfl (lv_at hl 2 rfl) ?_
    refine g_aload_n X (or_rv _) dX9_perform_265 rfl (lv_at hl 2 rfl) ?_
    refine g_gR X S foX9_27 dX9_perform_266 hf (fun v55 hf => ?_)
    refine g_aload_n X (or_rv _) dX9_perform_269 rfl (lv_at hl 2 rfl) ?_
    refine g_gR X S foX9_45 dX9_perform_270 hf (fun v56 hf => ?_)
    refine g_aload_n X (or_rv _) dX9_perform_273 rfl (lv_at hl 2 rfl) ?_
    refine g_gI X S foX9_106 rfl dX9_perform_274 hf (fun v57 hf => ?_)
    refine lv_iload_n X.1 X.2.1 dX9_perform_277 rfl (lv_at hl 1 rfl) ?_
    refine g_aload_n X (or_rv _) dX9_perform_278 rfl (lv_at hl 2 rfl) ?_
    refine g_gI X S foX9_115 rfl dX9_perform_279 hf (fun v58 hf => ?_)
    obtain ⟨v59, h, hc, hf⟩ := ob2_some hf
    refine g_ci S (runV (As := [rv v56, .int v57, .int v2, .int v58]) (rest := [rv a0]) X S coX9_205 (by decide) (cX3_edit_m l hc) (tkX3_edit hc) rfl hl.1 (by simp [cat_rv, cat_wv, cat_sv, cat_i, cat_l, cat_a]) rfl ⟨Nat.zero_le _, Nat.zero_le _⟩ dX9_perform_282) (fun H locs S => ?_)
    refine lv_iconst (v := 0) X.1 X.2.1 dX9_perform_285 (by decide) ?_
    obtain ⟨v60, h, hc, hf⟩ := ob2_some hf
    refine g_ci S (runV (As := [.int v59, .int 0]) (rest := []) X S coX9_209 (by decide) (cX9_edited_m l hc) (tkX9_edited hc) rfl hl.1 (by decide) rfl ⟨Nat.zero_le _, Nat.zero_le _⟩ dX9_perform_286) (fun H locs S => ?_)
    cases hf; exact g_ri X S hr hlk dX9_perform_289
  replace hf := (if_neg c54).symm.trans hf
  by_cases c61 : v9 = 15
  · replace hf := (if_pos c61).symm.trans hf
    refine lv_tableIn (tgt := 290) X.1 X.2.1 dX9_perform_30 (by rw [c61]; decide) (by rw [c61]; decide) (by rw [c61]; rfl) (by decide) ?_
    refine g_aload_n X (or_rv _) dX9_perform_290 rfl (lv_at hl 2 rfl) ?_
    refine g_aload_n X (or_rv _) dX9_perform_291 rfl (lv_at hl 2 rfl) ?_
    refine g_gR X S foX9_27 dX9_perform_292 hf (fun v62 hf => ?_)
    refine g_aload_n X (or_rv _) dX9_perform_295 rfl (lv_at hl 2 rfl) ?_
    refine g_gR X S foX9_45 dX9_perform_296 hf (fun v63 hf => ?_)
    refine g_aload_n X (or_rv _) dX9_perform_299 rfl (lv_at hl 2 rfl) ?_
    refine g_gI X S foX9_106 rfl dX9_perform_300 hf (fun v64 hf => ?_)
    refine lv_iload_n X.1 X.2.1 dX9_perform_303 rfl (lv_at hl 1 rfl) ?_
    refine g_aload_n X (or_rv _) dX9_perform_304 rfl (lv_at hl 2 rfl) ?_
    refine g_gI X S foX9_115 rfl dX9_perform_305 hf (fun v65 hf => ?_)
    obtain ⟨v66, h, hc, hf⟩ := ob2_some hf
    refine g_ci S (runV (As := [rv v63, .int v64, .int v2, .int v65]) (rest := [rv a0]) X S coX9_205 (by decide) (cX3_edit_m l hc) (tkX3_edit hc) rfl hl.1 (by simp [cat_rv, cat_wv, cat_sv, cat_i, cat_l, cat_a]) rfl ⟨Nat.zero_le _, Nat.zero_le _⟩ dX9_perform_308) (fun H locs S => ?_)
    refine lv_iconst (v := 1) X.1 X.2.1 dX9_perform_311 (by decide) ?_
    obtain ⟨v67, h, hc, hf⟩ := ob2_some hf
    refine g_ci S (runV (As := [.int v66, .int 1]) (rest := []) X S coX9_209 (by decide) (cX9_edited_m l hc) (tkX9_edited hc) rfl hl.1 (by decide) rfl ⟨Nat.zero_le _, Nat.zero_le _⟩ dX9_perform_312) (fun H locs S => ?_)
    cases hf; exact g_ri X S hr hlk dX9_perform_315
  replace hf := (if_neg c61).symm.trans hf
  by_cases c68 : v9 = 16
  · replace hf := (if_pos c68).symm.trans hf
    refine lv_tableIn (tgt := 316) X.1 X.2.1 dX9_perform_30 (by rw [c68]; decide) (by rw [c68]; decide) (by rw [c68]; rfl) (by decide) ?_
    refine g_aload_n X (or_rv _) dX9_perform_316 rfl (lv_at hl 2 rfl) ?_
    obtain ⟨v69, h, hc, hf⟩ := ob2_some hf
    refine g_ci S (runV (As := []) (rest := []) X S coX9_213 (by decide) (cX9_toBinary_m l hc) (tkX9_toBinary hc) rfl hl.1 (by decide) rfl ⟨Nat.zero_le _, Nat.zero_le _⟩ dX9_perform_317) (fun H locs S => ?_)
    cases hf; exact g_ri X S hr hlk dX9_perform_320
  replace hf := (if_neg c68).symm.trans hf
  refine lv_tableOut (tgt := 321) X.1 X.2.1 dX9_perform_30 (by have e0 := i32_ne c10 (n := 1) (by decide); have e1 := i32_ne c12 (n := 2) (by decide); have e2 := i32_ne c14 (n := 3) (by decide); have e3 := i32_ne c16 (n := 4) (by decide); have e4 := i32_ne c18 (n := 5) (by decide); have e5 := i32_ne c20 (n := 6) (by decide); have e6 := i32_ne c25 (n := 7) (by decide); have e7 := i32_ne c30 (n := 8) (by decide); have e8 := i32_ne c35 (n := 9) (by decide); have e9 := i32_ne c40 (n := 10) (by decide); have e10 := i32_ne c45 (n := 11) (by decide); have e11 := i32_ne c50 (n := 12) (by decide); have e12 := i32_ne c52 (n := 13) (by decide); have e13 := i32_ne c54 (n := 14) (by decide); have e14 := i32_ne c61 (n := 15) (by decide); have e15 := i32_ne c68 (n := 16) (by decide); omega) (by decide) ?_
  refine g_aload_n X (or_rv _) dX9_perform_321 rfl (lv_at hl 2 rfl) ?_
  obtain ⟨v70, h, hc, hf⟩ := ob2_some hf
  refine g_ci S (runV (As := []) (rest := []) X S coX9_216 (by decide) (cX9_performPlain_m l hc) (tkX9_performPlain hc) rfl hl.1 (by decide) rfl ⟨Nat.zero_le _, Nat.zero_le _⟩ dX9_perform_322) (fun H locs S => ?_)
  cases hf; exact g_ri X S hr hlk dX9_perform_325
def fX9_tellWhy_32 (k32 : Nat → Int32 → Hp → Option (Hp)) (x0 : Nat) (x3 : Int32) (h : Hp) : Option (Hp) := ob (gR 8 x0 4 h) fun v1 => ob (aN 101 v1 h) fun v2 => if v2 ≤ x3 then ob (gR 8 x0 6 h) fun v4 => ob (gR 8 x0 6 h) fun v5 => ob (fX10_cell v5 277 h) fun v6 => ob (fX10_put v4 277 (v6 + 1) h) fun h => some h else ob (gR 8 x0 6 h) fun v8 => ob (gR 8 x0 4 h) fun v9 => ob (aI v9 x3 h) fun v10 => ob (fX10_put v8 (278 + x3) v10 h) fun h => lt (x3 + 1) fun z12 => k32 x0 z12 h
theorem wfX9_tellWhy_32 {k32 : Nat → Int32 → Hp → Option (Hp)} {h9 : Hp} (X : Cx p E A 9 R s m args c cX9_tellWhy yX9_tellWhy.cls 4) (hr : meth.sig.returnType = none) (hlk : meth.locks = false) (hnm : meth.name = yX9_tellWhy.name) (hk32 : ∀ (x0 : Nat) (x3 : Int32) (h : Hp) (H : Heap) (locs : List Loc) (ls : Array Slot), lv_has ls 4 [(0, rv x0), (3, .int x3)] → St E A s h H locs → k32 x0 x3 h = some h9 → W p l e R s m args below meth c H locs 0 0 (MQ below (Qv E A h9) args s 0 0 A) (F0 m 32 ls [])) :
    ∀ (x0 : Nat) (x3 : Int32) (h : Hp) (H : Heap) (locs : List Loc) (ls : Array Slot), lv_has ls 4 [(0, rv x0), (3, .int x3)] → St E A s h H locs → fX9_tellWhy_32 k32 x0 x3 h = some h9 → W p l e R s m args below meth c H locs 0 0 (MQ below (Qv E A h9) args s 0 0 A) (F0 m 32 ls []) := by
  intro x0 x3 h H locs ls hl S hf
  unfold fX9_tellWhy_32 at hf
  refine lv_iload_n X.1 X.2.1 dX9_tellWhy_32 rfl (lv_at hl 1 rfl) ?_
  refine g_aload_n X (or_rv _) dX9_tellWhy_33 rfl (lv_at hl 0 rfl) ?_
  refine g_gR X S foX9_31 dX9_tellWhy_34 hf (fun v1 hf => ?_)
  refine g_aN X S (by decide) dX9_tellWhy_37 hf (fun v2 hf => ?_)
  refine lv_icmp_ge (tgt := 65) X.1 X.2.1 dX9_tellWhy_38 (by decide) (fun c3 => ?_) (fun c3 => ?_)
  · replace hf := (if_pos c3).symm.trans hf
    refine g_aload_n X (or_rv _) dX9_tellWhy_65 rfl (lv_at hl 0 rfl) ?_
    refine g_gR X S foX9_45 dX9_tellWhy_66 hf (fun v4 hf => ?_)
    refine lv_sipush (v := 277) X.1 X.2.1 dX9_tellWhy_69 (by decide) ?_
    refine g_aload_n X (or_rv _) dX9_tellWhy_72 rfl (lv_at hl 0 rfl) ?_
    refine g_gR X S foX9_45 dX9_tellWhy_73 hf (fun v5 hf => ?_)
    refine lv_sipush (v := 277) X.1 X.2.1 dX9_tellWhy_76 (by decide) ?_
    obtain ⟨v6, hc, hf⟩ := ob_some hf
    refine g_ci S (runV (As := [.int 277]) (rest := [.int 277, rv v4]) X S coX9_64 (by decide) (cX10_cell_m l hc) (tkX10_cell hc) rfl hl.1 (by simp [cat_rv, cat_wv, cat_sv, cat_i, cat_l, cat_a]) rfl ⟨Nat.zero_le _, Nat.zero_le _⟩ dX9_tellWhy_79) (fun H locs S => ?_)
    refine lv_iconst (v := 1) X.1 X.2.1 dX9_tellWhy_82 (by decide) ?_
    refine lv_iadd X.1 X.2.1 dX9_tellWhy_83 ?_
    obtain ⟨h, hc, hf⟩ := ob_some hf
    refine g_cv S (runV (As := [.int 277, .int (v6 + 1)]) (rest := []) X S coX9_233 (by decide) (cX10_put_m l hc) (tkX10_put hc) rfl hl.1 (by decide) rfl ⟨Nat.zero_le _, Nat.zero_le _⟩ dX9_tellWhy_84) (fun H locs S => ?_)
    cases hf; exact g_rv X S hr hlk dX9_tellWhy_87
  · replace hf := (if_neg c3).symm.trans hf
    refine g_aload_n X (or_rv _) dX9_tellWhy_41 rfl (lv_at hl 0 rfl) ?_
    refine g_gR X S foX9_45 dX9_tellWhy_42 hf (fun v8 hf => ?_)
    refine lv_sipush (v := 278) X.1 X.2.1 dX9_tellWhy_45 (by decide) ?_
    refine lv_iload_n X.1 X.2.1 dX9_tellWhy_48 rfl (lv_at hl 1 rfl) ?_
    refine lv_iadd X.1 X.2.1 dX9_tellWhy_49 ?_
    refine g_aload_n X (or_rv _) dX9_tellWhy_50 rfl (lv_at hl 0 rfl) ?_
    refine g_gR X S foX9_31 dX9_tellWhy_51 hf (fun v9 hf => ?_)
    refine lv_iload_n X.1 X.2.1 dX9_tellWhy_54 rfl (lv_at hl 1 rfl) ?_
    refine g_aI X S dX9_tellWhy_55 hf (fun v10 hf => ?_)
    obtain ⟨h, hc, hf⟩ := ob_some hf
    refine g_cv S (runV (As := [.int (278 + x3), .int v10]) (rest := []) X S coX9_233 (by decide) (cX10_put_m l hc) (tkX10_put hc) rfl hl.1 (by decide) rfl ⟨Nat.zero_le _, Nat.zero_le _⟩ dX9_tellWhy_56) (fun H locs S => ?_)
    obtain ⟨z12, ez12, hf⟩ := lt_some hf
    refine lv_iinc (v := z12) (lv' := [(3, .int z12), (0, rv x0)]) X.1 X.2.1 dX9_tellWhy_59 hl (k := 1) rfl (by rw [← ez12]; rfl) (by decide) rfl (fun ls hl => ?_)
    refine lv_goto (tgt := 32) X.1 X.2.1 dX9_tellWhy_62 (by decide) ?_
    exact hk32 _ _ _ _ _ _ (lv_sub hl [1, 0] rfl) S hf
theorem wfX9_tellWhy_32_l {h9 : Hp} (X : Cx p E A 9 R s m args c cX9_tellWhy yX9_tellWhy.cls 4) (hr : meth.sig.returnType = none) (hlk : meth.locks = false) (hnm : meth.name = yX9_tellWhy.name) :
    ∀ (n : Nat) (x0 : Nat) (x3 : Int32) (h : Hp) (H : Heap) (locs : List Loc) (ls : Array Slot), lv_has ls 4 [(0, rv x0), (3, .int x3)] → St E A s h H locs → lp (fun _ _ _ => none) (fX9_tellWhy_32) n x0 x3 h = some h9 → W p l e R s m args below meth c H locs 0 0 (MQ below (Qv E A h9) args s 0 0 A) (F0 m 32 ls []) := by
  intro n
  induction n with
  | zero =>
    intro x0 x3 h H locs ls hl S hf
    exact nomatch hf
  | succ n ih =>
    intro x0 x3 h H locs ls hl S hf
    exact wfX9_tellWhy_32 X hr hlk hnm ih x0 x3 h H locs ls hl S hf
def fX9_tellWhy (a0 : Nat) (a1 : Int32) (a2 : Int32) (h : Hp) : Option (Hp) := gd 8 a0 h (ob (gR 8 a0 4 h) fun v1 => ob (qI v1 0 a1 h) fun h => ob (gR 8 a0 4 h) fun v2 => ob (qI v2 1 a2 h) fun h => ob (gR 8 a0 4 h) fun v3 => ob (gR 8 a0 6 h) fun v4 => ob (fX10_cell v4 276 h) fun v5 => ob (qI v3 2 v5 h) fun h => lp (fun _ _ _ => none) (fX9_tellWhy_32) FU a0 0 h)
theorem tkX9_tellWhy {a0 : Nat} {a1 : Int32} {a2 : Int32} {h : Hp} {r9 : Hp} (e : fX9_tellWhy a0 a1 a2 h = some r9) : hK h a0 = 8 := by
  unfold fX9_tellWhy at e
  exact (gd_some e).1
theorem cX9_tellWhy_m (l : Launch) {E : EE} {A : Nat → Prop} {a0 : Nat} {a1 : Int32} {a2 : Int32} {h : Hp} {h9 : Hp} (hf : fX9_tellWhy a0 a1 a2 h = some h9) : Met l yX9_tellWhy (wsM yX9_tellWhy cX9_tellWhy 4 none) (rmm 9 0 0) (PcE E A h [rv a0, .int a1, .int a2]) (Qv E A h9) 0 0 A := by
  refine met_of (by decide +kernel) (by simp [lg_sl, cat_rv, cat_wv, cat_sv, cat_i, cat_l, cat_a]) (fun p e s m args below meth c ls X hr hlk hnm S hl => ?_)
  have hl : lv_has ls 4 [(0, rv a0), (1, .int a1), (2, .int a2)] := by simpa [lv_args, cat_rv, cat_wv, cat_sv, cat_i, cat_l, cat_a] using hl
  generalize hH : s.heap = H at S ⊢
  generalize hlo : ([] : List Loc) = locs at S ⊢
  clear hH hlo
  unfold fX9_tellWhy at hf
  obtain ⟨hth, hf⟩ := gd_some hf
  refine g_aload_n X (or_rv _) dX9_tellWhy_0 rfl (lv_at hl 0 rfl) ?_
  refine g_gR X S foX9_31 dX9_tellWhy_1 hf (fun v1 hf => ?_)
  refine lv_iconst (v := 0) X.1 X.2.1 dX9_tellWhy_4 (by decide) ?_
  refine lv_iload_n X.1 X.2.1 dX9_tellWhy_5 rfl (lv_at hl 1 rfl) ?_
  refine g_qI X S dX9_tellWhy_6 hf (fun h H locs hm hf S => ?_)
  refine g_aload_n X (or_rv _) dX9_tellWhy_7 rfl (lv_at hl 0 rfl) ?_
  refine g_gR X S foX9_31 dX9_tellWhy_8 hf (fun v2 hf => ?_)
  refine lv_iconst (v := 1) X.1 X.2.1 dX9_tellWhy_11 (by decide) ?_
  refine lv_iload_n X.1 X.2.1 dX9_tellWhy_12 rfl (lv_at hl 2 rfl) ?_
  refine g_qI X S dX9_tellWhy_13 hf (fun h H locs hm hf S => ?_)
  refine g_aload_n X (or_rv _) dX9_tellWhy_14 rfl (lv_at hl 0 rfl) ?_
  refine g_gR X S foX9_31 dX9_tellWhy_15 hf (fun v3 hf => ?_)
  refine lv_iconst (v := 2) X.1 X.2.1 dX9_tellWhy_18 (by decide) ?_
  refine g_aload_n X (or_rv _) dX9_tellWhy_19 rfl (lv_at hl 0 rfl) ?_
  refine g_gR X S foX9_45 dX9_tellWhy_20 hf (fun v4 hf => ?_)
  refine lv_sipush (v := 276) X.1 X.2.1 dX9_tellWhy_23 (by decide) ?_
  obtain ⟨v5, hc, hf⟩ := ob_some hf
  refine g_ci S (runV (As := [.int 276]) (rest := [.int 2, rv v3]) X S coX9_64 (by decide) (cX10_cell_m l hc) (tkX10_cell hc) rfl hl.1 (by simp [cat_rv, cat_wv, cat_sv, cat_i, cat_l, cat_a]) rfl ⟨Nat.zero_le _, Nat.zero_le _⟩ dX9_tellWhy_26) (fun H locs S => ?_)
  refine g_qI X S dX9_tellWhy_29 hf (fun h H locs hm hf S => ?_)
  refine lv_iconst (v := 0) X.1 X.2.1 dX9_tellWhy_30 (by decide) ?_
  refine lv_istore_n (i := 3) (lv' := [(3, .int 0), (0, rv a0), (1, .int a1), (2, .int a2)]) X.1 X.2.1 dX9_tellWhy_31 rfl hl (by decide) rfl (fun ls hl => ?_)
  exact wfX9_tellWhy_32_l X hr hlk hnm FU _ _ _ _ _ _ (lv_sub hl [1, 0] rfl) S hf
def fX9_conclude_106 (k111 : Int32 → Int32 → Nat → Hp → Option (Hp)) (y0 : Int32) (y1 : Nat) (h : Hp) : Option (Hp) := k111 1 y0 y1 h
theorem wfX9_conclude_106 {k111 : Int32 → Int32 → Nat → Hp → Option (Hp)} {h9 : Hp} (X : Cx p E A 9 R s m args c cX9_conclude yX9_conclude.cls 4) (hr : meth.sig.returnType = none) (hlk : meth.locks = false) (hnm : meth.name = yX9_conclude.name) (hk111 : ∀ (y0 : Int32) (y1 : Int32) (y2 : Nat) (h : Hp) (H : Heap) (locs : List Loc) (ls : Array Slot), lv_has ls 4 [] → St E A s h H locs → k111 y0 y1 y2 h = some h9 → W p l e R s m args below meth c H locs 0 0 (MQ below (Qv E A h9) args s 0 0 A) (F0 m 111 ls [.int y0, .int y1, rv y2])) :
    ∀ (y0 : Int32) (y1 : Nat) (h : Hp) (H : Heap) (locs : List Loc) (ls : Array Slot), lv_has ls 4 [] → St E A s h H locs → fX9_conclude_106 k111 y0 y1 h = some h9 → W p l e R s m args below meth c H locs 0 0 (MQ below (Qv E A h9) args s 0 0 A) (F0 m 106 ls [.int y0, rv y1]) := by
  intro y0 y1 h H locs ls hl S hf
  unfold fX9_conclude_106 at hf
  refine lv_iconst (v := 1) X.1 X.2.1 dX9_conclude_106 (by decide) ?_
  refine lv_goto (tgt := 111) X.1 X.2.1 dX9_conclude_107 (by decide) ?_
  exact hk111 _ _ _ _ _ _ _ hl S hf
def fX9_conclude_111 (y0 : Int32) (y1 : Int32) (y2 : Nat) (h : Hp) : Option (Hp) := ob (fX10_put y2 y1 y0 h) fun h => some h
theorem wfX9_conclude_111 {h9 : Hp} (X : Cx p E A 9 R s m args c cX9_conclude yX9_conclude.cls 4) (hr : meth.sig.returnType = none) (hlk : meth.locks = false) (hnm : meth.name = yX9_conclude.name) :
    ∀ (y0 : Int32) (y1 : Int32) (y2 : Nat) (h : Hp) (H : Heap) (locs : List Loc) (ls : Array Slot), lv_has ls 4 [] → St E A s h H locs → fX9_conclude_111 y0 y1 y2 h = some h9 → W p l e R s m args below meth c H locs 0 0 (MQ below (Qv E A h9) args s 0 0 A) (F0 m 111 ls [.int y0, .int y1, rv y2]) := by
  intro y0 y1 y2 h H locs ls hl S hf
  unfold fX9_conclude_111 at hf
  obtain ⟨h, hc, hf⟩ := ob_some hf
  refine g_cv S (runV (As := [.int y1, .int y0]) (rest := []) X S coX9_233 (by decide) (cX10_put_m l hc) (tkX10_put hc) rfl hl.1 (by decide) rfl ⟨Nat.zero_le _, Nat.zero_le _⟩ dX9_conclude_111) (fun H locs S => ?_)
  cases hf; exact g_rv X S hr hlk dX9_conclude_114
def fX9_conclude_64 (x0 : Nat) (h : Hp) : Option (Hp) := ob (gR 8 x0 6 h) fun v1 => ob (gI 8 x0 12 h) fun v2 => ob (fX10_put v1 265 v2 h) fun h => ob (gR 8 x0 6 h) fun v4 => ob (gI 8 x0 13 h) fun v5 => if v5 = 0 then ob (gI 8 x0 12 h) fun v7 => ob (gR 8 x0 5 h) fun v8 => ob (fX6_size v8 h) fun v9 => if v7 < v9 then fX9_conclude_111 0 267 v4 h else fX9_conclude_106 fX9_conclude_111 267 v4 h else fX9_conclude_106 fX9_conclude_111 267 v4 h
theorem wfX9_conclude_64 {h9 : Hp} (X : Cx p E A 9 R s m args c cX9_conclude yX9_conclude.cls 4) (hr : meth.sig.returnType = none) (hlk : meth.locks = false) (hnm : meth.name = yX9_conclude.name) :
    ∀ (x0 : Nat) (h : Hp) (H : Heap) (locs : List Loc) (ls : Array Slot), lv_has ls 4 [(0, rv x0)] → St E A s h H locs → fX9_conclude_64 x0 h = some h9 → W p l e R s m args below meth c H locs 0 0 (MQ below (Qv E A h9) args s 0 0 A) (F0 m 64 ls []) := by
  intro x0 h H locs ls hl S hf
  unfold fX9_conclude_64 at hf
  refine g_aload_n X (or_rv _) dX9_conclude_64 rfl (lv_at hl 0 rfl) ?_
  refine g_gR X S foX9_45 dX9_conclude_65 hf (fun v1 hf => ?_)
  refine lv_sipush (v := 265) X.1 X.2.1 dX9_conclude_68 (by decide) ?_
  refine g_aload_n X (or_rv _) dX9_conclude_71 rfl (lv_at hl 0 rfl) ?_
  refine g_gI X S foX9_72 rfl dX9_conclude_72 hf (fun v2 hf => ?_)
  obtain ⟨h, hc, hf⟩ := ob_some hf
  refine g_cv S (runV (As := [.int 265, .int v2]) (rest := []) X S coX9_233 (by decide) (cX10_put_m l hc) (tkX10_put hc) rfl hl.1 (by decide) rfl ⟨Nat.zero_le _, Nat.zero_le _⟩ dX9_conclude_75) (fun H locs S => ?_)
  refine g_aload_n X (or_rv _) dX9_conclude_78 rfl (lv_at hl 0 rfl) ?_
  refine g_gR X S foX9_45 dX9_conclude_79 hf (fun v4 hf => ?_)
  refine lv_sipush (v := 267) X.1 X.2.1 dX9_conclude_82 (by decide) ?_
  refine g_aload_n X (or_rv _) dX9_conclude_85 rfl (lv_at hl 0 rfl) ?_
  refine g_gI X S foX9_76 rfl dX9_conclude_86 hf (fun v5 hf => ?_)
  refine lv_if_ne (tgt := 106) X.1 X.2.1 dX9_conclude_89 (by decide) (fun c6 => ?_) (fun c6 => ?_)
  · replace hf := (if_neg c6).symm.trans hf
    exact wfX9_conclude_106 X hr hlk hnm (wfX9_conclude_111 X hr hlk hnm) _ _ _ _ _ _ (lv_sub hl [] rfl) S hf
  · replace hf := (if_pos c6).symm.trans hf
    refine g_aload_n X (or_rv _) dX9_conclude_92 rfl (lv_at hl 0 rfl) ?_
    refine g_gI X S foX9_72 rfl dX9_conclude_93 hf (fun v7 hf => ?_)
    refine g_aload_n X (or_rv _) dX9_conclude_96 rfl (lv_at hl 0 rfl) ?_
    refine g_gR X S foX9_38 dX9_conclude_97 hf (fun v8 hf => ?_)
    obtain ⟨v9, hc, hf⟩ := ob_some hf
    refine g_ci S (runV (As := []) (rest := [.int v7, .int 267, rv v4]) X S coX9_56 (by decide) (cX6_size_m l hc) (tkX6_size hc) rfl hl.1 (by simp [cat_rv, cat_wv, cat_sv, cat_i, cat_l, cat_a]) rfl ⟨Nat.zero_le _, Nat.zero_le _⟩ dX9_conclude_100) (fun H locs S => ?_)
    refine lv_icmp_lt (tgt := 110) X.1 X.2.1 dX9_conclude_103 (by decide) (fun c10 => ?_) (fun c10 => ?_)
    · replace hf := (if_pos c10).symm.trans hf
      refine lv_iconst (v := 0) X.1 X.2.1 dX9_conclude_110 (by decide) ?_
      exact wfX9_conclude_111 X hr hlk hnm _ _ _ _ _ _ _ (lv_sub hl [] rfl) S hf
    · replace hf := (if_neg c10).symm.trans hf
      exact wfX9_conclude_106 X hr hlk hnm (wfX9_conclude_111 X hr hlk hnm) _ _ _ _ _ _ (lv_sub hl [] rfl) S hf
def fX9_conclude_44 (x0 : Nat) (x1 : Int32) (x2 : Int32) (x3 : Int32) (h : Hp) : Option (Hp) := if x1 = 0 then fX9_conclude_64 x0 h else ob (gR 8 x0 6 h) fun v2 => ob (fX10_put v2 266 x2 h) fun h => ob (pI 8 x0 12 x3 h) fun h => fX9_conclude_64 x0 h
theorem wfX9_conclude_44 {h9 : Hp} (X : Cx p E A 9 R s m args c cX9_conclude yX9_conclude.cls 4) (hr : meth.sig.returnType = none) (hlk : meth.locks = false) (hnm : meth.name = yX9_conclude.name) :
    ∀ (x0 : Nat) (x1 : Int32) (x2 : Int32) (x3 : Int32) (h : Hp) (H : Heap) (locs : List Loc) (ls : Array Slot), lv_has ls 4 [(0, rv x0), (1, .int x1), (2, .int x2), (3, .int x3)] → St E A s h H locs → fX9_conclude_44 x0 x1 x2 x3 h = some h9 → W p l e R s m args below meth c H locs 0 0 (MQ below (Qv E A h9) args s 0 0 A) (F0 m 44 ls []) := by
  intro x0 x1 x2 x3 h H locs ls hl S hf
  unfold fX9_conclude_44 at hf
  refine lv_iload_n X.1 X.2.1 dX9_conclude_44 rfl (lv_at hl 1 rfl) ?_
  refine lv_if_eq (tgt := 64) X.1 X.2.1 dX9_conclude_45 (by decide) (fun c1 => ?_) (fun c1 => ?_)
  · replace hf := (if_pos c1).symm.trans hf
    exact wfX9_conclude_64 X hr hlk hnm _ _ _ _ _ (lv_sub hl [0] rfl) S hf
  · replace hf := (if_neg c1).symm.trans hf
    refine g_aload_n X (or_rv _) dX9_conclude_48 rfl (lv_at hl 0 rfl) ?_
    refine g_gR X S foX9_45 dX9_conclude_49 hf (fun v2 hf => ?_)
    refine lv_sipush (v := 266) X.1 X.2.1 dX9_conclude_52 (by decide) ?_
    refine lv_iload_n X.1 X.2.1 dX9_conclude_55 rfl (lv_at hl 2 rfl) ?_
    obtain ⟨h, hc, hf⟩ := ob_some hf
    refine g_cv S (runV (As := [.int 266, .int x2]) (rest := []) X S coX9_233 (by decide) (cX10_put_m l hc) (tkX10_put hc) rfl hl.1 (by decide) rfl ⟨Nat.zero_le _, Nat.zero_le _⟩ dX9_conclude_56) (fun H locs S => ?_)
    refine g_aload_n X (or_rv _) dX9_conclude_59 rfl (lv_at hl 0 rfl) ?_
    refine lv_iload_n X.1 X.2.1 dX9_conclude_60 rfl (lv_at hl 3 rfl) ?_
    refine g_pI X S fpX9_72 (Or.inl rfl) dX9_conclude_61 hf (fun h H locs hm hf S => ?_)
    exact wfX9_conclude_64 X hr hlk hnm _ _ _ _ _ (lv_sub hl [0] rfl) S hf
def fX9_conclude_22 (x0 : Nat) (x1 : Int32) (x2 : Int32) (y0 : Int32) (h : Hp) : Option (Hp) := if x1 = 0 then fX9_conclude_44 x0 x1 x2 y0 h else if y0 = (-1) then ob (gR 8 x0 6 h) fun v3 => ob (fX10_put v3 267 2 h) fun h => some h else fX9_conclude_44 x0 x1 x2 y0 h
theorem wfX9_conclude_22 {h9 : Hp} (X : Cx p E A 9 R s m args c cX9_conclude yX9_conclude.cls 4) (hr : meth.sig.returnType = none) (hlk : meth.locks = false) (hnm : meth.name = yX9_conclude.name) :
    ∀ (x0 : Nat) (x1 : Int32) (x2 : Int32) (y0 : Int32) (h : Hp) (H : Heap) (locs : List Loc) (ls : Array Slot), lv_has ls 4 [(0, rv x0), (1, .int x1), (2, .int x2)] → St E A s h H locs → fX9_conclude_22 x0 x1 x2 y0 h = some h9 → W p l e R s m args below meth c H locs 0 0 (MQ below (Qv E A h9) args s 0 0 A) (F0 m 22 ls [.int y0]) := by
  intro x0 x1 x2 y0 h H locs ls hl S hf
  unfold fX9_conclude_22 at hf
  refine lv_istore_n (i := 3) (lv' := [(3, .int y0), (0, rv x0), (1, .int x1), (2, .int x2)]) X.1 X.2.1 dX9_conclude_22 rfl hl (by decide) rfl (fun ls hl => ?_)
  refine lv_iload_n X.1 X.2.1 dX9_conclude_23 rfl (lv_at hl 2 rfl) ?_
  refine lv_if_eq (tgt := 44) X.1 X.2.1 dX9_conclude_24 (by decide) (fun c1 => ?_) (fun c1 => ?_)
  · replace hf := (if_pos c1).symm.trans hf
    exact wfX9_conclude_44 X hr hlk hnm _ _ _ _ _ _ _ _ (lv_sub hl [1, 2, 3, 0] rfl) S hf
  · replace hf := (if_neg c1).symm.trans hf
    refine lv_iload_n X.1 X.2.1 dX9_conclude_27 rfl (lv_at hl 0 rfl) ?_
    refine lv_iconst (v := (-1)) X.1 X.2.1 dX9_conclude_28 (by decide) ?_
    refine lv_icmp_ne (tgt := 44) X.1 X.2.1 dX9_conclude_29 (by decide) (fun c2 => ?_) (fun c2 => ?_)
    · replace hf := (if_neg c2).symm.trans hf
      exact wfX9_conclude_44 X hr hlk hnm _ _ _ _ _ _ _ _ (lv_sub hl [1, 2, 3, 0] rfl) S hf
    · replace hf := (if_pos c2).symm.trans hf
      refine g_aload_n X (or_rv _) dX9_conclude_32 rfl (lv_at hl 1 rfl) ?_
      refine g_gR X S foX9_45 dX9_conclude_33 hf (fun v3 hf => ?_)
      refine lv_sipush (v := 267) X.1 X.2.1 dX9_conclude_36 (by decide) ?_
      refine lv_iconst (v := 2) X.1 X.2.1 dX9_conclude_39 (by decide) ?_
      obtain ⟨h, hc, hf⟩ := ob_some hf
      refine g_cv S (runV (As := [.int 267, .int 2]) (rest := []) X S coX9_233 (by decide) (cX10_put_m l hc) (tkX10_put hc) rfl hl.1 (by decide) rfl ⟨Nat.zero_le _, Nat.zero_le _⟩ dX9_conclude_40) (fun H locs S => ?_)
      cases hf; exact g_rv X S hr hlk dX9_conclude_43
def fX9_conclude (a0 : Nat) (a1 : Int32) (a2 : Int32) (h : Hp) : Option (Hp) := gd 8 a0 h (if a1 = 0 then fX9_conclude_22 a0 a1 a2 (-1) h else ob (gR 8 a0 6 h) fun v2 => ob (fX10_cell v2 ((268 + a1) - 1) h) fun v3 => fX9_conclude_22 a0 a1 a2 v3 h)
theorem tkX9_conclude {a0 : Nat} {a1 : Int32} {a2 : Int32} {h : Hp} {r9 : Hp} (e : fX9_conclude a0 a1 a2 h = some r9) : hK h a0 = 8 := by
  unfold fX9_conclude at e
  exact (gd_some e).1
theorem cX9_conclude_m (l : Launch) {E : EE} {A : Nat → Prop} {a0 : Nat} {a1 : Int32} {a2 : Int32} {h : Hp} {h9 : Hp} (hf : fX9_conclude a0 a1 a2 h = some h9) : Met l yX9_conclude (wsM yX9_conclude cX9_conclude 4 none) (rmm 9 0 0) (PcE E A h [rv a0, .int a1, .int a2]) (Qv E A h9) 0 0 A := by
  refine met_of (by decide +kernel) (by simp [lg_sl, cat_rv, cat_wv, cat_sv, cat_i, cat_l, cat_a]) (fun p e s m args below meth c ls X hr hlk hnm S hl => ?_)
  have hl : lv_has ls 4 [(0, rv a0), (1, .int a1), (2, .int a2)] := by simpa [lv_args, cat_rv, cat_wv, cat_sv, cat_i, cat_l, cat_a] using hl
  generalize hH : s.heap = H at S ⊢
  generalize hlo : ([] : List Loc) = locs at S ⊢
  clear hH hlo
  unfold fX9_conclude at hf
  obtain ⟨hth, hf⟩ := gd_some hf
  refine lv_iload_n X.1 X.2.1 dX9_conclude_0 rfl (lv_at hl 1 rfl) ?_
  refine lv_if_ne (tgt := 8) X.1 X.2.1 dX9_conclude_1 (by decide) (fun c1 => ?_) (fun c1 => ?_)
  · replace hf := (if_neg c1).symm.trans hf
    refine g_aload_n X (or_rv _) dX9_conclude_8 rfl (lv_at hl 0 rfl) ?_
    refine g_gR X S foX9_45 dX9_conclude_9 hf (fun v2 hf => ?_)
    refine lv_sipush (v := 268) X.1 X.2.1 dX9_conclude_12 (by decide) ?_
    refine lv_iload_n X.1 X.2.1 dX9_conclude_15 rfl (lv_at hl 1 rfl) ?_
    refine lv_iadd X.1 X.2.1 dX9_conclude_16 ?_
    refine lv_iconst (v := 1) X.1 X.2.1 dX9_conclude_17 (by decide) ?_
    refine lv_isub X.1 X.2.1 dX9_conclude_18 ?_
    obtain ⟨v3, hc, hf⟩ := ob_some hf
    refine g_ci S (runV (As := [.int ((268 + a1) - 1)]) (rest := []) X S coX9_64 (by decide) (cX10_cell_m l hc) (tkX10_cell hc) rfl hl.1 (by decide) rfl ⟨Nat.zero_le _, Nat.zero_le _⟩ dX9_conclude_19) (fun H locs S => ?_)
    exact wfX9_conclude_22 X hr hlk hnm _ _ _ _ _ _ _ _ hl S hf
  · replace hf := (if_pos c1).symm.trans hf
    refine lv_iconst (v := (-1)) X.1 X.2.1 dX9_conclude_4 (by decide) ?_
    refine lv_goto (tgt := 22) X.1 X.2.1 dX9_conclude_5 (by decide) ?_
    exact wfX9_conclude_22 X hr hlk hnm _ _ _ _ _ _ _ _ hl S hf
def fX9_step_98 (x0 : Nat) (x2 : Int32) (x4 : Int32) (h : Hp) : Option (Int32 × Hp) := ob (gR 8 x0 6 h) fun v1 => ob (fX10_record v1 x2 h) fun h => ob (fX9_conclude x0 x4 x2 h) fun h => some (x4, h)
theorem wfX9_step_98 {r9 : Int32} {h9 : Hp} (X : Cx p E A 12 R s m args c cX9_step yX9_step.cls 5) (hr : meth.sig.returnType = (some .int)) (hlk : meth.locks = false) (hnm : meth.name = yX9_step.name) :
    ∀ (x0 : Nat) (x2 : Int32) (x4 : Int32) (h : Hp) (H : Heap) (locs : List Loc) (ls : Array Slot), lv_has ls 5 [(0, rv x0), (2, .int x2), (4, .int x4)] → St E A s h H locs → fX9_step_98 x0 x2 x4 h = some (r9, h9) → W p l e R s m args below meth c H locs 0 0 (MQ below (Qi E A h9 r9) args s 0 0 A) (F0 m 98 ls []) := by
  intro x0 x2 x4 h H locs ls hl S hf
  unfold fX9_step_98 at hf
  refine g_aload_n X (or_rv _) dX9_step_98 rfl (lv_at hl 0 rfl) ?_
  refine g_gR X S foX9_45 dX9_step_99 hf (fun v1 hf => ?_)
  refine lv_iload_n X.1 X.2.1 dX9_step_102 rfl (lv_at hl 1 rfl) ?_
  obtain ⟨h, hc, hf⟩ := ob_some hf
  refine g_cv S (runV (As := [.int x2]) (rest := []) X S coX9_90 (by decide) (cX10_record_m l hc) (tkX10_record hc) rfl hl.1 (by decide) rfl ⟨Nat.zero_le _, Nat.zero_le _⟩ dX9_step_103) (fun H locs S => ?_)
  refine g_aload_n X (or_rv _) dX9_step_106 rfl (lv_at hl 0 rfl) ?_
  refine lv_iload X.1 X.2.1 dX9_step_107 (lv_at hl 2 rfl) ?_
  refine lv_iload_n X.1 X.2.1 dX9_step_109 rfl (lv_at hl 1 rfl) ?_
  obtain ⟨h, hc, hf⟩ := ob_some hf
  refine g_cv S (runV (As := [.int x4, .int x2]) (rest := []) X S coX9_94 (by decide) (cX9_conclude_m l hc) (tkX9_conclude hc) rfl hl.1 (by decide) rfl ⟨Nat.zero_le _, Nat.zero_le _⟩ dX9_step_110) (fun H locs S => ?_)
  refine lv_iload X.1 X.2.1 dX9_step_113 (lv_at hl 2 rfl) ?_
  cases hf; exact g_ri X S hr hlk dX9_step_115
def fX9_step_86 (x0 : Nat) (x2 : Int32) (x4 : Int32) (h : Hp) : Option (Int32 × Hp) := if x4 = 0 then fX9_step_98 x0 x2 x4 h else ob (fX9_tellWhy x0 x4 x2 h) fun h => fX9_step_98 x0 x2 x4 h
theorem wfX9_step_86 {r9 : Int32} {h9 : Hp} (X : Cx p E A 12 R s m args c cX9_step yX9_step.cls 5) (hr : meth.sig.returnType = (some .int)) (hlk : meth.locks = false) (hnm : meth.name = yX9_step.name) :
    ∀ (x0 : Nat) (x2 : Int32) (x4 : Int32) (h : Hp) (H : Heap) (locs : List Loc) (ls : Array Slot), lv_has ls 5 [(0, rv x0), (2, .int x2), (4, .int x4)] → St E A s h H locs → fX9_step_86 x0 x2 x4 h = some (r9, h9) → W p l e R s m args below meth c H locs 0 0 (MQ below (Qi E A h9 r9) args s 0 0 A) (F0 m 86 ls []) := by
  intro x0 x2 x4 h H locs ls hl S hf
  unfold fX9_step_86 at hf
  refine lv_iload X.1 X.2.1 dX9_step_86 (lv_at hl 2 rfl) ?_
  refine lv_if_eq (tgt := 98) X.1 X.2.1 dX9_step_88 (by decide) (fun c1 => ?_) (fun c1 => ?_)
  · replace hf := (if_pos c1).symm.trans hf
    exact wfX9_step_98 X hr hlk hnm _ _ _ _ _ _ _ hl S hf
  · replace hf := (if_neg c1).symm.trans hf
    refine g_aload_n X (or_rv _) dX9_step_91 rfl (lv_at hl 0 rfl) ?_
    refine lv_iload X.1 X.2.1 dX9_step_92 (lv_at hl 2 rfl) ?_
    refine lv_iload_n X.1 X.2.1 dX9_step_94 rfl (lv_at hl 1 rfl) ?_
    obtain ⟨h, hc, hf⟩ := ob_some hf
    refine g_cv S (runV (As := [.int x4, .int x2]) (rest := []) X S coX9_86 (by decide) (cX9_tellWhy_m l hc) (tkX9_tellWhy hc) rfl hl.1 (by decide) rfl ⟨Nat.zero_le _, Nat.zero_le _⟩ dX9_step_95) (fun H locs S => ?_)
    exact wfX9_step_98 X hr hlk hnm _ _ _ _ _ _ _ hl S hf
def fX9_step_62 (x0 : Nat) (x2 : Int32) (x4 : Int32) (h : Hp) : Option (Int32 × Hp) := if x4 = 6 then ob (gR 8 x0 6 h) fun v2 => ob (fX10_cell v2 273 h) fun v3 => if v3 = (-1) then fX9_step_86 x0 x2 0 h else fX9_step_86 x0 x2 x4 h else fX9_step_86 x0 x2 x4 h
theorem wfX9_step_62 {r9 : Int32} {h9 : Hp} (X : Cx p E A 12 R s m args c cX9_step yX9_step.cls 5) (hr : meth.sig.returnType = (some .int)) (hlk : meth.locks = false) (hnm : meth.name = yX9_step.name) :
    ∀ (x0 : Nat) (x2 : Int32) (x4 : Int32) (h : Hp) (H : Heap) (locs : List Loc) (ls : Array Slot), lv_has ls 5 [(0, rv x0), (2, .int x2), (4, .int x4)] → St E A s h H locs → fX9_step_62 x0 x2 x4 h = some (r9, h9) → W p l e R s m args below meth c H locs 0 0 (MQ below (Qi E A h9 r9) args s 0 0 A) (F0 m 62 ls []) := by
  intro x0 x2 x4 h H locs ls hl S hf
  unfold fX9_step_62 at hf
  refine lv_iload X.1 X.2.1 dX9_step_62 (lv_at hl 2 rfl) ?_
  refine lv_bipush (v := 6) X.1 X.2.1 dX9_step_64 (by decide) ?_
  refine lv_icmp_ne (tgt := 86) X.1 X.2.1 dX9_step_66 (by decide) (fun c1 => ?_) (fun c1 => ?_)
  · replace hf := (if_neg c1).symm.trans hf
    exact wfX9_step_86 X hr hlk hnm _ _ _ _ _ _ _ hl S hf
  · replace hf := (if_pos c1).symm.trans hf
    refine g_aload_n X (or_rv _) dX9_step_69 rfl (lv_at hl 0 rfl) ?_
    refine g_gR X S foX9_45 dX9_step_70 hf (fun v2 hf => ?_)
    refine lv_sipush (v := 273) X.1 X.2.1 dX9_step_73 (by decide) ?_
    obtain ⟨v3, hc, hf⟩ := ob_some hf
    refine g_ci S (runV (As := [.int 273]) (rest := []) X S coX9_64 (by decide) (cX10_cell_m l hc) (tkX10_cell hc) rfl hl.1 (by decide) rfl ⟨Nat.zero_le _, Nat.zero_le _⟩ dX9_step_76) (fun H locs S => ?_)
    refine lv_iconst (v := (-1)) X.1 X.2.1 dX9_step_79 (by decide) ?_
    refine lv_icmp_ne (tgt := 86) X.1 X.2.1 dX9_step_80 (by decide) (fun c4 => ?_) (fun c4 => ?_)
    · replace hf := (if_neg c4).symm.trans hf
      exact wfX9_step_86 X hr hlk hnm _ _ _ _ _ _ _ hl S hf
    · replace hf := (if_pos c4).symm.trans hf
      refine lv_iconst (v := 0) X.1 X.2.1 dX9_step_83 (by decide) ?_
      refine lv_istore (lv' := [(4, .int 0), (0, rv x0), (2, .int x2)]) X.1 X.2.1 dX9_step_84 hl (by decide) rfl (fun ls hl => ?_)
      exact wfX9_step_86 X hr hlk hnm _ _ _ _ _ _ _ (lv_sub hl [1, 2, 0] rfl) S hf
def fX9_step (a0 : Nat) (a1 : Nat) (h : Hp) : Option (Int32 × Hp) := gd 8 a0 h (ob (fX10_cell a1 265 h) fun v1 => ob (gR 8 a0 5 h) fun v2 => ob (fX6_told v2 v1 h) fun v3 => if v3 = 0 then some (0, h) else ob (pR 8 a0 6 a1 h) fun h => ob (pR 8 a0 7 v3 h) fun h => ob (pI 8 a0 12 (v1 + 1) h) fun h => ob (pZ 8 a0 13 0 h) fun h => ob2 (fX9_checked a0 h) fun v5 h => if v5 = 0 then ob2 (fX9_perform a0 h) fun v7 h => fX9_step_62 a0 v1 v7 h else fX9_step_62 a0 v1 v5 h)
theorem tkX9_step {a0 : Nat} {a1 : Nat} {h : Hp} {r9 : Int32 × Hp} (e : fX9_step a0 a1 h = some r9) : hK h a0 = 8 := by
  unfold fX9_step at e
  exact (gd_some e).1
theorem cX9_step_m (l : Launch) {E : EE} {A : Nat → Prop} {a0 : Nat} {a1 : Nat} {h : Hp} {r9 : Int32} {h9 : Hp} (hf : fX9_step a0 a1 h = some (r9, h9)) : Met l yX9_step (wsM yX9_step cX9_step 5 (some .int)) (rmm 12 0 0) (PcE E A h [rv a0, rv a1]) (Qi E A h9 r9) 0 0 A := by
  refine met_of (by decide +kernel) (by simp [lg_sl, cat_rv, cat_wv, cat_sv, cat_i, cat_l, cat_a]) (fun p e s m args below meth c ls X hr hlk hnm S hl => ?_)
  have hl : lv_has ls 5 [(0, rv a0), (1, rv a1)] := by simpa [lv_args, cat_rv, cat_wv, cat_sv, cat_i, cat_l, cat_a] using hl
  generalize hH : s.heap = H at S ⊢
  generalize hlo : ([] : List Loc) = locs at S ⊢
  clear hH hlo
  unfold fX9_step at hf
  obtain ⟨hth, hf⟩ := gd_some hf
  refine g_aload_n X (or_rv _) dX9_step_0 rfl (lv_at hl 1 rfl) ?_
  refine lv_sipush (v := 265) X.1 X.2.1 dX9_step_1 (by decide) ?_
  obtain ⟨v1, hc, hf⟩ := ob_some hf
  refine g_ci S (runV (As := [.int 265]) (rest := []) X S coX9_64 (by decide) (cX10_cell_m l hc) (tkX10_cell hc) rfl hl.1 (by decide) rfl ⟨Nat.zero_le _, Nat.zero_le _⟩ dX9_step_4) (fun H locs S => ?_)
  refine lv_istore_n (i := 2) (lv' := [(2, .int v1), (0, rv a0), (1, rv a1)]) X.1 X.2.1 dX9_step_7 rfl hl (by decide) (by simp [List.filter, cat_rv, cat_wv, cat_sv]) (fun ls hl => ?_)
  refine g_aload_n X (or_rv _) dX9_step_8 rfl (lv_at hl 1 rfl) ?_
  refine g_gR X S foX9_38 dX9_step_9 hf (fun v2 hf => ?_)
  refine lv_iload_n X.1 X.2.1 dX9_step_12 rfl (lv_at hl 0 rfl) ?_
  obtain ⟨v3, hc, hf⟩ := ob_some hf
  refine g_cq S (runV (As := [.int v1]) (rest := []) X S coX9_68 (by decide) (cX6_told_m l hc) (tkX6_told hc) rfl hl.1 (by decide) rfl ⟨Nat.zero_le _, Nat.zero_le _⟩ dX9_step_13) (fun H locs S => ?_)
  change W _ _ _ _ _ _ _ _ _ _ _ _ _ _ _ (F0 _ _ _ (rv v3 :: _))
  refine g_astore_n (i := 3) (lv' := [(3, rv v3), (2, .int v1), (0, rv a0), (1, rv a1)]) X (or_rv _) dX9_step_16 rfl hl (by decide) rfl (fun ls hl => ?_)
  refine g_aload_n X (or_rv _) dX9_step_17 rfl (lv_at hl 0 rfl) ?_
  refine g_ifnonnull (tgt := 23) X dX9_step_18 (by decide) (fun c4 => ?_) (fun c4 => ?_)
  · replace hf := (if_neg c4).symm.trans hf
    refine g_aload_n X (or_rv _) dX9_step_23 rfl (lv_at hl 2 rfl) ?_
    refine g_aload_n X (or_rv _) dX9_step_24 rfl (lv_at hl 3 rfl) ?_
    refine g_pR X S fpX9_45 (Or.inl ⟨_, rfl⟩) (Or.inl rfl) dX9_step_25 hf (fun h H locs hm hf S => ?_)
    refine g_aload_n X (or_rv _) dX9_step_28 rfl (lv_at hl 2 rfl) ?_
    refine g_aload_n X (or_rv _) dX9_step_29 rfl (lv_at hl 0 rfl) ?_
    refine g_pR X S fpX9_52 (Or.inl ⟨_, rfl⟩) (Or.inl rfl) dX9_step_30 hf (fun h H locs hm hf S => ?_)
    refine g_aload_n X (or_rv _) dX9_step_33 rfl (lv_at hl 2 rfl) ?_
    refine lv_iload_n X.1 X.2.1 dX9_step_34 rfl (lv_at hl 1 rfl) ?_
    refine lv_iconst (v := 1) X.1 X.2.1 dX9_step_35 (by decide) ?_
    refine lv_iadd X.1 X.2.1 dX9_step_36 ?_
    refine g_pI X S fpX9_72 (Or.inl rfl) dX9_step_37 hf (fun h H locs hm hf S => ?_)
    refine g_aload_n X (or_rv _) dX9_step_40 rfl (lv_at hl 2 rfl) ?_
    refine lv_iconst (v := 0) X.1 X.2.1 dX9_step_41 (by decide) ?_
    refine g_pZ X S fpX9_76 (Or.inl rfl) dX9_step_42 hf (fun h H locs hm hf S => ?_)
    refine g_aload_n X (or_rv _) dX9_step_45 rfl (lv_at hl 2 rfl) ?_
    obtain ⟨v5, h, hc, hf⟩ := ob2_some hf
    refine g_ci S (runV (As := []) (rest := []) X S coX9_80 (by decide) (cX9_checked_m l hc) (tkX9_checked hc) rfl hl.1 (by decide) rfl ⟨Nat.zero_le _, Nat.zero_le _⟩ dX9_step_46) (fun H locs S => ?_)
    refine lv_istore (lv' := [(4, .int v5), (3, rv v3), (2, .int v1), (0, rv a0), (1, rv a1)]) X.1 X.2.1 dX9_step_49 hl (by decide) (by simp [List.filter, cat_rv, cat_wv, cat_sv]) (fun ls hl => ?_)
    refine lv_iload X.1 X.2.1 dX9_step_51 (lv_at hl 0 rfl) ?_
    refine lv_if_ne (tgt := 62) X.1 X.2.1 dX9_step_53 (by decide) (fun c6 => ?_) (fun c6 => ?_)
    · replace hf := (if_neg c6).symm.trans hf
      exact wfX9_step_62 X hr hlk hnm _ _ _ _ _ _ _ (lv_sub hl [3, 2, 0] rfl) S hf
    · replace hf := (if_pos c6).symm.trans hf
      refine g_aload_n X (or_rv _) dX9_step_56 rfl (lv_at hl 3 rfl) ?_
      obtain ⟨v7, h, hc, hf⟩ := ob2_some hf
      refine g_ci S (runV (As := []) (rest := []) X S coX9_83 (by decide) (cX9_perform_m l hc) (tkX9_perform hc) rfl hl.1 (by decide) rfl ⟨Nat.zero_le _, Nat.zero_le _⟩ dX9_step_57) (fun H locs S => ?_)
      refine lv_istore (lv' := [(4, .int v7), (3, rv v3), (2, .int v1), (0, rv a0), (1, rv a1)]) X.1 X.2.1 dX9_step_60 hl (by decide) (by simp [List.filter, cat_rv, cat_wv, cat_sv]) (fun ls hl => ?_)
      exact wfX9_step_62 X hr hlk hnm _ _ _ _ _ _ _ (lv_sub hl [3, 2, 0] rfl) S hf
  · replace hf := (if_pos c4).symm.trans hf
    refine lv_iconst (v := 0) X.1 X.2.1 dX9_step_21 (by decide) ?_
    cases hf; exact g_ri X S hr hlk dX9_step_22
def fX9_restart (a0 : Nat) (a1 : Nat) (h : Hp) : Option (Hp) := gd 8 a0 h (ob (gR 8 a0 5 h) fun v1 => ob (fX10_restart a1 v1 h) fun h => some h)
theorem tkX9_restart {a0 : Nat} {a1 : Nat} {h : Hp} {r9 : Hp} (e : fX9_restart a0 a1 h = some r9) : hK h a0 = 8 := by
  unfold fX9_restart at e
  exact (gd_some e).1
theorem cX9_restart_m (l : Launch) {E : EE} {A : Nat → Prop} {a0 : Nat} {a1 : Nat} {h : Hp} {h9 : Hp} (hf : fX9_restart a0 a1 h = some h9) : Met l yX9_restart (wsM yX9_restart cX9_restart 2 none) (rmm 11 0 0) (PcE E A h [rv a0, rv a1]) (Qv E A h9) 0 0 A := by
  refine met_of (by decide +kernel) (by simp [lg_sl, cat_rv, cat_wv, cat_sv, cat_i, cat_l, cat_a]) (fun p e s m args below meth c ls X hr hlk hnm S hl => ?_)
  have hl : lv_has ls 2 [(0, rv a0), (1, rv a1)] := by simpa [lv_args, cat_rv, cat_wv, cat_sv, cat_i, cat_l, cat_a] using hl
  generalize hH : s.heap = H at S ⊢
  generalize hlo : ([] : List Loc) = locs at S ⊢
  clear hH hlo
  unfold fX9_restart at hf
  obtain ⟨hth, hf⟩ := gd_some hf
  refine g_aload_n X (or_rv _) dX9_restart_0 rfl (lv_at hl 1 rfl) ?_
  refine g_aload_n X (or_rv _) dX9_restart_1 rfl (lv_at hl 0 rfl) ?_
  refine g_gR X S foX9_38 dX9_restart_2 hf (fun v1 hf => ?_)
  obtain ⟨h, hc, hf⟩ := ob_some hf
  refine g_cv S (runV (As := [rv v1]) (rest := []) X S coX9_60 (by decide) (cX10_restart_m l hc) (tkX10_restart hc) rfl hl.1 (by decide) rfl ⟨Nat.zero_le _, Nat.zero_le _⟩ dX9_restart_5) (fun H locs S => ?_)
  cases hf; exact g_rv X S hr hlk dX9_restart_8
end GM
