section GM
variable {p : Program} {l : Launch} {e : Env} {R : Room} {s : State} {m : MethodId} {args : Array Value} {below : List Frame} {meth : Method} {c : Code} {E : EE} {A : Nat → Prop}
def fX4_init (a0 : Nat) (h : Hp) : Option (Hp) := gd 4 a0 h (ob2 (newO 8 14 h) fun p1 h => oba h (fX9_init p1 h) fun h => ob (pR 4 a0 0 p1 h) fun h => ob2 (newO 9 1 h) fun p3 h => oba h (fX10_init p3 h) fun h => ob (pR 4 a0 1 p3 h) fun h => ob2 (newO 9 1 h) fun p5 h => oba h (fX10_init p5 h) fun h => ob (pR 4 a0 2 p5 h) fun h => ob2 (newA 101 4 4 h) fun p7 h => ob (pR 4 a0 3 p7 h) fun h => some h)
theorem tkX4_init {a0 : Nat} {h : Hp} {r9 : Hp} (e : fX4_init a0 h = some r9) : hK h a0 = 4 := by
  unfold fX4_init at e
  exact (gd_some e).1
theorem cX4_init_m (l : Launch) {E : EE} {A : Nat → Prop} {a0 : Nat} {h : Hp} {h9 : Hp} {mc ms : Nat} (hmc : mc + hX h = hC h) (hms : ms + hU h = hZ h) (hf : fX4_init a0 h = some h9) : Met l yX4_init (wsM yX4_init cX4_init 1 none) (rmm 13 mc ms) (PcF E A h [rv a0]) (QG (Qv E A h9) h h9) mc ms A := by
  refine met_ofA (by decide +kernel) (by simp [lg_sl, cat_rv, cat_wv, cat_sv, cat_i, cat_l, cat_a]) hmc hms (fun p e s m args below meth c ls X hr hlk hnm S AI hl => ?_)
  have hl : lv_has ls 1 [(0, rv a0)] := by simpa [lv_args, cat_rv, cat_wv, cat_sv, cat_i, cat_l, cat_a] using hl
  generalize hH : s.heap = H at S ⊢
  generalize hlo : ([] : List Loc) = locs at S ⊢
  clear hH hlo
  unfold fX4_init at hf
  obtain ⟨hth, hf⟩ := gd_some hf
  refine g_aload_n X (or_rv _) dX4_init_0 rfl (lv_at hl 0 rfl) ?_
  refine g_oi (rest := []) X S hl.1 oiX4_3 dX4_init_1 (by decide) (by decide) (dom_ne S.1.1 hth (by decide)) ?_
  refine g_aload_n X (or_rv _) dX4_init_4 rfl (lv_at hl 0 rfl) ?_
  refine g_newO X S AI noX4_9 dX4_init_5 hf (fun p1 h H cells slots hkp1 hf S AI => ?_)
  refine lv_dup X.1 X.2.1 dX4_init_8 (cat_rv _) ?_
  obtain ⟨h, hc, hok, hf⟩ := oba_some hf
  refine g_cvA S AI hok (fun hsz => runIF (As := []) (rest := [rv p1, rv a0]) X S hsz coX4_11 (by decide) (cX9_init_m l AI.mcs.1 AI.mcs.2 hc) (tkX9_init hc) (by decide) rfl hl.1 (by simp [cat_rv, cat_wv, cat_sv, cat_i, cat_l, cat_a]) rfl AI.room dX4_init_9) (fun H locs cells slots S AI => ?_)
  refine g_pR X S fpX4_12 (Or.inl ⟨_, rfl⟩) (Or.inr hnm) dX4_init_12 hf (fun h H locs hm hf S => ?_)
  replace AI := AI.sm hm
  refine g_aload_n X (or_rv _) dX4_init_15 rfl (lv_at hl 0 rfl) ?_
  refine g_newO X S AI noX4_18 dX4_init_16 hf (fun p3 h H cells slots hkp3 hf S AI => ?_)
  refine lv_dup X.1 X.2.1 dX4_init_19 (cat_rv _) ?_
  obtain ⟨h, hc, hok, hf⟩ := oba_some hf
  refine g_cvA S AI hok (fun hsz => runIF (As := []) (rest := [rv p3, rv a0]) X S hsz coX4_20 (by decide) (cX10_init_m l AI.mcs.1 AI.mcs.2 hc) (tkX10_init hc) (by decide) rfl hl.1 (by simp [cat_rv, cat_wv, cat_sv, cat_i, cat_l, cat_a]) rfl AI.room dX4_init_20) (fun H locs cells slots S AI => ?_)
  refine g_pR X S fpX4_21 (Or.inl ⟨_, rfl⟩) (Or.inr hnm) dX4_init_23 hf (fun h H locs hm hf S => ?_)
  replace AI := AI.sm hm
  refine g_aload_n X (or_rv _) dX4_init_26 rfl (lv_at hl 0 rfl) ?_
  refine g_newO X S AI noX4_18 dX4_init_27 hf (fun p5 h H cells slots hkp5 hf S AI => ?_)
  refine lv_dup X.1 X.2.1 dX4_init_30 (cat_rv _) ?_
  obtain ⟨h, hc, hok, hf⟩ := oba_some hf
  refine g_cvA S AI hok (fun hsz => runIF (As := []) (rest := [rv p5, rv a0]) X S hsz coX4_20 (by decide) (cX10_init_m l AI.mcs.1 AI.mcs.2 hc) (tkX10_init hc) (by decide) rfl hl.1 (by simp [cat_rv, cat_wv, cat_sv, cat_i, cat_l, cat_a]) rfl AI.room dX4_init_31) (fun H locs cells slots S AI => ?_)
  refine g_pR X S fpX4_25 (Or.inl ⟨_, rfl⟩) (Or.inr hnm) dX4_init_34 hf (fun h H locs hm hf S => ?_)
  replace AI := AI.sm hm
  refine g_aload_n X (or_rv _) dX4_init_37 rfl (lv_at hl 0 rfl) ?_
  refine lv_iconst (v := 4) X.1 X.2.1 dX4_init_38 (by decide) ?_
  refine g_newI X S AI dX4_init_39 hf (fun p7 h H cells slots hf S AI => ?_)
  refine g_pR X S fpX4_28 (Or.inr ⟨_, rfl⟩) (Or.inr hnm) dX4_init_41 hf (fun h H locs hm hf S => ?_)
  replace AI := AI.sm hm
  cases hf; exact g_rvA X S AI hr hlk dX4_init_44
def fX2_init (a0 : Nat) (h : Hp) : Option (Hp) := gd 2 a0 h (ob2 (newO 9 1 h) fun p1 h => oba h (fX10_init p1 h) fun h => ob (pR 2 a0 0 p1 h) fun h => ob2 (newA 103 4 40 h) fun p3 h => ob (pR 2 a0 1 p3 h) fun h => ob2 (newA 101 4 24 h) fun p4 h => ob (pR 2 a0 4 p4 h) fun h => ob2 (newA 101 4 3 h) fun p5 h => ob (pR 2 a0 6 p5 h) fun h => some h)
theorem tkX2_init {a0 : Nat} {h : Hp} {r9 : Hp} (e : fX2_init a0 h = some r9) : hK h a0 = 2 := by
  unfold fX2_init at e
  exact (gd_some e).1
theorem cX2_init_m (l : Launch) {E : EE} {A : Nat → Prop} {a0 : Nat} {h : Hp} {h9 : Hp} {mc ms : Nat} (hmc : mc + hX h = hC h) (hms : ms + hU h = hZ h) (hf : fX2_init a0 h = some h9) : Met l yX2_init (wsM yX2_init cX2_init 1 none) (rmm 11 mc ms) (PcF E A h [rv a0]) (QG (Qv E A h9) h h9) mc ms A := by
  refine met_ofA (by decide +kernel) (by simp [lg_sl, cat_rv, cat_wv, cat_sv, cat_i, cat_l, cat_a]) hmc hms (fun p e s m args below meth c ls X hr hlk hnm S AI hl => ?_)
  have hl : lv_has ls 1 [(0, rv a0)] := by simpa [lv_args, cat_rv, cat_wv, cat_sv, cat_i, cat_l, cat_a] using hl
  generalize hH : s.heap = H at S ⊢
  generalize hlo : ([] : List Loc) = locs at S ⊢
  clear hH hlo
  unfold fX2_init at hf
  obtain ⟨hth, hf⟩ := gd_some hf
  refine g_aload_n X (or_rv _) dX2_init_0 rfl (lv_at hl 0 rfl) ?_
  refine g_oi (rest := []) X S hl.1 oiX2_3 dX2_init_1 (by decide) (by decide) (dom_ne S.1.1 hth (by decide)) ?_
  refine g_aload_n X (or_rv _) dX2_init_4 rfl (lv_at hl 0 rfl) ?_
  refine g_newO X S AI noX2_9 dX2_init_5 hf (fun p1 h H cells slots hkp1 hf S AI => ?_)
  refine lv_dup X.1 X.2.1 dX2_init_8 (cat_rv _) ?_
  obtain ⟨h, hc, hok, hf⟩ := oba_some hf
  refine g_cvA S AI hok (fun hsz => runIF (As := []) (rest := [rv p1, rv a0]) X S hsz coX2_11 (by decide) (cX10_init_m l AI.mcs.1 AI.mcs.2 hc) (tkX10_init hc) (by decide) rfl hl.1 (by simp [cat_rv, cat_wv, cat_sv, cat_i, cat_l, cat_a]) rfl AI.room dX2_init_9) (fun H locs cells slots S AI => ?_)
  refine g_pR X S fpX2_12 (Or.inl ⟨_, rfl⟩) (Or.inr hnm) dX2_init_12 hf (fun h H locs hm hf S => ?_)
  replace AI := AI.sm hm
  refine g_aload_n X (or_rv _) dX2_init_15 rfl (lv_at hl 0 rfl) ?_
  refine lv_bipush (v := 40) X.1 X.2.1 dX2_init_16 (by decide) ?_
  refine g_newQ (t0 := 2) X S AI ⟨by decide, rfl⟩ (Kon.ao103 X.2.2.2.2.2.2.2.1) clX2_9 dX2_init_18 hf (fun p3 h H cells slots hf S AI => ?_)
  refine g_pR X S fpX2_18 (Or.inr ⟨_, rfl⟩) (Or.inr hnm) dX2_init_21 hf (fun h H locs hm hf S => ?_)
  replace AI := AI.sm hm
  refine g_aload_n X (or_rv _) dX2_init_24 rfl (lv_at hl 0 rfl) ?_
  refine lv_bipush (v := 24) X.1 X.2.1 dX2_init_25 (by decide) ?_
  refine g_newI X S AI dX2_init_27 hf (fun p4 h H cells slots hf S AI => ?_)
  refine g_pR X S fpX2_22 (Or.inr ⟨_, rfl⟩) (Or.inr hnm) dX2_init_29 hf (fun h H locs hm hf S => ?_)
  replace AI := AI.sm hm
  refine g_aload_n X (or_rv _) dX2_init_32 rfl (lv_at hl 0 rfl) ?_
  refine lv_iconst (v := 3) X.1 X.2.1 dX2_init_33 (by decide) ?_
  refine g_newI X S AI dX2_init_34 hf (fun p5 h H cells slots hf S AI => ?_)
  refine g_pR X S fpX2_26 (Or.inr ⟨_, rfl⟩) (Or.inr hnm) dX2_init_36 hf (fun h H locs hm hf S => ?_)
  replace AI := AI.sm hm
  cases hf; exact g_rvA X S AI hr hlk dX2_init_39
def fX12_init (a0 : Nat) (h : Hp) : Option (Hp) := gd 10 a0 h (ob2 (newA 101 4 700 h) fun p1 h => ob (pR 10 a0 0 p1 h) fun h => ob (pI 10 a0 2 (-1) h) fun h => ob2 (newO 6 3 h) fun p2 h => oba h (fX6_init p2 h) fun h => ob (pR 10 a0 3 p2 h) fun h => ob2 (newO 7 12 h) fun p4 h => oba h (fX8_init p4 h) fun h => ob (pR 10 a0 4 p4 h) fun h => ob2 (newO 4 5 h) fun p6 h => oba h (fX4_init p6 h) fun h => ob (pR 10 a0 5 p6 h) fun h => ob2 (newO 3 17 h) fun p8 h => oba h (fX3_init p8 h) fun h => ob (pR 10 a0 6 p8 h) fun h => ob2 (newO 1 3 h) fun p10 h => oba h (fX1_init p10 h) fun h => ob (pR 10 a0 7 p10 h) fun h => ob2 (newO 1 3 h) fun p12 h => oba h (fX1_init p12 h) fun h => ob (pR 10 a0 8 p12 h) fun h => ob2 (newO 1 3 h) fun p14 h => oba h (fX1_init p14 h) fun h => ob (pR 10 a0 9 p14 h) fun h => ob2 (newO 2 7 h) fun p16 h => oba h (fX2_init p16 h) fun h => ob (pR 10 a0 10 p16 h) fun h => some h)
theorem tkX12_init {a0 : Nat} {h : Hp} {r9 : Hp} (e : fX12_init a0 h = some r9) : hK h a0 = 10 := by
  unfold fX12_init at e
  exact (gd_some e).1
theorem cX12_init_m (l : Launch) {E : EE} {A : Nat → Prop} {a0 : Nat} {h : Hp} {h9 : Hp} {mc ms : Nat} (hmc : mc + hX h = hC h) (hms : ms + hU h = hZ h) (hf : fX12_init a0 h = some h9) : Met l yX12_init (wsM yX12_init cX12_init 1 none) (rmm 14 mc ms) (PcF E A h [rv a0]) (QG (Qv E A h9) h h9) mc ms A := by
  refine met_ofA (by decide +kernel) (by simp [lg_sl, cat_rv, cat_wv, cat_sv, cat_i, cat_l, cat_a]) hmc hms (fun p e s m args below meth c ls X hr hlk hnm S AI hl => ?_)
  have hl : lv_has ls 1 [(0, rv a0)] := by simpa [lv_args, cat_rv, cat_wv, cat_sv, cat_i, cat_l, cat_a] using hl
  generalize hH : s.heap = H at S ⊢
  generalize hlo : ([] : List Loc) = locs at S ⊢
  clear hH hlo
  unfold fX12_init at hf
  obtain ⟨hth, hf⟩ := gd_some hf
  refine g_aload_n X (or_rv _) dX12_init_0 rfl (lv_at hl 0 rfl) ?_
  refine g_oi (rest := []) X S hl.1 oiX12_1 dX12_init_1 (by decide) (by decide) (dom_ne S.1.1 hth (by decide)) ?_
  refine g_aload_n X (or_rv _) dX12_init_4 rfl (lv_at hl 0 rfl) ?_
  refine lv_sipush (v := 700) X.1 X.2.1 dX12_init_5 (by decide) ?_
  refine g_newI X S AI dX12_init_8 hf (fun p1 h H cells slots hf S AI => ?_)
  refine g_pR X S fpX12_9 (Or.inr ⟨_, rfl⟩) (Or.inr hnm) dX12_init_10 hf (fun h H locs hm hf S => ?_)
  replace AI := AI.sm hm
  refine g_aload_n X (or_rv _) dX12_init_13 rfl (lv_at hl 0 rfl) ?_
  refine lv_iconst (v := (-1)) X.1 X.2.1 dX12_init_14 (by decide) ?_
  refine g_pI X S fpX12_13 (Or.inl rfl) dX12_init_15 hf (fun h H locs hm hf S => ?_)
  replace AI := AI.sm hm
  refine g_aload_n X (or_rv _) dX12_init_18 rfl (lv_at hl 0 rfl) ?_
  refine g_newO X S AI noX12_17 dX12_init_19 hf (fun p2 h H cells slots hkp2 hf S AI => ?_)
  refine lv_dup X.1 X.2.1 dX12_init_22 (cat_rv _) ?_
  obtain ⟨h, hc, hok, hf⟩ := oba_some hf
  refine g_cvA S AI hok (fun hsz => runIF (As := []) (rest := [rv p2, rv a0]) X S hsz coX12_19 (by decide) (cX6_init_m l AI.mcs.1 AI.mcs.2 hc) (tkX6_init hc) (by decide) rfl hl.1 (by simp [cat_rv, cat_wv, cat_sv, cat_i, cat_l, cat_a]) rfl AI.room dX12_init_23) (fun H locs cells slots S AI => ?_)
  refine g_pR X S fpX12_20 (Or.inl ⟨_, rfl⟩) (Or.inl rfl) dX12_init_26 hf (fun h H locs hm hf S => ?_)
  replace AI := AI.sm hm
  refine g_aload_n X (or_rv _) dX12_init_29 rfl (lv_at hl 0 rfl) ?_
  refine g_newO X S AI noX12_24 dX12_init_30 hf (fun p4 h H cells slots hkp4 hf S AI => ?_)
  refine lv_dup X.1 X.2.1 dX12_init_33 (cat_rv _) ?_
  obtain ⟨h, hc, hok, hf⟩ := oba_some hf
  refine g_cvA S AI hok (fun hsz => runIF (As := []) (rest := [rv p4, rv a0]) X S hsz coX12_26 (by decide) (cX8_init_m l AI.mcs.1 AI.mcs.2 hc) (tkX8_init hc) (by decide) rfl hl.1 (by simp [cat_rv, cat_wv, cat_sv, cat_i, cat_l, cat_a]) rfl AI.room dX12_init_34) (fun H locs cells slots S AI => ?_)
  refine g_pR X S fpX12_27 (Or.inl ⟨_, rfl⟩) (Or.inr hnm) dX12_init_37 hf (fun h H locs hm hf S => ?_)
  replace AI := AI.sm hm
  refine g_aload_n X (or_rv _) dX12_init_40 rfl (lv_at hl 0 rfl) ?_
  refine g_newO X S AI noX12_31 dX12_init_41 hf (fun p6 h H cells slots hkp6 hf S AI => ?_)
  refine lv_dup X.1 X.2.1 dX12_init_44 (cat_rv _) ?_
  obtain ⟨h, hc, hok, hf⟩ := oba_some hf
  refine g_cvA S AI hok (fun hsz => runIF (As := []) (rest := [rv p6, rv a0]) X S hsz coX12_33 (by decide) (cX4_init_m l AI.mcs.1 AI.mcs.2 hc) (tkX4_init hc) (by decide) rfl hl.1 (by simp [cat_rv, cat_wv, cat_sv, cat_i, cat_l, cat_a]) rfl AI.room dX12_init_45) (fun H locs cells slots S AI => ?_)
  refine g_pR X S fpX12_34 (Or.inl ⟨_, rfl⟩) (Or.inr hnm) dX12_init_48 hf (fun h H locs hm hf S => ?_)
  replace AI := AI.sm hm
  refine g_aload_n X (or_rv _) dX12_init_51 rfl (lv_at hl 0 rfl) ?_
  refine g_newO X S AI noX12_38 dX12_init_52 hf (fun p8 h H cells slots hkp8 hf S AI => ?_)
  refine lv_dup X.1 X.2.1 dX12_init_55 (cat_rv _) ?_
  obtain ⟨h, hc, hok, hf⟩ := oba_some hf
  refine g_cvA S AI hok (fun hsz => runIF (As := []) (rest := [rv p8, rv a0]) X S hsz coX12_40 (by decide) (cX3_init_m l AI.mcs.1 AI.mcs.2 hc) (tkX3_init hc) (by decide) rfl hl.1 (by simp [cat_rv, cat_wv, cat_sv, cat_i, cat_l, cat_a]) rfl AI.room dX12_init_56) (fun H locs cells slots S AI => ?_)
  refine g_pR X S fpX12_41 (Or.inl ⟨_, rfl⟩) (Or.inr hnm) dX12_init_59 hf (fun h H locs hm hf S => ?_)
  replace AI := AI.sm hm
  refine g_aload_n X (or_rv _) dX12_init_62 rfl (lv_at hl 0 rfl) ?_
  refine g_newO X S AI noX12_45 dX12_init_63 hf (fun p10 h H cells slots hkp10 hf S AI => ?_)
  refine lv_dup X.1 X.2.1 dX12_init_66 (cat_rv _) ?_
  obtain ⟨h, hc, hok, hf⟩ := oba_some hf
  refine g_cvA S AI hok (fun hsz => runIF (As := []) (rest := [rv p10, rv a0]) X S hsz coX12_47 (by decide) (cX1_init_m l AI.mcs.1 AI.mcs.2 hc) (tkX1_init hc) (by decide) rfl hl.1 (by simp [cat_rv, cat_wv, cat_sv, cat_i, cat_l, cat_a]) rfl AI.room dX12_init_67) (fun H locs cells slots S AI => ?_)
  refine g_pR X S fpX12_48 (Or.inl ⟨_, rfl⟩) (Or.inr hnm) dX12_init_70 hf (fun h H locs hm hf S => ?_)
  replace AI := AI.sm hm
  refine g_aload_n X (or_rv _) dX12_init_73 rfl (lv_at hl 0 rfl) ?_
  refine g_newO X S AI noX12_45 dX12_init_74 hf (fun p12 h H cells slots hkp12 hf S AI => ?_)
  refine lv_dup X.1 X.2.1 dX12_init_77 (cat_rv _) ?_
  obtain ⟨h, hc, hok, hf⟩ := oba_some hf
  refine g_cvA S AI hok (fun hsz => runIF (As := []) (rest := [rv p12, rv a0]) X S hsz coX12_47 (by decide) (cX1_init_m l AI.mcs.1 AI.mcs.2 hc) (tkX1_init hc) (by decide) rfl hl.1 (by simp [cat_rv, cat_wv, cat_sv, cat_i, cat_l, cat_a]) rfl AI.room dX12_init_78) (fun H locs cells slots S AI => ?_)
  refine g_pR X S fpX12_52 (Or.inl ⟨_, rfl⟩) (Or.inr hnm) dX12_init_81 hf (fun h H locs hm hf S => ?_)
  replace AI := AI.sm hm
  refine g_aload_n X (or_rv _) dX12_init_84 rfl (lv_at hl 0 rfl) ?_
  refine g_newO X S AI noX12_45 dX12_init_85 hf (fun p14 h H cells slots hkp14 hf S AI => ?_)
  refine lv_dup X.1 X.2.1 dX12_init_88 (cat_rv _) ?_
  obtain ⟨h, hc, hok, hf⟩ := oba_some hf
  refine g_cvA S AI hok (fun hsz => runIF (As := []) (rest := [rv p14, rv a0]) X S hsz coX12_47 (by decide) (cX1_init_m l AI.mcs.1 AI.mcs.2 hc) (tkX1_init hc) (by decide) rfl hl.1 (by simp [cat_rv, cat_wv, cat_sv, cat_i, cat_l, cat_a]) rfl AI.room dX12_init_89) (fun H locs cells slots S AI => ?_)
  refine g_pR X S fpX12_55 (Or.inl ⟨_, rfl⟩) (Or.inr hnm) dX12_init_92 hf (fun h H locs hm hf S => ?_)
  replace AI := AI.sm hm
  refine g_aload_n X (or_rv _) dX12_init_95 rfl (lv_at hl 0 rfl) ?_
  refine g_newO X S AI noX12_58 dX12_init_96 hf (fun p16 h H cells slots hkp16 hf S AI => ?_)
  refine lv_dup X.1 X.2.1 dX12_init_99 (cat_rv _) ?_
  obtain ⟨h, hc, hok, hf⟩ := oba_some hf
  refine g_cvA S AI hok (fun hsz => runIF (As := []) (rest := [rv p16, rv a0]) X S hsz coX12_60 (by decide) (cX2_init_m l AI.mcs.1 AI.mcs.2 hc) (tkX2_init hc) (by decide) rfl hl.1 (by simp [cat_rv, cat_wv, cat_sv, cat_i, cat_l, cat_a]) rfl AI.room dX12_init_100) (fun H locs cells slots S AI => ?_)
  refine g_pR X S fpX12_61 (Or.inl ⟨_, rfl⟩) (Or.inr hnm) dX12_init_103 hf (fun h H locs hm hf S => ?_)
  replace AI := AI.sm hm
  cases hf; exact g_rvA X S AI hr hlk dX12_init_106
def fX12_append_3 (k3 : Nat → Int32 → Int32 → Hp → Option (Hp)) (x0 : Nat) (x1 : Int32) (x2 : Int32) (h : Hp) : Option (Hp) := if x2 < 0 then some h else ob (gI 10 x0 1 h) fun v2 => if 700 ≤ v2 then some h else ob (gR 10 x0 0 h) fun v4 => ob (gI 10 x0 1 h) fun v5 => ob (qI v4 v5 ((ius x1 x2) &&& (255 : Int32)) h) fun h => ob (gI 10 x0 1 h) fun v6 => ob (pI 10 x0 1 (v6 + 1) h) fun h => lt (x2 + (-8)) fun z7 => k3 x0 x1 z7 h
theorem wfX12_append_3 {k3 : Nat → Int32 → Int32 → Hp → Option (Hp)} {h9 : Hp} (X : Cx p E A 8 R s m args c cX12_append yX12_append.cls 3) (hr : meth.sig.returnType = none) (hlk : meth.locks = false) (hnm : meth.name = yX12_append.name) (hk3 : ∀ (x0 : Nat) (x1 : Int32) (x2 : Int32) (h : Hp) (H : Heap) (locs : List Loc) (ls : Array Slot), lv_has ls 3 [(0, rv x0), (1, .int x1), (2, .int x2)] → St E A s h H locs → k3 x0 x1 x2 h = some h9 → W p l e R s m args below meth c H locs 0 0 (MQ below (Qv E A h9) args s 0 0 A) (F0 m 3 ls [])) :
    ∀ (x0 : Nat) (x1 : Int32) (x2 : Int32) (h : Hp) (H : Heap) (locs : List Loc) (ls : Array Slot), lv_has ls 3 [(0, rv x0), (1, .int x1), (2, .int x2)] → St E A s h H locs → fX12_append_3 k3 x0 x1 x2 h = some h9 → W p l e R s m args below meth c H locs 0 0 (MQ below (Qv E A h9) args s 0 0 A) (F0 m 3 ls []) := by
  intro x0 x1 x2 h H locs ls hl S hf
  unfold fX12_append_3 at hf
  refine lv_iload_n X.1 X.2.1 dX12_append_3 rfl (lv_at hl 2 rfl) ?_
  refine lv_if_lt (tgt := 49) X.1 X.2.1 dX12_append_4 (by decide) (fun c1 => ?_) (fun c1 => ?_)
  · replace hf := (if_pos c1).symm.trans hf
    cases hf; exact g_rv X S hr hlk dX12_append_49
  · replace hf := (if_neg c1).symm.trans hf
    refine g_aload_n X (or_rv _) dX12_append_7 rfl (lv_at hl 0 rfl) ?_
    refine g_gI X S foX12_65 rfl dX12_append_8 hf (fun v2 hf => ?_)
    refine lv_sipush (v := 700) X.1 X.2.1 dX12_append_11 (by decide) ?_
    refine lv_icmp_ge (tgt := 49) X.1 X.2.1 dX12_append_14 (by decide) (fun c3 => ?_) (fun c3 => ?_)
    · replace hf := (if_pos c3).symm.trans hf
      cases hf; exact g_rv X S hr hlk dX12_append_49
    · replace hf := (if_neg c3).symm.trans hf
      refine g_aload_n X (or_rv _) dX12_append_17 rfl (lv_at hl 0 rfl) ?_
      refine g_gR X S foX12_9 dX12_append_18 hf (fun v4 hf => ?_)
      refine g_aload_n X (or_rv _) dX12_append_21 rfl (lv_at hl 0 rfl) ?_
      refine g_gI X S foX12_65 rfl dX12_append_22 hf (fun v5 hf => ?_)
      refine lv_iload_n X.1 X.2.1 dX12_append_25 rfl (lv_at hl 1 rfl) ?_
      refine lv_iload_n X.1 X.2.1 dX12_append_26 rfl (lv_at hl 2 rfl) ?_
      refine lv_iushr (v := ius x1 x2) X.1 X.2.1 dX12_append_27 rfl ?_
      refine lv_sipush (v := 255) X.1 X.2.1 dX12_append_28 (by decide) ?_
      refine lv_iand X.1 X.2.1 dX12_append_31 ?_
      refine g_qI X S dX12_append_32 hf (fun h H locs hm hf S => ?_)
      refine g_aload_n X (or_rv _) dX12_append_33 rfl (lv_at hl 0 rfl) ?_
      refine lv_dup X.1 X.2.1 dX12_append_34 (cat_rv _) ?_
      refine g_gI X S foX12_65 rfl dX12_append_35 hf (fun v6 hf => ?_)
      refine lv_iconst (v := 1) X.1 X.2.1 dX12_append_38 (by decide) ?_
      refine lv_iadd X.1 X.2.1 dX12_append_39 ?_
      refine g_pI X S fpX12_65 (Or.inl rfl) dX12_append_40 hf (fun h H locs hm hf S => ?_)
      obtain ⟨z7, ez7, hf⟩ := lt_some hf
      refine lv_iinc (v := z7) (lv' := [(2, .int z7), (0, rv x0), (1, .int x1)]) X.1 X.2.1 dX12_append_43 hl (k := 2) rfl (by rw [← ez7]; rfl) (by decide) rfl (fun ls hl => ?_)
      refine lv_goto (tgt := 3) X.1 X.2.1 dX12_append_46 (by decide) ?_
      exact hk3 _ _ _ _ _ _ _ (lv_sub hl [1, 2, 0] rfl) S hf
theorem wfX12_append_3_l {h9 : Hp} (X : Cx p E A 8 R s m args c cX12_append yX12_append.cls 3) (hr : meth.sig.returnType = none) (hlk : meth.locks = false) (hnm : meth.name = yX12_append.name) :
    ∀ (n : Nat) (x0 : Nat) (x1 : Int32) (x2 : Int32) (h : Hp) (H : Heap) (locs : List Loc) (ls : Array Slot), lv_has ls 3 [(0, rv x0), (1, .int x1), (2, .int x2)] → St E A s h H locs → lp (fun _ _ _ _ => none) (fX12_append_3) n x0 x1 x2 h = some h9 → W p l e R s m args below meth c H locs 0 0 (MQ below (Qv E A h9) args s 0 0 A) (F0 m 3 ls []) := by
  intro n
  induction n with
  | zero =>
    intro x0 x1 x2 h H locs ls hl S hf
    exact nomatch hf
  | succ n ih =>
    intro x0 x1 x2 h H locs ls hl S hf
    exact wfX12_append_3 X hr hlk hnm ih x0 x1 x2 h H locs ls hl S hf
def fX12_append (a0 : Nat) (a1 : Int32) (h : Hp) : Option (Hp) := gd 10 a0 h (lp (fun _ _ _ _ => none) (fX12_append_3) FU a0 a1 24 h)
theorem tkX12_append {a0 : Nat} {a1 : Int32} {h : Hp} {r9 : Hp} (e : fX12_append a0 a1 h = some r9) : hK h a0 = 10 := by
  unfold fX12_append at e
  exact (gd_some e).1
theorem cX12_append_m (l : Launch) {E : EE} {A : Nat → Prop} {a0 : Nat} {a1 : Int32} {h : Hp} {h9 : Hp} (hf : fX12_append a0 a1 h = some h9) : Met l yX12_append (wsM yX12_append cX12_append 3 none) (rmm 8 0 0) (PcE E A h [rv a0, .int a1]) (Qv E A h9) 0 0 A := by
  refine met_of (by decide +kernel) (by simp [lg_sl, cat_rv, cat_wv, cat_sv, cat_i, cat_l, cat_a]) (fun p e s m args below meth c ls X hr hlk hnm S hl => ?_)
  have hl : lv_has ls 3 [(0, rv a0), (1, .int a1)] := by simpa [lv_args, cat_rv, cat_wv, cat_sv, cat_i, cat_l, cat_a] using hl
  generalize hH : s.heap = H at S ⊢
  generalize hlo : ([] : List Loc) = locs at S ⊢
  clear hH hlo
  unfold fX12_append at hf
  obtain ⟨hth, hf⟩ := gd_some hf
  refine lv_bipush (v := 24) X.1 X.2.1 dX12_append_0 (by decide) ?_
  refine lv_istore_n (i := 2) (lv' := [(2, .int 24), (0, rv a0), (1, .int a1)]) X.1 X.2.1 dX12_append_2 rfl hl (by decide) rfl (fun ls hl => ?_)
  exact wfX12_append_3_l X hr hlk hnm FU _ _ _ _ _ _ _ (lv_sub hl [1, 2, 0] rfl) S hf
def fX12_feed (a0 : Nat) (a1 : Int32) (a2 : Int32) (a3 : Int32) (a4 : Int32) (a5 : Int32) (h : Hp) : Option (Int32 × Hp) := gd 10 a0 h (ob (gI 10 a0 1 h) fun v1 => if v1 ≤ 680 then ob (fX12_append a0 a1 h) fun h => ob (fX12_append a0 a2 h) fun h => ob (fX12_append a0 a3 h) fun h => ob (fX12_append a0 a4 h) fun h => ob (fX12_append a0 a5 h) fun h => ob (gI 10 a0 1 h) fun v8 => some (v8, h) else some ((-1), h))
theorem tkX12_feed {a0 : Nat} {a1 : Int32} {a2 : Int32} {a3 : Int32} {a4 : Int32} {a5 : Int32} {h : Hp} {r9 : Int32 × Hp} (e : fX12_feed a0 a1 a2 a3 a4 a5 h = some r9) : hK h a0 = 10 := by
  unfold fX12_feed at e
  exact (gd_some e).1
theorem cX12_feed_m (l : Launch) {E : EE} {A : Nat → Prop} {a0 : Nat} {a1 : Int32} {a2 : Int32} {a3 : Int32} {a4 : Int32} {a5 : Int32} {h : Hp} {r9 : Int32} {h9 : Hp} (hf : fX12_feed a0 a1 a2 a3 a4 a5 h = some (r9, h9)) : Met l yX12_feed (wsM yX12_feed cX12_feed 6 (some .int)) (rmm 9 0 0) (PcE E A h [rv a0, .int a1, .int a2, .int a3, .int a4, .int a5]) (Qi E A h9 r9) 0 0 A := by
  refine met_of (by decide +kernel) (by simp [lg_sl, cat_rv, cat_wv, cat_sv, cat_i, cat_l, cat_a]) (fun p e s m args below meth c ls X hr hlk hnm S hl => ?_)
  have hl : lv_has ls 6 [(0, rv a0), (1, .int a1), (2, .int a2), (3, .int a3), (4, .int a4), (5, .int a5)] := by simpa [lv_args, cat_rv, cat_wv, cat_sv, cat_i, cat_l, cat_a] using hl
  generalize hH : s.heap = H at S ⊢
  generalize hlo : ([] : List Loc) = locs at S ⊢
  clear hH hlo
  unfold fX12_feed at hf
  obtain ⟨hth, hf⟩ := gd_some hf
  refine g_aload_n X (or_rv _) dX12_feed_0 rfl (lv_at hl 0 rfl) ?_
  refine g_gI X S foX12_65 rfl dX12_feed_1 hf (fun v1 hf => ?_)
  refine lv_sipush (v := 680) X.1 X.2.1 dX12_feed_4 (by decide) ?_
  refine lv_icmp_le (tgt := 12) X.1 X.2.1 dX12_feed_7 (by decide) (fun c2 => ?_) (fun c2 => ?_)
  · replace hf := (if_pos c2).symm.trans hf
    refine g_aload_n X (or_rv _) dX12_feed_12 rfl (lv_at hl 0 rfl) ?_
    refine lv_iload_n X.1 X.2.1 dX12_feed_13 rfl (lv_at hl 1 rfl) ?_
    obtain ⟨h, hc, hf⟩ := ob_some hf
    refine g_cv S (runV (As := [.int a1]) (rest := []) X S coX12_68 (by decide) (cX12_append_m l hc) (tkX12_append hc) rfl hl.1 (by decide) rfl ⟨Nat.zero_le _, Nat.zero_le _⟩ dX12_feed_14) (fun H locs S => ?_)
    refine g_aload_n X (or_rv _) dX12_feed_17 rfl (lv_at hl 0 rfl) ?_
    refine lv_iload_n X.1 X.2.1 dX12_feed_18 rfl (lv_at hl 2 rfl) ?_
    obtain ⟨h, hc, hf⟩ := ob_some hf
    refine g_cv S (runV (As := [.int a2]) (rest := []) X S coX12_68 (by decide) (cX12_append_m l hc) (tkX12_append hc) rfl hl.1 (by decide) rfl ⟨Nat.zero_le _, Nat.zero_le _⟩ dX12_feed_19) (fun H locs S => ?_)
    refine g_aload_n X (or_rv _) dX12_feed_22 rfl (lv_at hl 0 rfl) ?_
    refine lv_iload_n X.1 X.2.1 dX12_feed_23 rfl (lv_at hl 3 rfl) ?_
    obtain ⟨h, hc, hf⟩ := ob_some hf
    refine g_cv S (runV (As := [.int a3]) (rest := []) X S coX12_68 (by decide) (cX12_append_m l hc) (tkX12_append hc) rfl hl.1 (by decide) rfl ⟨Nat.zero_le _, Nat.zero_le _⟩ dX12_feed_24) (fun H locs S => ?_)
    refine g_aload_n X (or_rv _) dX12_feed_27 rfl (lv_at hl 0 rfl) ?_
    refine lv_iload X.1 X.2.1 dX12_feed_28 (lv_at hl 4 rfl) ?_
    obtain ⟨h, hc, hf⟩ := ob_some hf
    refine g_cv S (runV (As := [.int a4]) (rest := []) X S coX12_68 (by decide) (cX12_append_m l hc) (tkX12_append hc) rfl hl.1 (by decide) rfl ⟨Nat.zero_le _, Nat.zero_le _⟩ dX12_feed_30) (fun H locs S => ?_)
    refine g_aload_n X (or_rv _) dX12_feed_33 rfl (lv_at hl 0 rfl) ?_
    refine lv_iload X.1 X.2.1 dX12_feed_34 (lv_at hl 5 rfl) ?_
    obtain ⟨h, hc, hf⟩ := ob_some hf
    refine g_cv S (runV (As := [.int a5]) (rest := []) X S coX12_68 (by decide) (cX12_append_m l hc) (tkX12_append hc) rfl hl.1 (by decide) rfl ⟨Nat.zero_le _, Nat.zero_le _⟩ dX12_feed_36) (fun H locs S => ?_)
    refine g_aload_n X (or_rv _) dX12_feed_39 rfl (lv_at hl 0 rfl) ?_
    refine g_gI X S foX12_65 rfl dX12_feed_40 hf (fun v8 hf => ?_)
    cases hf; exact g_ri X S hr hlk dX12_feed_43
  · replace hf := (if_neg c2).symm.trans hf
    refine lv_iconst (v := (-1)) X.1 X.2.1 dX12_feed_10 (by decide) ?_
    cases hf; exact g_ri X S hr hlk dX12_feed_11
def fX2_refuse (a0 : Nat) (a1 : Int32) (h : Hp) : Option (Hp) := gd 2 a0 h (if a1 < 0 then some h else ob (gR 2 a0 6 h) fun v2 => ob (aN 101 v2 h) fun v3 => if v3 ≤ a1 then some h else ob (gR 2 a0 6 h) fun v5 => ob (aI v5 a1 h) fun v6 => ob (qI v5 a1 (v6 + 1) h) fun h => some h)
theorem tkX2_refuse {a0 : Nat} {a1 : Int32} {h : Hp} {r9 : Hp} (e : fX2_refuse a0 a1 h = some r9) : hK h a0 = 2 := by
  unfold fX2_refuse at e
  exact (gd_some e).1
theorem cX2_refuse_m (l : Launch) {E : EE} {A : Nat → Prop} {a0 : Nat} {a1 : Int32} {h : Hp} {h9 : Hp} (hf : fX2_refuse a0 a1 h = some h9) : Met l yX2_refuse (wsM yX2_refuse cX2_refuse 2 none) (rmm 8 0 0) (PcE E A h [rv a0, .int a1]) (Qv E A h9) 0 0 A := by
  refine met_of (by decide +kernel) (by simp [lg_sl, cat_rv, cat_wv, cat_sv, cat_i, cat_l, cat_a]) (fun p e s m args below meth c ls X hr hlk hnm S hl => ?_)
  have hl : lv_has ls 2 [(0, rv a0), (1, .int a1)] := by simpa [lv_args, cat_rv, cat_wv, cat_sv, cat_i, cat_l, cat_a] using hl
  generalize hH : s.heap = H at S ⊢
  generalize hlo : ([] : List Loc) = locs at S ⊢
  clear hH hlo
  unfold fX2_refuse at hf
  obtain ⟨hth, hf⟩ := gd_some hf
  refine lv_iload_n X.1 X.2.1 dX2_refuse_0 rfl (lv_at hl 1 rfl) ?_
  refine lv_if_lt (tgt := 23) X.1 X.2.1 dX2_refuse_1 (by decide) (fun c1 => ?_) (fun c1 => ?_)
  · replace hf := (if_pos c1).symm.trans hf
    cases hf; exact g_rv X S hr hlk dX2_refuse_23
  · replace hf := (if_neg c1).symm.trans hf
    refine lv_iload_n X.1 X.2.1 dX2_refuse_4 rfl (lv_at hl 1 rfl) ?_
    refine g_aload_n X (or_rv _) dX2_refuse_5 rfl (lv_at hl 0 rfl) ?_
    refine g_gR X S foX2_26 dX2_refuse_6 hf (fun v2 hf => ?_)
    refine g_aN X S (by decide) dX2_refuse_9 hf (fun v3 hf => ?_)
    refine lv_icmp_ge (tgt := 23) X.1 X.2.1 dX2_refuse_10 (by decide) (fun c4 => ?_) (fun c4 => ?_)
    · replace hf := (if_pos c4).symm.trans hf
      cases hf; exact g_rv X S hr hlk dX2_refuse_23
    · replace hf := (if_neg c4).symm.trans hf
      refine g_aload_n X (or_rv _) dX2_refuse_13 rfl (lv_at hl 0 rfl) ?_
      refine g_gR X S foX2_26 dX2_refuse_14 hf (fun v5 hf => ?_)
      refine lv_iload_n X.1 X.2.1 dX2_refuse_17 rfl (lv_at hl 1 rfl) ?_
      refine lv_dup2_11 X.1 X.2.1 dX2_refuse_18 rfl (cat_rv _) ?_
      refine g_aI X S dX2_refuse_19 hf (fun v6 hf => ?_)
      refine lv_iconst (v := 1) X.1 X.2.1 dX2_refuse_20 (by decide) ?_
      refine lv_iadd X.1 X.2.1 dX2_refuse_21 ?_
      refine g_qI X S dX2_refuse_22 hf (fun h H locs hm hf S => ?_)
      cases hf; exact g_rv X S hr hlk dX2_refuse_23
def fX2_renew (a0 : Nat) (a1 : Nat) (h : Hp) : Option (Hp) := gd 2 a0 h (ob (gR 2 a0 0 h) fun v1 => ob (fX10_renew v1 a1 h) fun h => ob (pI 2 a0 2 0 h) fun h => ob (pI 2 a0 3 0 h) fun h => ob (pI 2 a0 5 0 h) fun h => some h)
theorem tkX2_renew {a0 : Nat} {a1 : Nat} {h : Hp} {r9 : Hp} (e : fX2_renew a0 a1 h = some r9) : hK h a0 = 2 := by
  unfold fX2_renew at e
  exact (gd_some e).1
theorem cX2_renew_m (l : Launch) {E : EE} {A : Nat → Prop} {a0 : Nat} {a1 : Nat} {h : Hp} {h9 : Hp} (hf : fX2_renew a0 a1 h = some h9) : Met l yX2_renew (wsM yX2_renew cX2_renew 2 none) (rmm 12 0 0) (PcE E A h [rv a0, rv a1]) (Qv E A h9) 0 0 A := by
  refine met_of (by decide +kernel) (by simp [lg_sl, cat_rv, cat_wv, cat_sv, cat_i, cat_l, cat_a]) (fun p e s m args below meth c ls X hr hlk hnm S hl => ?_)
  have hl : lv_has ls 2 [(0, rv a0), (1, rv a1)] := by simpa [lv_args, cat_rv, cat_wv, cat_sv, cat_i, cat_l, cat_a] using hl
  generalize hH : s.heap = H at S ⊢
  generalize hlo : ([] : List Loc) = locs at S ⊢
  clear hH hlo
  unfold fX2_renew at hf
  obtain ⟨hth, hf⟩ := gd_some hf
  refine g_aload_n X (or_rv _) dX2_renew_0 rfl (lv_at hl 0 rfl) ?_
  refine g_gR X S foX2_12 dX2_renew_1 hf (fun v1 hf => ?_)
  refine g_aload_n X (or_rv _) dX2_renew_4 rfl (lv_at hl 1 rfl) ?_
  obtain ⟨h, hc, hf⟩ := ob_some hf
  refine g_cv S (runV (As := [rv a1]) (rest := []) X S coX2_57 (by decide) (cX10_renew_m l hc) (tkX10_renew hc) rfl hl.1 (by decide) rfl ⟨Nat.zero_le _, Nat.zero_le _⟩ dX2_renew_5) (fun H locs S => ?_)
  refine g_aload_n X (or_rv _) dX2_renew_8 rfl (lv_at hl 0 rfl) ?_
  refine lv_iconst (v := 0) X.1 X.2.1 dX2_renew_9 (by decide) ?_
  refine g_pI X S fpX2_36 (Or.inl rfl) dX2_renew_10 hf (fun h H locs hm hf S => ?_)
  refine g_aload_n X (or_rv _) dX2_renew_13 rfl (lv_at hl 0 rfl) ?_
  refine lv_iconst (v := 0) X.1 X.2.1 dX2_renew_14 (by decide) ?_
  refine g_pI X S fpX2_29 (Or.inl rfl) dX2_renew_15 hf (fun h H locs hm hf S => ?_)
  refine g_aload_n X (or_rv _) dX2_renew_18 rfl (lv_at hl 0 rfl) ?_
  refine lv_iconst (v := 0) X.1 X.2.1 dX2_renew_19 (by decide) ?_
  refine g_pI X S fpX2_33 (Or.inl rfl) dX2_renew_20 hf (fun h H locs hm hf S => ?_)
  cases hf; exact g_rv X S hr hlk dX2_renew_23
def fX12_fault (a0 : Nat) (h : Hp) : Option (Int32) := gd 10 a0 h (ob (gI 10 a0 2 h) fun v1 => some v1)
theorem tkX12_fault {a0 : Nat} {h : Hp} {r9 : Int32} (e : fX12_fault a0 h = some r9) : hK h a0 = 10 := by
  unfold fX12_fault at e
  exact (gd_some e).1
theorem cX12_fault_m (l : Launch) {E : EE} {A : Nat → Prop} {a0 : Nat} {h : Hp} {r9 : Int32} (hf : fX12_fault a0 h = some r9) : Met l yX12_fault (wsM yX12_fault cX12_fault 1 (some .int)) (rmm 8 0 0) (PcE E A h [rv a0]) (Qi E A h r9) 0 0 A := by
  refine met_of (by decide +kernel) (by simp [lg_sl, cat_rv, cat_wv, cat_sv, cat_i, cat_l, cat_a]) (fun p e s m args below meth c ls X hr hlk hnm S hl => ?_)
  have hl : lv_has ls 1 [(0, rv a0)] := by simpa [lv_args, cat_rv, cat_wv, cat_sv, cat_i, cat_l, cat_a] using hl
  generalize hH : s.heap = H at S ⊢
  generalize hlo : ([] : List Loc) = locs at S ⊢
  clear hH hlo
  unfold fX12_fault at hf
  obtain ⟨hth, hf⟩ := gd_some hf
  refine g_aload_n X (or_rv _) dX12_fault_0 rfl (lv_at hl 0 rfl) ?_
  refine g_gI X S foX12_13 rfl dX12_fault_1 hf (fun v1 hf => ?_)
  cases hf; exact g_ri X S hr hlk dX12_fault_4
def fX12_instructions (a0 : Nat) (h : Hp) : Option (Int32) := gd 10 a0 h (ob (gR 10 a0 5 h) fun v1 => ob (gR 4 v1 0 h) fun v2 => ob (fX9_instructions v2 h) fun v3 => some v3)
theorem tkX12_instructions {a0 : Nat} {h : Hp} {r9 : Int32} (e : fX12_instructions a0 h = some r9) : hK h a0 = 10 := by
  unfold fX12_instructions at e
  exact (gd_some e).1
theorem cX12_instructions_m (l : Launch) {E : EE} {A : Nat → Prop} {a0 : Nat} {h : Hp} {r9 : Int32} (hf : fX12_instructions a0 h = some r9) : Met l yX12_instructions (wsM yX12_instructions cX12_instructions 1 (some .int)) (rmm 10 0 0) (PcE E A h [rv a0]) (Qi E A h r9) 0 0 A := by
  refine met_of (by decide +kernel) (by simp [lg_sl, cat_rv, cat_wv, cat_sv, cat_i, cat_l, cat_a]) (fun p e s m args below meth c ls X hr hlk hnm S hl => ?_)
  have hl : lv_has ls 1 [(0, rv a0)] := by simpa [lv_args, cat_rv, cat_wv, cat_sv, cat_i, cat_l, cat_a] using hl
  generalize hH : s.heap = H at S ⊢
  generalize hlo : ([] : List Loc) = locs at S ⊢
  clear hH hlo
  unfold fX12_instructions at hf
  obtain ⟨hth, hf⟩ := gd_some hf
  refine g_aload_n X (or_rv _) dX12_instructions_0 rfl (lv_at hl 0 rfl) ?_
  refine g_gR X S foX12_34 dX12_instructions_1 hf (fun v1 hf => ?_)
  refine g_gR X S foX12_93 dX12_instructions_4 hf (fun v2 hf => ?_)
  obtain ⟨v3, hc, hf⟩ := ob_some hf
  refine g_ci S (runV (As := []) (rest := []) X S coX12_302 (by decide) (cX9_instructions_m l hc) (tkX9_instructions hc) rfl hl.1 (by decide) rfl ⟨Nat.zero_le _, Nat.zero_le _⟩ dX12_instructions_7) (fun H locs S => ?_)
  cases hf; exact g_ri X S hr hlk dX12_instructions_10
def fX2_kept (a0 : Nat) (h : Hp) : Option (Int32) := gd 2 a0 h (ob (gI 2 a0 3 h) fun v1 => some v1)
theorem tkX2_kept {a0 : Nat} {h : Hp} {r9 : Int32} (e : fX2_kept a0 h = some r9) : hK h a0 = 2 := by
  unfold fX2_kept at e
  exact (gd_some e).1
theorem cX2_kept_m (l : Launch) {E : EE} {A : Nat → Prop} {a0 : Nat} {h : Hp} {r9 : Int32} (hf : fX2_kept a0 h = some r9) : Met l yX2_kept (wsM yX2_kept cX2_kept 1 (some .int)) (rmm 8 0 0) (PcE E A h [rv a0]) (Qi E A h r9) 0 0 A := by
  refine met_of (by decide +kernel) (by simp [lg_sl, cat_rv, cat_wv, cat_sv, cat_i, cat_l, cat_a]) (fun p e s m args below meth c ls X hr hlk hnm S hl => ?_)
  have hl : lv_has ls 1 [(0, rv a0)] := by simpa [lv_args, cat_rv, cat_wv, cat_sv, cat_i, cat_l, cat_a] using hl
  generalize hH : s.heap = H at S ⊢
  generalize hlo : ([] : List Loc) = locs at S ⊢
  clear hH hlo
  unfold fX2_kept at hf
  obtain ⟨hth, hf⟩ := gd_some hf
  refine g_aload_n X (or_rv _) dX2_kept_0 rfl (lv_at hl 0 rfl) ?_
  refine g_gI X S foX2_29 rfl dX2_kept_1 hf (fun v1 hf => ?_)
  cases hf; exact g_ri X S hr hlk dX2_kept_4
def fX2_noted (a0 : Nat) (h : Hp) : Option (Int32) := gd 2 a0 h (ob (gI 2 a0 5 h) fun v1 => some v1)
theorem tkX2_noted {a0 : Nat} {h : Hp} {r9 : Int32} (e : fX2_noted a0 h = some r9) : hK h a0 = 2 := by
  unfold fX2_noted at e
  exact (gd_some e).1
theorem cX2_noted_m (l : Launch) {E : EE} {A : Nat → Prop} {a0 : Nat} {h : Hp} {r9 : Int32} (hf : fX2_noted a0 h = some r9) : Met l yX2_noted (wsM yX2_noted cX2_noted 1 (some .int)) (rmm 8 0 0) (PcE E A h [rv a0]) (Qi E A h r9) 0 0 A := by
  refine met_of (by decide +kernel) (by simp [lg_sl, cat_rv, cat_wv, cat_sv, cat_i, cat_l, cat_a]) (fun p e s m args below meth c ls X hr hlk hnm S hl => ?_)
  have hl : lv_has ls 1 [(0, rv a0)] := by simpa [lv_args, cat_rv, cat_wv, cat_sv, cat_i, cat_l, cat_a] using hl
  generalize hH : s.heap = H at S ⊢
  generalize hlo : ([] : List Loc) = locs at S ⊢
  clear hH hlo
  unfold fX2_noted at hf
  obtain ⟨hth, hf⟩ := gd_some hf
  refine g_aload_n X (or_rv _) dX2_noted_0 rfl (lv_at hl 0 rfl) ?_
  refine g_gI X S foX2_33 rfl dX2_noted_1 hf (fun v1 hf => ?_)
  cases hf; exact g_ri X S hr hlk dX2_noted_4
def fX2_refused (a0 : Nat) (a1 : Int32) (h : Hp) : Option (Int32) := gd 2 a0 h (if a1 < 0 then some 0 else ob (gR 2 a0 6 h) fun v2 => ob (aN 101 v2 h) fun v3 => if v3 ≤ a1 then some 0 else ob (gR 2 a0 6 h) fun v5 => ob (aI v5 a1 h) fun v6 => some v6)
theorem tkX2_refused {a0 : Nat} {a1 : Int32} {h : Hp} {r9 : Int32} (e : fX2_refused a0 a1 h = some r9) : hK h a0 = 2 := by
  unfold fX2_refused at e
  exact (gd_some e).1
theorem cX2_refused_m (l : Launch) {E : EE} {A : Nat → Prop} {a0 : Nat} {a1 : Int32} {h : Hp} {r9 : Int32} (hf : fX2_refused a0 a1 h = some r9) : Met l yX2_refused (wsM yX2_refused cX2_refused 2 (some .int)) (rmm 8 0 0) (PcE E A h [rv a0, .int a1]) (Qi E A h r9) 0 0 A := by
  refine met_of (by decide +kernel) (by simp [lg_sl, cat_rv, cat_wv, cat_sv, cat_i, cat_l, cat_a]) (fun p e s m args below meth c ls X hr hlk hnm S hl => ?_)
  have hl : lv_has ls 2 [(0, rv a0), (1, .int a1)] := by simpa [lv_args, cat_rv, cat_wv, cat_sv, cat_i, cat_l, cat_a] using hl
  generalize hH : s.heap = H at S ⊢
  generalize hlo : ([] : List Loc) = locs at S ⊢
  clear hH hlo
  unfold fX2_refused at hf
  obtain ⟨hth, hf⟩ := gd_some hf
  refine lv_iload_n X.1 X.2.1 dX2_refused_0 rfl (lv_at hl 1 rfl) ?_
  refine lv_if_lt (tgt := 22) X.1 X.2.1 dX2_refused_1 (by decide) (fun c1 => ?_) (fun c1 => ?_)
  · replace hf := (if_pos c1).symm.trans hf
    refine lv_iconst (v := 0) X.1 X.2.1 dX2_refused_22 (by decide) ?_
    cases hf; exact g_ri X S hr hlk dX2_refused_23
  · replace hf := (if_neg c1).symm.trans hf
    refine lv_iload_n X.1 X.2.1 dX2_refused_4 rfl (lv_at hl 1 rfl) ?_
    refine g_aload_n X (or_rv _) dX2_refused_5 rfl (lv_at hl 0 rfl) ?_
    refine g_gR X S foX2_26 dX2_refused_6 hf (fun v2 hf => ?_)
    refine g_aN X S (by decide) dX2_refused_9 hf (fun v3 hf => ?_)
    refine lv_icmp_ge (tgt := 22) X.1 X.2.1 dX2_refused_10 (by decide) (fun c4 => ?_) (fun c4 => ?_)
    · replace hf := (if_pos c4).symm.trans hf
      refine lv_iconst (v := 0) X.1 X.2.1 dX2_refused_22 (by decide) ?_
      cases hf; exact g_ri X S hr hlk dX2_refused_23
    · replace hf := (if_neg c4).symm.trans hf
      refine g_aload_n X (or_rv _) dX2_refused_13 rfl (lv_at hl 0 rfl) ?_
      refine g_gR X S foX2_26 dX2_refused_14 hf (fun v5 hf => ?_)
      refine lv_iload_n X.1 X.2.1 dX2_refused_17 rfl (lv_at hl 1 rfl) ?_
      refine g_aI X S dX2_refused_18 hf (fun v6 hf => ?_)
      refine lv_goto (tgt := 23) X.1 X.2.1 dX2_refused_19 (by decide) ?_
      cases hf; exact g_ri X S hr hlk dX2_refused_23
def fX12_count (a0 : Nat) (a1 : Int32) (h : Hp) : Option (Nat ⊕ Int32) := gd 10 a0 h (ob (gR 10 a0 10 h) fun v1 => ob (gR 2 v1 0 h) fun v2 => if a1 = 0 then ob (fX10_cell v2 276 h) fun v4 => some (.inr v4) else if a1 = 1 then ob (fX10_cell v2 267 h) fun v6 => some (.inr v6) else if a1 = 2 then ob (fX10_cell v2 265 h) fun v8 => some (.inr v8) else if a1 = 3 then ob (fX10_cell v2 264 h) fun v10 => some (.inr v10) else if a1 = 4 then ob (fX10_cell v2 266 h) fun v12 => some (.inr v12) else if a1 = 5 then ob (fX12_instructions a0 h) fun v14 => some (.inr v14) else if a1 = 6 then ob (fX10_cell v2 277 h) fun v16 => some (.inr v16) else if a1 = 7 then ob (fX12_instructions a0 h) fun v18 => ob (fX10_neverDone v2 v18 h) fun v19 => some (.inr v19) else if a1 = 8 then ob (fX10_traced v2 h) fun v21 => some (.inr v21) else if a1 = 9 then ob (gR 10 a0 10 h) fun v23 => ob (fX2_kept v23 h) fun v24 => some (.inr v24) else if a1 = 10 then ob (gR 10 a0 10 h) fun v26 => ob (fX2_noted v26 h) fun v27 => some (.inr v27) else if a1 = 11 then ob (gI 10 a0 1 h) fun v29 => some (.inr v29) else if a1 = 12 then ob (gR 10 a0 10 h) fun v31 => ob (fX2_refused v31 0 h) fun v32 => some (.inr v32) else if a1 = 13 then ob (gR 10 a0 10 h) fun v34 => ob (fX2_refused v34 1 h) fun v35 => some (.inr v35) else if a1 = 14 then ob (gR 10 a0 10 h) fun v37 => ob (fX2_refused v37 2 h) fun v38 => some (.inr v38) else some (.inl 1))
theorem tkX12_count {a0 : Nat} {a1 : Int32} {h : Hp} {r9 : Nat ⊕ Int32} (e : fX12_count a0 a1 h = some r9) : hK h a0 = 10 := by
  unfold fX12_count at e
  exact (gd_some e).1
theorem cX12_count_m (l : Launch) {E : EE} {A : Nat → Prop} {a0 : Nat} {a1 : Int32} {h : Hp} {r9 : Int32} (hf : fX12_count a0 a1 h = some (.inr r9)) : Met l yX12_count (wsM yX12_count cX12_count 3 (some .int)) (rmm 11 0 0) (PcE E A h [rv a0, .int a1]) (Qi E A h r9) 0 0 A := by
  refine met_of (by decide +kernel) (by simp [lg_sl, cat_rv, cat_wv, cat_sv, cat_i, cat_l, cat_a]) (fun p e s m args below meth c ls X hr hlk hnm S hl => ?_)
  have hl : lv_has ls 3 [(0, rv a0), (1, .int a1)] := by simpa [lv_args, cat_rv, cat_wv, cat_sv, cat_i, cat_l, cat_a] using hl
  generalize hH : s.heap = H at S ⊢
  generalize hlo : ([] : List Loc) = locs at S ⊢
  clear hH hlo
  unfold fX12_count at hf
  obtain ⟨hth, hf⟩ := gd_some hf
  refine g_aload_n X (or_rv _) dX12_count_0 rfl (lv_at hl 0 rfl) ?_
  refine g_gR X S foX12_61 dX12_count_1 hf (fun v1 hf => ?_)
  refine g_gR X S foX12_107 dX12_count_4 hf (fun v2 hf => ?_)
  refine g_astore_n (i := 2) (lv' := [(2, rv v2), (0, rv a0), (1, .int a1)]) X (or_rv _) dX12_count_7 rfl hl (by decide) rfl (fun ls hl => ?_)
  refine lv_iload_n X.1 X.2.1 dX12_count_8 rfl (lv_at hl 2 rfl) ?_
  by_cases c3 : a1 = 0
  · replace hf := (if_pos c3).symm.trans hf
    refine lv_tableIn (tgt := 84) X.1 X.2.1 dX12_count_9 (by rw [c3]; decide) (by rw [c3]; decide) (by rw [c3]; rfl) (by decide) ?_
    refine g_aload_n X (or_rv _) dX12_count_84 rfl (lv_at hl 0 rfl) ?_
    refine lv_sipush (v := 276) X.1 X.2.1 dX12_count_85 (by decide) ?_
    obtain ⟨v4, hc, hf⟩ := ob_some hf
    refine g_ci S (runV (As := [.int 276]) (rest := []) X S coX12_113 (by decide) (cX10_cell_m l hc) (tkX10_cell hc) rfl hl.1 (by decide) rfl ⟨Nat.zero_le _, Nat.zero_le _⟩ dX12_count_88) (fun H locs S => ?_)
    cases hf; exact g_ri X S hr hlk dX12_count_91
  replace hf := (if_neg c3).symm.trans hf
  by_cases c5 : a1 = 1
  · replace hf := (if_pos c5).symm.trans hf
    refine lv_tableIn (tgt := 92) X.1 X.2.1 dX12_count_9 (by rw [c5]; decide) (by rw [c5]; decide) (by rw [c5]; rfl) (by decide) ?_
    refine g_aload_n X (or_rv _) dX12_count_92 rfl (lv_at hl 0 rfl) ?_
    refine lv_sipush (v := 267) X.1 X.2.1 dX12_count_93 (by decide) ?_
    obtain ⟨v6, hc, hf⟩ := ob_some hf
    refine g_ci S (runV (As := [.int 267]) (rest := []) X S coX12_113 (by decide) (cX10_cell_m l hc) (tkX10_cell hc) rfl hl.1 (by decide) rfl ⟨Nat.zero_le _, Nat.zero_le _⟩ dX12_count_96) (fun H locs S => ?_)
    cases hf; exact g_ri X S hr hlk dX12_count_99
  replace hf := (if_neg c5).symm.trans hf
  by_cases c7 : a1 = 2
  · replace hf := (if_pos c7).symm.trans hf
    refine lv_tableIn (tgt := 100) X.1 X.2.1 dX12_count_9 (by rw [c7]; decide) (by rw [c7]; decide) (by rw [c7]; rfl) (by decide) ?_
    refine g_aload_n X (or_rv _) dX12_count_100 rfl (lv_at hl 0 rfl) ?_
    refine lv_sipush (v := 265) X.1 X.2.1 dX12_count_101 (by decide) ?_
    obtain ⟨v8, hc, hf⟩ := ob_some hf
    refine g_ci S (runV (As := [.int 265]) (rest := []) X S coX12_113 (by decide) (cX10_cell_m l hc) (tkX10_cell hc) rfl hl.1 (by decide) rfl ⟨Nat.zero_le _, Nat.zero_le _⟩ dX12_count_104) (fun H locs S => ?_)
    cases hf; exact g_ri X S hr hlk dX12_count_107
  replace hf := (if_neg c7).symm.trans hf
  by_cases c9 : a1 = 3
  · replace hf := (if_pos c9).symm.trans hf
    refine lv_tableIn (tgt := 108) X.1 X.2.1 dX12_count_9 (by rw [c9]; decide) (by rw [c9]; decide) (by rw [c9]; rfl) (by decide) ?_
    refine g_aload_n X (or_rv _) dX12_count_108 rfl (lv_at hl 0 rfl) ?_
    refine lv_sipush (v := 264) X.1 X.2.1 dX12_count_109 (by decide) ?_
    obtain ⟨v10, hc, hf⟩ := ob_some hf
    refine g_ci S (runV (As := [.int 264]) (rest := []) X S coX12_113 (by decide) (cX10_cell_m l hc) (tkX10_cell hc) rfl hl.1 (by decide) rfl ⟨Nat.zero_le _, Nat.zero_le _⟩ dX12_count_112) (fun H locs S => ?_)
    cases hf; exact g_ri X S hr hlk dX12_count_115
  replace hf := (if_neg c9).symm.trans hf
  by_cases c11 : a1 = 4
  · replace hf := (if_pos c11).symm.trans hf
    refine lv_tableIn (tgt := 116) X.1 X.2.1 dX12_count_9 (by rw [c11]; decide) (by rw [c11]; decide) (by rw [c11]; rfl) (by decide) ?_
    refine g_aload_n X (or_rv _) dX12_count_116 rfl (lv_at hl 0 rfl) ?_
    refine lv_sipush (v := 266) X.1 X.2.1 dX12_count_117 (by decide) ?_
    obtain ⟨v12, hc, hf⟩ := ob_some hf
    refine g_ci S (runV (As := [.int 266]) (rest := []) X S coX12_113 (by decide) (cX10_cell_m l hc) (tkX10_cell hc) rfl hl.1 (by decide) rfl ⟨Nat.zero_le _, Nat.zero_le _⟩ dX12_count_120) (fun H locs S => ?_)
    cases hf; exact g_ri X S hr hlk dX12_count_123
  replace hf := (if_neg c11).symm.trans hf
  by_cases c13 : a1 = 5
  · replace hf := (if_pos c13).symm.trans hf
    refine lv_tableIn (tgt := 124) X.1 X.2.1 dX12_count_9 (by rw [c13]; decide) (by rw [c13]; decide) (by rw [c13]; rfl) (by decide) ?_
    refine g_aload_n X (or_rv _) dX12_count_124 rfl (lv_at hl 1 rfl) ?_
    obtain ⟨v14, hc, hf⟩ := ob_some hf
    refine g_ci S (runV (As := []) (rest := []) X S coX12_117 (by decide) (cX12_instructions_m l hc) (tkX12_instructions hc) rfl hl.1 (by decide) rfl ⟨Nat.zero_le _, Nat.zero_le _⟩ dX12_count_125) (fun H locs S => ?_)
    cases hf; exact g_ri X S hr hlk dX12_count_128
  replace hf := (if_neg c13).symm.trans hf
  by_cases c15 : a1 = 6
  · replace hf := (if_pos c15).symm.trans hf
    refine lv_tableIn (tgt := 129) X.1 X.2.1 dX12_count_9 (by rw [c15]; decide) (by rw [c15]; decide) (by rw [c15]; rfl) (by decide) ?_
    refine g_aload_n X (or_rv _) dX12_count_129 rfl (lv_at hl 0 rfl) ?_
    refine lv_sipush (v := 277) X.1 X.2.1 dX12_count_130 (by decide) ?_
    obtain ⟨v16, hc, hf⟩ := ob_some hf
    refine g_ci S (runV (As := [.int 277]) (rest := []) X S coX12_113 (by decide) (cX10_cell_m l hc) (tkX10_cell hc) rfl hl.1 (by decide) rfl ⟨Nat.zero_le _, Nat.zero_le _⟩ dX12_count_133) (fun H locs S => ?_)
    cases hf; exact g_ri X S hr hlk dX12_count_136
  replace hf := (if_neg c15).symm.trans hf
  by_cases c17 : a1 = 7
  · replace hf := (if_pos c17).symm.trans hf
    refine lv_tableIn (tgt := 137) X.1 X.2.1 dX12_count_9 (by rw [c17]; decide) (by rw [c17]; decide) (by rw [c17]; rfl) (by decide) ?_
    refine g_aload_n X (or_rv _) dX12_count_137 rfl (lv_at hl 0 rfl) ?_
    refine g_aload_n X (or_rv _) dX12_count_138 rfl (lv_at hl 1 rfl) ?_
    obtain ⟨v18, hc, hf⟩ := ob_some hf
    refine g_ci S (runV (As := []) (rest := [rv v2]) X S coX12_117 (by decide) (cX12_instructions_m l hc) (tkX12_instructions hc) rfl hl.1 (by simp [cat_rv, cat_wv, cat_sv, cat_i, cat_l, cat_a]) rfl ⟨Nat.zero_le _, Nat.zero_le _⟩ dX12_count_139) (fun H locs S => ?_)
    obtain ⟨v19, hc, hf⟩ := ob_some hf
    refine g_ci S (runV (As := [.int v18]) (rest := []) X S coX12_120 (by decide) (cX10_neverDone_m l hc) (tkX10_neverDone hc) rfl hl.1 (by decide) rfl ⟨Nat.zero_le _, Nat.zero_le _⟩ dX12_count_142) (fun H locs S => ?_)
    cases hf; exact g_ri X S hr hlk dX12_count_145
  replace hf := (if_neg c17).symm.trans hf
  by_cases c20 : a1 = 8
  · replace hf := (if_pos c20).symm.trans hf
    refine lv_tableIn (tgt := 146) X.1 X.2.1 dX12_count_9 (by rw [c20]; decide) (by rw [c20]; decide) (by rw [c20]; rfl) (by decide) ?_
    refine g_aload_n X (or_rv _) dX12_count_146 rfl (lv_at hl 0 rfl) ?_
    obtain ⟨v21, hc, hf⟩ := ob_some hf
    refine g_ci S (runV (As := []) (rest := []) X S coX12_123 (by decide) (cX10_traced_m l hc) (tkX10_traced hc) rfl hl.1 (by decide) rfl ⟨Nat.zero_le _, Nat.zero_le _⟩ dX12_count_147) (fun H locs S => ?_)
    cases hf; exact g_ri X S hr hlk dX12_count_150
  replace hf := (if_neg c20).symm.trans hf
  by_cases c22 : a1 = 9
  · replace hf := (if_pos c22).symm.trans hf
    refine lv_tableIn (tgt := 151) X.1 X.2.1 dX12_count_9 (by rw [c22]; decide) (by rw [c22]; decide) (by rw [c22]; rfl) (by decide) ?_
    refine g_aload_n X (or_rv _) dX12_count_151 rfl (lv_at hl 1 rfl) ?_
    refine g_gR X S foX12_61 dX12_count_152 hf (fun v23 hf => ?_)
    obtain ⟨v24, hc, hf⟩ := ob_some hf
    refine g_ci S (runV (As := []) (rest := []) X S coX12_126 (by decide) (cX2_kept_m l hc) (tkX2_kept hc) rfl hl.1 (by decide) rfl ⟨Nat.zero_le _, Nat.zero_le _⟩ dX12_count_155) (fun H locs S => ?_)
    cases hf; exact g_ri X S hr hlk dX12_count_158
  replace hf := (if_neg c22).symm.trans hf
  by_cases c25 : a1 = 10
  · replace hf := (if_pos c25).symm.trans hf
    refine lv_tableIn (tgt := 159) X.1 X.2.1 dX12_count_9 (by rw [c25]; decide) (by rw [c25]; decide) (by rw [c25]; rfl) (by decide) ?_
    refine g_aload_n X (or_rv _) dX12_count_159 rfl (lv_at hl 1 rfl) ?_
    refine g_gR X S foX12_61 dX12_count_160 hf (fun v26 hf => ?_)
    obtain ⟨v27, hc, hf⟩ := ob_some hf
    refine g_ci S (runV (As := []) (rest := []) X S coX12_129 (by decide) (cX2_noted_m l hc) (tkX2_noted hc) rfl hl.1 (by decide) rfl ⟨Nat.zero_le _, Nat.zero_le _⟩ dX12_count_163) (fun H locs S => ?_)
    cases hf; exact g_ri X S hr hlk dX12_count_166
  replace hf := (if_neg c25).symm.trans hf
  by_cases c28 : a1 = 11
  · replace hf := (if_pos c28).symm.trans hf
    refine lv_tableIn (tgt := 167) X.1 X.2.1 dX12_count_9 (by rw [c28]; decide) (by rw [c28]; decide) (by rw [c28]; rfl) (by decide) ?_
    refine g_aload_n X (or_rv _) dX12_count_167 rfl (lv_at hl 1 rfl) ?_
    refine g_gI X S foX12_65 rfl dX12_count_168 hf (fun v29 hf => ?_)
    cases hf; exact g_ri X S hr hlk dX12_count_171
  replace hf := (if_neg c28).symm.trans hf
  by_cases c30 : a1 = 12
  · replace hf := (if_pos c30).symm.trans hf
    refine lv_tableIn (tgt := 172) X.1 X.2.1 dX12_count_9 (by rw [c30]; decide) (by rw [c30]; decide) (by rw [c30]; rfl) (by decide) ?_
    refine g_aload_n X (or_rv _) dX12_count_172 rfl (lv_at hl 1 rfl) ?_
    refine g_gR X S foX12_61 dX12_count_173 hf (fun v31 hf => ?_)
    refine lv_iconst (v := 0) X.1 X.2.1 dX12_count_176 (by decide) ?_
    obtain ⟨v32, hc, hf⟩ := ob_some hf
    refine g_ci S (runV (As := [.int 0]) (rest := []) X S coX12_132 (by decide) (cX2_refused_m l hc) (tkX2_refused hc) rfl hl.1 (by decide) rfl ⟨Nat.zero_le _, Nat.zero_le _⟩ dX12_count_177) (fun H locs S => ?_)
    cases hf; exact g_ri X S hr hlk dX12_count_180
  replace hf := (if_neg c30).symm.trans hf
  by_cases c33 : a1 = 13
  · replace hf := (if_pos c33).symm.trans hf
    refine lv_tableIn (tgt := 181) X.1 X.2.1 dX12_count_9 (by rw [c33]; decide) (by rw [c33]; decide) (by rw [c33]; rfl) (by decide) ?_
    refine g_aload_n X (or_rv _) dX12_count_181 rfl (lv_at hl 1 rfl) ?_
    refine g_gR X S foX12_61 dX12_count_182 hf (fun v34 hf => ?_)
    refine lv_iconst (v := 1) X.1 X.2.1 dX12_count_185 (by decide) ?_
    obtain ⟨v35, hc, hf⟩ := ob_some hf
    refine g_ci S (runV (As := [.int 1]) (rest := []) X S coX12_132 (by decide) (cX2_refused_m l hc) (tkX2_refused hc) rfl hl.1 (by decide) rfl ⟨Nat.zero_le _, Nat.zero_le _⟩ dX12_count_186) (fun H locs S => ?_)
    cases hf; exact g_ri X S hr hlk dX12_count_189
  replace hf := (if_neg c33).symm.trans hf
  by_cases c36 : a1 = 14
  · replace hf := (if_pos c36).symm.trans hf
    refine lv_tableIn (tgt := 190) X.1 X.2.1 dX12_count_9 (by rw [c36]; decide) (by rw [c36]; decide) (by rw [c36]; rfl) (by decide) ?_
    refine g_aload_n X (or_rv _) dX12_count_190 rfl (lv_at hl 1 rfl) ?_
    refine g_gR X S foX12_61 dX12_count_191 hf (fun v37 hf => ?_)
    refine lv_iconst (v := 2) X.1 X.2.1 dX12_count_194 (by decide) ?_
    obtain ⟨v38, hc, hf⟩ := ob_some hf
    refine g_ci S (runV (As := [.int 2]) (rest := []) X S coX12_132 (by decide) (cX2_refused_m l hc) (tkX2_refused hc) rfl hl.1 (by decide) rfl ⟨Nat.zero_le _, Nat.zero_le _⟩ dX12_count_195) (fun H locs S => ?_)
    cases hf; exact g_ri X S hr hlk dX12_count_198
  replace hf := (if_neg c36).symm.trans hf
  refine lv_tableOut (tgt := 199) X.1 X.2.1 dX12_count_9 (by have e0 := i32_ne c3 (n := 0) (by decide); have e1 := i32_ne c5 (n := 1) (by decide); have e2 := i32_ne c7 (n := 2) (by decide); have e3 := i32_ne c9 (n := 3) (by decide); have e4 := i32_ne c11 (n := 4) (by decide); have e5 := i32_ne c13 (n := 5) (by decide); have e6 := i32_ne c15 (n := 6) (by decide); have e7 := i32_ne c17 (n := 7) (by decide); have e8 := i32_ne c20 (n := 8) (by decide); have e9 := i32_ne c22 (n := 9) (by decide); have e10 := i32_ne c25 (n := 10) (by decide); have e11 := i32_ne c28 (n := 11) (by decide); have e12 := i32_ne c30 (n := 12) (by decide); have e13 := i32_ne c33 (n := 13) (by decide); have e14 := i32_ne c36 (n := 14) (by decide); omega) (by decide) ?_
  cases hf
theorem cX12_count_x (l : Launch) (hlt : l.stackTraces = false) {E : EE} {A : Nat → Prop} {a0 : Nat} {a1 : Int32} {h : Hp} {k9 : Nat} (hf : fX12_count a0 a1 h = some (.inl k9)) : vx_Met l yX12_count (wsM yX12_count cX12_count 3 (some .int)) (rmm 11 1 6) (PcE E A h [rv a0, .int a1]) noQ (XX E A h k9) 1 6 A := by
  refine met_ofX (by decide +kernel) (by simp [lg_sl, cat_rv, cat_wv, cat_sv, cat_i, cat_l, cat_a]) (fun p e s m args below meth c ls X hr hlk hnm hne S hl => ?_)
  have hR1 : 0 + 1 ≤ (rmm 11 1 6).cells ∧ 0 + 6 ≤ (rmm 11 1 6).slots := ⟨Nat.le_refl _, Nat.le_refl _⟩
  have hl : lv_has ls 3 [(0, rv a0), (1, .int a1)] := by simpa [lv_args, cat_rv, cat_wv, cat_sv, cat_i, cat_l, cat_a] using hl
  generalize hH : s.heap = H at S ⊢
  generalize hlo : ([] : List Loc) = locs at S ⊢
  clear hH hlo
  unfold fX12_count at hf
  obtain ⟨hth, hf⟩ := gd_some hf
  refine g_aload_n X (or_rv _) dX12_count_0 rfl (lv_at hl 0 rfl) ?_
  refine g_gR X S foX12_61 dX12_count_1 hf (fun v1 hf => ?_)
  refine g_gR X S foX12_107 dX12_count_4 hf (fun v2 hf => ?_)
  refine g_astore_n (i := 2) (lv' := [(2, rv v2), (0, rv a0), (1, .int a1)]) X (or_rv _) dX12_count_7 rfl hl (by decide) rfl (fun ls hl => ?_)
  refine lv_iload_n X.1 X.2.1 dX12_count_8 rfl (lv_at hl 2 rfl) ?_
  by_cases c3 : a1 = 0
  · replace hf := (if_pos c3).symm.trans hf
    refine lv_tableIn (tgt := 84) X.1 X.2.1 dX12_count_9 (by rw [c3]; decide) (by rw [c3]; decide) (by rw [c3]; rfl) (by decide) ?_
    refine g_aload_n X (or_rv _) dX12_count_84 rfl (lv_at hl 0 rfl) ?_
    refine lv_sipush (v := 276) X.1 X.2.1 dX12_count_85 (by decide) ?_
    obtain ⟨v4, hc, hf⟩ := ob_some hf
    refine g_ci S (runV (As := [.int 276]) (rest := []) X S coX12_113 (by decide) (cX10_cell_m l hc) (tkX10_cell hc) rfl hl.1 (by decide) rfl ⟨Nat.zero_le _, Nat.zero_le _⟩ dX12_count_88) (fun H locs S => ?_)
    cases hf
  replace hf := (if_neg c3).symm.trans hf
  by_cases c5 : a1 = 1
  · replace hf := (if_pos c5).symm.trans hf
    refine lv_tableIn (tgt := 92) X.1 X.2.1 dX12_count_9 (by rw [c5]; decide) (by rw [c5]; decide) (by rw [c5]; rfl) (by decide) ?_
    refine g_aload_n X (or_rv _) dX12_count_92 rfl (lv_at hl 0 rfl) ?_
    refine lv_sipush (v := 267) X.1 X.2.1 dX12_count_93 (by decide) ?_
    obtain ⟨v6, hc, hf⟩ := ob_some hf
    refine g_ci S (runV (As := [.int 267]) (rest := []) X S coX12_113 (by decide) (cX10_cell_m l hc) (tkX10_cell hc) rfl hl.1 (by decide) rfl ⟨Nat.zero_le _, Nat.zero_le _⟩ dX12_count_96) (fun H locs S => ?_)
    cases hf
  replace hf := (if_neg c5).symm.trans hf
  by_cases c7 : a1 = 2
  · replace hf := (if_pos c7).symm.trans hf
    refine lv_tableIn (tgt := 100) X.1 X.2.1 dX12_count_9 (by rw [c7]; decide) (by rw [c7]; decide) (by rw [c7]; rfl) (by decide) ?_
    refine g_aload_n X (or_rv _) dX12_count_100 rfl (lv_at hl 0 rfl) ?_
    refine lv_sipush (v := 265) X.1 X.2.1 dX12_count_101 (by decide) ?_
    obtain ⟨v8, hc, hf⟩ := ob_some hf
    refine g_ci S (runV (As := [.int 265]) (rest := []) X S coX12_113 (by decide) (cX10_cell_m l hc) (tkX10_cell hc) rfl hl.1 (by decide) rfl ⟨Nat.zero_le _, Nat.zero_le _⟩ dX12_count_104) (fun H locs S => ?_)
    cases hf
  replace hf := (if_neg c7).symm.trans hf
  by_cases c9 : a1 = 3
  · replace hf := (if_pos c9).symm.trans hf
    refine lv_tableIn (tgt := 108) X.1 X.2.1 dX12_count_9 (by rw [c9]; decide) (by rw [c9]; decide) (by rw [c9]; rfl) (by decide) ?_
    refine g_aload_n X (or_rv _) dX12_count_108 rfl (lv_at hl 0 rfl) ?_
    refine lv_sipush (v := 264) X.1 X.2.1 dX12_count_109 (by decide) ?_
    obtain ⟨v10, hc, hf⟩ := ob_some hf
    refine g_ci S (runV (As := [.int 264]) (rest := []) X S coX12_113 (by decide) (cX10_cell_m l hc) (tkX10_cell hc) rfl hl.1 (by decide) rfl ⟨Nat.zero_le _, Nat.zero_le _⟩ dX12_count_112) (fun H locs S => ?_)
    cases hf
  replace hf := (if_neg c9).symm.trans hf
  by_cases c11 : a1 = 4
  · replace hf := (if_pos c11).symm.trans hf
    refine lv_tableIn (tgt := 116) X.1 X.2.1 dX12_count_9 (by rw [c11]; decide) (by rw [c11]; decide) (by rw [c11]; rfl) (by decide) ?_
    refine g_aload_n X (or_rv _) dX12_count_116 rfl (lv_at hl 0 rfl) ?_
    refine lv_sipush (v := 266) X.1 X.2.1 dX12_count_117 (by decide) ?_
    obtain ⟨v12, hc, hf⟩ := ob_some hf
    refine g_ci S (runV (As := [.int 266]) (rest := []) X S coX12_113 (by decide) (cX10_cell_m l hc) (tkX10_cell hc) rfl hl.1 (by decide) rfl ⟨Nat.zero_le _, Nat.zero_le _⟩ dX12_count_120) (fun H locs S => ?_)
    cases hf
  replace hf := (if_neg c11).symm.trans hf
  by_cases c13 : a1 = 5
  · replace hf := (if_pos c13).symm.trans hf
    refine lv_tableIn (tgt := 124) X.1 X.2.1 dX12_count_9 (by rw [c13]; decide) (by rw [c13]; decide) (by rw [c13]; rfl) (by decide) ?_
    refine g_aload_n X (or_rv _) dX12_count_124 rfl (lv_at hl 1 rfl) ?_
    obtain ⟨v14, hc, hf⟩ := ob_some hf
    refine g_ci S (runV (As := []) (rest := []) X S coX12_117 (by decide) (cX12_instructions_m l hc) (tkX12_instructions hc) rfl hl.1 (by decide) rfl ⟨Nat.zero_le _, Nat.zero_le _⟩ dX12_count_125) (fun H locs S => ?_)
    cases hf
  replace hf := (if_neg c13).symm.trans hf
  by_cases c15 : a1 = 6
  · replace hf := (if_pos c15).symm.trans hf
    refine lv_tableIn (tgt := 129) X.1 X.2.1 dX12_count_9 (by rw [c15]; decide) (by rw [c15]; decide) (by rw [c15]; rfl) (by decide) ?_
    refine g_aload_n X (or_rv _) dX12_count_129 rfl (lv_at hl 0 rfl) ?_
    refine lv_sipush (v := 277) X.1 X.2.1 dX12_count_130 (by decide) ?_
    obtain ⟨v16, hc, hf⟩ := ob_some hf
    refine g_ci S (runV (As := [.int 277]) (rest := []) X S coX12_113 (by decide) (cX10_cell_m l hc) (tkX10_cell hc) rfl hl.1 (by decide) rfl ⟨Nat.zero_le _, Nat.zero_le _⟩ dX12_count_133) (fun H locs S => ?_)
    cases hf
  replace hf := (if_neg c15).symm.trans hf
  by_cases c17 : a1 = 7
  · replace hf := (if_pos c17).symm.trans hf
    refine lv_tableIn (tgt := 137) X.1 X.2.1 dX12_count_9 (by rw [c17]; decide) (by rw [c17]; decide) (by rw [c17]; rfl) (by decide) ?_
    refine g_aload_n X (or_rv _) dX12_count_137 rfl (lv_at hl 0 rfl) ?_
    refine g_aload_n X (or_rv _) dX12_count_138 rfl (lv_at hl 1 rfl) ?_
    obtain ⟨v18, hc, hf⟩ := ob_some hf
    refine g_ci S (runV (As := []) (rest := [rv v2]) X S coX12_117 (by decide) (cX12_instructions_m l hc) (tkX12_instructions hc) rfl hl.1 (by simp [cat_rv, cat_wv, cat_sv, cat_i, cat_l, cat_a]) rfl ⟨Nat.zero_le _, Nat.zero_le _⟩ dX12_count_139) (fun H locs S => ?_)
    obtain ⟨v19, hc, hf⟩ := ob_some hf
    refine g_ci S (runV (As := [.int v18]) (rest := []) X S coX12_120 (by decide) (cX10_neverDone_m l hc) (tkX10_neverDone hc) rfl hl.1 (by decide) rfl ⟨Nat.zero_le _, Nat.zero_le _⟩ dX12_count_142) (fun H locs S => ?_)
    cases hf
  replace hf := (if_neg c17).symm.trans hf
  by_cases c20 : a1 = 8
  · replace hf := (if_pos c20).symm.trans hf
    refine lv_tableIn (tgt := 146) X.1 X.2.1 dX12_count_9 (by rw [c20]; decide) (by rw [c20]; decide) (by rw [c20]; rfl) (by decide) ?_
    refine g_aload_n X (or_rv _) dX12_count_146 rfl (lv_at hl 0 rfl) ?_
    obtain ⟨v21, hc, hf⟩ := ob_some hf
    refine g_ci S (runV (As := []) (rest := []) X S coX12_123 (by decide) (cX10_traced_m l hc) (tkX10_traced hc) rfl hl.1 (by decide) rfl ⟨Nat.zero_le _, Nat.zero_le _⟩ dX12_count_147) (fun H locs S => ?_)
    cases hf
  replace hf := (if_neg c20).symm.trans hf
  by_cases c22 : a1 = 9
  · replace hf := (if_pos c22).symm.trans hf
    refine lv_tableIn (tgt := 151) X.1 X.2.1 dX12_count_9 (by rw [c22]; decide) (by rw [c22]; decide) (by rw [c22]; rfl) (by decide) ?_
    refine g_aload_n X (or_rv _) dX12_count_151 rfl (lv_at hl 1 rfl) ?_
    refine g_gR X S foX12_61 dX12_count_152 hf (fun v23 hf => ?_)
    obtain ⟨v24, hc, hf⟩ := ob_some hf
    refine g_ci S (runV (As := []) (rest := []) X S coX12_126 (by decide) (cX2_kept_m l hc) (tkX2_kept hc) rfl hl.1 (by decide) rfl ⟨Nat.zero_le _, Nat.zero_le _⟩ dX12_count_155) (fun H locs S => ?_)
    cases hf
  replace hf := (if_neg c22).symm.trans hf
  by_cases c25 : a1 = 10
  · replace hf := (if_pos c25).symm.trans hf
    refine lv_tableIn (tgt := 159) X.1 X.2.1 dX12_count_9 (by rw [c25]; decide) (by rw [c25]; decide) (by rw [c25]; rfl) (by decide) ?_
    refine g_aload_n X (or_rv _) dX12_count_159 rfl (lv_at hl 1 rfl) ?_
    refine g_gR X S foX12_61 dX12_count_160 hf (fun v26 hf => ?_)
    obtain ⟨v27, hc, hf⟩ := ob_some hf
    refine g_ci S (runV (As := []) (rest := []) X S coX12_129 (by decide) (cX2_noted_m l hc) (tkX2_noted hc) rfl hl.1 (by decide) rfl ⟨Nat.zero_le _, Nat.zero_le _⟩ dX12_count_163) (fun H locs S => ?_)
    cases hf
  replace hf := (if_neg c25).symm.trans hf
  by_cases c28 : a1 = 11
  · replace hf := (if_pos c28).symm.trans hf
    refine lv_tableIn (tgt := 167) X.1 X.2.1 dX12_count_9 (by rw [c28]; decide) (by rw [c28]; decide) (by rw [c28]; rfl) (by decide) ?_
    refine g_aload_n X (or_rv _) dX12_count_167 rfl (lv_at hl 1 rfl) ?_
    refine g_gI X S foX12_65 rfl dX12_count_168 hf (fun v29 hf => ?_)
    cases hf
  replace hf := (if_neg c28).symm.trans hf
  by_cases c30 : a1 = 12
  · replace hf := (if_pos c30).symm.trans hf
    refine lv_tableIn (tgt := 172) X.1 X.2.1 dX12_count_9 (by rw [c30]; decide) (by rw [c30]; decide) (by rw [c30]; rfl) (by decide) ?_
    refine g_aload_n X (or_rv _) dX12_count_172 rfl (lv_at hl 1 rfl) ?_
    refine g_gR X S foX12_61 dX12_count_173 hf (fun v31 hf => ?_)
    refine lv_iconst (v := 0) X.1 X.2.1 dX12_count_176 (by decide) ?_
    obtain ⟨v32, hc, hf⟩ := ob_some hf
    refine g_ci S (runV (As := [.int 0]) (rest := []) X S coX12_132 (by decide) (cX2_refused_m l hc) (tkX2_refused hc) rfl hl.1 (by decide) rfl ⟨Nat.zero_le _, Nat.zero_le _⟩ dX12_count_177) (fun H locs S => ?_)
    cases hf
  replace hf := (if_neg c30).symm.trans hf
  by_cases c33 : a1 = 13
  · replace hf := (if_pos c33).symm.trans hf
    refine lv_tableIn (tgt := 181) X.1 X.2.1 dX12_count_9 (by rw [c33]; decide) (by rw [c33]; decide) (by rw [c33]; rfl) (by decide) ?_
    refine g_aload_n X (or_rv _) dX12_count_181 rfl (lv_at hl 1 rfl) ?_
    refine g_gR X S foX12_61 dX12_count_182 hf (fun v34 hf => ?_)
    refine lv_iconst (v := 1) X.1 X.2.1 dX12_count_185 (by decide) ?_
    obtain ⟨v35, hc, hf⟩ := ob_some hf
    refine g_ci S (runV (As := [.int 1]) (rest := []) X S coX12_132 (by decide) (cX2_refused_m l hc) (tkX2_refused hc) rfl hl.1 (by decide) rfl ⟨Nat.zero_le _, Nat.zero_le _⟩ dX12_count_186) (fun H locs S => ?_)
    cases hf
  replace hf := (if_neg c33).symm.trans hf
  by_cases c36 : a1 = 14
  · replace hf := (if_pos c36).symm.trans hf
    refine lv_tableIn (tgt := 190) X.1 X.2.1 dX12_count_9 (by rw [c36]; decide) (by rw [c36]; decide) (by rw [c36]; rfl) (by decide) ?_
    refine g_aload_n X (or_rv _) dX12_count_190 rfl (lv_at hl 1 rfl) ?_
    refine g_gR X S foX12_61 dX12_count_191 hf (fun v37 hf => ?_)
    refine lv_iconst (v := 2) X.1 X.2.1 dX12_count_194 (by decide) ?_
    obtain ⟨v38, hc, hf⟩ := ob_some hf
    refine g_ci S (runV (As := [.int 2]) (rest := []) X S coX12_132 (by decide) (cX2_refused_m l hc) (tkX2_refused hc) rfl hl.1 (by decide) rfl ⟨Nat.zero_le _, Nat.zero_le _⟩ dX12_count_195) (fun H locs S => ?_)
    cases hf
  replace hf := (if_neg c36).symm.trans hf
  refine lv_tableOut (tgt := 199) X.1 X.2.1 dX12_count_9 (by have e0 := i32_ne c3 (n := 0) (by decide); have e1 := i32_ne c5 (n := 1) (by decide); have e2 := i32_ne c7 (n := 2) (by decide); have e3 := i32_ne c9 (n := 3) (by decide); have e4 := i32_ne c11 (n := 4) (by decide); have e5 := i32_ne c13 (n := 5) (by decide); have e6 := i32_ne c15 (n := 6) (by decide); have e7 := i32_ne c17 (n := 7) (by decide); have e8 := i32_ne c20 (n := 8) (by decide); have e9 := i32_ne c22 (n := 9) (by decide); have e10 := i32_ne c25 (n := 10) (by decide); have e11 := i32_ne c28 (n := 11) (by decide); have e12 := i32_ne c30 (n := 12) (by decide); have e13 := i32_ne c33 (n := 13) (by decide); have e14 := i32_ne c36 (n := 14) (by decide); omega) (by decide) ?_
  cases hf
  exact g_throw (rest := []) X S hne hlk hlt hl.1 (by decide) (by decide) tfX12_135_137 dX12_count_199 dX12_count_202 dX12_count_203 dX12_count_205 dX12_count_208 hR1
def fX12_needPlace (a0 : Nat) (a1 : Int32) (h : Hp) : Option (Nat ⊕ Unit) := gd 10 a0 h (ob (fX10_isPlace a1) fun v1 => if v1 = 0 then some (.inl 1) else some (.inr ()))
theorem tkX12_needPlace {a0 : Nat} {a1 : Int32} {h : Hp} {r9 : Nat ⊕ Unit} (e : fX12_needPlace a0 a1 h = some r9) : hK h a0 = 10 := by
  unfold fX12_needPlace at e
  exact (gd_some e).1
theorem cX12_needPlace_m (l : Launch) {E : EE} {A : Nat → Prop} {a0 : Nat} {a1 : Int32} {h : Hp} (hf : fX12_needPlace a0 a1 h = some (.inr ())) : Met l yX12_needPlace (wsM yX12_needPlace cX12_needPlace 2 none) (rmm 9 0 0) (PcE E A h [rv a0, .int a1]) (Qv E A h) 0 0 A := by
  refine met_of (by decide +kernel) (by simp [lg_sl, cat_rv, cat_wv, cat_sv, cat_i, cat_l, cat_a]) (fun p e s m args below meth c ls X hr hlk hnm S hl => ?_)
  have hl : lv_has ls 2 [(0, rv a0), (1, .int a1)] := by simpa [lv_args, cat_rv, cat_wv, cat_sv, cat_i, cat_l, cat_a] using hl
  generalize hH : s.heap = H at S ⊢
  generalize hlo : ([] : List Loc) = locs at S ⊢
  clear hH hlo
  unfold fX12_needPlace at hf
  obtain ⟨hth, hf⟩ := gd_some hf
  refine lv_iload_n X.1 X.2.1 dX12_needPlace_0 rfl (lv_at hl 1 rfl) ?_
  obtain ⟨v1, hc, hf⟩ := ob_some hf
  refine g_ci S (runS (As := [.int a1]) (rest := []) X S coX12_232 (by decide) (cX10_isPlace_m l hc) rfl hl.1 (by decide) rfl ⟨Nat.zero_le _, Nat.zero_le _⟩ dX12_needPlace_1) (fun H locs S => ?_)
  refine lv_if_ne (tgt := 18) X.1 X.2.1 dX12_needPlace_4 (by decide) (fun c2 => ?_) (fun c2 => ?_)
  · replace hf := (if_neg c2).symm.trans hf
    cases hf; exact g_rv X S hr hlk dX12_needPlace_18
  · replace hf := (if_pos c2).symm.trans hf
    cases hf
theorem cX12_needPlace_x (l : Launch) (hlt : l.stackTraces = false) {E : EE} {A : Nat → Prop} {a0 : Nat} {a1 : Int32} {h : Hp} {k9 : Nat} (hf : fX12_needPlace a0 a1 h = some (.inl k9)) : vx_Met l yX12_needPlace (wsM yX12_needPlace cX12_needPlace 2 none) (rmm 9 1 6) (PcE E A h [rv a0, .int a1]) noQ (XX E A h k9) 1 6 A := by
  refine met_ofX (by decide +kernel) (by simp [lg_sl, cat_rv, cat_wv, cat_sv, cat_i, cat_l, cat_a]) (fun p e s m args below meth c ls X hr hlk hnm hne S hl => ?_)
  have hR1 : 0 + 1 ≤ (rmm 9 1 6).cells ∧ 0 + 6 ≤ (rmm 9 1 6).slots := ⟨Nat.le_refl _, Nat.le_refl _⟩
  have hl : lv_has ls 2 [(0, rv a0), (1, .int a1)] := by simpa [lv_args, cat_rv, cat_wv, cat_sv, cat_i, cat_l, cat_a] using hl
  generalize hH : s.heap = H at S ⊢
  generalize hlo : ([] : List Loc) = locs at S ⊢
  clear hH hlo
  unfold fX12_needPlace at hf
  obtain ⟨hth, hf⟩ := gd_some hf
  refine lv_iload_n X.1 X.2.1 dX12_needPlace_0 rfl (lv_at hl 1 rfl) ?_
  obtain ⟨v1, hc, hf⟩ := ob_some hf
  refine g_ci S (runS (As := [.int a1]) (rest := []) X S coX12_232 (by decide) (cX10_isPlace_m l hc) rfl hl.1 (by decide) rfl ⟨Nat.zero_le _, Nat.zero_le _⟩ dX12_needPlace_1) (fun H locs S => ?_)
  refine lv_if_ne (tgt := 18) X.1 X.2.1 dX12_needPlace_4 (by decide) (fun c2 => ?_) (fun c2 => ?_)
  · replace hf := (if_neg c2).symm.trans hf
    cases hf
  · replace hf := (if_pos c2).symm.trans hf
    cases hf
    exact g_throwW (rest := []) X S hne hlk hlt hl.1 (by decide) (by decide) tfX12_135_303 dX12_needPlace_7 dX12_needPlace_10 dX12_needPlace_11 dX12_needPlace_14 dX12_needPlace_17 hR1
def fX12_at (a0 : Nat) (a1 : Int32) (h : Hp) : Option (Nat ⊕ Int32) := gd 10 a0 h (oe (fX12_needPlace a0 a1 h) (fun k => some (.inl k)) fun v1 => ob (gR 10 a0 10 h) fun v2 => ob (gR 2 v2 0 h) fun v3 => ob (fX10_cell v3 a1 h) fun v4 => some (.inr v4))
theorem tkX12_at {a0 : Nat} {a1 : Int32} {h : Hp} {r9 : Nat ⊕ Int32} (e : fX12_at a0 a1 h = some r9) : hK h a0 = 10 := by
  unfold fX12_at at e
  exact (gd_some e).1
theorem cX12_at_m (l : Launch) {E : EE} {A : Nat → Prop} {a0 : Nat} {a1 : Int32} {h : Hp} {r9 : Int32} (hf : fX12_at a0 a1 h = some (.inr r9)) : Met l yX12_at (wsM yX12_at cX12_at 2 (some .int)) (rmm 10 0 0) (PcE E A h [rv a0, .int a1]) (Qi E A h r9) 0 0 A := by
  refine met_of (by decide +kernel) (by simp [lg_sl, cat_rv, cat_wv, cat_sv, cat_i, cat_l, cat_a]) (fun p e s m args below meth c ls X hr hlk hnm S hl => ?_)
  have hl : lv_has ls 2 [(0, rv a0), (1, .int a1)] := by simpa [lv_args, cat_rv, cat_wv, cat_sv, cat_i, cat_l, cat_a] using hl
  generalize hH : s.heap = H at S ⊢
  generalize hlo : ([] : List Loc) = locs at S ⊢
  clear hH hlo
  unfold fX12_at at hf
  obtain ⟨hth, hf⟩ := gd_some hf
  refine g_aload_n X (or_rv _) dX12_at_0 rfl (lv_at hl 0 rfl) ?_
  refine lv_iload_n X.1 X.2.1 dX12_at_1 rfl (lv_at hl 1 rfl) ?_
  rcases oe_some hf with ⟨k, hc, hf⟩ | ⟨v1, hc, hf⟩
  · cases hf
  refine g_cv S (runV (As := [.int a1]) (rest := []) X S coX12_140 (by decide) (cX12_needPlace_m l hc) (tkX12_needPlace hc) rfl hl.1 (by decide) rfl ⟨Nat.zero_le _, Nat.zero_le _⟩ dX12_at_2) (fun H locs S => ?_)
  refine g_aload_n X (or_rv _) dX12_at_5 rfl (lv_at hl 0 rfl) ?_
  refine g_gR X S foX12_61 dX12_at_6 hf (fun v2 hf => ?_)
  refine g_gR X S foX12_107 dX12_at_9 hf (fun v3 hf => ?_)
  refine lv_iload_n X.1 X.2.1 dX12_at_12 rfl (lv_at hl 1 rfl) ?_
  obtain ⟨v4, hc, hf⟩ := ob_some hf
  refine g_ci S (runV (As := [.int a1]) (rest := []) X S coX12_113 (by decide) (cX10_cell_m l hc) (tkX10_cell hc) rfl hl.1 (by decide) rfl ⟨Nat.zero_le _, Nat.zero_le _⟩ dX12_at_13) (fun H locs S => ?_)
  cases hf; exact g_ri X S hr hlk dX12_at_16
theorem cX12_at_x (l : Launch) (hlt : l.stackTraces = false) {E : EE} {A : Nat → Prop} {a0 : Nat} {a1 : Int32} {h : Hp} {k9 : Nat} (hf : fX12_at a0 a1 h = some (.inl k9)) : vx_Met l yX12_at (wsM yX12_at cX12_at 2 (some .int)) (rmm 10 1 6) (PcE E A h [rv a0, .int a1]) noQ (XX E A h k9) 1 6 A := by
  refine met_ofX (by decide +kernel) (by simp [lg_sl, cat_rv, cat_wv, cat_sv, cat_i, cat_l, cat_a]) (fun p e s m args below meth c ls X hr hlk hnm hne S hl => ?_)
  have hR1 : 0 + 1 ≤ (rmm 10 1 6).cells ∧ 0 + 6 ≤ (rmm 10 1 6).slots := ⟨Nat.le_refl _, Nat.le_refl _⟩
  have hl : lv_has ls 2 [(0, rv a0), (1, .int a1)] := by simpa [lv_args, cat_rv, cat_wv, cat_sv, cat_i, cat_l, cat_a] using hl
  generalize hH : s.heap = H at S ⊢
  generalize hlo : ([] : List Loc) = locs at S ⊢
  clear hH hlo
  unfold fX12_at at hf
  obtain ⟨hth, hf⟩ := gd_some hf
  refine g_aload_n X (or_rv _) dX12_at_0 rfl (lv_at hl 0 rfl) ?_
  refine lv_iload_n X.1 X.2.1 dX12_at_1 rfl (lv_at hl 1 rfl) ?_
  rcases oe_some hf with ⟨k, hc, hf⟩ | ⟨v1, hc, hf⟩
  · cases hf
    exact g_pass S hne hlk (runVX (As := [.int a1]) (rest := []) X S coX12_140 (by decide) (cX12_needPlace_x l hlt hc) (tkX12_needPlace hc) rfl hl.1 (by decide) rfl hR1 dX12_at_2)
  refine g_cv S (runV (As := [.int a1]) (rest := []) X S coX12_140 (by decide) (cX12_needPlace_m l hc) (tkX12_needPlace hc) rfl hl.1 (by decide) rfl ⟨Nat.zero_le _, Nat.zero_le _⟩ dX12_at_2) (fun H locs S => ?_)
  refine g_aload_n X (or_rv _) dX12_at_5 rfl (lv_at hl 0 rfl) ?_
  refine g_gR X S foX12_61 dX12_at_6 hf (fun v2 hf => ?_)
  refine g_gR X S foX12_107 dX12_at_9 hf (fun v3 hf => ?_)
  refine lv_iload_n X.1 X.2.1 dX12_at_12 rfl (lv_at hl 1 rfl) ?_
  obtain ⟨v4, hc, hf⟩ := ob_some hf
  refine g_ci S (runV (As := [.int a1]) (rest := []) X S coX12_113 (by decide) (cX10_cell_m l hc) (tkX10_cell hc) rfl hl.1 (by decide) rfl ⟨Nat.zero_le _, Nat.zero_le _⟩ dX12_at_13) (fun H locs S => ?_)
  cases hf
def fX12_needRegister_10 (h : Hp) : Option (Nat ⊕ Unit) := some (.inl 1)
theorem wfX12_needRegister_10 {h : Hp} (X : Cx p E A 8 R s m args c cX12_needRegister yX12_needRegister.cls 2) (hr : meth.sig.returnType = none) (hlk : meth.locks = false) (hnm : meth.name = yX12_needRegister.name) :
    ∀ (H : Heap) (locs : List Loc) (ls : Array Slot), lv_has ls 2 [] → St E A s h H locs → fX12_needRegister_10 h  = some (.inr ()) → W p l e R s m args below meth c H locs 0 0 (MQ below (Qv E A h) args s 0 0 A) (F0 m 10 ls []) := by
  intro  H locs ls hl S hf
  unfold fX12_needRegister_10 at hf
  cases hf
def fX12_needRegister (a0 : Nat) (a1 : Int32) (h : Hp) : Option (Nat ⊕ Unit) := gd 10 a0 h (if a1 < 0 then fX12_needRegister_10 h  else if a1 ≤ 7 then some (.inr ()) else fX12_needRegister_10 h )
theorem tkX12_needRegister {a0 : Nat} {a1 : Int32} {h : Hp} {r9 : Nat ⊕ Unit} (e : fX12_needRegister a0 a1 h = some r9) : hK h a0 = 10 := by
  unfold fX12_needRegister at e
  exact (gd_some e).1
theorem cX12_needRegister_m (l : Launch) {E : EE} {A : Nat → Prop} {a0 : Nat} {a1 : Int32} {h : Hp} (hf : fX12_needRegister a0 a1 h = some (.inr ())) : Met l yX12_needRegister (wsM yX12_needRegister cX12_needRegister 2 none) (rmm 8 0 0) (PcE E A h [rv a0, .int a1]) (Qv E A h) 0 0 A := by
  refine met_of (by decide +kernel) (by simp [lg_sl, cat_rv, cat_wv, cat_sv, cat_i, cat_l, cat_a]) (fun p e s m args below meth c ls X hr hlk hnm S hl => ?_)
  have hl : lv_has ls 2 [(0, rv a0), (1, .int a1)] := by simpa [lv_args, cat_rv, cat_wv, cat_sv, cat_i, cat_l, cat_a] using hl
  generalize hH : s.heap = H at S ⊢
  generalize hlo : ([] : List Loc) = locs at S ⊢
  clear hH hlo
  unfold fX12_needRegister at hf
  obtain ⟨hth, hf⟩ := gd_some hf
  refine lv_iload_n X.1 X.2.1 dX12_needRegister_0 rfl (lv_at hl 1 rfl) ?_
  refine lv_if_lt (tgt := 10) X.1 X.2.1 dX12_needRegister_1 (by decide) (fun c1 => ?_) (fun c1 => ?_)
  · replace hf := (if_pos c1).symm.trans hf
    exact wfX12_needRegister_10 X hr hlk hnm _ _ _ (lv_sub hl [] rfl) S hf
  · replace hf := (if_neg c1).symm.trans hf
    refine lv_iload_n X.1 X.2.1 dX12_needRegister_4 rfl (lv_at hl 1 rfl) ?_
    refine lv_bipush (v := 7) X.1 X.2.1 dX12_needRegister_5 (by decide) ?_
    refine lv_icmp_le (tgt := 21) X.1 X.2.1 dX12_needRegister_7 (by decide) (fun c2 => ?_) (fun c2 => ?_)
    · replace hf := (if_pos c2).symm.trans hf
      cases hf; exact g_rv X S hr hlk dX12_needRegister_21
    · replace hf := (if_neg c2).symm.trans hf
      exact wfX12_needRegister_10 X hr hlk hnm _ _ _ (lv_sub hl [] rfl) S hf
theorem wfX12_needRegister_10_x {h : Hp} {k9 : Nat} (X : Cx p E A 8 R s m args c cX12_needRegister yX12_needRegister.cls 2) (hr : meth.sig.returnType = none) (hlk : meth.locks = false) (hnm : meth.name = yX12_needRegister.name) (hne : ∀ x ∈ c.exceptionTable.toList, False) (hlt : l.stackTraces = false) (hR1 : 0 + 1 ≤ R.cells ∧ 0 + 6 ≤ R.slots) :
    ∀ (H : Heap) (locs : List Loc) (ls : Array Slot), lv_has ls 2 [] → St E A s h H locs → fX12_needRegister_10 h  = some (.inl k9) → W p l e R s m args below meth c H locs 0 0 (vx_MQ below noQ (XX E A h k9) args s 1 6 A) (F0 m 10 ls []) := by
  intro  H locs ls hl S hf
  unfold fX12_needRegister_10 at hf
  cases hf
  exact g_throwW (rest := []) X S hne hlk hlt hl.1 (by decide) (by decide) tfX12_135_305 dX12_needRegister_10 dX12_needRegister_13 dX12_needRegister_14 dX12_needRegister_17 dX12_needRegister_20 hR1
theorem cX12_needRegister_x (l : Launch) (hlt : l.stackTraces = false) {E : EE} {A : Nat → Prop} {a0 : Nat} {a1 : Int32} {h : Hp} {k9 : Nat} (hf : fX12_needRegister a0 a1 h = some (.inl k9)) : vx_Met l yX12_needRegister (wsM yX12_needRegister cX12_needRegister 2 none) (rmm 8 1 6) (PcE E A h [rv a0, .int a1]) noQ (XX E A h k9) 1 6 A := by
  refine met_ofX (by decide +kernel) (by simp [lg_sl, cat_rv, cat_wv, cat_sv, cat_i, cat_l, cat_a]) (fun p e s m args below meth c ls X hr hlk hnm hne S hl => ?_)
  have hR1 : 0 + 1 ≤ (rmm 8 1 6).cells ∧ 0 + 6 ≤ (rmm 8 1 6).slots := ⟨Nat.le_refl _, Nat.le_refl _⟩
  have hl : lv_has ls 2 [(0, rv a0), (1, .int a1)] := by simpa [lv_args, cat_rv, cat_wv, cat_sv, cat_i, cat_l, cat_a] using hl
  generalize hH : s.heap = H at S ⊢
  generalize hlo : ([] : List Loc) = locs at S ⊢
  clear hH hlo
  unfold fX12_needRegister at hf
  obtain ⟨hth, hf⟩ := gd_some hf
  refine lv_iload_n X.1 X.2.1 dX12_needRegister_0 rfl (lv_at hl 1 rfl) ?_
  refine lv_if_lt (tgt := 10) X.1 X.2.1 dX12_needRegister_1 (by decide) (fun c1 => ?_) (fun c1 => ?_)
  · replace hf := (if_pos c1).symm.trans hf
    exact wfX12_needRegister_10_x X hr hlk hnm hne hlt hR1 _ _ _ (lv_sub hl [] rfl) S hf
  · replace hf := (if_neg c1).symm.trans hf
    refine lv_iload_n X.1 X.2.1 dX12_needRegister_4 rfl (lv_at hl 1 rfl) ?_
    refine lv_bipush (v := 7) X.1 X.2.1 dX12_needRegister_5 (by decide) ?_
    refine lv_icmp_le (tgt := 21) X.1 X.2.1 dX12_needRegister_7 (by decide) (fun c2 => ?_) (fun c2 => ?_)
    · replace hf := (if_pos c2).symm.trans hf
      cases hf
    · replace hf := (if_neg c2).symm.trans hf
      exact wfX12_needRegister_10_x X hr hlk hnm hne hlt hR1 _ _ _ (lv_sub hl [] rfl) S hf
def fX12_register (a0 : Nat) (a1 : Int32) (h : Hp) : Option (Nat ⊕ Int32) := gd 10 a0 h (oe (fX12_needRegister a0 a1 h) (fun k => some (.inl k)) fun v1 => ob (gR 10 a0 10 h) fun v2 => ob (gR 2 v2 0 h) fun v3 => ob (fX10_cell v3 (256 + a1) h) fun v4 => some (.inr v4))
theorem tkX12_register {a0 : Nat} {a1 : Int32} {h : Hp} {r9 : Nat ⊕ Int32} (e : fX12_register a0 a1 h = some r9) : hK h a0 = 10 := by
  unfold fX12_register at e
  exact (gd_some e).1
theorem cX12_register_m (l : Launch) {E : EE} {A : Nat → Prop} {a0 : Nat} {a1 : Int32} {h : Hp} {r9 : Int32} (hf : fX12_register a0 a1 h = some (.inr r9)) : Met l yX12_register (wsM yX12_register cX12_register 2 (some .int)) (rmm 9 0 0) (PcE E A h [rv a0, .int a1]) (Qi E A h r9) 0 0 A := by
  refine met_of (by decide +kernel) (by simp [lg_sl, cat_rv, cat_wv, cat_sv, cat_i, cat_l, cat_a]) (fun p e s m args below meth c ls X hr hlk hnm S hl => ?_)
  have hl : lv_has ls 2 [(0, rv a0), (1, .int a1)] := by simpa [lv_args, cat_rv, cat_wv, cat_sv, cat_i, cat_l, cat_a] using hl
  generalize hH : s.heap = H at S ⊢
  generalize hlo : ([] : List Loc) = locs at S ⊢
  clear hH hlo
  unfold fX12_register at hf
  obtain ⟨hth, hf⟩ := gd_some hf
  refine g_aload_n X (or_rv _) dX12_register_0 rfl (lv_at hl 0 rfl) ?_
  refine lv_iload_n X.1 X.2.1 dX12_register_1 rfl (lv_at hl 1 rfl) ?_
  rcases oe_some hf with ⟨k, hc, hf⟩ | ⟨v1, hc, hf⟩
  · cases hf
  refine g_cv S (runV (As := [.int a1]) (rest := []) X S coX12_143 (by decide) (cX12_needRegister_m l hc) (tkX12_needRegister hc) rfl hl.1 (by decide) rfl ⟨Nat.zero_le _, Nat.zero_le _⟩ dX12_register_2) (fun H locs S => ?_)
  refine g_aload_n X (or_rv _) dX12_register_5 rfl (lv_at hl 0 rfl) ?_
  refine g_gR X S foX12_61 dX12_register_6 hf (fun v2 hf => ?_)
  refine g_gR X S foX12_107 dX12_register_9 hf (fun v3 hf => ?_)
  refine lv_sipush (v := 256) X.1 X.2.1 dX12_register_12 (by decide) ?_
  refine lv_iload_n X.1 X.2.1 dX12_register_15 rfl (lv_at hl 1 rfl) ?_
  refine lv_iadd X.1 X.2.1 dX12_register_16 ?_
  obtain ⟨v4, hc, hf⟩ := ob_some hf
  refine g_ci S (runV (As := [.int (256 + a1)]) (rest := []) X S coX12_113 (by decide) (cX10_cell_m l hc) (tkX10_cell hc) rfl hl.1 (by decide) rfl ⟨Nat.zero_le _, Nat.zero_le _⟩ dX12_register_17) (fun H locs S => ?_)
  cases hf; exact g_ri X S hr hlk dX12_register_20
theorem cX12_register_x (l : Launch) (hlt : l.stackTraces = false) {E : EE} {A : Nat → Prop} {a0 : Nat} {a1 : Int32} {h : Hp} {k9 : Nat} (hf : fX12_register a0 a1 h = some (.inl k9)) : vx_Met l yX12_register (wsM yX12_register cX12_register 2 (some .int)) (rmm 9 1 6) (PcE E A h [rv a0, .int a1]) noQ (XX E A h k9) 1 6 A := by
  refine met_ofX (by decide +kernel) (by simp [lg_sl, cat_rv, cat_wv, cat_sv, cat_i, cat_l, cat_a]) (fun p e s m args below meth c ls X hr hlk hnm hne S hl => ?_)
  have hR1 : 0 + 1 ≤ (rmm 9 1 6).cells ∧ 0 + 6 ≤ (rmm 9 1 6).slots := ⟨Nat.le_refl _, Nat.le_refl _⟩
  have hl : lv_has ls 2 [(0, rv a0), (1, .int a1)] := by simpa [lv_args, cat_rv, cat_wv, cat_sv, cat_i, cat_l, cat_a] using hl
  generalize hH : s.heap = H at S ⊢
  generalize hlo : ([] : List Loc) = locs at S ⊢
  clear hH hlo
  unfold fX12_register at hf
  obtain ⟨hth, hf⟩ := gd_some hf
  refine g_aload_n X (or_rv _) dX12_register_0 rfl (lv_at hl 0 rfl) ?_
  refine lv_iload_n X.1 X.2.1 dX12_register_1 rfl (lv_at hl 1 rfl) ?_
  rcases oe_some hf with ⟨k, hc, hf⟩ | ⟨v1, hc, hf⟩
  · cases hf
    exact g_pass S hne hlk (runVX (As := [.int a1]) (rest := []) X S coX12_143 (by decide) (cX12_needRegister_x l hlt hc) (tkX12_needRegister hc) rfl hl.1 (by decide) rfl hR1 dX12_register_2)
  refine g_cv S (runV (As := [.int a1]) (rest := []) X S coX12_143 (by decide) (cX12_needRegister_m l hc) (tkX12_needRegister hc) rfl hl.1 (by decide) rfl ⟨Nat.zero_le _, Nat.zero_le _⟩ dX12_register_2) (fun H locs S => ?_)
  refine g_aload_n X (or_rv _) dX12_register_5 rfl (lv_at hl 0 rfl) ?_
  refine g_gR X S foX12_61 dX12_register_6 hf (fun v2 hf => ?_)
  refine g_gR X S foX12_107 dX12_register_9 hf (fun v3 hf => ?_)
  refine lv_sipush (v := 256) X.1 X.2.1 dX12_register_12 (by decide) ?_
  refine lv_iload_n X.1 X.2.1 dX12_register_15 rfl (lv_at hl 1 rfl) ?_
  refine lv_iadd X.1 X.2.1 dX12_register_16 ?_
  obtain ⟨v4, hc, hf⟩ := ob_some hf
  refine g_ci S (runV (As := [.int (256 + a1)]) (rest := []) X S coX12_113 (by decide) (cX10_cell_m l hc) (tkX10_cell hc) rfl hl.1 (by decide) rfl ⟨Nat.zero_le _, Nat.zero_le _⟩ dX12_register_17) (fun H locs S => ?_)
  cases hf
def fX12_needKind_11 (h : Hp) : Option (Nat ⊕ Unit) := some (.inl 1)
theorem wfX12_needKind_11 {h : Hp} (X : Cx p E A 8 R s m args c cX12_needKind yX12_needKind.cls 2) (hr : meth.sig.returnType = none) (hlk : meth.locks = false) (hnm : meth.name = yX12_needKind.name) :
    ∀ (H : Heap) (locs : List Loc) (ls : Array Slot), lv_has ls 2 [] → St E A s h H locs → fX12_needKind_11 h  = some (.inr ()) → W p l e R s m args below meth c H locs 0 0 (MQ below (Qv E A h) args s 0 0 A) (F0 m 11 ls []) := by
  intro  H locs ls hl S hf
  unfold fX12_needKind_11 at hf
  cases hf
def fX12_needKind (a0 : Nat) (a1 : Int32) (h : Hp) : Option (Nat ⊕ Unit) := gd 10 a0 h (if a1 < 1 then fX12_needKind_11 h  else if a1 ≤ 8 then some (.inr ()) else fX12_needKind_11 h )
theorem tkX12_needKind {a0 : Nat} {a1 : Int32} {h : Hp} {r9 : Nat ⊕ Unit} (e : fX12_needKind a0 a1 h = some r9) : hK h a0 = 10 := by
  unfold fX12_needKind at e
  exact (gd_some e).1
theorem cX12_needKind_m (l : Launch) {E : EE} {A : Nat → Prop} {a0 : Nat} {a1 : Int32} {h : Hp} (hf : fX12_needKind a0 a1 h = some (.inr ())) : Met l yX12_needKind (wsM yX12_needKind cX12_needKind 2 none) (rmm 8 0 0) (PcE E A h [rv a0, .int a1]) (Qv E A h) 0 0 A := by
  refine met_of (by decide +kernel) (by simp [lg_sl, cat_rv, cat_wv, cat_sv, cat_i, cat_l, cat_a]) (fun p e s m args below meth c ls X hr hlk hnm S hl => ?_)
  have hl : lv_has ls 2 [(0, rv a0), (1, .int a1)] := by simpa [lv_args, cat_rv, cat_wv, cat_sv, cat_i, cat_l, cat_a] using hl
  generalize hH : s.heap = H at S ⊢
  generalize hlo : ([] : List Loc) = locs at S ⊢
  clear hH hlo
  unfold fX12_needKind at hf
  obtain ⟨hth, hf⟩ := gd_some hf
  refine lv_iload_n X.1 X.2.1 dX12_needKind_0 rfl (lv_at hl 1 rfl) ?_
  refine lv_iconst (v := 1) X.1 X.2.1 dX12_needKind_1 (by decide) ?_
  refine lv_icmp_lt (tgt := 11) X.1 X.2.1 dX12_needKind_2 (by decide) (fun c1 => ?_) (fun c1 => ?_)
  · replace hf := (if_pos c1).symm.trans hf
    exact wfX12_needKind_11 X hr hlk hnm _ _ _ (lv_sub hl [] rfl) S hf
  · replace hf := (if_neg c1).symm.trans hf
    refine lv_iload_n X.1 X.2.1 dX12_needKind_5 rfl (lv_at hl 1 rfl) ?_
    refine lv_bipush (v := 8) X.1 X.2.1 dX12_needKind_6 (by decide) ?_
    refine lv_icmp_le (tgt := 22) X.1 X.2.1 dX12_needKind_8 (by decide) (fun c2 => ?_) (fun c2 => ?_)
    · replace hf := (if_pos c2).symm.trans hf
      cases hf; exact g_rv X S hr hlk dX12_needKind_22
    · replace hf := (if_neg c2).symm.trans hf
      exact wfX12_needKind_11 X hr hlk hnm _ _ _ (lv_sub hl [] rfl) S hf
theorem wfX12_needKind_11_x {h : Hp} {k9 : Nat} (X : Cx p E A 8 R s m args c cX12_needKind yX12_needKind.cls 2) (hr : meth.sig.returnType = none) (hlk : meth.locks = false) (hnm : meth.name = yX12_needKind.name) (hne : ∀ x ∈ c.exceptionTable.toList, False) (hlt : l.stackTraces = false) (hR1 : 0 + 1 ≤ R.cells ∧ 0 + 6 ≤ R.slots) :
    ∀ (H : Heap) (locs : List Loc) (ls : Array Slot), lv_has ls 2 [] → St E A s h H locs → fX12_needKind_11 h  = some (.inl k9) → W p l e R s m args below meth c H locs 0 0 (vx_MQ below noQ (XX E A h k9) args s 1 6 A) (F0 m 11 ls []) := by
  intro  H locs ls hl S hf
  unfold fX12_needKind_11 at hf
  cases hf
  exact g_throwW (rest := []) X S hne hlk hlt hl.1 (by decide) (by decide) tfX12_135_307 dX12_needKind_11 dX12_needKind_14 dX12_needKind_15 dX12_needKind_18 dX12_needKind_21 hR1
theorem cX12_needKind_x (l : Launch) (hlt : l.stackTraces = false) {E : EE} {A : Nat → Prop} {a0 : Nat} {a1 : Int32} {h : Hp} {k9 : Nat} (hf : fX12_needKind a0 a1 h = some (.inl k9)) : vx_Met l yX12_needKind (wsM yX12_needKind cX12_needKind 2 none) (rmm 8 1 6) (PcE E A h [rv a0, .int a1]) noQ (XX E A h k9) 1 6 A := by
  refine met_ofX (by decide +kernel) (by simp [lg_sl, cat_rv, cat_wv, cat_sv, cat_i, cat_l, cat_a]) (fun p e s m args below meth c ls X hr hlk hnm hne S hl => ?_)
  have hR1 : 0 + 1 ≤ (rmm 8 1 6).cells ∧ 0 + 6 ≤ (rmm 8 1 6).slots := ⟨Nat.le_refl _, Nat.le_refl _⟩
  have hl : lv_has ls 2 [(0, rv a0), (1, .int a1)] := by simpa [lv_args, cat_rv, cat_wv, cat_sv, cat_i, cat_l, cat_a] using hl
  generalize hH : s.heap = H at S ⊢
  generalize hlo : ([] : List Loc) = locs at S ⊢
  clear hH hlo
  unfold fX12_needKind at hf
  obtain ⟨hth, hf⟩ := gd_some hf
  refine lv_iload_n X.1 X.2.1 dX12_needKind_0 rfl (lv_at hl 1 rfl) ?_
  refine lv_iconst (v := 1) X.1 X.2.1 dX12_needKind_1 (by decide) ?_
  refine lv_icmp_lt (tgt := 11) X.1 X.2.1 dX12_needKind_2 (by decide) (fun c1 => ?_) (fun c1 => ?_)
  · replace hf := (if_pos c1).symm.trans hf
    exact wfX12_needKind_11_x X hr hlk hnm hne hlt hR1 _ _ _ (lv_sub hl [] rfl) S hf
  · replace hf := (if_neg c1).symm.trans hf
    refine lv_iload_n X.1 X.2.1 dX12_needKind_5 rfl (lv_at hl 1 rfl) ?_
    refine lv_bipush (v := 8) X.1 X.2.1 dX12_needKind_6 (by decide) ?_
    refine lv_icmp_le (tgt := 22) X.1 X.2.1 dX12_needKind_8 (by decide) (fun c2 => ?_) (fun c2 => ?_)
    · replace hf := (if_pos c2).symm.trans hf
      cases hf
    · replace hf := (if_neg c2).symm.trans hf
      exact wfX12_needKind_11_x X hr hlk hnm hne hlt hR1 _ _ _ (lv_sub hl [] rfl) S hf
def fX12_guard (a0 : Nat) (a1 : Int32) (h : Hp) : Option (Nat ⊕ Int32) := gd 10 a0 h (oe (fX12_needKind a0 a1 h) (fun k => some (.inl k)) fun v1 => ob (gR 10 a0 10 h) fun v2 => ob (gR 2 v2 0 h) fun v3 => ob (fX10_cell v3 ((268 + a1) - 1) h) fun v4 => some (.inr v4))
theorem tkX12_guard {a0 : Nat} {a1 : Int32} {h : Hp} {r9 : Nat ⊕ Int32} (e : fX12_guard a0 a1 h = some r9) : hK h a0 = 10 := by
  unfold fX12_guard at e
  exact (gd_some e).1
theorem cX12_guard_m (l : Launch) {E : EE} {A : Nat → Prop} {a0 : Nat} {a1 : Int32} {h : Hp} {r9 : Int32} (hf : fX12_guard a0 a1 h = some (.inr r9)) : Met l yX12_guard (wsM yX12_guard cX12_guard 2 (some .int)) (rmm 9 0 0) (PcE E A h [rv a0, .int a1]) (Qi E A h r9) 0 0 A := by
  refine met_of (by decide +kernel) (by simp [lg_sl, cat_rv, cat_wv, cat_sv, cat_i, cat_l, cat_a]) (fun p e s m args below meth c ls X hr hlk hnm S hl => ?_)
  have hl : lv_has ls 2 [(0, rv a0), (1, .int a1)] := by simpa [lv_args, cat_rv, cat_wv, cat_sv, cat_i, cat_l, cat_a] using hl
  generalize hH : s.heap = H at S ⊢
  generalize hlo : ([] : List Loc) = locs at S ⊢
  clear hH hlo
  unfold fX12_guard at hf
  obtain ⟨hth, hf⟩ := gd_some hf
  refine g_aload_n X (or_rv _) dX12_guard_0 rfl (lv_at hl 0 rfl) ?_
  refine lv_iload_n X.1 X.2.1 dX12_guard_1 rfl (lv_at hl 1 rfl) ?_
  rcases oe_some hf with ⟨k, hc, hf⟩ | ⟨v1, hc, hf⟩
  · cases hf
  refine g_cv S (runV (As := [.int a1]) (rest := []) X S coX12_146 (by decide) (cX12_needKind_m l hc) (tkX12_needKind hc) rfl hl.1 (by decide) rfl ⟨Nat.zero_le _, Nat.zero_le _⟩ dX12_guard_2) (fun H locs S => ?_)
  refine g_aload_n X (or_rv _) dX12_guard_5 rfl (lv_at hl 0 rfl) ?_
  refine g_gR X S foX12_61 dX12_guard_6 hf (fun v2 hf => ?_)
  refine g_gR X S foX12_107 dX12_guard_9 hf (fun v3 hf => ?_)
  refine lv_sipush (v := 268) X.1 X.2.1 dX12_guard_12 (by decide) ?_
  refine lv_iload_n X.1 X.2.1 dX12_guard_15 rfl (lv_at hl 1 rfl) ?_
  refine lv_iadd X.1 X.2.1 dX12_guard_16 ?_
  refine lv_iconst (v := 1) X.1 X.2.1 dX12_guard_17 (by decide) ?_
  refine lv_isub X.1 X.2.1 dX12_guard_18 ?_
  obtain ⟨v4, hc, hf⟩ := ob_some hf
  refine g_ci S (runV (As := [.int ((268 + a1) - 1)]) (rest := []) X S coX12_113 (by decide) (cX10_cell_m l hc) (tkX10_cell hc) rfl hl.1 (by decide) rfl ⟨Nat.zero_le _, Nat.zero_le _⟩ dX12_guard_19) (fun H locs S => ?_)
  cases hf; exact g_ri X S hr hlk dX12_guard_22
theorem cX12_guard_x (l : Launch) (hlt : l.stackTraces = false) {E : EE} {A : Nat → Prop} {a0 : Nat} {a1 : Int32} {h : Hp} {k9 : Nat} (hf : fX12_guard a0 a1 h = some (.inl k9)) : vx_Met l yX12_guard (wsM yX12_guard cX12_guard 2 (some .int)) (rmm 9 1 6) (PcE E A h [rv a0, .int a1]) noQ (XX E A h k9) 1 6 A := by
  refine met_ofX (by decide +kernel) (by simp [lg_sl, cat_rv, cat_wv, cat_sv, cat_i, cat_l, cat_a]) (fun p e s m args below meth c ls X hr hlk hnm hne S hl => ?_)
  have hR1 : 0 + 1 ≤ (rmm 9 1 6).cells ∧ 0 + 6 ≤ (rmm 9 1 6).slots := ⟨Nat.le_refl _, Nat.le_refl _⟩
  have hl : lv_has ls 2 [(0, rv a0), (1, .int a1)] := by simpa [lv_args, cat_rv, cat_wv, cat_sv, cat_i, cat_l, cat_a] using hl
  generalize hH : s.heap = H at S ⊢
  generalize hlo : ([] : List Loc) = locs at S ⊢
  clear hH hlo
  unfold fX12_guard at hf
  obtain ⟨hth, hf⟩ := gd_some hf
  refine g_aload_n X (or_rv _) dX12_guard_0 rfl (lv_at hl 0 rfl) ?_
  refine lv_iload_n X.1 X.2.1 dX12_guard_1 rfl (lv_at hl 1 rfl) ?_
  rcases oe_some hf with ⟨k, hc, hf⟩ | ⟨v1, hc, hf⟩
  · cases hf
    exact g_pass S hne hlk (runVX (As := [.int a1]) (rest := []) X S coX12_146 (by decide) (cX12_needKind_x l hlt hc) (tkX12_needKind hc) rfl hl.1 (by decide) rfl hR1 dX12_guard_2)
  refine g_cv S (runV (As := [.int a1]) (rest := []) X S coX12_146 (by decide) (cX12_needKind_m l hc) (tkX12_needKind hc) rfl hl.1 (by decide) rfl ⟨Nat.zero_le _, Nat.zero_le _⟩ dX12_guard_2) (fun H locs S => ?_)
  refine g_aload_n X (or_rv _) dX12_guard_5 rfl (lv_at hl 0 rfl) ?_
  refine g_gR X S foX12_61 dX12_guard_6 hf (fun v2 hf => ?_)
  refine g_gR X S foX12_107 dX12_guard_9 hf (fun v3 hf => ?_)
  refine lv_sipush (v := 268) X.1 X.2.1 dX12_guard_12 (by decide) ?_
  refine lv_iload_n X.1 X.2.1 dX12_guard_15 rfl (lv_at hl 1 rfl) ?_
  refine lv_iadd X.1 X.2.1 dX12_guard_16 ?_
  refine lv_iconst (v := 1) X.1 X.2.1 dX12_guard_17 (by decide) ?_
  refine lv_isub X.1 X.2.1 dX12_guard_18 ?_
  obtain ⟨v4, hc, hf⟩ := ob_some hf
  refine g_ci S (runV (As := [.int ((268 + a1) - 1)]) (rest := []) X S coX12_113 (by decide) (cX10_cell_m l hc) (tkX10_cell hc) rfl hl.1 (by decide) rfl ⟨Nat.zero_le _, Nat.zero_le _⟩ dX12_guard_19) (fun H locs S => ?_)
  cases hf
def fX12_done_12 (h : Hp) : Option (Nat ⊕ Int32) := some (.inl 1)
theorem wfX12_done_12 {h : Hp} {r9 : Int32} (X : Cx p E A 11 R s m args c cX12_done yX12_done.cls 2) (hr : meth.sig.returnType = (some .int)) (hlk : meth.locks = false) (hnm : meth.name = yX12_done.name) :
    ∀ (H : Heap) (locs : List Loc) (ls : Array Slot), lv_has ls 2 [] → St E A s h H locs → fX12_done_12 h  = some (.inr r9) → W p l e R s m args below meth c H locs 0 0 (MQ below (Qi E A h r9) args s 0 0 A) (F0 m 12 ls []) := by
  intro  H locs ls hl S hf
  unfold fX12_done_12 at hf
  cases hf
def fX12_done (a0 : Nat) (a1 : Int32) (h : Hp) : Option (Nat ⊕ Int32) := gd 10 a0 h (if a1 < 0 then fX12_done_12 h  else ob (fX12_instructions a0 h) fun v2 => if a1 < v2 then ob (gR 10 a0 10 h) fun v4 => ob (gR 2 v4 0 h) fun v5 => ob (fX10_cell v5 (351 + a1) h) fun v6 => some (.inr v6) else fX12_done_12 h )
theorem tkX12_done {a0 : Nat} {a1 : Int32} {h : Hp} {r9 : Nat ⊕ Int32} (e : fX12_done a0 a1 h = some r9) : hK h a0 = 10 := by
  unfold fX12_done at e
  exact (gd_some e).1
theorem cX12_done_m (l : Launch) {E : EE} {A : Nat → Prop} {a0 : Nat} {a1 : Int32} {h : Hp} {r9 : Int32} (hf : fX12_done a0 a1 h = some (.inr r9)) : Met l yX12_done (wsM yX12_done cX12_done 2 (some .int)) (rmm 11 0 0) (PcE E A h [rv a0, .int a1]) (Qi E A h r9) 0 0 A := by
  refine met_of (by decide +kernel) (by simp [lg_sl, cat_rv, cat_wv, cat_sv, cat_i, cat_l, cat_a]) (fun p e s m args below meth c ls X hr hlk hnm S hl => ?_)
  have hl : lv_has ls 2 [(0, rv a0), (1, .int a1)] := by simpa [lv_args, cat_rv, cat_wv, cat_sv, cat_i, cat_l, cat_a] using hl
  generalize hH : s.heap = H at S ⊢
  generalize hlo : ([] : List Loc) = locs at S ⊢
  clear hH hlo
  unfold fX12_done at hf
  obtain ⟨hth, hf⟩ := gd_some hf
  refine lv_iload_n X.1 X.2.1 dX12_done_0 rfl (lv_at hl 1 rfl) ?_
  refine lv_if_lt (tgt := 12) X.1 X.2.1 dX12_done_1 (by decide) (fun c1 => ?_) (fun c1 => ?_)
  · replace hf := (if_pos c1).symm.trans hf
    exact wfX12_done_12 X hr hlk hnm _ _ _ (lv_sub hl [] rfl) S hf
  · replace hf := (if_neg c1).symm.trans hf
    refine lv_iload_n X.1 X.2.1 dX12_done_4 rfl (lv_at hl 1 rfl) ?_
    refine g_aload_n X (or_rv _) dX12_done_5 rfl (lv_at hl 0 rfl) ?_
    obtain ⟨v2, hc, hf⟩ := ob_some hf
    refine g_ci S (runV (As := []) (rest := [.int a1]) X S coX12_117 (by decide) (cX12_instructions_m l hc) (tkX12_instructions hc) rfl hl.1 (by simp [cat_rv, cat_wv, cat_sv, cat_i, cat_l, cat_a]) rfl ⟨Nat.zero_le _, Nat.zero_le _⟩ dX12_done_6) (fun H locs S => ?_)
    refine lv_icmp_lt (tgt := 22) X.1 X.2.1 dX12_done_9 (by decide) (fun c3 => ?_) (fun c3 => ?_)
    · replace hf := (if_pos c3).symm.trans hf
      refine g_aload_n X (or_rv _) dX12_done_22 rfl (lv_at hl 0 rfl) ?_
      refine g_gR X S foX12_61 dX12_done_23 hf (fun v4 hf => ?_)
      refine g_gR X S foX12_107 dX12_done_26 hf (fun v5 hf => ?_)
      refine lv_sipush (v := 351) X.1 X.2.1 dX12_done_29 (by decide) ?_
      refine lv_iload_n X.1 X.2.1 dX12_done_32 rfl (lv_at hl 1 rfl) ?_
      refine lv_iadd X.1 X.2.1 dX12_done_33 ?_
      obtain ⟨v6, hc, hf⟩ := ob_some hf
      refine g_ci S (runV (As := [.int (351 + a1)]) (rest := []) X S coX12_113 (by decide) (cX10_cell_m l hc) (tkX10_cell hc) rfl hl.1 (by decide) rfl ⟨Nat.zero_le _, Nat.zero_le _⟩ dX12_done_34) (fun H locs S => ?_)
      cases hf; exact g_ri X S hr hlk dX12_done_37
    · replace hf := (if_neg c3).symm.trans hf
      exact wfX12_done_12 X hr hlk hnm _ _ _ (lv_sub hl [] rfl) S hf
theorem wfX12_done_12_x {h : Hp} {k9 : Nat} (X : Cx p E A 11 R s m args c cX12_done yX12_done.cls 2) (hr : meth.sig.returnType = (some .int)) (hlk : meth.locks = false) (hnm : meth.name = yX12_done.name) (hne : ∀ x ∈ c.exceptionTable.toList, False) (hlt : l.stackTraces = false) (hR1 : 0 + 1 ≤ R.cells ∧ 0 + 6 ≤ R.slots) :
    ∀ (H : Heap) (locs : List Loc) (ls : Array Slot), lv_has ls 2 [] → St E A s h H locs → fX12_done_12 h  = some (.inl k9) → W p l e R s m args below meth c H locs 0 0 (vx_MQ below noQ (XX E A h k9) args s 1 6 A) (F0 m 12 ls []) := by
  intro  H locs ls hl S hf
  unfold fX12_done_12 at hf
  cases hf
  exact g_throw (rest := []) X S hne hlk hlt hl.1 (by decide) (by decide) tfX12_135_149 dX12_done_12 dX12_done_15 dX12_done_16 dX12_done_18 dX12_done_21 hR1
theorem cX12_done_x (l : Launch) (hlt : l.stackTraces = false) {E : EE} {A : Nat → Prop} {a0 : Nat} {a1 : Int32} {h : Hp} {k9 : Nat} (hf : fX12_done a0 a1 h = some (.inl k9)) : vx_Met l yX12_done (wsM yX12_done cX12_done 2 (some .int)) (rmm 11 1 6) (PcE E A h [rv a0, .int a1]) noQ (XX E A h k9) 1 6 A := by
  refine met_ofX (by decide +kernel) (by simp [lg_sl, cat_rv, cat_wv, cat_sv, cat_i, cat_l, cat_a]) (fun p e s m args below meth c ls X hr hlk hnm hne S hl => ?_)
  have hR1 : 0 + 1 ≤ (rmm 11 1 6).cells ∧ 0 + 6 ≤ (rmm 11 1 6).slots := ⟨Nat.le_refl _, Nat.le_refl _⟩
  have hl : lv_has ls 2 [(0, rv a0), (1, .int a1)] := by simpa [lv_args, cat_rv, cat_wv, cat_sv, cat_i, cat_l, cat_a] using hl
  generalize hH : s.heap = H at S ⊢
  generalize hlo : ([] : List Loc) = locs at S ⊢
  clear hH hlo
  unfold fX12_done at hf
  obtain ⟨hth, hf⟩ := gd_some hf
  refine lv_iload_n X.1 X.2.1 dX12_done_0 rfl (lv_at hl 1 rfl) ?_
  refine lv_if_lt (tgt := 12) X.1 X.2.1 dX12_done_1 (by decide) (fun c1 => ?_) (fun c1 => ?_)
  · replace hf := (if_pos c1).symm.trans hf
    exact wfX12_done_12_x X hr hlk hnm hne hlt hR1 _ _ _ (lv_sub hl [] rfl) S hf
  · replace hf := (if_neg c1).symm.trans hf
    refine lv_iload_n X.1 X.2.1 dX12_done_4 rfl (lv_at hl 1 rfl) ?_
    refine g_aload_n X (or_rv _) dX12_done_5 rfl (lv_at hl 0 rfl) ?_
    obtain ⟨v2, hc, hf⟩ := ob_some hf
    refine g_ci S (runV (As := []) (rest := [.int a1]) X S coX12_117 (by decide) (cX12_instructions_m l hc) (tkX12_instructions hc) rfl hl.1 (by simp [cat_rv, cat_wv, cat_sv, cat_i, cat_l, cat_a]) rfl ⟨Nat.zero_le _, Nat.zero_le _⟩ dX12_done_6) (fun H locs S => ?_)
    refine lv_icmp_lt (tgt := 22) X.1 X.2.1 dX12_done_9 (by decide) (fun c3 => ?_) (fun c3 => ?_)
    · replace hf := (if_pos c3).symm.trans hf
      refine g_aload_n X (or_rv _) dX12_done_22 rfl (lv_at hl 0 rfl) ?_
      refine g_gR X S foX12_61 dX12_done_23 hf (fun v4 hf => ?_)
      refine g_gR X S foX12_107 dX12_done_26 hf (fun v5 hf => ?_)
      refine lv_sipush (v := 351) X.1 X.2.1 dX12_done_29 (by decide) ?_
      refine lv_iload_n X.1 X.2.1 dX12_done_32 rfl (lv_at hl 1 rfl) ?_
      refine lv_iadd X.1 X.2.1 dX12_done_33 ?_
      obtain ⟨v6, hc, hf⟩ := ob_some hf
      refine g_ci S (runV (As := [.int (351 + a1)]) (rest := []) X S coX12_113 (by decide) (cX10_cell_m l hc) (tkX10_cell hc) rfl hl.1 (by decide) rfl ⟨Nat.zero_le _, Nat.zero_le _⟩ dX12_done_34) (fun H locs S => ?_)
      cases hf
    · replace hf := (if_neg c3).symm.trans hf
      exact wfX12_done_12_x X hr hlk hnm hne hlt hR1 _ _ _ (lv_sub hl [] rfl) S hf
def fX12_trace_18 (h : Hp) : Option (Nat ⊕ Int32) := some (.inl 1)
theorem wfX12_trace_18 {h : Hp} {r9 : Int32} (X : Cx p E A 10 R s m args c cX12_trace yX12_trace.cls 2) (hr : meth.sig.returnType = (some .int)) (hlk : meth.locks = false) (hnm : meth.name = yX12_trace.name) :
    ∀ (H : Heap) (locs : List Loc) (ls : Array Slot), lv_has ls 2 [] → St E A s h H locs → fX12_trace_18 h  = some (.inr r9) → W p l e R s m args below meth c H locs 0 0 (MQ below (Qi E A h r9) args s 0 0 A) (F0 m 18 ls []) := by
  intro  H locs ls hl S hf
  unfold fX12_trace_18 at hf
  cases hf
def fX12_trace (a0 : Nat) (a1 : Int32) (h : Hp) : Option (Nat ⊕ Int32) := gd 10 a0 h (if a1 < 0 then fX12_trace_18 h  else ob (gR 10 a0 10 h) fun v2 => ob (gR 2 v2 0 h) fun v3 => ob (fX10_traced v3 h) fun v4 => if a1 < v4 then ob (gR 10 a0 10 h) fun v6 => ob (gR 2 v6 0 h) fun v7 => ob (fX10_latest v7 a1 h) fun v8 => some (.inr v8) else fX12_trace_18 h )
theorem tkX12_trace {a0 : Nat} {a1 : Int32} {h : Hp} {r9 : Nat ⊕ Int32} (e : fX12_trace a0 a1 h = some r9) : hK h a0 = 10 := by
  unfold fX12_trace at e
  exact (gd_some e).1
theorem cX12_trace_m (l : Launch) {E : EE} {A : Nat → Prop} {a0 : Nat} {a1 : Int32} {h : Hp} {r9 : Int32} (hf : fX12_trace a0 a1 h = some (.inr r9)) : Met l yX12_trace (wsM yX12_trace cX12_trace 2 (some .int)) (rmm 10 0 0) (PcE E A h [rv a0, .int a1]) (Qi E A h r9) 0 0 A := by
  refine met_of (by decide +kernel) (by simp [lg_sl, cat_rv, cat_wv, cat_sv, cat_i, cat_l, cat_a]) (fun p e s m args below meth c ls X hr hlk hnm S hl => ?_)
  have hl : lv_has ls 2 [(0, rv a0), (1, .int a1)] := by simpa [lv_args, cat_rv, cat_wv, cat_sv, cat_i, cat_l, cat_a] using hl
  generalize hH : s.heap = H at S ⊢
  generalize hlo : ([] : List Loc) = locs at S ⊢
  clear hH hlo
  unfold fX12_trace at hf
  obtain ⟨hth, hf⟩ := gd_some hf
  refine lv_iload_n X.1 X.2.1 dX12_trace_0 rfl (lv_at hl 1 rfl) ?_
  refine lv_if_lt (tgt := 18) X.1 X.2.1 dX12_trace_1 (by decide) (fun c1 => ?_) (fun c1 => ?_)
  · replace hf := (if_pos c1).symm.trans hf
    exact wfX12_trace_18 X hr hlk hnm _ _ _ (lv_sub hl [] rfl) S hf
  · replace hf := (if_neg c1).symm.trans hf
    refine lv_iload_n X.1 X.2.1 dX12_trace_4 rfl (lv_at hl 1 rfl) ?_
    refine g_aload_n X (or_rv _) dX12_trace_5 rfl (lv_at hl 0 rfl) ?_
    refine g_gR X S foX12_61 dX12_trace_6 hf (fun v2 hf => ?_)
    refine g_gR X S foX12_107 dX12_trace_9 hf (fun v3 hf => ?_)
    obtain ⟨v4, hc, hf⟩ := ob_some hf
    refine g_ci S (runV (As := []) (rest := [.int a1]) X S coX12_123 (by decide) (cX10_traced_m l hc) (tkX10_traced hc) rfl hl.1 (by simp [cat_rv, cat_wv, cat_sv, cat_i, cat_l, cat_a]) rfl ⟨Nat.zero_le _, Nat.zero_le _⟩ dX12_trace_12) (fun H locs S => ?_)
    refine lv_icmp_lt (tgt := 28) X.1 X.2.1 dX12_trace_15 (by decide) (fun c5 => ?_) (fun c5 => ?_)
    · replace hf := (if_pos c5).symm.trans hf
      refine g_aload_n X (or_rv _) dX12_trace_28 rfl (lv_at hl 0 rfl) ?_
      refine g_gR X S foX12_61 dX12_trace_29 hf (fun v6 hf => ?_)
      refine g_gR X S foX12_107 dX12_trace_32 hf (fun v7 hf => ?_)
      refine lv_iload_n X.1 X.2.1 dX12_trace_35 rfl (lv_at hl 1 rfl) ?_
      obtain ⟨v8, hc, hf⟩ := ob_some hf
      refine g_ci S (runV (As := [.int a1]) (rest := []) X S coX12_153 (by decide) (cX10_latest_m l hc) (tkX10_latest hc) rfl hl.1 (by decide) rfl ⟨Nat.zero_le _, Nat.zero_le _⟩ dX12_trace_36) (fun H locs S => ?_)
      cases hf; exact g_ri X S hr hlk dX12_trace_39
    · replace hf := (if_neg c5).symm.trans hf
      exact wfX12_trace_18 X hr hlk hnm _ _ _ (lv_sub hl [] rfl) S hf
theorem wfX12_trace_18_x {h : Hp} {k9 : Nat} (X : Cx p E A 10 R s m args c cX12_trace yX12_trace.cls 2) (hr : meth.sig.returnType = (some .int)) (hlk : meth.locks = false) (hnm : meth.name = yX12_trace.name) (hne : ∀ x ∈ c.exceptionTable.toList, False) (hlt : l.stackTraces = false) (hR1 : 0 + 1 ≤ R.cells ∧ 0 + 6 ≤ R.slots) :
    ∀ (H : Heap) (locs : List Loc) (ls : Array Slot), lv_has ls 2 [] → St E A s h H locs → fX12_trace_18 h  = some (.inl k9) → W p l e R s m args below meth c H locs 0 0 (vx_MQ below noQ (XX E A h k9) args s 1 6 A) (F0 m 18 ls []) := by
  intro  H locs ls hl S hf
  unfold fX12_trace_18 at hf
  cases hf
  exact g_throw (rest := []) X S hne hlk hlt hl.1 (by decide) (by decide) tfX12_135_151 dX12_trace_18 dX12_trace_21 dX12_trace_22 dX12_trace_24 dX12_trace_27 hR1
theorem cX12_trace_x (l : Launch) (hlt : l.stackTraces = false) {E : EE} {A : Nat → Prop} {a0 : Nat} {a1 : Int32} {h : Hp} {k9 : Nat} (hf : fX12_trace a0 a1 h = some (.inl k9)) : vx_Met l yX12_trace (wsM yX12_trace cX12_trace 2 (some .int)) (rmm 10 1 6) (PcE E A h [rv a0, .int a1]) noQ (XX E A h k9) 1 6 A := by
  refine met_ofX (by decide +kernel) (by simp [lg_sl, cat_rv, cat_wv, cat_sv, cat_i, cat_l, cat_a]) (fun p e s m args below meth c ls X hr hlk hnm hne S hl => ?_)
  have hR1 : 0 + 1 ≤ (rmm 10 1 6).cells ∧ 0 + 6 ≤ (rmm 10 1 6).slots := ⟨Nat.le_refl _, Nat.le_refl _⟩
  have hl : lv_has ls 2 [(0, rv a0), (1, .int a1)] := by simpa [lv_args, cat_rv, cat_wv, cat_sv, cat_i, cat_l, cat_a] using hl
  generalize hH : s.heap = H at S ⊢
  generalize hlo : ([] : List Loc) = locs at S ⊢
  clear hH hlo
  unfold fX12_trace at hf
  obtain ⟨hth, hf⟩ := gd_some hf
  refine lv_iload_n X.1 X.2.1 dX12_trace_0 rfl (lv_at hl 1 rfl) ?_
  refine lv_if_lt (tgt := 18) X.1 X.2.1 dX12_trace_1 (by decide) (fun c1 => ?_) (fun c1 => ?_)
  · replace hf := (if_pos c1).symm.trans hf
    exact wfX12_trace_18_x X hr hlk hnm hne hlt hR1 _ _ _ (lv_sub hl [] rfl) S hf
  · replace hf := (if_neg c1).symm.trans hf
    refine lv_iload_n X.1 X.2.1 dX12_trace_4 rfl (lv_at hl 1 rfl) ?_
    refine g_aload_n X (or_rv _) dX12_trace_5 rfl (lv_at hl 0 rfl) ?_
    refine g_gR X S foX12_61 dX12_trace_6 hf (fun v2 hf => ?_)
    refine g_gR X S foX12_107 dX12_trace_9 hf (fun v3 hf => ?_)
    obtain ⟨v4, hc, hf⟩ := ob_some hf
    refine g_ci S (runV (As := []) (rest := [.int a1]) X S coX12_123 (by decide) (cX10_traced_m l hc) (tkX10_traced hc) rfl hl.1 (by simp [cat_rv, cat_wv, cat_sv, cat_i, cat_l, cat_a]) rfl ⟨Nat.zero_le _, Nat.zero_le _⟩ dX12_trace_12) (fun H locs S => ?_)
    refine lv_icmp_lt (tgt := 28) X.1 X.2.1 dX12_trace_15 (by decide) (fun c5 => ?_) (fun c5 => ?_)
    · replace hf := (if_pos c5).symm.trans hf
      refine g_aload_n X (or_rv _) dX12_trace_28 rfl (lv_at hl 0 rfl) ?_
      refine g_gR X S foX12_61 dX12_trace_29 hf (fun v6 hf => ?_)
      refine g_gR X S foX12_107 dX12_trace_32 hf (fun v7 hf => ?_)
      refine lv_iload_n X.1 X.2.1 dX12_trace_35 rfl (lv_at hl 1 rfl) ?_
      obtain ⟨v8, hc, hf⟩ := ob_some hf
      refine g_ci S (runV (As := [.int a1]) (rest := []) X S coX12_153 (by decide) (cX10_latest_m l hc) (tkX10_latest hc) rfl hl.1 (by decide) rfl ⟨Nat.zero_le _, Nat.zero_le _⟩ dX12_trace_36) (fun H locs S => ?_)
      cases hf
    · replace hf := (if_neg c5).symm.trans hf
      exact wfX12_trace_18_x X hr hlk hnm hne hlt hR1 _ _ _ (lv_sub hl [] rfl) S hf
def fX12_why_33 (h : Hp) : Option (Nat ⊕ Int32) := some (.inl 1)
theorem wfX12_why_33 {h : Hp} {r9 : Int32} (X : Cx p E A 9 R s m args c cX12_why yX12_why.cls 5) (hr : meth.sig.returnType = (some .int)) (hlk : meth.locks = false) (hnm : meth.name = yX12_why.name) :
    ∀ (H : Heap) (locs : List Loc) (ls : Array Slot), lv_has ls 5 [] → St E A s h H locs → fX12_why_33 h  = some (.inr r9) → W p l e R s m args below meth c H locs 0 0 (MQ below (Qi E A h r9) args s 0 0 A) (F0 m 33 ls []) := by
  intro  H locs ls hl S hf
  unfold fX12_why_33 at hf
  cases hf
def fX12_why (a0 : Nat) (a1 : Int32) (a2 : Int32) (h : Hp) : Option (Nat ⊕ Int32) := gd 10 a0 h (ob (gR 10 a0 10 h) fun v1 => ob (gR 2 v1 0 h) fun v2 => ob (fX10_causes v2 h) fun v3 => if a1 < 0 then fX12_why_33 h  else if v3 ≤ a1 then fX12_why_33 h  else if a2 < 0 then fX12_why_33 h  else if a2 ≤ 2 then ob (fX10_cell v2 ((278 + (3 * a1)) + a2) h) fun v8 => some (.inr v8) else fX12_why_33 h )
theorem tkX12_why {a0 : Nat} {a1 : Int32} {a2 : Int32} {h : Hp} {r9 : Nat ⊕ Int32} (e : fX12_why a0 a1 a2 h = some r9) : hK h a0 = 10 := by
  unfold fX12_why at e
  exact (gd_some e).1
theorem cX12_why_m (l : Launch) {E : EE} {A : Nat → Prop} {a0 : Nat} {a1 : Int32} {a2 : Int32} {h : Hp} {r9 : Int32} (hf : fX12_why a0 a1 a2 h = some (.inr r9)) : Met l yX12_why (wsM yX12_why cX12_why 5 (some .int)) (rmm 9 0 0) (PcE E A h [rv a0, .int a1, .int a2]) (Qi E A h r9) 0 0 A := by
  refine met_of (by decide +kernel) (by simp [lg_sl, cat_rv, cat_wv, cat_sv, cat_i, cat_l, cat_a]) (fun p e s m args below meth c ls X hr hlk hnm S hl => ?_)
  have hl : lv_has ls 5 [(0, rv a0), (1, .int a1), (2, .int a2)] := by simpa [lv_args, cat_rv, cat_wv, cat_sv, cat_i, cat_l, cat_a] using hl
  generalize hH : s.heap = H at S ⊢
  generalize hlo : ([] : List Loc) = locs at S ⊢
  clear hH hlo
  unfold fX12_why at hf
  obtain ⟨hth, hf⟩ := gd_some hf
  refine g_aload_n X (or_rv _) dX12_why_0 rfl (lv_at hl 0 rfl) ?_
  refine g_gR X S foX12_61 dX12_why_1 hf (fun v1 hf => ?_)
  refine g_gR X S foX12_107 dX12_why_4 hf (fun v2 hf => ?_)
  refine g_astore_n (i := 3) (lv' := [(3, rv v2), (0, rv a0), (1, .int a1), (2, .int a2)]) X (or_rv _) dX12_why_7 rfl hl (by decide) rfl (fun ls hl => ?_)
  refine g_aload_n X (or_rv _) dX12_why_8 rfl (lv_at hl 0 rfl) ?_
  obtain ⟨v3, hc, hf⟩ := ob_some hf
  refine g_ci S (runV (As := []) (rest := []) X S coX12_156 (by decide) (cX10_causes_m l hc) (tkX10_causes hc) rfl hl.1 (by decide) rfl ⟨Nat.zero_le _, Nat.zero_le _⟩ dX12_why_9) (fun H locs S => ?_)
  refine lv_istore (lv' := [(4, .int v3), (3, rv v2), (0, rv a0), (1, .int a1), (2, .int a2)]) X.1 X.2.1 dX12_why_12 hl (by decide) (by simp [List.filter, cat_rv, cat_wv, cat_sv]) (fun ls hl => ?_)
  refine lv_iload_n X.1 X.2.1 dX12_why_14 rfl (lv_at hl 3 rfl) ?_
  refine lv_if_lt (tgt := 33) X.1 X.2.1 dX12_why_15 (by decide) (fun c4 => ?_) (fun c4 => ?_)
  · replace hf := (if_pos c4).symm.trans hf
    exact wfX12_why_33 X hr hlk hnm _ _ _ (lv_sub hl [] rfl) S hf
  · replace hf := (if_neg c4).symm.trans hf
    refine lv_iload_n X.1 X.2.1 dX12_why_18 rfl (lv_at hl 3 rfl) ?_
    refine lv_iload X.1 X.2.1 dX12_why_19 (lv_at hl 0 rfl) ?_
    refine lv_icmp_ge (tgt := 33) X.1 X.2.1 dX12_why_21 (by decide) (fun c5 => ?_) (fun c5 => ?_)
    · replace hf := (if_pos c5).symm.trans hf
      exact wfX12_why_33 X hr hlk hnm _ _ _ (lv_sub hl [] rfl) S hf
    · replace hf := (if_neg c5).symm.trans hf
      refine lv_iload_n X.1 X.2.1 dX12_why_24 rfl (lv_at hl 4 rfl) ?_
      refine lv_if_lt (tgt := 33) X.1 X.2.1 dX12_why_25 (by decide) (fun c6 => ?_) (fun c6 => ?_)
      · replace hf := (if_pos c6).symm.trans hf
        exact wfX12_why_33 X hr hlk hnm _ _ _ (lv_sub hl [] rfl) S hf
      · replace hf := (if_neg c6).symm.trans hf
        refine lv_iload_n X.1 X.2.1 dX12_why_28 rfl (lv_at hl 4 rfl) ?_
        refine lv_iconst (v := 2) X.1 X.2.1 dX12_why_29 (by decide) ?_
        refine lv_icmp_le (tgt := 43) X.1 X.2.1 dX12_why_30 (by decide) (fun c7 => ?_) (fun c7 => ?_)
        · replace hf := (if_pos c7).symm.trans hf
          refine g_aload_n X (or_rv _) dX12_why_43 rfl (lv_at hl 1 rfl) ?_
          refine lv_sipush (v := 278) X.1 X.2.1 dX12_why_44 (by decide) ?_
          refine lv_iconst (v := 3) X.1 X.2.1 dX12_why_47 (by decide) ?_
          refine lv_iload_n X.1 X.2.1 dX12_why_48 rfl (lv_at hl 3 rfl) ?_
          refine lv_imul X.1 X.2.1 dX12_why_49 ?_
          refine lv_iadd X.1 X.2.1 dX12_why_50 ?_
          refine lv_iload_n X.1 X.2.1 dX12_why_51 rfl (lv_at hl 4 rfl) ?_
          refine lv_iadd X.1 X.2.1 dX12_why_52 ?_
          obtain ⟨v8, hc, hf⟩ := ob_some hf
          refine g_ci S (runV (As := [.int ((278 + (3 * a1)) + a2)]) (rest := []) X S coX12_113 (by decide) (cX10_cell_m l hc) (tkX10_cell hc) rfl hl.1 (by decide) rfl ⟨Nat.zero_le _, Nat.zero_le _⟩ dX12_why_53) (fun H locs S => ?_)
          cases hf; exact g_ri X S hr hlk dX12_why_56
        · replace hf := (if_neg c7).symm.trans hf
          exact wfX12_why_33 X hr hlk hnm _ _ _ (lv_sub hl [] rfl) S hf
theorem wfX12_why_33_x {h : Hp} {k9 : Nat} (X : Cx p E A 9 R s m args c cX12_why yX12_why.cls 5) (hr : meth.sig.returnType = (some .int)) (hlk : meth.locks = false) (hnm : meth.name = yX12_why.name) (hne : ∀ x ∈ c.exceptionTable.toList, False) (hlt : l.stackTraces = false) (hR1 : 0 + 1 ≤ R.cells ∧ 0 + 6 ≤ R.slots) :
    ∀ (H : Heap) (locs : List Loc) (ls : Array Slot), lv_has ls 5 [] → St E A s h H locs → fX12_why_33 h  = some (.inl k9) → W p l e R s m args below meth c H locs 0 0 (vx_MQ below noQ (XX E A h k9) args s 1 6 A) (F0 m 33 ls []) := by
  intro  H locs ls hl S hf
  unfold fX12_why_33 at hf
  cases hf
  exact g_throw (rest := []) X S hne hlk hlt hl.1 (by decide) (by decide) tfX12_135_159 dX12_why_33 dX12_why_36 dX12_why_37 dX12_why_39 dX12_why_42 hR1
theorem cX12_why_x (l : Launch) (hlt : l.stackTraces = false) {E : EE} {A : Nat → Prop} {a0 : Nat} {a1 : Int32} {a2 : Int32} {h : Hp} {k9 : Nat} (hf : fX12_why a0 a1 a2 h = some (.inl k9)) : vx_Met l yX12_why (wsM yX12_why cX12_why 5 (some .int)) (rmm 9 1 6) (PcE E A h [rv a0, .int a1, .int a2]) noQ (XX E A h k9) 1 6 A := by
  refine met_ofX (by decide +kernel) (by simp [lg_sl, cat_rv, cat_wv, cat_sv, cat_i, cat_l, cat_a]) (fun p e s m args below meth c ls X hr hlk hnm hne S hl => ?_)
  have hR1 : 0 + 1 ≤ (rmm 9 1 6).cells ∧ 0 + 6 ≤ (rmm 9 1 6).slots := ⟨Nat.le_refl _, Nat.le_refl _⟩
  have hl : lv_has ls 5 [(0, rv a0), (1, .int a1), (2, .int a2)] := by simpa [lv_args, cat_rv, cat_wv, cat_sv, cat_i, cat_l, cat_a] using hl
  generalize hH : s.heap = H at S ⊢
  generalize hlo : ([] : List Loc) = locs at S ⊢
  clear hH hlo
  unfold fX12_why at hf
  obtain ⟨hth, hf⟩ := gd_some hf
  refine g_aload_n X (or_rv _) dX12_why_0 rfl (lv_at hl 0 rfl) ?_
  refine g_gR X S foX12_61 dX12_why_1 hf (fun v1 hf => ?_)
  refine g_gR X S foX12_107 dX12_why_4 hf (fun v2 hf => ?_)
  refine g_astore_n (i := 3) (lv' := [(3, rv v2), (0, rv a0), (1, .int a1), (2, .int a2)]) X (or_rv _) dX12_why_7 rfl hl (by decide) rfl (fun ls hl => ?_)
  refine g_aload_n X (or_rv _) dX12_why_8 rfl (lv_at hl 0 rfl) ?_
  obtain ⟨v3, hc, hf⟩ := ob_some hf
  refine g_ci S (runV (As := []) (rest := []) X S coX12_156 (by decide) (cX10_causes_m l hc) (tkX10_causes hc) rfl hl.1 (by decide) rfl ⟨Nat.zero_le _, Nat.zero_le _⟩ dX12_why_9) (fun H locs S => ?_)
  refine lv_istore (lv' := [(4, .int v3), (3, rv v2), (0, rv a0), (1, .int a1), (2, .int a2)]) X.1 X.2.1 dX12_why_12 hl (by decide) (by simp [List.filter, cat_rv, cat_wv, cat_sv]) (fun ls hl => ?_)
  refine lv_iload_n X.1 X.2.1 dX12_why_14 rfl (lv_at hl 3 rfl) ?_
  refine lv_if_lt (tgt := 33) X.1 X.2.1 dX12_why_15 (by decide) (fun c4 => ?_) (fun c4 => ?_)
  · replace hf := (if_pos c4).symm.trans hf
    exact wfX12_why_33_x X hr hlk hnm hne hlt hR1 _ _ _ (lv_sub hl [] rfl) S hf
  · replace hf := (if_neg c4).symm.trans hf
    refine lv_iload_n X.1 X.2.1 dX12_why_18 rfl (lv_at hl 3 rfl) ?_
    refine lv_iload X.1 X.2.1 dX12_why_19 (lv_at hl 0 rfl) ?_
    refine lv_icmp_ge (tgt := 33) X.1 X.2.1 dX12_why_21 (by decide) (fun c5 => ?_) (fun c5 => ?_)
    · replace hf := (if_pos c5).symm.trans hf
      exact wfX12_why_33_x X hr hlk hnm hne hlt hR1 _ _ _ (lv_sub hl [] rfl) S hf
    · replace hf := (if_neg c5).symm.trans hf
      refine lv_iload_n X.1 X.2.1 dX12_why_24 rfl (lv_at hl 4 rfl) ?_
      refine lv_if_lt (tgt := 33) X.1 X.2.1 dX12_why_25 (by decide) (fun c6 => ?_) (fun c6 => ?_)
      · replace hf := (if_pos c6).symm.trans hf
        exact wfX12_why_33_x X hr hlk hnm hne hlt hR1 _ _ _ (lv_sub hl [] rfl) S hf
      · replace hf := (if_neg c6).symm.trans hf
        refine lv_iload_n X.1 X.2.1 dX12_why_28 rfl (lv_at hl 4 rfl) ?_
        refine lv_iconst (v := 2) X.1 X.2.1 dX12_why_29 (by decide) ?_
        refine lv_icmp_le (tgt := 43) X.1 X.2.1 dX12_why_30 (by decide) (fun c7 => ?_) (fun c7 => ?_)
        · replace hf := (if_pos c7).symm.trans hf
          refine g_aload_n X (or_rv _) dX12_why_43 rfl (lv_at hl 1 rfl) ?_
          refine lv_sipush (v := 278) X.1 X.2.1 dX12_why_44 (by decide) ?_
          refine lv_iconst (v := 3) X.1 X.2.1 dX12_why_47 (by decide) ?_
          refine lv_iload_n X.1 X.2.1 dX12_why_48 rfl (lv_at hl 3 rfl) ?_
          refine lv_imul X.1 X.2.1 dX12_why_49 ?_
          refine lv_iadd X.1 X.2.1 dX12_why_50 ?_
          refine lv_iload_n X.1 X.2.1 dX12_why_51 rfl (lv_at hl 4 rfl) ?_
          refine lv_iadd X.1 X.2.1 dX12_why_52 ?_
          obtain ⟨v8, hc, hf⟩ := ob_some hf
          refine g_ci S (runV (As := [.int ((278 + (3 * a1)) + a2)]) (rest := []) X S coX12_113 (by decide) (cX10_cell_m l hc) (tkX10_cell hc) rfl hl.1 (by decide) rfl ⟨Nat.zero_le _, Nat.zero_le _⟩ dX12_why_53) (fun H locs S => ?_)
          cases hf
        · replace hf := (if_neg c7).symm.trans hf
          exact wfX12_why_33_x X hr hlk hnm hne hlt hR1 _ _ _ (lv_sub hl [] rfl) S hf
def fX12_needField_18 (h : Hp) : Option (Nat ⊕ Unit) := some (.inl 2)
theorem wfX12_needField_18 {h : Hp} (X : Cx p E A 9 R s m args c cX12_needField yX12_needField.cls 4) (hr : meth.sig.returnType = none) (hlk : meth.locks = false) (hnm : meth.name = yX12_needField.name) :
    ∀ (H : Heap) (locs : List Loc) (ls : Array Slot), lv_has ls 4 [] → St E A s h H locs → fX12_needField_18 h  = some (.inr ()) → W p l e R s m args below meth c H locs 0 0 (MQ below (Qv E A h) args s 0 0 A) (F0 m 18 ls []) := by
  intro  H locs ls hl S hf
  unfold fX12_needField_18 at hf
  cases hf
def fX12_needField (a0 : Nat) (a1 : Int32) (a2 : Int32) (a3 : Int32) (h : Hp) : Option (Nat ⊕ Unit) := gd 10 a0 h (if a2 < 1 then fX12_needField_18 h  else if a3 < a2 then fX12_needField_18 h  else ob (fX10_isField a1 a2) fun v3 => if v3 = 0 then fX12_needField_18 h  else some (.inr ()))
theorem tkX12_needField {a0 : Nat} {a1 : Int32} {a2 : Int32} {a3 : Int32} {h : Hp} {r9 : Nat ⊕ Unit} (e : fX12_needField a0 a1 a2 a3 h = some r9) : hK h a0 = 10 := by
  unfold fX12_needField at e
  exact (gd_some e).1
theorem cX12_needField_m (l : Launch) {E : EE} {A : Nat → Prop} {a0 : Nat} {a1 : Int32} {a2 : Int32} {a3 : Int32} {h : Hp} (hf : fX12_needField a0 a1 a2 a3 h = some (.inr ())) : Met l yX12_needField (wsM yX12_needField cX12_needField 4 none) (rmm 9 0 0) (PcE E A h [rv a0, .int a1, .int a2, .int a3]) (Qv E A h) 0 0 A := by
  refine met_of (by decide +kernel) (by simp [lg_sl, cat_rv, cat_wv, cat_sv, cat_i, cat_l, cat_a]) (fun p e s m args below meth c ls X hr hlk hnm S hl => ?_)
  have hl : lv_has ls 4 [(0, rv a0), (1, .int a1), (2, .int a2), (3, .int a3)] := by simpa [lv_args, cat_rv, cat_wv, cat_sv, cat_i, cat_l, cat_a] using hl
  generalize hH : s.heap = H at S ⊢
  generalize hlo : ([] : List Loc) = locs at S ⊢
  clear hH hlo
  unfold fX12_needField at hf
  obtain ⟨hth, hf⟩ := gd_some hf
  refine lv_iload_n X.1 X.2.1 dX12_needField_0 rfl (lv_at hl 2 rfl) ?_
  refine lv_iconst (v := 1) X.1 X.2.1 dX12_needField_1 (by decide) ?_
  refine lv_icmp_lt (tgt := 18) X.1 X.2.1 dX12_needField_2 (by decide) (fun c1 => ?_) (fun c1 => ?_)
  · replace hf := (if_pos c1).symm.trans hf
    exact wfX12_needField_18 X hr hlk hnm _ _ _ (lv_sub hl [] rfl) S hf
  · replace hf := (if_neg c1).symm.trans hf
    refine lv_iload_n X.1 X.2.1 dX12_needField_5 rfl (lv_at hl 2 rfl) ?_
    refine lv_iload_n X.1 X.2.1 dX12_needField_6 rfl (lv_at hl 3 rfl) ?_
    refine lv_icmp_gt (tgt := 18) X.1 X.2.1 dX12_needField_7 (by decide) (fun c2 => ?_) (fun c2 => ?_)
    · replace hf := (if_pos c2).symm.trans hf
      exact wfX12_needField_18 X hr hlk hnm _ _ _ (lv_sub hl [] rfl) S hf
    · replace hf := (if_neg c2).symm.trans hf
      refine lv_iload_n X.1 X.2.1 dX12_needField_10 rfl (lv_at hl 1 rfl) ?_
      refine lv_iload_n X.1 X.2.1 dX12_needField_11 rfl (lv_at hl 2 rfl) ?_
      obtain ⟨v3, hc, hf⟩ := ob_some hf
      refine g_ci S (runS (As := [.int a1, .int a2]) (rest := []) X S coX12_313 (by decide) (cX10_isField_m l hc) rfl hl.1 (by decide) rfl ⟨Nat.zero_le _, Nat.zero_le _⟩ dX12_needField_12) (fun H locs S => ?_)
      refine lv_if_ne (tgt := 29) X.1 X.2.1 dX12_needField_15 (by decide) (fun c4 => ?_) (fun c4 => ?_)
      · replace hf := (if_neg c4).symm.trans hf
        cases hf; exact g_rv X S hr hlk dX12_needField_29
      · replace hf := (if_pos c4).symm.trans hf
        exact wfX12_needField_18 X hr hlk hnm _ _ _ (lv_sub hl [] rfl) S hf
theorem wfX12_needField_18_x {h : Hp} {k9 : Nat} (X : Cx p E A 9 R s m args c cX12_needField yX12_needField.cls 4) (hr : meth.sig.returnType = none) (hlk : meth.locks = false) (hnm : meth.name = yX12_needField.name) (hne : ∀ x ∈ c.exceptionTable.toList, False) (hlt : l.stackTraces = false) (hR1 : 0 + 1 ≤ R.cells ∧ 0 + 6 ≤ R.slots) :
    ∀ (H : Heap) (locs : List Loc) (ls : Array Slot), lv_has ls 4 [] → St E A s h H locs → fX12_needField_18 h  = some (.inl k9) → W p l e R s m args below meth c H locs 0 0 (vx_MQ below noQ (XX E A h k9) args s 1 6 A) (F0 m 18 ls []) := by
  intro  H locs ls hl S hf
  unfold fX12_needField_18 at hf
  cases hf
  exact g_throwW (rest := []) X S hne hlk hlt hl.1 (by decide) (by decide) tfX12_72_317 dX12_needField_18 dX12_needField_21 dX12_needField_22 dX12_needField_25 dX12_needField_28 hR1
theorem cX12_needField_x (l : Launch) (hlt : l.stackTraces = false) {E : EE} {A : Nat → Prop} {a0 : Nat} {a1 : Int32} {a2 : Int32} {a3 : Int32} {h : Hp} {k9 : Nat} (hf : fX12_needField a0 a1 a2 a3 h = some (.inl k9)) : vx_Met l yX12_needField (wsM yX12_needField cX12_needField 4 none) (rmm 9 1 6) (PcE E A h [rv a0, .int a1, .int a2, .int a3]) noQ (XX E A h k9) 1 6 A := by
  refine met_ofX (by decide +kernel) (by simp [lg_sl, cat_rv, cat_wv, cat_sv, cat_i, cat_l, cat_a]) (fun p e s m args below meth c ls X hr hlk hnm hne S hl => ?_)
  have hR1 : 0 + 1 ≤ (rmm 9 1 6).cells ∧ 0 + 6 ≤ (rmm 9 1 6).slots := ⟨Nat.le_refl _, Nat.le_refl _⟩
  have hl : lv_has ls 4 [(0, rv a0), (1, .int a1), (2, .int a2), (3, .int a3)] := by simpa [lv_args, cat_rv, cat_wv, cat_sv, cat_i, cat_l, cat_a] using hl
  generalize hH : s.heap = H at S ⊢
  generalize hlo : ([] : List Loc) = locs at S ⊢
  clear hH hlo
  unfold fX12_needField at hf
  obtain ⟨hth, hf⟩ := gd_some hf
  refine lv_iload_n X.1 X.2.1 dX12_needField_0 rfl (lv_at hl 2 rfl) ?_
  refine lv_iconst (v := 1) X.1 X.2.1 dX12_needField_1 (by decide) ?_
  refine lv_icmp_lt (tgt := 18) X.1 X.2.1 dX12_needField_2 (by decide) (fun c1 => ?_) (fun c1 => ?_)
  · replace hf := (if_pos c1).symm.trans hf
    exact wfX12_needField_18_x X hr hlk hnm hne hlt hR1 _ _ _ (lv_sub hl [] rfl) S hf
  · replace hf := (if_neg c1).symm.trans hf
    refine lv_iload_n X.1 X.2.1 dX12_needField_5 rfl (lv_at hl 2 rfl) ?_
    refine lv_iload_n X.1 X.2.1 dX12_needField_6 rfl (lv_at hl 3 rfl) ?_
    refine lv_icmp_gt (tgt := 18) X.1 X.2.1 dX12_needField_7 (by decide) (fun c2 => ?_) (fun c2 => ?_)
    · replace hf := (if_pos c2).symm.trans hf
      exact wfX12_needField_18_x X hr hlk hnm hne hlt hR1 _ _ _ (lv_sub hl [] rfl) S hf
    · replace hf := (if_neg c2).symm.trans hf
      refine lv_iload_n X.1 X.2.1 dX12_needField_10 rfl (lv_at hl 1 rfl) ?_
      refine lv_iload_n X.1 X.2.1 dX12_needField_11 rfl (lv_at hl 2 rfl) ?_
      obtain ⟨v3, hc, hf⟩ := ob_some hf
      refine g_ci S (runS (As := [.int a1, .int a2]) (rest := []) X S coX12_313 (by decide) (cX10_isField_m l hc) rfl hl.1 (by decide) rfl ⟨Nat.zero_le _, Nat.zero_le _⟩ dX12_needField_12) (fun H locs S => ?_)
      refine lv_if_ne (tgt := 29) X.1 X.2.1 dX12_needField_15 (by decide) (fun c4 => ?_) (fun c4 => ?_)
      · replace hf := (if_neg c4).symm.trans hf
        cases hf
      · replace hf := (if_pos c4).symm.trans hf
        exact wfX12_needField_18_x X hr hlk hnm hne hlt hR1 _ _ _ (lv_sub hl [] rfl) S hf
def fX12_flaws_101 (h : Hp) : Option (Nat ⊕ Int32) := some (.inl 1)
theorem wfX12_flaws_101 {h : Hp} {r9 : Int32} (X : Cx p E A 10 R s m args c cX12_flaws yX12_flaws.cls 8) (hr : meth.sig.returnType = (some .int)) (hlk : meth.locks = false) (hnm : meth.name = yX12_flaws.name) :
    ∀ (H : Heap) (locs : List Loc) (ls : Array Slot), lv_has ls 8 [] → St E A s h H locs → fX12_flaws_101 h  = some (.inr r9) → W p l e R s m args below meth c H locs 0 0 (MQ below (Qi E A h r9) args s 0 0 A) (F0 m 101 ls []) := by
  intro  H locs ls hl S hf
  unfold fX12_flaws_101 at hf
  cases hf
def fX12_flaws_81 (h : Hp) (x4 : Int32) (x5 : Int32) (x6 : Int32) : Option (Nat ⊕ Int32) := if x4 = (-1) then some (.inr x6) else if x4 < 0 then fX12_flaws_101 h  else if x5 = (-1) then fX12_flaws_101 h  else some (.inr x5)
theorem wfX12_flaws_81 {h : Hp} {r9 : Int32} (X : Cx p E A 10 R s m args c cX12_flaws yX12_flaws.cls 8) (hr : meth.sig.returnType = (some .int)) (hlk : meth.locks = false) (hnm : meth.name = yX12_flaws.name) :
    ∀ (x4 : Int32) (x5 : Int32) (x6 : Int32) (H : Heap) (locs : List Loc) (ls : Array Slot), lv_has ls 8 [(4, .int x4), (5, .int x5), (6, .int x6)] → St E A s h H locs → fX12_flaws_81 h x4 x5 x6 = some (.inr r9) → W p l e R s m args below meth c H locs 0 0 (MQ below (Qi E A h r9) args s 0 0 A) (F0 m 81 ls []) := by
  intro x4 x5 x6 H locs ls hl S hf
  unfold fX12_flaws_81 at hf
  refine lv_iload X.1 X.2.1 dX12_flaws_81 (lv_at hl 0 rfl) ?_
  refine lv_iconst (v := (-1)) X.1 X.2.1 dX12_flaws_83 (by decide) ?_
  refine lv_icmp_ne (tgt := 90) X.1 X.2.1 dX12_flaws_84 (by decide) (fun c1 => ?_) (fun c1 => ?_)
  · replace hf := (if_neg c1).symm.trans hf
    refine lv_iload X.1 X.2.1 dX12_flaws_90 (lv_at hl 0 rfl) ?_
    refine lv_if_lt (tgt := 101) X.1 X.2.1 dX12_flaws_92 (by decide) (fun c2 => ?_) (fun c2 => ?_)
    · replace hf := (if_pos c2).symm.trans hf
      exact wfX12_flaws_101 X hr hlk hnm _ _ _ (lv_sub hl [] rfl) S hf
    · replace hf := (if_neg c2).symm.trans hf
      refine lv_iload X.1 X.2.1 dX12_flaws_95 (lv_at hl 1 rfl) ?_
      refine lv_iconst (v := (-1)) X.1 X.2.1 dX12_flaws_97 (by decide) ?_
      refine lv_icmp_ne (tgt := 111) X.1 X.2.1 dX12_flaws_98 (by decide) (fun c3 => ?_) (fun c3 => ?_)
      · replace hf := (if_neg c3).symm.trans hf
        refine lv_iload X.1 X.2.1 dX12_flaws_111 (lv_at hl 1 rfl) ?_
        cases hf; exact g_ri X S hr hlk dX12_flaws_113
      · replace hf := (if_pos c3).symm.trans hf
        exact wfX12_flaws_101 X hr hlk hnm _ _ _ (lv_sub hl [] rfl) S hf
  · replace hf := (if_pos c1).symm.trans hf
    refine lv_iload X.1 X.2.1 dX12_flaws_87 (lv_at hl 2 rfl) ?_
    cases hf; exact g_ri X S hr hlk dX12_flaws_89
def fX12_flaws_32 (h : Hp) (k32 : Nat → Int32 → Int32 → Int32 → Int32 → Int32 → Int32 → Int32 → Option (Nat ⊕ Int32)) (x0 : Nat) (x1 : Int32) (x2 : Int32) (x3 : Int32) (x4 : Int32) (x5 : Int32) (x6 : Int32) (x7 : Int32) : Option (Nat ⊕ Int32) := if (2 * x2) ≤ x7 then fX12_flaws_81 h x4 x5 x6 else if x5 = (-1) then fX12_flaws_81 h x4 x5 x6 else if x6 = x4 then fX12_flaws_81 h x4 x5 x6 else lt (x6 + 1) fun z4 => ob (gR 10 x0 10 h) fun v5 => ob (gR 2 v5 0 h) fun v6 => ob (fX10_firstFlaw v6 x1 x2 x3 (x5 + 1) h) fun v7 => lt (x7 + 1) fun z8 => k32 x0 x1 x2 x3 x4 v7 z4 z8
theorem wfX12_flaws_32 {h : Hp} {k32 : Nat → Int32 → Int32 → Int32 → Int32 → Int32 → Int32 → Int32 → Option (Nat ⊕ Int32)} {r9 : Int32} (X : Cx p E A 10 R s m args c cX12_flaws yX12_flaws.cls 8) (hr : meth.sig.returnType = (some .int)) (hlk : meth.locks = false) (hnm : meth.name = yX12_flaws.name) (hk32 : ∀ (x0 : Nat) (x1 : Int32) (x2 : Int32) (x3 : Int32) (x4 : Int32) (x5 : Int32) (x6 : Int32) (x7 : Int32) (H : Heap) (locs : List Loc) (ls : Array Slot), lv_has ls 8 [(0, rv x0), (1, .int x1), (2, .int x2), (3, .int x3), (4, .int x4), (5, .int x5), (6, .int x6), (7, .int x7)] → St E A s h H locs → k32 x0 x1 x2 x3 x4 x5 x6 x7 = some (.inr r9) → W p l e R s m args below meth c H locs 0 0 (MQ below (Qi E A h r9) args s 0 0 A) (F0 m 32 ls [])) :
    ∀ (x0 : Nat) (x1 : Int32) (x2 : Int32) (x3 : Int32) (x4 : Int32) (x5 : Int32) (x6 : Int32) (x7 : Int32) (H : Heap) (locs : List Loc) (ls : Array Slot), lv_has ls 8 [(0, rv x0), (1, .int x1), (2, .int x2), (3, .int x3), (4, .int x4), (5, .int x5), (6, .int x6), (7, .int x7)] → St E A s h H locs → fX12_flaws_32 h k32 x0 x1 x2 x3 x4 x5 x6 x7 = some (.inr r9) → W p l e R s m args below meth c H locs 0 0 (MQ below (Qi E A h r9) args s 0 0 A) (F0 m 32 ls []) := by
  intro x0 x1 x2 x3 x4 x5 x6 x7 H locs ls hl S hf
  unfold fX12_flaws_32 at hf
  refine lv_iload X.1 X.2.1 dX12_flaws_32 (lv_at hl 7 rfl) ?_
  refine lv_iconst (v := 2) X.1 X.2.1 dX12_flaws_34 (by decide) ?_
  refine lv_iload_n X.1 X.2.1 dX12_flaws_35 rfl (lv_at hl 2 rfl) ?_
  refine lv_imul X.1 X.2.1 dX12_flaws_36 ?_
  refine lv_icmp_ge (tgt := 81) X.1 X.2.1 dX12_flaws_37 (by decide) (fun c1 => ?_) (fun c1 => ?_)
  · replace hf := (if_pos c1).symm.trans hf
    exact wfX12_flaws_81 X hr hlk hnm _ _ _ _ _ _ (lv_sub hl [4, 5, 6] rfl) S hf
  · replace hf := (if_neg c1).symm.trans hf
    refine lv_iload X.1 X.2.1 dX12_flaws_40 (lv_at hl 5 rfl) ?_
    refine lv_iconst (v := (-1)) X.1 X.2.1 dX12_flaws_42 (by decide) ?_
    refine lv_icmp_eq (tgt := 81) X.1 X.2.1 dX12_flaws_43 (by decide) (fun c2 => ?_) (fun c2 => ?_)
    · replace hf := (if_pos c2).symm.trans hf
      exact wfX12_flaws_81 X hr hlk hnm _ _ _ _ _ _ (lv_sub hl [4, 5, 6] rfl) S hf
    · replace hf := (if_neg c2).symm.trans hf
      refine lv_iload X.1 X.2.1 dX12_flaws_46 (lv_at hl 6 rfl) ?_
      refine lv_iload X.1 X.2.1 dX12_flaws_48 (lv_at hl 4 rfl) ?_
      refine lv_icmp_eq (tgt := 81) X.1 X.2.1 dX12_flaws_50 (by decide) (fun c3 => ?_) (fun c3 => ?_)
      · replace hf := (if_pos c3).symm.trans hf
        exact wfX12_flaws_81 X hr hlk hnm _ _ _ _ _ _ (lv_sub hl [4, 5, 6] rfl) S hf
      · replace hf := (if_neg c3).symm.trans hf
        obtain ⟨z4, ez4, hf⟩ := lt_some hf
        refine lv_iinc (v := z4) (lv' := [(6, .int z4), (0, rv x0), (1, .int x1), (2, .int x2), (3, .int x3), (4, .int x4), (5, .int x5), (7, .int x7)]) X.1 X.2.1 dX12_flaws_53 hl (k := 6) rfl (by rw [← ez4]; rfl) (by decide) rfl (fun ls hl => ?_)
        refine g_aload_n X (or_rv _) dX12_flaws_56 rfl (lv_at hl 1 rfl) ?_
        refine g_gR X S foX12_61 dX12_flaws_57 hf (fun v5 hf => ?_)
        refine g_gR X S foX12_107 dX12_flaws_60 hf (fun v6 hf => ?_)
        refine lv_iload_n X.1 X.2.1 dX12_flaws_63 rfl (lv_at hl 2 rfl) ?_
        refine lv_iload_n X.1 X.2.1 dX12_flaws_64 rfl (lv_at hl 3 rfl) ?_
        refine lv_iload_n X.1 X.2.1 dX12_flaws_65 rfl (lv_at hl 4 rfl) ?_
        refine lv_iload X.1 X.2.1 dX12_flaws_66 (lv_at hl 6 rfl) ?_
        refine lv_iconst (v := 1) X.1 X.2.1 dX12_flaws_68 (by decide) ?_
        refine lv_iadd X.1 X.2.1 dX12_flaws_69 ?_
        obtain ⟨v7, hc, hf⟩ := ob_some hf
        refine g_ci S (runV (As := [.int x1, .int x2, .int x3, .int (x5 + 1)]) (rest := []) X S coX12_165 (by decide) (cX10_firstFlaw_m l hc) (tkX10_firstFlaw hc) rfl hl.1 (by decide) rfl ⟨Nat.zero_le _, Nat.zero_le _⟩ dX12_flaws_70) (fun H locs S => ?_)
        refine lv_istore (lv' := [(5, .int v7), (6, .int z4), (0, rv x0), (1, .int x1), (2, .int x2), (3, .int x3), (4, .int x4), (7, .int x7)]) X.1 X.2.1 dX12_flaws_73 hl (by decide) rfl (fun ls hl => ?_)
        obtain ⟨z8, ez8, hf⟩ := lt_some hf
        refine lv_iinc (v := z8) (lv' := [(7, .int z8), (5, .int v7), (6, .int z4), (0, rv x0), (1, .int x1), (2, .int x2), (3, .int x3), (4, .int x4)]) X.1 X.2.1 dX12_flaws_75 hl (k := 7) rfl (by rw [← ez8]; rfl) (by decide) rfl (fun ls hl => ?_)
        refine lv_goto (tgt := 32) X.1 X.2.1 dX12_flaws_78 (by decide) ?_
        exact hk32 _ _ _ _ _ _ _ _ _ _ _ (lv_sub hl [3, 4, 5, 6, 7, 1, 2, 0] rfl) S hf
theorem wfX12_flaws_32_l {h : Hp} {r9 : Int32} (X : Cx p E A 10 R s m args c cX12_flaws yX12_flaws.cls 8) (hr : meth.sig.returnType = (some .int)) (hlk : meth.locks = false) (hnm : meth.name = yX12_flaws.name) :
    ∀ (n : Nat) (x0 : Nat) (x1 : Int32) (x2 : Int32) (x3 : Int32) (x4 : Int32) (x5 : Int32) (x6 : Int32) (x7 : Int32) (H : Heap) (locs : List Loc) (ls : Array Slot), lv_has ls 8 [(0, rv x0), (1, .int x1), (2, .int x2), (3, .int x3), (4, .int x4), (5, .int x5), (6, .int x6), (7, .int x7)] → St E A s h H locs → lp (fun _ _ _ _ _ _ _ _ => none) (fX12_flaws_32 h) n x0 x1 x2 x3 x4 x5 x6 x7 = some (.inr r9) → W p l e R s m args below meth c H locs 0 0 (MQ below (Qi E A h r9) args s 0 0 A) (F0 m 32 ls []) := by
  intro n
  induction n with
  | zero =>
    intro x0 x1 x2 x3 x4 x5 x6 x7 H locs ls hl S hf
    exact nomatch hf
  | succ n ih =>
    intro x0 x1 x2 x3 x4 x5 x6 x7 H locs ls hl S hf
    exact wfX12_flaws_32 X hr hlk hnm ih x0 x1 x2 x3 x4 x5 x6 x7 H locs ls hl S hf
def fX12_flaws (a0 : Nat) (a1 : Int32) (a2 : Int32) (a3 : Int32) (a4 : Int32) (h : Hp) : Option (Nat ⊕ Int32) := gd 10 a0 h (oe (fX12_needField a0 a1 a2 64 h) (fun k => some (.inl k)) fun v1 => ob (gR 10 a0 10 h) fun v2 => ob (gR 2 v2 0 h) fun v3 => ob (fX10_firstFlaw v3 a1 a2 a3 (2 * a1) h) fun v4 => lp (fun _ _ _ _ _ _ _ _ => none) (fX12_flaws_32 h) FU a0 a1 a2 a3 a4 v4 0 0)
theorem tkX12_flaws {a0 : Nat} {a1 : Int32} {a2 : Int32} {a3 : Int32} {a4 : Int32} {h : Hp} {r9 : Nat ⊕ Int32} (e : fX12_flaws a0 a1 a2 a3 a4 h = some r9) : hK h a0 = 10 := by
  unfold fX12_flaws at e
  exact (gd_some e).1
theorem cX12_flaws_m (l : Launch) {E : EE} {A : Nat → Prop} {a0 : Nat} {a1 : Int32} {a2 : Int32} {a3 : Int32} {a4 : Int32} {h : Hp} {r9 : Int32} (hf : fX12_flaws a0 a1 a2 a3 a4 h = some (.inr r9)) : Met l yX12_flaws (wsM yX12_flaws cX12_flaws 8 (some .int)) (rmm 10 0 0) (PcE E A h [rv a0, .int a1, .int a2, .int a3, .int a4]) (Qi E A h r9) 0 0 A := by
  refine met_of (by decide +kernel) (by simp [lg_sl, cat_rv, cat_wv, cat_sv, cat_i, cat_l, cat_a]) (fun p e s m args below meth c ls X hr hlk hnm S hl => ?_)
  have hl : lv_has ls 8 [(0, rv a0), (1, .int a1), (2, .int a2), (3, .int a3), (4, .int a4)] := by simpa [lv_args, cat_rv, cat_wv, cat_sv, cat_i, cat_l, cat_a] using hl
  generalize hH : s.heap = H at S ⊢
  generalize hlo : ([] : List Loc) = locs at S ⊢
  clear hH hlo
  unfold fX12_flaws at hf
  obtain ⟨hth, hf⟩ := gd_some hf
  refine g_aload_n X (or_rv _) dX12_flaws_0 rfl (lv_at hl 0 rfl) ?_
  refine lv_iload_n X.1 X.2.1 dX12_flaws_1 rfl (lv_at hl 1 rfl) ?_
  refine lv_iload_n X.1 X.2.1 dX12_flaws_2 rfl (lv_at hl 2 rfl) ?_
  refine lv_bipush (v := 64) X.1 X.2.1 dX12_flaws_3 (by decide) ?_
  rcases oe_some hf with ⟨k, hc, hf⟩ | ⟨v1, hc, hf⟩
  · cases hf
  refine g_cv S (runV (As := [.int a1, .int a2, .int 64]) (rest := []) X S coX12_161 (by decide) (cX12_needField_m l hc) (tkX12_needField hc) rfl hl.1 (by decide) rfl ⟨Nat.zero_le _, Nat.zero_le _⟩ dX12_flaws_5) (fun H locs S => ?_)
  refine g_aload_n X (or_rv _) dX12_flaws_8 rfl (lv_at hl 0 rfl) ?_
  refine g_gR X S foX12_61 dX12_flaws_9 hf (fun v2 hf => ?_)
  refine g_gR X S foX12_107 dX12_flaws_12 hf (fun v3 hf => ?_)
  refine lv_iload_n X.1 X.2.1 dX12_flaws_15 rfl (lv_at hl 1 rfl) ?_
  refine lv_iload_n X.1 X.2.1 dX12_flaws_16 rfl (lv_at hl 2 rfl) ?_
  refine lv_iload_n X.1 X.2.1 dX12_flaws_17 rfl (lv_at hl 3 rfl) ?_
  refine lv_iconst (v := 2) X.1 X.2.1 dX12_flaws_18 (by decide) ?_
  refine lv_iload_n X.1 X.2.1 dX12_flaws_19 rfl (lv_at hl 1 rfl) ?_
  refine lv_imul X.1 X.2.1 dX12_flaws_20 ?_
  obtain ⟨v4, hc, hf⟩ := ob_some hf
  refine g_ci S (runV (As := [.int a1, .int a2, .int a3, .int (2 * a1)]) (rest := []) X S coX12_165 (by decide) (cX10_firstFlaw_m l hc) (tkX10_firstFlaw hc) rfl hl.1 (by decide) rfl ⟨Nat.zero_le _, Nat.zero_le _⟩ dX12_flaws_21) (fun H locs S => ?_)
  refine lv_istore (lv' := [(5, .int v4), (0, rv a0), (1, .int a1), (2, .int a2), (3, .int a3), (4, .int a4)]) X.1 X.2.1 dX12_flaws_24 hl (by decide) rfl (fun ls hl => ?_)
  refine lv_iconst (v := 0) X.1 X.2.1 dX12_flaws_26 (by decide) ?_
  refine lv_istore (lv' := [(6, .int 0), (5, .int v4), (0, rv a0), (1, .int a1), (2, .int a2), (3, .int a3), (4, .int a4)]) X.1 X.2.1 dX12_flaws_27 hl (by decide) rfl (fun ls hl => ?_)
  refine lv_iconst (v := 0) X.1 X.2.1 dX12_flaws_29 (by decide) ?_
  refine lv_istore (lv' := [(7, .int 0), (6, .int 0), (5, .int v4), (0, rv a0), (1, .int a1), (2, .int a2), (3, .int a3), (4, .int a4)]) X.1 X.2.1 dX12_flaws_30 hl (by decide) rfl (fun ls hl => ?_)
  exact wfX12_flaws_32_l X hr hlk hnm FU _ _ _ _ _ _ _ _ _ _ _ (lv_sub hl [3, 4, 5, 6, 7, 2, 1, 0] rfl) S hf
theorem wfX12_flaws_101_x {h : Hp} {k9 : Nat} (X : Cx p E A 10 R s m args c cX12_flaws yX12_flaws.cls 8) (hr : meth.sig.returnType = (some .int)) (hlk : meth.locks = false) (hnm : meth.name = yX12_flaws.name) (hne : ∀ x ∈ c.exceptionTable.toList, False) (hlt : l.stackTraces = false) (hR1 : 0 + 1 ≤ R.cells ∧ 0 + 6 ≤ R.slots) :
    ∀ (H : Heap) (locs : List Loc) (ls : Array Slot), lv_has ls 8 [] → St E A s h H locs → fX12_flaws_101 h  = some (.inl k9) → W p l e R s m args below meth c H locs 0 0 (vx_MQ below noQ (XX E A h k9) args s 1 6 A) (F0 m 101 ls []) := by
  intro  H locs ls hl S hf
  unfold fX12_flaws_101 at hf
  cases hf
  exact g_throw (rest := []) X S hne hlk hlt hl.1 (by decide) (by decide) tfX12_135_169 dX12_flaws_101 dX12_flaws_104 dX12_flaws_105 dX12_flaws_107 dX12_flaws_110 hR1
theorem wfX12_flaws_81_x {h : Hp} {k9 : Nat} (X : Cx p E A 10 R s m args c cX12_flaws yX12_flaws.cls 8) (hr : meth.sig.returnType = (some .int)) (hlk : meth.locks = false) (hnm : meth.name = yX12_flaws.name) (hne : ∀ x ∈ c.exceptionTable.toList, False) (hlt : l.stackTraces = false) (hR1 : 0 + 1 ≤ R.cells ∧ 0 + 6 ≤ R.slots) :
    ∀ (x4 : Int32) (x5 : Int32) (x6 : Int32) (H : Heap) (locs : List Loc) (ls : Array Slot), lv_has ls 8 [(4, .int x4), (5, .int x5), (6, .int x6)] → St E A s h H locs → fX12_flaws_81 h x4 x5 x6 = some (.inl k9) → W p l e R s m args below meth c H locs 0 0 (vx_MQ below noQ (XX E A h k9) args s 1 6 A) (F0 m 81 ls []) := by
  intro x4 x5 x6 H locs ls hl S hf
  unfold fX12_flaws_81 at hf
  refine lv_iload X.1 X.2.1 dX12_flaws_81 (lv_at hl 0 rfl) ?_
  refine lv_iconst (v := (-1)) X.1 X.2.1 dX12_flaws_83 (by decide) ?_
  refine lv_icmp_ne (tgt := 90) X.1 X.2.1 dX12_flaws_84 (by decide) (fun c1 => ?_) (fun c1 => ?_)
  · replace hf := (if_neg c1).symm.trans hf
    refine lv_iload X.1 X.2.1 dX12_flaws_90 (lv_at hl 0 rfl) ?_
    refine lv_if_lt (tgt := 101) X.1 X.2.1 dX12_flaws_92 (by decide) (fun c2 => ?_) (fun c2 => ?_)
    · replace hf := (if_pos c2).symm.trans hf
      exact wfX12_flaws_101_x X hr hlk hnm hne hlt hR1 _ _ _ (lv_sub hl [] rfl) S hf
    · replace hf := (if_neg c2).symm.trans hf
      refine lv_iload X.1 X.2.1 dX12_flaws_95 (lv_at hl 1 rfl) ?_
      refine lv_iconst (v := (-1)) X.1 X.2.1 dX12_flaws_97 (by decide) ?_
      refine lv_icmp_ne (tgt := 111) X.1 X.2.1 dX12_flaws_98 (by decide) (fun c3 => ?_) (fun c3 => ?_)
      · replace hf := (if_neg c3).symm.trans hf
        refine lv_iload X.1 X.2.1 dX12_flaws_111 (lv_at hl 1 rfl) ?_
        cases hf
      · replace hf := (if_pos c3).symm.trans hf
        exact wfX12_flaws_101_x X hr hlk hnm hne hlt hR1 _ _ _ (lv_sub hl [] rfl) S hf
  · replace hf := (if_pos c1).symm.trans hf
    refine lv_iload X.1 X.2.1 dX12_flaws_87 (lv_at hl 2 rfl) ?_
    cases hf
theorem wfX12_flaws_32_x {h : Hp} {k32 : Nat → Int32 → Int32 → Int32 → Int32 → Int32 → Int32 → Int32 → Option (Nat ⊕ Int32)} {k9 : Nat} (X : Cx p E A 10 R s m args c cX12_flaws yX12_flaws.cls 8) (hr : meth.sig.returnType = (some .int)) (hlk : meth.locks = false) (hnm : meth.name = yX12_flaws.name) (hne : ∀ x ∈ c.exceptionTable.toList, False) (hlt : l.stackTraces = false) (hR1 : 0 + 1 ≤ R.cells ∧ 0 + 6 ≤ R.slots) (hk32 : ∀ (x0 : Nat) (x1 : Int32) (x2 : Int32) (x3 : Int32) (x4 : Int32) (x5 : Int32) (x6 : Int32) (x7 : Int32) (H : Heap) (locs : List Loc) (ls : Array Slot), lv_has ls 8 [(0, rv x0), (1, .int x1), (2, .int x2), (3, .int x3), (4, .int x4), (5, .int x5), (6, .int x6), (7, .int x7)] → St E A s h H locs → k32 x0 x1 x2 x3 x4 x5 x6 x7 = some (.inl k9) → W p l e R s m args below meth c H locs 0 0 (vx_MQ below noQ (XX E A h k9) args s 1 6 A) (F0 m 32 ls [])) :
    ∀ (x0 : Nat) (x1 : Int32) (x2 : Int32) (x3 : Int32) (x4 : Int32) (x5 : Int32) (x6 : Int32) (x7 : Int32) (H : Heap) (locs : List Loc) (ls : Array Slot), lv_has ls 8 [(0, rv x0), (1, .int x1), (2, .int x2), (3, .int x3), (4, .int x4), (5, .int x5), (6, .int x6), (7, .int x7)] → St E A s h H locs → fX12_flaws_32 h k32 x0 x1 x2 x3 x4 x5 x6 x7 = some (.inl k9) → W p l e R s m args below meth c H locs 0 0 (vx_MQ below noQ (XX E A h k9) args s 1 6 A) (F0 m 32 ls []) := by
  intro x0 x1 x2 x3 x4 x5 x6 x7 H locs ls hl S hf
  unfold fX12_flaws_32 at hf
  refine lv_iload X.1 X.2.1 dX12_flaws_32 (lv_at hl 7 rfl) ?_
  refine lv_iconst (v := 2) X.1 X.2.1 dX12_flaws_34 (by decide) ?_
  refine lv_iload_n X.1 X.2.1 dX12_flaws_35 rfl (lv_at hl 2 rfl) ?_
  refine lv_imul X.1 X.2.1 dX12_flaws_36 ?_
  refine lv_icmp_ge (tgt := 81) X.1 X.2.1 dX12_flaws_37 (by decide) (fun c1 => ?_) (fun c1 => ?_)
  · replace hf := (if_pos c1).symm.trans hf
    exact wfX12_flaws_81_x X hr hlk hnm hne hlt hR1 _ _ _ _ _ _ (lv_sub hl [4, 5, 6] rfl) S hf
  · replace hf := (if_neg c1).symm.trans hf
    refine lv_iload X.1 X.2.1 dX12_flaws_40 (lv_at hl 5 rfl) ?_
    refine lv_iconst (v := (-1)) X.1 X.2.1 dX12_flaws_42 (by decide) ?_
    refine lv_icmp_eq (tgt := 81) X.1 X.2.1 dX12_flaws_43 (by decide) (fun c2 => ?_) (fun c2 => ?_)
    · replace hf := (if_pos c2).symm.trans hf
      exact wfX12_flaws_81_x X hr hlk hnm hne hlt hR1 _ _ _ _ _ _ (lv_sub hl [4, 5, 6] rfl) S hf
    · replace hf := (if_neg c2).symm.trans hf
      refine lv_iload X.1 X.2.1 dX12_flaws_46 (lv_at hl 6 rfl) ?_
      refine lv_iload X.1 X.2.1 dX12_flaws_48 (lv_at hl 4 rfl) ?_
      refine lv_icmp_eq (tgt := 81) X.1 X.2.1 dX12_flaws_50 (by decide) (fun c3 => ?_) (fun c3 => ?_)
      · replace hf := (if_pos c3).symm.trans hf
        exact wfX12_flaws_81_x X hr hlk hnm hne hlt hR1 _ _ _ _ _ _ (lv_sub hl [4, 5, 6] rfl) S hf
      · replace hf := (if_neg c3).symm.trans hf
        obtain ⟨z4, ez4, hf⟩ := lt_some hf
        refine lv_iinc (v := z4) (lv' := [(6, .int z4), (0, rv x0), (1, .int x1), (2, .int x2), (3, .int x3), (4, .int x4), (5, .int x5), (7, .int x7)]) X.1 X.2.1 dX12_flaws_53 hl (k := 6) rfl (by rw [← ez4]; rfl) (by decide) rfl (fun ls hl => ?_)
        refine g_aload_n X (or_rv _) dX12_flaws_56 rfl (lv_at hl 1 rfl) ?_
        refine g_gR X S foX12_61 dX12_flaws_57 hf (fun v5 hf => ?_)
        refine g_gR X S foX12_107 dX12_flaws_60 hf (fun v6 hf => ?_)
        refine lv_iload_n X.1 X.2.1 dX12_flaws_63 rfl (lv_at hl 2 rfl) ?_
        refine lv_iload_n X.1 X.2.1 dX12_flaws_64 rfl (lv_at hl 3 rfl) ?_
        refine lv_iload_n X.1 X.2.1 dX12_flaws_65 rfl (lv_at hl 4 rfl) ?_
        refine lv_iload X.1 X.2.1 dX12_flaws_66 (lv_at hl 6 rfl) ?_
        refine lv_iconst (v := 1) X.1 X.2.1 dX12_flaws_68 (by decide) ?_
        refine lv_iadd X.1 X.2.1 dX12_flaws_69 ?_
        obtain ⟨v7, hc, hf⟩ := ob_some hf
        refine g_ci S (runV (As := [.int x1, .int x2, .int x3, .int (x5 + 1)]) (rest := []) X S coX12_165 (by decide) (cX10_firstFlaw_m l hc) (tkX10_firstFlaw hc) rfl hl.1 (by decide) rfl ⟨Nat.zero_le _, Nat.zero_le _⟩ dX12_flaws_70) (fun H locs S => ?_)
        refine lv_istore (lv' := [(5, .int v7), (6, .int z4), (0, rv x0), (1, .int x1), (2, .int x2), (3, .int x3), (4, .int x4), (7, .int x7)]) X.1 X.2.1 dX12_flaws_73 hl (by decide) rfl (fun ls hl => ?_)
        obtain ⟨z8, ez8, hf⟩ := lt_some hf
        refine lv_iinc (v := z8) (lv' := [(7, .int z8), (5, .int v7), (6, .int z4), (0, rv x0), (1, .int x1), (2, .int x2), (3, .int x3), (4, .int x4)]) X.1 X.2.1 dX12_flaws_75 hl (k := 7) rfl (by rw [← ez8]; rfl) (by decide) rfl (fun ls hl => ?_)
        refine lv_goto (tgt := 32) X.1 X.2.1 dX12_flaws_78 (by decide) ?_
        exact hk32 _ _ _ _ _ _ _ _ _ _ _ (lv_sub hl [3, 4, 5, 6, 7, 1, 2, 0] rfl) S hf
theorem wfX12_flaws_32_x_l {h : Hp} {k9 : Nat} (X : Cx p E A 10 R s m args c cX12_flaws yX12_flaws.cls 8) (hr : meth.sig.returnType = (some .int)) (hlk : meth.locks = false) (hnm : meth.name = yX12_flaws.name) (hne : ∀ x ∈ c.exceptionTable.toList, False) (hlt : l.stackTraces = false) (hR1 : 0 + 1 ≤ R.cells ∧ 0 + 6 ≤ R.slots) :
    ∀ (n : Nat) (x0 : Nat) (x1 : Int32) (x2 : Int32) (x3 : Int32) (x4 : Int32) (x5 : Int32) (x6 : Int32) (x7 : Int32) (H : Heap) (locs : List Loc) (ls : Array Slot), lv_has ls 8 [(0, rv x0), (1, .int x1), (2, .int x2), (3, .int x3), (4, .int x4), (5, .int x5), (6, .int x6), (7, .int x7)] → St E A s h H locs → lp (fun _ _ _ _ _ _ _ _ => none) (fX12_flaws_32 h) n x0 x1 x2 x3 x4 x5 x6 x7 = some (.inl k9) → W p l e R s m args below meth c H locs 0 0 (vx_MQ below noQ (XX E A h k9) args s 1 6 A) (F0 m 32 ls []) := by
  intro n
  induction n with
  | zero =>
    intro x0 x1 x2 x3 x4 x5 x6 x7 H locs ls hl S hf
    exact nomatch hf
  | succ n ih =>
    intro x0 x1 x2 x3 x4 x5 x6 x7 H locs ls hl S hf
    exact wfX12_flaws_32_x X hr hlk hnm hne hlt hR1 ih x0 x1 x2 x3 x4 x5 x6 x7 H locs ls hl S hf
theorem cX12_flaws_x (l : Launch) (hlt : l.stackTraces = false) {E : EE} {A : Nat → Prop} {a0 : Nat} {a1 : Int32} {a2 : Int32} {a3 : Int32} {a4 : Int32} {h : Hp} {k9 : Nat} (hf : fX12_flaws a0 a1 a2 a3 a4 h = some (.inl k9)) : vx_Met l yX12_flaws (wsM yX12_flaws cX12_flaws 8 (some .int)) (rmm 10 1 6) (PcE E A h [rv a0, .int a1, .int a2, .int a3, .int a4]) noQ (XX E A h k9) 1 6 A := by
  refine met_ofX (by decide +kernel) (by simp [lg_sl, cat_rv, cat_wv, cat_sv, cat_i, cat_l, cat_a]) (fun p e s m args below meth c ls X hr hlk hnm hne S hl => ?_)
  have hR1 : 0 + 1 ≤ (rmm 10 1 6).cells ∧ 0 + 6 ≤ (rmm 10 1 6).slots := ⟨Nat.le_refl _, Nat.le_refl _⟩
  have hl : lv_has ls 8 [(0, rv a0), (1, .int a1), (2, .int a2), (3, .int a3), (4, .int a4)] := by simpa [lv_args, cat_rv, cat_wv, cat_sv, cat_i, cat_l, cat_a] using hl
  generalize hH : s.heap = H at S ⊢
  generalize hlo : ([] : List Loc) = locs at S ⊢
  clear hH hlo
  unfold fX12_flaws at hf
  obtain ⟨hth, hf⟩ := gd_some hf
  refine g_aload_n X (or_rv _) dX12_flaws_0 rfl (lv_at hl 0 rfl) ?_
  refine lv_iload_n X.1 X.2.1 dX12_flaws_1 rfl (lv_at hl 1 rfl) ?_
  refine lv_iload_n X.1 X.2.1 dX12_flaws_2 rfl (lv_at hl 2 rfl) ?_
  refine lv_bipush (v := 64) X.1 X.2.1 dX12_flaws_3 (by decide) ?_
  rcases oe_some hf with ⟨k, hc, hf⟩ | ⟨v1, hc, hf⟩
  · cases hf
    exact g_pass S hne hlk (runVX (As := [.int a1, .int a2, .int 64]) (rest := []) X S coX12_161 (by decide) (cX12_needField_x l hlt hc) (tkX12_needField hc) rfl hl.1 (by decide) rfl hR1 dX12_flaws_5)
  refine g_cv S (runV (As := [.int a1, .int a2, .int 64]) (rest := []) X S coX12_161 (by decide) (cX12_needField_m l hc) (tkX12_needField hc) rfl hl.1 (by decide) rfl ⟨Nat.zero_le _, Nat.zero_le _⟩ dX12_flaws_5) (fun H locs S => ?_)
  refine g_aload_n X (or_rv _) dX12_flaws_8 rfl (lv_at hl 0 rfl) ?_
  refine g_gR X S foX12_61 dX12_flaws_9 hf (fun v2 hf => ?_)
  refine g_gR X S foX12_107 dX12_flaws_12 hf (fun v3 hf => ?_)
  refine lv_iload_n X.1 X.2.1 dX12_flaws_15 rfl (lv_at hl 1 rfl) ?_
  refine lv_iload_n X.1 X.2.1 dX12_flaws_16 rfl (lv_at hl 2 rfl) ?_
  refine lv_iload_n X.1 X.2.1 dX12_flaws_17 rfl (lv_at hl 3 rfl) ?_
  refine lv_iconst (v := 2) X.1 X.2.1 dX12_flaws_18 (by decide) ?_
  refine lv_iload_n X.1 X.2.1 dX12_flaws_19 rfl (lv_at hl 1 rfl) ?_
  refine lv_imul X.1 X.2.1 dX12_flaws_20 ?_
  obtain ⟨v4, hc, hf⟩ := ob_some hf
  refine g_ci S (runV (As := [.int a1, .int a2, .int a3, .int (2 * a1)]) (rest := []) X S coX12_165 (by decide) (cX10_firstFlaw_m l hc) (tkX10_firstFlaw hc) rfl hl.1 (by decide) rfl ⟨Nat.zero_le _, Nat.zero_le _⟩ dX12_flaws_21) (fun H locs S => ?_)
  refine lv_istore (lv' := [(5, .int v4), (0, rv a0), (1, .int a1), (2, .int a2), (3, .int a3), (4, .int a4)]) X.1 X.2.1 dX12_flaws_24 hl (by decide) rfl (fun ls hl => ?_)
  refine lv_iconst (v := 0) X.1 X.2.1 dX12_flaws_26 (by decide) ?_
  refine lv_istore (lv' := [(6, .int 0), (5, .int v4), (0, rv a0), (1, .int a1), (2, .int a2), (3, .int a3), (4, .int a4)]) X.1 X.2.1 dX12_flaws_27 hl (by decide) rfl (fun ls hl => ?_)
  refine lv_iconst (v := 0) X.1 X.2.1 dX12_flaws_29 (by decide) ?_
  refine lv_istore (lv' := [(7, .int 0), (6, .int 0), (5, .int v4), (0, rv a0), (1, .int a1), (2, .int a2), (3, .int a3), (4, .int a4)]) X.1 X.2.1 dX12_flaws_30 hl (by decide) rfl (fun ls hl => ?_)
  exact wfX12_flaws_32_x_l X hr hlk hnm hne hlt hR1 FU _ _ _ _ _ _ _ _ _ _ _ (lv_sub hl [3, 4, 5, 6, 7, 2, 1, 0] rfl) S hf
def fX12_needSound (a0 : Nat) (a1 : Int32) (a2 : Int32) (a3 : Int32) (h : Hp) : Option (Nat ⊕ Unit) := gd 10 a0 h (ob (gR 10 a0 10 h) fun v1 => ob (gR 2 v1 0 h) fun v2 => ob (fX10_firstFlaw v2 a1 a2 a3 (2 * a1) h) fun v3 => if v3 = (-1) then some (.inr ()) else some (.inl 1))
theorem tkX12_needSound {a0 : Nat} {a1 : Int32} {a2 : Int32} {a3 : Int32} {h : Hp} {r9 : Nat ⊕ Unit} (e : fX12_needSound a0 a1 a2 a3 h = some r9) : hK h a0 = 10 := by
  unfold fX12_needSound at e
  exact (gd_some e).1
theorem cX12_needSound_m (l : Launch) {E : EE} {A : Nat → Prop} {a0 : Nat} {a1 : Int32} {a2 : Int32} {a3 : Int32} {h : Hp} (hf : fX12_needSound a0 a1 a2 a3 h = some (.inr ())) : Met l yX12_needSound (wsM yX12_needSound cX12_needSound 4 none) (rmm 9 0 0) (PcE E A h [rv a0, .int a1, .int a2, .int a3]) (Qv E A h) 0 0 A := by
  refine met_of (by decide +kernel) (by simp [lg_sl, cat_rv, cat_wv, cat_sv, cat_i, cat_l, cat_a]) (fun p e s m args below meth c ls X hr hlk hnm S hl => ?_)
  have hl : lv_has ls 4 [(0, rv a0), (1, .int a1), (2, .int a2), (3, .int a3)] := by simpa [lv_args, cat_rv, cat_wv, cat_sv, cat_i, cat_l, cat_a] using hl
  generalize hH : s.heap = H at S ⊢
  generalize hlo : ([] : List Loc) = locs at S ⊢
  clear hH hlo
  unfold fX12_needSound at hf
  obtain ⟨hth, hf⟩ := gd_some hf
  refine g_aload_n X (or_rv _) dX12_needSound_0 rfl (lv_at hl 0 rfl) ?_
  refine g_gR X S foX12_61 dX12_needSound_1 hf (fun v1 hf => ?_)
  refine g_gR X S foX12_107 dX12_needSound_4 hf (fun v2 hf => ?_)
  refine lv_iload_n X.1 X.2.1 dX12_needSound_7 rfl (lv_at hl 1 rfl) ?_
  refine lv_iload_n X.1 X.2.1 dX12_needSound_8 rfl (lv_at hl 2 rfl) ?_
  refine lv_iload_n X.1 X.2.1 dX12_needSound_9 rfl (lv_at hl 3 rfl) ?_
  refine lv_iconst (v := 2) X.1 X.2.1 dX12_needSound_10 (by decide) ?_
  refine lv_iload_n X.1 X.2.1 dX12_needSound_11 rfl (lv_at hl 1 rfl) ?_
  refine lv_imul X.1 X.2.1 dX12_needSound_12 ?_
  obtain ⟨v3, hc, hf⟩ := ob_some hf
  refine g_ci S (runV (As := [.int a1, .int a2, .int a3, .int (2 * a1)]) (rest := []) X S coX12_165 (by decide) (cX10_firstFlaw_m l hc) (tkX10_firstFlaw hc) rfl hl.1 (by decide) rfl ⟨Nat.zero_le _, Nat.zero_le _⟩ dX12_needSound_13) (fun H locs S => ?_)
  refine lv_iconst (v := (-1)) X.1 X.2.1 dX12_needSound_16 (by decide) ?_
  refine lv_icmp_eq (tgt := 31) X.1 X.2.1 dX12_needSound_17 (by decide) (fun c4 => ?_) (fun c4 => ?_)
  · replace hf := (if_pos c4).symm.trans hf
    cases hf; exact g_rv X S hr hlk dX12_needSound_31
  · replace hf := (if_neg c4).symm.trans hf
    cases hf
theorem cX12_needSound_x (l : Launch) (hlt : l.stackTraces = false) {E : EE} {A : Nat → Prop} {a0 : Nat} {a1 : Int32} {a2 : Int32} {a3 : Int32} {h : Hp} {k9 : Nat} (hf : fX12_needSound a0 a1 a2 a3 h = some (.inl k9)) : vx_Met l yX12_needSound (wsM yX12_needSound cX12_needSound 4 none) (rmm 9 1 6) (PcE E A h [rv a0, .int a1, .int a2, .int a3]) noQ (XX E A h k9) 1 6 A := by
  refine met_ofX (by decide +kernel) (by simp [lg_sl, cat_rv, cat_wv, cat_sv, cat_i, cat_l, cat_a]) (fun p e s m args below meth c ls X hr hlk hnm hne S hl => ?_)
  have hR1 : 0 + 1 ≤ (rmm 9 1 6).cells ∧ 0 + 6 ≤ (rmm 9 1 6).slots := ⟨Nat.le_refl _, Nat.le_refl _⟩
  have hl : lv_has ls 4 [(0, rv a0), (1, .int a1), (2, .int a2), (3, .int a3)] := by simpa [lv_args, cat_rv, cat_wv, cat_sv, cat_i, cat_l, cat_a] using hl
  generalize hH : s.heap = H at S ⊢
  generalize hlo : ([] : List Loc) = locs at S ⊢
  clear hH hlo
  unfold fX12_needSound at hf
  obtain ⟨hth, hf⟩ := gd_some hf
  refine g_aload_n X (or_rv _) dX12_needSound_0 rfl (lv_at hl 0 rfl) ?_
  refine g_gR X S foX12_61 dX12_needSound_1 hf (fun v1 hf => ?_)
  refine g_gR X S foX12_107 dX12_needSound_4 hf (fun v2 hf => ?_)
  refine lv_iload_n X.1 X.2.1 dX12_needSound_7 rfl (lv_at hl 1 rfl) ?_
  refine lv_iload_n X.1 X.2.1 dX12_needSound_8 rfl (lv_at hl 2 rfl) ?_
  refine lv_iload_n X.1 X.2.1 dX12_needSound_9 rfl (lv_at hl 3 rfl) ?_
  refine lv_iconst (v := 2) X.1 X.2.1 dX12_needSound_10 (by decide) ?_
  refine lv_iload_n X.1 X.2.1 dX12_needSound_11 rfl (lv_at hl 1 rfl) ?_
  refine lv_imul X.1 X.2.1 dX12_needSound_12 ?_
  obtain ⟨v3, hc, hf⟩ := ob_some hf
  refine g_ci S (runV (As := [.int a1, .int a2, .int a3, .int (2 * a1)]) (rest := []) X S coX12_165 (by decide) (cX10_firstFlaw_m l hc) (tkX10_firstFlaw hc) rfl hl.1 (by decide) rfl ⟨Nat.zero_le _, Nat.zero_le _⟩ dX12_needSound_13) (fun H locs S => ?_)
  refine lv_iconst (v := (-1)) X.1 X.2.1 dX12_needSound_16 (by decide) ?_
  refine lv_icmp_eq (tgt := 31) X.1 X.2.1 dX12_needSound_17 (by decide) (fun c4 => ?_) (fun c4 => ?_)
  · replace hf := (if_pos c4).symm.trans hf
    cases hf
  · replace hf := (if_neg c4).symm.trans hf
    cases hf
    exact g_throwW (rest := []) X S hne hlk hlt hl.1 (by decide) (by decide) tfX12_135_319 dX12_needSound_20 dX12_needSound_23 dX12_needSound_24 dX12_needSound_27 dX12_needSound_30 hR1
def fX12_number_54 (x0 : Nat) (h : Hp) : Option ((Nat ⊕ Int64) × Hp) := ob (gR 10 x0 7 h) fun v1 => ob (fX1_size v1 h) fun v2 => if v2 ≤ 18 then ob (gR 10 x0 7 h) fun v4 => ob (fX1_value v4 h) fun v5 => some (.inr v5, h) else some (.inl 3, h)
theorem wfX12_number_54 {r9 : Int64} {h9 : Hp} (X : Cx p E A 10 R s m args c cX12_number yX12_number.cls 4) (hr : meth.sig.returnType = (some .long)) (hlk : meth.locks = false) (hnm : meth.name = yX12_number.name) :
    ∀ (x0 : Nat) (h : Hp) (H : Heap) (locs : List Loc) (ls : Array Slot), lv_has ls 4 [(0, rv x0)] → St E A s h H locs → fX12_number_54 x0 h = some (.inr r9, h9) → W p l e R s m args below meth c H locs 0 0 (MQ below (Ql E A h9 r9) args s 0 0 A) (F0 m 54 ls []) := by
  intro x0 h H locs ls hl S hf
  unfold fX12_number_54 at hf
  refine g_aload_n X (or_rv _) dX12_number_54 rfl (lv_at hl 0 rfl) ?_
  refine g_gR X S foX12_48 dX12_number_55 hf (fun v1 hf => ?_)
  obtain ⟨v2, hc, hf⟩ := ob_some hf
  refine g_ci S (runV (As := []) (rest := []) X S coX12_182 (by decide) (cX1_size_m l hc) (tkX1_size hc) rfl hl.1 (by decide) rfl ⟨Nat.zero_le _, Nat.zero_le _⟩ dX12_number_58) (fun H locs S => ?_)
  refine lv_bipush (v := 18) X.1 X.2.1 dX12_number_61 (by decide) ?_
  refine lv_icmp_le (tgt := 76) X.1 X.2.1 dX12_number_63 (by decide) (fun c3 => ?_) (fun c3 => ?_)
  · replace hf := (if_pos c3).symm.trans hf
    refine g_aload_n X (or_rv _) dX12_number_76 rfl (lv_at hl 0 rfl) ?_
    refine g_gR X S foX12_48 dX12_number_77 hf (fun v4 hf => ?_)
    obtain ⟨v5, hc, hf⟩ := ob_some hf
    refine g_cl S (runV (As := []) (rest := []) X S coX12_190 (by decide) (cX1_value_m l hc) (tkX1_value hc) rfl hl.1 (by decide) rfl ⟨Nat.zero_le _, Nat.zero_le _⟩ dX12_number_80) (fun H locs S => ?_)
    cases hf; exact g_rl X S hr hlk dX12_number_83
  · replace hf := (if_neg c3).symm.trans hf
    cases hf
def fX12_number (a0 : Nat) (a1 : Int32) (a2 : Int32) (a3 : Int32) (h : Hp) : Option ((Nat ⊕ Int64) × Hp) := gd 10 a0 h (oe (fX12_needField a0 a1 a2 16 h) (fun k => some (.inl k, h)) fun v1 => oe (fX12_needSound a0 a1 a2 a3 h) (fun k => some (.inl k, h)) fun v2 => if a3 = 0 then ob (gR 10 a0 7 h) fun v4 => ob (gR 10 a0 10 h) fun v5 => ob (gR 2 v5 0 h) fun v6 => ob (fX1_takePacked v4 v6 a1 a2 h) fun h => fX12_number_54 a0 h else ob (gR 10 a0 7 h) fun v8 => ob (gR 10 a0 10 h) fun v9 => ob (gR 2 v9 0 h) fun v10 => ob (fX1_takeZoned v8 v10 a1 a2 h) fun h => fX12_number_54 a0 h)
theorem tkX12_number {a0 : Nat} {a1 : Int32} {a2 : Int32} {a3 : Int32} {h : Hp} {r9 : (Nat ⊕ Int64) × Hp} (e : fX12_number a0 a1 a2 a3 h = some r9) : hK h a0 = 10 := by
  unfold fX12_number at e
  exact (gd_some e).1
theorem cX12_number_m (l : Launch) {E : EE} {A : Nat → Prop} {a0 : Nat} {a1 : Int32} {a2 : Int32} {a3 : Int32} {h : Hp} {r9 : Int64} {h9 : Hp} (hf : fX12_number a0 a1 a2 a3 h = some (.inr r9, h9)) : Met l yX12_number (wsM yX12_number cX12_number 4 (some .long)) (rmm 10 0 0) (PcE E A h [rv a0, .int a1, .int a2, .int a3]) (Ql E A h9 r9) 0 0 A := by
  refine met_of (by decide +kernel) (by simp [lg_sl, cat_rv, cat_wv, cat_sv, cat_i, cat_l, cat_a]) (fun p e s m args below meth c ls X hr hlk hnm S hl => ?_)
  have hl : lv_has ls 4 [(0, rv a0), (1, .int a1), (2, .int a2), (3, .int a3)] := by simpa [lv_args, cat_rv, cat_wv, cat_sv, cat_i, cat_l, cat_a] using hl
  generalize hH : s.heap = H at S ⊢
  generalize hlo : ([] : List Loc) = locs at S ⊢
  clear hH hlo
  unfold fX12_number at hf
  obtain ⟨hth, hf⟩ := gd_some hf
  refine g_aload_n X (or_rv _) dX12_number_0 rfl (lv_at hl 0 rfl) ?_
  refine lv_iload_n X.1 X.2.1 dX12_number_1 rfl (lv_at hl 1 rfl) ?_
  refine lv_iload_n X.1 X.2.1 dX12_number_2 rfl (lv_at hl 2 rfl) ?_
  refine lv_bipush (v := 16) X.1 X.2.1 dX12_number_3 (by decide) ?_
  rcases oe_some hf with ⟨k, hc, hf⟩ | ⟨v1, hc, hf⟩
  · cases hf
  refine g_cv S (runV (As := [.int a1, .int a2, .int 16]) (rest := []) X S coX12_161 (by decide) (cX12_needField_m l hc) (tkX12_needField hc) rfl hl.1 (by decide) rfl ⟨Nat.zero_le _, Nat.zero_le _⟩ dX12_number_5) (fun H locs S => ?_)
  refine g_aload_n X (or_rv _) dX12_number_8 rfl (lv_at hl 0 rfl) ?_
  refine lv_iload_n X.1 X.2.1 dX12_number_9 rfl (lv_at hl 1 rfl) ?_
  refine lv_iload_n X.1 X.2.1 dX12_number_10 rfl (lv_at hl 2 rfl) ?_
  refine lv_iload_n X.1 X.2.1 dX12_number_11 rfl (lv_at hl 3 rfl) ?_
  rcases oe_some hf with ⟨k, hc, hf⟩ | ⟨v2, hc, hf⟩
  · cases hf
  refine g_cv S (runV (As := [.int a1, .int a2, .int a3]) (rest := []) X S coX12_171 (by decide) (cX12_needSound_m l hc) (tkX12_needSound hc) rfl hl.1 (by decide) rfl ⟨Nat.zero_le _, Nat.zero_le _⟩ dX12_number_12) (fun H locs S => ?_)
  refine lv_iload_n X.1 X.2.1 dX12_number_15 rfl (lv_at hl 3 rfl) ?_
  refine lv_if_eq (tgt := 38) X.1 X.2.1 dX12_number_16 (by decide) (fun c3 => ?_) (fun c3 => ?_)
  · replace hf := (if_pos c3).symm.trans hf
    refine g_aload_n X (or_rv _) dX12_number_38 rfl (lv_at hl 0 rfl) ?_
    refine g_gR X S foX12_48 dX12_number_39 hf (fun v4 hf => ?_)
    refine g_aload_n X (or_rv _) dX12_number_42 rfl (lv_at hl 0 rfl) ?_
    refine g_gR X S foX12_61 dX12_number_43 hf (fun v5 hf => ?_)
    refine g_gR X S foX12_107 dX12_number_46 hf (fun v6 hf => ?_)
    refine lv_iload_n X.1 X.2.1 dX12_number_49 rfl (lv_at hl 1 rfl) ?_
    refine lv_iload_n X.1 X.2.1 dX12_number_50 rfl (lv_at hl 2 rfl) ?_
    obtain ⟨h, hc, hf⟩ := ob_some hf
    refine g_cv S (runV (As := [rv v6, .int a1, .int a2]) (rest := []) X S coX12_179 (by decide) (cX1_takePacked_m l hc) (tkX1_takePacked hc) rfl hl.1 (by decide) rfl ⟨Nat.zero_le _, Nat.zero_le _⟩ dX12_number_51) (fun H locs S => ?_)
    exact wfX12_number_54 X hr hlk hnm _ _ _ _ _ (lv_sub hl [0] rfl) S hf
  · replace hf := (if_neg c3).symm.trans hf
    refine g_aload_n X (or_rv _) dX12_number_19 rfl (lv_at hl 0 rfl) ?_
    refine g_gR X S foX12_48 dX12_number_20 hf (fun v8 hf => ?_)
    refine g_aload_n X (or_rv _) dX12_number_23 rfl (lv_at hl 0 rfl) ?_
    refine g_gR X S foX12_61 dX12_number_24 hf (fun v9 hf => ?_)
    refine g_gR X S foX12_107 dX12_number_27 hf (fun v10 hf => ?_)
    refine lv_iload_n X.1 X.2.1 dX12_number_30 rfl (lv_at hl 1 rfl) ?_
    refine lv_iload_n X.1 X.2.1 dX12_number_31 rfl (lv_at hl 2 rfl) ?_
    obtain ⟨h, hc, hf⟩ := ob_some hf
    refine g_cv S (runV (As := [rv v10, .int a1, .int a2]) (rest := []) X S coX12_175 (by decide) (cX1_takeZoned_m l hc) (tkX1_takeZoned hc) rfl hl.1 (by decide) rfl ⟨Nat.zero_le _, Nat.zero_le _⟩ dX12_number_32) (fun H locs S => ?_)
    refine lv_goto (tgt := 54) X.1 X.2.1 dX12_number_35 (by decide) ?_
    exact wfX12_number_54 X hr hlk hnm _ _ _ _ _ (lv_sub hl [0] rfl) S hf
theorem wfX12_number_54_x {k9 : Nat} {h9 : Hp} (X : Cx p E A 10 R s m args c cX12_number yX12_number.cls 4) (hr : meth.sig.returnType = (some .long)) (hlk : meth.locks = false) (hnm : meth.name = yX12_number.name) (hne : ∀ x ∈ c.exceptionTable.toList, False) (hlt : l.stackTraces = false) (hR1 : 0 + 1 ≤ R.cells ∧ 0 + 6 ≤ R.slots) :
    ∀ (x0 : Nat) (h : Hp) (H : Heap) (locs : List Loc) (ls : Array Slot), lv_has ls 4 [(0, rv x0)] → St E A s h H locs → fX12_number_54 x0 h = some (.inl k9, h9) → W p l e R s m args below meth c H locs 0 0 (vx_MQ below noQ (XX E A h9 k9) args s 1 6 A) (F0 m 54 ls []) := by
  intro x0 h H locs ls hl S hf
  unfold fX12_number_54 at hf
  refine g_aload_n X (or_rv _) dX12_number_54 rfl (lv_at hl 0 rfl) ?_
  refine g_gR X S foX12_48 dX12_number_55 hf (fun v1 hf => ?_)
  obtain ⟨v2, hc, hf⟩ := ob_some hf
  refine g_ci S (runV (As := []) (rest := []) X S coX12_182 (by decide) (cX1_size_m l hc) (tkX1_size hc) rfl hl.1 (by decide) rfl ⟨Nat.zero_le _, Nat.zero_le _⟩ dX12_number_58) (fun H locs S => ?_)
  refine lv_bipush (v := 18) X.1 X.2.1 dX12_number_61 (by decide) ?_
  refine lv_icmp_le (tgt := 76) X.1 X.2.1 dX12_number_63 (by decide) (fun c3 => ?_) (fun c3 => ?_)
  · replace hf := (if_pos c3).symm.trans hf
    refine g_aload_n X (or_rv _) dX12_number_76 rfl (lv_at hl 0 rfl) ?_
    refine g_gR X S foX12_48 dX12_number_77 hf (fun v4 hf => ?_)
    obtain ⟨v5, hc, hf⟩ := ob_some hf
    refine g_cl S (runV (As := []) (rest := []) X S coX12_190 (by decide) (cX1_value_m l hc) (tkX1_value hc) rfl hl.1 (by decide) rfl ⟨Nat.zero_le _, Nat.zero_le _⟩ dX12_number_80) (fun H locs S => ?_)
    cases hf
  · replace hf := (if_neg c3).symm.trans hf
    cases hf
    exact g_throw (rest := []) X S hne hlk hlt hl.1 (by decide) (by decide) tfX12_185_187 dX12_number_66 dX12_number_69 dX12_number_70 dX12_number_72 dX12_number_75 hR1
theorem cX12_number_x (l : Launch) (hlt : l.stackTraces = false) {E : EE} {A : Nat → Prop} {a0 : Nat} {a1 : Int32} {a2 : Int32} {a3 : Int32} {h : Hp} {k9 : Nat} {h9 : Hp} (hf : fX12_number a0 a1 a2 a3 h = some (.inl k9, h9)) : vx_Met l yX12_number (wsM yX12_number cX12_number 4 (some .long)) (rmm 10 1 6) (PcE E A h [rv a0, .int a1, .int a2, .int a3]) noQ (XX E A h9 k9) 1 6 A := by
  refine met_ofX (by decide +kernel) (by simp [lg_sl, cat_rv, cat_wv, cat_sv, cat_i, cat_l, cat_a]) (fun p e s m args below meth c ls X hr hlk hnm hne S hl => ?_)
  have hR1 : 0 + 1 ≤ (rmm 10 1 6).cells ∧ 0 + 6 ≤ (rmm 10 1 6).slots := ⟨Nat.le_refl _, Nat.le_refl _⟩
  have hl : lv_has ls 4 [(0, rv a0), (1, .int a1), (2, .int a2), (3, .int a3)] := by simpa [lv_args, cat_rv, cat_wv, cat_sv, cat_i, cat_l, cat_a] using hl
  generalize hH : s.heap = H at S ⊢
  generalize hlo : ([] : List Loc) = locs at S ⊢
  clear hH hlo
  unfold fX12_number at hf
  obtain ⟨hth, hf⟩ := gd_some hf
  refine g_aload_n X (or_rv _) dX12_number_0 rfl (lv_at hl 0 rfl) ?_
  refine lv_iload_n X.1 X.2.1 dX12_number_1 rfl (lv_at hl 1 rfl) ?_
  refine lv_iload_n X.1 X.2.1 dX12_number_2 rfl (lv_at hl 2 rfl) ?_
  refine lv_bipush (v := 16) X.1 X.2.1 dX12_number_3 (by decide) ?_
  rcases oe_some hf with ⟨k, hc, hf⟩ | ⟨v1, hc, hf⟩
  · cases hf
    exact g_pass S hne hlk (runVX (As := [.int a1, .int a2, .int 16]) (rest := []) X S coX12_161 (by decide) (cX12_needField_x l hlt hc) (tkX12_needField hc) rfl hl.1 (by decide) rfl hR1 dX12_number_5)
  refine g_cv S (runV (As := [.int a1, .int a2, .int 16]) (rest := []) X S coX12_161 (by decide) (cX12_needField_m l hc) (tkX12_needField hc) rfl hl.1 (by decide) rfl ⟨Nat.zero_le _, Nat.zero_le _⟩ dX12_number_5) (fun H locs S => ?_)
  refine g_aload_n X (or_rv _) dX12_number_8 rfl (lv_at hl 0 rfl) ?_
  refine lv_iload_n X.1 X.2.1 dX12_number_9 rfl (lv_at hl 1 rfl) ?_
  refine lv_iload_n X.1 X.2.1 dX12_number_10 rfl (lv_at hl 2 rfl) ?_
  refine lv_iload_n X.1 X.2.1 dX12_number_11 rfl (lv_at hl 3 rfl) ?_
  rcases oe_some hf with ⟨k, hc, hf⟩ | ⟨v2, hc, hf⟩
  · cases hf
    exact g_pass S hne hlk (runVX (As := [.int a1, .int a2, .int a3]) (rest := []) X S coX12_171 (by decide) (cX12_needSound_x l hlt hc) (tkX12_needSound hc) rfl hl.1 (by decide) rfl hR1 dX12_number_12)
  refine g_cv S (runV (As := [.int a1, .int a2, .int a3]) (rest := []) X S coX12_171 (by decide) (cX12_needSound_m l hc) (tkX12_needSound hc) rfl hl.1 (by decide) rfl ⟨Nat.zero_le _, Nat.zero_le _⟩ dX12_number_12) (fun H locs S => ?_)
  refine lv_iload_n X.1 X.2.1 dX12_number_15 rfl (lv_at hl 3 rfl) ?_
  refine lv_if_eq (tgt := 38) X.1 X.2.1 dX12_number_16 (by decide) (fun c3 => ?_) (fun c3 => ?_)
  · replace hf := (if_pos c3).symm.trans hf
    refine g_aload_n X (or_rv _) dX12_number_38 rfl (lv_at hl 0 rfl) ?_
    refine g_gR X S foX12_48 dX12_number_39 hf (fun v4 hf => ?_)
    refine g_aload_n X (or_rv _) dX12_number_42 rfl (lv_at hl 0 rfl) ?_
    refine g_gR X S foX12_61 dX12_number_43 hf (fun v5 hf => ?_)
    refine g_gR X S foX12_107 dX12_number_46 hf (fun v6 hf => ?_)
    refine lv_iload_n X.1 X.2.1 dX12_number_49 rfl (lv_at hl 1 rfl) ?_
    refine lv_iload_n X.1 X.2.1 dX12_number_50 rfl (lv_at hl 2 rfl) ?_
    obtain ⟨h, hc, hf⟩ := ob_some hf
    refine g_cv S (runV (As := [rv v6, .int a1, .int a2]) (rest := []) X S coX12_179 (by decide) (cX1_takePacked_m l hc) (tkX1_takePacked hc) rfl hl.1 (by decide) rfl ⟨Nat.zero_le _, Nat.zero_le _⟩ dX12_number_51) (fun H locs S => ?_)
    exact wfX12_number_54_x X hr hlk hnm hne hlt hR1 _ _ _ _ _ (lv_sub hl [0] rfl) S hf
  · replace hf := (if_neg c3).symm.trans hf
    refine g_aload_n X (or_rv _) dX12_number_19 rfl (lv_at hl 0 rfl) ?_
    refine g_gR X S foX12_48 dX12_number_20 hf (fun v8 hf => ?_)
    refine g_aload_n X (or_rv _) dX12_number_23 rfl (lv_at hl 0 rfl) ?_
    refine g_gR X S foX12_61 dX12_number_24 hf (fun v9 hf => ?_)
    refine g_gR X S foX12_107 dX12_number_27 hf (fun v10 hf => ?_)
    refine lv_iload_n X.1 X.2.1 dX12_number_30 rfl (lv_at hl 1 rfl) ?_
    refine lv_iload_n X.1 X.2.1 dX12_number_31 rfl (lv_at hl 2 rfl) ?_
    obtain ⟨h, hc, hf⟩ := ob_some hf
    refine g_cv S (runV (As := [rv v10, .int a1, .int a2]) (rest := []) X S coX12_175 (by decide) (cX1_takeZoned_m l hc) (tkX1_takeZoned hc) rfl hl.1 (by decide) rfl ⟨Nat.zero_le _, Nat.zero_le _⟩ dX12_number_32) (fun H locs S => ?_)
    refine lv_goto (tgt := 54) X.1 X.2.1 dX12_number_35 (by decide) ?_
    exact wfX12_number_54_x X hr hlk hnm hne hlt hR1 _ _ _ _ _ (lv_sub hl [0] rfl) S hf
def fX12_need_9 (h : Hp) : Option ((Nat ⊕ Int32) × Hp) := some (.inl 2, h)
theorem wfX12_need_9 {r9 : Int32} {h9 : Hp} (X : Cx p E A 10 R s m args c cX12_need yX12_need.cls 6) (hr : meth.sig.returnType = (some .int)) (hlk : meth.locks = false) (hnm : meth.name = yX12_need.name) :
    ∀ (h : Hp) (H : Heap) (locs : List Loc) (ls : Array Slot), lv_has ls 6 [] → St E A s h H locs → fX12_need_9 h = some (.inr r9, h9) → W p l e R s m args below meth c H locs 0 0 (MQ below (Qi E A h9 r9) args s 0 0 A) (F0 m 9 ls []) := by
  intro h H locs ls hl S hf
  unfold fX12_need_9 at hf
  cases hf
def fX12_need_132 (k135 : Nat → Hp → Option ((Nat ⊕ Int32) × Hp)) (x0 : Nat) (y0 : Int32) (y1 : Nat) (y2 : Nat) (y3 : Nat) (h : Hp) : Option ((Nat ⊕ Int32) × Hp) := ob (fX1_add y3 y2 y1 y0 h) fun h => k135 x0 h
theorem wfX12_need_132 {k135 : Nat → Hp → Option ((Nat ⊕ Int32) × Hp)} {r9 : Int32} {h9 : Hp} (X : Cx p E A 10 R s m args c cX12_need yX12_need.cls 6) (hr : meth.sig.returnType = (some .int)) (hlk : meth.locks = false) (hnm : meth.name = yX12_need.name) (hk135 : ∀ (x0 : Nat) (h : Hp) (H : Heap) (locs : List Loc) (ls : Array Slot), lv_has ls 6 [(0, rv x0)] → St E A s h H locs → k135 x0 h = some (.inr r9, h9) → W p l e R s m args below meth c H locs 0 0 (MQ below (Qi E A h9 r9) args s 0 0 A) (F0 m 135 ls [])) :
    ∀ (x0 : Nat) (y0 : Int32) (y1 : Nat) (y2 : Nat) (y3 : Nat) (h : Hp) (H : Heap) (locs : List Loc) (ls : Array Slot), lv_has ls 6 [(0, rv x0)] → St E A s h H locs → fX12_need_132 k135 x0 y0 y1 y2 y3 h = some (.inr r9, h9) → W p l e R s m args below meth c H locs 0 0 (MQ below (Qi E A h9 r9) args s 0 0 A) (F0 m 132 ls [.int y0, rv y1, rv y2, rv y3]) := by
  intro x0 y0 y1 y2 y3 h H locs ls hl S hf
  unfold fX12_need_132 at hf
  obtain ⟨h, hc, hf⟩ := ob_some hf
  refine g_cv S (runV (As := [rv y2, rv y1, .int y0]) (rest := []) X S coX12_200 (by decide) (cX1_add_m l hc) (tkX1_add hc) rfl hl.1 (by decide) rfl ⟨Nat.zero_le _, Nat.zero_le _⟩ dX12_need_132) (fun H locs S => ?_)
  exact hk135 _ _ _ _ _ hl S hf
def fX12_need_135 (x0 : Nat) (h : Hp) : Option ((Nat ⊕ Int32) × Hp) := ob (gR 10 x0 9 h) fun v1 => ob (fX1_size v1 h) fun v2 => some (.inr ((v2 / 2) + 1), h)
theorem wfX12_need_135 {r9 : Int32} {h9 : Hp} (X : Cx p E A 10 R s m args c cX12_need yX12_need.cls 6) (hr : meth.sig.returnType = (some .int)) (hlk : meth.locks = false) (hnm : meth.name = yX12_need.name) :
    ∀ (x0 : Nat) (h : Hp) (H : Heap) (locs : List Loc) (ls : Array Slot), lv_has ls 6 [(0, rv x0)] → St E A s h H locs → fX12_need_135 x0 h = some (.inr r9, h9) → W p l e R s m args below meth c H locs 0 0 (MQ below (Qi E A h9 r9) args s 0 0 A) (F0 m 135 ls []) := by
  intro x0 h H locs ls hl S hf
  unfold fX12_need_135 at hf
  refine g_aload_n X (or_rv _) dX12_need_135 rfl (lv_at hl 0 rfl) ?_
  refine g_gR X S foX12_55 dX12_need_136 hf (fun v1 hf => ?_)
  obtain ⟨v2, hc, hf⟩ := ob_some hf
  refine g_ci S (runV (As := []) (rest := []) X S coX12_182 (by decide) (cX1_size_m l hc) (tkX1_size hc) rfl hl.1 (by decide) rfl ⟨Nat.zero_le _, Nat.zero_le _⟩ dX12_need_139) (fun H locs S => ?_)
  refine lv_iconst (v := 2) X.1 X.2.1 dX12_need_142 (by decide) ?_
  refine g_idiv X (by decide) dX12_need_143 ?_
  refine lv_iconst (v := 1) X.1 X.2.1 dX12_need_144 (by decide) ?_
  refine lv_iadd X.1 X.2.1 dX12_need_145 ?_
  cases hf; exact g_ri X S hr hlk dX12_need_146
def fX12_need (a0 : Nat) (a1 : Int32) (a2 : Int32) (a3 : Int32) (a4 : Int32) (a5 : Int32) (h : Hp) : Option ((Nat ⊕ Int32) × Hp) := gd 10 a0 h (if a1 < 0 then fX12_need_9 h else if a1 ≤ 2 then oe (fX12_needField a0 a2 a3 16 h) (fun k => some (.inl k, h)) fun v3 => oe (fX12_needField a0 a4 a5 16 h) (fun k => some (.inl k, h)) fun v4 => oe (fX12_needSound a0 a2 a3 0 h) (fun k => some (.inl k, h)) fun v5 => oe (fX12_needSound a0 a4 a5 0 h) (fun k => some (.inl k, h)) fun v6 => ob (gR 10 a0 7 h) fun v7 => ob (gR 10 a0 10 h) fun v8 => ob (gR 2 v8 0 h) fun v9 => ob (fX1_takePacked v7 v9 a2 a3 h) fun h => ob (gR 10 a0 8 h) fun v11 => ob (gR 10 a0 10 h) fun v12 => ob (gR 2 v12 0 h) fun v13 => ob (fX1_takePacked v11 v13 a4 a5 h) fun h => if a1 = 2 then ob (gR 10 a0 9 h) fun v20 => ob (gR 10 a0 7 h) fun v21 => ob (gR 10 a0 8 h) fun v22 => ob (fX1_multiply v20 v21 v22 h) fun h => fX12_need_135 a0 h else ob (gR 10 a0 9 h) fun v16 => ob (gR 10 a0 7 h) fun v17 => ob (gR 10 a0 8 h) fun v18 => if a1 = 1 then fX12_need_132 fX12_need_135 a0 1 v18 v17 v16 h else fX12_need_132 fX12_need_135 a0 0 v18 v17 v16 h else fX12_need_9 h)
theorem tkX12_need {a0 : Nat} {a1 : Int32} {a2 : Int32} {a3 : Int32} {a4 : Int32} {a5 : Int32} {h : Hp} {r9 : (Nat ⊕ Int32) × Hp} (e : fX12_need a0 a1 a2 a3 a4 a5 h = some r9) : hK h a0 = 10 := by
  unfold fX12_need at e
  exact (gd_some e).1
theorem cX12_need_m (l : Launch) {E : EE} {A : Nat → Prop} {a0 : Nat} {a1 : Int32} {a2 : Int32} {a3 : Int32} {a4 : Int32} {a5 : Int32} {h : Hp} {r9 : Int32} {h9 : Hp} (hf : fX12_need a0 a1 a2 a3 a4 a5 h = some (.inr r9, h9)) : Met l yX12_need (wsM yX12_need cX12_need 6 (some .int)) (rmm 10 0 0) (PcE E A h [rv a0, .int a1, .int a2, .int a3, .int a4, .int a5]) (Qi E A h9 r9) 0 0 A := by
  refine met_of (by decide +kernel) (by simp [lg_sl, cat_rv, cat_wv, cat_sv, cat_i, cat_l, cat_a]) (fun p e s m args below meth c ls X hr hlk hnm S hl => ?_)
  have hl : lv_has ls 6 [(0, rv a0), (1, .int a1), (2, .int a2), (3, .int a3), (4, .int a4), (5, .int a5)] := by simpa [lv_args, cat_rv, cat_wv, cat_sv, cat_i, cat_l, cat_a] using hl
  generalize hH : s.heap = H at S ⊢
  generalize hlo : ([] : List Loc) = locs at S ⊢
  clear hH hlo
  unfold fX12_need at hf
  obtain ⟨hth, hf⟩ := gd_some hf
  refine lv_iload_n X.1 X.2.1 dX12_need_0 rfl (lv_at hl 1 rfl) ?_
  refine lv_if_lt (tgt := 9) X.1 X.2.1 dX12_need_1 (by decide) (fun c1 => ?_) (fun c1 => ?_)
  · replace hf := (if_pos c1).symm.trans hf
    exact wfX12_need_9 X hr hlk hnm _ _ _ _ (lv_sub hl [] rfl) S hf
  · replace hf := (if_neg c1).symm.trans hf
    refine lv_iload_n X.1 X.2.1 dX12_need_4 rfl (lv_at hl 1 rfl) ?_
    refine lv_iconst (v := 2) X.1 X.2.1 dX12_need_5 (by decide) ?_
    refine lv_icmp_le (tgt := 19) X.1 X.2.1 dX12_need_6 (by decide) (fun c2 => ?_) (fun c2 => ?_)
    · replace hf := (if_pos c2).symm.trans hf
      refine g_aload_n X (or_rv _) dX12_need_19 rfl (lv_at hl 0 rfl) ?_
      refine lv_iload_n X.1 X.2.1 dX12_need_20 rfl (lv_at hl 2 rfl) ?_
      refine lv_iload_n X.1 X.2.1 dX12_need_21 rfl (lv_at hl 3 rfl) ?_
      refine lv_bipush (v := 16) X.1 X.2.1 dX12_need_22 (by decide) ?_
      rcases oe_some hf with ⟨k, hc, hf⟩ | ⟨v3, hc, hf⟩
      · cases hf
      refine g_cv S (runV (As := [.int a2, .int a3, .int 16]) (rest := []) X S coX12_161 (by decide) (cX12_needField_m l hc) (tkX12_needField hc) rfl hl.1 (by decide) rfl ⟨Nat.zero_le _, Nat.zero_le _⟩ dX12_need_24) (fun H locs S => ?_)
      refine g_aload_n X (or_rv _) dX12_need_27 rfl (lv_at hl 0 rfl) ?_
      refine lv_iload X.1 X.2.1 dX12_need_28 (lv_at hl 4 rfl) ?_
      refine lv_iload X.1 X.2.1 dX12_need_30 (lv_at hl 5 rfl) ?_
      refine lv_bipush (v := 16) X.1 X.2.1 dX12_need_32 (by decide) ?_
      rcases oe_some hf with ⟨k, hc, hf⟩ | ⟨v4, hc, hf⟩
      · cases hf
      refine g_cv S (runV (As := [.int a4, .int a5, .int 16]) (rest := []) X S coX12_161 (by decide) (cX12_needField_m l hc) (tkX12_needField hc) rfl hl.1 (by decide) rfl ⟨Nat.zero_le _, Nat.zero_le _⟩ dX12_need_34) (fun H locs S => ?_)
      refine g_aload_n X (or_rv _) dX12_need_37 rfl (lv_at hl 0 rfl) ?_
      refine lv_iload_n X.1 X.2.1 dX12_need_38 rfl (lv_at hl 2 rfl) ?_
      refine lv_iload_n X.1 X.2.1 dX12_need_39 rfl (lv_at hl 3 rfl) ?_
      refine lv_iconst (v := 0) X.1 X.2.1 dX12_need_40 (by decide) ?_
      rcases oe_some hf with ⟨k, hc, hf⟩ | ⟨v5, hc, hf⟩
      · cases hf
      refine g_cv S (runV (As := [.int a2, .int a3, .int 0]) (rest := []) X S coX12_171 (by decide) (cX12_needSound_m l hc) (tkX12_needSound hc) rfl hl.1 (by decide) rfl ⟨Nat.zero_le _, Nat.zero_le _⟩ dX12_need_41) (fun H locs S => ?_)
      refine g_aload_n X (or_rv _) dX12_need_44 rfl (lv_at hl 0 rfl) ?_
      refine lv_iload X.1 X.2.1 dX12_need_45 (lv_at hl 4 rfl) ?_
      refine lv_iload X.1 X.2.1 dX12_need_47 (lv_at hl 5 rfl) ?_
      refine lv_iconst (v := 0) X.1 X.2.1 dX12_need_49 (by decide) ?_
      rcases oe_some hf with ⟨k, hc, hf⟩ | ⟨v6, hc, hf⟩
      · cases hf
      refine g_cv S (runV (As := [.int a4, .int a5, .int 0]) (rest := []) X S coX12_171 (by decide) (cX12_needSound_m l hc) (tkX12_needSound hc) rfl hl.1 (by decide) rfl ⟨Nat.zero_le _, Nat.zero_le _⟩ dX12_need_50) (fun H locs S => ?_)
      refine g_aload_n X (or_rv _) dX12_need_53 rfl (lv_at hl 0 rfl) ?_
      refine g_gR X S foX12_48 dX12_need_54 hf (fun v7 hf => ?_)
      refine g_aload_n X (or_rv _) dX12_need_57 rfl (lv_at hl 0 rfl) ?_
      refine g_gR X S foX12_61 dX12_need_58 hf (fun v8 hf => ?_)
      refine g_gR X S foX12_107 dX12_need_61 hf (fun v9 hf => ?_)
      refine lv_iload_n X.1 X.2.1 dX12_need_64 rfl (lv_at hl 2 rfl) ?_
      refine lv_iload_n X.1 X.2.1 dX12_need_65 rfl (lv_at hl 3 rfl) ?_
      obtain ⟨h, hc, hf⟩ := ob_some hf
      refine g_cv S (runV (As := [rv v9, .int a2, .int a3]) (rest := []) X S coX12_179 (by decide) (cX1_takePacked_m l hc) (tkX1_takePacked hc) rfl hl.1 (by decide) rfl ⟨Nat.zero_le _, Nat.zero_le _⟩ dX12_need_66) (fun H locs S => ?_)
      refine g_aload_n X (or_rv _) dX12_need_69 rfl (lv_at hl 0 rfl) ?_
      refine g_gR X S foX12_52 dX12_need_70 hf (fun v11 hf => ?_)
      refine g_aload_n X (or_rv _) dX12_need_73 rfl (lv_at hl 0 rfl) ?_
      refine g_gR X S foX12_61 dX12_need_74 hf (fun v12 hf => ?_)
      refine g_gR X S foX12_107 dX12_need_77 hf (fun v13 hf => ?_)
      refine lv_iload X.1 X.2.1 dX12_need_80 (lv_at hl 4 rfl) ?_
      refine lv_iload X.1 X.2.1 dX12_need_82 (lv_at hl 5 rfl) ?_
      obtain ⟨h, hc, hf⟩ := ob_some hf
      refine g_cv S (runV (As := [rv v13, .int a4, .int a5]) (rest := []) X S coX12_179 (by decide) (cX1_takePacked_m l hc) (tkX1_takePacked hc) rfl hl.1 (by decide) rfl ⟨Nat.zero_le _, Nat.zero_le _⟩ dX12_need_84) (fun H locs S => ?_)
      refine lv_iload_n X.1 X.2.1 dX12_need_87 rfl (lv_at hl 1 rfl) ?_
      refine lv_iconst (v := 2) X.1 X.2.1 dX12_need_88 (by decide) ?_
      refine lv_icmp_ne (tgt := 110) X.1 X.2.1 dX12_need_89 (by decide) (fun c15 => ?_) (fun c15 => ?_)
      · replace hf := (if_neg c15).symm.trans hf
        refine g_aload_n X (or_rv _) dX12_need_110 rfl (lv_at hl 0 rfl) ?_
        refine g_gR X S foX12_55 dX12_need_111 hf (fun v16 hf => ?_)
        refine g_aload_n X (or_rv _) dX12_need_114 rfl (lv_at hl 0 rfl) ?_
        refine g_gR X S foX12_48 dX12_need_115 hf (fun v17 hf => ?_)
        refine g_aload_n X (or_rv _) dX12_need_118 rfl (lv_at hl 0 rfl) ?_
        refine g_gR X S foX12_52 dX12_need_119 hf (fun v18 hf => ?_)
        refine lv_iload_n X.1 X.2.1 dX12_need_122 rfl (lv_at hl 1 rfl) ?_
        refine lv_iconst (v := 1) X.1 X.2.1 dX12_need_123 (by decide) ?_
        refine lv_icmp_ne (tgt := 131) X.1 X.2.1 dX12_need_124 (by decide) (fun c19 => ?_) (fun c19 => ?_)
        · replace hf := (if_neg c19).symm.trans hf
          refine lv_iconst (v := 0) X.1 X.2.1 dX12_need_131 (by decide) ?_
          exact wfX12_need_132 X hr hlk hnm (wfX12_need_135 X hr hlk hnm) _ _ _ _ _ _ _ _ _ (lv_sub hl [0] rfl) S hf
        · replace hf := (if_pos c19).symm.trans hf
          refine lv_iconst (v := 1) X.1 X.2.1 dX12_need_127 (by decide) ?_
          refine lv_goto (tgt := 132) X.1 X.2.1 dX12_need_128 (by decide) ?_
          exact wfX12_need_132 X hr hlk hnm (wfX12_need_135 X hr hlk hnm) _ _ _ _ _ _ _ _ _ (lv_sub hl [0] rfl) S hf
      · replace hf := (if_pos c15).symm.trans hf
        refine g_aload_n X (or_rv _) dX12_need_92 rfl (lv_at hl 0 rfl) ?_
        refine g_gR X S foX12_55 dX12_need_93 hf (fun v20 hf => ?_)
        refine g_aload_n X (or_rv _) dX12_need_96 rfl (lv_at hl 0 rfl) ?_
        refine g_gR X S foX12_48 dX12_need_97 hf (fun v21 hf => ?_)
        refine g_aload_n X (or_rv _) dX12_need_100 rfl (lv_at hl 0 rfl) ?_
        refine g_gR X S foX12_52 dX12_need_101 hf (fun v22 hf => ?_)
        obtain ⟨h, hc, hf⟩ := ob_some hf
        refine g_cv S (runV (As := [rv v21, rv v22]) (rest := []) X S coX12_196 (by decide) (cX1_multiply_m l hc) (tkX1_multiply hc) rfl hl.1 (by decide) rfl ⟨Nat.zero_le _, Nat.zero_le _⟩ dX12_need_104) (fun H locs S => ?_)
        refine lv_goto (tgt := 135) X.1 X.2.1 dX12_need_107 (by decide) ?_
        exact wfX12_need_135 X hr hlk hnm _ _ _ _ _ (lv_sub hl [0] rfl) S hf
    · replace hf := (if_neg c2).symm.trans hf
      exact wfX12_need_9 X hr hlk hnm _ _ _ _ (lv_sub hl [] rfl) S hf
theorem wfX12_need_9_x {k9 : Nat} {h9 : Hp} (X : Cx p E A 10 R s m args c cX12_need yX12_need.cls 6) (hr : meth.sig.returnType = (some .int)) (hlk : meth.locks = false) (hnm : meth.name = yX12_need.name) (hne : ∀ x ∈ c.exceptionTable.toList, False) (hlt : l.stackTraces = false) (hR1 : 0 + 1 ≤ R.cells ∧ 0 + 6 ≤ R.slots) :
    ∀ (h : Hp) (H : Heap) (locs : List Loc) (ls : Array Slot), lv_has ls 6 [] → St E A s h H locs → fX12_need_9 h = some (.inl k9, h9) → W p l e R s m args below meth c H locs 0 0 (vx_MQ below noQ (XX E A h9 k9) args s 1 6 A) (F0 m 9 ls []) := by
  intro h H locs ls hl S hf
  unfold fX12_need_9 at hf
  cases hf
  exact g_throw (rest := []) X S hne hlk hlt hl.1 (by decide) (by decide) tfX12_72_194 dX12_need_9 dX12_need_12 dX12_need_13 dX12_need_15 dX12_need_18 hR1
theorem wfX12_need_132_x {k135 : Nat → Hp → Option ((Nat ⊕ Int32) × Hp)} {k9 : Nat} {h9 : Hp} (X : Cx p E A 10 R s m args c cX12_need yX12_need.cls 6) (hr : meth.sig.returnType = (some .int)) (hlk : meth.locks = false) (hnm : meth.name = yX12_need.name) (hne : ∀ x ∈ c.exceptionTable.toList, False) (hlt : l.stackTraces = false) (hR1 : 0 + 1 ≤ R.cells ∧ 0 + 6 ≤ R.slots) (hk135 : ∀ (x0 : Nat) (h : Hp) (H : Heap) (locs : List Loc) (ls : Array Slot), lv_has ls 6 [(0, rv x0)] → St E A s h H locs → k135 x0 h = some (.inl k9, h9) → W p l e R s m args below meth c H locs 0 0 (vx_MQ below noQ (XX E A h9 k9) args s 1 6 A) (F0 m 135 ls [])) :
    ∀ (x0 : Nat) (y0 : Int32) (y1 : Nat) (y2 : Nat) (y3 : Nat) (h : Hp) (H : Heap) (locs : List Loc) (ls : Array Slot), lv_has ls 6 [(0, rv x0)] → St E A s h H locs → fX12_need_132 k135 x0 y0 y1 y2 y3 h = some (.inl k9, h9) → W p l e R s m args below meth c H locs 0 0 (vx_MQ below noQ (XX E A h9 k9) args s 1 6 A) (F0 m 132 ls [.int y0, rv y1, rv y2, rv y3]) := by
  intro x0 y0 y1 y2 y3 h H locs ls hl S hf
  unfold fX12_need_132 at hf
  obtain ⟨h, hc, hf⟩ := ob_some hf
  refine g_cv S (runV (As := [rv y2, rv y1, .int y0]) (rest := []) X S coX12_200 (by decide) (cX1_add_m l hc) (tkX1_add hc) rfl hl.1 (by decide) rfl ⟨Nat.zero_le _, Nat.zero_le _⟩ dX12_need_132) (fun H locs S => ?_)
  exact hk135 _ _ _ _ _ hl S hf
theorem wfX12_need_135_x {k9 : Nat} {h9 : Hp} (X : Cx p E A 10 R s m args c cX12_need yX12_need.cls 6) (hr : meth.sig.returnType = (some .int)) (hlk : meth.locks = false) (hnm : meth.name = yX12_need.name) (hne : ∀ x ∈ c.exceptionTable.toList, False) (hlt : l.stackTraces = false) (hR1 : 0 + 1 ≤ R.cells ∧ 0 + 6 ≤ R.slots) :
    ∀ (x0 : Nat) (h : Hp) (H : Heap) (locs : List Loc) (ls : Array Slot), lv_has ls 6 [(0, rv x0)] → St E A s h H locs → fX12_need_135 x0 h = some (.inl k9, h9) → W p l e R s m args below meth c H locs 0 0 (vx_MQ below noQ (XX E A h9 k9) args s 1 6 A) (F0 m 135 ls []) := by
  intro x0 h H locs ls hl S hf
  unfold fX12_need_135 at hf
  refine g_aload_n X (or_rv _) dX12_need_135 rfl (lv_at hl 0 rfl) ?_
  refine g_gR X S foX12_55 dX12_need_136 hf (fun v1 hf => ?_)
  obtain ⟨v2, hc, hf⟩ := ob_some hf
  refine g_ci S (runV (As := []) (rest := []) X S coX12_182 (by decide) (cX1_size_m l hc) (tkX1_size hc) rfl hl.1 (by decide) rfl ⟨Nat.zero_le _, Nat.zero_le _⟩ dX12_need_139) (fun H locs S => ?_)
  refine lv_iconst (v := 2) X.1 X.2.1 dX12_need_142 (by decide) ?_
  refine g_idiv X (by decide) dX12_need_143 ?_
  refine lv_iconst (v := 1) X.1 X.2.1 dX12_need_144 (by decide) ?_
  refine lv_iadd X.1 X.2.1 dX12_need_145 ?_
  cases hf
theorem cX12_need_x (l : Launch) (hlt : l.stackTraces = false) {E : EE} {A : Nat → Prop} {a0 : Nat} {a1 : Int32} {a2 : Int32} {a3 : Int32} {a4 : Int32} {a5 : Int32} {h : Hp} {k9 : Nat} {h9 : Hp} (hf : fX12_need a0 a1 a2 a3 a4 a5 h = some (.inl k9, h9)) : vx_Met l yX12_need (wsM yX12_need cX12_need 6 (some .int)) (rmm 10 1 6) (PcE E A h [rv a0, .int a1, .int a2, .int a3, .int a4, .int a5]) noQ (XX E A h9 k9) 1 6 A := by
  refine met_ofX (by decide +kernel) (by simp [lg_sl, cat_rv, cat_wv, cat_sv, cat_i, cat_l, cat_a]) (fun p e s m args below meth c ls X hr hlk hnm hne S hl => ?_)
  have hR1 : 0 + 1 ≤ (rmm 10 1 6).cells ∧ 0 + 6 ≤ (rmm 10 1 6).slots := ⟨Nat.le_refl _, Nat.le_refl _⟩
  have hl : lv_has ls 6 [(0, rv a0), (1, .int a1), (2, .int a2), (3, .int a3), (4, .int a4), (5, .int a5)] := by simpa [lv_args, cat_rv, cat_wv, cat_sv, cat_i, cat_l, cat_a] using hl
  generalize hH : s.heap = H at S ⊢
  generalize hlo : ([] : List Loc) = locs at S ⊢
  clear hH hlo
  unfold fX12_need at hf
  obtain ⟨hth, hf⟩ := gd_some hf
  refine lv_iload_n X.1 X.2.1 dX12_need_0 rfl (lv_at hl 1 rfl) ?_
  refine lv_if_lt (tgt := 9) X.1 X.2.1 dX12_need_1 (by decide) (fun c1 => ?_) (fun c1 => ?_)
  · replace hf := (if_pos c1).symm.trans hf
    exact wfX12_need_9_x X hr hlk hnm hne hlt hR1 _ _ _ _ (lv_sub hl [] rfl) S hf
  · replace hf := (if_neg c1).symm.trans hf
    refine lv_iload_n X.1 X.2.1 dX12_need_4 rfl (lv_at hl 1 rfl) ?_
    refine lv_iconst (v := 2) X.1 X.2.1 dX12_need_5 (by decide) ?_
    refine lv_icmp_le (tgt := 19) X.1 X.2.1 dX12_need_6 (by decide) (fun c2 => ?_) (fun c2 => ?_)
    · replace hf := (if_pos c2).symm.trans hf
      refine g_aload_n X (or_rv _) dX12_need_19 rfl (lv_at hl 0 rfl) ?_
      refine lv_iload_n X.1 X.2.1 dX12_need_20 rfl (lv_at hl 2 rfl) ?_
      refine lv_iload_n X.1 X.2.1 dX12_need_21 rfl (lv_at hl 3 rfl) ?_
      refine lv_bipush (v := 16) X.1 X.2.1 dX12_need_22 (by decide) ?_
      rcases oe_some hf with ⟨k, hc, hf⟩ | ⟨v3, hc, hf⟩
      · cases hf
        exact g_pass S hne hlk (runVX (As := [.int a2, .int a3, .int 16]) (rest := []) X S coX12_161 (by decide) (cX12_needField_x l hlt hc) (tkX12_needField hc) rfl hl.1 (by decide) rfl hR1 dX12_need_24)
      refine g_cv S (runV (As := [.int a2, .int a3, .int 16]) (rest := []) X S coX12_161 (by decide) (cX12_needField_m l hc) (tkX12_needField hc) rfl hl.1 (by decide) rfl ⟨Nat.zero_le _, Nat.zero_le _⟩ dX12_need_24) (fun H locs S => ?_)
      refine g_aload_n X (or_rv _) dX12_need_27 rfl (lv_at hl 0 rfl) ?_
      refine lv_iload X.1 X.2.1 dX12_need_28 (lv_at hl 4 rfl) ?_
      refine lv_iload X.1 X.2.1 dX12_need_30 (lv_at hl 5 rfl) ?_
      refine lv_bipush (v := 16) X.1 X.2.1 dX12_need_32 (by decide) ?_
      rcases oe_some hf with ⟨k, hc, hf⟩ | ⟨v4, hc, hf⟩
      · cases hf
        exact g_pass S hne hlk (runVX (As := [.int a4, .int a5, .int 16]) (rest := []) X S coX12_161 (by decide) (cX12_needField_x l hlt hc) (tkX12_needField hc) rfl hl.1 (by decide) rfl hR1 dX12_need_34)
      refine g_cv S (runV (As := [.int a4, .int a5, .int 16]) (rest := []) X S coX12_161 (by decide) (cX12_needField_m l hc) (tkX12_needField hc) rfl hl.1 (by decide) rfl ⟨Nat.zero_le _, Nat.zero_le _⟩ dX12_need_34) (fun H locs S => ?_)
      refine g_aload_n X (or_rv _) dX12_need_37 rfl (lv_at hl 0 rfl) ?_
      refine lv_iload_n X.1 X.2.1 dX12_need_38 rfl (lv_at hl 2 rfl) ?_
      refine lv_iload_n X.1 X.2.1 dX12_need_39 rfl (lv_at hl 3 rfl) ?_
      refine lv_iconst (v := 0) X.1 X.2.1 dX12_need_40 (by decide) ?_
      rcases oe_some hf with ⟨k, hc, hf⟩ | ⟨v5, hc, hf⟩
      · cases hf
        exact g_pass S hne hlk (runVX (As := [.int a2, .int a3, .int 0]) (rest := []) X S coX12_171 (by decide) (cX12_needSound_x l hlt hc) (tkX12_needSound hc) rfl hl.1 (by decide) rfl hR1 dX12_need_41)
      refine g_cv S (runV (As := [.int a2, .int a3, .int 0]) (rest := []) X S coX12_171 (by decide) (cX12_needSound_m l hc) (tkX12_needSound hc) rfl hl.1 (by decide) rfl ⟨Nat.zero_le _, Nat.zero_le _⟩ dX12_need_41) (fun H locs S => ?_)
      refine g_aload_n X (or_rv _) dX12_need_44 rfl (lv_at hl 0 rfl) ?_
      refine lv_iload X.1 X.2.1 dX12_need_45 (lv_at hl 4 rfl) ?_
      refine lv_iload X.1 X.2.1 dX12_need_47 (lv_at hl 5 rfl) ?_
      refine lv_iconst (v := 0) X.1 X.2.1 dX12_need_49 (by decide) ?_
      rcases oe_some hf with ⟨k, hc, hf⟩ | ⟨v6, hc, hf⟩
      · cases hf
        exact g_pass S hne hlk (runVX (As := [.int a4, .int a5, .int 0]) (rest := []) X S coX12_171 (by decide) (cX12_needSound_x l hlt hc) (tkX12_needSound hc) rfl hl.1 (by decide) rfl hR1 dX12_need_50)
      refine g_cv S (runV (As := [.int a4, .int a5, .int 0]) (rest := []) X S coX12_171 (by decide) (cX12_needSound_m l hc) (tkX12_needSound hc) rfl hl.1 (by decide) rfl ⟨Nat.zero_le _, Nat.zero_le _⟩ dX12_need_50) (fun H locs S => ?_)
      refine g_aload_n X (or_rv _) dX12_need_53 rfl (lv_at hl 0 rfl) ?_
      refine g_gR X S foX12_48 dX12_need_54 hf (fun v7 hf => ?_)
      refine g_aload_n X (or_rv _) dX12_need_57 rfl (lv_at hl 0 rfl) ?_
      refine g_gR X S foX12_61 dX12_need_58 hf (fun v8 hf => ?_)
      refine g_gR X S foX12_107 dX12_need_61 hf (fun v9 hf => ?_)
      refine lv_iload_n X.1 X.2.1 dX12_need_64 rfl (lv_at hl 2 rfl) ?_
      refine lv_iload_n X.1 X.2.1 dX12_need_65 rfl (lv_at hl 3 rfl) ?_
      obtain ⟨h, hc, hf⟩ := ob_some hf
      refine g_cv S (runV (As := [rv v9, .int a2, .int a3]) (rest := []) X S coX12_179 (by decide) (cX1_takePacked_m l hc) (tkX1_takePacked hc) rfl hl.1 (by decide) rfl ⟨Nat.zero_le _, Nat.zero_le _⟩ dX12_need_66) (fun H locs S => ?_)
      refine g_aload_n X (or_rv _) dX12_need_69 rfl (lv_at hl 0 rfl) ?_
      refine g_gR X S foX12_52 dX12_need_70 hf (fun v11 hf => ?_)
      refine g_aload_n X (or_rv _) dX12_need_73 rfl (lv_at hl 0 rfl) ?_
      refine g_gR X S foX12_61 dX12_need_74 hf (fun v12 hf => ?_)
      refine g_gR X S foX12_107 dX12_need_77 hf (fun v13 hf => ?_)
      refine lv_iload X.1 X.2.1 dX12_need_80 (lv_at hl 4 rfl) ?_
      refine lv_iload X.1 X.2.1 dX12_need_82 (lv_at hl 5 rfl) ?_
      obtain ⟨h, hc, hf⟩ := ob_some hf
      refine g_cv S (runV (As := [rv v13, .int a4, .int a5]) (rest := []) X S coX12_179 (by decide) (cX1_takePacked_m l hc) (tkX1_takePacked hc) rfl hl.1 (by decide) rfl ⟨Nat.zero_le _, Nat.zero_le _⟩ dX12_need_84) (fun H locs S => ?_)
      refine lv_iload_n X.1 X.2.1 dX12_need_87 rfl (lv_at hl 1 rfl) ?_
      refine lv_iconst (v := 2) X.1 X.2.1 dX12_need_88 (by decide) ?_
      refine lv_icmp_ne (tgt := 110) X.1 X.2.1 dX12_need_89 (by decide) (fun c15 => ?_) (fun c15 => ?_)
      · replace hf := (if_neg c15).symm.trans hf
        refine g_aload_n X (or_rv _) dX12_need_110 rfl (lv_at hl 0 rfl) ?_
        refine g_gR X S foX12_55 dX12_need_111 hf (fun v16 hf => ?_)
        refine g_aload_n X (or_rv _) dX12_need_114 rfl (lv_at hl 0 rfl) ?_
        refine g_gR X S foX12_48 dX12_need_115 hf (fun v17 hf => ?_)
        refine g_aload_n X (or_rv _) dX12_need_118 rfl (lv_at hl 0 rfl) ?_
        refine g_gR X S foX12_52 dX12_need_119 hf (fun v18 hf => ?_)
        refine lv_iload_n X.1 X.2.1 dX12_need_122 rfl (lv_at hl 1 rfl) ?_
        refine lv_iconst (v := 1) X.1 X.2.1 dX12_need_123 (by decide) ?_
        refine lv_icmp_ne (tgt := 131) X.1 X.2.1 dX12_need_124 (by decide) (fun c19 => ?_) (fun c19 => ?_)
        · replace hf := (if_neg c19).symm.trans hf
          refine lv_iconst (v := 0) X.1 X.2.1 dX12_need_131 (by decide) ?_
          exact wfX12_need_132_x X hr hlk hnm hne hlt hR1 (wfX12_need_135_x X hr hlk hnm hne hlt hR1) _ _ _ _ _ _ _ _ _ (lv_sub hl [0] rfl) S hf
        · replace hf := (if_pos c19).symm.trans hf
          refine lv_iconst (v := 1) X.1 X.2.1 dX12_need_127 (by decide) ?_
          refine lv_goto (tgt := 132) X.1 X.2.1 dX12_need_128 (by decide) ?_
          exact wfX12_need_132_x X hr hlk hnm hne hlt hR1 (wfX12_need_135_x X hr hlk hnm hne hlt hR1) _ _ _ _ _ _ _ _ _ (lv_sub hl [0] rfl) S hf
      · replace hf := (if_pos c15).symm.trans hf
        refine g_aload_n X (or_rv _) dX12_need_92 rfl (lv_at hl 0 rfl) ?_
        refine g_gR X S foX12_55 dX12_need_93 hf (fun v20 hf => ?_)
        refine g_aload_n X (or_rv _) dX12_need_96 rfl (lv_at hl 0 rfl) ?_
        refine g_gR X S foX12_48 dX12_need_97 hf (fun v21 hf => ?_)
        refine g_aload_n X (or_rv _) dX12_need_100 rfl (lv_at hl 0 rfl) ?_
        refine g_gR X S foX12_52 dX12_need_101 hf (fun v22 hf => ?_)
        obtain ⟨h, hc, hf⟩ := ob_some hf
        refine g_cv S (runV (As := [rv v21, rv v22]) (rest := []) X S coX12_196 (by decide) (cX1_multiply_m l hc) (tkX1_multiply hc) rfl hl.1 (by decide) rfl ⟨Nat.zero_le _, Nat.zero_le _⟩ dX12_need_104) (fun H locs S => ?_)
        refine lv_goto (tgt := 135) X.1 X.2.1 dX12_need_107 (by decide) ?_
        exact wfX12_need_135_x X hr hlk hnm hne hlt hR1 _ _ _ _ _ (lv_sub hl [0] rfl) S hf
    · replace hf := (if_neg c2).symm.trans hf
      exact wfX12_need_9_x X hr hlk hnm hne hlt hR1 _ _ _ _ (lv_sub hl [] rfl) S hf
def fX12_rounds_11 (h : Hp) : Option ((Nat ⊕ Int32) × Hp) := some (.inl 2, h)
theorem wfX12_rounds_11 {r9 : Int32} {h9 : Hp} (X : Cx p E A 10 R s m args c cX12_rounds yX12_rounds.cls 6) (hr : meth.sig.returnType = (some .int)) (hlk : meth.locks = false) (hnm : meth.name = yX12_rounds.name) :
    ∀ (h : Hp) (H : Heap) (locs : List Loc) (ls : Array Slot), lv_has ls 6 [] → St E A s h H locs → fX12_rounds_11 h = some (.inr r9, h9) → W p l e R s m args below meth c H locs 0 0 (MQ below (Qi E A h9 r9) args s 0 0 A) (F0 m 11 ls []) := by
  intro h H locs ls hl S hf
  unfold fX12_rounds_11 at hf
  cases hf
def fX12_rounds_58 (k58 : Nat → Int32 → Int32 → Int32 → Hp → Option ((Nat ⊕ Int32) × Hp)) (x0 : Nat) (x3 : Int32) (x4 : Int32) (x5 : Int32) (h : Hp) : Option ((Nat ⊕ Int32) × Hp) := if 9 < x5 then some (.inr x4, h) else ob (gR 10 x0 7 h) fun v2 => ob (fX1_digit v2 (x3 - 1) h) fun v3 => if (v3 + x5) ≤ 9 then lt (x5 + 1) fun z5 => k58 x0 x3 x4 z5 h else lt (x4 ||| ((1 : Int32) <<< (x5 &&& 31))) fun z6 => lt (x5 + 1) fun z7 => k58 x0 x3 z6 z7 h
theorem wfX12_rounds_58 {k58 : Nat → Int32 → Int32 → Int32 → Hp → Option ((Nat ⊕ Int32) × Hp)} {r9 : Int32} {h9 : Hp} (X : Cx p E A 10 R s m args c cX12_rounds yX12_rounds.cls 6) (hr : meth.sig.returnType = (some .int)) (hlk : meth.locks = false) (hnm : meth.name = yX12_rounds.name) (hk58 : ∀ (x0 : Nat) (x3 : Int32) (x4 : Int32) (x5 : Int32) (h : Hp) (H : Heap) (locs : List Loc) (ls : Array Slot), lv_has ls 6 [(0, rv x0), (3, .int x3), (4, .int x4), (5, .int x5)] → St E A s h H locs → k58 x0 x3 x4 x5 h = some (.inr r9, h9) → W p l e R s m args below meth c H locs 0 0 (MQ below (Qi E A h9 r9) args s 0 0 A) (F0 m 58 ls [])) :
    ∀ (x0 : Nat) (x3 : Int32) (x4 : Int32) (x5 : Int32) (h : Hp) (H : Heap) (locs : List Loc) (ls : Array Slot), lv_has ls 6 [(0, rv x0), (3, .int x3), (4, .int x4), (5, .int x5)] → St E A s h H locs → fX12_rounds_58 k58 x0 x3 x4 x5 h = some (.inr r9, h9) → W p l e R s m args below meth c H locs 0 0 (MQ below (Qi E A h9 r9) args s 0 0 A) (F0 m 58 ls []) := by
  intro x0 x3 x4 x5 h H locs ls hl S hf
  unfold fX12_rounds_58 at hf
  refine lv_iload X.1 X.2.1 dX12_rounds_58 (lv_at hl 3 rfl) ?_
  refine lv_bipush (v := 9) X.1 X.2.1 dX12_rounds_60 (by decide) ?_
  refine lv_icmp_gt (tgt := 98) X.1 X.2.1 dX12_rounds_62 (by decide) (fun c1 => ?_) (fun c1 => ?_)
  · replace hf := (if_pos c1).symm.trans hf
    refine lv_iload X.1 X.2.1 dX12_rounds_98 (lv_at hl 2 rfl) ?_
    cases hf; exact g_ri X S hr hlk dX12_rounds_100
  · replace hf := (if_neg c1).symm.trans hf
    refine g_aload_n X (or_rv _) dX12_rounds_65 rfl (lv_at hl 0 rfl) ?_
    refine g_gR X S foX12_48 dX12_rounds_66 hf (fun v2 hf => ?_)
    refine lv_iload_n X.1 X.2.1 dX12_rounds_69 rfl (lv_at hl 1 rfl) ?_
    refine lv_iconst (v := 1) X.1 X.2.1 dX12_rounds_70 (by decide) ?_
    refine lv_isub X.1 X.2.1 dX12_rounds_71 ?_
    obtain ⟨v3, hc, hf⟩ := ob_some hf
    refine g_ci S (runV (As := [.int (x3 - 1)]) (rest := []) X S coX12_206 (by decide) (cX1_digit_m l hc) (tkX1_digit hc) rfl hl.1 (by decide) rfl ⟨Nat.zero_le _, Nat.zero_le _⟩ dX12_rounds_72) (fun H locs S => ?_)
    refine lv_iload X.1 X.2.1 dX12_rounds_75 (lv_at hl 3 rfl) ?_
    refine lv_iadd X.1 X.2.1 dX12_rounds_77 ?_
    refine lv_bipush (v := 9) X.1 X.2.1 dX12_rounds_78 (by decide) ?_
    refine lv_icmp_le (tgt := 92) X.1 X.2.1 dX12_rounds_80 (by decide) (fun c4 => ?_) (fun c4 => ?_)
    · replace hf := (if_pos c4).symm.trans hf
      obtain ⟨z5, ez5, hf⟩ := lt_some hf
      refine lv_iinc (v := z5) (lv' := [(5, .int z5), (0, rv x0), (3, .int x3), (4, .int x4)]) X.1 X.2.1 dX12_rounds_92 hl (k := 3) rfl (by rw [← ez5]; rfl) (by decide) rfl (fun ls hl => ?_)
      refine lv_goto (tgt := 58) X.1 X.2.1 dX12_rounds_95 (by decide) ?_
      exact hk58 _ _ _ _ _ _ _ _ (lv_sub hl [1, 2, 3, 0] rfl) S hf
    · replace hf := (if_neg c4).symm.trans hf
      refine lv_iload X.1 X.2.1 dX12_rounds_83 (lv_at hl 2 rfl) ?_
      refine lv_iconst (v := 1) X.1 X.2.1 dX12_rounds_85 (by decide) ?_
      refine lv_iload X.1 X.2.1 dX12_rounds_86 (lv_at hl 3 rfl) ?_
      refine lv_ishl X.1 X.2.1 dX12_rounds_88 ?_
      refine lv_ior X.1 X.2.1 dX12_rounds_89 ?_
      refine g_lti hf (fun z6 hf => ?_)
      refine lv_istore (lv' := [(4, .int z6), (0, rv x0), (3, .int x3), (5, .int x5)]) X.1 X.2.1 dX12_rounds_90 hl (by decide) rfl (fun ls hl => ?_)
      obtain ⟨z7, ez7, hf⟩ := lt_some hf
      refine lv_iinc (v := z7) (lv' := [(5, .int z7), (4, .int z6), (0, rv x0), (3, .int x3)]) X.1 X.2.1 dX12_rounds_92 hl (k := 3) rfl (by rw [← ez7]; rfl) (by decide) rfl (fun ls hl => ?_)
      refine lv_goto (tgt := 58) X.1 X.2.1 dX12_rounds_95 (by decide) ?_
      exact hk58 _ _ _ _ _ _ _ _ (lv_sub hl [2, 3, 1, 0] rfl) S hf
theorem wfX12_rounds_58_l {r9 : Int32} {h9 : Hp} (X : Cx p E A 10 R s m args c cX12_rounds yX12_rounds.cls 6) (hr : meth.sig.returnType = (some .int)) (hlk : meth.locks = false) (hnm : meth.name = yX12_rounds.name) :
    ∀ (n : Nat) (x0 : Nat) (x3 : Int32) (x4 : Int32) (x5 : Int32) (h : Hp) (H : Heap) (locs : List Loc) (ls : Array Slot), lv_has ls 6 [(0, rv x0), (3, .int x3), (4, .int x4), (5, .int x5)] → St E A s h H locs → lp (fun _ _ _ _ _ => none) (fX12_rounds_58) n x0 x3 x4 x5 h = some (.inr r9, h9) → W p l e R s m args below meth c H locs 0 0 (MQ below (Qi E A h9 r9) args s 0 0 A) (F0 m 58 ls []) := by
  intro n
  induction n with
  | zero =>
    intro x0 x3 x4 x5 h H locs ls hl S hf
    exact nomatch hf
  | succ n ih =>
    intro x0 x3 x4 x5 h H locs ls hl S hf
    exact wfX12_rounds_58 X hr hlk hnm ih x0 x3 x4 x5 h H locs ls hl S hf
def fX12_rounds (a0 : Nat) (a1 : Int32) (a2 : Int32) (a3 : Int32) (h : Hp) : Option ((Nat ⊕ Int32) × Hp) := gd 10 a0 h (if a3 < 1 then fX12_rounds_11 h else if a3 ≤ 32 then oe (fX12_needField a0 a1 a2 16 h) (fun k => some (.inl k, h)) fun v3 => oe (fX12_needSound a0 a1 a2 0 h) (fun k => some (.inl k, h)) fun v4 => ob (gR 10 a0 7 h) fun v5 => ob (gR 10 a0 10 h) fun v6 => ob (gR 2 v6 0 h) fun v7 => ob (fX1_takePacked v5 v7 a1 a2 h) fun h => lp (fun _ _ _ _ _ => none) (fX12_rounds_58) FU a0 a3 0 0 h else fX12_rounds_11 h)
theorem tkX12_rounds {a0 : Nat} {a1 : Int32} {a2 : Int32} {a3 : Int32} {h : Hp} {r9 : (Nat ⊕ Int32) × Hp} (e : fX12_rounds a0 a1 a2 a3 h = some r9) : hK h a0 = 10 := by
  unfold fX12_rounds at e
  exact (gd_some e).1
theorem cX12_rounds_m (l : Launch) {E : EE} {A : Nat → Prop} {a0 : Nat} {a1 : Int32} {a2 : Int32} {a3 : Int32} {h : Hp} {r9 : Int32} {h9 : Hp} (hf : fX12_rounds a0 a1 a2 a3 h = some (.inr r9, h9)) : Met l yX12_rounds (wsM yX12_rounds cX12_rounds 6 (some .int)) (rmm 10 0 0) (PcE E A h [rv a0, .int a1, .int a2, .int a3]) (Qi E A h9 r9) 0 0 A := by
  refine met_of (by decide +kernel) (by simp [lg_sl, cat_rv, cat_wv, cat_sv, cat_i, cat_l, cat_a]) (fun p e s m args below meth c ls X hr hlk hnm S hl => ?_)
  have hl : lv_has ls 6 [(0, rv a0), (1, .int a1), (2, .int a2), (3, .int a3)] := by simpa [lv_args, cat_rv, cat_wv, cat_sv, cat_i, cat_l, cat_a] using hl
  generalize hH : s.heap = H at S ⊢
  generalize hlo : ([] : List Loc) = locs at S ⊢
  clear hH hlo
  unfold fX12_rounds at hf
  obtain ⟨hth, hf⟩ := gd_some hf
  refine lv_iload_n X.1 X.2.1 dX12_rounds_0 rfl (lv_at hl 3 rfl) ?_
  refine lv_iconst (v := 1) X.1 X.2.1 dX12_rounds_1 (by decide) ?_
  refine lv_icmp_lt (tgt := 11) X.1 X.2.1 dX12_rounds_2 (by decide) (fun c1 => ?_) (fun c1 => ?_)
  · replace hf := (if_pos c1).symm.trans hf
    exact wfX12_rounds_11 X hr hlk hnm _ _ _ _ (lv_sub hl [] rfl) S hf
  · replace hf := (if_neg c1).symm.trans hf
    refine lv_iload_n X.1 X.2.1 dX12_rounds_5 rfl (lv_at hl 3 rfl) ?_
    refine lv_bipush (v := 32) X.1 X.2.1 dX12_rounds_6 (by decide) ?_
    refine lv_icmp_le (tgt := 21) X.1 X.2.1 dX12_rounds_8 (by decide) (fun c2 => ?_) (fun c2 => ?_)
    · replace hf := (if_pos c2).symm.trans hf
      refine g_aload_n X (or_rv _) dX12_rounds_21 rfl (lv_at hl 0 rfl) ?_
      refine lv_iload_n X.1 X.2.1 dX12_rounds_22 rfl (lv_at hl 1 rfl) ?_
      refine lv_iload_n X.1 X.2.1 dX12_rounds_23 rfl (lv_at hl 2 rfl) ?_
      refine lv_bipush (v := 16) X.1 X.2.1 dX12_rounds_24 (by decide) ?_
      rcases oe_some hf with ⟨k, hc, hf⟩ | ⟨v3, hc, hf⟩
      · cases hf
      refine g_cv S (runV (As := [.int a1, .int a2, .int 16]) (rest := []) X S coX12_161 (by decide) (cX12_needField_m l hc) (tkX12_needField hc) rfl hl.1 (by decide) rfl ⟨Nat.zero_le _, Nat.zero_le _⟩ dX12_rounds_26) (fun H locs S => ?_)
      refine g_aload_n X (or_rv _) dX12_rounds_29 rfl (lv_at hl 0 rfl) ?_
      refine lv_iload_n X.1 X.2.1 dX12_rounds_30 rfl (lv_at hl 1 rfl) ?_
      refine lv_iload_n X.1 X.2.1 dX12_rounds_31 rfl (lv_at hl 2 rfl) ?_
      refine lv_iconst (v := 0) X.1 X.2.1 dX12_rounds_32 (by decide) ?_
      rcases oe_some hf with ⟨k, hc, hf⟩ | ⟨v4, hc, hf⟩
      · cases hf
      refine g_cv S (runV (As := [.int a1, .int a2, .int 0]) (rest := []) X S coX12_171 (by decide) (cX12_needSound_m l hc) (tkX12_needSound hc) rfl hl.1 (by decide) rfl ⟨Nat.zero_le _, Nat.zero_le _⟩ dX12_rounds_33) (fun H locs S => ?_)
      refine g_aload_n X (or_rv _) dX12_rounds_36 rfl (lv_at hl 0 rfl) ?_
      refine g_gR X S foX12_48 dX12_rounds_37 hf (fun v5 hf => ?_)
      refine g_aload_n X (or_rv _) dX12_rounds_40 rfl (lv_at hl 0 rfl) ?_
      refine g_gR X S foX12_61 dX12_rounds_41 hf (fun v6 hf => ?_)
      refine g_gR X S foX12_107 dX12_rounds_44 hf (fun v7 hf => ?_)
      refine lv_iload_n X.1 X.2.1 dX12_rounds_47 rfl (lv_at hl 1 rfl) ?_
      refine lv_iload_n X.1 X.2.1 dX12_rounds_48 rfl (lv_at hl 2 rfl) ?_
      obtain ⟨h, hc, hf⟩ := ob_some hf
      refine g_cv S (runV (As := [rv v7, .int a1, .int a2]) (rest := []) X S coX12_179 (by decide) (cX1_takePacked_m l hc) (tkX1_takePacked hc) rfl hl.1 (by decide) rfl ⟨Nat.zero_le _, Nat.zero_le _⟩ dX12_rounds_49) (fun H locs S => ?_)
      refine lv_iconst (v := 0) X.1 X.2.1 dX12_rounds_52 (by decide) ?_
      refine lv_istore (lv' := [(4, .int 0), (0, rv a0), (1, .int a1), (2, .int a2), (3, .int a3)]) X.1 X.2.1 dX12_rounds_53 hl (by decide) rfl (fun ls hl => ?_)
      refine lv_iconst (v := 0) X.1 X.2.1 dX12_rounds_55 (by decide) ?_
      refine lv_istore (lv' := [(5, .int 0), (4, .int 0), (0, rv a0), (1, .int a1), (2, .int a2), (3, .int a3)]) X.1 X.2.1 dX12_rounds_56 hl (by decide) rfl (fun ls hl => ?_)
      exact wfX12_rounds_58_l X hr hlk hnm FU _ _ _ _ _ _ _ _ (lv_sub hl [2, 5, 1, 0] rfl) S hf
    · replace hf := (if_neg c2).symm.trans hf
      exact wfX12_rounds_11 X hr hlk hnm _ _ _ _ (lv_sub hl [] rfl) S hf
theorem wfX12_rounds_11_x {k9 : Nat} {h9 : Hp} (X : Cx p E A 10 R s m args c cX12_rounds yX12_rounds.cls 6) (hr : meth.sig.returnType = (some .int)) (hlk : meth.locks = false) (hnm : meth.name = yX12_rounds.name) (hne : ∀ x ∈ c.exceptionTable.toList, False) (hlt : l.stackTraces = false) (hR1 : 0 + 1 ≤ R.cells ∧ 0 + 6 ≤ R.slots) :
    ∀ (h : Hp) (H : Heap) (locs : List Loc) (ls : Array Slot), lv_has ls 6 [] → St E A s h H locs → fX12_rounds_11 h = some (.inl k9, h9) → W p l e R s m args below meth c H locs 0 0 (vx_MQ below noQ (XX E A h9 k9) args s 1 6 A) (F0 m 11 ls []) := by
  intro h H locs ls hl S hf
  unfold fX12_rounds_11 at hf
  cases hf
  exact g_throw (rest := []) X S hne hlk hlt hl.1 (by decide) (by decide) tfX12_72_204 dX12_rounds_11 dX12_rounds_14 dX12_rounds_15 dX12_rounds_17 dX12_rounds_20 hR1
theorem wfX12_rounds_58_x {k58 : Nat → Int32 → Int32 → Int32 → Hp → Option ((Nat ⊕ Int32) × Hp)} {k9 : Nat} {h9 : Hp} (X : Cx p E A 10 R s m args c cX12_rounds yX12_rounds.cls 6) (hr : meth.sig.returnType = (some .int)) (hlk : meth.locks = false) (hnm : meth.name = yX12_rounds.name) (hne : ∀ x ∈ c.exceptionTable.toList, False) (hlt : l.stackTraces = false) (hR1 : 0 + 1 ≤ R.cells ∧ 0 + 6 ≤ R.slots) (hk58 : ∀ (x0 : Nat) (x3 : Int32) (x4 : Int32) (x5 : Int32) (h : Hp) (H : Heap) (locs : List Loc) (ls : Array Slot), lv_has ls 6 [(0, rv x0), (3, .int x3), (4, .int x4), (5, .int x5)] → St E A s h H locs → k58 x0 x3 x4 x5 h = some (.inl k9, h9) → W p l e R s m args below meth c H locs 0 0 (vx_MQ below noQ (XX E A h9 k9) args s 1 6 A) (F0 m 58 ls [])) :
    ∀ (x0 : Nat) (x3 : Int32) (x4 : Int32) (x5 : Int32) (h : Hp) (H : Heap) (locs : List Loc) (ls : Array Slot), lv_has ls 6 [(0, rv x0), (3, .int x3), (4, .int x4), (5, .int x5)] → St E A s h H locs → fX12_rounds_58 k58 x0 x3 x4 x5 h = some (.inl k9, h9) → W p l e R s m args below meth c H locs 0 0 (vx_MQ below noQ (XX E A h9 k9) args s 1 6 A) (F0 m 58 ls []) := by
  intro x0 x3 x4 x5 h H locs ls hl S hf
  unfold fX12_rounds_58 at hf
  refine lv_iload X.1 X.2.1 dX12_rounds_58 (lv_at hl 3 rfl) ?_
  refine lv_bipush (v := 9) X.1 X.2.1 dX12_rounds_60 (by decide) ?_
  refine lv_icmp_gt (tgt := 98) X.1 X.2.1 dX12_rounds_62 (by decide) (fun c1 => ?_) (fun c1 => ?_)
  · replace hf := (if_pos c1).symm.trans hf
    refine lv_iload X.1 X.2.1 dX12_rounds_98 (lv_at hl 2 rfl) ?_
    cases hf
  · replace hf := (if_neg c1).symm.trans hf
    refine g_aload_n X (or_rv _) dX12_rounds_65 rfl (lv_at hl 0 rfl) ?_
    refine g_gR X S foX12_48 dX12_rounds_66 hf (fun v2 hf => ?_)
    refine lv_iload_n X.1 X.2.1 dX12_rounds_69 rfl (lv_at hl 1 rfl) ?_
    refine lv_iconst (v := 1) X.1 X.2.1 dX12_rounds_70 (by decide) ?_
    refine lv_isub X.1 X.2.1 dX12_rounds_71 ?_
    obtain ⟨v3, hc, hf⟩ := ob_some hf
    refine g_ci S (runV (As := [.int (x3 - 1)]) (rest := []) X S coX12_206 (by decide) (cX1_digit_m l hc) (tkX1_digit hc) rfl hl.1 (by decide) rfl ⟨Nat.zero_le _, Nat.zero_le _⟩ dX12_rounds_72) (fun H locs S => ?_)
    refine lv_iload X.1 X.2.1 dX12_rounds_75 (lv_at hl 3 rfl) ?_
    refine lv_iadd X.1 X.2.1 dX12_rounds_77 ?_
    refine lv_bipush (v := 9) X.1 X.2.1 dX12_rounds_78 (by decide) ?_
    refine lv_icmp_le (tgt := 92) X.1 X.2.1 dX12_rounds_80 (by decide) (fun c4 => ?_) (fun c4 => ?_)
    · replace hf := (if_pos c4).symm.trans hf
      obtain ⟨z5, ez5, hf⟩ := lt_some hf
      refine lv_iinc (v := z5) (lv' := [(5, .int z5), (0, rv x0), (3, .int x3), (4, .int x4)]) X.1 X.2.1 dX12_rounds_92 hl (k := 3) rfl (by rw [← ez5]; rfl) (by decide) rfl (fun ls hl => ?_)
      refine lv_goto (tgt := 58) X.1 X.2.1 dX12_rounds_95 (by decide) ?_
      exact hk58 _ _ _ _ _ _ _ _ (lv_sub hl [1, 2, 3, 0] rfl) S hf
    · replace hf := (if_neg c4).symm.trans hf
      refine lv_iload X.1 X.2.1 dX12_rounds_83 (lv_at hl 2 rfl) ?_
      refine lv_iconst (v := 1) X.1 X.2.1 dX12_rounds_85 (by decide) ?_
      refine lv_iload X.1 X.2.1 dX12_rounds_86 (lv_at hl 3 rfl) ?_
      refine lv_ishl X.1 X.2.1 dX12_rounds_88 ?_
      refine lv_ior X.1 X.2.1 dX12_rounds_89 ?_
      refine g_lti hf (fun z6 hf => ?_)
      refine lv_istore (lv' := [(4, .int z6), (0, rv x0), (3, .int x3), (5, .int x5)]) X.1 X.2.1 dX12_rounds_90 hl (by decide) rfl (fun ls hl => ?_)
      obtain ⟨z7, ez7, hf⟩ := lt_some hf
      refine lv_iinc (v := z7) (lv' := [(5, .int z7), (4, .int z6), (0, rv x0), (3, .int x3)]) X.1 X.2.1 dX12_rounds_92 hl (k := 3) rfl (by rw [← ez7]; rfl) (by decide) rfl (fun ls hl => ?_)
      refine lv_goto (tgt := 58) X.1 X.2.1 dX12_rounds_95 (by decide) ?_
      exact hk58 _ _ _ _ _ _ _ _ (lv_sub hl [2, 3, 1, 0] rfl) S hf
theorem wfX12_rounds_58_x_l {k9 : Nat} {h9 : Hp} (X : Cx p E A 10 R s m args c cX12_rounds yX12_rounds.cls 6) (hr : meth.sig.returnType = (some .int)) (hlk : meth.locks = false) (hnm : meth.name = yX12_rounds.name) (hne : ∀ x ∈ c.exceptionTable.toList, False) (hlt : l.stackTraces = false) (hR1 : 0 + 1 ≤ R.cells ∧ 0 + 6 ≤ R.slots) :
    ∀ (n : Nat) (x0 : Nat) (x3 : Int32) (x4 : Int32) (x5 : Int32) (h : Hp) (H : Heap) (locs : List Loc) (ls : Array Slot), lv_has ls 6 [(0, rv x0), (3, .int x3), (4, .int x4), (5, .int x5)] → St E A s h H locs → lp (fun _ _ _ _ _ => none) (fX12_rounds_58) n x0 x3 x4 x5 h = some (.inl k9, h9) → W p l e R s m args below meth c H locs 0 0 (vx_MQ below noQ (XX E A h9 k9) args s 1 6 A) (F0 m 58 ls []) := by
  intro n
  induction n with
  | zero =>
    intro x0 x3 x4 x5 h H locs ls hl S hf
    exact nomatch hf
  | succ n ih =>
    intro x0 x3 x4 x5 h H locs ls hl S hf
    exact wfX12_rounds_58_x X hr hlk hnm hne hlt hR1 ih x0 x3 x4 x5 h H locs ls hl S hf
theorem cX12_rounds_x (l : Launch) (hlt : l.stackTraces = false) {E : EE} {A : Nat → Prop} {a0 : Nat} {a1 : Int32} {a2 : Int32} {a3 : Int32} {h : Hp} {k9 : Nat} {h9 : Hp} (hf : fX12_rounds a0 a1 a2 a3 h = some (.inl k9, h9)) : vx_Met l yX12_rounds (wsM yX12_rounds cX12_rounds 6 (some .int)) (rmm 10 1 6) (PcE E A h [rv a0, .int a1, .int a2, .int a3]) noQ (XX E A h9 k9) 1 6 A := by
  refine met_ofX (by decide +kernel) (by simp [lg_sl, cat_rv, cat_wv, cat_sv, cat_i, cat_l, cat_a]) (fun p e s m args below meth c ls X hr hlk hnm hne S hl => ?_)
  have hR1 : 0 + 1 ≤ (rmm 10 1 6).cells ∧ 0 + 6 ≤ (rmm 10 1 6).slots := ⟨Nat.le_refl _, Nat.le_refl _⟩
  have hl : lv_has ls 6 [(0, rv a0), (1, .int a1), (2, .int a2), (3, .int a3)] := by simpa [lv_args, cat_rv, cat_wv, cat_sv, cat_i, cat_l, cat_a] using hl
  generalize hH : s.heap = H at S ⊢
  generalize hlo : ([] : List Loc) = locs at S ⊢
  clear hH hlo
  unfold fX12_rounds at hf
  obtain ⟨hth, hf⟩ := gd_some hf
  refine lv_iload_n X.1 X.2.1 dX12_rounds_0 rfl (lv_at hl 3 rfl) ?_
  refine lv_iconst (v := 1) X.1 X.2.1 dX12_rounds_1 (by decide) ?_
  refine lv_icmp_lt (tgt := 11) X.1 X.2.1 dX12_rounds_2 (by decide) (fun c1 => ?_) (fun c1 => ?_)
  · replace hf := (if_pos c1).symm.trans hf
    exact wfX12_rounds_11_x X hr hlk hnm hne hlt hR1 _ _ _ _ (lv_sub hl [] rfl) S hf
  · replace hf := (if_neg c1).symm.trans hf
    refine lv_iload_n X.1 X.2.1 dX12_rounds_5 rfl (lv_at hl 3 rfl) ?_
    refine lv_bipush (v := 32) X.1 X.2.1 dX12_rounds_6 (by decide) ?_
    refine lv_icmp_le (tgt := 21) X.1 X.2.1 dX12_rounds_8 (by decide) (fun c2 => ?_) (fun c2 => ?_)
    · replace hf := (if_pos c2).symm.trans hf
      refine g_aload_n X (or_rv _) dX12_rounds_21 rfl (lv_at hl 0 rfl) ?_
      refine lv_iload_n X.1 X.2.1 dX12_rounds_22 rfl (lv_at hl 1 rfl) ?_
      refine lv_iload_n X.1 X.2.1 dX12_rounds_23 rfl (lv_at hl 2 rfl) ?_
      refine lv_bipush (v := 16) X.1 X.2.1 dX12_rounds_24 (by decide) ?_
      rcases oe_some hf with ⟨k, hc, hf⟩ | ⟨v3, hc, hf⟩
      · cases hf
        exact g_pass S hne hlk (runVX (As := [.int a1, .int a2, .int 16]) (rest := []) X S coX12_161 (by decide) (cX12_needField_x l hlt hc) (tkX12_needField hc) rfl hl.1 (by decide) rfl hR1 dX12_rounds_26)
      refine g_cv S (runV (As := [.int a1, .int a2, .int 16]) (rest := []) X S coX12_161 (by decide) (cX12_needField_m l hc) (tkX12_needField hc) rfl hl.1 (by decide) rfl ⟨Nat.zero_le _, Nat.zero_le _⟩ dX12_rounds_26) (fun H locs S => ?_)
      refine g_aload_n X (or_rv _) dX12_rounds_29 rfl (lv_at hl 0 rfl) ?_
      refine lv_iload_n X.1 X.2.1 dX12_rounds_30 rfl (lv_at hl 1 rfl) ?_
      refine lv_iload_n X.1 X.2.1 dX12_rounds_31 rfl (lv_at hl 2 rfl) ?_
      refine lv_iconst (v := 0) X.1 X.2.1 dX12_rounds_32 (by decide) ?_
      rcases oe_some hf with ⟨k, hc, hf⟩ | ⟨v4, hc, hf⟩
      · cases hf
        exact g_pass S hne hlk (runVX (As := [.int a1, .int a2, .int 0]) (rest := []) X S coX12_171 (by decide) (cX12_needSound_x l hlt hc) (tkX12_needSound hc) rfl hl.1 (by decide) rfl hR1 dX12_rounds_33)
      refine g_cv S (runV (As := [.int a1, .int a2, .int 0]) (rest := []) X S coX12_171 (by decide) (cX12_needSound_m l hc) (tkX12_needSound hc) rfl hl.1 (by decide) rfl ⟨Nat.zero_le _, Nat.zero_le _⟩ dX12_rounds_33) (fun H locs S => ?_)
      refine g_aload_n X (or_rv _) dX12_rounds_36 rfl (lv_at hl 0 rfl) ?_
      refine g_gR X S foX12_48 dX12_rounds_37 hf (fun v5 hf => ?_)
      refine g_aload_n X (or_rv _) dX12_rounds_40 rfl (lv_at hl 0 rfl) ?_
      refine g_gR X S foX12_61 dX12_rounds_41 hf (fun v6 hf => ?_)
      refine g_gR X S foX12_107 dX12_rounds_44 hf (fun v7 hf => ?_)
      refine lv_iload_n X.1 X.2.1 dX12_rounds_47 rfl (lv_at hl 1 rfl) ?_
      refine lv_iload_n X.1 X.2.1 dX12_rounds_48 rfl (lv_at hl 2 rfl) ?_
      obtain ⟨h, hc, hf⟩ := ob_some hf
      refine g_cv S (runV (As := [rv v7, .int a1, .int a2]) (rest := []) X S coX12_179 (by decide) (cX1_takePacked_m l hc) (tkX1_takePacked hc) rfl hl.1 (by decide) rfl ⟨Nat.zero_le _, Nat.zero_le _⟩ dX12_rounds_49) (fun H locs S => ?_)
      refine lv_iconst (v := 0) X.1 X.2.1 dX12_rounds_52 (by decide) ?_
      refine lv_istore (lv' := [(4, .int 0), (0, rv a0), (1, .int a1), (2, .int a2), (3, .int a3)]) X.1 X.2.1 dX12_rounds_53 hl (by decide) rfl (fun ls hl => ?_)
      refine lv_iconst (v := 0) X.1 X.2.1 dX12_rounds_55 (by decide) ?_
      refine lv_istore (lv' := [(5, .int 0), (4, .int 0), (0, rv a0), (1, .int a1), (2, .int a2), (3, .int a3)]) X.1 X.2.1 dX12_rounds_56 hl (by decide) rfl (fun ls hl => ?_)
      exact wfX12_rounds_58_x_l X hr hlk hnm hne hlt hR1 FU _ _ _ _ _ _ _ _ (lv_sub hl [2, 5, 1, 0] rfl) S hf
    · replace hf := (if_neg c2).symm.trans hf
      exact wfX12_rounds_11_x X hr hlk hnm hne hlt hR1 _ _ _ _ (lv_sub hl [] rfl) S hf
def fX12_unedited_70 (h : Hp) : Option ((Nat ⊕ Int64) × Hp) := some (.inl 1, h)
theorem wfX12_unedited_70 {r9 : Int64} {h9 : Hp} (X : Cx p E A 12 R s m args c cX12_unedited yX12_unedited.cls 7) (hr : meth.sig.returnType = (some .long)) (hlk : meth.locks = false) (hnm : meth.name = yX12_unedited.name) :
    ∀ (h : Hp) (H : Heap) (locs : List Loc) (ls : Array Slot), lv_has ls 7 [] → St E A s h H locs → fX12_unedited_70 h = some (.inr r9, h9) → W p l e R s m args below meth c H locs 0 0 (MQ below (Ql E A h9 r9) args s 0 0 A) (F0 m 70 ls []) := by
  intro h H locs ls hl S hf
  unfold fX12_unedited_70 at hf
  cases hf
def fX12_unedited (a0 : Nat) (a1 : Int32) (a2 : Int32) (a3 : Int32) (a4 : Int32) (h : Hp) : Option ((Nat ⊕ Int64) × Hp) := gd 10 a0 h (oe (fX12_needField a0 a1 a2 32 h) (fun k => some (.inl k, h)) fun v1 => oe (fX12_needField a0 a3 a2 32 h) (fun k => some (.inl k, h)) fun v2 => ob (gR 10 a0 6 h) fun v3 => ob (gR 10 a0 10 h) fun v4 => ob (gR 2 v4 0 h) fun v5 => ob2 (fX3_sources v3 v5 a1 a2 a3 h) fun v6 h => if a4 = (-1) then some (.inr v6, h) else if (lg_cmp v6 0) = 0 then fX12_unedited_70 h else if a4 < (-2) then fX12_unedited_70 h else ob (gR 10 a0 6 h) fun v10 => ob (fX3_digits v10 h) fun v11 => if a4 < v11 then ob (gR 10 a0 6 h) fun v13 => ob (fX3_firstSource v13 a4 h) fun v14 => some (.inr (Int32.toInt64 v14), h) else fX12_unedited_70 h)
theorem tkX12_unedited {a0 : Nat} {a1 : Int32} {a2 : Int32} {a3 : Int32} {a4 : Int32} {h : Hp} {r9 : (Nat ⊕ Int64) × Hp} (e : fX12_unedited a0 a1 a2 a3 a4 h = some r9) : hK h a0 = 10 := by
  unfold fX12_unedited at e
  exact (gd_some e).1
theorem cX12_unedited_m (l : Launch) {E : EE} {A : Nat → Prop} {a0 : Nat} {a1 : Int32} {a2 : Int32} {a3 : Int32} {a4 : Int32} {h : Hp} {r9 : Int64} {h9 : Hp} (hf : fX12_unedited a0 a1 a2 a3 a4 h = some (.inr r9, h9)) : Met l yX12_unedited (wsM yX12_unedited cX12_unedited 7 (some .long)) (rmm 12 0 0) (PcE E A h [rv a0, .int a1, .int a2, .int a3, .int a4]) (Ql E A h9 r9) 0 0 A := by
  refine met_of (by decide +kernel) (by simp [lg_sl, cat_rv, cat_wv, cat_sv, cat_i, cat_l, cat_a]) (fun p e s m args below meth c ls X hr hlk hnm S hl => ?_)
  have hl : lv_has ls 7 [(0, rv a0), (1, .int a1), (2, .int a2), (3, .int a3), (4, .int a4)] := by simpa [lv_args, cat_rv, cat_wv, cat_sv, cat_i, cat_l, cat_a] using hl
  generalize hH : s.heap = H at S ⊢
  generalize hlo : ([] : List Loc) = locs at S ⊢
  clear hH hlo
  unfold fX12_unedited at hf
  obtain ⟨hth, hf⟩ := gd_some hf
  refine g_aload_n X (or_rv _) dX12_unedited_0 rfl (lv_at hl 0 rfl) ?_
  refine lv_iload_n X.1 X.2.1 dX12_unedited_1 rfl (lv_at hl 1 rfl) ?_
  refine lv_iload_n X.1 X.2.1 dX12_unedited_2 rfl (lv_at hl 2 rfl) ?_
  refine lv_bipush (v := 32) X.1 X.2.1 dX12_unedited_3 (by decide) ?_
  rcases oe_some hf with ⟨k, hc, hf⟩ | ⟨v1, hc, hf⟩
  · cases hf
  refine g_cv S (runV (As := [.int a1, .int a2, .int 32]) (rest := []) X S coX12_161 (by decide) (cX12_needField_m l hc) (tkX12_needField hc) rfl hl.1 (by decide) rfl ⟨Nat.zero_le _, Nat.zero_le _⟩ dX12_unedited_5) (fun H locs S => ?_)
  refine g_aload_n X (or_rv _) dX12_unedited_8 rfl (lv_at hl 0 rfl) ?_
  refine lv_iload_n X.1 X.2.1 dX12_unedited_9 rfl (lv_at hl 3 rfl) ?_
  refine lv_iload_n X.1 X.2.1 dX12_unedited_10 rfl (lv_at hl 2 rfl) ?_
  refine lv_bipush (v := 32) X.1 X.2.1 dX12_unedited_11 (by decide) ?_
  rcases oe_some hf with ⟨k, hc, hf⟩ | ⟨v2, hc, hf⟩
  · cases hf
  refine g_cv S (runV (As := [.int a3, .int a2, .int 32]) (rest := []) X S coX12_161 (by decide) (cX12_needField_m l hc) (tkX12_needField hc) rfl hl.1 (by decide) rfl ⟨Nat.zero_le _, Nat.zero_le _⟩ dX12_unedited_13) (fun H locs S => ?_)
  refine g_aload_n X (or_rv _) dX12_unedited_16 rfl (lv_at hl 0 rfl) ?_
  refine g_gR X S foX12_41 dX12_unedited_17 hf (fun v3 hf => ?_)
  refine g_aload_n X (or_rv _) dX12_unedited_20 rfl (lv_at hl 0 rfl) ?_
  refine g_gR X S foX12_61 dX12_unedited_21 hf (fun v4 hf => ?_)
  refine g_gR X S foX12_107 dX12_unedited_24 hf (fun v5 hf => ?_)
  refine lv_iload_n X.1 X.2.1 dX12_unedited_27 rfl (lv_at hl 1 rfl) ?_
  refine lv_iload_n X.1 X.2.1 dX12_unedited_28 rfl (lv_at hl 2 rfl) ?_
  refine lv_iload_n X.1 X.2.1 dX12_unedited_29 rfl (lv_at hl 3 rfl) ?_
  obtain ⟨v6, h, hc, hf⟩ := ob2_some hf
  refine g_cl S (runV (As := [rv v5, .int a1, .int a2, .int a3]) (rest := []) X S coX12_209 (by decide) (cX3_sources_m l hc) (tkX3_sources hc) rfl hl.1 (by decide) rfl ⟨Nat.zero_le _, Nat.zero_le _⟩ dX12_unedited_30) (fun H locs S => ?_)
  refine lv_lstore (lv' := [(5, .long v6), (0, rv a0), (1, .int a1), (2, .int a2), (3, .int a3), (4, .int a4)]) X.1 X.2.1 dX12_unedited_33 hl (by decide) rfl (fun ls hl => ?_)
  refine lv_iload X.1 X.2.1 dX12_unedited_35 (lv_at hl 5 rfl) ?_
  refine lv_iconst (v := (-1)) X.1 X.2.1 dX12_unedited_37 (by decide) ?_
  refine lv_icmp_ne (tgt := 44) X.1 X.2.1 dX12_unedited_38 (by decide) (fun c7 => ?_) (fun c7 => ?_)
  · replace hf := (if_neg c7).symm.trans hf
    refine lv_lload X.1 X.2.1 dX12_unedited_44 (lv_at hl 0 rfl) ?_
    refine lv_lconst (v := 0) X.1 X.2.1 dX12_unedited_46 (by decide) ?_
    refine W.lcmp X.1 X.2.1 dX12_unedited_47 ?_
    refine lv_if_eq (tgt := 70) X.1 X.2.1 dX12_unedited_48 (by decide) (fun c8 => ?_) (fun c8 => ?_)
    · replace hf := (if_pos c8).symm.trans hf
      exact wfX12_unedited_70 X hr hlk hnm _ _ _ _ (lv_sub hl [] rfl) S hf
    · replace hf := (if_neg c8).symm.trans hf
      refine lv_iload X.1 X.2.1 dX12_unedited_51 (lv_at hl 5 rfl) ?_
      refine lv_bipush (v := (-2)) X.1 X.2.1 dX12_unedited_53 (by decide) ?_
      refine lv_icmp_lt (tgt := 70) X.1 X.2.1 dX12_unedited_55 (by decide) (fun c9 => ?_) (fun c9 => ?_)
      · replace hf := (if_pos c9).symm.trans hf
        exact wfX12_unedited_70 X hr hlk hnm _ _ _ _ (lv_sub hl [] rfl) S hf
      · replace hf := (if_neg c9).symm.trans hf
        refine lv_iload X.1 X.2.1 dX12_unedited_58 (lv_at hl 5 rfl) ?_
        refine g_aload_n X (or_rv _) dX12_unedited_60 rfl (lv_at hl 1 rfl) ?_
        refine g_gR X S foX12_41 dX12_unedited_61 hf (fun v10 hf => ?_)
        obtain ⟨v11, hc, hf⟩ := ob_some hf
        refine g_ci S (runV (As := []) (rest := [.int a4]) X S coX12_213 (by decide) (cX3_digits_m l hc) (tkX3_digits hc) rfl hl.1 (by simp [cat_rv, cat_wv, cat_sv, cat_i, cat_l, cat_a]) rfl ⟨Nat.zero_le _, Nat.zero_le _⟩ dX12_unedited_64) (fun H locs S => ?_)
        refine lv_icmp_lt (tgt := 80) X.1 X.2.1 dX12_unedited_67 (by decide) (fun c12 => ?_) (fun c12 => ?_)
        · replace hf := (if_pos c12).symm.trans hf
          refine g_aload_n X (or_rv _) dX12_unedited_80 rfl (lv_at hl 1 rfl) ?_
          refine g_gR X S foX12_41 dX12_unedited_81 hf (fun v13 hf => ?_)
          refine lv_iload X.1 X.2.1 dX12_unedited_84 (lv_at hl 5 rfl) ?_
          obtain ⟨v14, hc, hf⟩ := ob_some hf
          refine g_ci S (runV (As := [.int a4]) (rest := []) X S coX12_218 (by decide) (cX3_firstSource_m l hc) (tkX3_firstSource hc) rfl hl.1 (by decide) rfl ⟨Nat.zero_le _, Nat.zero_le _⟩ dX12_unedited_86) (fun H locs S => ?_)
          refine lv_i2l (v := Int32.toInt64 v14) X.1 X.2.1 dX12_unedited_89 rfl ?_
          cases hf; exact g_rl X S hr hlk dX12_unedited_90
        · replace hf := (if_neg c12).symm.trans hf
          exact wfX12_unedited_70 X hr hlk hnm _ _ _ _ (lv_sub hl [] rfl) S hf
  · replace hf := (if_pos c7).symm.trans hf
    refine lv_lload X.1 X.2.1 dX12_unedited_41 (lv_at hl 0 rfl) ?_
    cases hf; exact g_rl X S hr hlk dX12_unedited_43
theorem wfX12_unedited_70_x {k9 : Nat} {h9 : Hp} (X : Cx p E A 12 R s m args c cX12_unedited yX12_unedited.cls 7) (hr : meth.sig.returnType = (some .long)) (hlk : meth.locks = false) (hnm : meth.name = yX12_unedited.name) (hne : ∀ x ∈ c.exceptionTable.toList, False) (hlt : l.stackTraces = false) (hR1 : 0 + 1 ≤ R.cells ∧ 0 + 6 ≤ R.slots) :
    ∀ (h : Hp) (H : Heap) (locs : List Loc) (ls : Array Slot), lv_has ls 7 [] → St E A s h H locs → fX12_unedited_70 h = some (.inl k9, h9) → W p l e R s m args below meth c H locs 0 0 (vx_MQ below noQ (XX E A h9 k9) args s 1 6 A) (F0 m 70 ls []) := by
  intro h H locs ls hl S hf
  unfold fX12_unedited_70 at hf
  cases hf
  exact g_throw (rest := []) X S hne hlk hlt hl.1 (by decide) (by decide) tfX12_135_216 dX12_unedited_70 dX12_unedited_73 dX12_unedited_74 dX12_unedited_76 dX12_unedited_79 hR1
theorem cX12_unedited_x (l : Launch) (hlt : l.stackTraces = false) {E : EE} {A : Nat → Prop} {a0 : Nat} {a1 : Int32} {a2 : Int32} {a3 : Int32} {a4 : Int32} {h : Hp} {k9 : Nat} {h9 : Hp} (hf : fX12_unedited a0 a1 a2 a3 a4 h = some (.inl k9, h9)) : vx_Met l yX12_unedited (wsM yX12_unedited cX12_unedited 7 (some .long)) (rmm 12 1 6) (PcE E A h [rv a0, .int a1, .int a2, .int a3, .int a4]) noQ (XX E A h9 k9) 1 6 A := by
  refine met_ofX (by decide +kernel) (by simp [lg_sl, cat_rv, cat_wv, cat_sv, cat_i, cat_l, cat_a]) (fun p e s m args below meth c ls X hr hlk hnm hne S hl => ?_)
  have hR1 : 0 + 1 ≤ (rmm 12 1 6).cells ∧ 0 + 6 ≤ (rmm 12 1 6).slots := ⟨Nat.le_refl _, Nat.le_refl _⟩
  have hl : lv_has ls 7 [(0, rv a0), (1, .int a1), (2, .int a2), (3, .int a3), (4, .int a4)] := by simpa [lv_args, cat_rv, cat_wv, cat_sv, cat_i, cat_l, cat_a] using hl
  generalize hH : s.heap = H at S ⊢
  generalize hlo : ([] : List Loc) = locs at S ⊢
  clear hH hlo
  unfold fX12_unedited at hf
  obtain ⟨hth, hf⟩ := gd_some hf
  refine g_aload_n X (or_rv _) dX12_unedited_0 rfl (lv_at hl 0 rfl) ?_
  refine lv_iload_n X.1 X.2.1 dX12_unedited_1 rfl (lv_at hl 1 rfl) ?_
  refine lv_iload_n X.1 X.2.1 dX12_unedited_2 rfl (lv_at hl 2 rfl) ?_
  refine lv_bipush (v := 32) X.1 X.2.1 dX12_unedited_3 (by decide) ?_
  rcases oe_some hf with ⟨k, hc, hf⟩ | ⟨v1, hc, hf⟩
  · cases hf
    exact g_pass S hne hlk (runVX (As := [.int a1, .int a2, .int 32]) (rest := []) X S coX12_161 (by decide) (cX12_needField_x l hlt hc) (tkX12_needField hc) rfl hl.1 (by decide) rfl hR1 dX12_unedited_5)
  refine g_cv S (runV (As := [.int a1, .int a2, .int 32]) (rest := []) X S coX12_161 (by decide) (cX12_needField_m l hc) (tkX12_needField hc) rfl hl.1 (by decide) rfl ⟨Nat.zero_le _, Nat.zero_le _⟩ dX12_unedited_5) (fun H locs S => ?_)
  refine g_aload_n X (or_rv _) dX12_unedited_8 rfl (lv_at hl 0 rfl) ?_
  refine lv_iload_n X.1 X.2.1 dX12_unedited_9 rfl (lv_at hl 3 rfl) ?_
  refine lv_iload_n X.1 X.2.1 dX12_unedited_10 rfl (lv_at hl 2 rfl) ?_
  refine lv_bipush (v := 32) X.1 X.2.1 dX12_unedited_11 (by decide) ?_
  rcases oe_some hf with ⟨k, hc, hf⟩ | ⟨v2, hc, hf⟩
  · cases hf
    exact g_pass S hne hlk (runVX (As := [.int a3, .int a2, .int 32]) (rest := []) X S coX12_161 (by decide) (cX12_needField_x l hlt hc) (tkX12_needField hc) rfl hl.1 (by decide) rfl hR1 dX12_unedited_13)
  refine g_cv S (runV (As := [.int a3, .int a2, .int 32]) (rest := []) X S coX12_161 (by decide) (cX12_needField_m l hc) (tkX12_needField hc) rfl hl.1 (by decide) rfl ⟨Nat.zero_le _, Nat.zero_le _⟩ dX12_unedited_13) (fun H locs S => ?_)
  refine g_aload_n X (or_rv _) dX12_unedited_16 rfl (lv_at hl 0 rfl) ?_
  refine g_gR X S foX12_41 dX12_unedited_17 hf (fun v3 hf => ?_)
  refine g_aload_n X (or_rv _) dX12_unedited_20 rfl (lv_at hl 0 rfl) ?_
  refine g_gR X S foX12_61 dX12_unedited_21 hf (fun v4 hf => ?_)
  refine g_gR X S foX12_107 dX12_unedited_24 hf (fun v5 hf => ?_)
  refine lv_iload_n X.1 X.2.1 dX12_unedited_27 rfl (lv_at hl 1 rfl) ?_
  refine lv_iload_n X.1 X.2.1 dX12_unedited_28 rfl (lv_at hl 2 rfl) ?_
  refine lv_iload_n X.1 X.2.1 dX12_unedited_29 rfl (lv_at hl 3 rfl) ?_
  obtain ⟨v6, h, hc, hf⟩ := ob2_some hf
  refine g_cl S (runV (As := [rv v5, .int a1, .int a2, .int a3]) (rest := []) X S coX12_209 (by decide) (cX3_sources_m l hc) (tkX3_sources hc) rfl hl.1 (by decide) rfl ⟨Nat.zero_le _, Nat.zero_le _⟩ dX12_unedited_30) (fun H locs S => ?_)
  refine lv_lstore (lv' := [(5, .long v6), (0, rv a0), (1, .int a1), (2, .int a2), (3, .int a3), (4, .int a4)]) X.1 X.2.1 dX12_unedited_33 hl (by decide) rfl (fun ls hl => ?_)
  refine lv_iload X.1 X.2.1 dX12_unedited_35 (lv_at hl 5 rfl) ?_
  refine lv_iconst (v := (-1)) X.1 X.2.1 dX12_unedited_37 (by decide) ?_
  refine lv_icmp_ne (tgt := 44) X.1 X.2.1 dX12_unedited_38 (by decide) (fun c7 => ?_) (fun c7 => ?_)
  · replace hf := (if_neg c7).symm.trans hf
    refine lv_lload X.1 X.2.1 dX12_unedited_44 (lv_at hl 0 rfl) ?_
    refine lv_lconst (v := 0) X.1 X.2.1 dX12_unedited_46 (by decide) ?_
    refine W.lcmp X.1 X.2.1 dX12_unedited_47 ?_
    refine lv_if_eq (tgt := 70) X.1 X.2.1 dX12_unedited_48 (by decide) (fun c8 => ?_) (fun c8 => ?_)
    · replace hf := (if_pos c8).symm.trans hf
      exact wfX12_unedited_70_x X hr hlk hnm hne hlt hR1 _ _ _ _ (lv_sub hl [] rfl) S hf
    · replace hf := (if_neg c8).symm.trans hf
      refine lv_iload X.1 X.2.1 dX12_unedited_51 (lv_at hl 5 rfl) ?_
      refine lv_bipush (v := (-2)) X.1 X.2.1 dX12_unedited_53 (by decide) ?_
      refine lv_icmp_lt (tgt := 70) X.1 X.2.1 dX12_unedited_55 (by decide) (fun c9 => ?_) (fun c9 => ?_)
      · replace hf := (if_pos c9).symm.trans hf
        exact wfX12_unedited_70_x X hr hlk hnm hne hlt hR1 _ _ _ _ (lv_sub hl [] rfl) S hf
      · replace hf := (if_neg c9).symm.trans hf
        refine lv_iload X.1 X.2.1 dX12_unedited_58 (lv_at hl 5 rfl) ?_
        refine g_aload_n X (or_rv _) dX12_unedited_60 rfl (lv_at hl 1 rfl) ?_
        refine g_gR X S foX12_41 dX12_unedited_61 hf (fun v10 hf => ?_)
        obtain ⟨v11, hc, hf⟩ := ob_some hf
        refine g_ci S (runV (As := []) (rest := [.int a4]) X S coX12_213 (by decide) (cX3_digits_m l hc) (tkX3_digits hc) rfl hl.1 (by simp [cat_rv, cat_wv, cat_sv, cat_i, cat_l, cat_a]) rfl ⟨Nat.zero_le _, Nat.zero_le _⟩ dX12_unedited_64) (fun H locs S => ?_)
        refine lv_icmp_lt (tgt := 80) X.1 X.2.1 dX12_unedited_67 (by decide) (fun c12 => ?_) (fun c12 => ?_)
        · replace hf := (if_pos c12).symm.trans hf
          refine g_aload_n X (or_rv _) dX12_unedited_80 rfl (lv_at hl 1 rfl) ?_
          refine g_gR X S foX12_41 dX12_unedited_81 hf (fun v13 hf => ?_)
          refine lv_iload X.1 X.2.1 dX12_unedited_84 (lv_at hl 5 rfl) ?_
          obtain ⟨v14, hc, hf⟩ := ob_some hf
          refine g_ci S (runV (As := [.int a4]) (rest := []) X S coX12_218 (by decide) (cX3_firstSource_m l hc) (tkX3_firstSource hc) rfl hl.1 (by decide) rfl ⟨Nat.zero_le _, Nat.zero_le _⟩ dX12_unedited_86) (fun H locs S => ?_)
          refine lv_i2l (v := Int32.toInt64 v14) X.1 X.2.1 dX12_unedited_89 rfl ?_
          cases hf
        · replace hf := (if_neg c12).symm.trans hf
          exact wfX12_unedited_70_x X hr hlk hnm hne hlt hR1 _ _ _ _ (lv_sub hl [] rfl) S hf
  · replace hf := (if_pos c7).symm.trans hf
    refine lv_lload X.1 X.2.1 dX12_unedited_41 (lv_at hl 0 rfl) ?_
    cases hf
def fX2_keep_32 (x0 : Nat) (x2 : Nat) (x3 : Int32) (h : Hp) : Option (Hp) := ob (gR 2 x0 1 h) fun v1 => ob (aR 103 v1 x3 h) fun v2 => obk h (fX10_become v2 x2 h) fun h => some h
theorem wfX2_keep_32 {h0 : Hp} {h9 : Hp} (X : Cx p E A 11 R s m args c cX2_keep yX2_keep.cls 4) (hr : meth.sig.returnType = none) (hlk : meth.locks = false) (hnm : meth.name = yX2_keep.name) :
    ∀ (x0 : Nat) (x2 : Nat) (x3 : Int32) (h : Hp) (H : Heap) (locs : List Loc) (ls : Array Slot) (cells slots : Nat), lv_has ls 4 [(0, rv x0), (2, rv x2), (3, .int x3)] → St E A s h H locs → AlI R s h0 h cells slots → fX2_keep_32 x0 x2 x3 h = some h9 → W p l e R s m args below meth c H locs cells slots (MQ below (QG (Qv E A h9) h0 h9) args s R.cells R.slots A) (F0 m 32 ls []) := by
  intro x0 x2 x3 h H locs ls cells slots hl S AI hf
  unfold fX2_keep_32 at hf
  refine g_aload_n X (or_rv _) dX2_keep_32 rfl (lv_at hl 0 rfl) ?_
  refine g_gR X S foX2_18 dX2_keep_33 hf (fun v1 hf => ?_)
  refine lv_iload_n X.1 X.2.1 dX2_keep_36 rfl (lv_at hl 2 rfl) ?_
  refine g_aR X S (by decide) dX2_keep_37 hf (fun v2 hf => ?_)
  refine g_aload_n X (or_rv _) dX2_keep_38 rfl (lv_at hl 1 rfl) ?_
  obtain ⟨h, hc, hok, hf⟩ := obk_some hf
  refine g_cv S (runV (As := [rv x2]) (rest := []) X S coX2_43 (by decide) (cX10_become_m l hc) (tkX10_become hc) rfl hl.1 (by decide) rfl AI.fit dX2_keep_39) (fun H locs S => ?_)
  replace AI := AI.kc hok
  cases hf; exact g_rvA X S AI hr hlk dX2_keep_42
def fX2_keep (a0 : Nat) (a1 : Int32) (a2 : Nat) (h : Hp) : Option (Hp) := gd 2 a0 h (lt (irm a1 40) fun z1 => if 0 ≤ z1 then ob (gR 2 a0 1 h) fun v3 => ob (aR 103 v3 z1 h) fun v4 => if v4 = 0 then ob (gR 2 a0 1 h) fun v6 => ob2 (newO 9 1 h) fun p7 h => oba h (fX10_init p7 h) fun h => ob (qR 103 9 v6 z1 p7 h) fun h => fX2_keep_32 a0 a2 z1 h else fX2_keep_32 a0 a2 z1 h else some h)
theorem tkX2_keep {a0 : Nat} {a1 : Int32} {a2 : Nat} {h : Hp} {r9 : Hp} (e : fX2_keep a0 a1 a2 h = some r9) : hK h a0 = 2 := by
  unfold fX2_keep at e
  exact (gd_some e).1
theorem cX2_keep_m (l : Launch) {E : EE} {A : Nat → Prop} {a0 : Nat} {a1 : Int32} {a2 : Nat} {h : Hp} {h9 : Hp} {mc ms : Nat} (hmc : mc + hX h = hC h) (hms : ms + hU h = hZ h) (hf : fX2_keep a0 a1 a2 h = some h9) : Met l yX2_keep (wsM yX2_keep cX2_keep 4 none) (rmm 11 mc ms) (PcF E A h [rv a0, .int a1, rv a2]) (QG (Qv E A h9) h h9) mc ms A := by
  refine met_ofA (by decide +kernel) (by simp [lg_sl, cat_rv, cat_wv, cat_sv, cat_i, cat_l, cat_a]) hmc hms (fun p e s m args below meth c ls X hr hlk hnm S AI hl => ?_)
  have hl : lv_has ls 4 [(0, rv a0), (1, .int a1), (2, rv a2)] := by simpa [lv_args, cat_rv, cat_wv, cat_sv, cat_i, cat_l, cat_a] using hl
  generalize hH : s.heap = H at S ⊢
  generalize hlo : ([] : List Loc) = locs at S ⊢
  clear hH hlo
  unfold fX2_keep at hf
  obtain ⟨hth, hf⟩ := gd_some hf
  refine lv_iload_n X.1 X.2.1 dX2_keep_0 rfl (lv_at hl 1 rfl) ?_
  refine lv_bipush (v := 40) X.1 X.2.1 dX2_keep_1 (by decide) ?_
  refine g_irem X (by decide) dX2_keep_3 ?_
  refine g_lti hf (fun z1 hf => ?_)
  refine lv_istore_n (i := 3) (lv' := [(3, .int z1), (0, rv a0), (1, .int a1), (2, rv a2)]) X.1 X.2.1 dX2_keep_4 rfl hl (by decide) (by simp [List.filter, cat_rv, cat_wv, cat_sv]) (fun ls hl => ?_)
  refine lv_iload_n X.1 X.2.1 dX2_keep_5 rfl (lv_at hl 0 rfl) ?_
  refine lv_if_ge (tgt := 10) X.1 X.2.1 dX2_keep_6 (by decide) (fun c2 => ?_) (fun c2 => ?_)
  · replace hf := (if_pos c2).symm.trans hf
    refine g_aload_n X (or_rv _) dX2_keep_10 rfl (lv_at hl 1 rfl) ?_
    refine g_gR X S foX2_18 dX2_keep_11 hf (fun v3 hf => ?_)
    refine lv_iload_n X.1 X.2.1 dX2_keep_14 rfl (lv_at hl 0 rfl) ?_
    refine g_aR X S (by decide) dX2_keep_15 hf (fun v4 hf => ?_)
    refine g_ifnonnull (tgt := 32) X dX2_keep_16 (by decide) (fun c5 => ?_) (fun c5 => ?_)
    · replace hf := (if_neg c5).symm.trans hf
      exact wfX2_keep_32 X hr hlk hnm _ _ _ _ _ _ _ _ _ (lv_sub hl [1, 3, 0] rfl) S AI hf
    · replace hf := (if_pos c5).symm.trans hf
      refine g_aload_n X (or_rv _) dX2_keep_19 rfl (lv_at hl 1 rfl) ?_
      refine g_gR X S foX2_18 dX2_keep_20 hf (fun v6 hf => ?_)
      refine lv_iload_n X.1 X.2.1 dX2_keep_23 rfl (lv_at hl 0 rfl) ?_
      refine g_newO X S AI noX2_9 dX2_keep_24 hf (fun p7 h H cells slots hkp7 hf S AI => ?_)
      refine lv_dup X.1 X.2.1 dX2_keep_27 (cat_rv _) ?_
      obtain ⟨h, hc, hok, hf⟩ := oba_some hf
      refine g_cvA S AI hok (fun hsz => runIF (As := []) (rest := [rv p7, .int z1, rv v6]) X S hsz coX2_11 (by decide) (cX10_init_m l AI.mcs.1 AI.mcs.2 hc) (tkX10_init hc) (by decide) rfl hl.1 (by simp [cat_rv, cat_wv, cat_sv, cat_i, cat_l, cat_a]) rfl AI.room dX2_keep_28) (fun H locs cells slots S AI => ?_)
      refine g_qR X S (d := 9) (by decide) rfl (by decide) (by decide) dX2_keep_31 hf (fun h H locs hm hf S => ?_)
      replace AI := AI.sm hm
      exact wfX2_keep_32 X hr hlk hnm _ _ _ _ _ _ _ _ _ (lv_sub hl [1, 3, 0] rfl) S AI hf
  · replace hf := (if_neg c2).symm.trans hf
    cases hf; exact g_rvA X S AI hr hlk dX2_keep_9
def fX2_remember_32 (x0 : Nat) (h : Hp) : Option (Hp) := ob (gI 2 x0 2 h) fun v1 => ob (gI 2 x0 3 h) fun v2 => ob (gR 2 x0 0 h) fun v3 => oba h (fX2_keep x0 (v1 + v2) v3 h) fun h => ob (gI 2 x0 3 h) fun v5 => ob (pI 2 x0 3 (v5 + 1) h) fun h => some h
theorem wfX2_remember_32 {h0 : Hp} {h9 : Hp} (X : Cx p E A 12 R s m args c cX2_remember yX2_remember.cls 1) (hr : meth.sig.returnType = none) (hlk : meth.locks = false) (hnm : meth.name = yX2_remember.name) :
    ∀ (x0 : Nat) (h : Hp) (H : Heap) (locs : List Loc) (ls : Array Slot) (cells slots : Nat), lv_has ls 1 [(0, rv x0)] → St E A s h H locs → AlI R s h0 h cells slots → fX2_remember_32 x0 h = some h9 → W p l e R s m args below meth c H locs cells slots (MQ below (QG (Qv E A h9) h0 h9) args s R.cells R.slots A) (F0 m 32 ls []) := by
  intro x0 h H locs ls cells slots hl S AI hf
  unfold fX2_remember_32 at hf
  refine g_aload_n X (or_rv _) dX2_remember_32 rfl (lv_at hl 0 rfl) ?_
  refine g_aload_n X (or_rv _) dX2_remember_33 rfl (lv_at hl 0 rfl) ?_
  refine g_gI X S foX2_36 rfl dX2_remember_34 hf (fun v1 hf => ?_)
  refine g_aload_n X (or_rv _) dX2_remember_37 rfl (lv_at hl 0 rfl) ?_
  refine g_gI X S foX2_29 rfl dX2_remember_38 hf (fun v2 hf => ?_)
  refine lv_iadd X.1 X.2.1 dX2_remember_41 ?_
  refine g_aload_n X (or_rv _) dX2_remember_42 rfl (lv_at hl 0 rfl) ?_
  refine g_gR X S foX2_12 dX2_remember_43 hf (fun v3 hf => ?_)
  obtain ⟨h, hc, hok, hf⟩ := oba_some hf
  refine g_cvA S AI hok (fun hsz => runVF (As := [.int (v1 + v2), rv v3]) (rest := []) X S hsz coX2_39 (by decide) (cX2_keep_m l AI.mcs.1 AI.mcs.2 hc) (tkX2_keep hc) rfl hl.1 (by decide) rfl AI.room dX2_remember_46) (fun H locs cells slots S AI => ?_)
  refine g_aload_n X (or_rv _) dX2_remember_49 rfl (lv_at hl 0 rfl) ?_
  refine lv_dup X.1 X.2.1 dX2_remember_50 (cat_rv _) ?_
  refine g_gI X S foX2_29 rfl dX2_remember_51 hf (fun v5 hf => ?_)
  refine lv_iconst (v := 1) X.1 X.2.1 dX2_remember_54 (by decide) ?_
  refine lv_iadd X.1 X.2.1 dX2_remember_55 ?_
  refine g_pI X S fpX2_29 (Or.inl rfl) dX2_remember_56 hf (fun h H locs hm hf S => ?_)
  replace AI := AI.sm hm
  cases hf; exact g_rvA X S AI hr hlk dX2_remember_59
def fX2_remember (a0 : Nat) (h : Hp) : Option (Hp) := gd 2 a0 h (ob (gI 2 a0 3 h) fun v1 => if v1 = 40 then ob (gI 2 a0 2 h) fun v3 => ob (pI 2 a0 2 (irm (v3 + 1) 40) h) fun h => ob (gI 2 a0 3 h) fun v4 => ob (pI 2 a0 3 (v4 - 1) h) fun h => fX2_remember_32 a0 h else fX2_remember_32 a0 h)
theorem tkX2_remember {a0 : Nat} {h : Hp} {r9 : Hp} (e : fX2_remember a0 h = some r9) : hK h a0 = 2 := by
  unfold fX2_remember at e
  exact (gd_some e).1
theorem cX2_remember_m (l : Launch) {E : EE} {A : Nat → Prop} {a0 : Nat} {h : Hp} {h9 : Hp} {mc ms : Nat} (hmc : mc + hX h = hC h) (hms : ms + hU h = hZ h) (hf : fX2_remember a0 h = some h9) : Met l yX2_remember (wsM yX2_remember cX2_remember 1 none) (rmm 12 mc ms) (PcF E A h [rv a0]) (QG (Qv E A h9) h h9) mc ms A := by
  refine met_ofA (by decide +kernel) (by simp [lg_sl, cat_rv, cat_wv, cat_sv, cat_i, cat_l, cat_a]) hmc hms (fun p e s m args below meth c ls X hr hlk hnm S AI hl => ?_)
  have hl : lv_has ls 1 [(0, rv a0)] := by simpa [lv_args, cat_rv, cat_wv, cat_sv, cat_i, cat_l, cat_a] using hl
  generalize hH : s.heap = H at S ⊢
  generalize hlo : ([] : List Loc) = locs at S ⊢
  clear hH hlo
  unfold fX2_remember at hf
  obtain ⟨hth, hf⟩ := gd_some hf
  refine g_aload_n X (or_rv _) dX2_remember_0 rfl (lv_at hl 0 rfl) ?_
  refine g_gI X S foX2_29 rfl dX2_remember_1 hf (fun v1 hf => ?_)
  refine lv_bipush (v := 40) X.1 X.2.1 dX2_remember_4 (by decide) ?_
  refine lv_icmp_ne (tgt := 32) X.1 X.2.1 dX2_remember_6 (by decide) (fun c2 => ?_) (fun c2 => ?_)
  · replace hf := (if_neg c2).symm.trans hf
    exact wfX2_remember_32 X hr hlk hnm _ _ _ _ _ _ _ hl S AI hf
  · replace hf := (if_pos c2).symm.trans hf
    refine g_aload_n X (or_rv _) dX2_remember_9 rfl (lv_at hl 0 rfl) ?_
    refine g_aload_n X (or_rv _) dX2_remember_10 rfl (lv_at hl 0 rfl) ?_
    refine g_gI X S foX2_36 rfl dX2_remember_11 hf (fun v3 hf => ?_)
    refine lv_iconst (v := 1) X.1 X.2.1 dX2_remember_14 (by decide) ?_
    refine lv_iadd X.1 X.2.1 dX2_remember_15 ?_
    refine lv_bipush (v := 40) X.1 X.2.1 dX2_remember_16 (by decide) ?_
    refine g_irem X (by decide) dX2_remember_18 ?_
    refine g_pI X S fpX2_36 (Or.inl rfl) dX2_remember_19 hf (fun h H locs hm hf S => ?_)
    replace AI := AI.sm hm
    refine g_aload_n X (or_rv _) dX2_remember_22 rfl (lv_at hl 0 rfl) ?_
    refine lv_dup X.1 X.2.1 dX2_remember_23 (cat_rv _) ?_
    refine g_gI X S foX2_29 rfl dX2_remember_24 hf (fun v4 hf => ?_)
    refine lv_iconst (v := 1) X.1 X.2.1 dX2_remember_27 (by decide) ?_
    refine lv_isub X.1 X.2.1 dX2_remember_28 ?_
    refine g_pI X S fpX2_29 (Or.inl rfl) dX2_remember_29 hf (fun h H locs hm hf S => ?_)
    replace AI := AI.sm hm
    exact wfX2_remember_32 X hr hlk hnm _ _ _ _ _ _ _ hl S AI hf
def fX12_steps_41 (x0 : Nat) (h : Hp) : Option (Int32 × Hp) := ob (gR 10 x0 10 h) fun v1 => obk h (fX2_refuse v1 1 h) fun h => some ((-1), h)
theorem wfX12_steps_41 {h0 : Hp} {r9 : Int32} {h9 : Hp} (X : Cx p E A 13 R s m args c cX12_steps yX12_steps.cls 4) (hr : meth.sig.returnType = (some .int)) (hlk : meth.locks = false) (hnm : meth.name = yX12_steps.name) :
    ∀ (x0 : Nat) (h : Hp) (H : Heap) (locs : List Loc) (ls : Array Slot) (cells slots : Nat), lv_has ls 4 [(0, rv x0)] → St E A s h H locs → AlI R s h0 h cells slots → fX12_steps_41 x0 h = some (r9, h9) → W p l e R s m args below meth c H locs cells slots (MQ below (QG (Qi E A h9 r9) h0 h9) args s R.cells R.slots A) (F0 m 41 ls []) := by
  intro x0 h H locs ls cells slots hl S AI hf
  unfold fX12_steps_41 at hf
  refine g_aload_n X (or_rv _) dX12_steps_41 rfl (lv_at hl 0 rfl) ?_
  refine g_gR X S foX12_61 dX12_steps_42 hf (fun v1 hf => ?_)
  refine lv_iconst (v := 1) X.1 X.2.1 dX12_steps_45 (by decide) ?_
  obtain ⟨h, hc, hok, hf⟩ := obk_some hf
  refine g_cv S (runV (As := [.int 1]) (rest := []) X S coX12_86 (by decide) (cX2_refuse_m l hc) (tkX2_refuse hc) rfl hl.1 (by decide) rfl AI.fit dX12_steps_46) (fun H locs S => ?_)
  replace AI := AI.kc hok
  refine lv_iconst (v := (-1)) X.1 X.2.1 dX12_steps_49 (by decide) ?_
  cases hf; exact g_riA X S AI hr hlk dX12_steps_50
def fX12_steps_60 (k60 : Nat → Int32 → Nat → Int32 → Hp → Option (Int32 × Hp)) (x0 : Nat) (x1 : Int32) (x2 : Nat) (x3 : Int32) (h : Hp) : Option (Int32 × Hp) := if x1 ≤ x3 then some (x3, h) else ob (fX10_running x2 h) fun v2 => if v2 = 0 then some (x3, h) else ob (gR 10 x0 5 h) fun v4 => ob (gR 4 v4 0 h) fun v5 => obk2 h (fX9_step v5 x2 h) fun v6 h => lt (x3 + 1) fun z7 => k60 x0 x1 x2 z7 h
theorem wfX12_steps_60 {h0 : Hp} {k60 : Nat → Int32 → Nat → Int32 → Hp → Option (Int32 × Hp)} {r9 : Int32} {h9 : Hp} (X : Cx p E A 13 R s m args c cX12_steps yX12_steps.cls 4) (hr : meth.sig.returnType = (some .int)) (hlk : meth.locks = false) (hnm : meth.name = yX12_steps.name) (hk60 : ∀ (x0 : Nat) (x1 : Int32) (x2 : Nat) (x3 : Int32) (h : Hp) (H : Heap) (locs : List Loc) (ls : Array Slot) (cells slots : Nat), lv_has ls 4 [(0, rv x0), (1, .int x1), (2, rv x2), (3, .int x3)] → St E A s h H locs → AlI R s h0 h cells slots → k60 x0 x1 x2 x3 h = some (r9, h9) → W p l e R s m args below meth c H locs cells slots (MQ below (QG (Qi E A h9 r9) h0 h9) args s R.cells R.slots A) (F0 m 60 ls [])) :
    ∀ (x0 : Nat) (x1 : Int32) (x2 : Nat) (x3 : Int32) (h : Hp) (H : Heap) (locs : List Loc) (ls : Array Slot) (cells slots : Nat), lv_has ls 4 [(0, rv x0), (1, .int x1), (2, rv x2), (3, .int x3)] → St E A s h H locs → AlI R s h0 h cells slots → fX12_steps_60 k60 x0 x1 x2 x3 h = some (r9, h9) → W p l e R s m args below meth c H locs cells slots (MQ below (QG (Qi E A h9 r9) h0 h9) args s R.cells R.slots A) (F0 m 60 ls []) := by
  intro x0 x1 x2 x3 h H locs ls cells slots hl S AI hf
  unfold fX12_steps_60 at hf
  refine lv_iload_n X.1 X.2.1 dX12_steps_60 rfl (lv_at hl 3 rfl) ?_
  refine lv_iload_n X.1 X.2.1 dX12_steps_61 rfl (lv_at hl 1 rfl) ?_
  refine lv_icmp_ge (tgt := 90) X.1 X.2.1 dX12_steps_62 (by decide) (fun c1 => ?_) (fun c1 => ?_)
  · replace hf := (if_pos c1).symm.trans hf
    refine lv_iload_n X.1 X.2.1 dX12_steps_90 rfl (lv_at hl 3 rfl) ?_
    cases hf; exact g_riA X S AI hr hlk dX12_steps_91
  · replace hf := (if_neg c1).symm.trans hf
    refine g_aload_n X (or_rv _) dX12_steps_65 rfl (lv_at hl 2 rfl) ?_
    obtain ⟨v2, hc, hf⟩ := ob_some hf
    refine g_ci S (runV (As := []) (rest := []) X S coX12_221 (by decide) (cX10_running_m l hc) (tkX10_running hc) rfl hl.1 (by decide) rfl AI.fit dX12_steps_66) (fun H locs S => ?_)
    refine lv_if_eq (tgt := 90) X.1 X.2.1 dX12_steps_69 (by decide) (fun c3 => ?_) (fun c3 => ?_)
    · replace hf := (if_pos c3).symm.trans hf
      refine lv_iload_n X.1 X.2.1 dX12_steps_90 rfl (lv_at hl 3 rfl) ?_
      cases hf; exact g_riA X S AI hr hlk dX12_steps_91
    · replace hf := (if_neg c3).symm.trans hf
      refine g_aload_n X (or_rv _) dX12_steps_72 rfl (lv_at hl 0 rfl) ?_
      refine g_gR X S foX12_34 dX12_steps_73 hf (fun v4 hf => ?_)
      refine g_gR X S foX12_93 dX12_steps_76 hf (fun v5 hf => ?_)
      refine g_aload_n X (or_rv _) dX12_steps_79 rfl (lv_at hl 2 rfl) ?_
      obtain ⟨v6, h, hc, hok, hf⟩ := obk2_some hf
      refine g_ci S (runV (As := [rv x2]) (rest := []) X S coX12_228 (by decide) (cX9_step_m l hc) (tkX9_step hc) rfl hl.1 (by decide) rfl AI.fit dX12_steps_80) (fun H locs S => ?_)
      replace AI := AI.kc hok
      refine lv_pop X.1 X.2.1 dX12_steps_83 rfl ?_
      obtain ⟨z7, ez7, hf⟩ := lt_some hf
      refine lv_iinc (v := z7) (lv' := [(3, .int z7), (0, rv x0), (1, .int x1), (2, rv x2)]) X.1 X.2.1 dX12_steps_84 hl (k := 3) rfl (by rw [← ez7]; rfl) (by decide) (by simp [List.filter, cat_rv, cat_wv, cat_sv]) (fun ls hl => ?_)
      refine lv_goto (tgt := 60) X.1 X.2.1 dX12_steps_87 (by decide) ?_
      exact hk60 _ _ _ _ _ _ _ _ _ _ (lv_sub hl [1, 2, 3, 0] rfl) S AI hf
theorem wfX12_steps_60_l {h0 : Hp} {r9 : Int32} {h9 : Hp} (X : Cx p E A 13 R s m args c cX12_steps yX12_steps.cls 4) (hr : meth.sig.returnType = (some .int)) (hlk : meth.locks = false) (hnm : meth.name = yX12_steps.name) :
    ∀ (n : Nat) (x0 : Nat) (x1 : Int32) (x2 : Nat) (x3 : Int32) (h : Hp) (H : Heap) (locs : List Loc) (ls : Array Slot) (cells slots : Nat), lv_has ls 4 [(0, rv x0), (1, .int x1), (2, rv x2), (3, .int x3)] → St E A s h H locs → AlI R s h0 h cells slots → lp (fun _ _ _ _ _ => none) (fX12_steps_60) n x0 x1 x2 x3 h = some (r9, h9) → W p l e R s m args below meth c H locs cells slots (MQ below (QG (Qi E A h9 r9) h0 h9) args s R.cells R.slots A) (F0 m 60 ls []) := by
  intro n
  induction n with
  | zero =>
    intro x0 x1 x2 x3 h H locs ls cells slots hl S AI hf
    exact nomatch hf
  | succ n ih =>
    intro x0 x1 x2 x3 h H locs ls cells slots hl S AI hf
    exact wfX12_steps_60 X hr hlk hnm ih x0 x1 x2 x3 h H locs ls cells slots hl S AI hf
def fX12_steps (a0 : Nat) (a1 : Int32) (h : Hp) : Option (Int32 × Hp) := gd 10 a0 h (ob (gR 10 a0 10 h) fun v1 => ob (gR 2 v1 0 h) fun v2 => ob (fX10_running v2 h) fun v3 => if v3 = 0 then fX12_steps_41 a0 h else if a1 < 1 then fX12_steps_41 a0 h else if 50 < a1 then fX12_steps_41 a0 h else ob (fX10_cell v2 276 h) fun v7 => if v7 ≤ (20000 - a1) then ob (gR 10 a0 10 h) fun v9 => oba h (fX2_remember v9 h) fun h => lp (fun _ _ _ _ _ => none) (fX12_steps_60) FU a0 a1 v2 0 h else fX12_steps_41 a0 h)
theorem tkX12_steps {a0 : Nat} {a1 : Int32} {h : Hp} {r9 : Int32 × Hp} (e : fX12_steps a0 a1 h = some r9) : hK h a0 = 10 := by
  unfold fX12_steps at e
  exact (gd_some e).1
theorem cX12_steps_m (l : Launch) {E : EE} {A : Nat → Prop} {a0 : Nat} {a1 : Int32} {h : Hp} {r9 : Int32} {h9 : Hp} {mc ms : Nat} (hmc : mc + hX h = hC h) (hms : ms + hU h = hZ h) (hf : fX12_steps a0 a1 h = some (r9, h9)) : Met l yX12_steps (wsM yX12_steps cX12_steps 4 (some .int)) (rmm 13 mc ms) (PcF E A h [rv a0, .int a1]) (QG (Qi E A h9 r9) h h9) mc ms A := by
  refine met_ofA (by decide +kernel) (by simp [lg_sl, cat_rv, cat_wv, cat_sv, cat_i, cat_l, cat_a]) hmc hms (fun p e s m args below meth c ls X hr hlk hnm S AI hl => ?_)
  have hl : lv_has ls 4 [(0, rv a0), (1, .int a1)] := by simpa [lv_args, cat_rv, cat_wv, cat_sv, cat_i, cat_l, cat_a] using hl
  generalize hH : s.heap = H at S ⊢
  generalize hlo : ([] : List Loc) = locs at S ⊢
  clear hH hlo
  unfold fX12_steps at hf
  obtain ⟨hth, hf⟩ := gd_some hf
  refine g_aload_n X (or_rv _) dX12_steps_0 rfl (lv_at hl 0 rfl) ?_
  refine g_gR X S foX12_61 dX12_steps_1 hf (fun v1 hf => ?_)
  refine g_gR X S foX12_107 dX12_steps_4 hf (fun v2 hf => ?_)
  refine g_astore_n (i := 2) (lv' := [(2, rv v2), (0, rv a0), (1, .int a1)]) X (or_rv _) dX12_steps_7 rfl hl (by decide) rfl (fun ls hl => ?_)
  refine g_aload_n X (or_rv _) dX12_steps_8 rfl (lv_at hl 0 rfl) ?_
  obtain ⟨v3, hc, hf⟩ := ob_some hf
  refine g_ci S (runV (As := []) (rest := []) X S coX12_221 (by decide) (cX10_running_m l hc) (tkX10_running hc) rfl hl.1 (by decide) rfl AI.fit dX12_steps_9) (fun H locs S => ?_)
  refine lv_if_eq (tgt := 41) X.1 X.2.1 dX12_steps_12 (by decide) (fun c4 => ?_) (fun c4 => ?_)
  · replace hf := (if_pos c4).symm.trans hf
    exact wfX12_steps_41 X hr hlk hnm _ _ _ _ _ _ _ (lv_sub hl [1] rfl) S AI hf
  · replace hf := (if_neg c4).symm.trans hf
    refine lv_iload_n X.1 X.2.1 dX12_steps_15 rfl (lv_at hl 2 rfl) ?_
    refine lv_iconst (v := 1) X.1 X.2.1 dX12_steps_16 (by decide) ?_
    refine lv_icmp_lt (tgt := 41) X.1 X.2.1 dX12_steps_17 (by decide) (fun c5 => ?_) (fun c5 => ?_)
    · replace hf := (if_pos c5).symm.trans hf
      exact wfX12_steps_41 X hr hlk hnm _ _ _ _ _ _ _ (lv_sub hl [1] rfl) S AI hf
    · replace hf := (if_neg c5).symm.trans hf
      refine lv_iload_n X.1 X.2.1 dX12_steps_20 rfl (lv_at hl 2 rfl) ?_
      refine lv_bipush (v := 50) X.1 X.2.1 dX12_steps_21 (by decide) ?_
      refine lv_icmp_gt (tgt := 41) X.1 X.2.1 dX12_steps_23 (by decide) (fun c6 => ?_) (fun c6 => ?_)
      · replace hf := (if_pos c6).symm.trans hf
        exact wfX12_steps_41 X hr hlk hnm _ _ _ _ _ _ _ (lv_sub hl [1] rfl) S AI hf
      · replace hf := (if_neg c6).symm.trans hf
        refine g_aload_n X (or_rv _) dX12_steps_26 rfl (lv_at hl 0 rfl) ?_
        refine lv_sipush (v := 276) X.1 X.2.1 dX12_steps_27 (by decide) ?_
        obtain ⟨v7, hc, hf⟩ := ob_some hf
        refine g_ci S (runV (As := [.int 276]) (rest := []) X S coX12_113 (by decide) (cX10_cell_m l hc) (tkX10_cell hc) rfl hl.1 (by decide) rfl AI.fit dX12_steps_30) (fun H locs S => ?_)
        refine lv_sipush (v := 20000) X.1 X.2.1 dX12_steps_33 (by decide) ?_
        refine lv_iload_n X.1 X.2.1 dX12_steps_36 rfl (lv_at hl 2 rfl) ?_
        refine lv_isub X.1 X.2.1 dX12_steps_37 ?_
        refine lv_icmp_le (tgt := 51) X.1 X.2.1 dX12_steps_38 (by decide) (fun c8 => ?_) (fun c8 => ?_)
        · replace hf := (if_pos c8).symm.trans hf
          refine g_aload_n X (or_rv _) dX12_steps_51 rfl (lv_at hl 1 rfl) ?_
          refine g_gR X S foX12_61 dX12_steps_52 hf (fun v9 hf => ?_)
          obtain ⟨h, hc, hok, hf⟩ := oba_some hf
          refine g_cvA S AI hok (fun hsz => runVF (As := []) (rest := []) X S hsz coX12_225 (by decide) (cX2_remember_m l AI.mcs.1 AI.mcs.2 hc) (tkX2_remember hc) rfl hl.1 (by decide) rfl AI.room dX12_steps_55) (fun H locs cells slots S AI => ?_)
          refine lv_iconst (v := 0) X.1 X.2.1 dX12_steps_58 (by decide) ?_
          refine lv_istore_n (i := 3) (lv' := [(3, .int 0), (2, rv v2), (0, rv a0), (1, .int a1)]) X.1 X.2.1 dX12_steps_59 rfl hl (by decide) (by simp [List.filter, cat_rv, cat_wv, cat_sv]) (fun ls hl => ?_)
          exact wfX12_steps_60_l X hr hlk hnm FU _ _ _ _ _ _ _ _ _ _ (lv_sub hl [2, 3, 1, 0] rfl) S AI hf
        · replace hf := (if_neg c8).symm.trans hf
          exact wfX12_steps_41 X hr hlk hnm _ _ _ _ _ _ _ (lv_sub hl [1] rfl) S AI hf
def fX12_lay_31 (x0 : Nat) (h : Hp) : Option (Int32 × Hp) := ob (gR 10 x0 10 h) fun v1 => obk h (fX2_refuse v1 1 h) fun h => some ((-1), h)
theorem wfX12_lay_31 {h0 : Hp} {r9 : Int32} {h9 : Hp} (X : Cx p E A 13 R s m args c cX12_lay yX12_lay.cls 5) (hr : meth.sig.returnType = (some .int)) (hlk : meth.locks = false) (hnm : meth.name = yX12_lay.name) :
    ∀ (x0 : Nat) (h : Hp) (H : Heap) (locs : List Loc) (ls : Array Slot) (cells slots : Nat), lv_has ls 5 [(0, rv x0)] → St E A s h H locs → AlI R s h0 h cells slots → fX12_lay_31 x0 h = some (r9, h9) → W p l e R s m args below meth c H locs cells slots (MQ below (QG (Qi E A h9 r9) h0 h9) args s R.cells R.slots A) (F0 m 31 ls []) := by
  intro x0 h H locs ls cells slots hl S AI hf
  unfold fX12_lay_31 at hf
  refine g_aload_n X (or_rv _) dX12_lay_31 rfl (lv_at hl 0 rfl) ?_
  refine g_gR X S foX12_61 dX12_lay_32 hf (fun v1 hf => ?_)
  refine lv_iconst (v := 1) X.1 X.2.1 dX12_lay_35 (by decide) ?_
  obtain ⟨h, hc, hok, hf⟩ := obk_some hf
  refine g_cv S (runV (As := [.int 1]) (rest := []) X S coX12_86 (by decide) (cX2_refuse_m l hc) (tkX2_refuse hc) rfl hl.1 (by decide) rfl AI.fit dX12_lay_36) (fun H locs S => ?_)
  replace AI := AI.kc hok
  refine lv_iconst (v := (-1)) X.1 X.2.1 dX12_lay_39 (by decide) ?_
  cases hf; exact g_riA X S AI hr hlk dX12_lay_40
def fX12_lay (a0 : Nat) (a1 : Int32) (a2 : Int32) (h : Hp) : Option (Int32 × Hp) := gd 10 a0 h (ob (gR 10 a0 10 h) fun v1 => ob (gR 2 v1 0 h) fun v2 => ob (fX10_isPlace a1) fun v3 => if v3 = 0 then fX12_lay_31 a0 h else ob (fX10_isByte a2) fun v5 => if v5 = 0 then fX12_lay_31 a0 h else ob (fX10_cell v2 a1 h) fun v7 => if v7 = a2 then fX12_lay_31 a0 h else ob (gR 10 a0 10 h) fun v9 => oba h (fX2_remember v9 h) fun h => ob (fX10_cell v2 a1 h) fun v11 => obk h (fX10_put v2 a1 a2 h) fun h => some (v11, h))
theorem tkX12_lay {a0 : Nat} {a1 : Int32} {a2 : Int32} {h : Hp} {r9 : Int32 × Hp} (e : fX12_lay a0 a1 a2 h = some r9) : hK h a0 = 10 := by
  unfold fX12_lay at e
  exact (gd_some e).1
theorem cX12_lay_m (l : Launch) {E : EE} {A : Nat → Prop} {a0 : Nat} {a1 : Int32} {a2 : Int32} {h : Hp} {r9 : Int32} {h9 : Hp} {mc ms : Nat} (hmc : mc + hX h = hC h) (hms : ms + hU h = hZ h) (hf : fX12_lay a0 a1 a2 h = some (r9, h9)) : Met l yX12_lay (wsM yX12_lay cX12_lay 5 (some .int)) (rmm 13 mc ms) (PcF E A h [rv a0, .int a1, .int a2]) (QG (Qi E A h9 r9) h h9) mc ms A := by
  refine met_ofA (by decide +kernel) (by simp [lg_sl, cat_rv, cat_wv, cat_sv, cat_i, cat_l, cat_a]) hmc hms (fun p e s m args below meth c ls X hr hlk hnm S AI hl => ?_)
  have hl : lv_has ls 5 [(0, rv a0), (1, .int a1), (2, .int a2)] := by simpa [lv_args, cat_rv, cat_wv, cat_sv, cat_i, cat_l, cat_a] using hl
  generalize hH : s.heap = H at S ⊢
  generalize hlo : ([] : List Loc) = locs at S ⊢
  clear hH hlo
  unfold fX12_lay at hf
  obtain ⟨hth, hf⟩ := gd_some hf
  refine g_aload_n X (or_rv _) dX12_lay_0 rfl (lv_at hl 0 rfl) ?_
  refine g_gR X S foX12_61 dX12_lay_1 hf (fun v1 hf => ?_)
  refine g_gR X S foX12_107 dX12_lay_4 hf (fun v2 hf => ?_)
  refine g_astore_n (i := 3) (lv' := [(3, rv v2), (0, rv a0), (1, .int a1), (2, .int a2)]) X (or_rv _) dX12_lay_7 rfl hl (by decide) rfl (fun ls hl => ?_)
  refine lv_iload_n X.1 X.2.1 dX12_lay_8 rfl (lv_at hl 2 rfl) ?_
  obtain ⟨v3, hc, hf⟩ := ob_some hf
  refine g_ci S (runS (As := [.int a1]) (rest := []) X S coX12_232 (by decide) (cX10_isPlace_m l hc) rfl hl.1 (by decide) rfl AI.fit dX12_lay_9) (fun H locs S => ?_)
  refine lv_if_eq (tgt := 31) X.1 X.2.1 dX12_lay_12 (by decide) (fun c4 => ?_) (fun c4 => ?_)
  · replace hf := (if_pos c4).symm.trans hf
    exact wfX12_lay_31 X hr hlk hnm _ _ _ _ _ _ _ (lv_sub hl [1] rfl) S AI hf
  · replace hf := (if_neg c4).symm.trans hf
    refine lv_iload_n X.1 X.2.1 dX12_lay_15 rfl (lv_at hl 3 rfl) ?_
    obtain ⟨v5, hc, hf⟩ := ob_some hf
    refine g_ci S (runS (As := [.int a2]) (rest := []) X S coX12_236 (by decide) (cX10_isByte_m l hc) rfl hl.1 (by decide) rfl AI.fit dX12_lay_16) (fun H locs S => ?_)
    refine lv_if_eq (tgt := 31) X.1 X.2.1 dX12_lay_19 (by decide) (fun c6 => ?_) (fun c6 => ?_)
    · replace hf := (if_pos c6).symm.trans hf
      exact wfX12_lay_31 X hr hlk hnm _ _ _ _ _ _ _ (lv_sub hl [1] rfl) S AI hf
    · replace hf := (if_neg c6).symm.trans hf
      refine g_aload_n X (or_rv _) dX12_lay_22 rfl (lv_at hl 0 rfl) ?_
      refine lv_iload_n X.1 X.2.1 dX12_lay_23 rfl (lv_at hl 2 rfl) ?_
      obtain ⟨v7, hc, hf⟩ := ob_some hf
      refine g_ci S (runV (As := [.int a1]) (rest := []) X S coX12_113 (by decide) (cX10_cell_m l hc) (tkX10_cell hc) rfl hl.1 (by decide) rfl AI.fit dX12_lay_24) (fun H locs S => ?_)
      refine lv_iload_n X.1 X.2.1 dX12_lay_27 rfl (lv_at hl 3 rfl) ?_
      refine lv_icmp_ne (tgt := 41) X.1 X.2.1 dX12_lay_28 (by decide) (fun c8 => ?_) (fun c8 => ?_)
      · replace hf := (if_neg c8).symm.trans hf
        refine g_aload_n X (or_rv _) dX12_lay_41 rfl (lv_at hl 1 rfl) ?_
        refine g_gR X S foX12_61 dX12_lay_42 hf (fun v9 hf => ?_)
        obtain ⟨h, hc, hok, hf⟩ := oba_some hf
        refine g_cvA S AI hok (fun hsz => runVF (As := []) (rest := []) X S hsz coX12_225 (by decide) (cX2_remember_m l AI.mcs.1 AI.mcs.2 hc) (tkX2_remember hc) rfl hl.1 (by decide) rfl AI.room dX12_lay_45) (fun H locs cells slots S AI => ?_)
        refine g_aload_n X (or_rv _) dX12_lay_48 rfl (lv_at hl 0 rfl) ?_
        refine lv_iload_n X.1 X.2.1 dX12_lay_49 rfl (lv_at hl 2 rfl) ?_
        obtain ⟨v11, hc, hf⟩ := ob_some hf
        refine g_ci S (runV (As := [.int a1]) (rest := []) X S coX12_113 (by decide) (cX10_cell_m l hc) (tkX10_cell hc) rfl hl.1 (by decide) rfl AI.fit dX12_lay_50) (fun H locs S => ?_)
        refine lv_istore (lv' := [(4, .int v11), (3, rv v2), (0, rv a0), (1, .int a1), (2, .int a2)]) X.1 X.2.1 dX12_lay_53 hl (by decide) (by simp [List.filter, cat_rv, cat_wv, cat_sv]) (fun ls hl => ?_)
        refine g_aload_n X (or_rv _) dX12_lay_55 rfl (lv_at hl 1 rfl) ?_
        refine lv_iload_n X.1 X.2.1 dX12_lay_56 rfl (lv_at hl 3 rfl) ?_
        refine lv_iload_n X.1 X.2.1 dX12_lay_57 rfl (lv_at hl 4 rfl) ?_
        obtain ⟨h, hc, hok, hf⟩ := obk_some hf
        refine g_cv S (runV (As := [.int a1, .int a2]) (rest := []) X S coX12_239 (by decide) (cX10_put_m l hc) (tkX10_put hc) rfl hl.1 (by decide) rfl AI.fit dX12_lay_58) (fun H locs S => ?_)
        replace AI := AI.kc hok
        refine lv_iload X.1 X.2.1 dX12_lay_61 (lv_at hl 0 rfl) ?_
        cases hf; exact g_riA X S AI hr hlk dX12_lay_63
      · replace hf := (if_pos c8).symm.trans hf
        exact wfX12_lay_31 X hr hlk hnm _ _ _ _ _ _ _ (lv_sub hl [1] rfl) S AI hf
def fX12_set_31 (x0 : Nat) (h : Hp) : Option (Int32 × Hp) := ob (gR 10 x0 10 h) fun v1 => obk h (fX2_refuse v1 1 h) fun h => some (0, h)
theorem wfX12_set_31 {h0 : Hp} {r9 : Int32} {h9 : Hp} (X : Cx p E A 13 R s m args c cX12_set yX12_set.cls 4) (hr : meth.sig.returnType = (some .boolean)) (hlk : meth.locks = false) (hnm : meth.name = yX12_set.name) :
    ∀ (x0 : Nat) (h : Hp) (H : Heap) (locs : List Loc) (ls : Array Slot) (cells slots : Nat), lv_has ls 4 [(0, rv x0)] → St E A s h H locs → AlI R s h0 h cells slots → fX12_set_31 x0 h = some (r9, h9) → W p l e R s m args below meth c H locs cells slots (MQ below (QG (Qi E A h9 r9) h0 h9) args s R.cells R.slots A) (F0 m 31 ls []) := by
  intro x0 h H locs ls cells slots hl S AI hf
  unfold fX12_set_31 at hf
  refine g_aload_n X (or_rv _) dX12_set_31 rfl (lv_at hl 0 rfl) ?_
  refine g_gR X S foX12_61 dX12_set_32 hf (fun v1 hf => ?_)
  refine lv_iconst (v := 1) X.1 X.2.1 dX12_set_35 (by decide) ?_
  obtain ⟨h, hc, hok, hf⟩ := obk_some hf
  refine g_cv S (runV (As := [.int 1]) (rest := []) X S coX12_86 (by decide) (cX2_refuse_m l hc) (tkX2_refuse hc) rfl hl.1 (by decide) rfl AI.fit dX12_set_36) (fun H locs S => ?_)
  replace AI := AI.kc hok
  refine lv_iconst (v := 0) X.1 X.2.1 dX12_set_39 (by decide) ?_
  cases hf; exact g_rzA X S AI hr hlk (by decide) dX12_set_40
def fX12_set (a0 : Nat) (a1 : Int32) (a2 : Int32) (h : Hp) : Option (Int32 × Hp) := gd 10 a0 h (ob (gR 10 a0 10 h) fun v1 => ob (gR 2 v1 0 h) fun v2 => if a1 < 0 then fX12_set_31 a0 h else if 7 < a1 then fX12_set_31 a0 h else ob (fX10_cell v2 (256 + a1) h) fun v5 => if v5 = a2 then fX12_set_31 a0 h else ob (gR 10 a0 10 h) fun v7 => oba h (fX2_remember v7 h) fun h => obk h (fX10_put v2 (256 + a1) a2 h) fun h => some (1, h))
theorem tkX12_set {a0 : Nat} {a1 : Int32} {a2 : Int32} {h : Hp} {r9 : Int32 × Hp} (e : fX12_set a0 a1 a2 h = some r9) : hK h a0 = 10 := by
  unfold fX12_set at e
  exact (gd_some e).1
theorem cX12_set_m (l : Launch) {E : EE} {A : Nat → Prop} {a0 : Nat} {a1 : Int32} {a2 : Int32} {h : Hp} {r9 : Int32} {h9 : Hp} {mc ms : Nat} (hmc : mc + hX h = hC h) (hms : ms + hU h = hZ h) (hf : fX12_set a0 a1 a2 h = some (r9, h9)) : Met l yX12_set (wsM yX12_set cX12_set 4 (some .boolean)) (rmm 13 mc ms) (PcF E A h [rv a0, .int a1, .int a2]) (QG (Qi E A h9 r9) h h9) mc ms A := by
  refine met_ofA (by decide +kernel) (by simp [lg_sl, cat_rv, cat_wv, cat_sv, cat_i, cat_l, cat_a]) hmc hms (fun p e s m args below meth c ls X hr hlk hnm S AI hl => ?_)
  have hl : lv_has ls 4 [(0, rv a0), (1, .int a1), (2, .int a2)] := by simpa [lv_args, cat_rv, cat_wv, cat_sv, cat_i, cat_l, cat_a] using hl
  generalize hH : s.heap = H at S ⊢
  generalize hlo : ([] : List Loc) = locs at S ⊢
  clear hH hlo
  unfold fX12_set at hf
  obtain ⟨hth, hf⟩ := gd_some hf
  refine g_aload_n X (or_rv _) dX12_set_0 rfl (lv_at hl 0 rfl) ?_
  refine g_gR X S foX12_61 dX12_set_1 hf (fun v1 hf => ?_)
  refine g_gR X S foX12_107 dX12_set_4 hf (fun v2 hf => ?_)
  refine g_astore_n (i := 3) (lv' := [(3, rv v2), (0, rv a0), (1, .int a1), (2, .int a2)]) X (or_rv _) dX12_set_7 rfl hl (by decide) rfl (fun ls hl => ?_)
  refine lv_iload_n X.1 X.2.1 dX12_set_8 rfl (lv_at hl 2 rfl) ?_
  refine lv_if_lt (tgt := 31) X.1 X.2.1 dX12_set_9 (by decide) (fun c3 => ?_) (fun c3 => ?_)
  · replace hf := (if_pos c3).symm.trans hf
    exact wfX12_set_31 X hr hlk hnm _ _ _ _ _ _ _ (lv_sub hl [1] rfl) S AI hf
  · replace hf := (if_neg c3).symm.trans hf
    refine lv_iload_n X.1 X.2.1 dX12_set_12 rfl (lv_at hl 2 rfl) ?_
    refine lv_bipush (v := 7) X.1 X.2.1 dX12_set_13 (by decide) ?_
    refine lv_icmp_gt (tgt := 31) X.1 X.2.1 dX12_set_15 (by decide) (fun c4 => ?_) (fun c4 => ?_)
    · replace hf := (if_pos c4).symm.trans hf
      exact wfX12_set_31 X hr hlk hnm _ _ _ _ _ _ _ (lv_sub hl [1] rfl) S AI hf
    · replace hf := (if_neg c4).symm.trans hf
      refine g_aload_n X (or_rv _) dX12_set_18 rfl (lv_at hl 0 rfl) ?_
      refine lv_sipush (v := 256) X.1 X.2.1 dX12_set_19 (by decide) ?_
      refine lv_iload_n X.1 X.2.1 dX12_set_22 rfl (lv_at hl 2 rfl) ?_
      refine lv_iadd X.1 X.2.1 dX12_set_23 ?_
      obtain ⟨v5, hc, hf⟩ := ob_some hf
      refine g_ci S (runV (As := [.int (256 + a1)]) (rest := []) X S coX12_113 (by decide) (cX10_cell_m l hc) (tkX10_cell hc) rfl hl.1 (by decide) rfl AI.fit dX12_set_24) (fun H locs S => ?_)
      refine lv_iload_n X.1 X.2.1 dX12_set_27 rfl (lv_at hl 3 rfl) ?_
      refine lv_icmp_ne (tgt := 41) X.1 X.2.1 dX12_set_28 (by decide) (fun c6 => ?_) (fun c6 => ?_)
      · replace hf := (if_neg c6).symm.trans hf
        refine g_aload_n X (or_rv _) dX12_set_41 rfl (lv_at hl 1 rfl) ?_
        refine g_gR X S foX12_61 dX12_set_42 hf (fun v7 hf => ?_)
        obtain ⟨h, hc, hok, hf⟩ := oba_some hf
        refine g_cvA S AI hok (fun hsz => runVF (As := []) (rest := []) X S hsz coX12_225 (by decide) (cX2_remember_m l AI.mcs.1 AI.mcs.2 hc) (tkX2_remember hc) rfl hl.1 (by decide) rfl AI.room dX12_set_45) (fun H locs cells slots S AI => ?_)
        refine g_aload_n X (or_rv _) dX12_set_48 rfl (lv_at hl 0 rfl) ?_
        refine lv_sipush (v := 256) X.1 X.2.1 dX12_set_49 (by decide) ?_
        refine lv_iload_n X.1 X.2.1 dX12_set_52 rfl (lv_at hl 2 rfl) ?_
        refine lv_iadd X.1 X.2.1 dX12_set_53 ?_
        refine lv_iload_n X.1 X.2.1 dX12_set_54 rfl (lv_at hl 3 rfl) ?_
        obtain ⟨h, hc, hok, hf⟩ := obk_some hf
        refine g_cv S (runV (As := [.int (256 + a1), .int a2]) (rest := []) X S coX12_239 (by decide) (cX10_put_m l hc) (tkX10_put hc) rfl hl.1 (by decide) rfl AI.fit dX12_set_55) (fun H locs S => ?_)
        replace AI := AI.kc hok
        refine lv_iconst (v := 1) X.1 X.2.1 dX12_set_58 (by decide) ?_
        cases hf; exact g_rzA X S AI hr hlk (by decide) dX12_set_59
      · replace hf := (if_pos c6).symm.trans hf
        exact wfX12_set_31 X hr hlk hnm _ _ _ _ _ _ _ (lv_sub hl [1] rfl) S AI hf
def fX12_next_12 (x0 : Nat) (h : Hp) : Option (Int32 × Hp) := ob (gR 10 x0 10 h) fun v1 => obk h (fX2_refuse v1 1 h) fun h => some ((-1), h)
theorem wfX12_next_12 {h0 : Hp} {r9 : Int32} {h9 : Hp} (X : Cx p E A 13 R s m args c cX12_next yX12_next.cls 2) (hr : meth.sig.returnType = (some .int)) (hlk : meth.locks = false) (hnm : meth.name = yX12_next.name) :
    ∀ (x0 : Nat) (h : Hp) (H : Heap) (locs : List Loc) (ls : Array Slot) (cells slots : Nat), lv_has ls 2 [(0, rv x0)] → St E A s h H locs → AlI R s h0 h cells slots → fX12_next_12 x0 h = some (r9, h9) → W p l e R s m args below meth c H locs cells slots (MQ below (QG (Qi E A h9 r9) h0 h9) args s R.cells R.slots A) (F0 m 12 ls []) := by
  intro x0 h H locs ls cells slots hl S AI hf
  unfold fX12_next_12 at hf
  refine g_aload_n X (or_rv _) dX12_next_12 rfl (lv_at hl 0 rfl) ?_
  refine g_gR X S foX12_61 dX12_next_13 hf (fun v1 hf => ?_)
  refine lv_iconst (v := 1) X.1 X.2.1 dX12_next_16 (by decide) ?_
  obtain ⟨h, hc, hok, hf⟩ := obk_some hf
  refine g_cv S (runV (As := [.int 1]) (rest := []) X S coX12_86 (by decide) (cX2_refuse_m l hc) (tkX2_refuse hc) rfl hl.1 (by decide) rfl AI.fit dX12_next_17) (fun H locs S => ?_)
  replace AI := AI.kc hok
  refine lv_iconst (v := (-1)) X.1 X.2.1 dX12_next_20 (by decide) ?_
  cases hf; exact g_riA X S AI hr hlk dX12_next_21
def fX12_next_66 (x0 : Nat) (y0 : Int32) (y1 : Int32) (y2 : Nat) (h : Hp) : Option (Int32 × Hp) := obk h (fX10_put y2 y1 y0 h) fun h => ob (gR 10 x0 10 h) fun v2 => ob (gR 2 v2 0 h) fun v3 => ob (fX10_cell v3 267 h) fun v4 => some (v4, h)
theorem wfX12_next_66 {h0 : Hp} {r9 : Int32} {h9 : Hp} (X : Cx p E A 13 R s m args c cX12_next yX12_next.cls 2) (hr : meth.sig.returnType = (some .int)) (hlk : meth.locks = false) (hnm : meth.name = yX12_next.name) :
    ∀ (x0 : Nat) (y0 : Int32) (y1 : Int32) (y2 : Nat) (h : Hp) (H : Heap) (locs : List Loc) (ls : Array Slot) (cells slots : Nat), lv_has ls 2 [(0, rv x0)] → St E A s h H locs → AlI R s h0 h cells slots → fX12_next_66 x0 y0 y1 y2 h = some (r9, h9) → W p l e R s m args below meth c H locs cells slots (MQ below (QG (Qi E A h9 r9) h0 h9) args s R.cells R.slots A) (F0 m 66 ls [.int y0, .int y1, rv y2]) := by
  intro x0 y0 y1 y2 h H locs ls cells slots hl S AI hf
  unfold fX12_next_66 at hf
  obtain ⟨h, hc, hok, hf⟩ := obk_some hf
  refine g_cv S (runV (As := [.int y1, .int y0]) (rest := []) X S coX12_239 (by decide) (cX10_put_m l hc) (tkX10_put hc) rfl hl.1 (by decide) rfl AI.fit dX12_next_66) (fun H locs S => ?_)
  replace AI := AI.kc hok
  refine g_aload_n X (or_rv _) dX12_next_69 rfl (lv_at hl 0 rfl) ?_
  refine g_gR X S foX12_61 dX12_next_70 hf (fun v2 hf => ?_)
  refine g_gR X S foX12_107 dX12_next_73 hf (fun v3 hf => ?_)
  refine lv_sipush (v := 267) X.1 X.2.1 dX12_next_76 (by decide) ?_
  obtain ⟨v4, hc, hf⟩ := ob_some hf
  refine g_ci S (runV (As := [.int 267]) (rest := []) X S coX12_113 (by decide) (cX10_cell_m l hc) (tkX10_cell hc) rfl hl.1 (by decide) rfl AI.fit dX12_next_79) (fun H locs S => ?_)
  cases hf; exact g_riA X S AI hr hlk dX12_next_82
def fX12_next (a0 : Nat) (a1 : Int32) (h : Hp) : Option (Int32 × Hp) := gd 10 a0 h (if a1 < 0 then fX12_next_12 a0 h else ob (fX12_instructions a0 h) fun v2 => if a1 ≤ v2 then ob (gR 10 a0 10 h) fun v4 => oba h (fX2_remember v4 h) fun h => ob (gR 10 a0 10 h) fun v6 => ob (gR 2 v6 0 h) fun v7 => obk h (fX10_put v7 265 a1 h) fun h => ob (gR 10 a0 10 h) fun v9 => ob (gR 2 v9 0 h) fun v10 => ob (fX12_instructions a0 h) fun v11 => if v11 ≤ a1 then fX12_next_66 a0 1 267 v10 h else fX12_next_66 a0 0 267 v10 h else fX12_next_12 a0 h)
theorem tkX12_next {a0 : Nat} {a1 : Int32} {h : Hp} {r9 : Int32 × Hp} (e : fX12_next a0 a1 h = some r9) : hK h a0 = 10 := by
  unfold fX12_next at e
  exact (gd_some e).1
theorem cX12_next_m (l : Launch) {E : EE} {A : Nat → Prop} {a0 : Nat} {a1 : Int32} {h : Hp} {r9 : Int32} {h9 : Hp} {mc ms : Nat} (hmc : mc + hX h = hC h) (hms : ms + hU h = hZ h) (hf : fX12_next a0 a1 h = some (r9, h9)) : Met l yX12_next (wsM yX12_next cX12_next 2 (some .int)) (rmm 13 mc ms) (PcF E A h [rv a0, .int a1]) (QG (Qi E A h9 r9) h h9) mc ms A := by
  refine met_ofA (by decide +kernel) (by simp [lg_sl, cat_rv, cat_wv, cat_sv, cat_i, cat_l, cat_a]) hmc hms (fun p e s m args below meth c ls X hr hlk hnm S AI hl => ?_)
  have hl : lv_has ls 2 [(0, rv a0), (1, .int a1)] := by simpa [lv_args, cat_rv, cat_wv, cat_sv, cat_i, cat_l, cat_a] using hl
  generalize hH : s.heap = H at S ⊢
  generalize hlo : ([] : List Loc) = locs at S ⊢
  clear hH hlo
  unfold fX12_next at hf
  obtain ⟨hth, hf⟩ := gd_some hf
  refine lv_iload_n X.1 X.2.1 dX12_next_0 rfl (lv_at hl 1 rfl) ?_
  refine lv_if_lt (tgt := 12) X.1 X.2.1 dX12_next_1 (by decide) (fun c1 => ?_) (fun c1 => ?_)
  · replace hf := (if_pos c1).symm.trans hf
    exact wfX12_next_12 X hr hlk hnm _ _ _ _ _ _ _ (lv_sub hl [0] rfl) S AI hf
  · replace hf := (if_neg c1).symm.trans hf
    refine lv_iload_n X.1 X.2.1 dX12_next_4 rfl (lv_at hl 1 rfl) ?_
    refine g_aload_n X (or_rv _) dX12_next_5 rfl (lv_at hl 0 rfl) ?_
    obtain ⟨v2, hc, hf⟩ := ob_some hf
    refine g_ci S (runV (As := []) (rest := [.int a1]) X S coX12_117 (by decide) (cX12_instructions_m l hc) (tkX12_instructions hc) rfl hl.1 (by simp [cat_rv, cat_wv, cat_sv, cat_i, cat_l, cat_a]) rfl AI.fit dX12_next_6) (fun H locs S => ?_)
    refine lv_icmp_le (tgt := 22) X.1 X.2.1 dX12_next_9 (by decide) (fun c3 => ?_) (fun c3 => ?_)
    · replace hf := (if_pos c3).symm.trans hf
      refine g_aload_n X (or_rv _) dX12_next_22 rfl (lv_at hl 0 rfl) ?_
      refine g_gR X S foX12_61 dX12_next_23 hf (fun v4 hf => ?_)
      obtain ⟨h, hc, hok, hf⟩ := oba_some hf
      refine g_cvA S AI hok (fun hsz => runVF (As := []) (rest := []) X S hsz coX12_225 (by decide) (cX2_remember_m l AI.mcs.1 AI.mcs.2 hc) (tkX2_remember hc) rfl hl.1 (by decide) rfl AI.room dX12_next_26) (fun H locs cells slots S AI => ?_)
      refine g_aload_n X (or_rv _) dX12_next_29 rfl (lv_at hl 0 rfl) ?_
      refine g_gR X S foX12_61 dX12_next_30 hf (fun v6 hf => ?_)
      refine g_gR X S foX12_107 dX12_next_33 hf (fun v7 hf => ?_)
      refine lv_sipush (v := 265) X.1 X.2.1 dX12_next_36 (by decide) ?_
      refine lv_iload_n X.1 X.2.1 dX12_next_39 rfl (lv_at hl 1 rfl) ?_
      obtain ⟨h, hc, hok, hf⟩ := obk_some hf
      refine g_cv S (runV (As := [.int 265, .int a1]) (rest := []) X S coX12_239 (by decide) (cX10_put_m l hc) (tkX10_put hc) rfl hl.1 (by decide) rfl AI.fit dX12_next_40) (fun H locs S => ?_)
      replace AI := AI.kc hok
      refine g_aload_n X (or_rv _) dX12_next_43 rfl (lv_at hl 0 rfl) ?_
      refine g_gR X S foX12_61 dX12_next_44 hf (fun v9 hf => ?_)
      refine g_gR X S foX12_107 dX12_next_47 hf (fun v10 hf => ?_)
      refine lv_sipush (v := 267) X.1 X.2.1 dX12_next_50 (by decide) ?_
      refine lv_iload_n X.1 X.2.1 dX12_next_53 rfl (lv_at hl 1 rfl) ?_
      refine g_aload_n X (or_rv _) dX12_next_54 rfl (lv_at hl 0 rfl) ?_
      obtain ⟨v11, hc, hf⟩ := ob_some hf
      refine g_ci S (runV (As := []) (rest := [.int a1, .int 267, rv v10]) X S coX12_117 (by decide) (cX12_instructions_m l hc) (tkX12_instructions hc) rfl hl.1 (by simp [cat_rv, cat_wv, cat_sv, cat_i, cat_l, cat_a]) rfl AI.fit dX12_next_55) (fun H locs S => ?_)
      refine lv_icmp_ge (tgt := 65) X.1 X.2.1 dX12_next_58 (by decide) (fun c12 => ?_) (fun c12 => ?_)
      · replace hf := (if_pos c12).symm.trans hf
        refine lv_iconst (v := 1) X.1 X.2.1 dX12_next_65 (by decide) ?_
        exact wfX12_next_66 X hr hlk hnm _ _ _ _ _ _ _ _ _ _ (lv_sub hl [0] rfl) S AI hf
      · replace hf := (if_neg c12).symm.trans hf
        refine lv_iconst (v := 0) X.1 X.2.1 dX12_next_61 (by decide) ?_
        refine lv_goto (tgt := 66) X.1 X.2.1 dX12_next_62 (by decide) ?_
        exact wfX12_next_66 X hr hlk hnm _ _ _ _ _ _ _ _ _ _ (lv_sub hl [0] rfl) S AI hf
    · replace hf := (if_neg c3).symm.trans hf
      exact wfX12_next_12 X hr hlk hnm _ _ _ _ _ _ _ (lv_sub hl [0] rfl) S AI hf
def fX12_begin (a0 : Nat) (h : Hp) : Option (Int32 × Hp) := gd 10 a0 h (ob (gR 10 a0 10 h) fun v1 => oba h (fX2_remember v1 h) fun h => ob (gR 10 a0 5 h) fun v3 => ob (gR 4 v3 0 h) fun v4 => ob (gR 10 a0 10 h) fun v5 => ob (gR 2 v5 0 h) fun v6 => obk h (fX9_restart v4 v6 h) fun h => ob (gR 10 a0 10 h) fun v8 => ob (gR 2 v8 0 h) fun v9 => ob (fX10_cell v9 267 h) fun v10 => some (v10, h))
theorem tkX12_begin {a0 : Nat} {h : Hp} {r9 : Int32 × Hp} (e : fX12_begin a0 h = some r9) : hK h a0 = 10 := by
  unfold fX12_begin at e
  exact (gd_some e).1
theorem cX12_begin_m (l : Launch) {E : EE} {A : Nat → Prop} {a0 : Nat} {h : Hp} {r9 : Int32} {h9 : Hp} {mc ms : Nat} (hmc : mc + hX h = hC h) (hms : ms + hU h = hZ h) (hf : fX12_begin a0 h = some (r9, h9)) : Met l yX12_begin (wsM yX12_begin cX12_begin 1 (some .int)) (rmm 13 mc ms) (PcF E A h [rv a0]) (QG (Qi E A h9 r9) h h9) mc ms A := by
  refine met_ofA (by decide +kernel) (by simp [lg_sl, cat_rv, cat_wv, cat_sv, cat_i, cat_l, cat_a]) hmc hms (fun p e s m args below meth c ls X hr hlk hnm S AI hl => ?_)
  have hl : lv_has ls 1 [(0, rv a0)] := by simpa [lv_args, cat_rv, cat_wv, cat_sv, cat_i, cat_l, cat_a] using hl
  generalize hH : s.heap = H at S ⊢
  generalize hlo : ([] : List Loc) = locs at S ⊢
  clear hH hlo
  unfold fX12_begin at hf
  obtain ⟨hth, hf⟩ := gd_some hf
  refine g_aload_n X (or_rv _) dX12_begin_0 rfl (lv_at hl 0 rfl) ?_
  refine g_gR X S foX12_61 dX12_begin_1 hf (fun v1 hf => ?_)
  obtain ⟨h, hc, hok, hf⟩ := oba_some hf
  refine g_cvA S AI hok (fun hsz => runVF (As := []) (rest := []) X S hsz coX12_225 (by decide) (cX2_remember_m l AI.mcs.1 AI.mcs.2 hc) (tkX2_remember hc) rfl hl.1 (by decide) rfl AI.room dX12_begin_4) (fun H locs cells slots S AI => ?_)
  refine g_aload_n X (or_rv _) dX12_begin_7 rfl (lv_at hl 0 rfl) ?_
  refine g_gR X S foX12_34 dX12_begin_8 hf (fun v3 hf => ?_)
  refine g_gR X S foX12_93 dX12_begin_11 hf (fun v4 hf => ?_)
  refine g_aload_n X (or_rv _) dX12_begin_14 rfl (lv_at hl 0 rfl) ?_
  refine g_gR X S foX12_61 dX12_begin_15 hf (fun v5 hf => ?_)
  refine g_gR X S foX12_107 dX12_begin_18 hf (fun v6 hf => ?_)
  obtain ⟨h, hc, hok, hf⟩ := obk_some hf
  refine g_cv S (runV (As := [rv v6]) (rest := []) X S coX12_243 (by decide) (cX9_restart_m l hc) (tkX9_restart hc) rfl hl.1 (by decide) rfl AI.fit dX12_begin_21) (fun H locs S => ?_)
  replace AI := AI.kc hok
  refine g_aload_n X (or_rv _) dX12_begin_24 rfl (lv_at hl 0 rfl) ?_
  refine g_gR X S foX12_61 dX12_begin_25 hf (fun v8 hf => ?_)
  refine g_gR X S foX12_107 dX12_begin_28 hf (fun v9 hf => ?_)
  refine lv_sipush (v := 267) X.1 X.2.1 dX12_begin_31 (by decide) ?_
  obtain ⟨v10, hc, hf⟩ := ob_some hf
  refine g_ci S (runV (As := [.int 267]) (rest := []) X S coX12_113 (by decide) (cX10_cell_m l hc) (tkX10_cell hc) rfl hl.1 (by decide) rfl AI.fit dX12_begin_34) (fun H locs S => ?_)
  cases hf; exact g_riA X S AI hr hlk dX12_begin_37
def fX2_takeBack (a0 : Nat) (h : Hp) : Option (Hp) := gd 2 a0 h (ob (gI 2 a0 2 h) fun v1 => ob (gI 2 a0 3 h) fun v2 => lt (irm ((v1 + v2) - 1) 40) fun z3 => ob (gI 2 a0 3 h) fun v4 => if v4 ≤ 0 then some h else if z3 < 0 then some h else ob (gR 2 a0 1 h) fun v7 => ob (aR 103 v7 z3 h) fun v8 => if v8 = 0 then some h else ob (gR 2 a0 0 h) fun v10 => ob (gR 2 a0 1 h) fun v11 => ob (aR 103 v11 z3 h) fun v12 => ob (fX10_become v10 v12 h) fun h => ob (gI 2 a0 3 h) fun v14 => ob (pI 2 a0 3 (v14 - 1) h) fun h => some h)
theorem tkX2_takeBack {a0 : Nat} {h : Hp} {r9 : Hp} (e : fX2_takeBack a0 h = some r9) : hK h a0 = 2 := by
  unfold fX2_takeBack at e
  exact (gd_some e).1
theorem cX2_takeBack_m (l : Launch) {E : EE} {A : Nat → Prop} {a0 : Nat} {h : Hp} {h9 : Hp} (hf : fX2_takeBack a0 h = some h9) : Met l yX2_takeBack (wsM yX2_takeBack cX2_takeBack 2 none) (rmm 9 0 0) (PcE E A h [rv a0]) (Qv E A h9) 0 0 A := by
  refine met_of (by decide +kernel) (by simp [lg_sl, cat_rv, cat_wv, cat_sv, cat_i, cat_l, cat_a]) (fun p e s m args below meth c ls X hr hlk hnm S hl => ?_)
  have hl : lv_has ls 2 [(0, rv a0)] := by simpa [lv_args, cat_rv, cat_wv, cat_sv, cat_i, cat_l, cat_a] using hl
  generalize hH : s.heap = H at S ⊢
  generalize hlo : ([] : List Loc) = locs at S ⊢
  clear hH hlo
  unfold fX2_takeBack at hf
  obtain ⟨hth, hf⟩ := gd_some hf
  refine g_aload_n X (or_rv _) dX2_takeBack_0 rfl (lv_at hl 0 rfl) ?_
  refine g_gI X S foX2_36 rfl dX2_takeBack_1 hf (fun v1 hf => ?_)
  refine g_aload_n X (or_rv _) dX2_takeBack_4 rfl (lv_at hl 0 rfl) ?_
  refine g_gI X S foX2_29 rfl dX2_takeBack_5 hf (fun v2 hf => ?_)
  refine lv_iadd X.1 X.2.1 dX2_takeBack_8 ?_
  refine lv_iconst (v := 1) X.1 X.2.1 dX2_takeBack_9 (by decide) ?_
  refine lv_isub X.1 X.2.1 dX2_takeBack_10 ?_
  refine lv_bipush (v := 40) X.1 X.2.1 dX2_takeBack_11 (by decide) ?_
  refine g_irem X (by decide) dX2_takeBack_13 ?_
  refine g_lti hf (fun z3 hf => ?_)
  refine lv_istore_n (i := 1) (lv' := [(1, .int z3), (0, rv a0)]) X.1 X.2.1 dX2_takeBack_14 rfl hl (by decide) (by simp [List.filter, cat_rv, cat_wv, cat_sv]) (fun ls hl => ?_)
  refine g_aload_n X (or_rv _) dX2_takeBack_15 rfl (lv_at hl 1 rfl) ?_
  refine g_gI X S foX2_29 rfl dX2_takeBack_16 hf (fun v4 hf => ?_)
  refine lv_if_le (tgt := 58) X.1 X.2.1 dX2_takeBack_19 (by decide) (fun c5 => ?_) (fun c5 => ?_)
  · replace hf := (if_pos c5).symm.trans hf
    cases hf; exact g_rv X S hr hlk dX2_takeBack_58
  · replace hf := (if_neg c5).symm.trans hf
    refine lv_iload_n X.1 X.2.1 dX2_takeBack_22 rfl (lv_at hl 0 rfl) ?_
    refine lv_if_lt (tgt := 58) X.1 X.2.1 dX2_takeBack_23 (by decide) (fun c6 => ?_) (fun c6 => ?_)
    · replace hf := (if_pos c6).symm.trans hf
      cases hf; exact g_rv X S hr hlk dX2_takeBack_58
    · replace hf := (if_neg c6).symm.trans hf
      refine g_aload_n X (or_rv _) dX2_takeBack_26 rfl (lv_at hl 1 rfl) ?_
      refine g_gR X S foX2_18 dX2_takeBack_27 hf (fun v7 hf => ?_)
      refine lv_iload_n X.1 X.2.1 dX2_takeBack_30 rfl (lv_at hl 0 rfl) ?_
      refine g_aR X S (by decide) dX2_takeBack_31 hf (fun v8 hf => ?_)
      refine g_ifnull (tgt := 58) X dX2_takeBack_32 (by decide) (fun c9 => ?_) (fun c9 => ?_)
      · replace hf := (if_pos c9).symm.trans hf
        cases hf; exact g_rv X S hr hlk dX2_takeBack_58
      · replace hf := (if_neg c9).symm.trans hf
        refine g_aload_n X (or_rv _) dX2_takeBack_35 rfl (lv_at hl 1 rfl) ?_
        refine g_gR X S foX2_12 dX2_takeBack_36 hf (fun v10 hf => ?_)
        refine g_aload_n X (or_rv _) dX2_takeBack_39 rfl (lv_at hl 1 rfl) ?_
        refine g_gR X S foX2_18 dX2_takeBack_40 hf (fun v11 hf => ?_)
        refine lv_iload_n X.1 X.2.1 dX2_takeBack_43 rfl (lv_at hl 0 rfl) ?_
        refine g_aR X S (by decide) dX2_takeBack_44 hf (fun v12 hf => ?_)
        obtain ⟨h, hc, hf⟩ := ob_some hf
        refine g_cv S (runV (As := [rv v12]) (rest := []) X S coX2_43 (by decide) (cX10_become_m l hc) (tkX10_become hc) rfl hl.1 (by decide) rfl ⟨Nat.zero_le _, Nat.zero_le _⟩ dX2_takeBack_45) (fun H locs S => ?_)
        refine g_aload_n X (or_rv _) dX2_takeBack_48 rfl (lv_at hl 1 rfl) ?_
        refine lv_dup X.1 X.2.1 dX2_takeBack_49 (cat_rv _) ?_
        refine g_gI X S foX2_29 rfl dX2_takeBack_50 hf (fun v14 hf => ?_)
        refine lv_iconst (v := 1) X.1 X.2.1 dX2_takeBack_53 (by decide) ?_
        refine lv_isub X.1 X.2.1 dX2_takeBack_54 ?_
        refine g_pI X S fpX2_29 (Or.inl rfl) dX2_takeBack_55 hf (fun h H locs hm hf S => ?_)
        cases hf; exact g_rv X S hr hlk dX2_takeBack_58
def fX12_undo (a0 : Nat) (h : Hp) : Option (Int32 × Hp) := gd 10 a0 h (ob (gR 10 a0 10 h) fun v1 => ob (fX2_kept v1 h) fun v2 => if v2 = 0 then some ((-1), h) else ob (gR 10 a0 10 h) fun v4 => ob (fX2_takeBack v4 h) fun h => ob (gR 10 a0 10 h) fun v6 => ob (fX2_kept v6 h) fun v7 => some (v7, h))
theorem tkX12_undo {a0 : Nat} {h : Hp} {r9 : Int32 × Hp} (e : fX12_undo a0 h = some r9) : hK h a0 = 10 := by
  unfold fX12_undo at e
  exact (gd_some e).1
theorem cX12_undo_m (l : Launch) {E : EE} {A : Nat → Prop} {a0 : Nat} {h : Hp} {r9 : Int32} {h9 : Hp} (hf : fX12_undo a0 h = some (r9, h9)) : Met l yX12_undo (wsM yX12_undo cX12_undo 1 (some .int)) (rmm 10 0 0) (PcE E A h [rv a0]) (Qi E A h9 r9) 0 0 A := by
  refine met_of (by decide +kernel) (by simp [lg_sl, cat_rv, cat_wv, cat_sv, cat_i, cat_l, cat_a]) (fun p e s m args below meth c ls X hr hlk hnm S hl => ?_)
  have hl : lv_has ls 1 [(0, rv a0)] := by simpa [lv_args, cat_rv, cat_wv, cat_sv, cat_i, cat_l, cat_a] using hl
  generalize hH : s.heap = H at S ⊢
  generalize hlo : ([] : List Loc) = locs at S ⊢
  clear hH hlo
  unfold fX12_undo at hf
  obtain ⟨hth, hf⟩ := gd_some hf
  refine g_aload_n X (or_rv _) dX12_undo_0 rfl (lv_at hl 0 rfl) ?_
  refine g_gR X S foX12_61 dX12_undo_1 hf (fun v1 hf => ?_)
  obtain ⟨v2, hc, hf⟩ := ob_some hf
  refine g_ci S (runV (As := []) (rest := []) X S coX12_126 (by decide) (cX2_kept_m l hc) (tkX2_kept hc) rfl hl.1 (by decide) rfl ⟨Nat.zero_le _, Nat.zero_le _⟩ dX12_undo_4) (fun H locs S => ?_)
  refine lv_if_ne (tgt := 12) X.1 X.2.1 dX12_undo_7 (by decide) (fun c3 => ?_) (fun c3 => ?_)
  · replace hf := (if_neg c3).symm.trans hf
    refine g_aload_n X (or_rv _) dX12_undo_12 rfl (lv_at hl 0 rfl) ?_
    refine g_gR X S foX12_61 dX12_undo_13 hf (fun v4 hf => ?_)
    obtain ⟨h, hc, hf⟩ := ob_some hf
    refine g_cv S (runV (As := []) (rest := []) X S coX12_247 (by decide) (cX2_takeBack_m l hc) (tkX2_takeBack hc) rfl hl.1 (by decide) rfl ⟨Nat.zero_le _, Nat.zero_le _⟩ dX12_undo_16) (fun H locs S => ?_)
    refine g_aload_n X (or_rv _) dX12_undo_19 rfl (lv_at hl 0 rfl) ?_
    refine g_gR X S foX12_61 dX12_undo_20 hf (fun v6 hf => ?_)
    obtain ⟨v7, hc, hf⟩ := ob_some hf
    refine g_ci S (runV (As := []) (rest := []) X S coX12_126 (by decide) (cX2_kept_m l hc) (tkX2_kept hc) rfl hl.1 (by decide) rfl ⟨Nat.zero_le _, Nat.zero_le _⟩ dX12_undo_23) (fun H locs S => ?_)
    cases hf; exact g_ri X S hr hlk dX12_undo_26
  · replace hf := (if_pos c3).symm.trans hf
    refine lv_iconst (v := (-1)) X.1 X.2.1 dX12_undo_10 (by decide) ?_
    cases hf; exact g_ri X S hr hlk dX12_undo_11
def fX12_needSteps_10 (h : Hp) : Option (Nat ⊕ Unit) := some (.inl 2)
theorem wfX12_needSteps_10 {h : Hp} (X : Cx p E A 8 R s m args c cX12_needSteps yX12_needSteps.cls 2) (hr : meth.sig.returnType = none) (hlk : meth.locks = false) (hnm : meth.name = yX12_needSteps.name) :
    ∀ (H : Heap) (locs : List Loc) (ls : Array Slot), lv_has ls 2 [] → St E A s h H locs → fX12_needSteps_10 h  = some (.inr ()) → W p l e R s m args below meth c H locs 0 0 (MQ below (Qv E A h) args s 0 0 A) (F0 m 10 ls []) := by
  intro  H locs ls hl S hf
  unfold fX12_needSteps_10 at hf
  cases hf
def fX12_needSteps (a0 : Nat) (a1 : Int32) (h : Hp) : Option (Nat ⊕ Unit) := gd 10 a0 h (if a1 < 0 then fX12_needSteps_10 h  else if a1 ≤ 100 then some (.inr ()) else fX12_needSteps_10 h )
theorem tkX12_needSteps {a0 : Nat} {a1 : Int32} {h : Hp} {r9 : Nat ⊕ Unit} (e : fX12_needSteps a0 a1 h = some r9) : hK h a0 = 10 := by
  unfold fX12_needSteps at e
  exact (gd_some e).1
theorem cX12_needSteps_m (l : Launch) {E : EE} {A : Nat → Prop} {a0 : Nat} {a1 : Int32} {h : Hp} (hf : fX12_needSteps a0 a1 h = some (.inr ())) : Met l yX12_needSteps (wsM yX12_needSteps cX12_needSteps 2 none) (rmm 8 0 0) (PcE E A h [rv a0, .int a1]) (Qv E A h) 0 0 A := by
  refine met_of (by decide +kernel) (by simp [lg_sl, cat_rv, cat_wv, cat_sv, cat_i, cat_l, cat_a]) (fun p e s m args below meth c ls X hr hlk hnm S hl => ?_)
  have hl : lv_has ls 2 [(0, rv a0), (1, .int a1)] := by simpa [lv_args, cat_rv, cat_wv, cat_sv, cat_i, cat_l, cat_a] using hl
  generalize hH : s.heap = H at S ⊢
  generalize hlo : ([] : List Loc) = locs at S ⊢
  clear hH hlo
  unfold fX12_needSteps at hf
  obtain ⟨hth, hf⟩ := gd_some hf
  refine lv_iload_n X.1 X.2.1 dX12_needSteps_0 rfl (lv_at hl 1 rfl) ?_
  refine lv_if_lt (tgt := 10) X.1 X.2.1 dX12_needSteps_1 (by decide) (fun c1 => ?_) (fun c1 => ?_)
  · replace hf := (if_pos c1).symm.trans hf
    exact wfX12_needSteps_10 X hr hlk hnm _ _ _ (lv_sub hl [] rfl) S hf
  · replace hf := (if_neg c1).symm.trans hf
    refine lv_iload_n X.1 X.2.1 dX12_needSteps_4 rfl (lv_at hl 1 rfl) ?_
    refine lv_bipush (v := 100) X.1 X.2.1 dX12_needSteps_5 (by decide) ?_
    refine lv_icmp_le (tgt := 21) X.1 X.2.1 dX12_needSteps_7 (by decide) (fun c2 => ?_) (fun c2 => ?_)
    · replace hf := (if_pos c2).symm.trans hf
      cases hf; exact g_rv X S hr hlk dX12_needSteps_21
    · replace hf := (if_neg c2).symm.trans hf
      exact wfX12_needSteps_10 X hr hlk hnm _ _ _ (lv_sub hl [] rfl) S hf
theorem wfX12_needSteps_10_x {h : Hp} {k9 : Nat} (X : Cx p E A 8 R s m args c cX12_needSteps yX12_needSteps.cls 2) (hr : meth.sig.returnType = none) (hlk : meth.locks = false) (hnm : meth.name = yX12_needSteps.name) (hne : ∀ x ∈ c.exceptionTable.toList, False) (hlt : l.stackTraces = false) (hR1 : 0 + 1 ≤ R.cells ∧ 0 + 6 ≤ R.slots) :
    ∀ (H : Heap) (locs : List Loc) (ls : Array Slot), lv_has ls 2 [] → St E A s h H locs → fX12_needSteps_10 h  = some (.inl k9) → W p l e R s m args below meth c H locs 0 0 (vx_MQ below noQ (XX E A h k9) args s 1 6 A) (F0 m 10 ls []) := by
  intro  H locs ls hl S hf
  unfold fX12_needSteps_10 at hf
  cases hf
  exact g_throwW (rest := []) X S hne hlk hlt hl.1 (by decide) (by decide) tfX12_72_311 dX12_needSteps_10 dX12_needSteps_13 dX12_needSteps_14 dX12_needSteps_17 dX12_needSteps_20 hR1
theorem cX12_needSteps_x (l : Launch) (hlt : l.stackTraces = false) {E : EE} {A : Nat → Prop} {a0 : Nat} {a1 : Int32} {h : Hp} {k9 : Nat} (hf : fX12_needSteps a0 a1 h = some (.inl k9)) : vx_Met l yX12_needSteps (wsM yX12_needSteps cX12_needSteps 2 none) (rmm 8 1 6) (PcE E A h [rv a0, .int a1]) noQ (XX E A h k9) 1 6 A := by
  refine met_ofX (by decide +kernel) (by simp [lg_sl, cat_rv, cat_wv, cat_sv, cat_i, cat_l, cat_a]) (fun p e s m args below meth c ls X hr hlk hnm hne S hl => ?_)
  have hR1 : 0 + 1 ≤ (rmm 8 1 6).cells ∧ 0 + 6 ≤ (rmm 8 1 6).slots := ⟨Nat.le_refl _, Nat.le_refl _⟩
  have hl : lv_has ls 2 [(0, rv a0), (1, .int a1)] := by simpa [lv_args, cat_rv, cat_wv, cat_sv, cat_i, cat_l, cat_a] using hl
  generalize hH : s.heap = H at S ⊢
  generalize hlo : ([] : List Loc) = locs at S ⊢
  clear hH hlo
  unfold fX12_needSteps at hf
  obtain ⟨hth, hf⟩ := gd_some hf
  refine lv_iload_n X.1 X.2.1 dX12_needSteps_0 rfl (lv_at hl 1 rfl) ?_
  refine lv_if_lt (tgt := 10) X.1 X.2.1 dX12_needSteps_1 (by decide) (fun c1 => ?_) (fun c1 => ?_)
  · replace hf := (if_pos c1).symm.trans hf
    exact wfX12_needSteps_10_x X hr hlk hnm hne hlt hR1 _ _ _ (lv_sub hl [] rfl) S hf
  · replace hf := (if_neg c1).symm.trans hf
    refine lv_iload_n X.1 X.2.1 dX12_needSteps_4 rfl (lv_at hl 1 rfl) ?_
    refine lv_bipush (v := 100) X.1 X.2.1 dX12_needSteps_5 (by decide) ?_
    refine lv_icmp_le (tgt := 21) X.1 X.2.1 dX12_needSteps_7 (by decide) (fun c2 => ?_) (fun c2 => ?_)
    · replace hf := (if_pos c2).symm.trans hf
      cases hf
    · replace hf := (if_neg c2).symm.trans hf
      exact wfX12_needSteps_10_x X hr hlk hnm hne hlt hR1 _ _ _ (lv_sub hl [] rfl) S hf
def fX4_behind_10 (k10 : Nat → Int32 → Int32 → Hp → Option (Nat × Hp)) (x0 : Nat) (x2 : Int32) (x3 : Int32) (h : Hp) : Option (Nat × Hp) := if x2 ≤ x3 then ob (gR 4 x0 1 h) fun v2 => some (v2, h) else ob (gR 4 x0 1 h) fun v3 => ob (fX10_running v3 h) fun v4 => if v4 = 0 then ob (gR 4 x0 1 h) fun v6 => some (v6, h) else ob (gR 4 x0 0 h) fun v7 => ob (gR 4 x0 1 h) fun v8 => ob2 (fX9_step v7 v8 h) fun v9 h => lt (x3 + 1) fun z10 => k10 x0 x2 z10 h
theorem wfX4_behind_10 {k10 : Nat → Int32 → Int32 → Hp → Option (Nat × Hp)} {r9 : Nat} {h9 : Hp} (X : Cx p E A 13 R s m args c cX4_behind yX4_behind.cls 4) (hr : meth.sig.returnType = (some (.object "NibbleEngine$Row"))) (hlk : meth.locks = false) (hnm : meth.name = yX4_behind.name) (hk10 : ∀ (x0 : Nat) (x2 : Int32) (x3 : Int32) (h : Hp) (H : Heap) (locs : List Loc) (ls : Array Slot), lv_has ls 4 [(0, rv x0), (2, .int x2), (3, .int x3)] → St E A s h H locs → k10 x0 x2 x3 h = some (r9, h9) → W p l e R s m args below meth c H locs 0 0 (MQ below (Qq E A h9 (oR r9)) args s 0 0 A) (F0 m 10 ls [])) :
    ∀ (x0 : Nat) (x2 : Int32) (x3 : Int32) (h : Hp) (H : Heap) (locs : List Loc) (ls : Array Slot), lv_has ls 4 [(0, rv x0), (2, .int x2), (3, .int x3)] → St E A s h H locs → fX4_behind_10 k10 x0 x2 x3 h = some (r9, h9) → W p l e R s m args below meth c H locs 0 0 (MQ below (Qq E A h9 (oR r9)) args s 0 0 A) (F0 m 10 ls []) := by
  intro x0 x2 x3 h H locs ls hl S hf
  unfold fX4_behind_10 at hf
  refine lv_iload_n X.1 X.2.1 dX4_behind_10 rfl (lv_at hl 2 rfl) ?_
  refine lv_iload_n X.1 X.2.1 dX4_behind_11 rfl (lv_at hl 1 rfl) ?_
  refine lv_icmp_ge (tgt := 43) X.1 X.2.1 dX4_behind_12 (by decide) (fun c1 => ?_) (fun c1 => ?_)
  · replace hf := (if_pos c1).symm.trans hf
    refine g_aload_n X (or_rv _) dX4_behind_43 rfl (lv_at hl 0 rfl) ?_
    refine g_gR X S foX4_21 dX4_behind_44 hf (fun v2 hf => ?_)
    cases hf; exact g_rq X S hr (Or.inl ⟨_, rfl⟩) hlk dX4_behind_47
  · replace hf := (if_neg c1).symm.trans hf
    refine g_aload_n X (or_rv _) dX4_behind_15 rfl (lv_at hl 0 rfl) ?_
    refine g_gR X S foX4_21 dX4_behind_16 hf (fun v3 hf => ?_)
    obtain ⟨v4, hc, hf⟩ := ob_some hf
    refine g_ci S (runV (As := []) (rest := []) X S coX4_36 (by decide) (cX10_running_m l hc) (tkX10_running hc) rfl hl.1 (by decide) rfl ⟨Nat.zero_le _, Nat.zero_le _⟩ dX4_behind_19) (fun H locs S => ?_)
    refine lv_if_eq (tgt := 43) X.1 X.2.1 dX4_behind_22 (by decide) (fun c5 => ?_) (fun c5 => ?_)
    · replace hf := (if_pos c5).symm.trans hf
      refine g_aload_n X (or_rv _) dX4_behind_43 rfl (lv_at hl 0 rfl) ?_
      refine g_gR X S foX4_21 dX4_behind_44 hf (fun v6 hf => ?_)
      cases hf; exact g_rq X S hr (Or.inl ⟨_, rfl⟩) hlk dX4_behind_47
    · replace hf := (if_neg c5).symm.trans hf
      refine g_aload_n X (or_rv _) dX4_behind_25 rfl (lv_at hl 0 rfl) ?_
      refine g_gR X S foX4_12 dX4_behind_26 hf (fun v7 hf => ?_)
      refine g_aload_n X (or_rv _) dX4_behind_29 rfl (lv_at hl 0 rfl) ?_
      refine g_gR X S foX4_21 dX4_behind_30 hf (fun v8 hf => ?_)
      obtain ⟨v9, h, hc, hf⟩ := ob2_some hf
      refine g_ci S (runV (As := [rv v8]) (rest := []) X S coX4_40 (by decide) (cX9_step_m l hc) (tkX9_step hc) rfl hl.1 (by decide) rfl ⟨Nat.zero_le _, Nat.zero_le _⟩ dX4_behind_33) (fun H locs S => ?_)
      refine lv_pop X.1 X.2.1 dX4_behind_36 rfl ?_
      obtain ⟨z10, ez10, hf⟩ := lt_some hf
      refine lv_iinc (v := z10) (lv' := [(3, .int z10), (0, rv x0), (2, .int x2)]) X.1 X.2.1 dX4_behind_37 hl (k := 2) rfl (by rw [← ez10]; rfl) (by decide) rfl (fun ls hl => ?_)
      refine lv_goto (tgt := 10) X.1 X.2.1 dX4_behind_40 (by decide) ?_
      exact hk10 _ _ _ _ _ _ _ (lv_sub hl [1, 2, 0] rfl) S hf
theorem wfX4_behind_10_l {r9 : Nat} {h9 : Hp} (X : Cx p E A 13 R s m args c cX4_behind yX4_behind.cls 4) (hr : meth.sig.returnType = (some (.object "NibbleEngine$Row"))) (hlk : meth.locks = false) (hnm : meth.name = yX4_behind.name) :
    ∀ (n : Nat) (x0 : Nat) (x2 : Int32) (x3 : Int32) (h : Hp) (H : Heap) (locs : List Loc) (ls : Array Slot), lv_has ls 4 [(0, rv x0), (2, .int x2), (3, .int x3)] → St E A s h H locs → lp (fun _ _ _ _ => none) (fX4_behind_10) n x0 x2 x3 h = some (r9, h9) → W p l e R s m args below meth c H locs 0 0 (MQ below (Qq E A h9 (oR r9)) args s 0 0 A) (F0 m 10 ls []) := by
  intro n
  induction n with
  | zero =>
    intro x0 x2 x3 h H locs ls hl S hf
    exact nomatch hf
  | succ n ih =>
    intro x0 x2 x3 h H locs ls hl S hf
    exact wfX4_behind_10 X hr hlk hnm ih x0 x2 x3 h H locs ls hl S hf
def fX4_behind (a0 : Nat) (a1 : Nat) (a2 : Int32) (h : Hp) : Option (Nat × Hp) := gd 4 a0 h (ob (gR 4 a0 1 h) fun v1 => ob (fX10_become v1 a1 h) fun h => lp (fun _ _ _ _ => none) (fX4_behind_10) FU a0 a2 0 h)
theorem tkX4_behind {a0 : Nat} {a1 : Nat} {a2 : Int32} {h : Hp} {r9 : Nat × Hp} (e : fX4_behind a0 a1 a2 h = some r9) : hK h a0 = 4 := by
  unfold fX4_behind at e
  exact (gd_some e).1
theorem cX4_behind_m (l : Launch) {E : EE} {A : Nat → Prop} {a0 : Nat} {a1 : Nat} {a2 : Int32} {h : Hp} {r9 : Nat} {h9 : Hp} (hf : fX4_behind a0 a1 a2 h = some (r9, h9)) : Met l yX4_behind (wsM yX4_behind cX4_behind 4 (some (.object "NibbleEngine$Row"))) (rmm 13 0 0) (PcE E A h [rv a0, rv a1, .int a2]) (Qq E A h9 (oR r9)) 0 0 A := by
  refine met_of (by decide +kernel) (by simp [lg_sl, cat_rv, cat_wv, cat_sv, cat_i, cat_l, cat_a]) (fun p e s m args below meth c ls X hr hlk hnm S hl => ?_)
  have hl : lv_has ls 4 [(0, rv a0), (1, rv a1), (2, .int a2)] := by simpa [lv_args, cat_rv, cat_wv, cat_sv, cat_i, cat_l, cat_a] using hl
  generalize hH : s.heap = H at S ⊢
  generalize hlo : ([] : List Loc) = locs at S ⊢
  clear hH hlo
  unfold fX4_behind at hf
  obtain ⟨hth, hf⟩ := gd_some hf
  refine g_aload_n X (or_rv _) dX4_behind_0 rfl (lv_at hl 0 rfl) ?_
  refine g_gR X S foX4_21 dX4_behind_1 hf (fun v1 hf => ?_)
  refine g_aload_n X (or_rv _) dX4_behind_4 rfl (lv_at hl 1 rfl) ?_
  obtain ⟨h, hc, hf⟩ := ob_some hf
  refine g_cv S (runV (As := [rv a1]) (rest := []) X S coX4_32 (by decide) (cX10_become_m l hc) (tkX10_become hc) rfl hl.1 (by decide) rfl ⟨Nat.zero_le _, Nat.zero_le _⟩ dX4_behind_5) (fun H locs S => ?_)
  refine lv_iconst (v := 0) X.1 X.2.1 dX4_behind_8 (by decide) ?_
  refine lv_istore_n (i := 3) (lv' := [(3, .int 0), (0, rv a0), (1, rv a1), (2, .int a2)]) X.1 X.2.1 dX4_behind_9 rfl hl (by decide) rfl (fun ls hl => ?_)
  exact wfX4_behind_10_l X hr hlk hnm FU _ _ _ _ _ _ _ (lv_sub hl [1, 3, 0] rfl) S hf
def fX12_then (a0 : Nat) (a1 : Int32) (a2 : Int32) (h : Hp) : Option ((Nat ⊕ Int32) × Hp) := gd 10 a0 h (oe (fX12_needPlace a0 a2 h) (fun k => some (.inl k, h)) fun v1 => oe (fX12_needSteps a0 a1 h) (fun k => some (.inl k, h)) fun v2 => ob (gR 10 a0 5 h) fun v3 => ob (gR 10 a0 10 h) fun v4 => ob (gR 2 v4 0 h) fun v5 => ob2 (fX4_behind v3 v5 a1 h) fun v6 h => ob (fX10_cell v6 a2 h) fun v7 => some (.inr v7, h))
theorem tkX12_then {a0 : Nat} {a1 : Int32} {a2 : Int32} {h : Hp} {r9 : (Nat ⊕ Int32) × Hp} (e : fX12_then a0 a1 a2 h = some r9) : hK h a0 = 10 := by
  unfold fX12_then at e
  exact (gd_some e).1
theorem cX12_then_m (l : Launch) {E : EE} {A : Nat → Prop} {a0 : Nat} {a1 : Int32} {a2 : Int32} {h : Hp} {r9 : Int32} {h9 : Hp} (hf : fX12_then a0 a1 a2 h = some (.inr r9, h9)) : Met l yX12_then (wsM yX12_then cX12_then 3 (some .int)) (rmm 14 0 0) (PcE E A h [rv a0, .int a1, .int a2]) (Qi E A h9 r9) 0 0 A := by
  refine met_of (by decide +kernel) (by simp [lg_sl, cat_rv, cat_wv, cat_sv, cat_i, cat_l, cat_a]) (fun p e s m args below meth c ls X hr hlk hnm S hl => ?_)
  have hl : lv_has ls 3 [(0, rv a0), (1, .int a1), (2, .int a2)] := by simpa [lv_args, cat_rv, cat_wv, cat_sv, cat_i, cat_l, cat_a] using hl
  generalize hH : s.heap = H at S ⊢
  generalize hlo : ([] : List Loc) = locs at S ⊢
  clear hH hlo
  unfold fX12_then at hf
  obtain ⟨hth, hf⟩ := gd_some hf
  refine g_aload_n X (or_rv _) dX12_then_0 rfl (lv_at hl 0 rfl) ?_
  refine lv_iload_n X.1 X.2.1 dX12_then_1 rfl (lv_at hl 2 rfl) ?_
  rcases oe_some hf with ⟨k, hc, hf⟩ | ⟨v1, hc, hf⟩
  · cases hf
  refine g_cv S (runV (As := [.int a2]) (rest := []) X S coX12_140 (by decide) (cX12_needPlace_m l hc) (tkX12_needPlace hc) rfl hl.1 (by decide) rfl ⟨Nat.zero_le _, Nat.zero_le _⟩ dX12_then_2) (fun H locs S => ?_)
  refine g_aload_n X (or_rv _) dX12_then_5 rfl (lv_at hl 0 rfl) ?_
  refine lv_iload_n X.1 X.2.1 dX12_then_6 rfl (lv_at hl 1 rfl) ?_
  rcases oe_some hf with ⟨k, hc, hf⟩ | ⟨v2, hc, hf⟩
  · cases hf
  refine g_cv S (runV (As := [.int a1]) (rest := []) X S coX12_250 (by decide) (cX12_needSteps_m l hc) (tkX12_needSteps hc) rfl hl.1 (by decide) rfl ⟨Nat.zero_le _, Nat.zero_le _⟩ dX12_then_7) (fun H locs S => ?_)
  refine g_aload_n X (or_rv _) dX12_then_10 rfl (lv_at hl 0 rfl) ?_
  refine g_gR X S foX12_34 dX12_then_11 hf (fun v3 hf => ?_)
  refine g_aload_n X (or_rv _) dX12_then_14 rfl (lv_at hl 0 rfl) ?_
  refine g_gR X S foX12_61 dX12_then_15 hf (fun v4 hf => ?_)
  refine g_gR X S foX12_107 dX12_then_18 hf (fun v5 hf => ?_)
  refine lv_iload_n X.1 X.2.1 dX12_then_21 rfl (lv_at hl 1 rfl) ?_
  obtain ⟨v6, h, hc, hf⟩ := ob2_some hf
  refine g_cq S (runV (As := [rv v5, .int a1]) (rest := []) X S coX12_253 (by decide) (cX4_behind_m l hc) (tkX4_behind hc) rfl hl.1 (by decide) rfl ⟨Nat.zero_le _, Nat.zero_le _⟩ dX12_then_22) (fun H locs S => ?_)
  change W _ _ _ _ _ _ _ _ _ _ _ _ _ _ _ (F0 _ _ _ (rv v6 :: _))
  refine lv_iload_n X.1 X.2.1 dX12_then_25 rfl (lv_at hl 2 rfl) ?_
  obtain ⟨v7, hc, hf⟩ := ob_some hf
  refine g_ci S (runV (As := [.int a2]) (rest := []) X S coX12_113 (by decide) (cX10_cell_m l hc) (tkX10_cell hc) rfl hl.1 (by decide) rfl ⟨Nat.zero_le _, Nat.zero_le _⟩ dX12_then_26) (fun H locs S => ?_)
  cases hf; exact g_ri X S hr hlk dX12_then_29
theorem cX12_then_x (l : Launch) (hlt : l.stackTraces = false) {E : EE} {A : Nat → Prop} {a0 : Nat} {a1 : Int32} {a2 : Int32} {h : Hp} {k9 : Nat} {h9 : Hp} (hf : fX12_then a0 a1 a2 h = some (.inl k9, h9)) : vx_Met l yX12_then (wsM yX12_then cX12_then 3 (some .int)) (rmm 14 1 6) (PcE E A h [rv a0, .int a1, .int a2]) noQ (XX E A h9 k9) 1 6 A := by
  refine met_ofX (by decide +kernel) (by simp [lg_sl, cat_rv, cat_wv, cat_sv, cat_i, cat_l, cat_a]) (fun p e s m args below meth c ls X hr hlk hnm hne S hl => ?_)
  have hR1 : 0 + 1 ≤ (rmm 14 1 6).cells ∧ 0 + 6 ≤ (rmm 14 1 6).slots := ⟨Nat.le_refl _, Nat.le_refl _⟩
  have hl : lv_has ls 3 [(0, rv a0), (1, .int a1), (2, .int a2)] := by simpa [lv_args, cat_rv, cat_wv, cat_sv, cat_i, cat_l, cat_a] using hl
  generalize hH : s.heap = H at S ⊢
  generalize hlo : ([] : List Loc) = locs at S ⊢
  clear hH hlo
  unfold fX12_then at hf
  obtain ⟨hth, hf⟩ := gd_some hf
  refine g_aload_n X (or_rv _) dX12_then_0 rfl (lv_at hl 0 rfl) ?_
  refine lv_iload_n X.1 X.2.1 dX12_then_1 rfl (lv_at hl 2 rfl) ?_
  rcases oe_some hf with ⟨k, hc, hf⟩ | ⟨v1, hc, hf⟩
  · cases hf
    exact g_pass S hne hlk (runVX (As := [.int a2]) (rest := []) X S coX12_140 (by decide) (cX12_needPlace_x l hlt hc) (tkX12_needPlace hc) rfl hl.1 (by decide) rfl hR1 dX12_then_2)
  refine g_cv S (runV (As := [.int a2]) (rest := []) X S coX12_140 (by decide) (cX12_needPlace_m l hc) (tkX12_needPlace hc) rfl hl.1 (by decide) rfl ⟨Nat.zero_le _, Nat.zero_le _⟩ dX12_then_2) (fun H locs S => ?_)
  refine g_aload_n X (or_rv _) dX12_then_5 rfl (lv_at hl 0 rfl) ?_
  refine lv_iload_n X.1 X.2.1 dX12_then_6 rfl (lv_at hl 1 rfl) ?_
  rcases oe_some hf with ⟨k, hc, hf⟩ | ⟨v2, hc, hf⟩
  · cases hf
    exact g_pass S hne hlk (runVX (As := [.int a1]) (rest := []) X S coX12_250 (by decide) (cX12_needSteps_x l hlt hc) (tkX12_needSteps hc) rfl hl.1 (by decide) rfl hR1 dX12_then_7)
  refine g_cv S (runV (As := [.int a1]) (rest := []) X S coX12_250 (by decide) (cX12_needSteps_m l hc) (tkX12_needSteps hc) rfl hl.1 (by decide) rfl ⟨Nat.zero_le _, Nat.zero_le _⟩ dX12_then_7) (fun H locs S => ?_)
  refine g_aload_n X (or_rv _) dX12_then_10 rfl (lv_at hl 0 rfl) ?_
  refine g_gR X S foX12_34 dX12_then_11 hf (fun v3 hf => ?_)
  refine g_aload_n X (or_rv _) dX12_then_14 rfl (lv_at hl 0 rfl) ?_
  refine g_gR X S foX12_61 dX12_then_15 hf (fun v4 hf => ?_)
  refine g_gR X S foX12_107 dX12_then_18 hf (fun v5 hf => ?_)
  refine lv_iload_n X.1 X.2.1 dX12_then_21 rfl (lv_at hl 1 rfl) ?_
  obtain ⟨v6, h, hc, hf⟩ := ob2_some hf
  refine g_cq S (runV (As := [rv v5, .int a1]) (rest := []) X S coX12_253 (by decide) (cX4_behind_m l hc) (tkX4_behind hc) rfl hl.1 (by decide) rfl ⟨Nat.zero_le _, Nat.zero_le _⟩ dX12_then_22) (fun H locs S => ?_)
  change W _ _ _ _ _ _ _ _ _ _ _ _ _ _ _ (F0 _ _ _ (rv v6 :: _))
  refine lv_iload_n X.1 X.2.1 dX12_then_25 rfl (lv_at hl 2 rfl) ?_
  obtain ⟨v7, hc, hf⟩ := ob_some hf
  refine g_ci S (runV (As := [.int a2]) (rest := []) X S coX12_113 (by decide) (cX10_cell_m l hc) (tkX10_cell hc) rfl hl.1 (by decide) rfl ⟨Nat.zero_le _, Nat.zero_le _⟩ dX12_then_26) (fun H locs S => ?_)
  cases hf
def fX12_holds (a0 : Nat) (a1 : Int32) (a2 : Int32) (h : Hp) : Option ((Nat ⊕ Int32) × Hp) := gd 10 a0 h (oe (fX12_needRegister a0 a2 h) (fun k => some (.inl k, h)) fun v1 => oe (fX12_needSteps a0 a1 h) (fun k => some (.inl k, h)) fun v2 => ob (gR 10 a0 5 h) fun v3 => ob (gR 10 a0 10 h) fun v4 => ob (gR 2 v4 0 h) fun v5 => ob2 (fX4_behind v3 v5 a1 h) fun v6 h => ob (fX10_cell v6 (256 + a2) h) fun v7 => some (.inr v7, h))
theorem tkX12_holds {a0 : Nat} {a1 : Int32} {a2 : Int32} {h : Hp} {r9 : (Nat ⊕ Int32) × Hp} (e : fX12_holds a0 a1 a2 h = some r9) : hK h a0 = 10 := by
  unfold fX12_holds at e
  exact (gd_some e).1
theorem cX12_holds_m (l : Launch) {E : EE} {A : Nat → Prop} {a0 : Nat} {a1 : Int32} {a2 : Int32} {h : Hp} {r9 : Int32} {h9 : Hp} (hf : fX12_holds a0 a1 a2 h = some (.inr r9, h9)) : Met l yX12_holds (wsM yX12_holds cX12_holds 3 (some .int)) (rmm 14 0 0) (PcE E A h [rv a0, .int a1, .int a2]) (Qi E A h9 r9) 0 0 A := by
  refine met_of (by decide +kernel) (by simp [lg_sl, cat_rv, cat_wv, cat_sv, cat_i, cat_l, cat_a]) (fun p e s m args below meth c ls X hr hlk hnm S hl => ?_)
  have hl : lv_has ls 3 [(0, rv a0), (1, .int a1), (2, .int a2)] := by simpa [lv_args, cat_rv, cat_wv, cat_sv, cat_i, cat_l, cat_a] using hl
  generalize hH : s.heap = H at S ⊢
  generalize hlo : ([] : List Loc) = locs at S ⊢
  clear hH hlo
  unfold fX12_holds at hf
  obtain ⟨hth, hf⟩ := gd_some hf
  refine g_aload_n X (or_rv _) dX12_holds_0 rfl (lv_at hl 0 rfl) ?_
  refine lv_iload_n X.1 X.2.1 dX12_holds_1 rfl (lv_at hl 2 rfl) ?_
  rcases oe_some hf with ⟨k, hc, hf⟩ | ⟨v1, hc, hf⟩
  · cases hf
  refine g_cv S (runV (As := [.int a2]) (rest := []) X S coX12_143 (by decide) (cX12_needRegister_m l hc) (tkX12_needRegister hc) rfl hl.1 (by decide) rfl ⟨Nat.zero_le _, Nat.zero_le _⟩ dX12_holds_2) (fun H locs S => ?_)
  refine g_aload_n X (or_rv _) dX12_holds_5 rfl (lv_at hl 0 rfl) ?_
  refine lv_iload_n X.1 X.2.1 dX12_holds_6 rfl (lv_at hl 1 rfl) ?_
  rcases oe_some hf with ⟨k, hc, hf⟩ | ⟨v2, hc, hf⟩
  · cases hf
  refine g_cv S (runV (As := [.int a1]) (rest := []) X S coX12_250 (by decide) (cX12_needSteps_m l hc) (tkX12_needSteps hc) rfl hl.1 (by decide) rfl ⟨Nat.zero_le _, Nat.zero_le _⟩ dX12_holds_7) (fun H locs S => ?_)
  refine g_aload_n X (or_rv _) dX12_holds_10 rfl (lv_at hl 0 rfl) ?_
  refine g_gR X S foX12_34 dX12_holds_11 hf (fun v3 hf => ?_)
  refine g_aload_n X (or_rv _) dX12_holds_14 rfl (lv_at hl 0 rfl) ?_
  refine g_gR X S foX12_61 dX12_holds_15 hf (fun v4 hf => ?_)
  refine g_gR X S foX12_107 dX12_holds_18 hf (fun v5 hf => ?_)
  refine lv_iload_n X.1 X.2.1 dX12_holds_21 rfl (lv_at hl 1 rfl) ?_
  obtain ⟨v6, h, hc, hf⟩ := ob2_some hf
  refine g_cq S (runV (As := [rv v5, .int a1]) (rest := []) X S coX12_253 (by decide) (cX4_behind_m l hc) (tkX4_behind hc) rfl hl.1 (by decide) rfl ⟨Nat.zero_le _, Nat.zero_le _⟩ dX12_holds_22) (fun H locs S => ?_)
  change W _ _ _ _ _ _ _ _ _ _ _ _ _ _ _ (F0 _ _ _ (rv v6 :: _))
  refine lv_sipush (v := 256) X.1 X.2.1 dX12_holds_25 (by decide) ?_
  refine lv_iload_n X.1 X.2.1 dX12_holds_28 rfl (lv_at hl 2 rfl) ?_
  refine lv_iadd X.1 X.2.1 dX12_holds_29 ?_
  obtain ⟨v7, hc, hf⟩ := ob_some hf
  refine g_ci S (runV (As := [.int (256 + a2)]) (rest := []) X S coX12_113 (by decide) (cX10_cell_m l hc) (tkX10_cell hc) rfl hl.1 (by decide) rfl ⟨Nat.zero_le _, Nat.zero_le _⟩ dX12_holds_30) (fun H locs S => ?_)
  cases hf; exact g_ri X S hr hlk dX12_holds_33
theorem cX12_holds_x (l : Launch) (hlt : l.stackTraces = false) {E : EE} {A : Nat → Prop} {a0 : Nat} {a1 : Int32} {a2 : Int32} {h : Hp} {k9 : Nat} {h9 : Hp} (hf : fX12_holds a0 a1 a2 h = some (.inl k9, h9)) : vx_Met l yX12_holds (wsM yX12_holds cX12_holds 3 (some .int)) (rmm 14 1 6) (PcE E A h [rv a0, .int a1, .int a2]) noQ (XX E A h9 k9) 1 6 A := by
  refine met_ofX (by decide +kernel) (by simp [lg_sl, cat_rv, cat_wv, cat_sv, cat_i, cat_l, cat_a]) (fun p e s m args below meth c ls X hr hlk hnm hne S hl => ?_)
  have hR1 : 0 + 1 ≤ (rmm 14 1 6).cells ∧ 0 + 6 ≤ (rmm 14 1 6).slots := ⟨Nat.le_refl _, Nat.le_refl _⟩
  have hl : lv_has ls 3 [(0, rv a0), (1, .int a1), (2, .int a2)] := by simpa [lv_args, cat_rv, cat_wv, cat_sv, cat_i, cat_l, cat_a] using hl
  generalize hH : s.heap = H at S ⊢
  generalize hlo : ([] : List Loc) = locs at S ⊢
  clear hH hlo
  unfold fX12_holds at hf
  obtain ⟨hth, hf⟩ := gd_some hf
  refine g_aload_n X (or_rv _) dX12_holds_0 rfl (lv_at hl 0 rfl) ?_
  refine lv_iload_n X.1 X.2.1 dX12_holds_1 rfl (lv_at hl 2 rfl) ?_
  rcases oe_some hf with ⟨k, hc, hf⟩ | ⟨v1, hc, hf⟩
  · cases hf
    exact g_pass S hne hlk (runVX (As := [.int a2]) (rest := []) X S coX12_143 (by decide) (cX12_needRegister_x l hlt hc) (tkX12_needRegister hc) rfl hl.1 (by decide) rfl hR1 dX12_holds_2)
  refine g_cv S (runV (As := [.int a2]) (rest := []) X S coX12_143 (by decide) (cX12_needRegister_m l hc) (tkX12_needRegister hc) rfl hl.1 (by decide) rfl ⟨Nat.zero_le _, Nat.zero_le _⟩ dX12_holds_2) (fun H locs S => ?_)
  refine g_aload_n X (or_rv _) dX12_holds_5 rfl (lv_at hl 0 rfl) ?_
  refine lv_iload_n X.1 X.2.1 dX12_holds_6 rfl (lv_at hl 1 rfl) ?_
  rcases oe_some hf with ⟨k, hc, hf⟩ | ⟨v2, hc, hf⟩
  · cases hf
    exact g_pass S hne hlk (runVX (As := [.int a1]) (rest := []) X S coX12_250 (by decide) (cX12_needSteps_x l hlt hc) (tkX12_needSteps hc) rfl hl.1 (by decide) rfl hR1 dX12_holds_7)
  refine g_cv S (runV (As := [.int a1]) (rest := []) X S coX12_250 (by decide) (cX12_needSteps_m l hc) (tkX12_needSteps hc) rfl hl.1 (by decide) rfl ⟨Nat.zero_le _, Nat.zero_le _⟩ dX12_holds_7) (fun H locs S => ?_)
  refine g_aload_n X (or_rv _) dX12_holds_10 rfl (lv_at hl 0 rfl) ?_
  refine g_gR X S foX12_34 dX12_holds_11 hf (fun v3 hf => ?_)
  refine g_aload_n X (or_rv _) dX12_holds_14 rfl (lv_at hl 0 rfl) ?_
  refine g_gR X S foX12_61 dX12_holds_15 hf (fun v4 hf => ?_)
  refine g_gR X S foX12_107 dX12_holds_18 hf (fun v5 hf => ?_)
  refine lv_iload_n X.1 X.2.1 dX12_holds_21 rfl (lv_at hl 1 rfl) ?_
  obtain ⟨v6, h, hc, hf⟩ := ob2_some hf
  refine g_cq S (runV (As := [rv v5, .int a1]) (rest := []) X S coX12_253 (by decide) (cX4_behind_m l hc) (tkX4_behind hc) rfl hl.1 (by decide) rfl ⟨Nat.zero_le _, Nat.zero_le _⟩ dX12_holds_22) (fun H locs S => ?_)
  change W _ _ _ _ _ _ _ _ _ _ _ _ _ _ _ (F0 _ _ _ (rv v6 :: _))
  refine lv_sipush (v := 256) X.1 X.2.1 dX12_holds_25 (by decide) ?_
  refine lv_iload_n X.1 X.2.1 dX12_holds_28 rfl (lv_at hl 2 rfl) ?_
  refine lv_iadd X.1 X.2.1 dX12_holds_29 ?_
  obtain ⟨v7, hc, hf⟩ := ob_some hf
  refine g_ci S (runV (As := [.int (256 + a2)]) (rest := []) X S coX12_113 (by decide) (cX10_cell_m l hc) (tkX10_cell hc) rfl hl.1 (by decide) rfl ⟨Nat.zero_le _, Nat.zero_le _⟩ dX12_holds_30) (fun H locs S => ?_)
  cases hf
def fX12_needWhat_9 (h : Hp) : Option (Nat ⊕ Unit) := some (.inl 1)
theorem wfX12_needWhat_9 {h : Hp} (X : Cx p E A 8 R s m args c cX12_needWhat yX12_needWhat.cls 3) (hr : meth.sig.returnType = none) (hlk : meth.locks = false) (hnm : meth.name = yX12_needWhat.name) :
    ∀ (H : Heap) (locs : List Loc) (ls : Array Slot), lv_has ls 3 [] → St E A s h H locs → fX12_needWhat_9 h  = some (.inr ()) → W p l e R s m args below meth c H locs 0 0 (MQ below (Qv E A h) args s 0 0 A) (F0 m 9 ls []) := by
  intro  H locs ls hl S hf
  unfold fX12_needWhat_9 at hf
  cases hf
def fX12_needWhat (a0 : Nat) (a1 : Int32) (a2 : Int32) (h : Hp) : Option (Nat ⊕ Unit) := gd 10 a0 h (if a1 < 0 then fX12_needWhat_9 h  else if a1 ≤ a2 then some (.inr ()) else fX12_needWhat_9 h )
theorem tkX12_needWhat {a0 : Nat} {a1 : Int32} {a2 : Int32} {h : Hp} {r9 : Nat ⊕ Unit} (e : fX12_needWhat a0 a1 a2 h = some r9) : hK h a0 = 10 := by
  unfold fX12_needWhat at e
  exact (gd_some e).1
theorem cX12_needWhat_m (l : Launch) {E : EE} {A : Nat → Prop} {a0 : Nat} {a1 : Int32} {a2 : Int32} {h : Hp} (hf : fX12_needWhat a0 a1 a2 h = some (.inr ())) : Met l yX12_needWhat (wsM yX12_needWhat cX12_needWhat 3 none) (rmm 8 0 0) (PcE E A h [rv a0, .int a1, .int a2]) (Qv E A h) 0 0 A := by
  refine met_of (by decide +kernel) (by simp [lg_sl, cat_rv, cat_wv, cat_sv, cat_i, cat_l, cat_a]) (fun p e s m args below meth c ls X hr hlk hnm S hl => ?_)
  have hl : lv_has ls 3 [(0, rv a0), (1, .int a1), (2, .int a2)] := by simpa [lv_args, cat_rv, cat_wv, cat_sv, cat_i, cat_l, cat_a] using hl
  generalize hH : s.heap = H at S ⊢
  generalize hlo : ([] : List Loc) = locs at S ⊢
  clear hH hlo
  unfold fX12_needWhat at hf
  obtain ⟨hth, hf⟩ := gd_some hf
  refine lv_iload_n X.1 X.2.1 dX12_needWhat_0 rfl (lv_at hl 1 rfl) ?_
  refine lv_if_lt (tgt := 9) X.1 X.2.1 dX12_needWhat_1 (by decide) (fun c1 => ?_) (fun c1 => ?_)
  · replace hf := (if_pos c1).symm.trans hf
    exact wfX12_needWhat_9 X hr hlk hnm _ _ _ (lv_sub hl [] rfl) S hf
  · replace hf := (if_neg c1).symm.trans hf
    refine lv_iload_n X.1 X.2.1 dX12_needWhat_4 rfl (lv_at hl 1 rfl) ?_
    refine lv_iload_n X.1 X.2.1 dX12_needWhat_5 rfl (lv_at hl 2 rfl) ?_
    refine lv_icmp_le (tgt := 20) X.1 X.2.1 dX12_needWhat_6 (by decide) (fun c2 => ?_) (fun c2 => ?_)
    · replace hf := (if_pos c2).symm.trans hf
      cases hf; exact g_rv X S hr hlk dX12_needWhat_20
    · replace hf := (if_neg c2).symm.trans hf
      exact wfX12_needWhat_9 X hr hlk hnm _ _ _ (lv_sub hl [] rfl) S hf
theorem wfX12_needWhat_9_x {h : Hp} {k9 : Nat} (X : Cx p E A 8 R s m args c cX12_needWhat yX12_needWhat.cls 3) (hr : meth.sig.returnType = none) (hlk : meth.locks = false) (hnm : meth.name = yX12_needWhat.name) (hne : ∀ x ∈ c.exceptionTable.toList, False) (hlt : l.stackTraces = false) (hR1 : 0 + 1 ≤ R.cells ∧ 0 + 6 ≤ R.slots) :
    ∀ (H : Heap) (locs : List Loc) (ls : Array Slot), lv_has ls 3 [] → St E A s h H locs → fX12_needWhat_9 h  = some (.inl k9) → W p l e R s m args below meth c H locs 0 0 (vx_MQ below noQ (XX E A h k9) args s 1 6 A) (F0 m 9 ls []) := by
  intro  H locs ls hl S hf
  unfold fX12_needWhat_9 at hf
  cases hf
  exact g_throwW (rest := []) X S hne hlk hlt hl.1 (by decide) (by decide) tfX12_135_309 dX12_needWhat_9 dX12_needWhat_12 dX12_needWhat_13 dX12_needWhat_16 dX12_needWhat_19 hR1
theorem cX12_needWhat_x (l : Launch) (hlt : l.stackTraces = false) {E : EE} {A : Nat → Prop} {a0 : Nat} {a1 : Int32} {a2 : Int32} {h : Hp} {k9 : Nat} (hf : fX12_needWhat a0 a1 a2 h = some (.inl k9)) : vx_Met l yX12_needWhat (wsM yX12_needWhat cX12_needWhat 3 none) (rmm 8 1 6) (PcE E A h [rv a0, .int a1, .int a2]) noQ (XX E A h k9) 1 6 A := by
  refine met_ofX (by decide +kernel) (by simp [lg_sl, cat_rv, cat_wv, cat_sv, cat_i, cat_l, cat_a]) (fun p e s m args below meth c ls X hr hlk hnm hne S hl => ?_)
  have hR1 : 0 + 1 ≤ (rmm 8 1 6).cells ∧ 0 + 6 ≤ (rmm 8 1 6).slots := ⟨Nat.le_refl _, Nat.le_refl _⟩
  have hl : lv_has ls 3 [(0, rv a0), (1, .int a1), (2, .int a2)] := by simpa [lv_args, cat_rv, cat_wv, cat_sv, cat_i, cat_l, cat_a] using hl
  generalize hH : s.heap = H at S ⊢
  generalize hlo : ([] : List Loc) = locs at S ⊢
  clear hH hlo
  unfold fX12_needWhat at hf
  obtain ⟨hth, hf⟩ := gd_some hf
  refine lv_iload_n X.1 X.2.1 dX12_needWhat_0 rfl (lv_at hl 1 rfl) ?_
  refine lv_if_lt (tgt := 9) X.1 X.2.1 dX12_needWhat_1 (by decide) (fun c1 => ?_) (fun c1 => ?_)
  · replace hf := (if_pos c1).symm.trans hf
    exact wfX12_needWhat_9_x X hr hlk hnm hne hlt hR1 _ _ _ (lv_sub hl [] rfl) S hf
  · replace hf := (if_neg c1).symm.trans hf
    refine lv_iload_n X.1 X.2.1 dX12_needWhat_4 rfl (lv_at hl 1 rfl) ?_
    refine lv_iload_n X.1 X.2.1 dX12_needWhat_5 rfl (lv_at hl 2 rfl) ?_
    refine lv_icmp_le (tgt := 20) X.1 X.2.1 dX12_needWhat_6 (by decide) (fun c2 => ?_) (fun c2 => ?_)
    · replace hf := (if_pos c2).symm.trans hf
      cases hf
    · replace hf := (if_neg c2).symm.trans hf
      exact wfX12_needWhat_9_x X hr hlk hnm hne hlt hR1 _ _ _ (lv_sub hl [] rfl) S hf
def fX12_where (a0 : Nat) (a1 : Int32) (a2 : Int32) (h : Hp) : Option ((Nat ⊕ Int32) × Hp) := gd 10 a0 h (oe (fX12_needWhat a0 a2 3 h) (fun k => some (.inl k, h)) fun v1 => oe (fX12_needSteps a0 a1 h) (fun k => some (.inl k, h)) fun v2 => ob (gR 10 a0 5 h) fun v3 => ob (gR 10 a0 10 h) fun v4 => ob (gR 2 v4 0 h) fun v5 => ob2 (fX4_behind v3 v5 a1 h) fun v6 h => if a2 = 0 then ob (fX10_cell v6 265 h) fun v8 => some (.inr v8, h) else if a2 = 1 then ob (fX10_cell v6 264 h) fun v10 => some (.inr v10, h) else if a2 = 2 then ob (fX10_cell v6 267 h) fun v12 => some (.inr v12, h) else ob (fX10_cell v6 277 h) fun v13 => some (.inr v13, h))
theorem tkX12_where {a0 : Nat} {a1 : Int32} {a2 : Int32} {h : Hp} {r9 : (Nat ⊕ Int32) × Hp} (e : fX12_where a0 a1 a2 h = some r9) : hK h a0 = 10 := by
  unfold fX12_where at e
  exact (gd_some e).1
theorem cX12_where_m (l : Launch) {E : EE} {A : Nat → Prop} {a0 : Nat} {a1 : Int32} {a2 : Int32} {h : Hp} {r9 : Int32} {h9 : Hp} (hf : fX12_where a0 a1 a2 h = some (.inr r9, h9)) : Met l yX12_where (wsM yX12_where cX12_where 4 (some .int)) (rmm 14 0 0) (PcE E A h [rv a0, .int a1, .int a2]) (Qi E A h9 r9) 0 0 A := by
  refine met_of (by decide +kernel) (by simp [lg_sl, cat_rv, cat_wv, cat_sv, cat_i, cat_l, cat_a]) (fun p e s m args below meth c ls X hr hlk hnm S hl => ?_)
  have hl : lv_has ls 4 [(0, rv a0), (1, .int a1), (2, .int a2)] := by simpa [lv_args, cat_rv, cat_wv, cat_sv, cat_i, cat_l, cat_a] using hl
  generalize hH : s.heap = H at S ⊢
  generalize hlo : ([] : List Loc) = locs at S ⊢
  clear hH hlo
  unfold fX12_where at hf
  obtain ⟨hth, hf⟩ := gd_some hf
  refine g_aload_n X (or_rv _) dX12_where_0 rfl (lv_at hl 0 rfl) ?_
  refine lv_iload_n X.1 X.2.1 dX12_where_1 rfl (lv_at hl 2 rfl) ?_
  refine lv_iconst (v := 3) X.1 X.2.1 dX12_where_2 (by decide) ?_
  rcases oe_some hf with ⟨k, hc, hf⟩ | ⟨v1, hc, hf⟩
  · cases hf
  refine g_cv S (runV (As := [.int a2, .int 3]) (rest := []) X S coX12_257 (by decide) (cX12_needWhat_m l hc) (tkX12_needWhat hc) rfl hl.1 (by decide) rfl ⟨Nat.zero_le _, Nat.zero_le _⟩ dX12_where_3) (fun H locs S => ?_)
  refine g_aload_n X (or_rv _) dX12_where_6 rfl (lv_at hl 0 rfl) ?_
  refine lv_iload_n X.1 X.2.1 dX12_where_7 rfl (lv_at hl 1 rfl) ?_
  rcases oe_some hf with ⟨k, hc, hf⟩ | ⟨v2, hc, hf⟩
  · cases hf
  refine g_cv S (runV (As := [.int a1]) (rest := []) X S coX12_250 (by decide) (cX12_needSteps_m l hc) (tkX12_needSteps hc) rfl hl.1 (by decide) rfl ⟨Nat.zero_le _, Nat.zero_le _⟩ dX12_where_8) (fun H locs S => ?_)
  refine g_aload_n X (or_rv _) dX12_where_11 rfl (lv_at hl 0 rfl) ?_
  refine g_gR X S foX12_34 dX12_where_12 hf (fun v3 hf => ?_)
  refine g_aload_n X (or_rv _) dX12_where_15 rfl (lv_at hl 0 rfl) ?_
  refine g_gR X S foX12_61 dX12_where_16 hf (fun v4 hf => ?_)
  refine g_gR X S foX12_107 dX12_where_19 hf (fun v5 hf => ?_)
  refine lv_iload_n X.1 X.2.1 dX12_where_22 rfl (lv_at hl 1 rfl) ?_
  obtain ⟨v6, h, hc, hf⟩ := ob2_some hf
  refine g_cq S (runV (As := [rv v5, .int a1]) (rest := []) X S coX12_253 (by decide) (cX4_behind_m l hc) (tkX4_behind hc) rfl hl.1 (by decide) rfl ⟨Nat.zero_le _, Nat.zero_le _⟩ dX12_where_23) (fun H locs S => ?_)
  change W _ _ _ _ _ _ _ _ _ _ _ _ _ _ _ (F0 _ _ _ (rv v6 :: _))
  refine g_astore_n (i := 3) (lv' := [(3, rv v6), (0, rv a0), (1, .int a1), (2, .int a2)]) X (or_rv _) dX12_where_26 rfl hl (by decide) rfl (fun ls hl => ?_)
  refine lv_iload_n X.1 X.2.1 dX12_where_27 rfl (lv_at hl 3 rfl) ?_
  by_cases c7 : a2 = 0
  · replace hf := (if_pos c7).symm.trans hf
    refine lv_tableIn (tgt := 56) X.1 X.2.1 dX12_where_28 (by rw [c7]; decide) (by rw [c7]; decide) (by rw [c7]; rfl) (by decide) ?_
    refine g_aload_n X (or_rv _) dX12_where_56 rfl (lv_at hl 0 rfl) ?_
    refine lv_sipush (v := 265) X.1 X.2.1 dX12_where_57 (by decide) ?_
    obtain ⟨v8, hc, hf⟩ := ob_some hf
    refine g_ci S (runV (As := [.int 265]) (rest := []) X S coX12_113 (by decide) (cX10_cell_m l hc) (tkX10_cell hc) rfl hl.1 (by decide) rfl ⟨Nat.zero_le _, Nat.zero_le _⟩ dX12_where_60) (fun H locs S => ?_)
    cases hf; exact g_ri X S hr hlk dX12_where_63
  replace hf := (if_neg c7).symm.trans hf
  by_cases c9 : a2 = 1
  · replace hf := (if_pos c9).symm.trans hf
    refine lv_tableIn (tgt := 64) X.1 X.2.1 dX12_where_28 (by rw [c9]; decide) (by rw [c9]; decide) (by rw [c9]; rfl) (by decide) ?_
    refine g_aload_n X (or_rv _) dX12_where_64 rfl (lv_at hl 0 rfl) ?_
    refine lv_sipush (v := 264) X.1 X.2.1 dX12_where_65 (by decide) ?_
    obtain ⟨v10, hc, hf⟩ := ob_some hf
    refine g_ci S (runV (As := [.int 264]) (rest := []) X S coX12_113 (by decide) (cX10_cell_m l hc) (tkX10_cell hc) rfl hl.1 (by decide) rfl ⟨Nat.zero_le _, Nat.zero_le _⟩ dX12_where_68) (fun H locs S => ?_)
    cases hf; exact g_ri X S hr hlk dX12_where_71
  replace hf := (if_neg c9).symm.trans hf
  by_cases c11 : a2 = 2
  · replace hf := (if_pos c11).symm.trans hf
    refine lv_tableIn (tgt := 72) X.1 X.2.1 dX12_where_28 (by rw [c11]; decide) (by rw [c11]; decide) (by rw [c11]; rfl) (by decide) ?_
    refine g_aload_n X (or_rv _) dX12_where_72 rfl (lv_at hl 0 rfl) ?_
    refine lv_sipush (v := 267) X.1 X.2.1 dX12_where_73 (by decide) ?_
    obtain ⟨v12, hc, hf⟩ := ob_some hf
    refine g_ci S (runV (As := [.int 267]) (rest := []) X S coX12_113 (by decide) (cX10_cell_m l hc) (tkX10_cell hc) rfl hl.1 (by decide) rfl ⟨Nat.zero_le _, Nat.zero_le _⟩ dX12_where_76) (fun H locs S => ?_)
    cases hf; exact g_ri X S hr hlk dX12_where_79
  replace hf := (if_neg c11).symm.trans hf
  refine lv_tableOut (tgt := 80) X.1 X.2.1 dX12_where_28 (by have e0 := i32_ne c7 (n := 0) (by decide); have e1 := i32_ne c9 (n := 1) (by decide); have e2 := i32_ne c11 (n := 2) (by decide); omega) (by decide) ?_
  refine g_aload_n X (or_rv _) dX12_where_80 rfl (lv_at hl 0 rfl) ?_
  refine lv_sipush (v := 277) X.1 X.2.1 dX12_where_81 (by decide) ?_
  obtain ⟨v13, hc, hf⟩ := ob_some hf
  refine g_ci S (runV (As := [.int 277]) (rest := []) X S coX12_113 (by decide) (cX10_cell_m l hc) (tkX10_cell hc) rfl hl.1 (by decide) rfl ⟨Nat.zero_le _, Nat.zero_le _⟩ dX12_where_84) (fun H locs S => ?_)
  cases hf; exact g_ri X S hr hlk dX12_where_87
theorem cX12_where_x (l : Launch) (hlt : l.stackTraces = false) {E : EE} {A : Nat → Prop} {a0 : Nat} {a1 : Int32} {a2 : Int32} {h : Hp} {k9 : Nat} {h9 : Hp} (hf : fX12_where a0 a1 a2 h = some (.inl k9, h9)) : vx_Met l yX12_where (wsM yX12_where cX12_where 4 (some .int)) (rmm 14 1 6) (PcE E A h [rv a0, .int a1, .int a2]) noQ (XX E A h9 k9) 1 6 A := by
  refine met_ofX (by decide +kernel) (by simp [lg_sl, cat_rv, cat_wv, cat_sv, cat_i, cat_l, cat_a]) (fun p e s m args below meth c ls X hr hlk hnm hne S hl => ?_)
  have hR1 : 0 + 1 ≤ (rmm 14 1 6).cells ∧ 0 + 6 ≤ (rmm 14 1 6).slots := ⟨Nat.le_refl _, Nat.le_refl _⟩
  have hl : lv_has ls 4 [(0, rv a0), (1, .int a1), (2, .int a2)] := by simpa [lv_args, cat_rv, cat_wv, cat_sv, cat_i, cat_l, cat_a] using hl
  generalize hH : s.heap = H at S ⊢
  generalize hlo : ([] : List Loc) = locs at S ⊢
  clear hH hlo
  unfold fX12_where at hf
  obtain ⟨hth, hf⟩ := gd_some hf
  refine g_aload_n X (or_rv _) dX12_where_0 rfl (lv_at hl 0 rfl) ?_
  refine lv_iload_n X.1 X.2.1 dX12_where_1 rfl (lv_at hl 2 rfl) ?_
  refine lv_iconst (v := 3) X.1 X.2.1 dX12_where_2 (by decide) ?_
  rcases oe_some hf with ⟨k, hc, hf⟩ | ⟨v1, hc, hf⟩
  · cases hf
    exact g_pass S hne hlk (runVX (As := [.int a2, .int 3]) (rest := []) X S coX12_257 (by decide) (cX12_needWhat_x l hlt hc) (tkX12_needWhat hc) rfl hl.1 (by decide) rfl hR1 dX12_where_3)
  refine g_cv S (runV (As := [.int a2, .int 3]) (rest := []) X S coX12_257 (by decide) (cX12_needWhat_m l hc) (tkX12_needWhat hc) rfl hl.1 (by decide) rfl ⟨Nat.zero_le _, Nat.zero_le _⟩ dX12_where_3) (fun H locs S => ?_)
  refine g_aload_n X (or_rv _) dX12_where_6 rfl (lv_at hl 0 rfl) ?_
  refine lv_iload_n X.1 X.2.1 dX12_where_7 rfl (lv_at hl 1 rfl) ?_
  rcases oe_some hf with ⟨k, hc, hf⟩ | ⟨v2, hc, hf⟩
  · cases hf
    exact g_pass S hne hlk (runVX (As := [.int a1]) (rest := []) X S coX12_250 (by decide) (cX12_needSteps_x l hlt hc) (tkX12_needSteps hc) rfl hl.1 (by decide) rfl hR1 dX12_where_8)
  refine g_cv S (runV (As := [.int a1]) (rest := []) X S coX12_250 (by decide) (cX12_needSteps_m l hc) (tkX12_needSteps hc) rfl hl.1 (by decide) rfl ⟨Nat.zero_le _, Nat.zero_le _⟩ dX12_where_8) (fun H locs S => ?_)
  refine g_aload_n X (or_rv _) dX12_where_11 rfl (lv_at hl 0 rfl) ?_
  refine g_gR X S foX12_34 dX12_where_12 hf (fun v3 hf => ?_)
  refine g_aload_n X (or_rv _) dX12_where_15 rfl (lv_at hl 0 rfl) ?_
  refine g_gR X S foX12_61 dX12_where_16 hf (fun v4 hf => ?_)
  refine g_gR X S foX12_107 dX12_where_19 hf (fun v5 hf => ?_)
  refine lv_iload_n X.1 X.2.1 dX12_where_22 rfl (lv_at hl 1 rfl) ?_
  obtain ⟨v6, h, hc, hf⟩ := ob2_some hf
  refine g_cq S (runV (As := [rv v5, .int a1]) (rest := []) X S coX12_253 (by decide) (cX4_behind_m l hc) (tkX4_behind hc) rfl hl.1 (by decide) rfl ⟨Nat.zero_le _, Nat.zero_le _⟩ dX12_where_23) (fun H locs S => ?_)
  change W _ _ _ _ _ _ _ _ _ _ _ _ _ _ _ (F0 _ _ _ (rv v6 :: _))
  refine g_astore_n (i := 3) (lv' := [(3, rv v6), (0, rv a0), (1, .int a1), (2, .int a2)]) X (or_rv _) dX12_where_26 rfl hl (by decide) rfl (fun ls hl => ?_)
  refine lv_iload_n X.1 X.2.1 dX12_where_27 rfl (lv_at hl 3 rfl) ?_
  by_cases c7 : a2 = 0
  · replace hf := (if_pos c7).symm.trans hf
    refine lv_tableIn (tgt := 56) X.1 X.2.1 dX12_where_28 (by rw [c7]; decide) (by rw [c7]; decide) (by rw [c7]; rfl) (by decide) ?_
    refine g_aload_n X (or_rv _) dX12_where_56 rfl (lv_at hl 0 rfl) ?_
    refine lv_sipush (v := 265) X.1 X.2.1 dX12_where_57 (by decide) ?_
    obtain ⟨v8, hc, hf⟩ := ob_some hf
    refine g_ci S (runV (As := [.int 265]) (rest := []) X S coX12_113 (by decide) (cX10_cell_m l hc) (tkX10_cell hc) rfl hl.1 (by decide) rfl ⟨Nat.zero_le _, Nat.zero_le _⟩ dX12_where_60) (fun H locs S => ?_)
    cases hf
  replace hf := (if_neg c7).symm.trans hf
  by_cases c9 : a2 = 1
  · replace hf := (if_pos c9).symm.trans hf
    refine lv_tableIn (tgt := 64) X.1 X.2.1 dX12_where_28 (by rw [c9]; decide) (by rw [c9]; decide) (by rw [c9]; rfl) (by decide) ?_
    refine g_aload_n X (or_rv _) dX12_where_64 rfl (lv_at hl 0 rfl) ?_
    refine lv_sipush (v := 264) X.1 X.2.1 dX12_where_65 (by decide) ?_
    obtain ⟨v10, hc, hf⟩ := ob_some hf
    refine g_ci S (runV (As := [.int 264]) (rest := []) X S coX12_113 (by decide) (cX10_cell_m l hc) (tkX10_cell hc) rfl hl.1 (by decide) rfl ⟨Nat.zero_le _, Nat.zero_le _⟩ dX12_where_68) (fun H locs S => ?_)
    cases hf
  replace hf := (if_neg c9).symm.trans hf
  by_cases c11 : a2 = 2
  · replace hf := (if_pos c11).symm.trans hf
    refine lv_tableIn (tgt := 72) X.1 X.2.1 dX12_where_28 (by rw [c11]; decide) (by rw [c11]; decide) (by rw [c11]; rfl) (by decide) ?_
    refine g_aload_n X (or_rv _) dX12_where_72 rfl (lv_at hl 0 rfl) ?_
    refine lv_sipush (v := 267) X.1 X.2.1 dX12_where_73 (by decide) ?_
    obtain ⟨v12, hc, hf⟩ := ob_some hf
    refine g_ci S (runV (As := [.int 267]) (rest := []) X S coX12_113 (by decide) (cX10_cell_m l hc) (tkX10_cell hc) rfl hl.1 (by decide) rfl ⟨Nat.zero_le _, Nat.zero_le _⟩ dX12_where_76) (fun H locs S => ?_)
    cases hf
  replace hf := (if_neg c11).symm.trans hf
  refine lv_tableOut (tgt := 80) X.1 X.2.1 dX12_where_28 (by have e0 := i32_ne c7 (n := 0) (by decide); have e1 := i32_ne c9 (n := 1) (by decide); have e2 := i32_ne c11 (n := 2) (by decide); omega) (by decide) ?_
  refine g_aload_n X (or_rv _) dX12_where_80 rfl (lv_at hl 0 rfl) ?_
  refine lv_sipush (v := 277) X.1 X.2.1 dX12_where_81 (by decide) ?_
  obtain ⟨v13, hc, hf⟩ := ob_some hf
  refine g_ci S (runV (As := [.int 277]) (rest := []) X S coX12_113 (by decide) (cX10_cell_m l hc) (tkX10_cell hc) rfl hl.1 (by decide) rfl ⟨Nat.zero_le _, Nat.zero_le _⟩ dX12_where_84) (fun H locs S => ?_)
  cases hf
def fX4_firstFault_10 (k10 : Nat → Int32 → Int32 → Hp → Option (Int32 × Hp)) (x0 : Nat) (x2 : Int32) (x3 : Int32) (h : Hp) : Option (Int32 × Hp) := if 100 < x3 then some ((-1), h) else ob (gR 4 x0 1 h) fun v2 => ob (fX10_running v2 h) fun v3 => if v3 = 0 then some ((-1), h) else ob (gR 4 x0 0 h) fun v5 => ob (gR 4 x0 1 h) fun v6 => ob2 (fX9_step v5 v6 h) fun v7 h => if v7 = x2 then some (x3, h) else lt (x3 + 1) fun z9 => k10 x0 x2 z9 h
theorem wfX4_firstFault_10 {k10 : Nat → Int32 → Int32 → Hp → Option (Int32 × Hp)} {r9 : Int32} {h9 : Hp} (X : Cx p E A 13 R s m args c cX4_firstFault yX4_firstFault.cls 4) (hr : meth.sig.returnType = (some .int)) (hlk : meth.locks = false) (hnm : meth.name = yX4_firstFault.name) (hk10 : ∀ (x0 : Nat) (x2 : Int32) (x3 : Int32) (h : Hp) (H : Heap) (locs : List Loc) (ls : Array Slot), lv_has ls 4 [(0, rv x0), (2, .int x2), (3, .int x3)] → St E A s h H locs → k10 x0 x2 x3 h = some (r9, h9) → W p l e R s m args below meth c H locs 0 0 (MQ below (Qi E A h9 r9) args s 0 0 A) (F0 m 10 ls [])) :
    ∀ (x0 : Nat) (x2 : Int32) (x3 : Int32) (h : Hp) (H : Heap) (locs : List Loc) (ls : Array Slot), lv_has ls 4 [(0, rv x0), (2, .int x2), (3, .int x3)] → St E A s h H locs → fX4_firstFault_10 k10 x0 x2 x3 h = some (r9, h9) → W p l e R s m args below meth c H locs 0 0 (MQ below (Qi E A h9 r9) args s 0 0 A) (F0 m 10 ls []) := by
  intro x0 x2 x3 h H locs ls hl S hf
  unfold fX4_firstFault_10 at hf
  refine lv_iload_n X.1 X.2.1 dX4_firstFault_10 rfl (lv_at hl 2 rfl) ?_
  refine lv_bipush (v := 100) X.1 X.2.1 dX4_firstFault_11 (by decide) ?_
  refine lv_icmp_gt (tgt := 49) X.1 X.2.1 dX4_firstFault_13 (by decide) (fun c1 => ?_) (fun c1 => ?_)
  · replace hf := (if_pos c1).symm.trans hf
    refine lv_iconst (v := (-1)) X.1 X.2.1 dX4_firstFault_49 (by decide) ?_
    cases hf; exact g_ri X S hr hlk dX4_firstFault_50
  · replace hf := (if_neg c1).symm.trans hf
    refine g_aload_n X (or_rv _) dX4_firstFault_16 rfl (lv_at hl 0 rfl) ?_
    refine g_gR X S foX4_21 dX4_firstFault_17 hf (fun v2 hf => ?_)
    obtain ⟨v3, hc, hf⟩ := ob_some hf
    refine g_ci S (runV (As := []) (rest := []) X S coX4_36 (by decide) (cX10_running_m l hc) (tkX10_running hc) rfl hl.1 (by decide) rfl ⟨Nat.zero_le _, Nat.zero_le _⟩ dX4_firstFault_20) (fun H locs S => ?_)
    refine lv_if_eq (tgt := 49) X.1 X.2.1 dX4_firstFault_23 (by decide) (fun c4 => ?_) (fun c4 => ?_)
    · replace hf := (if_pos c4).symm.trans hf
      refine lv_iconst (v := (-1)) X.1 X.2.1 dX4_firstFault_49 (by decide) ?_
      cases hf; exact g_ri X S hr hlk dX4_firstFault_50
    · replace hf := (if_neg c4).symm.trans hf
      refine g_aload_n X (or_rv _) dX4_firstFault_26 rfl (lv_at hl 0 rfl) ?_
      refine g_gR X S foX4_12 dX4_firstFault_27 hf (fun v5 hf => ?_)
      refine g_aload_n X (or_rv _) dX4_firstFault_30 rfl (lv_at hl 0 rfl) ?_
      refine g_gR X S foX4_21 dX4_firstFault_31 hf (fun v6 hf => ?_)
      obtain ⟨v7, h, hc, hf⟩ := ob2_some hf
      refine g_ci S (runV (As := [rv v6]) (rest := []) X S coX4_40 (by decide) (cX9_step_m l hc) (tkX9_step hc) rfl hl.1 (by decide) rfl ⟨Nat.zero_le _, Nat.zero_le _⟩ dX4_firstFault_34) (fun H locs S => ?_)
      refine lv_iload_n X.1 X.2.1 dX4_firstFault_37 rfl (lv_at hl 1 rfl) ?_
      refine lv_icmp_ne (tgt := 43) X.1 X.2.1 dX4_firstFault_38 (by decide) (fun c8 => ?_) (fun c8 => ?_)
      · replace hf := (if_neg c8).symm.trans hf
        obtain ⟨z9, ez9, hf⟩ := lt_some hf
        refine lv_iinc (v := z9) (lv' := [(3, .int z9), (0, rv x0), (2, .int x2)]) X.1 X.2.1 dX4_firstFault_43 hl (k := 2) rfl (by rw [← ez9]; rfl) (by decide) rfl (fun ls hl => ?_)
        refine lv_goto (tgt := 10) X.1 X.2.1 dX4_firstFault_46 (by decide) ?_
        exact hk10 _ _ _ _ _ _ _ (lv_sub hl [1, 2, 0] rfl) S hf
      · replace hf := (if_pos c8).symm.trans hf
        refine lv_iload_n X.1 X.2.1 dX4_firstFault_41 rfl (lv_at hl 2 rfl) ?_
        cases hf; exact g_ri X S hr hlk dX4_firstFault_42
theorem wfX4_firstFault_10_l {r9 : Int32} {h9 : Hp} (X : Cx p E A 13 R s m args c cX4_firstFault yX4_firstFault.cls 4) (hr : meth.sig.returnType = (some .int)) (hlk : meth.locks = false) (hnm : meth.name = yX4_firstFault.name) :
    ∀ (n : Nat) (x0 : Nat) (x2 : Int32) (x3 : Int32) (h : Hp) (H : Heap) (locs : List Loc) (ls : Array Slot), lv_has ls 4 [(0, rv x0), (2, .int x2), (3, .int x3)] → St E A s h H locs → lp (fun _ _ _ _ => none) (fX4_firstFault_10) n x0 x2 x3 h = some (r9, h9) → W p l e R s m args below meth c H locs 0 0 (MQ below (Qi E A h9 r9) args s 0 0 A) (F0 m 10 ls []) := by
  intro n
  induction n with
  | zero =>
    intro x0 x2 x3 h H locs ls hl S hf
    exact nomatch hf
  | succ n ih =>
    intro x0 x2 x3 h H locs ls hl S hf
    exact wfX4_firstFault_10 X hr hlk hnm ih x0 x2 x3 h H locs ls hl S hf
def fX4_firstFault (a0 : Nat) (a1 : Nat) (a2 : Int32) (h : Hp) : Option (Int32 × Hp) := gd 4 a0 h (ob (gR 4 a0 1 h) fun v1 => ob (fX10_become v1 a1 h) fun h => lp (fun _ _ _ _ => none) (fX4_firstFault_10) FU a0 a2 1 h)
theorem tkX4_firstFault {a0 : Nat} {a1 : Nat} {a2 : Int32} {h : Hp} {r9 : Int32 × Hp} (e : fX4_firstFault a0 a1 a2 h = some r9) : hK h a0 = 4 := by
  unfold fX4_firstFault at e
  exact (gd_some e).1
theorem cX4_firstFault_m (l : Launch) {E : EE} {A : Nat → Prop} {a0 : Nat} {a1 : Nat} {a2 : Int32} {h : Hp} {r9 : Int32} {h9 : Hp} (hf : fX4_firstFault a0 a1 a2 h = some (r9, h9)) : Met l yX4_firstFault (wsM yX4_firstFault cX4_firstFault 4 (some .int)) (rmm 13 0 0) (PcE E A h [rv a0, rv a1, .int a2]) (Qi E A h9 r9) 0 0 A := by
  refine met_of (by decide +kernel) (by simp [lg_sl, cat_rv, cat_wv, cat_sv, cat_i, cat_l, cat_a]) (fun p e s m args below meth c ls X hr hlk hnm S hl => ?_)
  have hl : lv_has ls 4 [(0, rv a0), (1, rv a1), (2, .int a2)] := by simpa [lv_args, cat_rv, cat_wv, cat_sv, cat_i, cat_l, cat_a] using hl
  generalize hH : s.heap = H at S ⊢
  generalize hlo : ([] : List Loc) = locs at S ⊢
  clear hH hlo
  unfold fX4_firstFault at hf
  obtain ⟨hth, hf⟩ := gd_some hf
  refine g_aload_n X (or_rv _) dX4_firstFault_0 rfl (lv_at hl 0 rfl) ?_
  refine g_gR X S foX4_21 dX4_firstFault_1 hf (fun v1 hf => ?_)
  refine g_aload_n X (or_rv _) dX4_firstFault_4 rfl (lv_at hl 1 rfl) ?_
  obtain ⟨h, hc, hf⟩ := ob_some hf
  refine g_cv S (runV (As := [rv a1]) (rest := []) X S coX4_32 (by decide) (cX10_become_m l hc) (tkX10_become hc) rfl hl.1 (by decide) rfl ⟨Nat.zero_le _, Nat.zero_le _⟩ dX4_firstFault_5) (fun H locs S => ?_)
  refine lv_iconst (v := 1) X.1 X.2.1 dX4_firstFault_8 (by decide) ?_
  refine lv_istore_n (i := 3) (lv' := [(3, .int 1), (0, rv a0), (1, rv a1), (2, .int a2)]) X.1 X.2.1 dX4_firstFault_9 rfl hl (by decide) rfl (fun ls hl => ?_)
  exact wfX4_firstFault_10_l X hr hlk hnm FU _ _ _ _ _ _ _ (lv_sub hl [1, 3, 0] rfl) S hf
def fX12_faults (a0 : Nat) (a1 : Int32) (h : Hp) : Option ((Nat ⊕ Int32) × Hp) := gd 10 a0 h (oe (fX12_needKind a0 a1 h) (fun k => some (.inl k, h)) fun v1 => ob (gR 10 a0 5 h) fun v2 => ob (gR 10 a0 10 h) fun v3 => ob (gR 2 v3 0 h) fun v4 => ob2 (fX4_firstFault v2 v4 a1 h) fun v5 h => some (.inr v5, h))
theorem tkX12_faults {a0 : Nat} {a1 : Int32} {h : Hp} {r9 : (Nat ⊕ Int32) × Hp} (e : fX12_faults a0 a1 h = some r9) : hK h a0 = 10 := by
  unfold fX12_faults at e
  exact (gd_some e).1
theorem cX12_faults_m (l : Launch) {E : EE} {A : Nat → Prop} {a0 : Nat} {a1 : Int32} {h : Hp} {r9 : Int32} {h9 : Hp} (hf : fX12_faults a0 a1 h = some (.inr r9, h9)) : Met l yX12_faults (wsM yX12_faults cX12_faults 2 (some .int)) (rmm 14 0 0) (PcE E A h [rv a0, .int a1]) (Qi E A h9 r9) 0 0 A := by
  refine met_of (by decide +kernel) (by simp [lg_sl, cat_rv, cat_wv, cat_sv, cat_i, cat_l, cat_a]) (fun p e s m args below meth c ls X hr hlk hnm S hl => ?_)
  have hl : lv_has ls 2 [(0, rv a0), (1, .int a1)] := by simpa [lv_args, cat_rv, cat_wv, cat_sv, cat_i, cat_l, cat_a] using hl
  generalize hH : s.heap = H at S ⊢
  generalize hlo : ([] : List Loc) = locs at S ⊢
  clear hH hlo
  unfold fX12_faults at hf
  obtain ⟨hth, hf⟩ := gd_some hf
  refine g_aload_n X (or_rv _) dX12_faults_0 rfl (lv_at hl 0 rfl) ?_
  refine lv_iload_n X.1 X.2.1 dX12_faults_1 rfl (lv_at hl 1 rfl) ?_
  rcases oe_some hf with ⟨k, hc, hf⟩ | ⟨v1, hc, hf⟩
  · cases hf
  refine g_cv S (runV (As := [.int a1]) (rest := []) X S coX12_146 (by decide) (cX12_needKind_m l hc) (tkX12_needKind hc) rfl hl.1 (by decide) rfl ⟨Nat.zero_le _, Nat.zero_le _⟩ dX12_faults_2) (fun H locs S => ?_)
  refine g_aload_n X (or_rv _) dX12_faults_5 rfl (lv_at hl 0 rfl) ?_
  refine g_gR X S foX12_34 dX12_faults_6 hf (fun v2 hf => ?_)
  refine g_aload_n X (or_rv _) dX12_faults_9 rfl (lv_at hl 0 rfl) ?_
  refine g_gR X S foX12_61 dX12_faults_10 hf (fun v3 hf => ?_)
  refine g_gR X S foX12_107 dX12_faults_13 hf (fun v4 hf => ?_)
  refine lv_iload_n X.1 X.2.1 dX12_faults_16 rfl (lv_at hl 1 rfl) ?_
  obtain ⟨v5, h, hc, hf⟩ := ob2_some hf
  refine g_ci S (runV (As := [rv v4, .int a1]) (rest := []) X S coX12_260 (by decide) (cX4_firstFault_m l hc) (tkX4_firstFault hc) rfl hl.1 (by decide) rfl ⟨Nat.zero_le _, Nat.zero_le _⟩ dX12_faults_17) (fun H locs S => ?_)
  cases hf; exact g_ri X S hr hlk dX12_faults_20
theorem cX12_faults_x (l : Launch) (hlt : l.stackTraces = false) {E : EE} {A : Nat → Prop} {a0 : Nat} {a1 : Int32} {h : Hp} {k9 : Nat} {h9 : Hp} (hf : fX12_faults a0 a1 h = some (.inl k9, h9)) : vx_Met l yX12_faults (wsM yX12_faults cX12_faults 2 (some .int)) (rmm 14 1 6) (PcE E A h [rv a0, .int a1]) noQ (XX E A h9 k9) 1 6 A := by
  refine met_ofX (by decide +kernel) (by simp [lg_sl, cat_rv, cat_wv, cat_sv, cat_i, cat_l, cat_a]) (fun p e s m args below meth c ls X hr hlk hnm hne S hl => ?_)
  have hR1 : 0 + 1 ≤ (rmm 14 1 6).cells ∧ 0 + 6 ≤ (rmm 14 1 6).slots := ⟨Nat.le_refl _, Nat.le_refl _⟩
  have hl : lv_has ls 2 [(0, rv a0), (1, .int a1)] := by simpa [lv_args, cat_rv, cat_wv, cat_sv, cat_i, cat_l, cat_a] using hl
  generalize hH : s.heap = H at S ⊢
  generalize hlo : ([] : List Loc) = locs at S ⊢
  clear hH hlo
  unfold fX12_faults at hf
  obtain ⟨hth, hf⟩ := gd_some hf
  refine g_aload_n X (or_rv _) dX12_faults_0 rfl (lv_at hl 0 rfl) ?_
  refine lv_iload_n X.1 X.2.1 dX12_faults_1 rfl (lv_at hl 1 rfl) ?_
  rcases oe_some hf with ⟨k, hc, hf⟩ | ⟨v1, hc, hf⟩
  · cases hf
    exact g_pass S hne hlk (runVX (As := [.int a1]) (rest := []) X S coX12_146 (by decide) (cX12_needKind_x l hlt hc) (tkX12_needKind hc) rfl hl.1 (by decide) rfl hR1 dX12_faults_2)
  refine g_cv S (runV (As := [.int a1]) (rest := []) X S coX12_146 (by decide) (cX12_needKind_m l hc) (tkX12_needKind hc) rfl hl.1 (by decide) rfl ⟨Nat.zero_le _, Nat.zero_le _⟩ dX12_faults_2) (fun H locs S => ?_)
  refine g_aload_n X (or_rv _) dX12_faults_5 rfl (lv_at hl 0 rfl) ?_
  refine g_gR X S foX12_34 dX12_faults_6 hf (fun v2 hf => ?_)
  refine g_aload_n X (or_rv _) dX12_faults_9 rfl (lv_at hl 0 rfl) ?_
  refine g_gR X S foX12_61 dX12_faults_10 hf (fun v3 hf => ?_)
  refine g_gR X S foX12_107 dX12_faults_13 hf (fun v4 hf => ?_)
  refine lv_iload_n X.1 X.2.1 dX12_faults_16 rfl (lv_at hl 1 rfl) ?_
  obtain ⟨v5, h, hc, hf⟩ := ob2_some hf
  refine g_ci S (runV (As := [rv v4, .int a1]) (rest := []) X S coX12_260 (by decide) (cX4_firstFault_m l hc) (tkX4_firstFault hc) rfl hl.1 (by decide) rfl ⟨Nat.zero_le _, Nat.zero_le _⟩ dX12_faults_17) (fun H locs S => ?_)
  cases hf
def fX4_firstRest_10 (k10 : Nat → Int32 → Hp → Option (Int32 × Hp)) (x0 : Nat) (x2 : Int32) (h : Hp) : Option (Int32 × Hp) := if 100 < x2 then some ((-1), h) else ob (gR 4 x0 1 h) fun v2 => ob (fX10_running v2 h) fun v3 => if v3 = 0 then some (x2, h) else ob (gR 4 x0 0 h) fun v5 => ob (gR 4 x0 1 h) fun v6 => ob2 (fX9_step v5 v6 h) fun v7 h => lt (x2 + 1) fun z8 => k10 x0 z8 h
theorem wfX4_firstRest_10 {k10 : Nat → Int32 → Hp → Option (Int32 × Hp)} {r9 : Int32} {h9 : Hp} (X : Cx p E A 13 R s m args c cX4_firstRest yX4_firstRest.cls 3) (hr : meth.sig.returnType = (some .int)) (hlk : meth.locks = false) (hnm : meth.name = yX4_firstRest.name) (hk10 : ∀ (x0 : Nat) (x2 : Int32) (h : Hp) (H : Heap) (locs : List Loc) (ls : Array Slot), lv_has ls 3 [(0, rv x0), (2, .int x2)] → St E A s h H locs → k10 x0 x2 h = some (r9, h9) → W p l e R s m args below meth c H locs 0 0 (MQ below (Qi E A h9 r9) args s 0 0 A) (F0 m 10 ls [])) :
    ∀ (x0 : Nat) (x2 : Int32) (h : Hp) (H : Heap) (locs : List Loc) (ls : Array Slot), lv_has ls 3 [(0, rv x0), (2, .int x2)] → St E A s h H locs → fX4_firstRest_10 k10 x0 x2 h = some (r9, h9) → W p l e R s m args below meth c H locs 0 0 (MQ below (Qi E A h9 r9) args s 0 0 A) (F0 m 10 ls []) := by
  intro x0 x2 h H locs ls hl S hf
  unfold fX4_firstRest_10 at hf
  refine lv_iload_n X.1 X.2.1 dX4_firstRest_10 rfl (lv_at hl 1 rfl) ?_
  refine lv_bipush (v := 100) X.1 X.2.1 dX4_firstRest_11 (by decide) ?_
  refine lv_icmp_gt (tgt := 46) X.1 X.2.1 dX4_firstRest_13 (by decide) (fun c1 => ?_) (fun c1 => ?_)
  · replace hf := (if_pos c1).symm.trans hf
    refine lv_iconst (v := (-1)) X.1 X.2.1 dX4_firstRest_46 (by decide) ?_
    cases hf; exact g_ri X S hr hlk dX4_firstRest_47
  · replace hf := (if_neg c1).symm.trans hf
    refine g_aload_n X (or_rv _) dX4_firstRest_16 rfl (lv_at hl 0 rfl) ?_
    refine g_gR X S foX4_21 dX4_firstRest_17 hf (fun v2 hf => ?_)
    obtain ⟨v3, hc, hf⟩ := ob_some hf
    refine g_ci S (runV (As := []) (rest := []) X S coX4_36 (by decide) (cX10_running_m l hc) (tkX10_running hc) rfl hl.1 (by decide) rfl ⟨Nat.zero_le _, Nat.zero_le _⟩ dX4_firstRest_20) (fun H locs S => ?_)
    refine lv_if_ne (tgt := 28) X.1 X.2.1 dX4_firstRest_23 (by decide) (fun c4 => ?_) (fun c4 => ?_)
    · replace hf := (if_neg c4).symm.trans hf
      refine g_aload_n X (or_rv _) dX4_firstRest_28 rfl (lv_at hl 0 rfl) ?_
      refine g_gR X S foX4_12 dX4_firstRest_29 hf (fun v5 hf => ?_)
      refine g_aload_n X (or_rv _) dX4_firstRest_32 rfl (lv_at hl 0 rfl) ?_
      refine g_gR X S foX4_21 dX4_firstRest_33 hf (fun v6 hf => ?_)
      obtain ⟨v7, h, hc, hf⟩ := ob2_some hf
      refine g_ci S (runV (As := [rv v6]) (rest := []) X S coX4_40 (by decide) (cX9_step_m l hc) (tkX9_step hc) rfl hl.1 (by decide) rfl ⟨Nat.zero_le _, Nat.zero_le _⟩ dX4_firstRest_36) (fun H locs S => ?_)
      refine lv_pop X.1 X.2.1 dX4_firstRest_39 rfl ?_
      obtain ⟨z8, ez8, hf⟩ := lt_some hf
      refine lv_iinc (v := z8) (lv' := [(2, .int z8), (0, rv x0)]) X.1 X.2.1 dX4_firstRest_40 hl (k := 1) rfl (by rw [← ez8]; rfl) (by decide) rfl (fun ls hl => ?_)
      refine lv_goto (tgt := 10) X.1 X.2.1 dX4_firstRest_43 (by decide) ?_
      exact hk10 _ _ _ _ _ _ (lv_sub hl [1, 0] rfl) S hf
    · replace hf := (if_pos c4).symm.trans hf
      refine lv_iload_n X.1 X.2.1 dX4_firstRest_26 rfl (lv_at hl 1 rfl) ?_
      cases hf; exact g_ri X S hr hlk dX4_firstRest_27
theorem wfX4_firstRest_10_l {r9 : Int32} {h9 : Hp} (X : Cx p E A 13 R s m args c cX4_firstRest yX4_firstRest.cls 3) (hr : meth.sig.returnType = (some .int)) (hlk : meth.locks = false) (hnm : meth.name = yX4_firstRest.name) :
    ∀ (n : Nat) (x0 : Nat) (x2 : Int32) (h : Hp) (H : Heap) (locs : List Loc) (ls : Array Slot), lv_has ls 3 [(0, rv x0), (2, .int x2)] → St E A s h H locs → lp (fun _ _ _ => none) (fX4_firstRest_10) n x0 x2 h = some (r9, h9) → W p l e R s m args below meth c H locs 0 0 (MQ below (Qi E A h9 r9) args s 0 0 A) (F0 m 10 ls []) := by
  intro n
  induction n with
  | zero =>
    intro x0 x2 h H locs ls hl S hf
    exact nomatch hf
  | succ n ih =>
    intro x0 x2 h H locs ls hl S hf
    exact wfX4_firstRest_10 X hr hlk hnm ih x0 x2 h H locs ls hl S hf
def fX4_firstRest (a0 : Nat) (a1 : Nat) (h : Hp) : Option (Int32 × Hp) := gd 4 a0 h (ob (gR 4 a0 1 h) fun v1 => ob (fX10_become v1 a1 h) fun h => lp (fun _ _ _ => none) (fX4_firstRest_10) FU a0 0 h)
theorem tkX4_firstRest {a0 : Nat} {a1 : Nat} {h : Hp} {r9 : Int32 × Hp} (e : fX4_firstRest a0 a1 h = some r9) : hK h a0 = 4 := by
  unfold fX4_firstRest at e
  exact (gd_some e).1
theorem cX4_firstRest_m (l : Launch) {E : EE} {A : Nat → Prop} {a0 : Nat} {a1 : Nat} {h : Hp} {r9 : Int32} {h9 : Hp} (hf : fX4_firstRest a0 a1 h = some (r9, h9)) : Met l yX4_firstRest (wsM yX4_firstRest cX4_firstRest 3 (some .int)) (rmm 13 0 0) (PcE E A h [rv a0, rv a1]) (Qi E A h9 r9) 0 0 A := by
  refine met_of (by decide +kernel) (by simp [lg_sl, cat_rv, cat_wv, cat_sv, cat_i, cat_l, cat_a]) (fun p e s m args below meth c ls X hr hlk hnm S hl => ?_)
  have hl : lv_has ls 3 [(0, rv a0), (1, rv a1)] := by simpa [lv_args, cat_rv, cat_wv, cat_sv, cat_i, cat_l, cat_a] using hl
  generalize hH : s.heap = H at S ⊢
  generalize hlo : ([] : List Loc) = locs at S ⊢
  clear hH hlo
  unfold fX4_firstRest at hf
  obtain ⟨hth, hf⟩ := gd_some hf
  refine g_aload_n X (or_rv _) dX4_firstRest_0 rfl (lv_at hl 0 rfl) ?_
  refine g_gR X S foX4_21 dX4_firstRest_1 hf (fun v1 hf => ?_)
  refine g_aload_n X (or_rv _) dX4_firstRest_4 rfl (lv_at hl 1 rfl) ?_
  obtain ⟨h, hc, hf⟩ := ob_some hf
  refine g_cv S (runV (As := [rv a1]) (rest := []) X S coX4_32 (by decide) (cX10_become_m l hc) (tkX10_become hc) rfl hl.1 (by decide) rfl ⟨Nat.zero_le _, Nat.zero_le _⟩ dX4_firstRest_5) (fun H locs S => ?_)
  refine lv_iconst (v := 0) X.1 X.2.1 dX4_firstRest_8 (by decide) ?_
  refine lv_istore_n (i := 2) (lv' := [(2, .int 0), (0, rv a0), (1, rv a1)]) X.1 X.2.1 dX4_firstRest_9 rfl hl (by decide) (by simp [List.filter, cat_rv, cat_wv, cat_sv]) (fun ls hl => ?_)
  exact wfX4_firstRest_10_l X hr hlk hnm FU _ _ _ _ _ _ (lv_sub hl [1, 0] rfl) S hf
def fX12_halts (a0 : Nat) (h : Hp) : Option (Int32 × Hp) := gd 10 a0 h (ob (gR 10 a0 5 h) fun v1 => ob (gR 10 a0 10 h) fun v2 => ob (gR 2 v2 0 h) fun v3 => ob2 (fX4_firstRest v1 v3 h) fun v4 h => some (v4, h))
theorem tkX12_halts {a0 : Nat} {h : Hp} {r9 : Int32 × Hp} (e : fX12_halts a0 h = some r9) : hK h a0 = 10 := by
  unfold fX12_halts at e
  exact (gd_some e).1
theorem cX12_halts_m (l : Launch) {E : EE} {A : Nat → Prop} {a0 : Nat} {h : Hp} {r9 : Int32} {h9 : Hp} (hf : fX12_halts a0 h = some (r9, h9)) : Met l yX12_halts (wsM yX12_halts cX12_halts 1 (some .int)) (rmm 14 0 0) (PcE E A h [rv a0]) (Qi E A h9 r9) 0 0 A := by
  refine met_of (by decide +kernel) (by simp [lg_sl, cat_rv, cat_wv, cat_sv, cat_i, cat_l, cat_a]) (fun p e s m args below meth c ls X hr hlk hnm S hl => ?_)
  have hl : lv_has ls 1 [(0, rv a0)] := by simpa [lv_args, cat_rv, cat_wv, cat_sv, cat_i, cat_l, cat_a] using hl
  generalize hH : s.heap = H at S ⊢
  generalize hlo : ([] : List Loc) = locs at S ⊢
  clear hH hlo
  unfold fX12_halts at hf
  obtain ⟨hth, hf⟩ := gd_some hf
  refine g_aload_n X (or_rv _) dX12_halts_0 rfl (lv_at hl 0 rfl) ?_
  refine g_gR X S foX12_34 dX12_halts_1 hf (fun v1 hf => ?_)
  refine g_aload_n X (or_rv _) dX12_halts_4 rfl (lv_at hl 0 rfl) ?_
  refine g_gR X S foX12_61 dX12_halts_5 hf (fun v2 hf => ?_)
  refine g_gR X S foX12_107 dX12_halts_8 hf (fun v3 hf => ?_)
  obtain ⟨v4, h, hc, hf⟩ := ob2_some hf
  refine g_ci S (runV (As := [rv v3]) (rest := []) X S coX12_264 (by decide) (cX4_firstRest_m l hc) (tkX4_firstRest hc) rfl hl.1 (by decide) rfl ⟨Nat.zero_le _, Nat.zero_le _⟩ dX12_halts_11) (fun H locs S => ?_)
  cases hf; exact g_ri X S hr hlk dX12_halts_14
def fX4_firstChange_10 (k10 : Nat → Nat → Int32 → Int32 → Hp → Option (Int32 × Hp)) (x0 : Nat) (x1 : Nat) (x2 : Int32) (x3 : Int32) (h : Hp) : Option (Int32 × Hp) := if 100 < x3 then some ((-1), h) else ob (gR 4 x0 1 h) fun v2 => ob (fX10_running v2 h) fun v3 => if v3 = 0 then some ((-1), h) else ob (gR 4 x0 0 h) fun v5 => ob (gR 4 x0 1 h) fun v6 => ob2 (fX9_step v5 v6 h) fun v7 h => ob (gR 4 x0 1 h) fun v8 => ob (fX10_cell v8 x2 h) fun v9 => ob (fX10_cell x1 x2 h) fun v10 => if v9 = v10 then lt (x3 + 1) fun z12 => k10 x0 x1 x2 z12 h else some (x3, h)
theorem wfX4_firstChange_10 {k10 : Nat → Nat → Int32 → Int32 → Hp → Option (Int32 × Hp)} {r9 : Int32} {h9 : Hp} (X : Cx p E A 13 R s m args c cX4_firstChange yX4_firstChange.cls 4) (hr : meth.sig.returnType = (some .int)) (hlk : meth.locks = false) (hnm : meth.name = yX4_firstChange.name) (hk10 : ∀ (x0 : Nat) (x1 : Nat) (x2 : Int32) (x3 : Int32) (h : Hp) (H : Heap) (locs : List Loc) (ls : Array Slot), lv_has ls 4 [(0, rv x0), (1, rv x1), (2, .int x2), (3, .int x3)] → St E A s h H locs → k10 x0 x1 x2 x3 h = some (r9, h9) → W p l e R s m args below meth c H locs 0 0 (MQ below (Qi E A h9 r9) args s 0 0 A) (F0 m 10 ls [])) :
    ∀ (x0 : Nat) (x1 : Nat) (x2 : Int32) (x3 : Int32) (h : Hp) (H : Heap) (locs : List Loc) (ls : Array Slot), lv_has ls 4 [(0, rv x0), (1, rv x1), (2, .int x2), (3, .int x3)] → St E A s h H locs → fX4_firstChange_10 k10 x0 x1 x2 x3 h = some (r9, h9) → W p l e R s m args below meth c H locs 0 0 (MQ below (Qi E A h9 r9) args s 0 0 A) (F0 m 10 ls []) := by
  intro x0 x1 x2 x3 h H locs ls hl S hf
  unfold fX4_firstChange_10 at hf
  refine lv_iload_n X.1 X.2.1 dX4_firstChange_10 rfl (lv_at hl 3 rfl) ?_
  refine lv_bipush (v := 100) X.1 X.2.1 dX4_firstChange_11 (by decide) ?_
  refine lv_icmp_gt (tgt := 62) X.1 X.2.1 dX4_firstChange_13 (by decide) (fun c1 => ?_) (fun c1 => ?_)
  · replace hf := (if_pos c1).symm.trans hf
    refine lv_iconst (v := (-1)) X.1 X.2.1 dX4_firstChange_62 (by decide) ?_
    cases hf; exact g_ri X S hr hlk dX4_firstChange_63
  · replace hf := (if_neg c1).symm.trans hf
    refine g_aload_n X (or_rv _) dX4_firstChange_16 rfl (lv_at hl 0 rfl) ?_
    refine g_gR X S foX4_21 dX4_firstChange_17 hf (fun v2 hf => ?_)
    obtain ⟨v3, hc, hf⟩ := ob_some hf
    refine g_ci S (runV (As := []) (rest := []) X S coX4_36 (by decide) (cX10_running_m l hc) (tkX10_running hc) rfl hl.1 (by decide) rfl ⟨Nat.zero_le _, Nat.zero_le _⟩ dX4_firstChange_20) (fun H locs S => ?_)
    refine lv_if_eq (tgt := 62) X.1 X.2.1 dX4_firstChange_23 (by decide) (fun c4 => ?_) (fun c4 => ?_)
    · replace hf := (if_pos c4).symm.trans hf
      refine lv_iconst (v := (-1)) X.1 X.2.1 dX4_firstChange_62 (by decide) ?_
      cases hf; exact g_ri X S hr hlk dX4_firstChange_63
    · replace hf := (if_neg c4).symm.trans hf
      refine g_aload_n X (or_rv _) dX4_firstChange_26 rfl (lv_at hl 0 rfl) ?_
      refine g_gR X S foX4_12 dX4_firstChange_27 hf (fun v5 hf => ?_)
      refine g_aload_n X (or_rv _) dX4_firstChange_30 rfl (lv_at hl 0 rfl) ?_
      refine g_gR X S foX4_21 dX4_firstChange_31 hf (fun v6 hf => ?_)
      obtain ⟨v7, h, hc, hf⟩ := ob2_some hf
      refine g_ci S (runV (As := [rv v6]) (rest := []) X S coX4_40 (by decide) (cX9_step_m l hc) (tkX9_step hc) rfl hl.1 (by decide) rfl ⟨Nat.zero_le _, Nat.zero_le _⟩ dX4_firstChange_34) (fun H locs S => ?_)
      refine lv_pop X.1 X.2.1 dX4_firstChange_37 rfl ?_
      refine g_aload_n X (or_rv _) dX4_firstChange_38 rfl (lv_at hl 0 rfl) ?_
      refine g_gR X S foX4_21 dX4_firstChange_39 hf (fun v8 hf => ?_)
      refine lv_iload_n X.1 X.2.1 dX4_firstChange_42 rfl (lv_at hl 2 rfl) ?_
      obtain ⟨v9, hc, hf⟩ := ob_some hf
      refine g_ci S (runV (As := [.int x2]) (rest := []) X S coX4_44 (by decide) (cX10_cell_m l hc) (tkX10_cell hc) rfl hl.1 (by decide) rfl ⟨Nat.zero_le _, Nat.zero_le _⟩ dX4_firstChange_43) (fun H locs S => ?_)
      refine g_aload_n X (or_rv _) dX4_firstChange_46 rfl (lv_at hl 1 rfl) ?_
      refine lv_iload_n X.1 X.2.1 dX4_firstChange_47 rfl (lv_at hl 2 rfl) ?_
      obtain ⟨v10, hc, hf⟩ := ob_some hf
      refine g_ci S (runV (As := [.int x2]) (rest := [.int v9]) X S coX4_44 (by decide) (cX10_cell_m l hc) (tkX10_cell hc) rfl hl.1 (by simp [cat_rv, cat_wv, cat_sv, cat_i, cat_l, cat_a]) rfl ⟨Nat.zero_le _, Nat.zero_le _⟩ dX4_firstChange_48) (fun H locs S => ?_)
      refine lv_icmp_eq (tgt := 56) X.1 X.2.1 dX4_firstChange_51 (by decide) (fun c11 => ?_) (fun c11 => ?_)
      · replace hf := (if_pos c11).symm.trans hf
        obtain ⟨z12, ez12, hf⟩ := lt_some hf
        refine lv_iinc (v := z12) (lv' := [(3, .int z12), (0, rv x0), (1, rv x1), (2, .int x2)]) X.1 X.2.1 dX4_firstChange_56 hl (k := 3) rfl (by rw [← ez12]; rfl) (by decide) rfl (fun ls hl => ?_)
        refine lv_goto (tgt := 10) X.1 X.2.1 dX4_firstChange_59 (by decide) ?_
        exact hk10 _ _ _ _ _ _ _ _ (lv_sub hl [1, 2, 3, 0] rfl) S hf
      · replace hf := (if_neg c11).symm.trans hf
        refine lv_iload_n X.1 X.2.1 dX4_firstChange_54 rfl (lv_at hl 3 rfl) ?_
        cases hf; exact g_ri X S hr hlk dX4_firstChange_55
theorem wfX4_firstChange_10_l {r9 : Int32} {h9 : Hp} (X : Cx p E A 13 R s m args c cX4_firstChange yX4_firstChange.cls 4) (hr : meth.sig.returnType = (some .int)) (hlk : meth.locks = false) (hnm : meth.name = yX4_firstChange.name) :
    ∀ (n : Nat) (x0 : Nat) (x1 : Nat) (x2 : Int32) (x3 : Int32) (h : Hp) (H : Heap) (locs : List Loc) (ls : Array Slot), lv_has ls 4 [(0, rv x0), (1, rv x1), (2, .int x2), (3, .int x3)] → St E A s h H locs → lp (fun _ _ _ _ _ => none) (fX4_firstChange_10) n x0 x1 x2 x3 h = some (r9, h9) → W p l e R s m args below meth c H locs 0 0 (MQ below (Qi E A h9 r9) args s 0 0 A) (F0 m 10 ls []) := by
  intro n
  induction n with
  | zero =>
    intro x0 x1 x2 x3 h H locs ls hl S hf
    exact nomatch hf
  | succ n ih =>
    intro x0 x1 x2 x3 h H locs ls hl S hf
    exact wfX4_firstChange_10 X hr hlk hnm ih x0 x1 x2 x3 h H locs ls hl S hf
def fX4_firstChange (a0 : Nat) (a1 : Nat) (a2 : Int32) (h : Hp) : Option (Int32 × Hp) := gd 4 a0 h (ob (gR 4 a0 1 h) fun v1 => ob (fX10_become v1 a1 h) fun h => lp (fun _ _ _ _ _ => none) (fX4_firstChange_10) FU a0 a1 a2 1 h)
theorem tkX4_firstChange {a0 : Nat} {a1 : Nat} {a2 : Int32} {h : Hp} {r9 : Int32 × Hp} (e : fX4_firstChange a0 a1 a2 h = some r9) : hK h a0 = 4 := by
  unfold fX4_firstChange at e
  exact (gd_some e).1
theorem cX4_firstChange_m (l : Launch) {E : EE} {A : Nat → Prop} {a0 : Nat} {a1 : Nat} {a2 : Int32} {h : Hp} {r9 : Int32} {h9 : Hp} (hf : fX4_firstChange a0 a1 a2 h = some (r9, h9)) : Met l yX4_firstChange (wsM yX4_firstChange cX4_firstChange 4 (some .int)) (rmm 13 0 0) (PcE E A h [rv a0, rv a1, .int a2]) (Qi E A h9 r9) 0 0 A := by
  refine met_of (by decide +kernel) (by simp [lg_sl, cat_rv, cat_wv, cat_sv, cat_i, cat_l, cat_a]) (fun p e s m args below meth c ls X hr hlk hnm S hl => ?_)
  have hl : lv_has ls 4 [(0, rv a0), (1, rv a1), (2, .int a2)] := by simpa [lv_args, cat_rv, cat_wv, cat_sv, cat_i, cat_l, cat_a] using hl
  generalize hH : s.heap = H at S ⊢
  generalize hlo : ([] : List Loc) = locs at S ⊢
  clear hH hlo
  unfold fX4_firstChange at hf
  obtain ⟨hth, hf⟩ := gd_some hf
  refine g_aload_n X (or_rv _) dX4_firstChange_0 rfl (lv_at hl 0 rfl) ?_
  refine g_gR X S foX4_21 dX4_firstChange_1 hf (fun v1 hf => ?_)
  refine g_aload_n X (or_rv _) dX4_firstChange_4 rfl (lv_at hl 1 rfl) ?_
  obtain ⟨h, hc, hf⟩ := ob_some hf
  refine g_cv S (runV (As := [rv a1]) (rest := []) X S coX4_32 (by decide) (cX10_become_m l hc) (tkX10_become hc) rfl hl.1 (by decide) rfl ⟨Nat.zero_le _, Nat.zero_le _⟩ dX4_firstChange_5) (fun H locs S => ?_)
  refine lv_iconst (v := 1) X.1 X.2.1 dX4_firstChange_8 (by decide) ?_
  refine lv_istore_n (i := 3) (lv' := [(3, .int 1), (0, rv a0), (1, rv a1), (2, .int a2)]) X.1 X.2.1 dX4_firstChange_9 rfl hl (by decide) rfl (fun ls hl => ?_)
  exact wfX4_firstChange_10_l X hr hlk hnm FU _ _ _ _ _ _ _ _ (lv_sub hl [1, 2, 3, 0] rfl) S hf
def fX12_changes (a0 : Nat) (a1 : Int32) (h : Hp) : Option ((Nat ⊕ Int32) × Hp) := gd 10 a0 h (oe (fX12_needPlace a0 a1 h) (fun k => some (.inl k, h)) fun v1 => ob (gR 10 a0 5 h) fun v2 => ob (gR 10 a0 10 h) fun v3 => ob (gR 2 v3 0 h) fun v4 => ob2 (fX4_firstChange v2 v4 a1 h) fun v5 h => some (.inr v5, h))
theorem tkX12_changes {a0 : Nat} {a1 : Int32} {h : Hp} {r9 : (Nat ⊕ Int32) × Hp} (e : fX12_changes a0 a1 h = some r9) : hK h a0 = 10 := by
  unfold fX12_changes at e
  exact (gd_some e).1
theorem cX12_changes_m (l : Launch) {E : EE} {A : Nat → Prop} {a0 : Nat} {a1 : Int32} {h : Hp} {r9 : Int32} {h9 : Hp} (hf : fX12_changes a0 a1 h = some (.inr r9, h9)) : Met l yX12_changes (wsM yX12_changes cX12_changes 2 (some .int)) (rmm 14 0 0) (PcE E A h [rv a0, .int a1]) (Qi E A h9 r9) 0 0 A := by
  refine met_of (by decide +kernel) (by simp [lg_sl, cat_rv, cat_wv, cat_sv, cat_i, cat_l, cat_a]) (fun p e s m args below meth c ls X hr hlk hnm S hl => ?_)
  have hl : lv_has ls 2 [(0, rv a0), (1, .int a1)] := by simpa [lv_args, cat_rv, cat_wv, cat_sv, cat_i, cat_l, cat_a] using hl
  generalize hH : s.heap = H at S ⊢
  generalize hlo : ([] : List Loc) = locs at S ⊢
  clear hH hlo
  unfold fX12_changes at hf
  obtain ⟨hth, hf⟩ := gd_some hf
  refine g_aload_n X (or_rv _) dX12_changes_0 rfl (lv_at hl 0 rfl) ?_
  refine lv_iload_n X.1 X.2.1 dX12_changes_1 rfl (lv_at hl 1 rfl) ?_
  rcases oe_some hf with ⟨k, hc, hf⟩ | ⟨v1, hc, hf⟩
  · cases hf
  refine g_cv S (runV (As := [.int a1]) (rest := []) X S coX12_140 (by decide) (cX12_needPlace_m l hc) (tkX12_needPlace hc) rfl hl.1 (by decide) rfl ⟨Nat.zero_le _, Nat.zero_le _⟩ dX12_changes_2) (fun H locs S => ?_)
  refine g_aload_n X (or_rv _) dX12_changes_5 rfl (lv_at hl 0 rfl) ?_
  refine g_gR X S foX12_34 dX12_changes_6 hf (fun v2 hf => ?_)
  refine g_aload_n X (or_rv _) dX12_changes_9 rfl (lv_at hl 0 rfl) ?_
  refine g_gR X S foX12_61 dX12_changes_10 hf (fun v3 hf => ?_)
  refine g_gR X S foX12_107 dX12_changes_13 hf (fun v4 hf => ?_)
  refine lv_iload_n X.1 X.2.1 dX12_changes_16 rfl (lv_at hl 1 rfl) ?_
  obtain ⟨v5, h, hc, hf⟩ := ob2_some hf
  refine g_ci S (runV (As := [rv v4, .int a1]) (rest := []) X S coX12_267 (by decide) (cX4_firstChange_m l hc) (tkX4_firstChange hc) rfl hl.1 (by decide) rfl ⟨Nat.zero_le _, Nat.zero_le _⟩ dX12_changes_17) (fun H locs S => ?_)
  cases hf; exact g_ri X S hr hlk dX12_changes_20
theorem cX12_changes_x (l : Launch) (hlt : l.stackTraces = false) {E : EE} {A : Nat → Prop} {a0 : Nat} {a1 : Int32} {h : Hp} {k9 : Nat} {h9 : Hp} (hf : fX12_changes a0 a1 h = some (.inl k9, h9)) : vx_Met l yX12_changes (wsM yX12_changes cX12_changes 2 (some .int)) (rmm 14 1 6) (PcE E A h [rv a0, .int a1]) noQ (XX E A h9 k9) 1 6 A := by
  refine met_ofX (by decide +kernel) (by simp [lg_sl, cat_rv, cat_wv, cat_sv, cat_i, cat_l, cat_a]) (fun p e s m args below meth c ls X hr hlk hnm hne S hl => ?_)
  have hR1 : 0 + 1 ≤ (rmm 14 1 6).cells ∧ 0 + 6 ≤ (rmm 14 1 6).slots := ⟨Nat.le_refl _, Nat.le_refl _⟩
  have hl : lv_has ls 2 [(0, rv a0), (1, .int a1)] := by simpa [lv_args, cat_rv, cat_wv, cat_sv, cat_i, cat_l, cat_a] using hl
  generalize hH : s.heap = H at S ⊢
  generalize hlo : ([] : List Loc) = locs at S ⊢
  clear hH hlo
  unfold fX12_changes at hf
  obtain ⟨hth, hf⟩ := gd_some hf
  refine g_aload_n X (or_rv _) dX12_changes_0 rfl (lv_at hl 0 rfl) ?_
  refine lv_iload_n X.1 X.2.1 dX12_changes_1 rfl (lv_at hl 1 rfl) ?_
  rcases oe_some hf with ⟨k, hc, hf⟩ | ⟨v1, hc, hf⟩
  · cases hf
    exact g_pass S hne hlk (runVX (As := [.int a1]) (rest := []) X S coX12_140 (by decide) (cX12_needPlace_x l hlt hc) (tkX12_needPlace hc) rfl hl.1 (by decide) rfl hR1 dX12_changes_2)
  refine g_cv S (runV (As := [.int a1]) (rest := []) X S coX12_140 (by decide) (cX12_needPlace_m l hc) (tkX12_needPlace hc) rfl hl.1 (by decide) rfl ⟨Nat.zero_le _, Nat.zero_le _⟩ dX12_changes_2) (fun H locs S => ?_)
  refine g_aload_n X (or_rv _) dX12_changes_5 rfl (lv_at hl 0 rfl) ?_
  refine g_gR X S foX12_34 dX12_changes_6 hf (fun v2 hf => ?_)
  refine g_aload_n X (or_rv _) dX12_changes_9 rfl (lv_at hl 0 rfl) ?_
  refine g_gR X S foX12_61 dX12_changes_10 hf (fun v3 hf => ?_)
  refine g_gR X S foX12_107 dX12_changes_13 hf (fun v4 hf => ?_)
  refine lv_iload_n X.1 X.2.1 dX12_changes_16 rfl (lv_at hl 1 rfl) ?_
  obtain ⟨v5, h, hc, hf⟩ := ob2_some hf
  refine g_ci S (runV (As := [rv v4, .int a1]) (rest := []) X S coX12_267 (by decide) (cX4_firstChange_m l hc) (tkX4_firstChange hc) rfl hl.1 (by decide) rfl ⟨Nat.zero_le _, Nat.zero_le _⟩ dX12_changes_17) (fun H locs S => ?_)
  cases hf
def fX4_firstReturn_38 (k10 : Nat → Nat → Int32 → Hp → Option (Int32 × Hp)) (x0 : Nat) (x1 : Nat) (x2 : Int32) (h : Hp) : Option (Int32 × Hp) := ob (gR 4 x0 1 h) fun v1 => ob (fX10_alike v1 x1 276 (-1) h) fun v2 => if v2 = 0 then lt (x2 + 1) fun z4 => k10 x0 x1 z4 h else some (x2, h)
theorem wfX4_firstReturn_38 {k10 : Nat → Nat → Int32 → Hp → Option (Int32 × Hp)} {r9 : Int32} {h9 : Hp} (X : Cx p E A 13 R s m args c cX4_firstReturn yX4_firstReturn.cls 3) (hr : meth.sig.returnType = (some .int)) (hlk : meth.locks = false) (hnm : meth.name = yX4_firstReturn.name) (hk10 : ∀ (x0 : Nat) (x1 : Nat) (x2 : Int32) (h : Hp) (H : Heap) (locs : List Loc) (ls : Array Slot), lv_has ls 3 [(0, rv x0), (1, rv x1), (2, .int x2)] → St E A s h H locs → k10 x0 x1 x2 h = some (r9, h9) → W p l e R s m args below meth c H locs 0 0 (MQ below (Qi E A h9 r9) args s 0 0 A) (F0 m 10 ls [])) :
    ∀ (x0 : Nat) (x1 : Nat) (x2 : Int32) (h : Hp) (H : Heap) (locs : List Loc) (ls : Array Slot), lv_has ls 3 [(0, rv x0), (1, rv x1), (2, .int x2)] → St E A s h H locs → fX4_firstReturn_38 k10 x0 x1 x2 h = some (r9, h9) → W p l e R s m args below meth c H locs 0 0 (MQ below (Qi E A h9 r9) args s 0 0 A) (F0 m 38 ls []) := by
  intro x0 x1 x2 h H locs ls hl S hf
  unfold fX4_firstReturn_38 at hf
  refine g_aload_n X (or_rv _) dX4_firstReturn_38 rfl (lv_at hl 0 rfl) ?_
  refine g_gR X S foX4_21 dX4_firstReturn_39 hf (fun v1 hf => ?_)
  refine g_aload_n X (or_rv _) dX4_firstReturn_42 rfl (lv_at hl 1 rfl) ?_
  refine lv_sipush (v := 276) X.1 X.2.1 dX4_firstReturn_43 (by decide) ?_
  refine lv_iconst (v := (-1)) X.1 X.2.1 dX4_firstReturn_46 (by decide) ?_
  obtain ⟨v2, hc, hf⟩ := ob_some hf
  refine g_ci S (runV (As := [rv x1, .int 276, .int (-1)]) (rest := []) X S coX4_48 (by decide) (cX10_alike_m l hc) (tkX10_alike hc) rfl hl.1 (by decide) rfl ⟨Nat.zero_le _, Nat.zero_le _⟩ dX4_firstReturn_47) (fun H locs S => ?_)
  refine lv_if_eq (tgt := 55) X.1 X.2.1 dX4_firstReturn_50 (by decide) (fun c3 => ?_) (fun c3 => ?_)
  · replace hf := (if_pos c3).symm.trans hf
    obtain ⟨z4, ez4, hf⟩ := lt_some hf
    refine lv_iinc (v := z4) (lv' := [(2, .int z4), (0, rv x0), (1, rv x1)]) X.1 X.2.1 dX4_firstReturn_55 hl (k := 2) rfl (by rw [← ez4]; rfl) (by decide) (by simp [List.filter, cat_rv, cat_wv, cat_sv]) (fun ls hl => ?_)
    refine lv_goto (tgt := 10) X.1 X.2.1 dX4_firstReturn_58 (by decide) ?_
    exact hk10 _ _ _ _ _ _ _ (lv_sub hl [1, 2, 0] rfl) S hf
  · replace hf := (if_neg c3).symm.trans hf
    refine lv_iload_n X.1 X.2.1 dX4_firstReturn_53 rfl (lv_at hl 2 rfl) ?_
    cases hf; exact g_ri X S hr hlk dX4_firstReturn_54
def fX4_firstReturn_10 (k10 : Nat → Nat → Int32 → Hp → Option (Int32 × Hp)) (x0 : Nat) (x1 : Nat) (x2 : Int32) (h : Hp) : Option (Int32 × Hp) := if 100 < x2 then some ((-1), h) else ob (gR 4 x0 1 h) fun v2 => ob (fX10_running v2 h) fun v3 => if v3 = 0 then fX4_firstReturn_38 k10 x0 x1 x2 h else ob (gR 4 x0 0 h) fun v5 => ob (gR 4 x0 1 h) fun v6 => ob2 (fX9_step v5 v6 h) fun v7 h => fX4_firstReturn_38 k10 x0 x1 x2 h
theorem wfX4_firstReturn_10 {k10 : Nat → Nat → Int32 → Hp → Option (Int32 × Hp)} {r9 : Int32} {h9 : Hp} (X : Cx p E A 13 R s m args c cX4_firstReturn yX4_firstReturn.cls 3) (hr : meth.sig.returnType = (some .int)) (hlk : meth.locks = false) (hnm : meth.name = yX4_firstReturn.name) (hk10 : ∀ (x0 : Nat) (x1 : Nat) (x2 : Int32) (h : Hp) (H : Heap) (locs : List Loc) (ls : Array Slot), lv_has ls 3 [(0, rv x0), (1, rv x1), (2, .int x2)] → St E A s h H locs → k10 x0 x1 x2 h = some (r9, h9) → W p l e R s m args below meth c H locs 0 0 (MQ below (Qi E A h9 r9) args s 0 0 A) (F0 m 10 ls [])) :
    ∀ (x0 : Nat) (x1 : Nat) (x2 : Int32) (h : Hp) (H : Heap) (locs : List Loc) (ls : Array Slot), lv_has ls 3 [(0, rv x0), (1, rv x1), (2, .int x2)] → St E A s h H locs → fX4_firstReturn_10 k10 x0 x1 x2 h = some (r9, h9) → W p l e R s m args below meth c H locs 0 0 (MQ below (Qi E A h9 r9) args s 0 0 A) (F0 m 10 ls []) := by
  intro x0 x1 x2 h H locs ls hl S hf
  unfold fX4_firstReturn_10 at hf
  refine lv_iload_n X.1 X.2.1 dX4_firstReturn_10 rfl (lv_at hl 2 rfl) ?_
  refine lv_bipush (v := 100) X.1 X.2.1 dX4_firstReturn_11 (by decide) ?_
  refine lv_icmp_gt (tgt := 61) X.1 X.2.1 dX4_firstReturn_13 (by decide) (fun c1 => ?_) (fun c1 => ?_)
  · replace hf := (if_pos c1).symm.trans hf
    refine lv_iconst (v := (-1)) X.1 X.2.1 dX4_firstReturn_61 (by decide) ?_
    cases hf; exact g_ri X S hr hlk dX4_firstReturn_62
  · replace hf := (if_neg c1).symm.trans hf
    refine g_aload_n X (or_rv _) dX4_firstReturn_16 rfl (lv_at hl 0 rfl) ?_
    refine g_gR X S foX4_21 dX4_firstReturn_17 hf (fun v2 hf => ?_)
    obtain ⟨v3, hc, hf⟩ := ob_some hf
    refine g_ci S (runV (As := []) (rest := []) X S coX4_36 (by decide) (cX10_running_m l hc) (tkX10_running hc) rfl hl.1 (by decide) rfl ⟨Nat.zero_le _, Nat.zero_le _⟩ dX4_firstReturn_20) (fun H locs S => ?_)
    refine lv_if_eq (tgt := 38) X.1 X.2.1 dX4_firstReturn_23 (by decide) (fun c4 => ?_) (fun c4 => ?_)
    · replace hf := (if_pos c4).symm.trans hf
      exact wfX4_firstReturn_38 X hr hlk hnm hk10 _ _ _ _ _ _ _ hl S hf
    · replace hf := (if_neg c4).symm.trans hf
      refine g_aload_n X (or_rv _) dX4_firstReturn_26 rfl (lv_at hl 0 rfl) ?_
      refine g_gR X S foX4_12 dX4_firstReturn_27 hf (fun v5 hf => ?_)
      refine g_aload_n X (or_rv _) dX4_firstReturn_30 rfl (lv_at hl 0 rfl) ?_
      refine g_gR X S foX4_21 dX4_firstReturn_31 hf (fun v6 hf => ?_)
      obtain ⟨v7, h, hc, hf⟩ := ob2_some hf
      refine g_ci S (runV (As := [rv v6]) (rest := []) X S coX4_40 (by decide) (cX9_step_m l hc) (tkX9_step hc) rfl hl.1 (by decide) rfl ⟨Nat.zero_le _, Nat.zero_le _⟩ dX4_firstReturn_34) (fun H locs S => ?_)
      refine lv_pop X.1 X.2.1 dX4_firstReturn_37 rfl ?_
      exact wfX4_firstReturn_38 X hr hlk hnm hk10 _ _ _ _ _ _ _ hl S hf
theorem wfX4_firstReturn_10_l {r9 : Int32} {h9 : Hp} (X : Cx p E A 13 R s m args c cX4_firstReturn yX4_firstReturn.cls 3) (hr : meth.sig.returnType = (some .int)) (hlk : meth.locks = false) (hnm : meth.name = yX4_firstReturn.name) :
    ∀ (n : Nat) (x0 : Nat) (x1 : Nat) (x2 : Int32) (h : Hp) (H : Heap) (locs : List Loc) (ls : Array Slot), lv_has ls 3 [(0, rv x0), (1, rv x1), (2, .int x2)] → St E A s h H locs → lp (fun _ _ _ _ => none) (fX4_firstReturn_10) n x0 x1 x2 h = some (r9, h9) → W p l e R s m args below meth c H locs 0 0 (MQ below (Qi E A h9 r9) args s 0 0 A) (F0 m 10 ls []) := by
  intro n
  induction n with
  | zero =>
    intro x0 x1 x2 h H locs ls hl S hf
    exact nomatch hf
  | succ n ih =>
    intro x0 x1 x2 h H locs ls hl S hf
    exact wfX4_firstReturn_10 X hr hlk hnm ih x0 x1 x2 h H locs ls hl S hf
def fX4_firstReturn (a0 : Nat) (a1 : Nat) (h : Hp) : Option (Int32 × Hp) := gd 4 a0 h (ob (gR 4 a0 1 h) fun v1 => ob (fX10_become v1 a1 h) fun h => lp (fun _ _ _ _ => none) (fX4_firstReturn_10) FU a0 a1 1 h)
theorem tkX4_firstReturn {a0 : Nat} {a1 : Nat} {h : Hp} {r9 : Int32 × Hp} (e : fX4_firstReturn a0 a1 h = some r9) : hK h a0 = 4 := by
  unfold fX4_firstReturn at e
  exact (gd_some e).1
theorem cX4_firstReturn_m (l : Launch) {E : EE} {A : Nat → Prop} {a0 : Nat} {a1 : Nat} {h : Hp} {r9 : Int32} {h9 : Hp} (hf : fX4_firstReturn a0 a1 h = some (r9, h9)) : Met l yX4_firstReturn (wsM yX4_firstReturn cX4_firstReturn 3 (some .int)) (rmm 13 0 0) (PcE E A h [rv a0, rv a1]) (Qi E A h9 r9) 0 0 A := by
  refine met_of (by decide +kernel) (by simp [lg_sl, cat_rv, cat_wv, cat_sv, cat_i, cat_l, cat_a]) (fun p e s m args below meth c ls X hr hlk hnm S hl => ?_)
  have hl : lv_has ls 3 [(0, rv a0), (1, rv a1)] := by simpa [lv_args, cat_rv, cat_wv, cat_sv, cat_i, cat_l, cat_a] using hl
  generalize hH : s.heap = H at S ⊢
  generalize hlo : ([] : List Loc) = locs at S ⊢
  clear hH hlo
  unfold fX4_firstReturn at hf
  obtain ⟨hth, hf⟩ := gd_some hf
  refine g_aload_n X (or_rv _) dX4_firstReturn_0 rfl (lv_at hl 0 rfl) ?_
  refine g_gR X S foX4_21 dX4_firstReturn_1 hf (fun v1 hf => ?_)
  refine g_aload_n X (or_rv _) dX4_firstReturn_4 rfl (lv_at hl 1 rfl) ?_
  obtain ⟨h, hc, hf⟩ := ob_some hf
  refine g_cv S (runV (As := [rv a1]) (rest := []) X S coX4_32 (by decide) (cX10_become_m l hc) (tkX10_become hc) rfl hl.1 (by decide) rfl ⟨Nat.zero_le _, Nat.zero_le _⟩ dX4_firstReturn_5) (fun H locs S => ?_)
  refine lv_iconst (v := 1) X.1 X.2.1 dX4_firstReturn_8 (by decide) ?_
  refine lv_istore_n (i := 2) (lv' := [(2, .int 1), (0, rv a0), (1, rv a1)]) X.1 X.2.1 dX4_firstReturn_9 rfl hl (by decide) (by simp [List.filter, cat_rv, cat_wv, cat_sv]) (fun ls hl => ?_)
  exact wfX4_firstReturn_10_l X hr hlk hnm FU _ _ _ _ _ _ _ (lv_sub hl [1, 2, 0] rfl) S hf
def fX12_round (a0 : Nat) (h : Hp) : Option (Int32 × Hp) := gd 10 a0 h (ob (gR 10 a0 5 h) fun v1 => ob (gR 10 a0 10 h) fun v2 => ob (gR 2 v2 0 h) fun v3 => ob2 (fX4_firstReturn v1 v3 h) fun v4 h => some (v4, h))
theorem tkX12_round {a0 : Nat} {h : Hp} {r9 : Int32 × Hp} (e : fX12_round a0 h = some r9) : hK h a0 = 10 := by
  unfold fX12_round at e
  exact (gd_some e).1
theorem cX12_round_m (l : Launch) {E : EE} {A : Nat → Prop} {a0 : Nat} {h : Hp} {r9 : Int32} {h9 : Hp} (hf : fX12_round a0 h = some (r9, h9)) : Met l yX12_round (wsM yX12_round cX12_round 1 (some .int)) (rmm 14 0 0) (PcE E A h [rv a0]) (Qi E A h9 r9) 0 0 A := by
  refine met_of (by decide +kernel) (by simp [lg_sl, cat_rv, cat_wv, cat_sv, cat_i, cat_l, cat_a]) (fun p e s m args below meth c ls X hr hlk hnm S hl => ?_)
  have hl : lv_has ls 1 [(0, rv a0)] := by simpa [lv_args, cat_rv, cat_wv, cat_sv, cat_i, cat_l, cat_a] using hl
  generalize hH : s.heap = H at S ⊢
  generalize hlo : ([] : List Loc) = locs at S ⊢
  clear hH hlo
  unfold fX12_round at hf
  obtain ⟨hth, hf⟩ := gd_some hf
  refine g_aload_n X (or_rv _) dX12_round_0 rfl (lv_at hl 0 rfl) ?_
  refine g_gR X S foX12_34 dX12_round_1 hf (fun v1 hf => ?_)
  refine g_aload_n X (or_rv _) dX12_round_4 rfl (lv_at hl 0 rfl) ?_
  refine g_gR X S foX12_61 dX12_round_5 hf (fun v2 hf => ?_)
  refine g_gR X S foX12_107 dX12_round_8 hf (fun v3 hf => ?_)
  obtain ⟨v4, h, hc, hf⟩ := ob2_some hf
  refine g_ci S (runV (As := [rv v3]) (rest := []) X S coX12_270 (by decide) (cX4_firstReturn_m l hc) (tkX4_firstReturn hc) rfl hl.1 (by decide) rfl ⟨Nat.zero_le _, Nat.zero_le _⟩ dX12_round_11) (fun H locs S => ?_)
  cases hf; exact g_ri X S hr hlk dX12_round_14
def fX4_clearTold (a0 : Nat) (h : Hp) : Option (Hp) := gd 4 a0 h (ob (gR 4 a0 3 h) fun v1 => ob (qI v1 0 0 h) fun h => ob (gR 4 a0 3 h) fun v2 => ob (qI v2 1 0 h) fun h => ob (gR 4 a0 3 h) fun v3 => ob (qI v3 2 0 h) fun h => ob (gR 4 a0 3 h) fun v4 => ob (qI v4 3 (-1) h) fun h => some h)
theorem tkX4_clearTold {a0 : Nat} {h : Hp} {r9 : Hp} (e : fX4_clearTold a0 h = some r9) : hK h a0 = 4 := by
  unfold fX4_clearTold at e
  exact (gd_some e).1
theorem cX4_clearTold_m (l : Launch) {E : EE} {A : Nat → Prop} {a0 : Nat} {h : Hp} {h9 : Hp} (hf : fX4_clearTold a0 h = some h9) : Met l yX4_clearTold (wsM yX4_clearTold cX4_clearTold 1 none) (rmm 8 0 0) (PcE E A h [rv a0]) (Qv E A h9) 0 0 A := by
  refine met_of (by decide +kernel) (by simp [lg_sl, cat_rv, cat_wv, cat_sv, cat_i, cat_l, cat_a]) (fun p e s m args below meth c ls X hr hlk hnm S hl => ?_)
  have hl : lv_has ls 1 [(0, rv a0)] := by simpa [lv_args, cat_rv, cat_wv, cat_sv, cat_i, cat_l, cat_a] using hl
  generalize hH : s.heap = H at S ⊢
  generalize hlo : ([] : List Loc) = locs at S ⊢
  clear hH hlo
  unfold fX4_clearTold at hf
  obtain ⟨hth, hf⟩ := gd_some hf
  refine g_aload_n X (or_rv _) dX4_clearTold_0 rfl (lv_at hl 0 rfl) ?_
  refine g_gR X S foX4_28 dX4_clearTold_1 hf (fun v1 hf => ?_)
  refine lv_iconst (v := 0) X.1 X.2.1 dX4_clearTold_4 (by decide) ?_
  refine lv_iconst (v := 0) X.1 X.2.1 dX4_clearTold_5 (by decide) ?_
  refine g_qI X S dX4_clearTold_6 hf (fun h H locs hm hf S => ?_)
  refine g_aload_n X (or_rv _) dX4_clearTold_7 rfl (lv_at hl 0 rfl) ?_
  refine g_gR X S foX4_28 dX4_clearTold_8 hf (fun v2 hf => ?_)
  refine lv_iconst (v := 1) X.1 X.2.1 dX4_clearTold_11 (by decide) ?_
  refine lv_iconst (v := 0) X.1 X.2.1 dX4_clearTold_12 (by decide) ?_
  refine g_qI X S dX4_clearTold_13 hf (fun h H locs hm hf S => ?_)
  refine g_aload_n X (or_rv _) dX4_clearTold_14 rfl (lv_at hl 0 rfl) ?_
  refine g_gR X S foX4_28 dX4_clearTold_15 hf (fun v3 hf => ?_)
  refine lv_iconst (v := 2) X.1 X.2.1 dX4_clearTold_18 (by decide) ?_
  refine lv_iconst (v := 0) X.1 X.2.1 dX4_clearTold_19 (by decide) ?_
  refine g_qI X S dX4_clearTold_20 hf (fun h H locs hm hf S => ?_)
  refine g_aload_n X (or_rv _) dX4_clearTold_21 rfl (lv_at hl 0 rfl) ?_
  refine g_gR X S foX4_28 dX4_clearTold_22 hf (fun v4 hf => ?_)
  refine lv_iconst (v := 3) X.1 X.2.1 dX4_clearTold_25 (by decide) ?_
  refine lv_iconst (v := (-1)) X.1 X.2.1 dX4_clearTold_26 (by decide) ?_
  refine g_qI X S dX4_clearTold_27 hf (fun h H locs hm hf S => ?_)
  cases hf; exact g_rv X S hr hlk dX4_clearTold_28
def fX4_runToFault_5 (k5 : Nat → Nat → Int32 → Int32 → Int32 → Hp → Option (Int32 × Hp)) (x0 : Nat) (x1 : Nat) (x2 : Int32) (x3 : Int32) (x4 : Int32) (h : Hp) : Option (Int32 × Hp) := if x2 ≤ x4 then some (x3, h) else ob (fX10_running x1 h) fun v2 => if v2 = 0 then some (x3, h) else if x3 = 0 then ob (gR 4 x0 0 h) fun v5 => ob2 (fX9_step v5 x1 h) fun v6 h => lt (x4 + 1) fun z7 => k5 x0 x1 x2 v6 z7 h else some (x3, h)
theorem wfX4_runToFault_5 {k5 : Nat → Nat → Int32 → Int32 → Int32 → Hp → Option (Int32 × Hp)} {r9 : Int32} {h9 : Hp} (X : Cx p E A 13 R s m args c cX4_runToFault yX4_runToFault.cls 5) (hr : meth.sig.returnType = (some .int)) (hlk : meth.locks = false) (hnm : meth.name = yX4_runToFault.name) (hk5 : ∀ (x0 : Nat) (x1 : Nat) (x2 : Int32) (x3 : Int32) (x4 : Int32) (h : Hp) (H : Heap) (locs : List Loc) (ls : Array Slot), lv_has ls 5 [(0, rv x0), (1, rv x1), (2, .int x2), (3, .int x3), (4, .int x4)] → St E A s h H locs → k5 x0 x1 x2 x3 x4 h = some (r9, h9) → W p l e R s m args below meth c H locs 0 0 (MQ below (Qi E A h9 r9) args s 0 0 A) (F0 m 5 ls [])) :
    ∀ (x0 : Nat) (x1 : Nat) (x2 : Int32) (x3 : Int32) (x4 : Int32) (h : Hp) (H : Heap) (locs : List Loc) (ls : Array Slot), lv_has ls 5 [(0, rv x0), (1, rv x1), (2, .int x2), (3, .int x3), (4, .int x4)] → St E A s h H locs → fX4_runToFault_5 k5 x0 x1 x2 x3 x4 h = some (r9, h9) → W p l e R s m args below meth c H locs 0 0 (MQ below (Qi E A h9 r9) args s 0 0 A) (F0 m 5 ls []) := by
  intro x0 x1 x2 x3 x4 h H locs ls hl S hf
  unfold fX4_runToFault_5 at hf
  refine lv_iload X.1 X.2.1 dX4_runToFault_5 (lv_at hl 4 rfl) ?_
  refine lv_iload_n X.1 X.2.1 dX4_runToFault_7 rfl (lv_at hl 2 rfl) ?_
  refine lv_icmp_ge (tgt := 37) X.1 X.2.1 dX4_runToFault_8 (by decide) (fun c1 => ?_) (fun c1 => ?_)
  · replace hf := (if_pos c1).symm.trans hf
    refine lv_iload_n X.1 X.2.1 dX4_runToFault_37 rfl (lv_at hl 3 rfl) ?_
    cases hf; exact g_ri X S hr hlk dX4_runToFault_38
  · replace hf := (if_neg c1).symm.trans hf
    refine g_aload_n X (or_rv _) dX4_runToFault_11 rfl (lv_at hl 1 rfl) ?_
    obtain ⟨v2, hc, hf⟩ := ob_some hf
    refine g_ci S (runV (As := []) (rest := []) X S coX4_36 (by decide) (cX10_running_m l hc) (tkX10_running hc) rfl hl.1 (by decide) rfl ⟨Nat.zero_le _, Nat.zero_le _⟩ dX4_runToFault_12) (fun H locs S => ?_)
    refine lv_if_eq (tgt := 37) X.1 X.2.1 dX4_runToFault_15 (by decide) (fun c3 => ?_) (fun c3 => ?_)
    · replace hf := (if_pos c3).symm.trans hf
      refine lv_iload_n X.1 X.2.1 dX4_runToFault_37 rfl (lv_at hl 3 rfl) ?_
      cases hf; exact g_ri X S hr hlk dX4_runToFault_38
    · replace hf := (if_neg c3).symm.trans hf
      refine lv_iload_n X.1 X.2.1 dX4_runToFault_18 rfl (lv_at hl 3 rfl) ?_
      refine lv_if_ne (tgt := 37) X.1 X.2.1 dX4_runToFault_19 (by decide) (fun c4 => ?_) (fun c4 => ?_)
      · replace hf := (if_neg c4).symm.trans hf
        refine lv_iload_n X.1 X.2.1 dX4_runToFault_37 rfl (lv_at hl 3 rfl) ?_
        cases hf; exact g_ri X S hr hlk dX4_runToFault_38
      · replace hf := (if_pos c4).symm.trans hf
        refine g_aload_n X (or_rv _) dX4_runToFault_22 rfl (lv_at hl 0 rfl) ?_
        refine g_gR X S foX4_12 dX4_runToFault_23 hf (fun v5 hf => ?_)
        refine g_aload_n X (or_rv _) dX4_runToFault_26 rfl (lv_at hl 1 rfl) ?_
        obtain ⟨v6, h, hc, hf⟩ := ob2_some hf
        refine g_ci S (runV (As := [rv x1]) (rest := []) X S coX4_40 (by decide) (cX9_step_m l hc) (tkX9_step hc) rfl hl.1 (by decide) rfl ⟨Nat.zero_le _, Nat.zero_le _⟩ dX4_runToFault_27) (fun H locs S => ?_)
        refine lv_istore_n (i := 3) (lv' := [(3, .int v6), (0, rv x0), (1, rv x1), (2, .int x2), (4, .int x4)]) X.1 X.2.1 dX4_runToFault_30 rfl hl (by decide) rfl (fun ls hl => ?_)
        obtain ⟨z7, ez7, hf⟩ := lt_some hf
        refine lv_iinc (v := z7) (lv' := [(4, .int z7), (3, .int v6), (0, rv x0), (1, rv x1), (2, .int x2)]) X.1 X.2.1 dX4_runToFault_31 hl (k := 4) rfl (by rw [← ez7]; rfl) (by decide) rfl (fun ls hl => ?_)
        refine lv_goto (tgt := 5) X.1 X.2.1 dX4_runToFault_34 (by decide) ?_
        exact hk5 _ _ _ _ _ _ _ _ _ (lv_sub hl [2, 3, 4, 1, 0] rfl) S hf
theorem wfX4_runToFault_5_l {r9 : Int32} {h9 : Hp} (X : Cx p E A 13 R s m args c cX4_runToFault yX4_runToFault.cls 5) (hr : meth.sig.returnType = (some .int)) (hlk : meth.locks = false) (hnm : meth.name = yX4_runToFault.name) :
    ∀ (n : Nat) (x0 : Nat) (x1 : Nat) (x2 : Int32) (x3 : Int32) (x4 : Int32) (h : Hp) (H : Heap) (locs : List Loc) (ls : Array Slot), lv_has ls 5 [(0, rv x0), (1, rv x1), (2, .int x2), (3, .int x3), (4, .int x4)] → St E A s h H locs → lp (fun _ _ _ _ _ _ => none) (fX4_runToFault_5) n x0 x1 x2 x3 x4 h = some (r9, h9) → W p l e R s m args below meth c H locs 0 0 (MQ below (Qi E A h9 r9) args s 0 0 A) (F0 m 5 ls []) := by
  intro n
  induction n with
  | zero =>
    intro x0 x1 x2 x3 x4 h H locs ls hl S hf
    exact nomatch hf
  | succ n ih =>
    intro x0 x1 x2 x3 x4 h H locs ls hl S hf
    exact wfX4_runToFault_5 X hr hlk hnm ih x0 x1 x2 x3 x4 h H locs ls hl S hf
def fX4_runToFault (a0 : Nat) (a1 : Nat) (a2 : Int32) (h : Hp) : Option (Int32 × Hp) := gd 4 a0 h (lp (fun _ _ _ _ _ _ => none) (fX4_runToFault_5) FU a0 a1 a2 0 0 h)
theorem tkX4_runToFault {a0 : Nat} {a1 : Nat} {a2 : Int32} {h : Hp} {r9 : Int32 × Hp} (e : fX4_runToFault a0 a1 a2 h = some r9) : hK h a0 = 4 := by
  unfold fX4_runToFault at e
  exact (gd_some e).1
theorem cX4_runToFault_m (l : Launch) {E : EE} {A : Nat → Prop} {a0 : Nat} {a1 : Nat} {a2 : Int32} {h : Hp} {r9 : Int32} {h9 : Hp} (hf : fX4_runToFault a0 a1 a2 h = some (r9, h9)) : Met l yX4_runToFault (wsM yX4_runToFault cX4_runToFault 5 (some .int)) (rmm 13 0 0) (PcE E A h [rv a0, rv a1, .int a2]) (Qi E A h9 r9) 0 0 A := by
  refine met_of (by decide +kernel) (by simp [lg_sl, cat_rv, cat_wv, cat_sv, cat_i, cat_l, cat_a]) (fun p e s m args below meth c ls X hr hlk hnm S hl => ?_)
  have hl : lv_has ls 5 [(0, rv a0), (1, rv a1), (2, .int a2)] := by simpa [lv_args, cat_rv, cat_wv, cat_sv, cat_i, cat_l, cat_a] using hl
  generalize hH : s.heap = H at S ⊢
  generalize hlo : ([] : List Loc) = locs at S ⊢
  clear hH hlo
  unfold fX4_runToFault at hf
  obtain ⟨hth, hf⟩ := gd_some hf
  refine lv_iconst (v := 0) X.1 X.2.1 dX4_runToFault_0 (by decide) ?_
  refine lv_istore_n (i := 3) (lv' := [(3, .int 0), (0, rv a0), (1, rv a1), (2, .int a2)]) X.1 X.2.1 dX4_runToFault_1 rfl hl (by decide) rfl (fun ls hl => ?_)
  refine lv_iconst (v := 0) X.1 X.2.1 dX4_runToFault_2 (by decide) ?_
  refine lv_istore (lv' := [(4, .int 0), (3, .int 0), (0, rv a0), (1, rv a1), (2, .int a2)]) X.1 X.2.1 dX4_runToFault_3 hl (by decide) rfl (fun ls hl => ?_)
  exact wfX4_runToFault_5_l X hr hlk hnm FU _ _ _ _ _ _ _ _ _ (lv_sub hl [2, 3, 4, 1, 0] rfl) S hf
def fX4_verdict_10 (h : Hp) (k15 : Nat → Int32 → Int32 → Int32 → Int32 → Option (Int32)) (x0 : Nat) (x1 : Int32) (x2 : Int32) (x3 : Int32) : Option (Int32) := k15 x0 x1 x2 x3 1
theorem wfX4_verdict_10 {h : Hp} {k15 : Nat → Int32 → Int32 → Int32 → Int32 → Option (Int32)} {r9 : Int32} (X : Cx p E A 9 R s m args c cX4_verdict yX4_verdict.cls 5) (hr : meth.sig.returnType = (some .int)) (hlk : meth.locks = false) (hnm : meth.name = yX4_verdict.name) (hk15 : ∀ (x0 : Nat) (x1 : Int32) (x2 : Int32) (x3 : Int32) (y0 : Int32) (H : Heap) (locs : List Loc) (ls : Array Slot), lv_has ls 5 [(0, rv x0), (1, .int x1), (2, .int x2), (3, .int x3)] → St E A s h H locs → k15 x0 x1 x2 x3 y0 = some r9 → W p l e R s m args below meth c H locs 0 0 (MQ below (Qi E A h r9) args s 0 0 A) (F0 m 15 ls [.int y0])) :
    ∀ (x0 : Nat) (x1 : Int32) (x2 : Int32) (x3 : Int32) (H : Heap) (locs : List Loc) (ls : Array Slot), lv_has ls 5 [(0, rv x0), (1, .int x1), (2, .int x2), (3, .int x3)] → St E A s h H locs → fX4_verdict_10 h k15 x0 x1 x2 x3 = some r9 → W p l e R s m args below meth c H locs 0 0 (MQ below (Qi E A h r9) args s 0 0 A) (F0 m 10 ls []) := by
  intro x0 x1 x2 x3 H locs ls hl S hf
  unfold fX4_verdict_10 at hf
  refine lv_iconst (v := 1) X.1 X.2.1 dX4_verdict_10 (by decide) ?_
  refine lv_goto (tgt := 15) X.1 X.2.1 dX4_verdict_11 (by decide) ?_
  exact hk15 _ _ _ _ _ _ _ _ hl S hf
def fX4_verdict_56 (h : Hp) (x0 : Nat) (x1 : Int32) (x2 : Int32) (x3 : Int32) : Option (Int32) := if x2 = 0 then if x3 = 0 then some 2 else ob (gR 4 x0 1 h) fun v3 => ob (gR 4 x0 2 h) fun v4 => ob (fX10_alike v3 v4 266 (x1 >>> ((1 : Int32) &&& 31)) h) fun v5 => if v5 = 0 then some 2 else some 1 else some 2
theorem wfX4_verdict_56 {h : Hp} {r9 : Int32} (X : Cx p E A 9 R s m args c cX4_verdict yX4_verdict.cls 5) (hr : meth.sig.returnType = (some .int)) (hlk : meth.locks = false) (hnm : meth.name = yX4_verdict.name) :
    ∀ (x0 : Nat) (x1 : Int32) (x2 : Int32) (x3 : Int32) (H : Heap) (locs : List Loc) (ls : Array Slot), lv_has ls 5 [(0, rv x0), (1, .int x1), (2, .int x2), (3, .int x3)] → St E A s h H locs → fX4_verdict_56 h x0 x1 x2 x3 = some r9 → W p l e R s m args below meth c H locs 0 0 (MQ below (Qi E A h r9) args s 0 0 A) (F0 m 56 ls []) := by
  intro x0 x1 x2 x3 H locs ls hl S hf
  unfold fX4_verdict_56 at hf
  refine lv_iload_n X.1 X.2.1 dX4_verdict_56 rfl (lv_at hl 2 rfl) ?_
  refine lv_if_ne (tgt := 88) X.1 X.2.1 dX4_verdict_57 (by decide) (fun c1 => ?_) (fun c1 => ?_)
  · replace hf := (if_neg c1).symm.trans hf
    refine lv_iconst (v := 2) X.1 X.2.1 dX4_verdict_88 (by decide) ?_
    cases hf; exact g_ri X S hr hlk dX4_verdict_89
  · replace hf := (if_pos c1).symm.trans hf
    refine lv_iload_n X.1 X.2.1 dX4_verdict_60 rfl (lv_at hl 3 rfl) ?_
    refine lv_if_eq (tgt := 88) X.1 X.2.1 dX4_verdict_61 (by decide) (fun c2 => ?_) (fun c2 => ?_)
    · replace hf := (if_pos c2).symm.trans hf
      refine lv_iconst (v := 2) X.1 X.2.1 dX4_verdict_88 (by decide) ?_
      cases hf; exact g_ri X S hr hlk dX4_verdict_89
    · replace hf := (if_neg c2).symm.trans hf
      refine g_aload_n X (or_rv _) dX4_verdict_64 rfl (lv_at hl 0 rfl) ?_
      refine g_gR X S foX4_21 dX4_verdict_65 hf (fun v3 hf => ?_)
      refine g_aload_n X (or_rv _) dX4_verdict_68 rfl (lv_at hl 0 rfl) ?_
      refine g_gR X S foX4_25 dX4_verdict_69 hf (fun v4 hf => ?_)
      refine lv_sipush (v := 266) X.1 X.2.1 dX4_verdict_72 (by decide) ?_
      refine lv_iload_n X.1 X.2.1 dX4_verdict_75 rfl (lv_at hl 1 rfl) ?_
      refine lv_iconst (v := 1) X.1 X.2.1 dX4_verdict_76 (by decide) ?_
      refine lv_ishr X.1 X.2.1 dX4_verdict_77 ?_
      obtain ⟨v5, hc, hf⟩ := ob_some hf
      refine g_ci S (runV (As := [rv v4, .int 266, .int (x1 >>> ((1 : Int32) &&& 31))]) (rest := []) X S coX4_48 (by decide) (cX10_alike_m l hc) (tkX10_alike hc) rfl hl.1 (by decide) rfl ⟨Nat.zero_le _, Nat.zero_le _⟩ dX4_verdict_78) (fun H locs S => ?_)
      refine lv_if_eq (tgt := 88) X.1 X.2.1 dX4_verdict_81 (by decide) (fun c6 => ?_) (fun c6 => ?_)
      · replace hf := (if_pos c6).symm.trans hf
        refine lv_iconst (v := 2) X.1 X.2.1 dX4_verdict_88 (by decide) ?_
        cases hf; exact g_ri X S hr hlk dX4_verdict_89
      · replace hf := (if_neg c6).symm.trans hf
        refine lv_iconst (v := 1) X.1 X.2.1 dX4_verdict_84 (by decide) ?_
        refine lv_goto (tgt := 89) X.1 X.2.1 dX4_verdict_85 (by decide) ?_
        cases hf; exact g_ri X S hr hlk dX4_verdict_89
def fX4_verdict_15 (h : Hp) (x0 : Nat) (x1 : Int32) (x2 : Int32) (x3 : Int32) (y0 : Int32) : Option (Int32) := if y0 = 0 then fX4_verdict_56 h x0 x1 x2 x3 else ob (gR 4 x0 1 h) fun v2 => ob (fX10_cell v2 284 h) fun v3 => if v3 = (x1 >>> ((1 : Int32) &&& 31)) then ob (gR 4 x0 1 h) fun v5 => ob (fX10_cell v5 285 h) fun v6 => if v6 = (x1 &&& (1 : Int32)) then some 0 else fX4_verdict_56 h x0 x1 x2 x3 else fX4_verdict_56 h x0 x1 x2 x3
theorem wfX4_verdict_15 {h : Hp} {r9 : Int32} (X : Cx p E A 9 R s m args c cX4_verdict yX4_verdict.cls 5) (hr : meth.sig.returnType = (some .int)) (hlk : meth.locks = false) (hnm : meth.name = yX4_verdict.name) :
    ∀ (x0 : Nat) (x1 : Int32) (x2 : Int32) (x3 : Int32) (y0 : Int32) (H : Heap) (locs : List Loc) (ls : Array Slot), lv_has ls 5 [(0, rv x0), (1, .int x1), (2, .int x2), (3, .int x3)] → St E A s h H locs → fX4_verdict_15 h x0 x1 x2 x3 y0 = some r9 → W p l e R s m args below meth c H locs 0 0 (MQ below (Qi E A h r9) args s 0 0 A) (F0 m 15 ls [.int y0]) := by
  intro x0 x1 x2 x3 y0 H locs ls hl S hf
  unfold fX4_verdict_15 at hf
  refine lv_istore (lv' := [(4, .int y0), (0, rv x0), (1, .int x1), (2, .int x2), (3, .int x3)]) X.1 X.2.1 dX4_verdict_15 hl (by decide) rfl (fun ls hl => ?_)
  refine lv_iload X.1 X.2.1 dX4_verdict_17 (lv_at hl 0 rfl) ?_
  refine lv_if_eq (tgt := 56) X.1 X.2.1 dX4_verdict_19 (by decide) (fun c1 => ?_) (fun c1 => ?_)
  · replace hf := (if_pos c1).symm.trans hf
    exact wfX4_verdict_56 X hr hlk hnm _ _ _ _ _ _ _ (lv_sub hl [1, 2, 3, 4] rfl) S hf
  · replace hf := (if_neg c1).symm.trans hf
    refine g_aload_n X (or_rv _) dX4_verdict_22 rfl (lv_at hl 1 rfl) ?_
    refine g_gR X S foX4_21 dX4_verdict_23 hf (fun v2 hf => ?_)
    refine lv_sipush (v := 284) X.1 X.2.1 dX4_verdict_26 (by decide) ?_
    obtain ⟨v3, hc, hf⟩ := ob_some hf
    refine g_ci S (runV (As := [.int 284]) (rest := []) X S coX4_44 (by decide) (cX10_cell_m l hc) (tkX10_cell hc) rfl hl.1 (by decide) rfl ⟨Nat.zero_le _, Nat.zero_le _⟩ dX4_verdict_29) (fun H locs S => ?_)
    refine lv_iload_n X.1 X.2.1 dX4_verdict_32 rfl (lv_at hl 2 rfl) ?_
    refine lv_iconst (v := 1) X.1 X.2.1 dX4_verdict_33 (by decide) ?_
    refine lv_ishr X.1 X.2.1 dX4_verdict_34 ?_
    refine lv_icmp_ne (tgt := 56) X.1 X.2.1 dX4_verdict_35 (by decide) (fun c4 => ?_) (fun c4 => ?_)
    · replace hf := (if_neg c4).symm.trans hf
      exact wfX4_verdict_56 X hr hlk hnm _ _ _ _ _ _ _ (lv_sub hl [1, 2, 3, 4] rfl) S hf
    · replace hf := (if_pos c4).symm.trans hf
      refine g_aload_n X (or_rv _) dX4_verdict_38 rfl (lv_at hl 1 rfl) ?_
      refine g_gR X S foX4_21 dX4_verdict_39 hf (fun v5 hf => ?_)
      refine lv_sipush (v := 285) X.1 X.2.1 dX4_verdict_42 (by decide) ?_
      obtain ⟨v6, hc, hf⟩ := ob_some hf
      refine g_ci S (runV (As := [.int 285]) (rest := []) X S coX4_44 (by decide) (cX10_cell_m l hc) (tkX10_cell hc) rfl hl.1 (by decide) rfl ⟨Nat.zero_le _, Nat.zero_le _⟩ dX4_verdict_45) (fun H locs S => ?_)
      refine lv_iload_n X.1 X.2.1 dX4_verdict_48 rfl (lv_at hl 2 rfl) ?_
      refine lv_iconst (v := 1) X.1 X.2.1 dX4_verdict_49 (by decide) ?_
      refine lv_iand X.1 X.2.1 dX4_verdict_50 ?_
      refine lv_icmp_ne (tgt := 56) X.1 X.2.1 dX4_verdict_51 (by decide) (fun c7 => ?_) (fun c7 => ?_)
      · replace hf := (if_neg c7).symm.trans hf
        exact wfX4_verdict_56 X hr hlk hnm _ _ _ _ _ _ _ (lv_sub hl [1, 2, 3, 4] rfl) S hf
      · replace hf := (if_pos c7).symm.trans hf
        refine lv_iconst (v := 0) X.1 X.2.1 dX4_verdict_54 (by decide) ?_
        cases hf; exact g_ri X S hr hlk dX4_verdict_55
def fX4_verdict (a0 : Nat) (a1 : Int32) (a2 : Int32) (a3 : Int32) (h : Hp) : Option (Int32) := gd 4 a0 h (if a2 = 4 then fX4_verdict_10 h (fX4_verdict_15 h) a0 a1 a2 a3 else if a2 = 5 then fX4_verdict_10 h (fX4_verdict_15 h) a0 a1 a2 a3 else fX4_verdict_15 h a0 a1 a2 a3 0)
theorem tkX4_verdict {a0 : Nat} {a1 : Int32} {a2 : Int32} {a3 : Int32} {h : Hp} {r9 : Int32} (e : fX4_verdict a0 a1 a2 a3 h = some r9) : hK h a0 = 4 := by
  unfold fX4_verdict at e
  exact (gd_some e).1
theorem cX4_verdict_m (l : Launch) {E : EE} {A : Nat → Prop} {a0 : Nat} {a1 : Int32} {a2 : Int32} {a3 : Int32} {h : Hp} {r9 : Int32} (hf : fX4_verdict a0 a1 a2 a3 h = some r9) : Met l yX4_verdict (wsM yX4_verdict cX4_verdict 5 (some .int)) (rmm 9 0 0) (PcE E A h [rv a0, .int a1, .int a2, .int a3]) (Qi E A h r9) 0 0 A := by
  refine met_of (by decide +kernel) (by simp [lg_sl, cat_rv, cat_wv, cat_sv, cat_i, cat_l, cat_a]) (fun p e s m args below meth c ls X hr hlk hnm S hl => ?_)
  have hl : lv_has ls 5 [(0, rv a0), (1, .int a1), (2, .int a2), (3, .int a3)] := by simpa [lv_args, cat_rv, cat_wv, cat_sv, cat_i, cat_l, cat_a] using hl
  generalize hH : s.heap = H at S ⊢
  generalize hlo : ([] : List Loc) = locs at S ⊢
  clear hH hlo
  unfold fX4_verdict at hf
  obtain ⟨hth, hf⟩ := gd_some hf
  refine lv_iload_n X.1 X.2.1 dX4_verdict_0 rfl (lv_at hl 2 rfl) ?_
  refine lv_iconst (v := 4) X.1 X.2.1 dX4_verdict_1 (by decide) ?_
  refine lv_icmp_eq (tgt := 10) X.1 X.2.1 dX4_verdict_2 (by decide) (fun c1 => ?_) (fun c1 => ?_)
  · replace hf := (if_pos c1).symm.trans hf
    exact wfX4_verdict_10 X hr hlk hnm (wfX4_verdict_15 X hr hlk hnm) _ _ _ _ _ _ _ hl S hf
  · replace hf := (if_neg c1).symm.trans hf
    refine lv_iload_n X.1 X.2.1 dX4_verdict_5 rfl (lv_at hl 2 rfl) ?_
    refine lv_iconst (v := 5) X.1 X.2.1 dX4_verdict_6 (by decide) ?_
    refine lv_icmp_ne (tgt := 14) X.1 X.2.1 dX4_verdict_7 (by decide) (fun c2 => ?_) (fun c2 => ?_)
    · replace hf := (if_neg c2).symm.trans hf
      refine lv_iconst (v := 0) X.1 X.2.1 dX4_verdict_14 (by decide) ?_
      exact wfX4_verdict_15 X hr hlk hnm _ _ _ _ _ _ _ _ hl S hf
    · replace hf := (if_pos c2).symm.trans hf
      exact wfX4_verdict_10 X hr hlk hnm (wfX4_verdict_15 X hr hlk hnm) _ _ _ _ _ _ _ hl S hf
def fX4_judge (a0 : Nat) (a1 : Int32) (a2 : Int32) (a3 : Int32) (h : Hp) : Option (Hp) := gd 4 a0 h (ob (gR 4 a0 3 h) fun v1 => ob (aI v1 a3 h) fun v2 => ob (qI v1 a3 (v2 + 1) h) fun h => if a3 = 2 then ob (gR 4 a0 3 h) fun v4 => ob (aI v4 3 h) fun v5 => if v5 = (-1) then ob (gR 4 a0 3 h) fun v7 => ob (qI v7 3 ((100 * a1) + a2) h) fun h => some h else some h else some h)
theorem tkX4_judge {a0 : Nat} {a1 : Int32} {a2 : Int32} {a3 : Int32} {h : Hp} {r9 : Hp} (e : fX4_judge a0 a1 a2 a3 h = some r9) : hK h a0 = 4 := by
  unfold fX4_judge at e
  exact (gd_some e).1
theorem cX4_judge_m (l : Launch) {E : EE} {A : Nat → Prop} {a0 : Nat} {a1 : Int32} {a2 : Int32} {a3 : Int32} {h : Hp} {h9 : Hp} (hf : fX4_judge a0 a1 a2 a3 h = some h9) : Met l yX4_judge (wsM yX4_judge cX4_judge 4 none) (rmm 8 0 0) (PcE E A h [rv a0, .int a1, .int a2, .int a3]) (Qv E A h9) 0 0 A := by
  refine met_of (by decide +kernel) (by simp [lg_sl, cat_rv, cat_wv, cat_sv, cat_i, cat_l, cat_a]) (fun p e s m args below meth c ls X hr hlk hnm S hl => ?_)
  have hl : lv_has ls 4 [(0, rv a0), (1, .int a1), (2, .int a2), (3, .int a3)] := by simpa [lv_args, cat_rv, cat_wv, cat_sv, cat_i, cat_l, cat_a] using hl
  generalize hH : s.heap = H at S ⊢
  generalize hlo : ([] : List Loc) = locs at S ⊢
  clear hH hlo
  unfold fX4_judge at hf
  obtain ⟨hth, hf⟩ := gd_some hf
  refine g_aload_n X (or_rv _) dX4_judge_0 rfl (lv_at hl 0 rfl) ?_
  refine g_gR X S foX4_28 dX4_judge_1 hf (fun v1 hf => ?_)
  refine lv_iload_n X.1 X.2.1 dX4_judge_4 rfl (lv_at hl 3 rfl) ?_
  refine lv_dup2_11 X.1 X.2.1 dX4_judge_5 rfl (cat_rv _) ?_
  refine g_aI X S dX4_judge_6 hf (fun v2 hf => ?_)
  refine lv_iconst (v := 1) X.1 X.2.1 dX4_judge_7 (by decide) ?_
  refine lv_iadd X.1 X.2.1 dX4_judge_8 ?_
  refine g_qI X S dX4_judge_9 hf (fun h H locs hm hf S => ?_)
  refine lv_iload_n X.1 X.2.1 dX4_judge_10 rfl (lv_at hl 3 rfl) ?_
  refine lv_iconst (v := 2) X.1 X.2.1 dX4_judge_11 (by decide) ?_
  refine lv_icmp_ne (tgt := 37) X.1 X.2.1 dX4_judge_12 (by decide) (fun c3 => ?_) (fun c3 => ?_)
  · replace hf := (if_neg c3).symm.trans hf
    cases hf; exact g_rv X S hr hlk dX4_judge_37
  · replace hf := (if_pos c3).symm.trans hf
    refine g_aload_n X (or_rv _) dX4_judge_15 rfl (lv_at hl 0 rfl) ?_
    refine g_gR X S foX4_28 dX4_judge_16 hf (fun v4 hf => ?_)
    refine lv_iconst (v := 3) X.1 X.2.1 dX4_judge_19 (by decide) ?_
    refine g_aI X S dX4_judge_20 hf (fun v5 hf => ?_)
    refine lv_iconst (v := (-1)) X.1 X.2.1 dX4_judge_21 (by decide) ?_
    refine lv_icmp_ne (tgt := 37) X.1 X.2.1 dX4_judge_22 (by decide) (fun c6 => ?_) (fun c6 => ?_)
    · replace hf := (if_neg c6).symm.trans hf
      cases hf; exact g_rv X S hr hlk dX4_judge_37
    · replace hf := (if_pos c6).symm.trans hf
      refine g_aload_n X (or_rv _) dX4_judge_25 rfl (lv_at hl 0 rfl) ?_
      refine g_gR X S foX4_28 dX4_judge_26 hf (fun v7 hf => ?_)
      refine lv_iconst (v := 3) X.1 X.2.1 dX4_judge_29 (by decide) ?_
      refine lv_bipush (v := 100) X.1 X.2.1 dX4_judge_30 (by decide) ?_
      refine lv_iload_n X.1 X.2.1 dX4_judge_32 rfl (lv_at hl 1 rfl) ?_
      refine lv_imul X.1 X.2.1 dX4_judge_33 ?_
      refine lv_iload_n X.1 X.2.1 dX4_judge_34 rfl (lv_at hl 2 rfl) ?_
      refine lv_iadd X.1 X.2.1 dX4_judge_35 ?_
      refine g_qI X S dX4_judge_36 hf (fun h H locs hm hf S => ?_)
      cases hf; exact g_rv X S hr hlk dX4_judge_37
def fX4_told (a0 : Nat) (a1 : Int32) (h : Hp) : Option (Int32) := gd 4 a0 h (if a1 < 0 then some (-1) else ob (gR 4 a0 3 h) fun v2 => ob (aN 101 v2 h) fun v3 => if v3 ≤ a1 then some (-1) else ob (gR 4 a0 3 h) fun v5 => ob (aI v5 a1 h) fun v6 => some v6)
theorem tkX4_told {a0 : Nat} {a1 : Int32} {h : Hp} {r9 : Int32} (e : fX4_told a0 a1 h = some r9) : hK h a0 = 4 := by
  unfold fX4_told at e
  exact (gd_some e).1
theorem cX4_told_m (l : Launch) {E : EE} {A : Nat → Prop} {a0 : Nat} {a1 : Int32} {h : Hp} {r9 : Int32} (hf : fX4_told a0 a1 h = some r9) : Met l yX4_told (wsM yX4_told cX4_told 2 (some .int)) (rmm 8 0 0) (PcE E A h [rv a0, .int a1]) (Qi E A h r9) 0 0 A := by
  refine met_of (by decide +kernel) (by simp [lg_sl, cat_rv, cat_wv, cat_sv, cat_i, cat_l, cat_a]) (fun p e s m args below meth c ls X hr hlk hnm S hl => ?_)
  have hl : lv_has ls 2 [(0, rv a0), (1, .int a1)] := by simpa [lv_args, cat_rv, cat_wv, cat_sv, cat_i, cat_l, cat_a] using hl
  generalize hH : s.heap = H at S ⊢
  generalize hlo : ([] : List Loc) = locs at S ⊢
  clear hH hlo
  unfold fX4_told at hf
  obtain ⟨hth, hf⟩ := gd_some hf
  refine lv_iload_n X.1 X.2.1 dX4_told_0 rfl (lv_at hl 1 rfl) ?_
  refine lv_if_lt (tgt := 22) X.1 X.2.1 dX4_told_1 (by decide) (fun c1 => ?_) (fun c1 => ?_)
  · replace hf := (if_pos c1).symm.trans hf
    refine lv_iconst (v := (-1)) X.1 X.2.1 dX4_told_22 (by decide) ?_
    cases hf; exact g_ri X S hr hlk dX4_told_23
  · replace hf := (if_neg c1).symm.trans hf
    refine lv_iload_n X.1 X.2.1 dX4_told_4 rfl (lv_at hl 1 rfl) ?_
    refine g_aload_n X (or_rv _) dX4_told_5 rfl (lv_at hl 0 rfl) ?_
    refine g_gR X S foX4_28 dX4_told_6 hf (fun v2 hf => ?_)
    refine g_aN X S (by decide) dX4_told_9 hf (fun v3 hf => ?_)
    refine lv_icmp_ge (tgt := 22) X.1 X.2.1 dX4_told_10 (by decide) (fun c4 => ?_) (fun c4 => ?_)
    · replace hf := (if_pos c4).symm.trans hf
      refine lv_iconst (v := (-1)) X.1 X.2.1 dX4_told_22 (by decide) ?_
      cases hf; exact g_ri X S hr hlk dX4_told_23
    · replace hf := (if_neg c4).symm.trans hf
      refine g_aload_n X (or_rv _) dX4_told_13 rfl (lv_at hl 0 rfl) ?_
      refine g_gR X S foX4_28 dX4_told_14 hf (fun v5 hf => ?_)
      refine lv_iload_n X.1 X.2.1 dX4_told_17 rfl (lv_at hl 1 rfl) ?_
      refine g_aI X S dX4_told_18 hf (fun v6 hf => ?_)
      refine lv_goto (tgt := 23) X.1 X.2.1 dX4_told_19 (by decide) ?_
      cases hf; exact g_ri X S hr hlk dX4_told_23
def fX4_spoil_50 (k37 : Nat → Nat → Int32 → Int32 → Int32 → Int32 → Int32 → Int32 → Hp → Option (Int32 × Hp)) (k50 : Nat → Nat → Int32 → Int32 → Int32 → Int32 → Int32 → Int32 → Int32 → Hp → Option (Int32 × Hp)) (x0 : Nat) (x1 : Nat) (x2 : Int32) (x3 : Int32) (x4 : Int32) (x5 : Int32) (x6 : Int32) (x7 : Int32) (x8 : Int32) (h : Hp) : Option (Int32 × Hp) := if 16 ≤ x8 then lt (x7 + 1) fun z2 => k37 x0 x1 x2 x3 x4 x5 x6 z2 h else ob (fX10_half x1 x7 h) fun v3 => if x8 = v3 then lt (x8 + 1) fun z5 => k50 x0 x1 x2 x3 x4 x5 x6 x7 z5 h else ob (gR 4 x0 1 h) fun v6 => ob (fX10_become v6 x1 h) fun h => ob (gR 4 x0 1 h) fun v8 => ob (fX10_putHalf v8 x7 x8 h) fun h => ob (gR 4 x0 1 h) fun v10 => ob2 (fX4_runToFault x0 v10 x4 h) fun v11 h => ob (fX4_verdict x0 x7 v11 x6 h) fun v12 => ob (fX4_judge x0 x7 x8 v12 h) fun h => lt (x8 + 1) fun z14 => k50 x0 x1 x2 x3 x4 x5 x6 x7 z14 h
theorem wfX4_spoil_50 {k37 : Nat → Nat → Int32 → Int32 → Int32 → Int32 → Int32 → Int32 → Hp → Option (Int32 × Hp)} {k50 : Nat → Nat → Int32 → Int32 → Int32 → Int32 → Int32 → Int32 → Int32 → Hp → Option (Int32 × Hp)} {r9 : Int32} {h9 : Hp} (X : Cx p E A 14 R s m args c cX4_spoil yX4_spoil.cls 10) (hr : meth.sig.returnType = (some .int)) (hlk : meth.locks = false) (hnm : meth.name = yX4_spoil.name) (hk37 : ∀ (x0 : Nat) (x1 : Nat) (x2 : Int32) (x3 : Int32) (x4 : Int32) (x5 : Int32) (x6 : Int32) (x7 : Int32) (h : Hp) (H : Heap) (locs : List Loc) (ls : Array Slot), lv_has ls 10 [(0, rv x0), (1, rv x1), (2, .int x2), (3, .int x3), (4, .int x4), (5, .int x5), (6, .int x6), (7, .int x7)] → St E A s h H locs → k37 x0 x1 x2 x3 x4 x5 x6 x7 h = some (r9, h9) → W p l e R s m args below meth c H locs 0 0 (MQ below (Qi E A h9 r9) args s 0 0 A) (F0 m 37 ls [])) (hk50 : ∀ (x0 : Nat) (x1 : Nat) (x2 : Int32) (x3 : Int32) (x4 : Int32) (x5 : Int32) (x6 : Int32) (x7 : Int32) (x8 : Int32) (h : Hp) (H : Heap) (locs : List Loc) (ls : Array Slot), lv_has ls 10 [(0, rv x0), (1, rv x1), (2, .int x2), (3, .int x3), (4, .int x4), (5, .int x5), (6, .int x6), (7, .int x7), (8, .int x8)] → St E A s h H locs → k50 x0 x1 x2 x3 x4 x5 x6 x7 x8 h = some (r9, h9) → W p l e R s m args below meth c H locs 0 0 (MQ below (Qi E A h9 r9) args s 0 0 A) (F0 m 50 ls [])) :
    ∀ (x0 : Nat) (x1 : Nat) (x2 : Int32) (x3 : Int32) (x4 : Int32) (x5 : Int32) (x6 : Int32) (x7 : Int32) (x8 : Int32) (h : Hp) (H : Heap) (locs : List Loc) (ls : Array Slot), lv_has ls 10 [(0, rv x0), (1, rv x1), (2, .int x2), (3, .int x3), (4, .int x4), (5, .int x5), (6, .int x6), (7, .int x7), (8, .int x8)] → St E A s h H locs → fX4_spoil_50 k37 k50 x0 x1 x2 x3 x4 x5 x6 x7 x8 h = some (r9, h9) → W p l e R s m args below meth c H locs 0 0 (MQ below (Qi E A h9 r9) args s 0 0 A) (F0 m 50 ls []) := by
  intro x0 x1 x2 x3 x4 x5 x6 x7 x8 h H locs ls hl S hf
  unfold fX4_spoil_50 at hf
  refine lv_iload X.1 X.2.1 dX4_spoil_50 (lv_at hl 8 rfl) ?_
  refine lv_bipush (v := 16) X.1 X.2.1 dX4_spoil_52 (by decide) ?_
  refine lv_icmp_ge (tgt := 123) X.1 X.2.1 dX4_spoil_54 (by decide) (fun c1 => ?_) (fun c1 => ?_)
  · replace hf := (if_pos c1).symm.trans hf
    obtain ⟨z2, ez2, hf⟩ := lt_some hf
    refine lv_iinc (v := z2) (lv' := [(7, .int z2), (0, rv x0), (1, rv x1), (2, .int x2), (3, .int x3), (4, .int x4), (5, .int x5), (6, .int x6), (8, .int x8)]) X.1 X.2.1 dX4_spoil_123 hl (k := 7) rfl (by rw [← ez2]; rfl) (by decide) rfl (fun ls hl => ?_)
    refine lv_goto (tgt := 37) X.1 X.2.1 dX4_spoil_126 (by decide) ?_
    exact hk37 _ _ _ _ _ _ _ _ _ _ _ _ (lv_sub hl [1, 2, 3, 4, 5, 6, 7, 0] rfl) S hf
  · replace hf := (if_neg c1).symm.trans hf
    refine lv_iload X.1 X.2.1 dX4_spoil_57 (lv_at hl 8 rfl) ?_
    refine g_aload_n X (or_rv _) dX4_spoil_59 rfl (lv_at hl 1 rfl) ?_
    refine lv_iload X.1 X.2.1 dX4_spoil_60 (lv_at hl 7 rfl) ?_
    obtain ⟨v3, hc, hf⟩ := ob_some hf
    refine g_ci S (runV (As := [.int x7]) (rest := [.int x8]) X S coX4_59 (by decide) (cX10_half_m l hc) (tkX10_half hc) rfl hl.1 (by simp [cat_rv, cat_wv, cat_sv, cat_i, cat_l, cat_a]) rfl ⟨Nat.zero_le _, Nat.zero_le _⟩ dX4_spoil_62) (fun H locs S => ?_)
    refine lv_icmp_eq (tgt := 117) X.1 X.2.1 dX4_spoil_65 (by decide) (fun c4 => ?_) (fun c4 => ?_)
    · replace hf := (if_pos c4).symm.trans hf
      obtain ⟨z5, ez5, hf⟩ := lt_some hf
      refine lv_iinc (v := z5) (lv' := [(8, .int z5), (0, rv x0), (1, rv x1), (2, .int x2), (3, .int x3), (4, .int x4), (5, .int x5), (6, .int x6), (7, .int x7)]) X.1 X.2.1 dX4_spoil_117 hl (k := 8) rfl (by rw [← ez5]; rfl) (by decide) rfl (fun ls hl => ?_)
      refine lv_goto (tgt := 50) X.1 X.2.1 dX4_spoil_120 (by decide) ?_
      exact hk50 _ _ _ _ _ _ _ _ _ _ _ _ _ (lv_sub hl [1, 2, 3, 4, 5, 6, 7, 8, 0] rfl) S hf
    · replace hf := (if_neg c4).symm.trans hf
      refine g_aload_n X (or_rv _) dX4_spoil_68 rfl (lv_at hl 0 rfl) ?_
      refine g_gR X S foX4_21 dX4_spoil_69 hf (fun v6 hf => ?_)
      refine g_aload_n X (or_rv _) dX4_spoil_72 rfl (lv_at hl 1 rfl) ?_
      obtain ⟨h, hc, hf⟩ := ob_some hf
      refine g_cv S (runV (As := [rv x1]) (rest := []) X S coX4_32 (by decide) (cX10_become_m l hc) (tkX10_become hc) rfl hl.1 (by decide) rfl ⟨Nat.zero_le _, Nat.zero_le _⟩ dX4_spoil_73) (fun H locs S => ?_)
      refine g_aload_n X (or_rv _) dX4_spoil_76 rfl (lv_at hl 0 rfl) ?_
      refine g_gR X S foX4_21 dX4_spoil_77 hf (fun v8 hf => ?_)
      refine lv_iload X.1 X.2.1 dX4_spoil_80 (lv_at hl 7 rfl) ?_
      refine lv_iload X.1 X.2.1 dX4_spoil_82 (lv_at hl 8 rfl) ?_
      obtain ⟨h, hc, hf⟩ := ob_some hf
      refine g_cv S (runV (As := [.int x7, .int x8]) (rest := []) X S coX4_62 (by decide) (cX10_putHalf_m l hc) (tkX10_putHalf hc) rfl hl.1 (by decide) rfl ⟨Nat.zero_le _, Nat.zero_le _⟩ dX4_spoil_84) (fun H locs S => ?_)
      refine g_aload_n X (or_rv _) dX4_spoil_87 rfl (lv_at hl 0 rfl) ?_
      refine g_aload_n X (or_rv _) dX4_spoil_88 rfl (lv_at hl 0 rfl) ?_
      refine g_gR X S foX4_21 dX4_spoil_89 hf (fun v10 hf => ?_)
      refine lv_iload X.1 X.2.1 dX4_spoil_92 (lv_at hl 4 rfl) ?_
      obtain ⟨v11, h, hc, hf⟩ := ob2_some hf
      refine g_ci S (runV (As := [rv v10, .int x4]) (rest := []) X S coX4_55 (by decide) (cX4_runToFault_m l hc) (tkX4_runToFault hc) rfl hl.1 (by decide) rfl ⟨Nat.zero_le _, Nat.zero_le _⟩ dX4_spoil_94) (fun H locs S => ?_)
      refine lv_istore (lv' := [(9, .int v11), (0, rv x0), (1, rv x1), (2, .int x2), (3, .int x3), (4, .int x4), (5, .int x5), (6, .int x6), (7, .int x7), (8, .int x8)]) X.1 X.2.1 dX4_spoil_97 hl (by decide) rfl (fun ls hl => ?_)
      refine g_aload_n X (or_rv _) dX4_spoil_99 rfl (lv_at hl 1 rfl) ?_
      refine lv_iload X.1 X.2.1 dX4_spoil_100 (lv_at hl 8 rfl) ?_
      refine lv_iload X.1 X.2.1 dX4_spoil_102 (lv_at hl 9 rfl) ?_
      refine g_aload_n X (or_rv _) dX4_spoil_104 rfl (lv_at hl 1 rfl) ?_
      refine lv_iload X.1 X.2.1 dX4_spoil_105 (lv_at hl 8 rfl) ?_
      refine lv_iload X.1 X.2.1 dX4_spoil_107 (lv_at hl 0 rfl) ?_
      refine lv_iload X.1 X.2.1 dX4_spoil_109 (lv_at hl 7 rfl) ?_
      obtain ⟨v12, hc, hf⟩ := ob_some hf
      refine g_ci S (runV (As := [.int x7, .int v11, .int x6]) (rest := [.int x8, .int x7, rv x0]) X S coX4_66 (by decide) (cX4_verdict_m l hc) (tkX4_verdict hc) rfl hl.1 (by simp [cat_rv, cat_wv, cat_sv, cat_i, cat_l, cat_a]) rfl ⟨Nat.zero_le _, Nat.zero_le _⟩ dX4_spoil_111) (fun H locs S => ?_)
      obtain ⟨h, hc, hf⟩ := ob_some hf
      refine g_cv S (runV (As := [.int x7, .int x8, .int v12]) (rest := []) X S coX4_70 (by decide) (cX4_judge_m l hc) (tkX4_judge hc) rfl hl.1 (by decide) rfl ⟨Nat.zero_le _, Nat.zero_le _⟩ dX4_spoil_114) (fun H locs S => ?_)
      obtain ⟨z14, ez14, hf⟩ := lt_some hf
      refine lv_iinc (v := z14) (lv' := [(8, .int z14), (9, .int v11), (0, rv x0), (1, rv x1), (2, .int x2), (3, .int x3), (4, .int x4), (5, .int x5), (6, .int x6), (7, .int x7)]) X.1 X.2.1 dX4_spoil_117 hl (k := 9) rfl (by rw [← ez14]; rfl) (by decide) rfl (fun ls hl => ?_)
      refine lv_goto (tgt := 50) X.1 X.2.1 dX4_spoil_120 (by decide) ?_
      exact hk50 _ _ _ _ _ _ _ _ _ _ _ _ _ (lv_sub hl [2, 3, 4, 5, 6, 7, 8, 9, 0] rfl) S hf
theorem wfX4_spoil_50_l {k37 : Nat → Nat → Int32 → Int32 → Int32 → Int32 → Int32 → Int32 → Hp → Option (Int32 × Hp)} {r9 : Int32} {h9 : Hp} (X : Cx p E A 14 R s m args c cX4_spoil yX4_spoil.cls 10) (hr : meth.sig.returnType = (some .int)) (hlk : meth.locks = false) (hnm : meth.name = yX4_spoil.name) (hk37 : ∀ (x0 : Nat) (x1 : Nat) (x2 : Int32) (x3 : Int32) (x4 : Int32) (x5 : Int32) (x6 : Int32) (x7 : Int32) (h : Hp) (H : Heap) (locs : List Loc) (ls : Array Slot), lv_has ls 10 [(0, rv x0), (1, rv x1), (2, .int x2), (3, .int x3), (4, .int x4), (5, .int x5), (6, .int x6), (7, .int x7)] → St E A s h H locs → k37 x0 x1 x2 x3 x4 x5 x6 x7 h = some (r9, h9) → W p l e R s m args below meth c H locs 0 0 (MQ below (Qi E A h9 r9) args s 0 0 A) (F0 m 37 ls [])) :
    ∀ (n : Nat) (x0 : Nat) (x1 : Nat) (x2 : Int32) (x3 : Int32) (x4 : Int32) (x5 : Int32) (x6 : Int32) (x7 : Int32) (x8 : Int32) (h : Hp) (H : Heap) (locs : List Loc) (ls : Array Slot), lv_has ls 10 [(0, rv x0), (1, rv x1), (2, .int x2), (3, .int x3), (4, .int x4), (5, .int x5), (6, .int x6), (7, .int x7), (8, .int x8)] → St E A s h H locs → lp (fun _ _ _ _ _ _ _ _ _ _ => none) (fX4_spoil_50 k37) n x0 x1 x2 x3 x4 x5 x6 x7 x8 h = some (r9, h9) → W p l e R s m args below meth c H locs 0 0 (MQ below (Qi E A h9 r9) args s 0 0 A) (F0 m 50 ls []) := by
  intro n
  induction n with
  | zero =>
    intro x0 x1 x2 x3 x4 x5 x6 x7 x8 h H locs ls hl S hf
    exact nomatch hf
  | succ n ih =>
    intro x0 x1 x2 x3 x4 x5 x6 x7 x8 h H locs ls hl S hf
    exact wfX4_spoil_50 X hr hlk hnm hk37 ih x0 x1 x2 x3 x4 x5 x6 x7 x8 h H locs ls hl S hf
def fX4_spoil_37 (k37 : Nat → Nat → Int32 → Int32 → Int32 → Int32 → Int32 → Int32 → Hp → Option (Int32 × Hp)) (x0 : Nat) (x1 : Nat) (x2 : Int32) (x3 : Int32) (x4 : Int32) (x5 : Int32) (x6 : Int32) (x7 : Int32) (h : Hp) : Option (Int32 × Hp) := if (2 * (x2 + x3)) ≤ x7 then ob (fX4_told x0 x5 h) fun v2 => some (v2, h) else lp (fun _ _ _ _ _ _ _ _ _ _ => none) (fX4_spoil_50 k37) FU x0 x1 x2 x3 x4 x5 x6 x7 0 h
theorem wfX4_spoil_37 {k37 : Nat → Nat → Int32 → Int32 → Int32 → Int32 → Int32 → Int32 → Hp → Option (Int32 × Hp)} {r9 : Int32} {h9 : Hp} (X : Cx p E A 14 R s m args c cX4_spoil yX4_spoil.cls 10) (hr : meth.sig.returnType = (some .int)) (hlk : meth.locks = false) (hnm : meth.name = yX4_spoil.name) (hk37 : ∀ (x0 : Nat) (x1 : Nat) (x2 : Int32) (x3 : Int32) (x4 : Int32) (x5 : Int32) (x6 : Int32) (x7 : Int32) (h : Hp) (H : Heap) (locs : List Loc) (ls : Array Slot), lv_has ls 10 [(0, rv x0), (1, rv x1), (2, .int x2), (3, .int x3), (4, .int x4), (5, .int x5), (6, .int x6), (7, .int x7)] → St E A s h H locs → k37 x0 x1 x2 x3 x4 x5 x6 x7 h = some (r9, h9) → W p l e R s m args below meth c H locs 0 0 (MQ below (Qi E A h9 r9) args s 0 0 A) (F0 m 37 ls [])) :
    ∀ (x0 : Nat) (x1 : Nat) (x2 : Int32) (x3 : Int32) (x4 : Int32) (x5 : Int32) (x6 : Int32) (x7 : Int32) (h : Hp) (H : Heap) (locs : List Loc) (ls : Array Slot), lv_has ls 10 [(0, rv x0), (1, rv x1), (2, .int x2), (3, .int x3), (4, .int x4), (5, .int x5), (6, .int x6), (7, .int x7)] → St E A s h H locs → fX4_spoil_37 k37 x0 x1 x2 x3 x4 x5 x6 x7 h = some (r9, h9) → W p l e R s m args below meth c H locs 0 0 (MQ below (Qi E A h9 r9) args s 0 0 A) (F0 m 37 ls []) := by
  intro x0 x1 x2 x3 x4 x5 x6 x7 h H locs ls hl S hf
  unfold fX4_spoil_37 at hf
  refine lv_iload X.1 X.2.1 dX4_spoil_37 (lv_at hl 7 rfl) ?_
  refine lv_iconst (v := 2) X.1 X.2.1 dX4_spoil_39 (by decide) ?_
  refine lv_iload_n X.1 X.2.1 dX4_spoil_40 rfl (lv_at hl 2 rfl) ?_
  refine lv_iload_n X.1 X.2.1 dX4_spoil_41 rfl (lv_at hl 3 rfl) ?_
  refine lv_iadd X.1 X.2.1 dX4_spoil_42 ?_
  refine lv_imul X.1 X.2.1 dX4_spoil_43 ?_
  refine lv_icmp_ge (tgt := 129) X.1 X.2.1 dX4_spoil_44 (by decide) (fun c1 => ?_) (fun c1 => ?_)
  · replace hf := (if_pos c1).symm.trans hf
    refine g_aload_n X (or_rv _) dX4_spoil_129 rfl (lv_at hl 0 rfl) ?_
    refine lv_iload X.1 X.2.1 dX4_spoil_130 (lv_at hl 5 rfl) ?_
    obtain ⟨v2, hc, hf⟩ := ob_some hf
    refine g_ci S (runV (As := [.int x5]) (rest := []) X S coX4_74 (by decide) (cX4_told_m l hc) (tkX4_told hc) rfl hl.1 (by decide) rfl ⟨Nat.zero_le _, Nat.zero_le _⟩ dX4_spoil_132) (fun H locs S => ?_)
    cases hf; exact g_ri X S hr hlk dX4_spoil_135
  · replace hf := (if_neg c1).symm.trans hf
    refine lv_iconst (v := 0) X.1 X.2.1 dX4_spoil_47 (by decide) ?_
    refine lv_istore (lv' := [(8, .int 0), (0, rv x0), (1, rv x1), (2, .int x2), (3, .int x3), (4, .int x4), (5, .int x5), (6, .int x6), (7, .int x7)]) X.1 X.2.1 dX4_spoil_48 hl (by decide) rfl (fun ls hl => ?_)
    exact wfX4_spoil_50_l X hr hlk hnm hk37 FU _ _ _ _ _ _ _ _ _ _ _ _ _ (lv_sub hl [1, 2, 3, 4, 5, 6, 7, 8, 0] rfl) S hf
theorem wfX4_spoil_37_l {r9 : Int32} {h9 : Hp} (X : Cx p E A 14 R s m args c cX4_spoil yX4_spoil.cls 10) (hr : meth.sig.returnType = (some .int)) (hlk : meth.locks = false) (hnm : meth.name = yX4_spoil.name) :
    ∀ (n : Nat) (x0 : Nat) (x1 : Nat) (x2 : Int32) (x3 : Int32) (x4 : Int32) (x5 : Int32) (x6 : Int32) (x7 : Int32) (h : Hp) (H : Heap) (locs : List Loc) (ls : Array Slot), lv_has ls 10 [(0, rv x0), (1, rv x1), (2, .int x2), (3, .int x3), (4, .int x4), (5, .int x5), (6, .int x6), (7, .int x7)] → St E A s h H locs → lp (fun _ _ _ _ _ _ _ _ _ => none) (fX4_spoil_37) n x0 x1 x2 x3 x4 x5 x6 x7 h = some (r9, h9) → W p l e R s m args below meth c H locs 0 0 (MQ below (Qi E A h9 r9) args s 0 0 A) (F0 m 37 ls []) := by
  intro n
  induction n with
  | zero =>
    intro x0 x1 x2 x3 x4 x5 x6 x7 h H locs ls hl S hf
    exact nomatch hf
  | succ n ih =>
    intro x0 x1 x2 x3 x4 x5 x6 x7 h H locs ls hl S hf
    exact wfX4_spoil_37 X hr hlk hnm ih x0 x1 x2 x3 x4 x5 x6 x7 h H locs ls hl S hf
def fX4_spoil (a0 : Nat) (a1 : Nat) (a2 : Int32) (a3 : Int32) (a4 : Int32) (a5 : Int32) (h : Hp) : Option (Int32 × Hp) := gd 4 a0 h (ob (fX4_clearTold a0 h) fun h => ob (gR 4 a0 2 h) fun v2 => ob (fX10_become v2 a1 h) fun h => ob (gR 4 a0 2 h) fun v4 => ob2 (fX4_runToFault a0 v4 a4 h) fun v5 h => if v5 = 0 then lt (2 * a2) fun z8 => lp (fun _ _ _ _ _ _ _ _ _ => none) (fX4_spoil_37) FU a0 a1 a2 a3 a4 a5 1 z8 h else lt (2 * a2) fun z7 => lp (fun _ _ _ _ _ _ _ _ _ => none) (fX4_spoil_37) FU a0 a1 a2 a3 a4 a5 0 z7 h)
theorem tkX4_spoil {a0 : Nat} {a1 : Nat} {a2 : Int32} {a3 : Int32} {a4 : Int32} {a5 : Int32} {h : Hp} {r9 : Int32 × Hp} (e : fX4_spoil a0 a1 a2 a3 a4 a5 h = some r9) : hK h a0 = 4 := by
  unfold fX4_spoil at e
  exact (gd_some e).1
theorem cX4_spoil_m (l : Launch) {E : EE} {A : Nat → Prop} {a0 : Nat} {a1 : Nat} {a2 : Int32} {a3 : Int32} {a4 : Int32} {a5 : Int32} {h : Hp} {r9 : Int32} {h9 : Hp} (hf : fX4_spoil a0 a1 a2 a3 a4 a5 h = some (r9, h9)) : Met l yX4_spoil (wsM yX4_spoil cX4_spoil 10 (some .int)) (rmm 14 0 0) (PcE E A h [rv a0, rv a1, .int a2, .int a3, .int a4, .int a5]) (Qi E A h9 r9) 0 0 A := by
  refine met_of (by decide +kernel) (by simp [lg_sl, cat_rv, cat_wv, cat_sv, cat_i, cat_l, cat_a]) (fun p e s m args below meth c ls X hr hlk hnm S hl => ?_)
  have hl : lv_has ls 10 [(0, rv a0), (1, rv a1), (2, .int a2), (3, .int a3), (4, .int a4), (5, .int a5)] := by simpa [lv_args, cat_rv, cat_wv, cat_sv, cat_i, cat_l, cat_a] using hl
  generalize hH : s.heap = H at S ⊢
  generalize hlo : ([] : List Loc) = locs at S ⊢
  clear hH hlo
  unfold fX4_spoil at hf
  obtain ⟨hth, hf⟩ := gd_some hf
  refine g_aload_n X (or_rv _) dX4_spoil_0 rfl (lv_at hl 0 rfl) ?_
  obtain ⟨h, hc, hf⟩ := ob_some hf
  refine g_cv S (runV (As := []) (rest := []) X S coX4_52 (by decide) (cX4_clearTold_m l hc) (tkX4_clearTold hc) rfl hl.1 (by decide) rfl ⟨Nat.zero_le _, Nat.zero_le _⟩ dX4_spoil_1) (fun H locs S => ?_)
  refine g_aload_n X (or_rv _) dX4_spoil_4 rfl (lv_at hl 0 rfl) ?_
  refine g_gR X S foX4_25 dX4_spoil_5 hf (fun v2 hf => ?_)
  refine g_aload_n X (or_rv _) dX4_spoil_8 rfl (lv_at hl 1 rfl) ?_
  obtain ⟨h, hc, hf⟩ := ob_some hf
  refine g_cv S (runV (As := [rv a1]) (rest := []) X S coX4_32 (by decide) (cX10_become_m l hc) (tkX10_become hc) rfl hl.1 (by decide) rfl ⟨Nat.zero_le _, Nat.zero_le _⟩ dX4_spoil_9) (fun H locs S => ?_)
  refine g_aload_n X (or_rv _) dX4_spoil_12 rfl (lv_at hl 0 rfl) ?_
  refine g_aload_n X (or_rv _) dX4_spoil_13 rfl (lv_at hl 0 rfl) ?_
  refine g_gR X S foX4_25 dX4_spoil_14 hf (fun v4 hf => ?_)
  refine lv_iload X.1 X.2.1 dX4_spoil_17 (lv_at hl 4 rfl) ?_
  obtain ⟨v5, h, hc, hf⟩ := ob2_some hf
  refine g_ci S (runV (As := [rv v4, .int a4]) (rest := []) X S coX4_55 (by decide) (cX4_runToFault_m l hc) (tkX4_runToFault hc) rfl hl.1 (by decide) rfl ⟨Nat.zero_le _, Nat.zero_le _⟩ dX4_spoil_19) (fun H locs S => ?_)
  refine lv_if_ne (tgt := 29) X.1 X.2.1 dX4_spoil_22 (by decide) (fun c6 => ?_) (fun c6 => ?_)
  · replace hf := (if_neg c6).symm.trans hf
    refine lv_iconst (v := 0) X.1 X.2.1 dX4_spoil_29 (by decide) ?_
    refine lv_istore (lv' := [(6, .int 0), (0, rv a0), (1, rv a1), (2, .int a2), (3, .int a3), (4, .int a4), (5, .int a5)]) X.1 X.2.1 dX4_spoil_30 hl (by decide) rfl (fun ls hl => ?_)
    refine lv_iconst (v := 2) X.1 X.2.1 dX4_spoil_32 (by decide) ?_
    refine lv_iload_n X.1 X.2.1 dX4_spoil_33 rfl (lv_at hl 3 rfl) ?_
    refine lv_imul X.1 X.2.1 dX4_spoil_34 ?_
    refine g_lti hf (fun z7 hf => ?_)
    refine lv_istore (lv' := [(7, .int z7), (6, .int 0), (0, rv a0), (1, rv a1), (2, .int a2), (3, .int a3), (4, .int a4), (5, .int a5)]) X.1 X.2.1 dX4_spoil_35 hl (by decide) rfl (fun ls hl => ?_)
    exact wfX4_spoil_37_l X hr hlk hnm FU _ _ _ _ _ _ _ _ _ _ _ _ (lv_sub hl [2, 3, 4, 5, 6, 7, 1, 0] rfl) S hf
  · replace hf := (if_pos c6).symm.trans hf
    refine lv_iconst (v := 1) X.1 X.2.1 dX4_spoil_25 (by decide) ?_
    refine lv_goto (tgt := 30) X.1 X.2.1 dX4_spoil_26 (by decide) ?_
    refine lv_istore (lv' := [(6, .int 1), (0, rv a0), (1, rv a1), (2, .int a2), (3, .int a3), (4, .int a4), (5, .int a5)]) X.1 X.2.1 dX4_spoil_30 hl (by decide) rfl (fun ls hl => ?_)
    refine lv_iconst (v := 2) X.1 X.2.1 dX4_spoil_32 (by decide) ?_
    refine lv_iload_n X.1 X.2.1 dX4_spoil_33 rfl (lv_at hl 3 rfl) ?_
    refine lv_imul X.1 X.2.1 dX4_spoil_34 ?_
    refine g_lti hf (fun z8 hf => ?_)
    refine lv_istore (lv' := [(7, .int z8), (6, .int 1), (0, rv a0), (1, rv a1), (2, .int a2), (3, .int a3), (4, .int a4), (5, .int a5)]) X.1 X.2.1 dX4_spoil_35 hl (by decide) rfl (fun ls hl => ?_)
    exact wfX4_spoil_37_l X hr hlk hnm FU _ _ _ _ _ _ _ _ _ _ _ _ (lv_sub hl [2, 3, 4, 5, 6, 7, 1, 0] rfl) S hf
def fX12_spoilt_25 (h : Hp) : Option ((Nat ⊕ Int32) × Hp) := some (.inl 2, h)
theorem wfX12_spoilt_25 {r9 : Int32} {h9 : Hp} (X : Cx p E A 15 R s m args c cX12_spoilt yX12_spoilt.cls 5) (hr : meth.sig.returnType = (some .int)) (hlk : meth.locks = false) (hnm : meth.name = yX12_spoilt.name) :
    ∀ (h : Hp) (H : Heap) (locs : List Loc) (ls : Array Slot), lv_has ls 5 [] → St E A s h H locs → fX12_spoilt_25 h = some (.inr r9, h9) → W p l e R s m args below meth c H locs 0 0 (MQ below (Qi E A h9 r9) args s 0 0 A) (F0 m 25 ls []) := by
  intro h H locs ls hl S hf
  unfold fX12_spoilt_25 at hf
  cases hf
def fX12_spoilt (a0 : Nat) (a1 : Int32) (a2 : Int32) (a3 : Int32) (a4 : Int32) (h : Hp) : Option ((Nat ⊕ Int32) × Hp) := gd 10 a0 h (oe (fX12_needWhat a0 a4 3 h) (fun k => some (.inl k, h)) fun v1 => oe (fX12_needField a0 a1 a2 3 h) (fun k => some (.inl k, h)) fun v2 => if a3 < 1 then fX12_spoilt_25 h else if a3 ≤ 60 then ob (gR 10 a0 5 h) fun v5 => ob (gR 10 a0 10 h) fun v6 => ob (gR 2 v6 0 h) fun v7 => ob2 (fX4_spoil v5 v7 a1 a2 a3 a4 h) fun v8 h => some (.inr v8, h) else fX12_spoilt_25 h)
theorem tkX12_spoilt {a0 : Nat} {a1 : Int32} {a2 : Int32} {a3 : Int32} {a4 : Int32} {h : Hp} {r9 : (Nat ⊕ Int32) × Hp} (e : fX12_spoilt a0 a1 a2 a3 a4 h = some r9) : hK h a0 = 10 := by
  unfold fX12_spoilt at e
  exact (gd_some e).1
theorem cX12_spoilt_m (l : Launch) {E : EE} {A : Nat → Prop} {a0 : Nat} {a1 : Int32} {a2 : Int32} {a3 : Int32} {a4 : Int32} {h : Hp} {r9 : Int32} {h9 : Hp} (hf : fX12_spoilt a0 a1 a2 a3 a4 h = some (.inr r9, h9)) : Met l yX12_spoilt (wsM yX12_spoilt cX12_spoilt 5 (some .int)) (rmm 15 0 0) (PcE E A h [rv a0, .int a1, .int a2, .int a3, .int a4]) (Qi E A h9 r9) 0 0 A := by
  refine met_of (by decide +kernel) (by simp [lg_sl, cat_rv, cat_wv, cat_sv, cat_i, cat_l, cat_a]) (fun p e s m args below meth c ls X hr hlk hnm S hl => ?_)
  have hl : lv_has ls 5 [(0, rv a0), (1, .int a1), (2, .int a2), (3, .int a3), (4, .int a4)] := by simpa [lv_args, cat_rv, cat_wv, cat_sv, cat_i, cat_l, cat_a] using hl
  generalize hH : s.heap = H at S ⊢
  generalize hlo : ([] : List Loc) = locs at S ⊢
  clear hH hlo
  unfold fX12_spoilt at hf
  obtain ⟨hth, hf⟩ := gd_some hf
  refine g_aload_n X (or_rv _) dX12_spoilt_0 rfl (lv_at hl 0 rfl) ?_
  refine lv_iload X.1 X.2.1 dX12_spoilt_1 (lv_at hl 4 rfl) ?_
  refine lv_iconst (v := 3) X.1 X.2.1 dX12_spoilt_3 (by decide) ?_
  rcases oe_some hf with ⟨k, hc, hf⟩ | ⟨v1, hc, hf⟩
  · cases hf
  refine g_cv S (runV (As := [.int a4, .int 3]) (rest := []) X S coX12_257 (by decide) (cX12_needWhat_m l hc) (tkX12_needWhat hc) rfl hl.1 (by decide) rfl ⟨Nat.zero_le _, Nat.zero_le _⟩ dX12_spoilt_4) (fun H locs S => ?_)
  refine g_aload_n X (or_rv _) dX12_spoilt_7 rfl (lv_at hl 0 rfl) ?_
  refine lv_iload_n X.1 X.2.1 dX12_spoilt_8 rfl (lv_at hl 1 rfl) ?_
  refine lv_iload_n X.1 X.2.1 dX12_spoilt_9 rfl (lv_at hl 2 rfl) ?_
  refine lv_iconst (v := 3) X.1 X.2.1 dX12_spoilt_10 (by decide) ?_
  rcases oe_some hf with ⟨k, hc, hf⟩ | ⟨v2, hc, hf⟩
  · cases hf
  refine g_cv S (runV (As := [.int a1, .int a2, .int 3]) (rest := []) X S coX12_161 (by decide) (cX12_needField_m l hc) (tkX12_needField hc) rfl hl.1 (by decide) rfl ⟨Nat.zero_le _, Nat.zero_le _⟩ dX12_spoilt_11) (fun H locs S => ?_)
  refine lv_iload_n X.1 X.2.1 dX12_spoilt_14 rfl (lv_at hl 3 rfl) ?_
  refine lv_iconst (v := 1) X.1 X.2.1 dX12_spoilt_15 (by decide) ?_
  refine lv_icmp_lt (tgt := 25) X.1 X.2.1 dX12_spoilt_16 (by decide) (fun c3 => ?_) (fun c3 => ?_)
  · replace hf := (if_pos c3).symm.trans hf
    exact wfX12_spoilt_25 X hr hlk hnm _ _ _ _ (lv_sub hl [] rfl) S hf
  · replace hf := (if_neg c3).symm.trans hf
    refine lv_iload_n X.1 X.2.1 dX12_spoilt_19 rfl (lv_at hl 3 rfl) ?_
    refine lv_bipush (v := 60) X.1 X.2.1 dX12_spoilt_20 (by decide) ?_
    refine lv_icmp_le (tgt := 36) X.1 X.2.1 dX12_spoilt_22 (by decide) (fun c4 => ?_) (fun c4 => ?_)
    · replace hf := (if_pos c4).symm.trans hf
      refine g_aload_n X (or_rv _) dX12_spoilt_36 rfl (lv_at hl 0 rfl) ?_
      refine g_gR X S foX12_34 dX12_spoilt_37 hf (fun v5 hf => ?_)
      refine g_aload_n X (or_rv _) dX12_spoilt_40 rfl (lv_at hl 0 rfl) ?_
      refine g_gR X S foX12_61 dX12_spoilt_41 hf (fun v6 hf => ?_)
      refine g_gR X S foX12_107 dX12_spoilt_44 hf (fun v7 hf => ?_)
      refine lv_iload_n X.1 X.2.1 dX12_spoilt_47 rfl (lv_at hl 1 rfl) ?_
      refine lv_iload_n X.1 X.2.1 dX12_spoilt_48 rfl (lv_at hl 2 rfl) ?_
      refine lv_iload_n X.1 X.2.1 dX12_spoilt_49 rfl (lv_at hl 3 rfl) ?_
      refine lv_iload X.1 X.2.1 dX12_spoilt_50 (lv_at hl 4 rfl) ?_
      obtain ⟨v8, h, hc, hf⟩ := ob2_some hf
      refine g_ci S (runV (As := [rv v7, .int a1, .int a2, .int a3, .int a4]) (rest := []) X S coX12_275 (by decide) (cX4_spoil_m l hc) (tkX4_spoil hc) rfl hl.1 (by decide) rfl ⟨Nat.zero_le _, Nat.zero_le _⟩ dX12_spoilt_52) (fun H locs S => ?_)
      cases hf; exact g_ri X S hr hlk dX12_spoilt_55
    · replace hf := (if_neg c4).symm.trans hf
      exact wfX12_spoilt_25 X hr hlk hnm _ _ _ _ (lv_sub hl [] rfl) S hf
theorem wfX12_spoilt_25_x {k9 : Nat} {h9 : Hp} (X : Cx p E A 15 R s m args c cX12_spoilt yX12_spoilt.cls 5) (hr : meth.sig.returnType = (some .int)) (hlk : meth.locks = false) (hnm : meth.name = yX12_spoilt.name) (hne : ∀ x ∈ c.exceptionTable.toList, False) (hlt : l.stackTraces = false) (hR1 : 0 + 1 ≤ R.cells ∧ 0 + 6 ≤ R.slots) :
    ∀ (h : Hp) (H : Heap) (locs : List Loc) (ls : Array Slot), lv_has ls 5 [] → St E A s h H locs → fX12_spoilt_25 h = some (.inl k9, h9) → W p l e R s m args below meth c H locs 0 0 (vx_MQ below noQ (XX E A h9 k9) args s 1 6 A) (F0 m 25 ls []) := by
  intro h H locs ls hl S hf
  unfold fX12_spoilt_25 at hf
  cases hf
  exact g_throwW (rest := []) X S hne hlk hlt hl.1 (by decide) (by decide) tfX12_72_273 dX12_spoilt_25 dX12_spoilt_28 dX12_spoilt_29 dX12_spoilt_32 dX12_spoilt_35 hR1
theorem cX12_spoilt_x (l : Launch) (hlt : l.stackTraces = false) {E : EE} {A : Nat → Prop} {a0 : Nat} {a1 : Int32} {a2 : Int32} {a3 : Int32} {a4 : Int32} {h : Hp} {k9 : Nat} {h9 : Hp} (hf : fX12_spoilt a0 a1 a2 a3 a4 h = some (.inl k9, h9)) : vx_Met l yX12_spoilt (wsM yX12_spoilt cX12_spoilt 5 (some .int)) (rmm 15 1 6) (PcE E A h [rv a0, .int a1, .int a2, .int a3, .int a4]) noQ (XX E A h9 k9) 1 6 A := by
  refine met_ofX (by decide +kernel) (by simp [lg_sl, cat_rv, cat_wv, cat_sv, cat_i, cat_l, cat_a]) (fun p e s m args below meth c ls X hr hlk hnm hne S hl => ?_)
  have hR1 : 0 + 1 ≤ (rmm 15 1 6).cells ∧ 0 + 6 ≤ (rmm 15 1 6).slots := ⟨Nat.le_refl _, Nat.le_refl _⟩
  have hl : lv_has ls 5 [(0, rv a0), (1, .int a1), (2, .int a2), (3, .int a3), (4, .int a4)] := by simpa [lv_args, cat_rv, cat_wv, cat_sv, cat_i, cat_l, cat_a] using hl
  generalize hH : s.heap = H at S ⊢
  generalize hlo : ([] : List Loc) = locs at S ⊢
  clear hH hlo
  unfold fX12_spoilt at hf
  obtain ⟨hth, hf⟩ := gd_some hf
  refine g_aload_n X (or_rv _) dX12_spoilt_0 rfl (lv_at hl 0 rfl) ?_
  refine lv_iload X.1 X.2.1 dX12_spoilt_1 (lv_at hl 4 rfl) ?_
  refine lv_iconst (v := 3) X.1 X.2.1 dX12_spoilt_3 (by decide) ?_
  rcases oe_some hf with ⟨k, hc, hf⟩ | ⟨v1, hc, hf⟩
  · cases hf
    exact g_pass S hne hlk (runVX (As := [.int a4, .int 3]) (rest := []) X S coX12_257 (by decide) (cX12_needWhat_x l hlt hc) (tkX12_needWhat hc) rfl hl.1 (by decide) rfl hR1 dX12_spoilt_4)
  refine g_cv S (runV (As := [.int a4, .int 3]) (rest := []) X S coX12_257 (by decide) (cX12_needWhat_m l hc) (tkX12_needWhat hc) rfl hl.1 (by decide) rfl ⟨Nat.zero_le _, Nat.zero_le _⟩ dX12_spoilt_4) (fun H locs S => ?_)
  refine g_aload_n X (or_rv _) dX12_spoilt_7 rfl (lv_at hl 0 rfl) ?_
  refine lv_iload_n X.1 X.2.1 dX12_spoilt_8 rfl (lv_at hl 1 rfl) ?_
  refine lv_iload_n X.1 X.2.1 dX12_spoilt_9 rfl (lv_at hl 2 rfl) ?_
  refine lv_iconst (v := 3) X.1 X.2.1 dX12_spoilt_10 (by decide) ?_
  rcases oe_some hf with ⟨k, hc, hf⟩ | ⟨v2, hc, hf⟩
  · cases hf
    exact g_pass S hne hlk (runVX (As := [.int a1, .int a2, .int 3]) (rest := []) X S coX12_161 (by decide) (cX12_needField_x l hlt hc) (tkX12_needField hc) rfl hl.1 (by decide) rfl hR1 dX12_spoilt_11)
  refine g_cv S (runV (As := [.int a1, .int a2, .int 3]) (rest := []) X S coX12_161 (by decide) (cX12_needField_m l hc) (tkX12_needField hc) rfl hl.1 (by decide) rfl ⟨Nat.zero_le _, Nat.zero_le _⟩ dX12_spoilt_11) (fun H locs S => ?_)
  refine lv_iload_n X.1 X.2.1 dX12_spoilt_14 rfl (lv_at hl 3 rfl) ?_
  refine lv_iconst (v := 1) X.1 X.2.1 dX12_spoilt_15 (by decide) ?_
  refine lv_icmp_lt (tgt := 25) X.1 X.2.1 dX12_spoilt_16 (by decide) (fun c3 => ?_) (fun c3 => ?_)
  · replace hf := (if_pos c3).symm.trans hf
    exact wfX12_spoilt_25_x X hr hlk hnm hne hlt hR1 _ _ _ _ (lv_sub hl [] rfl) S hf
  · replace hf := (if_neg c3).symm.trans hf
    refine lv_iload_n X.1 X.2.1 dX12_spoilt_19 rfl (lv_at hl 3 rfl) ?_
    refine lv_bipush (v := 60) X.1 X.2.1 dX12_spoilt_20 (by decide) ?_
    refine lv_icmp_le (tgt := 36) X.1 X.2.1 dX12_spoilt_22 (by decide) (fun c4 => ?_) (fun c4 => ?_)
    · replace hf := (if_pos c4).symm.trans hf
      refine g_aload_n X (or_rv _) dX12_spoilt_36 rfl (lv_at hl 0 rfl) ?_
      refine g_gR X S foX12_34 dX12_spoilt_37 hf (fun v5 hf => ?_)
      refine g_aload_n X (or_rv _) dX12_spoilt_40 rfl (lv_at hl 0 rfl) ?_
      refine g_gR X S foX12_61 dX12_spoilt_41 hf (fun v6 hf => ?_)
      refine g_gR X S foX12_107 dX12_spoilt_44 hf (fun v7 hf => ?_)
      refine lv_iload_n X.1 X.2.1 dX12_spoilt_47 rfl (lv_at hl 1 rfl) ?_
      refine lv_iload_n X.1 X.2.1 dX12_spoilt_48 rfl (lv_at hl 2 rfl) ?_
      refine lv_iload_n X.1 X.2.1 dX12_spoilt_49 rfl (lv_at hl 3 rfl) ?_
      refine lv_iload X.1 X.2.1 dX12_spoilt_50 (lv_at hl 4 rfl) ?_
      obtain ⟨v8, h, hc, hf⟩ := ob2_some hf
      refine g_ci S (runV (As := [rv v7, .int a1, .int a2, .int a3, .int a4]) (rest := []) X S coX12_275 (by decide) (cX4_spoil_m l hc) (tkX4_spoil hc) rfl hl.1 (by decide) rfl ⟨Nat.zero_le _, Nat.zero_le _⟩ dX12_spoilt_52) (fun H locs S => ?_)
      cases hf
    · replace hf := (if_neg c4).symm.trans hf
      exact wfX12_spoilt_25_x X hr hlk hnm hne hlt hR1 _ _ _ _ (lv_sub hl [] rfl) S hf
def fX2_write (a0 : Nat) (a1 : Int32) (a2 : Int32) (a3 : Int32) (h : Hp) : Option (Hp) := gd 2 a0 h (ob (gI 2 a0 5 h) fun v1 => if 8 ≤ v1 then some h else ob (gR 2 a0 4 h) fun v3 => ob (gI 2 a0 5 h) fun v4 => ob (qI v3 (3 * v4) a1 h) fun h => ob (gR 2 a0 4 h) fun v5 => ob (gI 2 a0 5 h) fun v6 => ob (qI v5 ((3 * v6) + 1) a2 h) fun h => ob (gR 2 a0 4 h) fun v7 => ob (gI 2 a0 5 h) fun v8 => ob (qI v7 ((3 * v8) + 2) a3 h) fun h => ob (gI 2 a0 5 h) fun v9 => ob (pI 2 a0 5 (v9 + 1) h) fun h => some h)
theorem tkX2_write {a0 : Nat} {a1 : Int32} {a2 : Int32} {a3 : Int32} {h : Hp} {r9 : Hp} (e : fX2_write a0 a1 a2 a3 h = some r9) : hK h a0 = 2 := by
  unfold fX2_write at e
  exact (gd_some e).1
theorem cX2_write_m (l : Launch) {E : EE} {A : Nat → Prop} {a0 : Nat} {a1 : Int32} {a2 : Int32} {a3 : Int32} {h : Hp} {h9 : Hp} (hf : fX2_write a0 a1 a2 a3 h = some h9) : Met l yX2_write (wsM yX2_write cX2_write 4 none) (rmm 8 0 0) (PcE E A h [rv a0, .int a1, .int a2, .int a3]) (Qv E A h9) 0 0 A := by
  refine met_of (by decide +kernel) (by simp [lg_sl, cat_rv, cat_wv, cat_sv, cat_i, cat_l, cat_a]) (fun p e s m args below meth c ls X hr hlk hnm S hl => ?_)
  have hl : lv_has ls 4 [(0, rv a0), (1, .int a1), (2, .int a2), (3, .int a3)] := by simpa [lv_args, cat_rv, cat_wv, cat_sv, cat_i, cat_l, cat_a] using hl
  generalize hH : s.heap = H at S ⊢
  generalize hlo : ([] : List Loc) = locs at S ⊢
  clear hH hlo
  unfold fX2_write at hf
  obtain ⟨hth, hf⟩ := gd_some hf
  refine g_aload_n X (or_rv _) dX2_write_0 rfl (lv_at hl 0 rfl) ?_
  refine g_gI X S foX2_33 rfl dX2_write_1 hf (fun v1 hf => ?_)
  refine lv_bipush (v := 8) X.1 X.2.1 dX2_write_4 (by decide) ?_
  refine lv_icmp_ge (tgt := 59) X.1 X.2.1 dX2_write_6 (by decide) (fun c2 => ?_) (fun c2 => ?_)
  · replace hf := (if_pos c2).symm.trans hf
    cases hf; exact g_rv X S hr hlk dX2_write_59
  · replace hf := (if_neg c2).symm.trans hf
    refine g_aload_n X (or_rv _) dX2_write_9 rfl (lv_at hl 0 rfl) ?_
    refine g_gR X S foX2_22 dX2_write_10 hf (fun v3 hf => ?_)
    refine lv_iconst (v := 3) X.1 X.2.1 dX2_write_13 (by decide) ?_
    refine g_aload_n X (or_rv _) dX2_write_14 rfl (lv_at hl 0 rfl) ?_
    refine g_gI X S foX2_33 rfl dX2_write_15 hf (fun v4 hf => ?_)
    refine lv_imul X.1 X.2.1 dX2_write_18 ?_
    refine lv_iload_n X.1 X.2.1 dX2_write_19 rfl (lv_at hl 1 rfl) ?_
    refine g_qI X S dX2_write_20 hf (fun h H locs hm hf S => ?_)
    refine g_aload_n X (or_rv _) dX2_write_21 rfl (lv_at hl 0 rfl) ?_
    refine g_gR X S foX2_22 dX2_write_22 hf (fun v5 hf => ?_)
    refine lv_iconst (v := 3) X.1 X.2.1 dX2_write_25 (by decide) ?_
    refine g_aload_n X (or_rv _) dX2_write_26 rfl (lv_at hl 0 rfl) ?_
    refine g_gI X S foX2_33 rfl dX2_write_27 hf (fun v6 hf => ?_)
    refine lv_imul X.1 X.2.1 dX2_write_30 ?_
    refine lv_iconst (v := 1) X.1 X.2.1 dX2_write_31 (by decide) ?_
    refine lv_iadd X.1 X.2.1 dX2_write_32 ?_
    refine lv_iload_n X.1 X.2.1 dX2_write_33 rfl (lv_at hl 2 rfl) ?_
    refine g_qI X S dX2_write_34 hf (fun h H locs hm hf S => ?_)
    refine g_aload_n X (or_rv _) dX2_write_35 rfl (lv_at hl 0 rfl) ?_
    refine g_gR X S foX2_22 dX2_write_36 hf (fun v7 hf => ?_)
    refine lv_iconst (v := 3) X.1 X.2.1 dX2_write_39 (by decide) ?_
    refine g_aload_n X (or_rv _) dX2_write_40 rfl (lv_at hl 0 rfl) ?_
    refine g_gI X S foX2_33 rfl dX2_write_41 hf (fun v8 hf => ?_)
    refine lv_imul X.1 X.2.1 dX2_write_44 ?_
    refine lv_iconst (v := 2) X.1 X.2.1 dX2_write_45 (by decide) ?_
    refine lv_iadd X.1 X.2.1 dX2_write_46 ?_
    refine lv_iload_n X.1 X.2.1 dX2_write_47 rfl (lv_at hl 3 rfl) ?_
    refine g_qI X S dX2_write_48 hf (fun h H locs hm hf S => ?_)
    refine g_aload_n X (or_rv _) dX2_write_49 rfl (lv_at hl 0 rfl) ?_
    refine lv_dup X.1 X.2.1 dX2_write_50 (cat_rv _) ?_
    refine g_gI X S foX2_33 rfl dX2_write_51 hf (fun v9 hf => ?_)
    refine lv_iconst (v := 1) X.1 X.2.1 dX2_write_54 (by decide) ?_
    refine lv_iadd X.1 X.2.1 dX2_write_55 ?_
    refine g_pI X S fpX2_33 (Or.inl rfl) dX2_write_56 hf (fun h H locs hm hf S => ?_)
    cases hf; exact g_rv X S hr hlk dX2_write_59
def fX12_note_36 (x0 : Nat) (h : Hp) : Option (Int32 × Hp) := ob (gR 10 x0 10 h) fun v1 => ob (fX2_refuse v1 2 h) fun h => some ((-1), h)
theorem wfX12_note_36 {r9 : Int32} {h9 : Hp} (X : Cx p E A 9 R s m args c cX12_note yX12_note.cls 4) (hr : meth.sig.returnType = (some .int)) (hlk : meth.locks = false) (hnm : meth.name = yX12_note.name) :
    ∀ (x0 : Nat) (h : Hp) (H : Heap) (locs : List Loc) (ls : Array Slot), lv_has ls 4 [(0, rv x0)] → St E A s h H locs → fX12_note_36 x0 h = some (r9, h9) → W p l e R s m args below meth c H locs 0 0 (MQ below (Qi E A h9 r9) args s 0 0 A) (F0 m 36 ls []) := by
  intro x0 h H locs ls hl S hf
  unfold fX12_note_36 at hf
  refine g_aload_n X (or_rv _) dX12_note_36 rfl (lv_at hl 0 rfl) ?_
  refine g_gR X S foX12_61 dX12_note_37 hf (fun v1 hf => ?_)
  refine lv_iconst (v := 2) X.1 X.2.1 dX12_note_40 (by decide) ?_
  obtain ⟨h, hc, hf⟩ := ob_some hf
  refine g_cv S (runV (As := [.int 2]) (rest := []) X S coX12_86 (by decide) (cX2_refuse_m l hc) (tkX2_refuse hc) rfl hl.1 (by decide) rfl ⟨Nat.zero_le _, Nat.zero_le _⟩ dX12_note_41) (fun H locs S => ?_)
  refine lv_iconst (v := (-1)) X.1 X.2.1 dX12_note_44 (by decide) ?_
  cases hf; exact g_ri X S hr hlk dX12_note_45
def fX12_note (a0 : Nat) (a1 : Int32) (a2 : Int32) (a3 : Int32) (h : Hp) : Option (Int32 × Hp) := gd 10 a0 h (ob (gR 10 a0 10 h) fun v1 => ob (fX2_noted v1 h) fun v2 => if 8 ≤ v2 then fX12_note_36 a0 h else if a1 < 0 then fX12_note_36 a0 h else if 60 < a1 then fX12_note_36 a0 h else ob (fX10_isPlace a2) fun v6 => if v6 = 0 then fX12_note_36 a0 h else ob (fX10_isByte a3) fun v8 => if v8 = 0 then fX12_note_36 a0 h else ob (gR 10 a0 10 h) fun v10 => ob (fX2_write v10 a1 a2 a3 h) fun h => ob (gR 10 a0 10 h) fun v12 => ob (fX2_noted v12 h) fun v13 => some (v13, h))
theorem tkX12_note {a0 : Nat} {a1 : Int32} {a2 : Int32} {a3 : Int32} {h : Hp} {r9 : Int32 × Hp} (e : fX12_note a0 a1 a2 a3 h = some r9) : hK h a0 = 10 := by
  unfold fX12_note at e
  exact (gd_some e).1
theorem cX12_note_m (l : Launch) {E : EE} {A : Nat → Prop} {a0 : Nat} {a1 : Int32} {a2 : Int32} {a3 : Int32} {h : Hp} {r9 : Int32} {h9 : Hp} (hf : fX12_note a0 a1 a2 a3 h = some (r9, h9)) : Met l yX12_note (wsM yX12_note cX12_note 4 (some .int)) (rmm 9 0 0) (PcE E A h [rv a0, .int a1, .int a2, .int a3]) (Qi E A h9 r9) 0 0 A := by
  refine met_of (by decide +kernel) (by simp [lg_sl, cat_rv, cat_wv, cat_sv, cat_i, cat_l, cat_a]) (fun p e s m args below meth c ls X hr hlk hnm S hl => ?_)
  have hl : lv_has ls 4 [(0, rv a0), (1, .int a1), (2, .int a2), (3, .int a3)] := by simpa [lv_args, cat_rv, cat_wv, cat_sv, cat_i, cat_l, cat_a] using hl
  generalize hH : s.heap = H at S ⊢
  generalize hlo : ([] : List Loc) = locs at S ⊢
  clear hH hlo
  unfold fX12_note at hf
  obtain ⟨hth, hf⟩ := gd_some hf
  refine g_aload_n X (or_rv _) dX12_note_0 rfl (lv_at hl 0 rfl) ?_
  refine g_gR X S foX12_61 dX12_note_1 hf (fun v1 hf => ?_)
  obtain ⟨v2, hc, hf⟩ := ob_some hf
  refine g_ci S (runV (As := []) (rest := []) X S coX12_129 (by decide) (cX2_noted_m l hc) (tkX2_noted hc) rfl hl.1 (by decide) rfl ⟨Nat.zero_le _, Nat.zero_le _⟩ dX12_note_4) (fun H locs S => ?_)
  refine lv_bipush (v := 8) X.1 X.2.1 dX12_note_7 (by decide) ?_
  refine lv_icmp_ge (tgt := 36) X.1 X.2.1 dX12_note_9 (by decide) (fun c3 => ?_) (fun c3 => ?_)
  · replace hf := (if_pos c3).symm.trans hf
    exact wfX12_note_36 X hr hlk hnm _ _ _ _ _ (lv_sub hl [0] rfl) S hf
  · replace hf := (if_neg c3).symm.trans hf
    refine lv_iload_n X.1 X.2.1 dX12_note_12 rfl (lv_at hl 1 rfl) ?_
    refine lv_if_lt (tgt := 36) X.1 X.2.1 dX12_note_13 (by decide) (fun c4 => ?_) (fun c4 => ?_)
    · replace hf := (if_pos c4).symm.trans hf
      exact wfX12_note_36 X hr hlk hnm _ _ _ _ _ (lv_sub hl [0] rfl) S hf
    · replace hf := (if_neg c4).symm.trans hf
      refine lv_iload_n X.1 X.2.1 dX12_note_16 rfl (lv_at hl 1 rfl) ?_
      refine lv_bipush (v := 60) X.1 X.2.1 dX12_note_17 (by decide) ?_
      refine lv_icmp_gt (tgt := 36) X.1 X.2.1 dX12_note_19 (by decide) (fun c5 => ?_) (fun c5 => ?_)
      · replace hf := (if_pos c5).symm.trans hf
        exact wfX12_note_36 X hr hlk hnm _ _ _ _ _ (lv_sub hl [0] rfl) S hf
      · replace hf := (if_neg c5).symm.trans hf
        refine lv_iload_n X.1 X.2.1 dX12_note_22 rfl (lv_at hl 2 rfl) ?_
        obtain ⟨v6, hc, hf⟩ := ob_some hf
        refine g_ci S (runS (As := [.int a2]) (rest := []) X S coX12_232 (by decide) (cX10_isPlace_m l hc) rfl hl.1 (by decide) rfl ⟨Nat.zero_le _, Nat.zero_le _⟩ dX12_note_23) (fun H locs S => ?_)
        refine lv_if_eq (tgt := 36) X.1 X.2.1 dX12_note_26 (by decide) (fun c7 => ?_) (fun c7 => ?_)
        · replace hf := (if_pos c7).symm.trans hf
          exact wfX12_note_36 X hr hlk hnm _ _ _ _ _ (lv_sub hl [0] rfl) S hf
        · replace hf := (if_neg c7).symm.trans hf
          refine lv_iload_n X.1 X.2.1 dX12_note_29 rfl (lv_at hl 3 rfl) ?_
          obtain ⟨v8, hc, hf⟩ := ob_some hf
          refine g_ci S (runS (As := [.int a3]) (rest := []) X S coX12_236 (by decide) (cX10_isByte_m l hc) rfl hl.1 (by decide) rfl ⟨Nat.zero_le _, Nat.zero_le _⟩ dX12_note_30) (fun H locs S => ?_)
          refine lv_if_ne (tgt := 46) X.1 X.2.1 dX12_note_33 (by decide) (fun c9 => ?_) (fun c9 => ?_)
          · replace hf := (if_neg c9).symm.trans hf
            refine g_aload_n X (or_rv _) dX12_note_46 rfl (lv_at hl 0 rfl) ?_
            refine g_gR X S foX12_61 dX12_note_47 hf (fun v10 hf => ?_)
            refine lv_iload_n X.1 X.2.1 dX12_note_50 rfl (lv_at hl 1 rfl) ?_
            refine lv_iload_n X.1 X.2.1 dX12_note_51 rfl (lv_at hl 2 rfl) ?_
            refine lv_iload_n X.1 X.2.1 dX12_note_52 rfl (lv_at hl 3 rfl) ?_
            obtain ⟨h, hc, hf⟩ := ob_some hf
            refine g_cv S (runV (As := [.int a1, .int a2, .int a3]) (rest := []) X S coX12_279 (by decide) (cX2_write_m l hc) (tkX2_write hc) rfl hl.1 (by decide) rfl ⟨Nat.zero_le _, Nat.zero_le _⟩ dX12_note_53) (fun H locs S => ?_)
            refine g_aload_n X (or_rv _) dX12_note_56 rfl (lv_at hl 0 rfl) ?_
            refine g_gR X S foX12_61 dX12_note_57 hf (fun v12 hf => ?_)
            obtain ⟨v13, hc, hf⟩ := ob_some hf
            refine g_ci S (runV (As := []) (rest := []) X S coX12_129 (by decide) (cX2_noted_m l hc) (tkX2_noted hc) rfl hl.1 (by decide) rfl ⟨Nat.zero_le _, Nat.zero_le _⟩ dX12_note_60) (fun H locs S => ?_)
            cases hf; exact g_ri X S hr hlk dX12_note_63
          · replace hf := (if_pos c9).symm.trans hf
            exact wfX12_note_36 X hr hlk hnm _ _ _ _ _ (lv_sub hl [0] rfl) S hf
def fX2_latestNote_4 (h : Hp) (k4 : Nat → Int32 → Int32 → Option (Int32)) (x0 : Nat) (x1 : Int32) (x2 : Int32) : Option (Int32) := ob (gI 2 x0 5 h) fun v1 => if v1 ≤ x2 then some x1 else ob (gR 2 x0 4 h) fun v3 => ob (aI v3 (3 * x2) h) fun v4 => lt (imax x1 v4) fun z5 => lt (x2 + 1) fun z6 => k4 x0 z5 z6
theorem wfX2_latestNote_4 {h : Hp} {k4 : Nat → Int32 → Int32 → Option (Int32)} {r9 : Int32} (X : Cx p E A 8 R s m args c cX2_latestNote yX2_latestNote.cls 3) (hr : meth.sig.returnType = (some .int)) (hlk : meth.locks = false) (hnm : meth.name = yX2_latestNote.name) (hk4 : ∀ (x0 : Nat) (x1 : Int32) (x2 : Int32) (H : Heap) (locs : List Loc) (ls : Array Slot), lv_has ls 3 [(0, rv x0), (1, .int x1), (2, .int x2)] → St E A s h H locs → k4 x0 x1 x2 = some r9 → W p l e R s m args below meth c H locs 0 0 (MQ below (Qi E A h r9) args s 0 0 A) (F0 m 4 ls [])) :
    ∀ (x0 : Nat) (x1 : Int32) (x2 : Int32) (H : Heap) (locs : List Loc) (ls : Array Slot), lv_has ls 3 [(0, rv x0), (1, .int x1), (2, .int x2)] → St E A s h H locs → fX2_latestNote_4 h k4 x0 x1 x2 = some r9 → W p l e R s m args below meth c H locs 0 0 (MQ below (Qi E A h r9) args s 0 0 A) (F0 m 4 ls []) := by
  intro x0 x1 x2 H locs ls hl S hf
  unfold fX2_latestNote_4 at hf
  refine lv_iload_n X.1 X.2.1 dX2_latestNote_4 rfl (lv_at hl 2 rfl) ?_
  refine g_aload_n X (or_rv _) dX2_latestNote_5 rfl (lv_at hl 0 rfl) ?_
  refine g_gI X S foX2_33 rfl dX2_latestNote_6 hf (fun v1 hf => ?_)
  refine lv_icmp_ge (tgt := 31) X.1 X.2.1 dX2_latestNote_9 (by decide) (fun c2 => ?_) (fun c2 => ?_)
  · replace hf := (if_pos c2).symm.trans hf
    refine lv_iload_n X.1 X.2.1 dX2_latestNote_31 rfl (lv_at hl 1 rfl) ?_
    cases hf; exact g_ri X S hr hlk dX2_latestNote_32
  · replace hf := (if_neg c2).symm.trans hf
    refine lv_iload_n X.1 X.2.1 dX2_latestNote_12 rfl (lv_at hl 1 rfl) ?_
    refine g_aload_n X (or_rv _) dX2_latestNote_13 rfl (lv_at hl 0 rfl) ?_
    refine g_gR X S foX2_22 dX2_latestNote_14 hf (fun v3 hf => ?_)
    refine lv_iconst (v := 3) X.1 X.2.1 dX2_latestNote_17 (by decide) ?_
    refine lv_iload_n X.1 X.2.1 dX2_latestNote_18 rfl (lv_at hl 2 rfl) ?_
    refine lv_imul X.1 X.2.1 dX2_latestNote_19 ?_
    refine g_aI X S dX2_latestNote_20 hf (fun v4 hf => ?_)
    refine g_max (rest := []) X hl.1 (by decide) (by decide) mlX2_47 u_max_s u_math u_max_c (Nat.zero_le _) (Nat.zero_le _) dX2_latestNote_21 ?_
    refine g_lti hf (fun z5 hf => ?_)
    refine lv_istore_n (i := 1) (lv' := [(1, .int z5), (0, rv x0), (2, .int x2)]) X.1 X.2.1 dX2_latestNote_24 rfl hl (by decide) (by simp [List.filter, cat_rv, cat_wv, cat_sv]) (fun ls hl => ?_)
    obtain ⟨z6, ez6, hf⟩ := lt_some hf
    refine lv_iinc (v := z6) (lv' := [(2, .int z6), (1, .int z5), (0, rv x0)]) X.1 X.2.1 dX2_latestNote_25 hl (k := 2) rfl (by rw [← ez6]; rfl) (by decide) rfl (fun ls hl => ?_)
    refine lv_goto (tgt := 4) X.1 X.2.1 dX2_latestNote_28 (by decide) ?_
    exact hk4 _ _ _ _ _ _ (lv_sub hl [2, 1, 0] rfl) S hf
theorem wfX2_latestNote_4_l {h : Hp} {r9 : Int32} (X : Cx p E A 8 R s m args c cX2_latestNote yX2_latestNote.cls 3) (hr : meth.sig.returnType = (some .int)) (hlk : meth.locks = false) (hnm : meth.name = yX2_latestNote.name) :
    ∀ (n : Nat) (x0 : Nat) (x1 : Int32) (x2 : Int32) (H : Heap) (locs : List Loc) (ls : Array Slot), lv_has ls 3 [(0, rv x0), (1, .int x1), (2, .int x2)] → St E A s h H locs → lp (fun _ _ _ => none) (fX2_latestNote_4 h) n x0 x1 x2 = some r9 → W p l e R s m args below meth c H locs 0 0 (MQ below (Qi E A h r9) args s 0 0 A) (F0 m 4 ls []) := by
  intro n
  induction n with
  | zero =>
    intro x0 x1 x2 H locs ls hl S hf
    exact nomatch hf
  | succ n ih =>
    intro x0 x1 x2 H locs ls hl S hf
    exact wfX2_latestNote_4 X hr hlk hnm ih x0 x1 x2 H locs ls hl S hf
def fX2_latestNote (a0 : Nat) (h : Hp) : Option (Int32) := gd 2 a0 h (lp (fun _ _ _ => none) (fX2_latestNote_4 h) FU a0 (-1) 0)
theorem tkX2_latestNote {a0 : Nat} {h : Hp} {r9 : Int32} (e : fX2_latestNote a0 h = some r9) : hK h a0 = 2 := by
  unfold fX2_latestNote at e
  exact (gd_some e).1
theorem cX2_latestNote_m (l : Launch) {E : EE} {A : Nat → Prop} {a0 : Nat} {h : Hp} {r9 : Int32} (hf : fX2_latestNote a0 h = some r9) : Met l yX2_latestNote (wsM yX2_latestNote cX2_latestNote 3 (some .int)) (rmm 8 0 0) (PcE E A h [rv a0]) (Qi E A h r9) 0 0 A := by
  refine met_of (by decide +kernel) (by simp [lg_sl, cat_rv, cat_wv, cat_sv, cat_i, cat_l, cat_a]) (fun p e s m args below meth c ls X hr hlk hnm S hl => ?_)
  have hl : lv_has ls 3 [(0, rv a0)] := by simpa [lv_args, cat_rv, cat_wv, cat_sv, cat_i, cat_l, cat_a] using hl
  generalize hH : s.heap = H at S ⊢
  generalize hlo : ([] : List Loc) = locs at S ⊢
  clear hH hlo
  unfold fX2_latestNote at hf
  obtain ⟨hth, hf⟩ := gd_some hf
  refine lv_iconst (v := (-1)) X.1 X.2.1 dX2_latestNote_0 (by decide) ?_
  refine lv_istore_n (i := 1) (lv' := [(1, .int (-1)), (0, rv a0)]) X.1 X.2.1 dX2_latestNote_1 rfl hl (by decide) (by simp [List.filter, cat_rv, cat_wv, cat_sv]) (fun ls hl => ?_)
  refine lv_iconst (v := 0) X.1 X.2.1 dX2_latestNote_2 (by decide) ?_
  refine lv_istore_n (i := 2) (lv' := [(2, .int 0), (1, .int (-1)), (0, rv a0)]) X.1 X.2.1 dX2_latestNote_3 rfl hl (by decide) rfl (fun ls hl => ?_)
  exact wfX2_latestNote_4_l X hr hlk hnm FU _ _ _ _ _ _ (lv_sub hl [2, 1, 0] rfl) S hf
def fX2_bears_2 (h : Hp) (k2 : Nat → Nat → Int32 → Int32 → Option (Int32)) (x0 : Nat) (x1 : Nat) (x2 : Int32) (x3 : Int32) : Option (Int32) := ob (gI 2 x0 5 h) fun v1 => if v1 ≤ x3 then some 1 else ob (gR 2 x0 4 h) fun v3 => ob (aI v3 (3 * x3) h) fun v4 => if v4 = x2 then ob (gR 2 x0 4 h) fun v7 => ob (aI v7 ((3 * x3) + 1) h) fun v8 => ob (fX10_cell x1 v8 h) fun v9 => ob (gR 2 x0 4 h) fun v10 => ob (aI v10 ((3 * x3) + 2) h) fun v11 => if v9 = v11 then lt (x3 + 1) fun z13 => k2 x0 x1 x2 z13 else some 0 else lt (x3 + 1) fun z6 => k2 x0 x1 x2 z6
theorem wfX2_bears_2 {h : Hp} {k2 : Nat → Nat → Int32 → Int32 → Option (Int32)} {r9 : Int32} (X : Cx p E A 9 R s m args c cX2_bears yX2_bears.cls 4) (hr : meth.sig.returnType = (some .boolean)) (hlk : meth.locks = false) (hnm : meth.name = yX2_bears.name) (hk2 : ∀ (x0 : Nat) (x1 : Nat) (x2 : Int32) (x3 : Int32) (H : Heap) (locs : List Loc) (ls : Array Slot), lv_has ls 4 [(0, rv x0), (1, rv x1), (2, .int x2), (3, .int x3)] → St E A s h H locs → k2 x0 x1 x2 x3 = some r9 → W p l e R s m args below meth c H locs 0 0 (MQ below (Qi E A h r9) args s 0 0 A) (F0 m 2 ls [])) :
    ∀ (x0 : Nat) (x1 : Nat) (x2 : Int32) (x3 : Int32) (H : Heap) (locs : List Loc) (ls : Array Slot), lv_has ls 4 [(0, rv x0), (1, rv x1), (2, .int x2), (3, .int x3)] → St E A s h H locs → fX2_bears_2 h k2 x0 x1 x2 x3 = some r9 → W p l e R s m args below meth c H locs 0 0 (MQ below (Qi E A h r9) args s 0 0 A) (F0 m 2 ls []) := by
  intro x0 x1 x2 x3 H locs ls hl S hf
  unfold fX2_bears_2 at hf
  refine lv_iload_n X.1 X.2.1 dX2_bears_2 rfl (lv_at hl 3 rfl) ?_
  refine g_aload_n X (or_rv _) dX2_bears_3 rfl (lv_at hl 0 rfl) ?_
  refine g_gI X S foX2_33 rfl dX2_bears_4 hf (fun v1 hf => ?_)
  refine lv_icmp_ge (tgt := 57) X.1 X.2.1 dX2_bears_7 (by decide) (fun c2 => ?_) (fun c2 => ?_)
  · replace hf := (if_pos c2).symm.trans hf
    refine lv_iconst (v := 1) X.1 X.2.1 dX2_bears_57 (by decide) ?_
    cases hf; exact g_rz X S hr hlk (by decide) dX2_bears_58
  · replace hf := (if_neg c2).symm.trans hf
    refine g_aload_n X (or_rv _) dX2_bears_10 rfl (lv_at hl 0 rfl) ?_
    refine g_gR X S foX2_22 dX2_bears_11 hf (fun v3 hf => ?_)
    refine lv_iconst (v := 3) X.1 X.2.1 dX2_bears_14 (by decide) ?_
    refine lv_iload_n X.1 X.2.1 dX2_bears_15 rfl (lv_at hl 3 rfl) ?_
    refine lv_imul X.1 X.2.1 dX2_bears_16 ?_
    refine g_aI X S dX2_bears_17 hf (fun v4 hf => ?_)
    refine lv_iload_n X.1 X.2.1 dX2_bears_18 rfl (lv_at hl 2 rfl) ?_
    refine lv_icmp_ne (tgt := 51) X.1 X.2.1 dX2_bears_19 (by decide) (fun c5 => ?_) (fun c5 => ?_)
    · replace hf := (if_neg c5).symm.trans hf
      obtain ⟨z6, ez6, hf⟩ := lt_some hf
      refine lv_iinc (v := z6) (lv' := [(3, .int z6), (0, rv x0), (1, rv x1), (2, .int x2)]) X.1 X.2.1 dX2_bears_51 hl (k := 3) rfl (by rw [← ez6]; rfl) (by decide) rfl (fun ls hl => ?_)
      refine lv_goto (tgt := 2) X.1 X.2.1 dX2_bears_54 (by decide) ?_
      exact hk2 _ _ _ _ _ _ _ (lv_sub hl [1, 2, 3, 0] rfl) S hf
    · replace hf := (if_pos c5).symm.trans hf
      refine g_aload_n X (or_rv _) dX2_bears_22 rfl (lv_at hl 1 rfl) ?_
      refine g_aload_n X (or_rv _) dX2_bears_23 rfl (lv_at hl 0 rfl) ?_
      refine g_gR X S foX2_22 dX2_bears_24 hf (fun v7 hf => ?_)
      refine lv_iconst (v := 3) X.1 X.2.1 dX2_bears_27 (by decide) ?_
      refine lv_iload_n X.1 X.2.1 dX2_bears_28 rfl (lv_at hl 3 rfl) ?_
      refine lv_imul X.1 X.2.1 dX2_bears_29 ?_
      refine lv_iconst (v := 1) X.1 X.2.1 dX2_bears_30 (by decide) ?_
      refine lv_iadd X.1 X.2.1 dX2_bears_31 ?_
      refine g_aI X S dX2_bears_32 hf (fun v8 hf => ?_)
      obtain ⟨v9, hc, hf⟩ := ob_some hf
      refine g_ci S (runV (As := [.int v8]) (rest := []) X S coX2_53 (by decide) (cX10_cell_m l hc) (tkX10_cell hc) rfl hl.1 (by decide) rfl ⟨Nat.zero_le _, Nat.zero_le _⟩ dX2_bears_33) (fun H locs S => ?_)
      refine g_aload_n X (or_rv _) dX2_bears_36 rfl (lv_at hl 0 rfl) ?_
      refine g_gR X S foX2_22 dX2_bears_37 hf (fun v10 hf => ?_)
      refine lv_iconst (v := 3) X.1 X.2.1 dX2_bears_40 (by decide) ?_
      refine lv_iload_n X.1 X.2.1 dX2_bears_41 rfl (lv_at hl 3 rfl) ?_
      refine lv_imul X.1 X.2.1 dX2_bears_42 ?_
      refine lv_iconst (v := 2) X.1 X.2.1 dX2_bears_43 (by decide) ?_
      refine lv_iadd X.1 X.2.1 dX2_bears_44 ?_
      refine g_aI X S dX2_bears_45 hf (fun v11 hf => ?_)
      refine lv_icmp_eq (tgt := 51) X.1 X.2.1 dX2_bears_46 (by decide) (fun c12 => ?_) (fun c12 => ?_)
      · replace hf := (if_pos c12).symm.trans hf
        obtain ⟨z13, ez13, hf⟩ := lt_some hf
        refine lv_iinc (v := z13) (lv' := [(3, .int z13), (0, rv x0), (1, rv x1), (2, .int x2)]) X.1 X.2.1 dX2_bears_51 hl (k := 3) rfl (by rw [← ez13]; rfl) (by decide) rfl (fun ls hl => ?_)
        refine lv_goto (tgt := 2) X.1 X.2.1 dX2_bears_54 (by decide) ?_
        exact hk2 _ _ _ _ _ _ _ (lv_sub hl [1, 2, 3, 0] rfl) S hf
      · replace hf := (if_neg c12).symm.trans hf
        refine lv_iconst (v := 0) X.1 X.2.1 dX2_bears_49 (by decide) ?_
        cases hf; exact g_rz X S hr hlk (by decide) dX2_bears_50
theorem wfX2_bears_2_l {h : Hp} {r9 : Int32} (X : Cx p E A 9 R s m args c cX2_bears yX2_bears.cls 4) (hr : meth.sig.returnType = (some .boolean)) (hlk : meth.locks = false) (hnm : meth.name = yX2_bears.name) :
    ∀ (n : Nat) (x0 : Nat) (x1 : Nat) (x2 : Int32) (x3 : Int32) (H : Heap) (locs : List Loc) (ls : Array Slot), lv_has ls 4 [(0, rv x0), (1, rv x1), (2, .int x2), (3, .int x3)] → St E A s h H locs → lp (fun _ _ _ _ => none) (fX2_bears_2 h) n x0 x1 x2 x3 = some r9 → W p l e R s m args below meth c H locs 0 0 (MQ below (Qi E A h r9) args s 0 0 A) (F0 m 2 ls []) := by
  intro n
  induction n with
  | zero =>
    intro x0 x1 x2 x3 H locs ls hl S hf
    exact nomatch hf
  | succ n ih =>
    intro x0 x1 x2 x3 H locs ls hl S hf
    exact wfX2_bears_2 X hr hlk hnm ih x0 x1 x2 x3 H locs ls hl S hf
def fX2_bears (a0 : Nat) (a1 : Nat) (a2 : Int32) (h : Hp) : Option (Int32) := gd 2 a0 h (lp (fun _ _ _ _ => none) (fX2_bears_2 h) FU a0 a1 a2 0)
theorem tkX2_bears {a0 : Nat} {a1 : Nat} {a2 : Int32} {h : Hp} {r9 : Int32} (e : fX2_bears a0 a1 a2 h = some r9) : hK h a0 = 2 := by
  unfold fX2_bears at e
  exact (gd_some e).1
theorem cX2_bears_m (l : Launch) {E : EE} {A : Nat → Prop} {a0 : Nat} {a1 : Nat} {a2 : Int32} {h : Hp} {r9 : Int32} (hf : fX2_bears a0 a1 a2 h = some r9) : Met l yX2_bears (wsM yX2_bears cX2_bears 4 (some .boolean)) (rmm 9 0 0) (PcE E A h [rv a0, rv a1, .int a2]) (Qi E A h r9) 0 0 A := by
  refine met_of (by decide +kernel) (by simp [lg_sl, cat_rv, cat_wv, cat_sv, cat_i, cat_l, cat_a]) (fun p e s m args below meth c ls X hr hlk hnm S hl => ?_)
  have hl : lv_has ls 4 [(0, rv a0), (1, rv a1), (2, .int a2)] := by simpa [lv_args, cat_rv, cat_wv, cat_sv, cat_i, cat_l, cat_a] using hl
  generalize hH : s.heap = H at S ⊢
  generalize hlo : ([] : List Loc) = locs at S ⊢
  clear hH hlo
  unfold fX2_bears at hf
  obtain ⟨hth, hf⟩ := gd_some hf
  refine lv_iconst (v := 0) X.1 X.2.1 dX2_bears_0 (by decide) ?_
  refine lv_istore_n (i := 3) (lv' := [(3, .int 0), (0, rv a0), (1, rv a1), (2, .int a2)]) X.1 X.2.1 dX2_bears_1 rfl hl (by decide) rfl (fun ls hl => ?_)
  exact wfX2_bears_2_l X hr hlk hnm FU _ _ _ _ _ _ _ (lv_sub hl [1, 2, 3, 0] rfl) S hf
def fX4_bears_10 (k10 : Nat → Nat → Int32 → Int32 → Int32 → Hp → Option (Int32 × Hp)) (x0 : Nat) (x1 : Nat) (x2 : Int32) (x3 : Int32) (x4 : Int32) (h : Hp) : Option (Int32 × Hp) := if x3 < x4 then some (1, h) else if 60 < x4 then some (1, h) else ob (gR 4 x0 1 h) fun v3 => ob (fX2_bears x1 v3 x4 h) fun v4 => if v4 = 0 then some (0, h) else if x2 = 0 then lt (x4 + 1) fun z7 => k10 x0 x1 x2 x3 z7 h else if x3 ≤ x4 then lt (x4 + 1) fun z9 => k10 x0 x1 x2 x3 z9 h else ob (gR 4 x0 1 h) fun v10 => ob (fX10_running v10 h) fun v11 => if v11 = 0 then lt (x4 + 1) fun z13 => k10 x0 x1 x2 x3 z13 h else ob (gR 4 x0 0 h) fun v14 => ob (gR 4 x0 1 h) fun v15 => ob2 (fX9_step v14 v15 h) fun v16 h => if v16 = 0 then lt (x4 + 1) fun z19 => k10 x0 x1 1 x3 z19 h else lt (x4 + 1) fun z18 => k10 x0 x1 0 x3 z18 h
theorem wfX4_bears_10 {k10 : Nat → Nat → Int32 → Int32 → Int32 → Hp → Option (Int32 × Hp)} {r9 : Int32} {h9 : Hp} (X : Cx p E A 13 R s m args c cX4_bears yX4_bears.cls 5) (hr : meth.sig.returnType = (some .boolean)) (hlk : meth.locks = false) (hnm : meth.name = yX4_bears.name) (hk10 : ∀ (x0 : Nat) (x1 : Nat) (x2 : Int32) (x3 : Int32) (x4 : Int32) (h : Hp) (H : Heap) (locs : List Loc) (ls : Array Slot), lv_has ls 5 [(0, rv x0), (1, rv x1), (2, .int x2), (3, .int x3), (4, .int x4)] → St E A s h H locs → k10 x0 x1 x2 x3 x4 h = some (r9, h9) → W p l e R s m args below meth c H locs 0 0 (MQ below (Qi E A h9 r9) args s 0 0 A) (F0 m 10 ls [])) :
    ∀ (x0 : Nat) (x1 : Nat) (x2 : Int32) (x3 : Int32) (x4 : Int32) (h : Hp) (H : Heap) (locs : List Loc) (ls : Array Slot), lv_has ls 5 [(0, rv x0), (1, rv x1), (2, .int x2), (3, .int x3), (4, .int x4)] → St E A s h H locs → fX4_bears_10 k10 x0 x1 x2 x3 x4 h = some (r9, h9) → W p l e R s m args below meth c H locs 0 0 (MQ below (Qi E A h9 r9) args s 0 0 A) (F0 m 10 ls []) := by
  intro x0 x1 x2 x3 x4 h H locs ls hl S hf
  unfold fX4_bears_10 at hf
  refine lv_iload X.1 X.2.1 dX4_bears_10 (lv_at hl 4 rfl) ?_
  refine lv_iload_n X.1 X.2.1 dX4_bears_12 rfl (lv_at hl 3 rfl) ?_
  refine lv_icmp_gt (tgt := 84) X.1 X.2.1 dX4_bears_13 (by decide) (fun c1 => ?_) (fun c1 => ?_)
  · replace hf := (if_pos c1).symm.trans hf
    refine lv_iconst (v := 1) X.1 X.2.1 dX4_bears_84 (by decide) ?_
    cases hf; exact g_rz X S hr hlk (by decide) dX4_bears_85
  · replace hf := (if_neg c1).symm.trans hf
    refine lv_iload X.1 X.2.1 dX4_bears_16 (lv_at hl 4 rfl) ?_
    refine lv_bipush (v := 60) X.1 X.2.1 dX4_bears_18 (by decide) ?_
    refine lv_icmp_gt (tgt := 84) X.1 X.2.1 dX4_bears_20 (by decide) (fun c2 => ?_) (fun c2 => ?_)
    · replace hf := (if_pos c2).symm.trans hf
      refine lv_iconst (v := 1) X.1 X.2.1 dX4_bears_84 (by decide) ?_
      cases hf; exact g_rz X S hr hlk (by decide) dX4_bears_85
    · replace hf := (if_neg c2).symm.trans hf
      refine g_aload_n X (or_rv _) dX4_bears_23 rfl (lv_at hl 1 rfl) ?_
      refine g_aload_n X (or_rv _) dX4_bears_24 rfl (lv_at hl 0 rfl) ?_
      refine g_gR X S foX4_21 dX4_bears_25 hf (fun v3 hf => ?_)
      refine lv_iload X.1 X.2.1 dX4_bears_28 (lv_at hl 4 rfl) ?_
      obtain ⟨v4, hc, hf⟩ := ob_some hf
      refine g_ci S (runV (As := [rv v3, .int x4]) (rest := []) X S coX4_89 (by decide) (cX2_bears_m l hc) (tkX2_bears hc) rfl hl.1 (by decide) rfl ⟨Nat.zero_le _, Nat.zero_le _⟩ dX4_bears_30) (fun H locs S => ?_)
      refine lv_if_ne (tgt := 38) X.1 X.2.1 dX4_bears_33 (by decide) (fun c5 => ?_) (fun c5 => ?_)
      · replace hf := (if_neg c5).symm.trans hf
        refine lv_iload_n X.1 X.2.1 dX4_bears_38 rfl (lv_at hl 2 rfl) ?_
        refine lv_if_eq (tgt := 78) X.1 X.2.1 dX4_bears_39 (by decide) (fun c6 => ?_) (fun c6 => ?_)
        · replace hf := (if_pos c6).symm.trans hf
          obtain ⟨z7, ez7, hf⟩ := lt_some hf
          refine lv_iinc (v := z7) (lv' := [(4, .int z7), (0, rv x0), (1, rv x1), (2, .int x2), (3, .int x3)]) X.1 X.2.1 dX4_bears_78 hl (k := 4) rfl (by rw [← ez7]; rfl) (by decide) rfl (fun ls hl => ?_)
          refine lv_goto (tgt := 10) X.1 X.2.1 dX4_bears_81 (by decide) ?_
          exact hk10 _ _ _ _ _ _ _ _ _ (lv_sub hl [1, 2, 3, 4, 0] rfl) S hf
        · replace hf := (if_neg c6).symm.trans hf
          refine lv_iload X.1 X.2.1 dX4_bears_42 (lv_at hl 4 rfl) ?_
          refine lv_iload_n X.1 X.2.1 dX4_bears_44 rfl (lv_at hl 3 rfl) ?_
          refine lv_icmp_ge (tgt := 78) X.1 X.2.1 dX4_bears_45 (by decide) (fun c8 => ?_) (fun c8 => ?_)
          · replace hf := (if_pos c8).symm.trans hf
            obtain ⟨z9, ez9, hf⟩ := lt_some hf
            refine lv_iinc (v := z9) (lv' := [(4, .int z9), (0, rv x0), (1, rv x1), (2, .int x2), (3, .int x3)]) X.1 X.2.1 dX4_bears_78 hl (k := 4) rfl (by rw [← ez9]; rfl) (by decide) rfl (fun ls hl => ?_)
            refine lv_goto (tgt := 10) X.1 X.2.1 dX4_bears_81 (by decide) ?_
            exact hk10 _ _ _ _ _ _ _ _ _ (lv_sub hl [1, 2, 3, 4, 0] rfl) S hf
          · replace hf := (if_neg c8).symm.trans hf
            refine g_aload_n X (or_rv _) dX4_bears_48 rfl (lv_at hl 0 rfl) ?_
            refine g_gR X S foX4_21 dX4_bears_49 hf (fun v10 hf => ?_)
            obtain ⟨v11, hc, hf⟩ := ob_some hf
            refine g_ci S (runV (As := []) (rest := []) X S coX4_36 (by decide) (cX10_running_m l hc) (tkX10_running hc) rfl hl.1 (by decide) rfl ⟨Nat.zero_le _, Nat.zero_le _⟩ dX4_bears_52) (fun H locs S => ?_)
            refine lv_if_eq (tgt := 78) X.1 X.2.1 dX4_bears_55 (by decide) (fun c12 => ?_) (fun c12 => ?_)
            · replace hf := (if_pos c12).symm.trans hf
              obtain ⟨z13, ez13, hf⟩ := lt_some hf
              refine lv_iinc (v := z13) (lv' := [(4, .int z13), (0, rv x0), (1, rv x1), (2, .int x2), (3, .int x3)]) X.1 X.2.1 dX4_bears_78 hl (k := 4) rfl (by rw [← ez13]; rfl) (by decide) rfl (fun ls hl => ?_)
              refine lv_goto (tgt := 10) X.1 X.2.1 dX4_bears_81 (by decide) ?_
              exact hk10 _ _ _ _ _ _ _ _ _ (lv_sub hl [1, 2, 3, 4, 0] rfl) S hf
            · replace hf := (if_neg c12).symm.trans hf
              refine g_aload_n X (or_rv _) dX4_bears_58 rfl (lv_at hl 0 rfl) ?_
              refine g_gR X S foX4_12 dX4_bears_59 hf (fun v14 hf => ?_)
              refine g_aload_n X (or_rv _) dX4_bears_62 rfl (lv_at hl 0 rfl) ?_
              refine g_gR X S foX4_21 dX4_bears_63 hf (fun v15 hf => ?_)
              obtain ⟨v16, h, hc, hf⟩ := ob2_some hf
              refine g_ci S (runV (As := [rv v15]) (rest := []) X S coX4_40 (by decide) (cX9_step_m l hc) (tkX9_step hc) rfl hl.1 (by decide) rfl ⟨Nat.zero_le _, Nat.zero_le _⟩ dX4_bears_66) (fun H locs S => ?_)
              refine lv_if_ne (tgt := 76) X.1 X.2.1 dX4_bears_69 (by decide) (fun c17 => ?_) (fun c17 => ?_)
              · replace hf := (if_neg c17).symm.trans hf
                refine lv_iconst (v := 0) X.1 X.2.1 dX4_bears_76 (by decide) ?_
                refine lv_istore_n (i := 2) (lv' := [(2, .int 0), (0, rv x0), (1, rv x1), (3, .int x3), (4, .int x4)]) X.1 X.2.1 dX4_bears_77 rfl hl (by decide) (by simp [List.filter, cat_rv, cat_wv, cat_sv]) (fun ls hl => ?_)
                obtain ⟨z18, ez18, hf⟩ := lt_some hf
                refine lv_iinc (v := z18) (lv' := [(4, .int z18), (2, .int 0), (0, rv x0), (1, rv x1), (3, .int x3)]) X.1 X.2.1 dX4_bears_78 hl (k := 4) rfl (by rw [← ez18]; rfl) (by decide) rfl (fun ls hl => ?_)
                refine lv_goto (tgt := 10) X.1 X.2.1 dX4_bears_81 (by decide) ?_
                exact hk10 _ _ _ _ _ _ _ _ _ (lv_sub hl [2, 3, 1, 4, 0] rfl) S hf
              · replace hf := (if_pos c17).symm.trans hf
                refine lv_iconst (v := 1) X.1 X.2.1 dX4_bears_72 (by decide) ?_
                refine lv_goto (tgt := 77) X.1 X.2.1 dX4_bears_73 (by decide) ?_
                refine lv_istore_n (i := 2) (lv' := [(2, .int 1), (0, rv x0), (1, rv x1), (3, .int x3), (4, .int x4)]) X.1 X.2.1 dX4_bears_77 rfl hl (by decide) (by simp [List.filter, cat_rv, cat_wv, cat_sv]) (fun ls hl => ?_)
                obtain ⟨z19, ez19, hf⟩ := lt_some hf
                refine lv_iinc (v := z19) (lv' := [(4, .int z19), (2, .int 1), (0, rv x0), (1, rv x1), (3, .int x3)]) X.1 X.2.1 dX4_bears_78 hl (k := 4) rfl (by rw [← ez19]; rfl) (by decide) rfl (fun ls hl => ?_)
                refine lv_goto (tgt := 10) X.1 X.2.1 dX4_bears_81 (by decide) ?_
                exact hk10 _ _ _ _ _ _ _ _ _ (lv_sub hl [2, 3, 1, 4, 0] rfl) S hf
      · replace hf := (if_pos c5).symm.trans hf
        refine lv_iconst (v := 0) X.1 X.2.1 dX4_bears_36 (by decide) ?_
        cases hf; exact g_rz X S hr hlk (by decide) dX4_bears_37
theorem wfX4_bears_10_l {r9 : Int32} {h9 : Hp} (X : Cx p E A 13 R s m args c cX4_bears yX4_bears.cls 5) (hr : meth.sig.returnType = (some .boolean)) (hlk : meth.locks = false) (hnm : meth.name = yX4_bears.name) :
    ∀ (n : Nat) (x0 : Nat) (x1 : Nat) (x2 : Int32) (x3 : Int32) (x4 : Int32) (h : Hp) (H : Heap) (locs : List Loc) (ls : Array Slot), lv_has ls 5 [(0, rv x0), (1, rv x1), (2, .int x2), (3, .int x3), (4, .int x4)] → St E A s h H locs → lp (fun _ _ _ _ _ _ => none) (fX4_bears_10) n x0 x1 x2 x3 x4 h = some (r9, h9) → W p l e R s m args below meth c H locs 0 0 (MQ below (Qi E A h9 r9) args s 0 0 A) (F0 m 10 ls []) := by
  intro n
  induction n with
  | zero =>
    intro x0 x1 x2 x3 x4 h H locs ls hl S hf
    exact nomatch hf
  | succ n ih =>
    intro x0 x1 x2 x3 x4 h H locs ls hl S hf
    exact wfX4_bears_10 X hr hlk hnm ih x0 x1 x2 x3 x4 h H locs ls hl S hf
def fX4_bears (a0 : Nat) (a1 : Nat) (h : Hp) : Option (Int32 × Hp) := gd 4 a0 h (ob (fX2_latestNote a1 h) fun v1 => lp (fun _ _ _ _ _ _ => none) (fX4_bears_10) FU a0 a1 1 v1 0 h)
theorem tkX4_bears {a0 : Nat} {a1 : Nat} {h : Hp} {r9 : Int32 × Hp} (e : fX4_bears a0 a1 h = some r9) : hK h a0 = 4 := by
  unfold fX4_bears at e
  exact (gd_some e).1
theorem cX4_bears_m (l : Launch) {E : EE} {A : Nat → Prop} {a0 : Nat} {a1 : Nat} {h : Hp} {r9 : Int32} {h9 : Hp} (hf : fX4_bears a0 a1 h = some (r9, h9)) : Met l yX4_bears (wsM yX4_bears cX4_bears 5 (some .boolean)) (rmm 13 0 0) (PcE E A h [rv a0, rv a1]) (Qi E A h9 r9) 0 0 A := by
  refine met_of (by decide +kernel) (by simp [lg_sl, cat_rv, cat_wv, cat_sv, cat_i, cat_l, cat_a]) (fun p e s m args below meth c ls X hr hlk hnm S hl => ?_)
  have hl : lv_has ls 5 [(0, rv a0), (1, rv a1)] := by simpa [lv_args, cat_rv, cat_wv, cat_sv, cat_i, cat_l, cat_a] using hl
  generalize hH : s.heap = H at S ⊢
  generalize hlo : ([] : List Loc) = locs at S ⊢
  clear hH hlo
  unfold fX4_bears at hf
  obtain ⟨hth, hf⟩ := gd_some hf
  refine lv_iconst (v := 1) X.1 X.2.1 dX4_bears_0 (by decide) ?_
  refine lv_istore_n (i := 2) (lv' := [(2, .int 1), (0, rv a0), (1, rv a1)]) X.1 X.2.1 dX4_bears_1 rfl hl (by decide) (by simp [List.filter, cat_rv, cat_wv, cat_sv]) (fun ls hl => ?_)
  refine g_aload_n X (or_rv _) dX4_bears_2 rfl (lv_at hl 2 rfl) ?_
  obtain ⟨v1, hc, hf⟩ := ob_some hf
  refine g_ci S (runV (As := []) (rest := []) X S coX4_85 (by decide) (cX2_latestNote_m l hc) (tkX2_latestNote hc) rfl hl.1 (by decide) rfl ⟨Nat.zero_le _, Nat.zero_le _⟩ dX4_bears_3) (fun H locs S => ?_)
  refine lv_istore_n (i := 3) (lv' := [(3, .int v1), (2, .int 1), (0, rv a0), (1, rv a1)]) X.1 X.2.1 dX4_bears_6 rfl hl (by decide) rfl (fun ls hl => ?_)
  refine lv_iconst (v := 0) X.1 X.2.1 dX4_bears_7 (by decide) ?_
  refine lv_istore (lv' := [(4, .int 0), (3, .int v1), (2, .int 1), (0, rv a0), (1, rv a1)]) X.1 X.2.1 dX4_bears_8 hl (by decide) rfl (fun ls hl => ?_)
  exact wfX4_bears_10_l X hr hlk hnm FU _ _ _ _ _ _ _ _ _ (lv_sub hl [3, 4, 2, 1, 0] rfl) S hf
def fX4_blame_124 (k35 : Nat → Nat → Int32 → Int32 → Int32 → Nat → Int32 → Int32 → Hp → Option (Int32 × Hp)) (x0 : Nat) (x1 : Nat) (x2 : Int32) (x3 : Int32) (x4 : Int32) (x5 : Nat) (x6 : Int32) (x7 : Int32) (y0 : Int32) (y1 : Int32) (y2 : Nat) (h : Hp) : Option (Int32 × Hp) := ob (qI y2 y1 y0 h) fun h => lt (x7 + 1) fun z1 => k35 x0 x1 x2 x3 x4 x5 x6 z1 h
theorem wfX4_blame_124 {k35 : Nat → Nat → Int32 → Int32 → Int32 → Nat → Int32 → Int32 → Hp → Option (Int32 × Hp)} {r9 : Int32} {h9 : Hp} (X : Cx p E A 14 R s m args c cX4_blame yX4_blame.cls 8) (hr : meth.sig.returnType = (some .int)) (hlk : meth.locks = false) (hnm : meth.name = yX4_blame.name) (hk35 : ∀ (x0 : Nat) (x1 : Nat) (x2 : Int32) (x3 : Int32) (x4 : Int32) (x5 : Nat) (x6 : Int32) (x7 : Int32) (h : Hp) (H : Heap) (locs : List Loc) (ls : Array Slot), lv_has ls 8 [(0, rv x0), (1, rv x1), (2, .int x2), (3, .int x3), (4, .int x4), (5, rv x5), (6, .int x6), (7, .int x7)] → St E A s h H locs → k35 x0 x1 x2 x3 x4 x5 x6 x7 h = some (r9, h9) → W p l e R s m args below meth c H locs 0 0 (MQ below (Qi E A h9 r9) args s 0 0 A) (F0 m 35 ls [])) :
    ∀ (x0 : Nat) (x1 : Nat) (x2 : Int32) (x3 : Int32) (x4 : Int32) (x5 : Nat) (x6 : Int32) (x7 : Int32) (y0 : Int32) (y1 : Int32) (y2 : Nat) (h : Hp) (H : Heap) (locs : List Loc) (ls : Array Slot), lv_has ls 8 [(0, rv x0), (1, rv x1), (2, .int x2), (3, .int x3), (4, .int x4), (5, rv x5), (6, .int x6), (7, .int x7)] → St E A s h H locs → fX4_blame_124 k35 x0 x1 x2 x3 x4 x5 x6 x7 y0 y1 y2 h = some (r9, h9) → W p l e R s m args below meth c H locs 0 0 (MQ below (Qi E A h9 r9) args s 0 0 A) (F0 m 124 ls [.int y0, .int y1, rv y2]) := by
  intro x0 x1 x2 x3 x4 x5 x6 x7 y0 y1 y2 h H locs ls hl S hf
  unfold fX4_blame_124 at hf
  refine g_qI X S dX4_blame_124 hf (fun h H locs hm hf S => ?_)
  obtain ⟨z1, ez1, hf⟩ := lt_some hf
  refine lv_iinc (v := z1) (lv' := [(7, .int z1), (0, rv x0), (1, rv x1), (2, .int x2), (3, .int x3), (4, .int x4), (5, rv x5), (6, .int x6)]) X.1 X.2.1 dX4_blame_125 hl (k := 7) rfl (by rw [← ez1]; rfl) (by decide) rfl (fun ls hl => ?_)
  refine lv_goto (tgt := 35) X.1 X.2.1 dX4_blame_128 (by decide) ?_
  exact hk35 _ _ _ _ _ _ _ _ _ _ _ _ (lv_sub hl [1, 2, 3, 4, 5, 6, 7, 0] rfl) S hf
def fX4_blame_35 (k22 : Nat → Nat → Int32 → Int32 → Int32 → Nat → Int32 → Hp → Option (Int32 × Hp)) (k35 : Nat → Nat → Int32 → Int32 → Int32 → Nat → Int32 → Int32 → Hp → Option (Int32 × Hp)) (x0 : Nat) (x1 : Nat) (x2 : Int32) (x3 : Int32) (x4 : Int32) (x5 : Nat) (x6 : Int32) (x7 : Int32) (h : Hp) : Option (Int32 × Hp) := if 16 ≤ x7 then lt (x6 + 1) fun z2 => k22 x0 x1 x2 x3 x4 x5 z2 h else ob (gR 4 x0 1 h) fun v3 => ob (fX10_become v3 x5 h) fun h => ob (gR 4 x0 1 h) fun v5 => ob (fX10_putHalf v5 x6 x7 h) fun h => ob (fX10_half x5 x6 h) fun v7 => if x7 = v7 then lt (x7 + 1) fun z9 => k35 x0 x1 x2 x3 x4 x5 x6 z9 h else ob2 (fX4_bears x0 x1 h) fun v10 h => if v10 = 0 then lt (x7 + 1) fun z12 => k35 x0 x1 x2 x3 x4 x5 x6 z12 h else ob (gR 4 x0 3 h) fun v13 => ob (aI v13 0 h) fun v14 => ob (qI v13 0 (v14 + 1) h) fun h => ob (gR 4 x0 3 h) fun v15 => ob (gR 4 x0 3 h) fun v16 => ob (aI v16 1 h) fun v17 => if v17 = (-1) then fX4_blame_124 k35 x0 x1 x2 x3 x4 x5 x6 x7 ((100 * x6) + x7) 1 v15 h else ob (gR 4 x0 3 h) fun v19 => ob (aI v19 1 h) fun v20 => fX4_blame_124 k35 x0 x1 x2 x3 x4 x5 x6 x7 v20 1 v15 h
theorem wfX4_blame_35 {k22 : Nat → Nat → Int32 → Int32 → Int32 → Nat → Int32 → Hp → Option (Int32 × Hp)} {k35 : Nat → Nat → Int32 → Int32 → Int32 → Nat → Int32 → Int32 → Hp → Option (Int32 × Hp)} {r9 : Int32} {h9 : Hp} (X : Cx p E A 14 R s m args c cX4_blame yX4_blame.cls 8) (hr : meth.sig.returnType = (some .int)) (hlk : meth.locks = false) (hnm : meth.name = yX4_blame.name) (hk22 : ∀ (x0 : Nat) (x1 : Nat) (x2 : Int32) (x3 : Int32) (x4 : Int32) (x5 : Nat) (x6 : Int32) (h : Hp) (H : Heap) (locs : List Loc) (ls : Array Slot), lv_has ls 8 [(0, rv x0), (1, rv x1), (2, .int x2), (3, .int x3), (4, .int x4), (5, rv x5), (6, .int x6)] → St E A s h H locs → k22 x0 x1 x2 x3 x4 x5 x6 h = some (r9, h9) → W p l e R s m args below meth c H locs 0 0 (MQ below (Qi E A h9 r9) args s 0 0 A) (F0 m 22 ls [])) (hk35 : ∀ (x0 : Nat) (x1 : Nat) (x2 : Int32) (x3 : Int32) (x4 : Int32) (x5 : Nat) (x6 : Int32) (x7 : Int32) (h : Hp) (H : Heap) (locs : List Loc) (ls : Array Slot), lv_has ls 8 [(0, rv x0), (1, rv x1), (2, .int x2), (3, .int x3), (4, .int x4), (5, rv x5), (6, .int x6), (7, .int x7)] → St E A s h H locs → k35 x0 x1 x2 x3 x4 x5 x6 x7 h = some (r9, h9) → W p l e R s m args below meth c H locs 0 0 (MQ below (Qi E A h9 r9) args s 0 0 A) (F0 m 35 ls [])) :
    ∀ (x0 : Nat) (x1 : Nat) (x2 : Int32) (x3 : Int32) (x4 : Int32) (x5 : Nat) (x6 : Int32) (x7 : Int32) (h : Hp) (H : Heap) (locs : List Loc) (ls : Array Slot), lv_has ls 8 [(0, rv x0), (1, rv x1), (2, .int x2), (3, .int x3), (4, .int x4), (5, rv x5), (6, .int x6), (7, .int x7)] → St E A s h H locs → fX4_blame_35 k22 k35 x0 x1 x2 x3 x4 x5 x6 x7 h = some (r9, h9) → W p l e R s m args below meth c H locs 0 0 (MQ below (Qi E A h9 r9) args s 0 0 A) (F0 m 35 ls []) := by
  intro x0 x1 x2 x3 x4 x5 x6 x7 h H locs ls hl S hf
  unfold fX4_blame_35 at hf
  refine lv_iload X.1 X.2.1 dX4_blame_35 (lv_at hl 7 rfl) ?_
  refine lv_bipush (v := 16) X.1 X.2.1 dX4_blame_37 (by decide) ?_
  refine lv_icmp_ge (tgt := 131) X.1 X.2.1 dX4_blame_39 (by decide) (fun c1 => ?_) (fun c1 => ?_)
  · replace hf := (if_pos c1).symm.trans hf
    obtain ⟨z2, ez2, hf⟩ := lt_some hf
    refine lv_iinc (v := z2) (lv' := [(6, .int z2), (0, rv x0), (1, rv x1), (2, .int x2), (3, .int x3), (4, .int x4), (5, rv x5), (7, .int x7)]) X.1 X.2.1 dX4_blame_131 hl (k := 6) rfl (by rw [← ez2]; rfl) (by decide) (by simp [List.filter, cat_rv, cat_wv, cat_sv]) (fun ls hl => ?_)
    refine lv_goto (tgt := 22) X.1 X.2.1 dX4_blame_134 (by decide) ?_
    exact hk22 _ _ _ _ _ _ _ _ _ _ _ (lv_sub hl [1, 2, 3, 4, 5, 6, 0] rfl) S hf
  · replace hf := (if_neg c1).symm.trans hf
    refine g_aload_n X (or_rv _) dX4_blame_42 rfl (lv_at hl 0 rfl) ?_
    refine g_gR X S foX4_21 dX4_blame_43 hf (fun v3 hf => ?_)
    refine g_aload X (or_rv _) dX4_blame_46 (lv_at hl 5 rfl) ?_
    obtain ⟨h, hc, hf⟩ := ob_some hf
    refine g_cv S (runV (As := [rv x5]) (rest := []) X S coX4_32 (by decide) (cX10_become_m l hc) (tkX10_become hc) rfl hl.1 (by decide) rfl ⟨Nat.zero_le _, Nat.zero_le _⟩ dX4_blame_48) (fun H locs S => ?_)
    refine g_aload_n X (or_rv _) dX4_blame_51 rfl (lv_at hl 0 rfl) ?_
    refine g_gR X S foX4_21 dX4_blame_52 hf (fun v5 hf => ?_)
    refine lv_iload X.1 X.2.1 dX4_blame_55 (lv_at hl 6 rfl) ?_
    refine lv_iload X.1 X.2.1 dX4_blame_57 (lv_at hl 7 rfl) ?_
    obtain ⟨h, hc, hf⟩ := ob_some hf
    refine g_cv S (runV (As := [.int x6, .int x7]) (rest := []) X S coX4_62 (by decide) (cX10_putHalf_m l hc) (tkX10_putHalf hc) rfl hl.1 (by decide) rfl ⟨Nat.zero_le _, Nat.zero_le _⟩ dX4_blame_59) (fun H locs S => ?_)
    refine lv_iload X.1 X.2.1 dX4_blame_62 (lv_at hl 7 rfl) ?_
    refine g_aload X (or_rv _) dX4_blame_64 (lv_at hl 5 rfl) ?_
    refine lv_iload X.1 X.2.1 dX4_blame_66 (lv_at hl 6 rfl) ?_
    obtain ⟨v7, hc, hf⟩ := ob_some hf
    refine g_ci S (runV (As := [.int x6]) (rest := [.int x7]) X S coX4_59 (by decide) (cX10_half_m l hc) (tkX10_half hc) rfl hl.1 (by simp [cat_rv, cat_wv, cat_sv, cat_i, cat_l, cat_a]) rfl ⟨Nat.zero_le _, Nat.zero_le _⟩ dX4_blame_68) (fun H locs S => ?_)
    refine lv_icmp_eq (tgt := 125) X.1 X.2.1 dX4_blame_71 (by decide) (fun c8 => ?_) (fun c8 => ?_)
    · replace hf := (if_pos c8).symm.trans hf
      obtain ⟨z9, ez9, hf⟩ := lt_some hf
      refine lv_iinc (v := z9) (lv' := [(7, .int z9), (0, rv x0), (1, rv x1), (2, .int x2), (3, .int x3), (4, .int x4), (5, rv x5), (6, .int x6)]) X.1 X.2.1 dX4_blame_125 hl (k := 7) rfl (by rw [← ez9]; rfl) (by decide) rfl (fun ls hl => ?_)
      refine lv_goto (tgt := 35) X.1 X.2.1 dX4_blame_128 (by decide) ?_
      exact hk35 _ _ _ _ _ _ _ _ _ _ _ _ (lv_sub hl [1, 2, 3, 4, 5, 6, 7, 0] rfl) S hf
    · replace hf := (if_neg c8).symm.trans hf
      refine g_aload_n X (or_rv _) dX4_blame_74 rfl (lv_at hl 0 rfl) ?_
      refine g_aload_n X (or_rv _) dX4_blame_75 rfl (lv_at hl 1 rfl) ?_
      obtain ⟨v10, h, hc, hf⟩ := ob2_some hf
      refine g_ci S (runV (As := [rv x1]) (rest := []) X S coX4_81 (by decide) (cX4_bears_m l hc) (tkX4_bears hc) rfl hl.1 (by decide) rfl ⟨Nat.zero_le _, Nat.zero_le _⟩ dX4_blame_76) (fun H locs S => ?_)
      refine lv_if_eq (tgt := 125) X.1 X.2.1 dX4_blame_79 (by decide) (fun c11 => ?_) (fun c11 => ?_)
      · replace hf := (if_pos c11).symm.trans hf
        obtain ⟨z12, ez12, hf⟩ := lt_some hf
        refine lv_iinc (v := z12) (lv' := [(7, .int z12), (0, rv x0), (1, rv x1), (2, .int x2), (3, .int x3), (4, .int x4), (5, rv x5), (6, .int x6)]) X.1 X.2.1 dX4_blame_125 hl (k := 7) rfl (by rw [← ez12]; rfl) (by decide) rfl (fun ls hl => ?_)
        refine lv_goto (tgt := 35) X.1 X.2.1 dX4_blame_128 (by decide) ?_
        exact hk35 _ _ _ _ _ _ _ _ _ _ _ _ (lv_sub hl [1, 2, 3, 4, 5, 6, 7, 0] rfl) S hf
      · replace hf := (if_neg c11).symm.trans hf
        refine g_aload_n X (or_rv _) dX4_blame_82 rfl (lv_at hl 0 rfl) ?_
        refine g_gR X S foX4_28 dX4_blame_83 hf (fun v13 hf => ?_)
        refine lv_iconst (v := 0) X.1 X.2.1 dX4_blame_86 (by decide) ?_
        refine lv_dup2_11 X.1 X.2.1 dX4_blame_87 rfl (cat_rv _) ?_
        refine g_aI X S dX4_blame_88 hf (fun v14 hf => ?_)
        refine lv_iconst (v := 1) X.1 X.2.1 dX4_blame_89 (by decide) ?_
        refine lv_iadd X.1 X.2.1 dX4_blame_90 ?_
        refine g_qI X S dX4_blame_91 hf (fun h H locs hm hf S => ?_)
        refine g_aload_n X (or_rv _) dX4_blame_92 rfl (lv_at hl 0 rfl) ?_
        refine g_gR X S foX4_28 dX4_blame_93 hf (fun v15 hf => ?_)
        refine lv_iconst (v := 1) X.1 X.2.1 dX4_blame_96 (by decide) ?_
        refine g_aload_n X (or_rv _) dX4_blame_97 rfl (lv_at hl 0 rfl) ?_
        refine g_gR X S foX4_28 dX4_blame_98 hf (fun v16 hf => ?_)
        refine lv_iconst (v := 1) X.1 X.2.1 dX4_blame_101 (by decide) ?_
        refine g_aI X S dX4_blame_102 hf (fun v17 hf => ?_)
        refine lv_iconst (v := (-1)) X.1 X.2.1 dX4_blame_103 (by decide) ?_
        refine lv_icmp_ne (tgt := 118) X.1 X.2.1 dX4_blame_104 (by decide) (fun c18 => ?_) (fun c18 => ?_)
        · replace hf := (if_neg c18).symm.trans hf
          refine g_aload_n X (or_rv _) dX4_blame_118 rfl (lv_at hl 0 rfl) ?_
          refine g_gR X S foX4_28 dX4_blame_119 hf (fun v19 hf => ?_)
          refine lv_iconst (v := 1) X.1 X.2.1 dX4_blame_122 (by decide) ?_
          refine g_aI X S dX4_blame_123 hf (fun v20 hf => ?_)
          exact wfX4_blame_124 X hr hlk hnm hk35 _ _ _ _ _ _ _ _ _ _ _ _ _ _ _ hl S hf
        · replace hf := (if_pos c18).symm.trans hf
          refine lv_bipush (v := 100) X.1 X.2.1 dX4_blame_107 (by decide) ?_
          refine lv_iload X.1 X.2.1 dX4_blame_109 (lv_at hl 6 rfl) ?_
          refine lv_imul X.1 X.2.1 dX4_blame_111 ?_
          refine lv_iload X.1 X.2.1 dX4_blame_112 (lv_at hl 7 rfl) ?_
          refine lv_iadd X.1 X.2.1 dX4_blame_114 ?_
          refine lv_goto (tgt := 124) X.1 X.2.1 dX4_blame_115 (by decide) ?_
          exact wfX4_blame_124 X hr hlk hnm hk35 _ _ _ _ _ _ _ _ _ _ _ _ _ _ _ hl S hf
theorem wfX4_blame_35_l {k22 : Nat → Nat → Int32 → Int32 → Int32 → Nat → Int32 → Hp → Option (Int32 × Hp)} {r9 : Int32} {h9 : Hp} (X : Cx p E A 14 R s m args c cX4_blame yX4_blame.cls 8) (hr : meth.sig.returnType = (some .int)) (hlk : meth.locks = false) (hnm : meth.name = yX4_blame.name) (hk22 : ∀ (x0 : Nat) (x1 : Nat) (x2 : Int32) (x3 : Int32) (x4 : Int32) (x5 : Nat) (x6 : Int32) (h : Hp) (H : Heap) (locs : List Loc) (ls : Array Slot), lv_has ls 8 [(0, rv x0), (1, rv x1), (2, .int x2), (3, .int x3), (4, .int x4), (5, rv x5), (6, .int x6)] → St E A s h H locs → k22 x0 x1 x2 x3 x4 x5 x6 h = some (r9, h9) → W p l e R s m args below meth c H locs 0 0 (MQ below (Qi E A h9 r9) args s 0 0 A) (F0 m 22 ls [])) :
    ∀ (n : Nat) (x0 : Nat) (x1 : Nat) (x2 : Int32) (x3 : Int32) (x4 : Int32) (x5 : Nat) (x6 : Int32) (x7 : Int32) (h : Hp) (H : Heap) (locs : List Loc) (ls : Array Slot), lv_has ls 8 [(0, rv x0), (1, rv x1), (2, .int x2), (3, .int x3), (4, .int x4), (5, rv x5), (6, .int x6), (7, .int x7)] → St E A s h H locs → lp (fun _ _ _ _ _ _ _ _ _ => none) (fX4_blame_35 k22) n x0 x1 x2 x3 x4 x5 x6 x7 h = some (r9, h9) → W p l e R s m args below meth c H locs 0 0 (MQ below (Qi E A h9 r9) args s 0 0 A) (F0 m 35 ls []) := by
  intro n
  induction n with
  | zero =>
    intro x0 x1 x2 x3 x4 x5 x6 x7 h H locs ls hl S hf
    exact nomatch hf
  | succ n ih =>
    intro x0 x1 x2 x3 x4 x5 x6 x7 h H locs ls hl S hf
    exact wfX4_blame_35 X hr hlk hnm hk22 ih x0 x1 x2 x3 x4 x5 x6 x7 h H locs ls hl S hf
def fX4_blame_164 (x0 : Nat) (x4 : Int32) (y0 : Int32) (y1 : Int32) (y2 : Nat) (h : Hp) : Option (Int32 × Hp) := ob (qI y2 y1 y0 h) fun h => ob (fX4_told x0 x4 h) fun v1 => some (v1, h)
theorem wfX4_blame_164 {r9 : Int32} {h9 : Hp} (X : Cx p E A 14 R s m args c cX4_blame yX4_blame.cls 8) (hr : meth.sig.returnType = (some .int)) (hlk : meth.locks = false) (hnm : meth.name = yX4_blame.name) :
    ∀ (x0 : Nat) (x4 : Int32) (y0 : Int32) (y1 : Int32) (y2 : Nat) (h : Hp) (H : Heap) (locs : List Loc) (ls : Array Slot), lv_has ls 8 [(0, rv x0), (4, .int x4)] → St E A s h H locs → fX4_blame_164 x0 x4 y0 y1 y2 h = some (r9, h9) → W p l e R s m args below meth c H locs 0 0 (MQ below (Qi E A h9 r9) args s 0 0 A) (F0 m 164 ls [.int y0, .int y1, rv y2]) := by
  intro x0 x4 y0 y1 y2 h H locs ls hl S hf
  unfold fX4_blame_164 at hf
  refine g_qI X S dX4_blame_164 hf (fun h H locs hm hf S => ?_)
  refine g_aload_n X (or_rv _) dX4_blame_165 rfl (lv_at hl 0 rfl) ?_
  refine lv_iload X.1 X.2.1 dX4_blame_166 (lv_at hl 1 rfl) ?_
  obtain ⟨v1, hc, hf⟩ := ob_some hf
  refine g_ci S (runV (As := [.int x4]) (rest := []) X S coX4_74 (by decide) (cX4_told_m l hc) (tkX4_told hc) rfl hl.1 (by decide) rfl ⟨Nat.zero_le _, Nat.zero_le _⟩ dX4_blame_168) (fun H locs S => ?_)
  cases hf; exact g_ri X S hr hlk dX4_blame_171
def fX4_blame_22 (k22 : Nat → Nat → Int32 → Int32 → Int32 → Nat → Int32 → Hp → Option (Int32 × Hp)) (x0 : Nat) (x1 : Nat) (x2 : Int32) (x3 : Int32) (x4 : Int32) (x5 : Nat) (x6 : Int32) (h : Hp) : Option (Int32 × Hp) := if (2 * (x2 + x3)) ≤ x6 then ob (gR 4 x0 1 h) fun v2 => ob (fX10_become v2 x5 h) fun h => ob (gR 4 x0 3 h) fun v4 => ob2 (fX4_bears x0 x1 h) fun v5 h => if v5 = 0 then fX4_blame_164 x0 x4 0 2 v4 h else fX4_blame_164 x0 x4 1 2 v4 h else lp (fun _ _ _ _ _ _ _ _ _ => none) (fX4_blame_35 k22) FU x0 x1 x2 x3 x4 x5 x6 0 h
theorem wfX4_blame_22 {k22 : Nat → Nat → Int32 → Int32 → Int32 → Nat → Int32 → Hp → Option (Int32 × Hp)} {r9 : Int32} {h9 : Hp} (X : Cx p E A 14 R s m args c cX4_blame yX4_blame.cls 8) (hr : meth.sig.returnType = (some .int)) (hlk : meth.locks = false) (hnm : meth.name = yX4_blame.name) (hk22 : ∀ (x0 : Nat) (x1 : Nat) (x2 : Int32) (x3 : Int32) (x4 : Int32) (x5 : Nat) (x6 : Int32) (h : Hp) (H : Heap) (locs : List Loc) (ls : Array Slot), lv_has ls 8 [(0, rv x0), (1, rv x1), (2, .int x2), (3, .int x3), (4, .int x4), (5, rv x5), (6, .int x6)] → St E A s h H locs → k22 x0 x1 x2 x3 x4 x5 x6 h = some (r9, h9) → W p l e R s m args below meth c H locs 0 0 (MQ below (Qi E A h9 r9) args s 0 0 A) (F0 m 22 ls [])) :
    ∀ (x0 : Nat) (x1 : Nat) (x2 : Int32) (x3 : Int32) (x4 : Int32) (x5 : Nat) (x6 : Int32) (h : Hp) (H : Heap) (locs : List Loc) (ls : Array Slot), lv_has ls 8 [(0, rv x0), (1, rv x1), (2, .int x2), (3, .int x3), (4, .int x4), (5, rv x5), (6, .int x6)] → St E A s h H locs → fX4_blame_22 k22 x0 x1 x2 x3 x4 x5 x6 h = some (r9, h9) → W p l e R s m args below meth c H locs 0 0 (MQ below (Qi E A h9 r9) args s 0 0 A) (F0 m 22 ls []) := by
  intro x0 x1 x2 x3 x4 x5 x6 h H locs ls hl S hf
  unfold fX4_blame_22 at hf
  refine lv_iload X.1 X.2.1 dX4_blame_22 (lv_at hl 6 rfl) ?_
  refine lv_iconst (v := 2) X.1 X.2.1 dX4_blame_24 (by decide) ?_
  refine lv_iload_n X.1 X.2.1 dX4_blame_25 rfl (lv_at hl 2 rfl) ?_
  refine lv_iload_n X.1 X.2.1 dX4_blame_26 rfl (lv_at hl 3 rfl) ?_
  refine lv_iadd X.1 X.2.1 dX4_blame_27 ?_
  refine lv_imul X.1 X.2.1 dX4_blame_28 ?_
  refine lv_icmp_ge (tgt := 137) X.1 X.2.1 dX4_blame_29 (by decide) (fun c1 => ?_) (fun c1 => ?_)
  · replace hf := (if_pos c1).symm.trans hf
    refine g_aload_n X (or_rv _) dX4_blame_137 rfl (lv_at hl 0 rfl) ?_
    refine g_gR X S foX4_21 dX4_blame_138 hf (fun v2 hf => ?_)
    refine g_aload X (or_rv _) dX4_blame_141 (lv_at hl 5 rfl) ?_
    obtain ⟨h, hc, hf⟩ := ob_some hf
    refine g_cv S (runV (As := [rv x5]) (rest := []) X S coX4_32 (by decide) (cX10_become_m l hc) (tkX10_become hc) rfl hl.1 (by decide) rfl ⟨Nat.zero_le _, Nat.zero_le _⟩ dX4_blame_143) (fun H locs S => ?_)
    refine g_aload_n X (or_rv _) dX4_blame_146 rfl (lv_at hl 0 rfl) ?_
    refine g_gR X S foX4_28 dX4_blame_147 hf (fun v4 hf => ?_)
    refine lv_iconst (v := 2) X.1 X.2.1 dX4_blame_150 (by decide) ?_
    refine g_aload_n X (or_rv _) dX4_blame_151 rfl (lv_at hl 0 rfl) ?_
    refine g_aload_n X (or_rv _) dX4_blame_152 rfl (lv_at hl 1 rfl) ?_
    obtain ⟨v5, h, hc, hf⟩ := ob2_some hf
    refine g_ci S (runV (As := [rv x1]) (rest := [.int 2, rv v4]) X S coX4_81 (by decide) (cX4_bears_m l hc) (tkX4_bears hc) rfl hl.1 (by simp [cat_rv, cat_wv, cat_sv, cat_i, cat_l, cat_a]) rfl ⟨Nat.zero_le _, Nat.zero_le _⟩ dX4_blame_153) (fun H locs S => ?_)
    refine lv_if_eq (tgt := 163) X.1 X.2.1 dX4_blame_156 (by decide) (fun c6 => ?_) (fun c6 => ?_)
    · replace hf := (if_pos c6).symm.trans hf
      refine lv_iconst (v := 0) X.1 X.2.1 dX4_blame_163 (by decide) ?_
      exact wfX4_blame_164 X hr hlk hnm _ _ _ _ _ _ _ _ _ (lv_sub hl [0, 4] rfl) S hf
    · replace hf := (if_neg c6).symm.trans hf
      refine lv_iconst (v := 1) X.1 X.2.1 dX4_blame_159 (by decide) ?_
      refine lv_goto (tgt := 164) X.1 X.2.1 dX4_blame_160 (by decide) ?_
      exact wfX4_blame_164 X hr hlk hnm _ _ _ _ _ _ _ _ _ (lv_sub hl [0, 4] rfl) S hf
  · replace hf := (if_neg c1).symm.trans hf
    refine lv_iconst (v := 0) X.1 X.2.1 dX4_blame_32 (by decide) ?_
    refine lv_istore (lv' := [(7, .int 0), (0, rv x0), (1, rv x1), (2, .int x2), (3, .int x3), (4, .int x4), (5, rv x5), (6, .int x6)]) X.1 X.2.1 dX4_blame_33 hl (by decide) rfl (fun ls hl => ?_)
    exact wfX4_blame_35_l X hr hlk hnm hk22 FU _ _ _ _ _ _ _ _ _ _ _ _ (lv_sub hl [1, 2, 3, 4, 5, 6, 7, 0] rfl) S hf
theorem wfX4_blame_22_l {r9 : Int32} {h9 : Hp} (X : Cx p E A 14 R s m args c cX4_blame yX4_blame.cls 8) (hr : meth.sig.returnType = (some .int)) (hlk : meth.locks = false) (hnm : meth.name = yX4_blame.name) :
    ∀ (n : Nat) (x0 : Nat) (x1 : Nat) (x2 : Int32) (x3 : Int32) (x4 : Int32) (x5 : Nat) (x6 : Int32) (h : Hp) (H : Heap) (locs : List Loc) (ls : Array Slot), lv_has ls 8 [(0, rv x0), (1, rv x1), (2, .int x2), (3, .int x3), (4, .int x4), (5, rv x5), (6, .int x6)] → St E A s h H locs → lp (fun _ _ _ _ _ _ _ _ => none) (fX4_blame_22) n x0 x1 x2 x3 x4 x5 x6 h = some (r9, h9) → W p l e R s m args below meth c H locs 0 0 (MQ below (Qi E A h9 r9) args s 0 0 A) (F0 m 22 ls []) := by
  intro n
  induction n with
  | zero =>
    intro x0 x1 x2 x3 x4 x5 x6 h H locs ls hl S hf
    exact nomatch hf
  | succ n ih =>
    intro x0 x1 x2 x3 x4 x5 x6 h H locs ls hl S hf
    exact wfX4_blame_22 X hr hlk hnm ih x0 x1 x2 x3 x4 x5 x6 h H locs ls hl S hf
def fX4_blame (a0 : Nat) (a1 : Nat) (a2 : Int32) (a3 : Int32) (a4 : Int32) (h : Hp) : Option (Int32 × Hp) := gd 4 a0 h (ob (fX4_clearTold a0 h) fun h => ob (gR 4 a0 3 h) fun v2 => ob (qI v2 1 (-1) h) fun h => ob (gR 2 a1 0 h) fun v3 => lt (2 * a2) fun z4 => lp (fun _ _ _ _ _ _ _ _ => none) (fX4_blame_22) FU a0 a1 a2 a3 a4 v3 z4 h)
theorem tkX4_blame {a0 : Nat} {a1 : Nat} {a2 : Int32} {a3 : Int32} {a4 : Int32} {h : Hp} {r9 : Int32 × Hp} (e : fX4_blame a0 a1 a2 a3 a4 h = some r9) : hK h a0 = 4 := by
  unfold fX4_blame at e
  exact (gd_some e).1
theorem cX4_blame_m (l : Launch) {E : EE} {A : Nat → Prop} {a0 : Nat} {a1 : Nat} {a2 : Int32} {a3 : Int32} {a4 : Int32} {h : Hp} {r9 : Int32} {h9 : Hp} (hf : fX4_blame a0 a1 a2 a3 a4 h = some (r9, h9)) : Met l yX4_blame (wsM yX4_blame cX4_blame 8 (some .int)) (rmm 14 0 0) (PcE E A h [rv a0, rv a1, .int a2, .int a3, .int a4]) (Qi E A h9 r9) 0 0 A := by
  refine met_of (by decide +kernel) (by simp [lg_sl, cat_rv, cat_wv, cat_sv, cat_i, cat_l, cat_a]) (fun p e s m args below meth c ls X hr hlk hnm S hl => ?_)
  have hl : lv_has ls 8 [(0, rv a0), (1, rv a1), (2, .int a2), (3, .int a3), (4, .int a4)] := by simpa [lv_args, cat_rv, cat_wv, cat_sv, cat_i, cat_l, cat_a] using hl
  generalize hH : s.heap = H at S ⊢
  generalize hlo : ([] : List Loc) = locs at S ⊢
  clear hH hlo
  unfold fX4_blame at hf
  obtain ⟨hth, hf⟩ := gd_some hf
  refine g_aload_n X (or_rv _) dX4_blame_0 rfl (lv_at hl 0 rfl) ?_
  obtain ⟨h, hc, hf⟩ := ob_some hf
  refine g_cv S (runV (As := []) (rest := []) X S coX4_52 (by decide) (cX4_clearTold_m l hc) (tkX4_clearTold hc) rfl hl.1 (by decide) rfl ⟨Nat.zero_le _, Nat.zero_le _⟩ dX4_blame_1) (fun H locs S => ?_)
  refine g_aload_n X (or_rv _) dX4_blame_4 rfl (lv_at hl 0 rfl) ?_
  refine g_gR X S foX4_28 dX4_blame_5 hf (fun v2 hf => ?_)
  refine lv_iconst (v := 1) X.1 X.2.1 dX4_blame_8 (by decide) ?_
  refine lv_iconst (v := (-1)) X.1 X.2.1 dX4_blame_9 (by decide) ?_
  refine g_qI X S dX4_blame_10 hf (fun h H locs hm hf S => ?_)
  refine g_aload_n X (or_rv _) dX4_blame_11 rfl (lv_at hl 1 rfl) ?_
  refine g_gR X S foX4_76 dX4_blame_12 hf (fun v3 hf => ?_)
  refine g_astore (lv' := [(5, rv v3), (0, rv a0), (1, rv a1), (2, .int a2), (3, .int a3), (4, .int a4)]) X (or_rv _) dX4_blame_15 hl (by decide) rfl (fun ls hl => ?_)
  refine lv_iconst (v := 2) X.1 X.2.1 dX4_blame_17 (by decide) ?_
  refine lv_iload_n X.1 X.2.1 dX4_blame_18 rfl (lv_at hl 3 rfl) ?_
  refine lv_imul X.1 X.2.1 dX4_blame_19 ?_
  refine g_lti hf (fun z4 hf => ?_)
  refine lv_istore (lv' := [(6, .int z4), (5, rv v3), (0, rv a0), (1, rv a1), (2, .int a2), (3, .int a3), (4, .int a4)]) X.1 X.2.1 dX4_blame_20 hl (by decide) (by simp [List.filter, cat_rv, cat_wv, cat_sv]) (fun ls hl => ?_)
  exact wfX4_blame_22_l X hr hlk hnm FU _ _ _ _ _ _ _ _ _ _ _ (lv_sub hl [2, 3, 4, 5, 6, 1, 0] rfl) S hf
def fX12_blamed (a0 : Nat) (a1 : Int32) (a2 : Int32) (a3 : Int32) (h : Hp) : Option ((Nat ⊕ Int32) × Hp) := gd 10 a0 h (oe (fX12_needWhat a0 a3 2 h) (fun k => some (.inl k, h)) fun v1 => oe (fX12_needField a0 a1 a2 3 h) (fun k => some (.inl k, h)) fun v2 => ob (gR 10 a0 5 h) fun v3 => ob (gR 10 a0 10 h) fun v4 => ob2 (fX4_blame v3 v4 a1 a2 a3 h) fun v5 h => some (.inr v5, h))
theorem tkX12_blamed {a0 : Nat} {a1 : Int32} {a2 : Int32} {a3 : Int32} {h : Hp} {r9 : (Nat ⊕ Int32) × Hp} (e : fX12_blamed a0 a1 a2 a3 h = some r9) : hK h a0 = 10 := by
  unfold fX12_blamed at e
  exact (gd_some e).1
theorem cX12_blamed_m (l : Launch) {E : EE} {A : Nat → Prop} {a0 : Nat} {a1 : Int32} {a2 : Int32} {a3 : Int32} {h : Hp} {r9 : Int32} {h9 : Hp} (hf : fX12_blamed a0 a1 a2 a3 h = some (.inr r9, h9)) : Met l yX12_blamed (wsM yX12_blamed cX12_blamed 4 (some .int)) (rmm 15 0 0) (PcE E A h [rv a0, .int a1, .int a2, .int a3]) (Qi E A h9 r9) 0 0 A := by
  refine met_of (by decide +kernel) (by simp [lg_sl, cat_rv, cat_wv, cat_sv, cat_i, cat_l, cat_a]) (fun p e s m args below meth c ls X hr hlk hnm S hl => ?_)
  have hl : lv_has ls 4 [(0, rv a0), (1, .int a1), (2, .int a2), (3, .int a3)] := by simpa [lv_args, cat_rv, cat_wv, cat_sv, cat_i, cat_l, cat_a] using hl
  generalize hH : s.heap = H at S ⊢
  generalize hlo : ([] : List Loc) = locs at S ⊢
  clear hH hlo
  unfold fX12_blamed at hf
  obtain ⟨hth, hf⟩ := gd_some hf
  refine g_aload_n X (or_rv _) dX12_blamed_0 rfl (lv_at hl 0 rfl) ?_
  refine lv_iload_n X.1 X.2.1 dX12_blamed_1 rfl (lv_at hl 3 rfl) ?_
  refine lv_iconst (v := 2) X.1 X.2.1 dX12_blamed_2 (by decide) ?_
  rcases oe_some hf with ⟨k, hc, hf⟩ | ⟨v1, hc, hf⟩
  · cases hf
  refine g_cv S (runV (As := [.int a3, .int 2]) (rest := []) X S coX12_257 (by decide) (cX12_needWhat_m l hc) (tkX12_needWhat hc) rfl hl.1 (by decide) rfl ⟨Nat.zero_le _, Nat.zero_le _⟩ dX12_blamed_3) (fun H locs S => ?_)
  refine g_aload_n X (or_rv _) dX12_blamed_6 rfl (lv_at hl 0 rfl) ?_
  refine lv_iload_n X.1 X.2.1 dX12_blamed_7 rfl (lv_at hl 1 rfl) ?_
  refine lv_iload_n X.1 X.2.1 dX12_blamed_8 rfl (lv_at hl 2 rfl) ?_
  refine lv_iconst (v := 3) X.1 X.2.1 dX12_blamed_9 (by decide) ?_
  rcases oe_some hf with ⟨k, hc, hf⟩ | ⟨v2, hc, hf⟩
  · cases hf
  refine g_cv S (runV (As := [.int a1, .int a2, .int 3]) (rest := []) X S coX12_161 (by decide) (cX12_needField_m l hc) (tkX12_needField hc) rfl hl.1 (by decide) rfl ⟨Nat.zero_le _, Nat.zero_le _⟩ dX12_blamed_10) (fun H locs S => ?_)
  refine g_aload_n X (or_rv _) dX12_blamed_13 rfl (lv_at hl 0 rfl) ?_
  refine g_gR X S foX12_34 dX12_blamed_14 hf (fun v3 hf => ?_)
  refine g_aload_n X (or_rv _) dX12_blamed_17 rfl (lv_at hl 0 rfl) ?_
  refine g_gR X S foX12_61 dX12_blamed_18 hf (fun v4 hf => ?_)
  refine lv_iload_n X.1 X.2.1 dX12_blamed_21 rfl (lv_at hl 1 rfl) ?_
  refine lv_iload_n X.1 X.2.1 dX12_blamed_22 rfl (lv_at hl 2 rfl) ?_
  refine lv_iload_n X.1 X.2.1 dX12_blamed_23 rfl (lv_at hl 3 rfl) ?_
  obtain ⟨v5, h, hc, hf⟩ := ob2_some hf
  refine g_ci S (runV (As := [rv v4, .int a1, .int a2, .int a3]) (rest := []) X S coX12_282 (by decide) (cX4_blame_m l hc) (tkX4_blame hc) rfl hl.1 (by decide) rfl ⟨Nat.zero_le _, Nat.zero_le _⟩ dX12_blamed_24) (fun H locs S => ?_)
  cases hf; exact g_ri X S hr hlk dX12_blamed_27
theorem cX12_blamed_x (l : Launch) (hlt : l.stackTraces = false) {E : EE} {A : Nat → Prop} {a0 : Nat} {a1 : Int32} {a2 : Int32} {a3 : Int32} {h : Hp} {k9 : Nat} {h9 : Hp} (hf : fX12_blamed a0 a1 a2 a3 h = some (.inl k9, h9)) : vx_Met l yX12_blamed (wsM yX12_blamed cX12_blamed 4 (some .int)) (rmm 15 1 6) (PcE E A h [rv a0, .int a1, .int a2, .int a3]) noQ (XX E A h9 k9) 1 6 A := by
  refine met_ofX (by decide +kernel) (by simp [lg_sl, cat_rv, cat_wv, cat_sv, cat_i, cat_l, cat_a]) (fun p e s m args below meth c ls X hr hlk hnm hne S hl => ?_)
  have hR1 : 0 + 1 ≤ (rmm 15 1 6).cells ∧ 0 + 6 ≤ (rmm 15 1 6).slots := ⟨Nat.le_refl _, Nat.le_refl _⟩
  have hl : lv_has ls 4 [(0, rv a0), (1, .int a1), (2, .int a2), (3, .int a3)] := by simpa [lv_args, cat_rv, cat_wv, cat_sv, cat_i, cat_l, cat_a] using hl
  generalize hH : s.heap = H at S ⊢
  generalize hlo : ([] : List Loc) = locs at S ⊢
  clear hH hlo
  unfold fX12_blamed at hf
  obtain ⟨hth, hf⟩ := gd_some hf
  refine g_aload_n X (or_rv _) dX12_blamed_0 rfl (lv_at hl 0 rfl) ?_
  refine lv_iload_n X.1 X.2.1 dX12_blamed_1 rfl (lv_at hl 3 rfl) ?_
  refine lv_iconst (v := 2) X.1 X.2.1 dX12_blamed_2 (by decide) ?_
  rcases oe_some hf with ⟨k, hc, hf⟩ | ⟨v1, hc, hf⟩
  · cases hf
    exact g_pass S hne hlk (runVX (As := [.int a3, .int 2]) (rest := []) X S coX12_257 (by decide) (cX12_needWhat_x l hlt hc) (tkX12_needWhat hc) rfl hl.1 (by decide) rfl hR1 dX12_blamed_3)
  refine g_cv S (runV (As := [.int a3, .int 2]) (rest := []) X S coX12_257 (by decide) (cX12_needWhat_m l hc) (tkX12_needWhat hc) rfl hl.1 (by decide) rfl ⟨Nat.zero_le _, Nat.zero_le _⟩ dX12_blamed_3) (fun H locs S => ?_)
  refine g_aload_n X (or_rv _) dX12_blamed_6 rfl (lv_at hl 0 rfl) ?_
  refine lv_iload_n X.1 X.2.1 dX12_blamed_7 rfl (lv_at hl 1 rfl) ?_
  refine lv_iload_n X.1 X.2.1 dX12_blamed_8 rfl (lv_at hl 2 rfl) ?_
  refine lv_iconst (v := 3) X.1 X.2.1 dX12_blamed_9 (by decide) ?_
  rcases oe_some hf with ⟨k, hc, hf⟩ | ⟨v2, hc, hf⟩
  · cases hf
    exact g_pass S hne hlk (runVX (As := [.int a1, .int a2, .int 3]) (rest := []) X S coX12_161 (by decide) (cX12_needField_x l hlt hc) (tkX12_needField hc) rfl hl.1 (by decide) rfl hR1 dX12_blamed_10)
  refine g_cv S (runV (As := [.int a1, .int a2, .int 3]) (rest := []) X S coX12_161 (by decide) (cX12_needField_m l hc) (tkX12_needField hc) rfl hl.1 (by decide) rfl ⟨Nat.zero_le _, Nat.zero_le _⟩ dX12_blamed_10) (fun H locs S => ?_)
  refine g_aload_n X (or_rv _) dX12_blamed_13 rfl (lv_at hl 0 rfl) ?_
  refine g_gR X S foX12_34 dX12_blamed_14 hf (fun v3 hf => ?_)
  refine g_aload_n X (or_rv _) dX12_blamed_17 rfl (lv_at hl 0 rfl) ?_
  refine g_gR X S foX12_61 dX12_blamed_18 hf (fun v4 hf => ?_)
  refine lv_iload_n X.1 X.2.1 dX12_blamed_21 rfl (lv_at hl 1 rfl) ?_
  refine lv_iload_n X.1 X.2.1 dX12_blamed_22 rfl (lv_at hl 2 rfl) ?_
  refine lv_iload_n X.1 X.2.1 dX12_blamed_23 rfl (lv_at hl 3 rfl) ?_
  obtain ⟨v5, h, hc, hf⟩ := ob2_some hf
  refine g_ci S (runV (As := [rv v4, .int a1, .int a2, .int a3]) (rest := []) X S coX12_282 (by decide) (cX4_blame_m l hc) (tkX4_blame hc) rfl hl.1 (by decide) rfl ⟨Nat.zero_le _, Nat.zero_le _⟩ dX12_blamed_24) (fun H locs S => ?_)
  cases hf
def fX2_wipe (a0 : Nat) (h : Hp) : Option (Hp) := gd 2 a0 h (ob (pI 2 a0 5 0 h) fun h => some h)
theorem tkX2_wipe {a0 : Nat} {h : Hp} {r9 : Hp} (e : fX2_wipe a0 h = some r9) : hK h a0 = 2 := by
  unfold fX2_wipe at e
  exact (gd_some e).1
theorem cX2_wipe_m (l : Launch) {E : EE} {A : Nat → Prop} {a0 : Nat} {h : Hp} {h9 : Hp} (hf : fX2_wipe a0 h = some h9) : Met l yX2_wipe (wsM yX2_wipe cX2_wipe 1 none) (rmm 8 0 0) (PcE E A h [rv a0]) (Qv E A h9) 0 0 A := by
  refine met_of (by decide +kernel) (by simp [lg_sl, cat_rv, cat_wv, cat_sv, cat_i, cat_l, cat_a]) (fun p e s m args below meth c ls X hr hlk hnm S hl => ?_)
  have hl : lv_has ls 1 [(0, rv a0)] := by simpa [lv_args, cat_rv, cat_wv, cat_sv, cat_i, cat_l, cat_a] using hl
  generalize hH : s.heap = H at S ⊢
  generalize hlo : ([] : List Loc) = locs at S ⊢
  clear hH hlo
  unfold fX2_wipe at hf
  obtain ⟨hth, hf⟩ := gd_some hf
  refine g_aload_n X (or_rv _) dX2_wipe_0 rfl (lv_at hl 0 rfl) ?_
  refine lv_iconst (v := 0) X.1 X.2.1 dX2_wipe_1 (by decide) ?_
  refine g_pI X S fpX2_33 (Or.inl rfl) dX2_wipe_2 hf (fun h H locs hm hf S => ?_)
  cases hf; exact g_rv X S hr hlk dX2_wipe_5
def fX12_forget (a0 : Nat) (h : Hp) : Option (Hp) := gd 10 a0 h (ob (gR 10 a0 10 h) fun v1 => ob (fX2_wipe v1 h) fun h => some h)
theorem tkX12_forget {a0 : Nat} {h : Hp} {r9 : Hp} (e : fX12_forget a0 h = some r9) : hK h a0 = 10 := by
  unfold fX12_forget at e
  exact (gd_some e).1
theorem cX12_forget_m (l : Launch) {E : EE} {A : Nat → Prop} {a0 : Nat} {h : Hp} {h9 : Hp} (hf : fX12_forget a0 h = some h9) : Met l yX12_forget (wsM yX12_forget cX12_forget 1 none) (rmm 9 0 0) (PcE E A h [rv a0]) (Qv E A h9) 0 0 A := by
  refine met_of (by decide +kernel) (by simp [lg_sl, cat_rv, cat_wv, cat_sv, cat_i, cat_l, cat_a]) (fun p e s m args below meth c ls X hr hlk hnm S hl => ?_)
  have hl : lv_has ls 1 [(0, rv a0)] := by simpa [lv_args, cat_rv, cat_wv, cat_sv, cat_i, cat_l, cat_a] using hl
  generalize hH : s.heap = H at S ⊢
  generalize hlo : ([] : List Loc) = locs at S ⊢
  clear hH hlo
  unfold fX12_forget at hf
  obtain ⟨hth, hf⟩ := gd_some hf
  refine g_aload_n X (or_rv _) dX12_forget_0 rfl (lv_at hl 0 rfl) ?_
  refine g_gR X S foX12_61 dX12_forget_1 hf (fun v1 hf => ?_)
  obtain ⟨h, hc, hf⟩ := ob_some hf
  refine g_cv S (runV (As := []) (rest := []) X S coX12_286 (by decide) (cX2_wipe_m l hc) (tkX2_wipe hc) rfl hl.1 (by decide) rfl ⟨Nat.zero_le _, Nat.zero_le _⟩ dX12_forget_4) (fun H locs S => ?_)
  cases hf; exact g_rv X S hr hlk dX12_forget_7
def fX4_draw (a0 : Nat) (a1 : Int32) (h : Hp) : Option (Int32 × Hp) := gd 4 a0 h (ob (gI 4 a0 4 h) fun v1 => ob (pI 4 a0 4 ((v1 * 1103515245) + 12345) h) fun h => if a1 ≤ 0 then some (0, h) else ob (gI 4 a0 4 h) fun v3 => nz (a1 = 0) (some ((irm ((ius v3 16) &&& (32767 : Int32)) a1), h)))
theorem tkX4_draw {a0 : Nat} {a1 : Int32} {h : Hp} {r9 : Int32 × Hp} (e : fX4_draw a0 a1 h = some r9) : hK h a0 = 4 := by
  unfold fX4_draw at e
  exact (gd_some e).1
theorem cX4_draw_m (l : Launch) {E : EE} {A : Nat → Prop} {a0 : Nat} {a1 : Int32} {h : Hp} {r9 : Int32} {h9 : Hp} (hf : fX4_draw a0 a1 h = some (r9, h9)) : Met l yX4_draw (wsM yX4_draw cX4_draw 2 (some .int)) (rmm 8 0 0) (PcE E A h [rv a0, .int a1]) (Qi E A h9 r9) 0 0 A := by
  refine met_of (by decide +kernel) (by simp [lg_sl, cat_rv, cat_wv, cat_sv, cat_i, cat_l, cat_a]) (fun p e s m args below meth c ls X hr hlk hnm S hl => ?_)
  have hl : lv_has ls 2 [(0, rv a0), (1, .int a1)] := by simpa [lv_args, cat_rv, cat_wv, cat_sv, cat_i, cat_l, cat_a] using hl
  generalize hH : s.heap = H at S ⊢
  generalize hlo : ([] : List Loc) = locs at S ⊢
  clear hH hlo
  unfold fX4_draw at hf
  obtain ⟨hth, hf⟩ := gd_some hf
  refine g_aload_n X (or_rv _) dX4_draw_0 rfl (lv_at hl 0 rfl) ?_
  refine g_aload_n X (or_rv _) dX4_draw_1 rfl (lv_at hl 0 rfl) ?_
  refine g_gI X S foX4_92 rfl dX4_draw_2 hf (fun v1 hf => ?_)
  refine lv_ldc X.1 X.2.1 X.2.2.2.1 (X.2.2.1 _ kuX4_111) dX4_draw_5 ?_
  refine lv_imul X.1 X.2.1 dX4_draw_7 ?_
  refine lv_sipush (v := 12345) X.1 X.2.1 dX4_draw_8 (by decide) ?_
  refine lv_iadd X.1 X.2.1 dX4_draw_11 ?_
  refine g_pI X S fpX4_92 (Or.inl rfl) dX4_draw_12 hf (fun h H locs hm hf S => ?_)
  refine lv_iload_n X.1 X.2.1 dX4_draw_15 rfl (lv_at hl 1 rfl) ?_
  refine lv_if_le (tgt := 35) X.1 X.2.1 dX4_draw_16 (by decide) (fun c2 => ?_) (fun c2 => ?_)
  · replace hf := (if_pos c2).symm.trans hf
    refine lv_iconst (v := 0) X.1 X.2.1 dX4_draw_35 (by decide) ?_
    cases hf; exact g_ri X S hr hlk dX4_draw_36
  · replace hf := (if_neg c2).symm.trans hf
    refine g_aload_n X (or_rv _) dX4_draw_19 rfl (lv_at hl 0 rfl) ?_
    refine g_gI X S foX4_92 rfl dX4_draw_20 hf (fun v3 hf => ?_)
    refine lv_bipush (v := 16) X.1 X.2.1 dX4_draw_23 (by decide) ?_
    refine lv_iushr (v := ius v3 16) X.1 X.2.1 dX4_draw_25 rfl ?_
    refine lv_sipush (v := 32767) X.1 X.2.1 dX4_draw_26 (by decide) ?_
    refine lv_iand X.1 X.2.1 dX4_draw_29 ?_
    refine lv_iload_n X.1 X.2.1 dX4_draw_30 rfl (lv_at hl 1 rfl) ?_
    obtain ⟨c4, hf⟩ := nz_some hf
    refine g_irem X c4 dX4_draw_31 ?_
    refine lv_goto (tgt := 36) X.1 X.2.1 dX4_draw_32 (by decide) ?_
    cases hf; exact g_ri X S hr hlk dX4_draw_36
def fX4_happen (a0 : Nat) (h : Hp) : Option (Hp) := gd 4 a0 h (ob2 (fX4_draw a0 3 h) fun v1 h => if v1 = 0 then ob2 (fX4_draw a0 256 h) fun v12 h => ob2 (fX4_draw a0 256 h) fun v13 h => ob (gR 4 a0 1 h) fun v14 => ob (fX10_put v14 v12 v13 h) fun h => some h else if v1 = 1 then ob (gR 4 a0 1 h) fun v4 => ob (fX10_running v4 h) fun v5 => if v5 = 0 then ob (gR 4 a0 0 h) fun v7 => ob (gR 4 a0 1 h) fun v8 => ob (fX9_restart v7 v8 h) fun h => ob (gR 4 a0 3 h) fun v10 => ob (aI v10 1 h) fun v11 => ob (qI v10 1 (v11 + 1) h) fun h => some h else some h else some h)
theorem tkX4_happen {a0 : Nat} {h : Hp} {r9 : Hp} (e : fX4_happen a0 h = some r9) : hK h a0 = 4 := by
  unfold fX4_happen at e
  exact (gd_some e).1
theorem cX4_happen_m (l : Launch) {E : EE} {A : Nat → Prop} {a0 : Nat} {h : Hp} {h9 : Hp} (hf : fX4_happen a0 h = some h9) : Met l yX4_happen (wsM yX4_happen cX4_happen 4 none) (rmm 12 0 0) (PcE E A h [rv a0]) (Qv E A h9) 0 0 A := by
  refine met_of (by decide +kernel) (by simp [lg_sl, cat_rv, cat_wv, cat_sv, cat_i, cat_l, cat_a]) (fun p e s m args below meth c ls X hr hlk hnm S hl => ?_)
  have hl : lv_has ls 4 [(0, rv a0)] := by simpa [lv_args, cat_rv, cat_wv, cat_sv, cat_i, cat_l, cat_a] using hl
  generalize hH : s.heap = H at S ⊢
  generalize hlo : ([] : List Loc) = locs at S ⊢
  clear hH hlo
  unfold fX4_happen at hf
  obtain ⟨hth, hf⟩ := gd_some hf
  refine g_aload_n X (or_rv _) dX4_happen_0 rfl (lv_at hl 0 rfl) ?_
  refine lv_iconst (v := 3) X.1 X.2.1 dX4_happen_1 (by decide) ?_
  obtain ⟨v1, h, hc, hf⟩ := ob2_some hf
  refine g_ci S (runV (As := [.int 3]) (rest := []) X S coX4_102 (by decide) (cX4_draw_m l hc) (tkX4_draw hc) rfl hl.1 (by decide) rfl ⟨Nat.zero_le _, Nat.zero_le _⟩ dX4_happen_2) (fun H locs S => ?_)
  refine lv_istore_n (i := 1) (lv' := [(1, .int v1), (0, rv a0)]) X.1 X.2.1 dX4_happen_5 rfl hl (by decide) (by simp [List.filter, cat_rv, cat_wv, cat_sv]) (fun ls hl => ?_)
  refine lv_iload_n X.1 X.2.1 dX4_happen_6 rfl (lv_at hl 0 rfl) ?_
  refine lv_if_ne (tgt := 38) X.1 X.2.1 dX4_happen_7 (by decide) (fun c2 => ?_) (fun c2 => ?_)
  · replace hf := (if_neg c2).symm.trans hf
    refine lv_iload_n X.1 X.2.1 dX4_happen_38 rfl (lv_at hl 0 rfl) ?_
    refine lv_iconst (v := 1) X.1 X.2.1 dX4_happen_39 (by decide) ?_
    refine lv_icmp_ne (tgt := 74) X.1 X.2.1 dX4_happen_40 (by decide) (fun c3 => ?_) (fun c3 => ?_)
    · replace hf := (if_neg c3).symm.trans hf
      cases hf; exact g_rv X S hr hlk dX4_happen_74
    · replace hf := (if_pos c3).symm.trans hf
      refine g_aload_n X (or_rv _) dX4_happen_43 rfl (lv_at hl 1 rfl) ?_
      refine g_gR X S foX4_21 dX4_happen_44 hf (fun v4 hf => ?_)
      obtain ⟨v5, hc, hf⟩ := ob_some hf
      refine g_ci S (runV (As := []) (rest := []) X S coX4_36 (by decide) (cX10_running_m l hc) (tkX10_running hc) rfl hl.1 (by decide) rfl ⟨Nat.zero_le _, Nat.zero_le _⟩ dX4_happen_47) (fun H locs S => ?_)
      refine lv_if_ne (tgt := 74) X.1 X.2.1 dX4_happen_50 (by decide) (fun c6 => ?_) (fun c6 => ?_)
      · replace hf := (if_neg c6).symm.trans hf
        cases hf; exact g_rv X S hr hlk dX4_happen_74
      · replace hf := (if_pos c6).symm.trans hf
        refine g_aload_n X (or_rv _) dX4_happen_53 rfl (lv_at hl 1 rfl) ?_
        refine g_gR X S foX4_12 dX4_happen_54 hf (fun v7 hf => ?_)
        refine g_aload_n X (or_rv _) dX4_happen_57 rfl (lv_at hl 1 rfl) ?_
        refine g_gR X S foX4_21 dX4_happen_58 hf (fun v8 hf => ?_)
        obtain ⟨h, hc, hf⟩ := ob_some hf
        refine g_cv S (runV (As := [rv v8]) (rest := []) X S coX4_108 (by decide) (cX9_restart_m l hc) (tkX9_restart hc) rfl hl.1 (by decide) rfl ⟨Nat.zero_le _, Nat.zero_le _⟩ dX4_happen_61) (fun H locs S => ?_)
        refine g_aload_n X (or_rv _) dX4_happen_64 rfl (lv_at hl 1 rfl) ?_
        refine g_gR X S foX4_28 dX4_happen_65 hf (fun v10 hf => ?_)
        refine lv_iconst (v := 1) X.1 X.2.1 dX4_happen_68 (by decide) ?_
        refine lv_dup2_11 X.1 X.2.1 dX4_happen_69 rfl (cat_rv _) ?_
        refine g_aI X S dX4_happen_70 hf (fun v11 hf => ?_)
        refine lv_iconst (v := 1) X.1 X.2.1 dX4_happen_71 (by decide) ?_
        refine lv_iadd X.1 X.2.1 dX4_happen_72 ?_
        refine g_qI X S dX4_happen_73 hf (fun h H locs hm hf S => ?_)
        cases hf; exact g_rv X S hr hlk dX4_happen_74
  · replace hf := (if_pos c2).symm.trans hf
    refine g_aload_n X (or_rv _) dX4_happen_10 rfl (lv_at hl 1 rfl) ?_
    refine lv_sipush (v := 256) X.1 X.2.1 dX4_happen_11 (by decide) ?_
    obtain ⟨v12, h, hc, hf⟩ := ob2_some hf
    refine g_ci S (runV (As := [.int 256]) (rest := []) X S coX4_102 (by decide) (cX4_draw_m l hc) (tkX4_draw hc) rfl hl.1 (by decide) rfl ⟨Nat.zero_le _, Nat.zero_le _⟩ dX4_happen_14) (fun H locs S => ?_)
    refine lv_istore_n (i := 2) (lv' := [(2, .int v12), (1, .int v1), (0, rv a0)]) X.1 X.2.1 dX4_happen_17 rfl hl (by decide) rfl (fun ls hl => ?_)
    refine g_aload_n X (or_rv _) dX4_happen_18 rfl (lv_at hl 2 rfl) ?_
    refine lv_sipush (v := 256) X.1 X.2.1 dX4_happen_19 (by decide) ?_
    obtain ⟨v13, h, hc, hf⟩ := ob2_some hf
    refine g_ci S (runV (As := [.int 256]) (rest := []) X S coX4_102 (by decide) (cX4_draw_m l hc) (tkX4_draw hc) rfl hl.1 (by decide) rfl ⟨Nat.zero_le _, Nat.zero_le _⟩ dX4_happen_22) (fun H locs S => ?_)
    refine lv_istore_n (i := 3) (lv' := [(3, .int v13), (2, .int v12), (1, .int v1), (0, rv a0)]) X.1 X.2.1 dX4_happen_25 rfl hl (by decide) rfl (fun ls hl => ?_)
    refine g_aload_n X (or_rv _) dX4_happen_26 rfl (lv_at hl 3 rfl) ?_
    refine g_gR X S foX4_21 dX4_happen_27 hf (fun v14 hf => ?_)
    refine lv_iload_n X.1 X.2.1 dX4_happen_30 rfl (lv_at hl 1 rfl) ?_
    refine lv_iload_n X.1 X.2.1 dX4_happen_31 rfl (lv_at hl 0 rfl) ?_
    obtain ⟨h, hc, hf⟩ := ob_some hf
    refine g_cv S (runV (As := [.int v12, .int v13]) (rest := []) X S coX4_105 (by decide) (cX10_put_m l hc) (tkX10_put hc) rfl hl.1 (by decide) rfl ⟨Nat.zero_le _, Nat.zero_le _⟩ dX4_happen_32) (fun H locs S => ?_)
    refine lv_goto (tgt := 74) X.1 X.2.1 dX4_happen_35 (by decide) ?_
    cases hf; exact g_rv X S hr hlk dX4_happen_74
def fX4_age_33 (k20 : Nat → Nat → Int32 → Int32 → Int32 → Hp → Option (Int32 × Hp)) (k33 : Nat → Nat → Int32 → Int32 → Int32 → Int32 → Hp → Option (Int32 × Hp)) (x0 : Nat) (x1 : Nat) (x3 : Int32) (x4 : Int32) (x5 : Int32) (x6 : Int32) (h : Hp) : Option (Int32 × Hp) := if 5 ≤ x6 then lt (x5 + 1) fun z2 => k20 x0 x1 x3 x4 z2 h else ob (gR 4 x0 1 h) fun v3 => ob (fX10_running v3 h) fun v4 => if v4 = 0 then lt (x5 + 1) fun z6 => k20 x0 x1 x3 x4 z6 h else ob (gR 4 x0 0 h) fun v7 => ob (gR 4 x0 1 h) fun v8 => ob2 (fX9_step v7 v8 h) fun v9 h => if v9 = 0 then lt (x6 + 1) fun z11 => k33 x0 x1 x3 x4 x5 z11 h else ob (gR 4 x0 3 h) fun v12 => ob (aI v12 0 h) fun v13 => ob (qI v12 0 (v13 + 1) h) fun h => lt (x6 + 1) fun z14 => k33 x0 x1 x3 x4 x5 z14 h
theorem wfX4_age_33 {k20 : Nat → Nat → Int32 → Int32 → Int32 → Hp → Option (Int32 × Hp)} {k33 : Nat → Nat → Int32 → Int32 → Int32 → Int32 → Hp → Option (Int32 × Hp)} {r9 : Int32} {h9 : Hp} (X : Cx p E A 13 R s m args c cX4_age yX4_age.cls 7) (hr : meth.sig.returnType = (some .int)) (hlk : meth.locks = false) (hnm : meth.name = yX4_age.name) (hk20 : ∀ (x0 : Nat) (x1 : Nat) (x3 : Int32) (x4 : Int32) (x5 : Int32) (h : Hp) (H : Heap) (locs : List Loc) (ls : Array Slot), lv_has ls 7 [(0, rv x0), (1, rv x1), (3, .int x3), (4, .int x4), (5, .int x5)] → St E A s h H locs → k20 x0 x1 x3 x4 x5 h = some (r9, h9) → W p l e R s m args below meth c H locs 0 0 (MQ below (Qi E A h9 r9) args s 0 0 A) (F0 m 20 ls [])) (hk33 : ∀ (x0 : Nat) (x1 : Nat) (x3 : Int32) (x4 : Int32) (x5 : Int32) (x6 : Int32) (h : Hp) (H : Heap) (locs : List Loc) (ls : Array Slot), lv_has ls 7 [(0, rv x0), (1, rv x1), (3, .int x3), (4, .int x4), (5, .int x5), (6, .int x6)] → St E A s h H locs → k33 x0 x1 x3 x4 x5 x6 h = some (r9, h9) → W p l e R s m args below meth c H locs 0 0 (MQ below (Qi E A h9 r9) args s 0 0 A) (F0 m 33 ls [])) :
    ∀ (x0 : Nat) (x1 : Nat) (x3 : Int32) (x4 : Int32) (x5 : Int32) (x6 : Int32) (h : Hp) (H : Heap) (locs : List Loc) (ls : Array Slot), lv_has ls 7 [(0, rv x0), (1, rv x1), (3, .int x3), (4, .int x4), (5, .int x5), (6, .int x6)] → St E A s h H locs → fX4_age_33 k20 k33 x0 x1 x3 x4 x5 x6 h = some (r9, h9) → W p l e R s m args below meth c H locs 0 0 (MQ below (Qi E A h9 r9) args s 0 0 A) (F0 m 33 ls []) := by
  intro x0 x1 x3 x4 x5 x6 h H locs ls hl S hf
  unfold fX4_age_33 at hf
  refine lv_iload X.1 X.2.1 dX4_age_33 (lv_at hl 5 rfl) ?_
  refine lv_iconst (v := 5) X.1 X.2.1 dX4_age_35 (by decide) ?_
  refine lv_icmp_ge (tgt := 79) X.1 X.2.1 dX4_age_36 (by decide) (fun c1 => ?_) (fun c1 => ?_)
  · replace hf := (if_pos c1).symm.trans hf
    obtain ⟨z2, ez2, hf⟩ := lt_some hf
    refine lv_iinc (v := z2) (lv' := [(5, .int z2), (0, rv x0), (1, rv x1), (3, .int x3), (4, .int x4), (6, .int x6)]) X.1 X.2.1 dX4_age_79 hl (k := 4) rfl (by rw [← ez2]; rfl) (by decide) rfl (fun ls hl => ?_)
    refine lv_goto (tgt := 20) X.1 X.2.1 dX4_age_82 (by decide) ?_
    exact hk20 _ _ _ _ _ _ _ _ _ (lv_sub hl [1, 2, 3, 4, 0] rfl) S hf
  · replace hf := (if_neg c1).symm.trans hf
    refine g_aload_n X (or_rv _) dX4_age_39 rfl (lv_at hl 0 rfl) ?_
    refine g_gR X S foX4_21 dX4_age_40 hf (fun v3 hf => ?_)
    obtain ⟨v4, hc, hf⟩ := ob_some hf
    refine g_ci S (runV (As := []) (rest := []) X S coX4_36 (by decide) (cX10_running_m l hc) (tkX10_running hc) rfl hl.1 (by decide) rfl ⟨Nat.zero_le _, Nat.zero_le _⟩ dX4_age_43) (fun H locs S => ?_)
    refine lv_if_eq (tgt := 79) X.1 X.2.1 dX4_age_46 (by decide) (fun c5 => ?_) (fun c5 => ?_)
    · replace hf := (if_pos c5).symm.trans hf
      obtain ⟨z6, ez6, hf⟩ := lt_some hf
      refine lv_iinc (v := z6) (lv' := [(5, .int z6), (0, rv x0), (1, rv x1), (3, .int x3), (4, .int x4), (6, .int x6)]) X.1 X.2.1 dX4_age_79 hl (k := 4) rfl (by rw [← ez6]; rfl) (by decide) rfl (fun ls hl => ?_)
      refine lv_goto (tgt := 20) X.1 X.2.1 dX4_age_82 (by decide) ?_
      exact hk20 _ _ _ _ _ _ _ _ _ (lv_sub hl [1, 2, 3, 4, 0] rfl) S hf
    · replace hf := (if_neg c5).symm.trans hf
      refine g_aload_n X (or_rv _) dX4_age_49 rfl (lv_at hl 0 rfl) ?_
      refine g_gR X S foX4_12 dX4_age_50 hf (fun v7 hf => ?_)
      refine g_aload_n X (or_rv _) dX4_age_53 rfl (lv_at hl 0 rfl) ?_
      refine g_gR X S foX4_21 dX4_age_54 hf (fun v8 hf => ?_)
      obtain ⟨v9, h, hc, hf⟩ := ob2_some hf
      refine g_ci S (runV (As := [rv v8]) (rest := []) X S coX4_40 (by decide) (cX9_step_m l hc) (tkX9_step hc) rfl hl.1 (by decide) rfl ⟨Nat.zero_le _, Nat.zero_le _⟩ dX4_age_57) (fun H locs S => ?_)
      refine lv_if_eq (tgt := 73) X.1 X.2.1 dX4_age_60 (by decide) (fun c10 => ?_) (fun c10 => ?_)
      · replace hf := (if_pos c10).symm.trans hf
        obtain ⟨z11, ez11, hf⟩ := lt_some hf
        refine lv_iinc (v := z11) (lv' := [(6, .int z11), (0, rv x0), (1, rv x1), (3, .int x3), (4, .int x4), (5, .int x5)]) X.1 X.2.1 dX4_age_73 hl (k := 5) rfl (by rw [← ez11]; rfl) (by decide) rfl (fun ls hl => ?_)
        refine lv_goto (tgt := 33) X.1 X.2.1 dX4_age_76 (by decide) ?_
        exact hk33 _ _ _ _ _ _ _ _ _ _ (lv_sub hl [1, 2, 3, 4, 5, 0] rfl) S hf
      · replace hf := (if_neg c10).symm.trans hf
        refine g_aload_n X (or_rv _) dX4_age_63 rfl (lv_at hl 0 rfl) ?_
        refine g_gR X S foX4_28 dX4_age_64 hf (fun v12 hf => ?_)
        refine lv_iconst (v := 0) X.1 X.2.1 dX4_age_67 (by decide) ?_
        refine lv_dup2_11 X.1 X.2.1 dX4_age_68 rfl (cat_rv _) ?_
        refine g_aI X S dX4_age_69 hf (fun v13 hf => ?_)
        refine lv_iconst (v := 1) X.1 X.2.1 dX4_age_70 (by decide) ?_
        refine lv_iadd X.1 X.2.1 dX4_age_71 ?_
        refine g_qI X S dX4_age_72 hf (fun h H locs hm hf S => ?_)
        obtain ⟨z14, ez14, hf⟩ := lt_some hf
        refine lv_iinc (v := z14) (lv' := [(6, .int z14), (0, rv x0), (1, rv x1), (3, .int x3), (4, .int x4), (5, .int x5)]) X.1 X.2.1 dX4_age_73 hl (k := 5) rfl (by rw [← ez14]; rfl) (by decide) rfl (fun ls hl => ?_)
        refine lv_goto (tgt := 33) X.1 X.2.1 dX4_age_76 (by decide) ?_
        exact hk33 _ _ _ _ _ _ _ _ _ _ (lv_sub hl [1, 2, 3, 4, 5, 0] rfl) S hf
theorem wfX4_age_33_l {k20 : Nat → Nat → Int32 → Int32 → Int32 → Hp → Option (Int32 × Hp)} {r9 : Int32} {h9 : Hp} (X : Cx p E A 13 R s m args c cX4_age yX4_age.cls 7) (hr : meth.sig.returnType = (some .int)) (hlk : meth.locks = false) (hnm : meth.name = yX4_age.name) (hk20 : ∀ (x0 : Nat) (x1 : Nat) (x3 : Int32) (x4 : Int32) (x5 : Int32) (h : Hp) (H : Heap) (locs : List Loc) (ls : Array Slot), lv_has ls 7 [(0, rv x0), (1, rv x1), (3, .int x3), (4, .int x4), (5, .int x5)] → St E A s h H locs → k20 x0 x1 x3 x4 x5 h = some (r9, h9) → W p l e R s m args below meth c H locs 0 0 (MQ below (Qi E A h9 r9) args s 0 0 A) (F0 m 20 ls [])) :
    ∀ (n : Nat) (x0 : Nat) (x1 : Nat) (x3 : Int32) (x4 : Int32) (x5 : Int32) (x6 : Int32) (h : Hp) (H : Heap) (locs : List Loc) (ls : Array Slot), lv_has ls 7 [(0, rv x0), (1, rv x1), (3, .int x3), (4, .int x4), (5, .int x5), (6, .int x6)] → St E A s h H locs → lp (fun _ _ _ _ _ _ _ => none) (fX4_age_33 k20) n x0 x1 x3 x4 x5 x6 h = some (r9, h9) → W p l e R s m args below meth c H locs 0 0 (MQ below (Qi E A h9 r9) args s 0 0 A) (F0 m 33 ls []) := by
  intro n
  induction n with
  | zero =>
    intro x0 x1 x3 x4 x5 x6 h H locs ls hl S hf
    exact nomatch hf
  | succ n ih =>
    intro x0 x1 x3 x4 x5 x6 h H locs ls hl S hf
    exact wfX4_age_33 X hr hlk hnm hk20 ih x0 x1 x3 x4 x5 x6 h H locs ls hl S hf
def fX4_age_20 (k20 : Nat → Nat → Int32 → Int32 → Int32 → Hp → Option (Int32 × Hp)) (x0 : Nat) (x1 : Nat) (x3 : Int32) (x4 : Int32) (x5 : Int32) (h : Hp) : Option (Int32 × Hp) := if x3 ≤ x5 then ob (gR 4 x0 3 h) fun v2 => ob (gR 4 x0 1 h) fun v3 => ob (fX10_unlike v3 x1 h) fun v4 => ob (qI v2 2 v4 h) fun h => ob (fX4_told x0 x4 h) fun v5 => some (v5, h) else ob (fX4_happen x0 h) fun h => lp (fun _ _ _ _ _ _ _ => none) (fX4_age_33 k20) FU x0 x1 x3 x4 x5 0 h
theorem wfX4_age_20 {k20 : Nat → Nat → Int32 → Int32 → Int32 → Hp → Option (Int32 × Hp)} {r9 : Int32} {h9 : Hp} (X : Cx p E A 13 R s m args c cX4_age yX4_age.cls 7) (hr : meth.sig.returnType = (some .int)) (hlk : meth.locks = false) (hnm : meth.name = yX4_age.name) (hk20 : ∀ (x0 : Nat) (x1 : Nat) (x3 : Int32) (x4 : Int32) (x5 : Int32) (h : Hp) (H : Heap) (locs : List Loc) (ls : Array Slot), lv_has ls 7 [(0, rv x0), (1, rv x1), (3, .int x3), (4, .int x4), (5, .int x5)] → St E A s h H locs → k20 x0 x1 x3 x4 x5 h = some (r9, h9) → W p l e R s m args below meth c H locs 0 0 (MQ below (Qi E A h9 r9) args s 0 0 A) (F0 m 20 ls [])) :
    ∀ (x0 : Nat) (x1 : Nat) (x3 : Int32) (x4 : Int32) (x5 : Int32) (h : Hp) (H : Heap) (locs : List Loc) (ls : Array Slot), lv_has ls 7 [(0, rv x0), (1, rv x1), (3, .int x3), (4, .int x4), (5, .int x5)] → St E A s h H locs → fX4_age_20 k20 x0 x1 x3 x4 x5 h = some (r9, h9) → W p l e R s m args below meth c H locs 0 0 (MQ below (Qi E A h9 r9) args s 0 0 A) (F0 m 20 ls []) := by
  intro x0 x1 x3 x4 x5 h H locs ls hl S hf
  unfold fX4_age_20 at hf
  refine lv_iload X.1 X.2.1 dX4_age_20 (lv_at hl 4 rfl) ?_
  refine lv_iload_n X.1 X.2.1 dX4_age_22 rfl (lv_at hl 2 rfl) ?_
  refine lv_icmp_ge (tgt := 85) X.1 X.2.1 dX4_age_23 (by decide) (fun c1 => ?_) (fun c1 => ?_)
  · replace hf := (if_pos c1).symm.trans hf
    refine g_aload_n X (or_rv _) dX4_age_85 rfl (lv_at hl 0 rfl) ?_
    refine g_gR X S foX4_28 dX4_age_86 hf (fun v2 hf => ?_)
    refine lv_iconst (v := 2) X.1 X.2.1 dX4_age_89 (by decide) ?_
    refine g_aload_n X (or_rv _) dX4_age_90 rfl (lv_at hl 0 rfl) ?_
    refine g_gR X S foX4_21 dX4_age_91 hf (fun v3 hf => ?_)
    refine g_aload_n X (or_rv _) dX4_age_94 rfl (lv_at hl 1 rfl) ?_
    obtain ⟨v4, hc, hf⟩ := ob_some hf
    refine g_ci S (runV (As := [rv x1]) (rest := [.int 2, rv v2]) X S coX4_99 (by decide) (cX10_unlike_m l hc) (tkX10_unlike hc) rfl hl.1 (by simp [cat_rv, cat_wv, cat_sv, cat_i, cat_l, cat_a]) rfl ⟨Nat.zero_le _, Nat.zero_le _⟩ dX4_age_95) (fun H locs S => ?_)
    refine g_qI X S dX4_age_98 hf (fun h H locs hm hf S => ?_)
    refine g_aload_n X (or_rv _) dX4_age_99 rfl (lv_at hl 0 rfl) ?_
    refine lv_iload X.1 X.2.1 dX4_age_100 (lv_at hl 3 rfl) ?_
    obtain ⟨v5, hc, hf⟩ := ob_some hf
    refine g_ci S (runV (As := [.int x4]) (rest := []) X S coX4_74 (by decide) (cX4_told_m l hc) (tkX4_told hc) rfl hl.1 (by decide) rfl ⟨Nat.zero_le _, Nat.zero_le _⟩ dX4_age_102) (fun H locs S => ?_)
    cases hf; exact g_ri X S hr hlk dX4_age_105
  · replace hf := (if_neg c1).symm.trans hf
    refine g_aload_n X (or_rv _) dX4_age_26 rfl (lv_at hl 0 rfl) ?_
    obtain ⟨h, hc, hf⟩ := ob_some hf
    refine g_cv S (runV (As := []) (rest := []) X S coX4_96 (by decide) (cX4_happen_m l hc) (tkX4_happen hc) rfl hl.1 (by decide) rfl ⟨Nat.zero_le _, Nat.zero_le _⟩ dX4_age_27) (fun H locs S => ?_)
    refine lv_iconst (v := 0) X.1 X.2.1 dX4_age_30 (by decide) ?_
    refine lv_istore (lv' := [(6, .int 0), (0, rv x0), (1, rv x1), (3, .int x3), (4, .int x4), (5, .int x5)]) X.1 X.2.1 dX4_age_31 hl (by decide) rfl (fun ls hl => ?_)
    exact wfX4_age_33_l X hr hlk hnm hk20 FU _ _ _ _ _ _ _ _ _ _ (lv_sub hl [1, 2, 3, 4, 5, 0] rfl) S hf
theorem wfX4_age_20_l {r9 : Int32} {h9 : Hp} (X : Cx p E A 13 R s m args c cX4_age yX4_age.cls 7) (hr : meth.sig.returnType = (some .int)) (hlk : meth.locks = false) (hnm : meth.name = yX4_age.name) :
    ∀ (n : Nat) (x0 : Nat) (x1 : Nat) (x3 : Int32) (x4 : Int32) (x5 : Int32) (h : Hp) (H : Heap) (locs : List Loc) (ls : Array Slot), lv_has ls 7 [(0, rv x0), (1, rv x1), (3, .int x3), (4, .int x4), (5, .int x5)] → St E A s h H locs → lp (fun _ _ _ _ _ _ => none) (fX4_age_20) n x0 x1 x3 x4 x5 h = some (r9, h9) → W p l e R s m args below meth c H locs 0 0 (MQ below (Qi E A h9 r9) args s 0 0 A) (F0 m 20 ls []) := by
  intro n
  induction n with
  | zero =>
    intro x0 x1 x3 x4 x5 h H locs ls hl S hf
    exact nomatch hf
  | succ n ih =>
    intro x0 x1 x3 x4 x5 h H locs ls hl S hf
    exact wfX4_age_20 X hr hlk hnm ih x0 x1 x3 x4 x5 h H locs ls hl S hf
def fX4_age (a0 : Nat) (a1 : Nat) (a2 : Int32) (a3 : Int32) (a4 : Int32) (h : Hp) : Option (Int32 × Hp) := gd 4 a0 h (ob (fX4_clearTold a0 h) fun h => ob (gR 4 a0 1 h) fun v2 => ob (fX10_become v2 a1 h) fun h => ob (pI 4 a0 4 a2 h) fun h => lp (fun _ _ _ _ _ _ => none) (fX4_age_20) FU a0 a1 a3 a4 0 h)
theorem tkX4_age {a0 : Nat} {a1 : Nat} {a2 : Int32} {a3 : Int32} {a4 : Int32} {h : Hp} {r9 : Int32 × Hp} (e : fX4_age a0 a1 a2 a3 a4 h = some r9) : hK h a0 = 4 := by
  unfold fX4_age at e
  exact (gd_some e).1
theorem cX4_age_m (l : Launch) {E : EE} {A : Nat → Prop} {a0 : Nat} {a1 : Nat} {a2 : Int32} {a3 : Int32} {a4 : Int32} {h : Hp} {r9 : Int32} {h9 : Hp} (hf : fX4_age a0 a1 a2 a3 a4 h = some (r9, h9)) : Met l yX4_age (wsM yX4_age cX4_age 7 (some .int)) (rmm 13 0 0) (PcE E A h [rv a0, rv a1, .int a2, .int a3, .int a4]) (Qi E A h9 r9) 0 0 A := by
  refine met_of (by decide +kernel) (by simp [lg_sl, cat_rv, cat_wv, cat_sv, cat_i, cat_l, cat_a]) (fun p e s m args below meth c ls X hr hlk hnm S hl => ?_)
  have hl : lv_has ls 7 [(0, rv a0), (1, rv a1), (2, .int a2), (3, .int a3), (4, .int a4)] := by simpa [lv_args, cat_rv, cat_wv, cat_sv, cat_i, cat_l, cat_a] using hl
  generalize hH : s.heap = H at S ⊢
  generalize hlo : ([] : List Loc) = locs at S ⊢
  clear hH hlo
  unfold fX4_age at hf
  obtain ⟨hth, hf⟩ := gd_some hf
  refine g_aload_n X (or_rv _) dX4_age_0 rfl (lv_at hl 0 rfl) ?_
  obtain ⟨h, hc, hf⟩ := ob_some hf
  refine g_cv S (runV (As := []) (rest := []) X S coX4_52 (by decide) (cX4_clearTold_m l hc) (tkX4_clearTold hc) rfl hl.1 (by decide) rfl ⟨Nat.zero_le _, Nat.zero_le _⟩ dX4_age_1) (fun H locs S => ?_)
  refine g_aload_n X (or_rv _) dX4_age_4 rfl (lv_at hl 0 rfl) ?_
  refine g_gR X S foX4_21 dX4_age_5 hf (fun v2 hf => ?_)
  refine g_aload_n X (or_rv _) dX4_age_8 rfl (lv_at hl 1 rfl) ?_
  obtain ⟨h, hc, hf⟩ := ob_some hf
  refine g_cv S (runV (As := [rv a1]) (rest := []) X S coX4_32 (by decide) (cX10_become_m l hc) (tkX10_become hc) rfl hl.1 (by decide) rfl ⟨Nat.zero_le _, Nat.zero_le _⟩ dX4_age_9) (fun H locs S => ?_)
  refine g_aload_n X (or_rv _) dX4_age_12 rfl (lv_at hl 0 rfl) ?_
  refine lv_iload_n X.1 X.2.1 dX4_age_13 rfl (lv_at hl 2 rfl) ?_
  refine g_pI X S fpX4_92 (Or.inl rfl) dX4_age_14 hf (fun h H locs hm hf S => ?_)
  refine lv_iconst (v := 0) X.1 X.2.1 dX4_age_17 (by decide) ?_
  refine lv_istore (lv' := [(5, .int 0), (0, rv a0), (1, rv a1), (2, .int a2), (3, .int a3), (4, .int a4)]) X.1 X.2.1 dX4_age_18 hl (by decide) rfl (fun ls hl => ?_)
  exact wfX4_age_20_l X hr hlk hnm FU _ _ _ _ _ _ _ _ _ (lv_sub hl [1, 2, 4, 5, 0] rfl) S hf
def fX12_years_16 (h : Hp) : Option ((Nat ⊕ Int32) × Hp) := some (.inl 2, h)
theorem wfX12_years_16 {r9 : Int32} {h9 : Hp} (X : Cx p E A 14 R s m args c cX12_years yX12_years.cls 4) (hr : meth.sig.returnType = (some .int)) (hlk : meth.locks = false) (hnm : meth.name = yX12_years.name) :
    ∀ (h : Hp) (H : Heap) (locs : List Loc) (ls : Array Slot), lv_has ls 4 [] → St E A s h H locs → fX12_years_16 h = some (.inr r9, h9) → W p l e R s m args below meth c H locs 0 0 (MQ below (Qi E A h9 r9) args s 0 0 A) (F0 m 16 ls []) := by
  intro h H locs ls hl S hf
  unfold fX12_years_16 at hf
  cases hf
def fX12_years (a0 : Nat) (a1 : Int32) (a2 : Int32) (a3 : Int32) (h : Hp) : Option ((Nat ⊕ Int32) × Hp) := gd 10 a0 h (oe (fX12_needWhat a0 a3 2 h) (fun k => some (.inl k, h)) fun v1 => if a2 < 0 then fX12_years_16 h else if a2 ≤ 20 then ob (gR 10 a0 5 h) fun v4 => ob (gR 10 a0 10 h) fun v5 => ob (gR 2 v5 0 h) fun v6 => ob2 (fX4_age v4 v6 a1 a2 a3 h) fun v7 h => some (.inr v7, h) else fX12_years_16 h)
theorem tkX12_years {a0 : Nat} {a1 : Int32} {a2 : Int32} {a3 : Int32} {h : Hp} {r9 : (Nat ⊕ Int32) × Hp} (e : fX12_years a0 a1 a2 a3 h = some r9) : hK h a0 = 10 := by
  unfold fX12_years at e
  exact (gd_some e).1
theorem cX12_years_m (l : Launch) {E : EE} {A : Nat → Prop} {a0 : Nat} {a1 : Int32} {a2 : Int32} {a3 : Int32} {h : Hp} {r9 : Int32} {h9 : Hp} (hf : fX12_years a0 a1 a2 a3 h = some (.inr r9, h9)) : Met l yX12_years (wsM yX12_years cX12_years 4 (some .int)) (rmm 14 0 0) (PcE E A h [rv a0, .int a1, .int a2, .int a3]) (Qi E A h9 r9) 0 0 A := by
  refine met_of (by decide +kernel) (by simp [lg_sl, cat_rv, cat_wv, cat_sv, cat_i, cat_l, cat_a]) (fun p e s m args below meth c ls X hr hlk hnm S hl => ?_)
  have hl : lv_has ls 4 [(0, rv a0), (1, .int a1), (2, .int a2), (3, .int a3)] := by simpa [lv_args, cat_rv, cat_wv, cat_sv, cat_i, cat_l, cat_a] using hl
  generalize hH : s.heap = H at S ⊢
  generalize hlo : ([] : List Loc) = locs at S ⊢
  clear hH hlo
  unfold fX12_years at hf
  obtain ⟨hth, hf⟩ := gd_some hf
  refine g_aload_n X (or_rv _) dX12_years_0 rfl (lv_at hl 0 rfl) ?_
  refine lv_iload_n X.1 X.2.1 dX12_years_1 rfl (lv_at hl 3 rfl) ?_
  refine lv_iconst (v := 2) X.1 X.2.1 dX12_years_2 (by decide) ?_
  rcases oe_some hf with ⟨k, hc, hf⟩ | ⟨v1, hc, hf⟩
  · cases hf
  refine g_cv S (runV (As := [.int a3, .int 2]) (rest := []) X S coX12_257 (by decide) (cX12_needWhat_m l hc) (tkX12_needWhat hc) rfl hl.1 (by decide) rfl ⟨Nat.zero_le _, Nat.zero_le _⟩ dX12_years_3) (fun H locs S => ?_)
  refine lv_iload_n X.1 X.2.1 dX12_years_6 rfl (lv_at hl 2 rfl) ?_
  refine lv_if_lt (tgt := 16) X.1 X.2.1 dX12_years_7 (by decide) (fun c2 => ?_) (fun c2 => ?_)
  · replace hf := (if_pos c2).symm.trans hf
    exact wfX12_years_16 X hr hlk hnm _ _ _ _ (lv_sub hl [] rfl) S hf
  · replace hf := (if_neg c2).symm.trans hf
    refine lv_iload_n X.1 X.2.1 dX12_years_10 rfl (lv_at hl 2 rfl) ?_
    refine lv_bipush (v := 20) X.1 X.2.1 dX12_years_11 (by decide) ?_
    refine lv_icmp_le (tgt := 27) X.1 X.2.1 dX12_years_13 (by decide) (fun c3 => ?_) (fun c3 => ?_)
    · replace hf := (if_pos c3).symm.trans hf
      refine g_aload_n X (or_rv _) dX12_years_27 rfl (lv_at hl 0 rfl) ?_
      refine g_gR X S foX12_34 dX12_years_28 hf (fun v4 hf => ?_)
      refine g_aload_n X (or_rv _) dX12_years_31 rfl (lv_at hl 0 rfl) ?_
      refine g_gR X S foX12_61 dX12_years_32 hf (fun v5 hf => ?_)
      refine g_gR X S foX12_107 dX12_years_35 hf (fun v6 hf => ?_)
      refine lv_iload_n X.1 X.2.1 dX12_years_38 rfl (lv_at hl 1 rfl) ?_
      refine lv_iload_n X.1 X.2.1 dX12_years_39 rfl (lv_at hl 2 rfl) ?_
      refine lv_iload_n X.1 X.2.1 dX12_years_40 rfl (lv_at hl 3 rfl) ?_
      obtain ⟨v7, h, hc, hf⟩ := ob2_some hf
      refine g_ci S (runV (As := [rv v6, .int a1, .int a2, .int a3]) (rest := []) X S coX12_291 (by decide) (cX4_age_m l hc) (tkX4_age hc) rfl hl.1 (by decide) rfl ⟨Nat.zero_le _, Nat.zero_le _⟩ dX12_years_41) (fun H locs S => ?_)
      cases hf; exact g_ri X S hr hlk dX12_years_44
    · replace hf := (if_neg c3).symm.trans hf
      exact wfX12_years_16 X hr hlk hnm _ _ _ _ (lv_sub hl [] rfl) S hf
theorem wfX12_years_16_x {k9 : Nat} {h9 : Hp} (X : Cx p E A 14 R s m args c cX12_years yX12_years.cls 4) (hr : meth.sig.returnType = (some .int)) (hlk : meth.locks = false) (hnm : meth.name = yX12_years.name) (hne : ∀ x ∈ c.exceptionTable.toList, False) (hlt : l.stackTraces = false) (hR1 : 0 + 1 ≤ R.cells ∧ 0 + 6 ≤ R.slots) :
    ∀ (h : Hp) (H : Heap) (locs : List Loc) (ls : Array Slot), lv_has ls 4 [] → St E A s h H locs → fX12_years_16 h = some (.inl k9, h9) → W p l e R s m args below meth c H locs 0 0 (vx_MQ below noQ (XX E A h9 k9) args s 1 6 A) (F0 m 16 ls []) := by
  intro h H locs ls hl S hf
  unfold fX12_years_16 at hf
  cases hf
  exact g_throwW (rest := []) X S hne hlk hlt hl.1 (by decide) (by decide) tfX12_72_289 dX12_years_16 dX12_years_19 dX12_years_20 dX12_years_23 dX12_years_26 hR1
theorem cX12_years_x (l : Launch) (hlt : l.stackTraces = false) {E : EE} {A : Nat → Prop} {a0 : Nat} {a1 : Int32} {a2 : Int32} {a3 : Int32} {h : Hp} {k9 : Nat} {h9 : Hp} (hf : fX12_years a0 a1 a2 a3 h = some (.inl k9, h9)) : vx_Met l yX12_years (wsM yX12_years cX12_years 4 (some .int)) (rmm 14 1 6) (PcE E A h [rv a0, .int a1, .int a2, .int a3]) noQ (XX E A h9 k9) 1 6 A := by
  refine met_ofX (by decide +kernel) (by simp [lg_sl, cat_rv, cat_wv, cat_sv, cat_i, cat_l, cat_a]) (fun p e s m args below meth c ls X hr hlk hnm hne S hl => ?_)
  have hR1 : 0 + 1 ≤ (rmm 14 1 6).cells ∧ 0 + 6 ≤ (rmm 14 1 6).slots := ⟨Nat.le_refl _, Nat.le_refl _⟩
  have hl : lv_has ls 4 [(0, rv a0), (1, .int a1), (2, .int a2), (3, .int a3)] := by simpa [lv_args, cat_rv, cat_wv, cat_sv, cat_i, cat_l, cat_a] using hl
  generalize hH : s.heap = H at S ⊢
  generalize hlo : ([] : List Loc) = locs at S ⊢
  clear hH hlo
  unfold fX12_years at hf
  obtain ⟨hth, hf⟩ := gd_some hf
  refine g_aload_n X (or_rv _) dX12_years_0 rfl (lv_at hl 0 rfl) ?_
  refine lv_iload_n X.1 X.2.1 dX12_years_1 rfl (lv_at hl 3 rfl) ?_
  refine lv_iconst (v := 2) X.1 X.2.1 dX12_years_2 (by decide) ?_
  rcases oe_some hf with ⟨k, hc, hf⟩ | ⟨v1, hc, hf⟩
  · cases hf
    exact g_pass S hne hlk (runVX (As := [.int a3, .int 2]) (rest := []) X S coX12_257 (by decide) (cX12_needWhat_x l hlt hc) (tkX12_needWhat hc) rfl hl.1 (by decide) rfl hR1 dX12_years_3)
  refine g_cv S (runV (As := [.int a3, .int 2]) (rest := []) X S coX12_257 (by decide) (cX12_needWhat_m l hc) (tkX12_needWhat hc) rfl hl.1 (by decide) rfl ⟨Nat.zero_le _, Nat.zero_le _⟩ dX12_years_3) (fun H locs S => ?_)
  refine lv_iload_n X.1 X.2.1 dX12_years_6 rfl (lv_at hl 2 rfl) ?_
  refine lv_if_lt (tgt := 16) X.1 X.2.1 dX12_years_7 (by decide) (fun c2 => ?_) (fun c2 => ?_)
  · replace hf := (if_pos c2).symm.trans hf
    exact wfX12_years_16_x X hr hlk hnm hne hlt hR1 _ _ _ _ (lv_sub hl [] rfl) S hf
  · replace hf := (if_neg c2).symm.trans hf
    refine lv_iload_n X.1 X.2.1 dX12_years_10 rfl (lv_at hl 2 rfl) ?_
    refine lv_bipush (v := 20) X.1 X.2.1 dX12_years_11 (by decide) ?_
    refine lv_icmp_le (tgt := 27) X.1 X.2.1 dX12_years_13 (by decide) (fun c3 => ?_) (fun c3 => ?_)
    · replace hf := (if_pos c3).symm.trans hf
      refine g_aload_n X (or_rv _) dX12_years_27 rfl (lv_at hl 0 rfl) ?_
      refine g_gR X S foX12_34 dX12_years_28 hf (fun v4 hf => ?_)
      refine g_aload_n X (or_rv _) dX12_years_31 rfl (lv_at hl 0 rfl) ?_
      refine g_gR X S foX12_61 dX12_years_32 hf (fun v5 hf => ?_)
      refine g_gR X S foX12_107 dX12_years_35 hf (fun v6 hf => ?_)
      refine lv_iload_n X.1 X.2.1 dX12_years_38 rfl (lv_at hl 1 rfl) ?_
      refine lv_iload_n X.1 X.2.1 dX12_years_39 rfl (lv_at hl 2 rfl) ?_
      refine lv_iload_n X.1 X.2.1 dX12_years_40 rfl (lv_at hl 3 rfl) ?_
      obtain ⟨v7, h, hc, hf⟩ := ob2_some hf
      refine g_ci S (runV (As := [rv v6, .int a1, .int a2, .int a3]) (rest := []) X S coX12_291 (by decide) (cX4_age_m l hc) (tkX4_age hc) rfl hl.1 (by decide) rfl ⟨Nat.zero_le _, Nat.zero_le _⟩ dX12_years_41) (fun H locs S => ?_)
      cases hf
    · replace hf := (if_neg c3).symm.trans hf
      exact wfX12_years_16_x X hr hlk hnm hne hlt hR1 _ _ _ _ (lv_sub hl [] rfl) S hf
def fX2_become_23 (k23 : Nat → Nat → Int32 → Hp → Option (Hp)) (x0 : Nat) (x1 : Nat) (x2 : Int32) (h : Hp) : Option (Hp) := ob (gI 2 x1 3 h) fun v1 => if v1 ≤ x2 then ob (gR 2 x1 4 h) fun v3 => ob (gR 2 x0 4 h) fun v4 => ob (gR 2 x0 4 h) fun v5 => ob (aN 101 v5 h) fun v6 => ob (cpA v3 0 v4 0 v6 h) fun h => ob (gI 2 x1 5 h) fun v7 => ob (pI 2 x0 5 v7 h) fun h => ob (gR 2 x1 6 h) fun v8 => ob (gR 2 x0 6 h) fun v9 => ob (gR 2 x0 6 h) fun v10 => ob (aN 101 v10 h) fun v11 => ob (cpA v8 0 v9 0 v11 h) fun h => some h else ob (gR 2 x1 1 h) fun v12 => ob (gI 2 x1 2 h) fun v13 => ob (aR 103 v12 (irm (v13 + x2) 40) h) fun v14 => if v14 = 0 then lt (x2 + 1) fun z16 => k23 x0 x1 z16 h else oba h (fX2_keep x0 x2 v14 h) fun h => ob (gI 2 x0 3 h) fun v18 => ob (pI 2 x0 3 (v18 + 1) h) fun h => lt (x2 + 1) fun z19 => k23 x0 x1 z19 h
theorem wfX2_become_23 {h0 : Hp} {k23 : Nat → Nat → Int32 → Hp → Option (Hp)} {h9 : Hp} (X : Cx p E A 12 R s m args c cX2_become yX2_become.cls 4) (hr : meth.sig.returnType = none) (hlk : meth.locks = false) (hnm : meth.name = yX2_become.name) (hk23 : ∀ (x0 : Nat) (x1 : Nat) (x2 : Int32) (h : Hp) (H : Heap) (locs : List Loc) (ls : Array Slot) (cells slots : Nat), lv_has ls 4 [(0, rv x0), (1, rv x1), (2, .int x2)] → St E A s h H locs → AlI R s h0 h cells slots → k23 x0 x1 x2 h = some h9 → W p l e R s m args below meth c H locs cells slots (MQ below (QG (Qv E A h9) h0 h9) args s R.cells R.slots A) (F0 m 23 ls [])) :
    ∀ (x0 : Nat) (x1 : Nat) (x2 : Int32) (h : Hp) (H : Heap) (locs : List Loc) (ls : Array Slot) (cells slots : Nat), lv_has ls 4 [(0, rv x0), (1, rv x1), (2, .int x2)] → St E A s h H locs → AlI R s h0 h cells slots → fX2_become_23 k23 x0 x1 x2 h = some h9 → W p l e R s m args below meth c H locs cells slots (MQ below (QG (Qv E A h9) h0 h9) args s R.cells R.slots A) (F0 m 23 ls []) := by
  intro x0 x1 x2 h H locs ls cells slots hl S AI hf
  unfold fX2_become_23 at hf
  refine lv_iload_n X.1 X.2.1 dX2_become_23 rfl (lv_at hl 2 rfl) ?_
  refine g_aload_n X (or_rv _) dX2_become_24 rfl (lv_at hl 1 rfl) ?_
  refine g_gI X S foX2_29 rfl dX2_become_25 hf (fun v1 hf => ?_)
  refine lv_icmp_ge (tgt := 72) X.1 X.2.1 dX2_become_28 (by decide) (fun c2 => ?_) (fun c2 => ?_)
  · replace hf := (if_pos c2).symm.trans hf
    refine g_aload_n X (or_rv _) dX2_become_72 rfl (lv_at hl 1 rfl) ?_
    refine g_gR X S foX2_22 dX2_become_73 hf (fun v3 hf => ?_)
    refine lv_iconst (v := 0) X.1 X.2.1 dX2_become_76 (by decide) ?_
    refine g_aload_n X (or_rv _) dX2_become_77 rfl (lv_at hl 0 rfl) ?_
    refine g_gR X S foX2_22 dX2_become_78 hf (fun v4 hf => ?_)
    refine lv_iconst (v := 0) X.1 X.2.1 dX2_become_81 (by decide) ?_
    refine g_aload_n X (or_rv _) dX2_become_82 rfl (lv_at hl 0 rfl) ?_
    refine g_gR X S foX2_22 dX2_become_83 hf (fun v5 hf => ?_)
    refine g_aN X S (by decide) dX2_become_86 hf (fun v6 hf => ?_)
    refine g_cp (rest := []) X S hl.1 (by decide) (by decide) mlX2_61 u_ac_n u_ac_s u_ac_i dX2_become_87 hf (fun h H locs hm hf S => ?_)
    replace AI := AI.sm hm
    refine g_aload_n X (or_rv _) dX2_become_90 rfl (lv_at hl 0 rfl) ?_
    refine g_aload_n X (or_rv _) dX2_become_91 rfl (lv_at hl 1 rfl) ?_
    refine g_gI X S foX2_33 rfl dX2_become_92 hf (fun v7 hf => ?_)
    refine g_pI X S fpX2_33 (Or.inl rfl) dX2_become_95 hf (fun h H locs hm hf S => ?_)
    replace AI := AI.sm hm
    refine g_aload_n X (or_rv _) dX2_become_98 rfl (lv_at hl 1 rfl) ?_
    refine g_gR X S foX2_26 dX2_become_99 hf (fun v8 hf => ?_)
    refine lv_iconst (v := 0) X.1 X.2.1 dX2_become_102 (by decide) ?_
    refine g_aload_n X (or_rv _) dX2_become_103 rfl (lv_at hl 0 rfl) ?_
    refine g_gR X S foX2_26 dX2_become_104 hf (fun v9 hf => ?_)
    refine lv_iconst (v := 0) X.1 X.2.1 dX2_become_107 (by decide) ?_
    refine g_aload_n X (or_rv _) dX2_become_108 rfl (lv_at hl 0 rfl) ?_
    refine g_gR X S foX2_26 dX2_become_109 hf (fun v10 hf => ?_)
    refine g_aN X S (by decide) dX2_become_112 hf (fun v11 hf => ?_)
    refine g_cp (rest := []) X S hl.1 (by decide) (by decide) mlX2_61 u_ac_n u_ac_s u_ac_i dX2_become_113 hf (fun h H locs hm hf S => ?_)
    replace AI := AI.sm hm
    cases hf; exact g_rvA X S AI hr hlk dX2_become_116
  · replace hf := (if_neg c2).symm.trans hf
    refine g_aload_n X (or_rv _) dX2_become_31 rfl (lv_at hl 1 rfl) ?_
    refine g_gR X S foX2_18 dX2_become_32 hf (fun v12 hf => ?_)
    refine g_aload_n X (or_rv _) dX2_become_35 rfl (lv_at hl 1 rfl) ?_
    refine g_gI X S foX2_36 rfl dX2_become_36 hf (fun v13 hf => ?_)
    refine lv_iload_n X.1 X.2.1 dX2_become_39 rfl (lv_at hl 2 rfl) ?_
    refine lv_iadd X.1 X.2.1 dX2_become_40 ?_
    refine lv_bipush (v := 40) X.1 X.2.1 dX2_become_41 (by decide) ?_
    refine g_irem X (by decide) dX2_become_43 ?_
    refine g_aR X S (by decide) dX2_become_44 hf (fun v14 hf => ?_)
    refine g_astore_n (i := 3) (lv' := [(3, rv v14), (0, rv x0), (1, rv x1), (2, .int x2)]) X (or_rv _) dX2_become_45 rfl hl (by decide) rfl (fun ls hl => ?_)
    refine g_aload_n X (or_rv _) dX2_become_46 rfl (lv_at hl 0 rfl) ?_
    refine g_ifnull (tgt := 66) X dX2_become_47 (by decide) (fun c15 => ?_) (fun c15 => ?_)
    · replace hf := (if_pos c15).symm.trans hf
      obtain ⟨z16, ez16, hf⟩ := lt_some hf
      refine lv_iinc (v := z16) (lv' := [(2, .int z16), (3, rv v14), (0, rv x0), (1, rv x1)]) X.1 X.2.1 dX2_become_66 hl (k := 3) rfl (by rw [← ez16]; rfl) (by decide) (by simp [List.filter, cat_rv, cat_wv, cat_sv]) (fun ls hl => ?_)
      refine lv_goto (tgt := 23) X.1 X.2.1 dX2_become_69 (by decide) ?_
      exact hk23 _ _ _ _ _ _ _ _ _ (lv_sub hl [2, 3, 0] rfl) S AI hf
    · replace hf := (if_neg c15).symm.trans hf
      refine g_aload_n X (or_rv _) dX2_become_50 rfl (lv_at hl 1 rfl) ?_
      refine lv_iload_n X.1 X.2.1 dX2_become_51 rfl (lv_at hl 3 rfl) ?_
      refine g_aload_n X (or_rv _) dX2_become_52 rfl (lv_at hl 0 rfl) ?_
      obtain ⟨h, hc, hok, hf⟩ := oba_some hf
      refine g_cvA S AI hok (fun hsz => runVF (As := [.int x2, rv v14]) (rest := []) X S hsz coX2_39 (by decide) (cX2_keep_m l AI.mcs.1 AI.mcs.2 hc) (tkX2_keep hc) rfl hl.1 (by decide) rfl AI.room dX2_become_53) (fun H locs cells slots S AI => ?_)
      refine g_aload_n X (or_rv _) dX2_become_56 rfl (lv_at hl 1 rfl) ?_
      refine lv_dup X.1 X.2.1 dX2_become_57 (cat_rv _) ?_
      refine g_gI X S foX2_29 rfl dX2_become_58 hf (fun v18 hf => ?_)
      refine lv_iconst (v := 1) X.1 X.2.1 dX2_become_61 (by decide) ?_
      refine lv_iadd X.1 X.2.1 dX2_become_62 ?_
      refine g_pI X S fpX2_29 (Or.inl rfl) dX2_become_63 hf (fun h H locs hm hf S => ?_)
      replace AI := AI.sm hm
      obtain ⟨z19, ez19, hf⟩ := lt_some hf
      refine lv_iinc (v := z19) (lv' := [(2, .int z19), (3, rv v14), (0, rv x0), (1, rv x1)]) X.1 X.2.1 dX2_become_66 hl (k := 3) rfl (by rw [← ez19]; rfl) (by decide) (by simp [List.filter, cat_rv, cat_wv, cat_sv]) (fun ls hl => ?_)
      refine lv_goto (tgt := 23) X.1 X.2.1 dX2_become_69 (by decide) ?_
      exact hk23 _ _ _ _ _ _ _ _ _ (lv_sub hl [2, 3, 0] rfl) S AI hf
theorem wfX2_become_23_l {h0 : Hp} {h9 : Hp} (X : Cx p E A 12 R s m args c cX2_become yX2_become.cls 4) (hr : meth.sig.returnType = none) (hlk : meth.locks = false) (hnm : meth.name = yX2_become.name) :
    ∀ (n : Nat) (x0 : Nat) (x1 : Nat) (x2 : Int32) (h : Hp) (H : Heap) (locs : List Loc) (ls : Array Slot) (cells slots : Nat), lv_has ls 4 [(0, rv x0), (1, rv x1), (2, .int x2)] → St E A s h H locs → AlI R s h0 h cells slots → lp (fun _ _ _ _ => none) (fX2_become_23) n x0 x1 x2 h = some h9 → W p l e R s m args below meth c H locs cells slots (MQ below (QG (Qv E A h9) h0 h9) args s R.cells R.slots A) (F0 m 23 ls []) := by
  intro n
  induction n with
  | zero =>
    intro x0 x1 x2 h H locs ls cells slots hl S AI hf
    exact nomatch hf
  | succ n ih =>
    intro x0 x1 x2 h H locs ls cells slots hl S AI hf
    exact wfX2_become_23 X hr hlk hnm ih x0 x1 x2 h H locs ls cells slots hl S AI hf
def fX2_become (a0 : Nat) (a1 : Nat) (h : Hp) : Option (Hp) := gd 2 a0 h (ob (gR 2 a0 0 h) fun v1 => ob (gR 2 a1 0 h) fun v2 => obk h (fX10_become v1 v2 h) fun h => ob (pI 2 a0 2 0 h) fun h => ob (pI 2 a0 3 0 h) fun h => lp (fun _ _ _ _ => none) (fX2_become_23) FU a0 a1 0 h)
theorem tkX2_become {a0 : Nat} {a1 : Nat} {h : Hp} {r9 : Hp} (e : fX2_become a0 a1 h = some r9) : hK h a0 = 2 := by
  unfold fX2_become at e
  exact (gd_some e).1
theorem cX2_become_m (l : Launch) {E : EE} {A : Nat → Prop} {a0 : Nat} {a1 : Nat} {h : Hp} {h9 : Hp} {mc ms : Nat} (hmc : mc + hX h = hC h) (hms : ms + hU h = hZ h) (hf : fX2_become a0 a1 h = some h9) : Met l yX2_become (wsM yX2_become cX2_become 4 none) (rmm 12 mc ms) (PcF E A h [rv a0, rv a1]) (QG (Qv E A h9) h h9) mc ms A := by
  refine met_ofA (by decide +kernel) (by simp [lg_sl, cat_rv, cat_wv, cat_sv, cat_i, cat_l, cat_a]) hmc hms (fun p e s m args below meth c ls X hr hlk hnm S AI hl => ?_)
  have hl : lv_has ls 4 [(0, rv a0), (1, rv a1)] := by simpa [lv_args, cat_rv, cat_wv, cat_sv, cat_i, cat_l, cat_a] using hl
  generalize hH : s.heap = H at S ⊢
  generalize hlo : ([] : List Loc) = locs at S ⊢
  clear hH hlo
  unfold fX2_become at hf
  obtain ⟨hth, hf⟩ := gd_some hf
  refine g_aload_n X (or_rv _) dX2_become_0 rfl (lv_at hl 0 rfl) ?_
  refine g_gR X S foX2_12 dX2_become_1 hf (fun v1 hf => ?_)
  refine g_aload_n X (or_rv _) dX2_become_4 rfl (lv_at hl 1 rfl) ?_
  refine g_gR X S foX2_12 dX2_become_5 hf (fun v2 hf => ?_)
  obtain ⟨h, hc, hok, hf⟩ := obk_some hf
  refine g_cv S (runV (As := [rv v2]) (rest := []) X S coX2_43 (by decide) (cX10_become_m l hc) (tkX10_become hc) rfl hl.1 (by decide) rfl AI.fit dX2_become_8) (fun H locs S => ?_)
  replace AI := AI.kc hok
  refine g_aload_n X (or_rv _) dX2_become_11 rfl (lv_at hl 0 rfl) ?_
  refine lv_iconst (v := 0) X.1 X.2.1 dX2_become_12 (by decide) ?_
  refine g_pI X S fpX2_36 (Or.inl rfl) dX2_become_13 hf (fun h H locs hm hf S => ?_)
  replace AI := AI.sm hm
  refine g_aload_n X (or_rv _) dX2_become_16 rfl (lv_at hl 0 rfl) ?_
  refine lv_iconst (v := 0) X.1 X.2.1 dX2_become_17 (by decide) ?_
  refine g_pI X S fpX2_29 (Or.inl rfl) dX2_become_18 hf (fun h H locs hm hf S => ?_)
  replace AI := AI.sm hm
  refine lv_iconst (v := 0) X.1 X.2.1 dX2_become_21 (by decide) ?_
  refine lv_istore_n (i := 2) (lv' := [(2, .int 0), (0, rv a0), (1, rv a1)]) X.1 X.2.1 dX2_become_22 rfl hl (by decide) (by simp [List.filter, cat_rv, cat_wv, cat_sv]) (fun ls hl => ?_)
  exact wfX2_become_23_l X hr hlk hnm FU _ _ _ _ _ _ _ _ _ (lv_sub hl [1, 2, 0] rfl) S AI hf
def fX12_image_18 (x0 : Nat) (h : Hp) : Option (Hp) := ob (gR 10 x0 11 h) fun v1 => ob (gR 10 x0 10 h) fun v2 => oba h (fX2_become v1 v2 h) fun h => ob (pZ 10 x0 12 1 h) fun h => some h
theorem wfX12_image_18 {h0 : Hp} {h9 : Hp} (X : Cx p E A 13 R s m args c cX12_image yX12_image.cls 1) (hr : meth.sig.returnType = none) (hlk : meth.locks = false) (hnm : meth.name = yX12_image.name) :
    ∀ (x0 : Nat) (h : Hp) (H : Heap) (locs : List Loc) (ls : Array Slot) (cells slots : Nat), lv_has ls 1 [(0, rv x0)] → St E A s h H locs → AlI R s h0 h cells slots → fX12_image_18 x0 h = some h9 → W p l e R s m args below meth c H locs cells slots (MQ below (QG (Qv E A h9) h0 h9) args s R.cells R.slots A) (F0 m 18 ls []) := by
  intro x0 h H locs ls cells slots hl S AI hf
  unfold fX12_image_18 at hf
  refine g_aload_n X (or_rv _) dX12_image_18 rfl (lv_at hl 0 rfl) ?_
  refine g_gR X S foX12_295 dX12_image_19 hf (fun v1 hf => ?_)
  refine g_aload_n X (or_rv _) dX12_image_22 rfl (lv_at hl 0 rfl) ?_
  refine g_gR X S foX12_61 dX12_image_23 hf (fun v2 hf => ?_)
  obtain ⟨h, hc, hok, hf⟩ := oba_some hf
  refine g_cvA S AI hok (fun hsz => runVF (As := [rv v2]) (rest := []) X S hsz coX12_298 (by decide) (cX2_become_m l AI.mcs.1 AI.mcs.2 hc) (tkX2_become hc) rfl hl.1 (by decide) rfl AI.room dX12_image_26) (fun H locs cells slots S AI => ?_)
  refine g_aload_n X (or_rv _) dX12_image_29 rfl (lv_at hl 0 rfl) ?_
  refine lv_iconst (v := 1) X.1 X.2.1 dX12_image_30 (by decide) ?_
  refine g_pZ X S fpX12_103 (Or.inl rfl) dX12_image_31 hf (fun h H locs hm hf S => ?_)
  replace AI := AI.sm hm
  cases hf; exact g_rvA X S AI hr hlk dX12_image_34
def fX12_image (a0 : Nat) (h : Hp) : Option (Hp) := gd 10 a0 h (ob (gR 10 a0 11 h) fun v1 => if v1 = 0 then ob2 (newO 2 7 h) fun p3 h => oba h (fX2_init p3 h) fun h => ob (pR 10 a0 11 p3 h) fun h => fX12_image_18 a0 h else fX12_image_18 a0 h)
theorem tkX12_image {a0 : Nat} {h : Hp} {r9 : Hp} (e : fX12_image a0 h = some r9) : hK h a0 = 10 := by
  unfold fX12_image at e
  exact (gd_some e).1
theorem cX12_image_m (l : Launch) {E : EE} {A : Nat → Prop} {a0 : Nat} {h : Hp} {h9 : Hp} {mc ms : Nat} (hmc : mc + hX h = hC h) (hms : ms + hU h = hZ h) (hf : fX12_image a0 h = some h9) : Met l yX12_image (wsM yX12_image cX12_image 1 none) (rmm 13 mc ms) (PcF E A h [rv a0]) (QG (Qv E A h9) h h9) mc ms A := by
  refine met_ofA (by decide +kernel) (by simp [lg_sl, cat_rv, cat_wv, cat_sv, cat_i, cat_l, cat_a]) hmc hms (fun p e s m args below meth c ls X hr hlk hnm S AI hl => ?_)
  have hl : lv_has ls 1 [(0, rv a0)] := by simpa [lv_args, cat_rv, cat_wv, cat_sv, cat_i, cat_l, cat_a] using hl
  generalize hH : s.heap = H at S ⊢
  generalize hlo : ([] : List Loc) = locs at S ⊢
  clear hH hlo
  unfold fX12_image at hf
  obtain ⟨hth, hf⟩ := gd_some hf
  refine g_aload_n X (or_rv _) dX12_image_0 rfl (lv_at hl 0 rfl) ?_
  refine g_gR X S foX12_295 dX12_image_1 hf (fun v1 hf => ?_)
  refine g_ifnonnull (tgt := 18) X dX12_image_4 (by decide) (fun c2 => ?_) (fun c2 => ?_)
  · replace hf := (if_neg c2).symm.trans hf
    exact wfX12_image_18 X hr hlk hnm _ _ _ _ _ _ _ hl S AI hf
  · replace hf := (if_pos c2).symm.trans hf
    refine g_aload_n X (or_rv _) dX12_image_7 rfl (lv_at hl 0 rfl) ?_
    refine g_newO X S AI noX12_58 dX12_image_8 hf (fun p3 h H cells slots hkp3 hf S AI => ?_)
    refine lv_dup X.1 X.2.1 dX12_image_11 (cat_rv _) ?_
    obtain ⟨h, hc, hok, hf⟩ := oba_some hf
    refine g_cvA S AI hok (fun hsz => runIF (As := []) (rest := [rv p3, rv a0]) X S hsz coX12_60 (by decide) (cX2_init_m l AI.mcs.1 AI.mcs.2 hc) (tkX2_init hc) (by decide) rfl hl.1 (by simp [cat_rv, cat_wv, cat_sv, cat_i, cat_l, cat_a]) rfl AI.room dX12_image_12) (fun H locs cells slots S AI => ?_)
    refine g_pR X S fpX12_295 (Or.inl ⟨_, rfl⟩) (Or.inl rfl) dX12_image_15 hf (fun h H locs hm hf S => ?_)
    replace AI := AI.sm hm
    exact wfX12_image_18 X hr hlk hnm _ _ _ _ _ _ _ hl S AI hf
def fX12_restore (a0 : Nat) (h : Hp) : Option (Int32 × Hp) := gd 10 a0 h (ob (gI 10 a0 12 h) fun v1 => if v1 = 0 then some (0, h) else ob (gR 10 a0 11 h) fun v3 => if v3 = 0 then some (0, h) else ob (gR 10 a0 10 h) fun v5 => ob (gR 10 a0 11 h) fun v6 => oba h (fX2_become v5 v6 h) fun h => some (1, h))
theorem tkX12_restore {a0 : Nat} {h : Hp} {r9 : Int32 × Hp} (e : fX12_restore a0 h = some r9) : hK h a0 = 10 := by
  unfold fX12_restore at e
  exact (gd_some e).1
theorem cX12_restore_m (l : Launch) {E : EE} {A : Nat → Prop} {a0 : Nat} {h : Hp} {r9 : Int32} {h9 : Hp} {mc ms : Nat} (hmc : mc + hX h = hC h) (hms : ms + hU h = hZ h) (hf : fX12_restore a0 h = some (r9, h9)) : Met l yX12_restore (wsM yX12_restore cX12_restore 1 (some .boolean)) (rmm 13 mc ms) (PcF E A h [rv a0]) (QG (Qi E A h9 r9) h h9) mc ms A := by
  refine met_ofA (by decide +kernel) (by simp [lg_sl, cat_rv, cat_wv, cat_sv, cat_i, cat_l, cat_a]) hmc hms (fun p e s m args below meth c ls X hr hlk hnm S AI hl => ?_)
  have hl : lv_has ls 1 [(0, rv a0)] := by simpa [lv_args, cat_rv, cat_wv, cat_sv, cat_i, cat_l, cat_a] using hl
  generalize hH : s.heap = H at S ⊢
  generalize hlo : ([] : List Loc) = locs at S ⊢
  clear hH hlo
  unfold fX12_restore at hf
  obtain ⟨hth, hf⟩ := gd_some hf
  refine g_aload_n X (or_rv _) dX12_restore_0 rfl (lv_at hl 0 rfl) ?_
  refine g_gI X S foX12_103 rfl dX12_restore_1 hf (fun v1 hf => ?_)
  refine lv_if_eq (tgt := 14) X.1 X.2.1 dX12_restore_4 (by decide) (fun c2 => ?_) (fun c2 => ?_)
  · replace hf := (if_pos c2).symm.trans hf
    refine lv_iconst (v := 0) X.1 X.2.1 dX12_restore_14 (by decide) ?_
    cases hf; exact g_rzA X S AI hr hlk (by decide) dX12_restore_15
  · replace hf := (if_neg c2).symm.trans hf
    refine g_aload_n X (or_rv _) dX12_restore_7 rfl (lv_at hl 0 rfl) ?_
    refine g_gR X S foX12_295 dX12_restore_8 hf (fun v3 hf => ?_)
    refine g_ifnonnull (tgt := 16) X dX12_restore_11 (by decide) (fun c4 => ?_) (fun c4 => ?_)
    · replace hf := (if_neg c4).symm.trans hf
      refine g_aload_n X (or_rv _) dX12_restore_16 rfl (lv_at hl 0 rfl) ?_
      refine g_gR X S foX12_61 dX12_restore_17 hf (fun v5 hf => ?_)
      refine g_aload_n X (or_rv _) dX12_restore_20 rfl (lv_at hl 0 rfl) ?_
      refine g_gR X S foX12_295 dX12_restore_21 hf (fun v6 hf => ?_)
      obtain ⟨h, hc, hok, hf⟩ := oba_some hf
      refine g_cvA S AI hok (fun hsz => runVF (As := [rv v6]) (rest := []) X S hsz coX12_298 (by decide) (cX2_become_m l AI.mcs.1 AI.mcs.2 hc) (tkX2_become hc) rfl hl.1 (by decide) rfl AI.room dX12_restore_24) (fun H locs cells slots S AI => ?_)
      refine lv_iconst (v := 1) X.1 X.2.1 dX12_restore_27 (by decide) ?_
      cases hf; exact g_rzA X S AI hr hlk (by decide) dX12_restore_28
    · replace hf := (if_pos c4).symm.trans hf
      refine lv_iconst (v := 0) X.1 X.2.1 dX12_restore_14 (by decide) ?_
      cases hf; exact g_rzA X S AI hr hlk (by decide) dX12_restore_15
end GM
