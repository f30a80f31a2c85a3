section GM
variable {p : Program} {l : Launch} {e : Env} {R : Room} {s : State} {m : MethodId} {args : Array Value} {below : List Frame} {meth : Method} {c : Code} {E : EE} {A : Nat → Prop}
def fX12_program_12 (h : Hp) : Option ((Nat ⊕ Int32) × Hp) := some (.inl 2, h)
theorem wfX12_program_12 {h0 : Hp} {r9 : Int32} {h9 : Hp} (X : Cx p E A 15 R s m args c cX12_program yX12_program.cls 3) (hr : meth.sig.returnType = (some .int)) (hlk : meth.locks = false) (hnm : meth.name = yX12_program.name) :
    ∀ (h : Hp) (H : Heap) (locs : List Loc) (ls : Array Slot) (cells slots : Nat), lv_has ls 3 [] → St E A s h H locs → AlI R s h0 h cells slots → fX12_program_12 h = some (.inr r9, h9) → W p l e R s m args below meth c H locs cells slots (MQ below (QG (Qi E A h9 r9) h0 h9) args s R.cells R.slots A) (F0 m 12 ls []) := by
  intro h H locs ls cells slots hl S AI hf
  unfold fX12_program_12 at hf
  cases hf
def fX12_program (a0 : Nat) (a1 : Int32) (h : Hp) : Option ((Nat ⊕ Int32) × Hp) := gd 10 a0 h (if a1 < 0 then fX12_program_12 h else ob (gI 10 a0 1 h) fun v2 => if a1 ≤ v2 then ob (pI 10 a0 1 0 h) fun h => ob (gR 10 a0 4 h) fun v4 => ob (gR 10 a0 0 h) fun v5 => ob (gR 10 a0 3 h) fun v6 => oba2 h (fX8_parse v4 v5 a1 v6 h) fun v7 h => if v7 = 0 then ob (pI 10 a0 2 (-1) h) fun h => ob (gR 10 a0 10 h) fun v9 => ob (gR 10 a0 3 h) fun v10 => obk h (fX2_renew v9 v10 h) fun h => ob (gR 10 a0 5 h) fun v12 => ob (gR 4 v12 0 h) fun v13 => ob (gR 10 a0 3 h) fun v14 => obk2 h (fX9_exchange v13 v14 h) fun v15 h => ob (pR 10 a0 3 v15 h) fun h => ob (pZ 10 a0 12 0 h) fun h => some (.inr 0, h) else ob (gR 10 a0 4 h) fun v16 => ob (fX8_faultPlace v16 h) fun v17 => ob (pI 10 a0 2 v17 h) fun h => ob (gR 10 a0 10 h) fun v18 => obk h (fX2_refuse v18 0 h) fun h => some (.inr v7, h) else fX12_program_12 h)
theorem tkX12_program {a0 : Nat} {a1 : Int32} {h : Hp} {r9 : (Nat ⊕ Int32) × Hp} (e : fX12_program a0 a1 h = some r9) : hK h a0 = 10 := by
  unfold fX12_program at e
  exact (gd_some e).1
theorem cX12_program_m (l : Launch) {E : EE} {A : Nat → Prop} {a0 : Nat} {a1 : Int32} {h : Hp} {r9 : Int32} {h9 : Hp} {mc ms : Nat} (hmc : mc + hX h = hC h) (hms : ms + hU h = hZ h) (hf : fX12_program a0 a1 h = some (.inr r9, h9)) : Met l yX12_program (wsM yX12_program cX12_program 3 (some .int)) (rmm 15 mc ms) (PcF E A h [rv a0, .int a1]) (QG (Qi E A h9 r9) h h9) mc ms A := by
  refine met_ofA (by decide +kernel) (by simp [lg_sl, cat_rv, cat_wv, cat_sv, cat_i, cat_l, cat_a]) hmc hms (fun p e s m args below meth c ls X hr hlk hnm S AI hl => ?_)
  have hl : lv_has ls 3 [(0, rv a0), (1, .int a1)] := by simpa [lv_args, cat_rv, cat_wv, cat_sv, cat_i, cat_l, cat_a] using hl
  generalize hH : s.heap = H at S ⊢
  generalize hlo : ([] : List Loc) = locs at S ⊢
  clear hH hlo
  unfold fX12_program at hf
  obtain ⟨hth, hf⟩ := gd_some hf
  refine lv_iload_n X.1 X.2.1 dX12_program_0 rfl (lv_at hl 1 rfl) ?_
  refine lv_if_lt (tgt := 12) X.1 X.2.1 dX12_program_1 (by decide) (fun c1 => ?_) (fun c1 => ?_)
  · replace hf := (if_pos c1).symm.trans hf
    exact wfX12_program_12 X hr hlk hnm _ _ _ _ _ _ (lv_sub hl [] rfl) S AI hf
  · replace hf := (if_neg c1).symm.trans hf
    refine lv_iload_n X.1 X.2.1 dX12_program_4 rfl (lv_at hl 1 rfl) ?_
    refine g_aload_n X (or_rv _) dX12_program_5 rfl (lv_at hl 0 rfl) ?_
    refine g_gI X S foX12_65 rfl dX12_program_6 hf (fun v2 hf => ?_)
    refine lv_icmp_le (tgt := 22) X.1 X.2.1 dX12_program_9 (by decide) (fun c3 => ?_) (fun c3 => ?_)
    · replace hf := (if_pos c3).symm.trans hf
      refine g_aload_n X (or_rv _) dX12_program_22 rfl (lv_at hl 0 rfl) ?_
      refine lv_iconst (v := 0) X.1 X.2.1 dX12_program_23 (by decide) ?_
      refine g_pI X S fpX12_65 (Or.inl rfl) dX12_program_24 hf (fun h H locs hm hf S => ?_)
      replace AI := AI.sm hm
      refine g_aload_n X (or_rv _) dX12_program_27 rfl (lv_at hl 0 rfl) ?_
      refine g_gR X S foX12_27 dX12_program_28 hf (fun v4 hf => ?_)
      refine g_aload_n X (or_rv _) dX12_program_31 rfl (lv_at hl 0 rfl) ?_
      refine g_gR X S foX12_9 dX12_program_32 hf (fun v5 hf => ?_)
      refine lv_iload_n X.1 X.2.1 dX12_program_35 rfl (lv_at hl 1 rfl) ?_
      refine g_aload_n X (or_rv _) dX12_program_36 rfl (lv_at hl 0 rfl) ?_
      refine g_gR X S foX12_20 dX12_program_37 hf (fun v6 hf => ?_)
      obtain ⟨v7, h, hc, hok, hf⟩ := oba2_some hf
      refine g_ciA S AI hok (fun hsz => runVF (As := [rv v5, .int a1, rv v6]) (rest := []) X S hsz coX12_79 (by decide) (cX8_parse_m l AI.mcs.1 AI.mcs.2 hc) (tkX8_parse hc) rfl hl.1 (by decide) rfl AI.room dX12_program_40) (fun H locs cells slots S AI => ?_)
      refine lv_istore_n (i := 2) (lv' := [(2, .int v7), (0, rv a0), (1, .int a1)]) X.1 X.2.1 dX12_program_43 rfl hl (by decide) rfl (fun ls hl => ?_)
      refine lv_iload_n X.1 X.2.1 dX12_program_44 rfl (lv_at hl 0 rfl) ?_
      refine lv_if_eq (tgt := 69) X.1 X.2.1 dX12_program_45 (by decide) (fun c8 => ?_) (fun c8 => ?_)
      · replace hf := (if_pos c8).symm.trans hf
        refine g_aload_n X (or_rv _) dX12_program_69 rfl (lv_at hl 1 rfl) ?_
        refine lv_iconst (v := (-1)) X.1 X.2.1 dX12_program_70 (by decide) ?_
        refine g_pI X S fpX12_13 (Or.inl rfl) dX12_program_71 hf (fun h H locs hm hf S => ?_)
        replace AI := AI.sm hm
        refine g_aload_n X (or_rv _) dX12_program_74 rfl (lv_at hl 1 rfl) ?_
        refine g_gR X S foX12_61 dX12_program_75 hf (fun v9 hf => ?_)
        refine g_aload_n X (or_rv _) dX12_program_78 rfl (lv_at hl 1 rfl) ?_
        refine g_gR X S foX12_20 dX12_program_79 hf (fun v10 hf => ?_)
        obtain ⟨h, hc, hok, hf⟩ := obk_some hf
        refine g_cv S (runV (As := [rv v10]) (rest := []) X S coX12_89 (by decide) (cX2_renew_m l hc) (tkX2_renew hc) rfl hl.1 (by decide) rfl AI.fit dX12_program_82) (fun H locs S => ?_)
        replace AI := AI.kc hok
        refine g_aload_n X (or_rv _) dX12_program_85 rfl (lv_at hl 1 rfl) ?_
        refine g_aload_n X (or_rv _) dX12_program_86 rfl (lv_at hl 1 rfl) ?_
        refine g_gR X S foX12_34 dX12_program_87 hf (fun v12 hf => ?_)
        refine g_gR X S foX12_93 dX12_program_90 hf (fun v13 hf => ?_)
        refine g_aload_n X (or_rv _) dX12_program_93 rfl (lv_at hl 1 rfl) ?_
        refine g_gR X S foX12_20 dX12_program_94 hf (fun v14 hf => ?_)
        obtain ⟨v15, h, hc, hok, hf⟩ := obk2_some hf
        refine g_cq S (runV (As := [rv v14]) (rest := [rv a0]) X S coX12_97 (by decide) (cX9_exchange_m l hc) (tkX9_exchange hc) rfl hl.1 (by simp [cat_rv, cat_wv, cat_sv, cat_i, cat_l, cat_a]) rfl AI.fit dX12_program_97) (fun H locs S => ?_)
        replace AI := AI.kc hok
        change W _ _ _ _ _ _ _ _ _ _ _ _ _ _ _ (F0 _ _ _ (rv v15 :: _))
        refine g_pR X S fpX12_20 (Or.inl ⟨_, rfl⟩) (Or.inl rfl) dX12_program_100 hf (fun h H locs hm hf S => ?_)
        replace AI := AI.sm hm
        refine g_aload_n X (or_rv _) dX12_program_103 rfl (lv_at hl 1 rfl) ?_
        refine lv_iconst (v := 0) X.1 X.2.1 dX12_program_104 (by decide) ?_
        refine g_pZ X S fpX12_103 (Or.inl rfl) dX12_program_105 hf (fun h H locs hm hf S => ?_)
        replace AI := AI.sm hm
        refine lv_iconst (v := 0) X.1 X.2.1 dX12_program_108 (by decide) ?_
        cases hf; exact g_riA X S AI hr hlk dX12_program_109
      · replace hf := (if_neg c8).symm.trans hf
        refine g_aload_n X (or_rv _) dX12_program_48 rfl (lv_at hl 1 rfl) ?_
        refine g_aload_n X (or_rv _) dX12_program_49 rfl (lv_at hl 1 rfl) ?_
        refine g_gR X S foX12_27 dX12_program_50 hf (fun v16 hf => ?_)
        obtain ⟨v17, hc, hf⟩ := ob_some hf
        refine g_ci S (runV (As := []) (rest := [rv a0]) X S coX12_83 (by decide) (cX8_faultPlace_m l hc) (tkX8_faultPlace hc) rfl hl.1 (by simp [cat_rv, cat_wv, cat_sv, cat_i, cat_l, cat_a]) rfl AI.fit dX12_program_53) (fun H locs S => ?_)
        refine g_pI X S fpX12_13 (Or.inl rfl) dX12_program_56 hf (fun h H locs hm hf S => ?_)
        replace AI := AI.sm hm
        refine g_aload_n X (or_rv _) dX12_program_59 rfl (lv_at hl 1 rfl) ?_
        refine g_gR X S foX12_61 dX12_program_60 hf (fun v18 hf => ?_)
        refine lv_iconst (v := 0) X.1 X.2.1 dX12_program_63 (by decide) ?_
        obtain ⟨h, hc, hok, hf⟩ := obk_some hf
        refine g_cv S (runV (As := [.int 0]) (rest := []) X S coX12_86 (by decide) (cX2_refuse_m l hc) (tkX2_refuse hc) rfl hl.1 (by decide) rfl AI.fit dX12_program_64) (fun H locs S => ?_)
        replace AI := AI.kc hok
        refine lv_iload_n X.1 X.2.1 dX12_program_67 rfl (lv_at hl 0 rfl) ?_
        cases hf; exact g_riA X S AI hr hlk dX12_program_68
    · replace hf := (if_neg c3).symm.trans hf
      exact wfX12_program_12 X hr hlk hnm _ _ _ _ _ _ (lv_sub hl [] rfl) S AI hf
theorem wfX12_program_12_x {k9 : Nat} {h9 : Hp} (X : Cx p E A 15 R s m args c cX12_program yX12_program.cls 3) (hr : meth.sig.returnType = (some .int)) (hlk : meth.locks = false) (hnm : meth.name = yX12_program.name) (hne : ∀ x ∈ c.exceptionTable.toList, False) (hlt : l.stackTraces = false) (hR1 : 0 + 1 ≤ R.cells ∧ 0 + 6 ≤ R.slots) :
    ∀ (h : Hp) (H : Heap) (locs : List Loc) (ls : Array Slot), lv_has ls 3 [] → St E A s h H locs → fX12_program_12 h = some (.inl k9, h9) → W p l e R s m args below meth c H locs 0 0 (vx_MQ below noQ (XX E A h9 k9) args s 1 6 A) (F0 m 12 ls []) := by
  intro h H locs ls hl S hf
  unfold fX12_program_12 at hf
  cases hf
  exact g_throw (rest := []) X S hne hlk hlt hl.1 (by decide) (by decide) tfX12_72_74 dX12_program_12 dX12_program_15 dX12_program_16 dX12_program_18 dX12_program_21 hR1
theorem cX12_program_x (l : Launch) (hlt : l.stackTraces = false) {E : EE} {A : Nat → Prop} {a0 : Nat} {a1 : Int32} {h : Hp} {k9 : Nat} {h9 : Hp} (hf : fX12_program a0 a1 h = some (.inl k9, h9)) : vx_Met l yX12_program (wsM yX12_program cX12_program 3 (some .int)) (rmm 15 1 6) (PcE E A h [rv a0, .int a1]) noQ (XX E A h9 k9) 1 6 A := by
  refine met_ofX (by decide +kernel) (by simp [lg_sl, cat_rv, cat_wv, cat_sv, cat_i, cat_l, cat_a]) (fun p e s m args below meth c ls X hr hlk hnm hne S hl => ?_)
  have hR1 : 0 + 1 ≤ (rmm 15 1 6).cells ∧ 0 + 6 ≤ (rmm 15 1 6).slots := ⟨Nat.le_refl _, Nat.le_refl _⟩
  have hl : lv_has ls 3 [(0, rv a0), (1, .int a1)] := by simpa [lv_args, cat_rv, cat_wv, cat_sv, cat_i, cat_l, cat_a] using hl
  generalize hH : s.heap = H at S ⊢
  generalize hlo : ([] : List Loc) = locs at S ⊢
  clear hH hlo
  unfold fX12_program at hf
  obtain ⟨hth, hf⟩ := gd_some hf
  refine lv_iload_n X.1 X.2.1 dX12_program_0 rfl (lv_at hl 1 rfl) ?_
  refine lv_if_lt (tgt := 12) X.1 X.2.1 dX12_program_1 (by decide) (fun c1 => ?_) (fun c1 => ?_)
  · replace hf := (if_pos c1).symm.trans hf
    exact wfX12_program_12_x X hr hlk hnm hne hlt hR1 _ _ _ _ (lv_sub hl [] rfl) S hf
  · replace hf := (if_neg c1).symm.trans hf
    refine lv_iload_n X.1 X.2.1 dX12_program_4 rfl (lv_at hl 1 rfl) ?_
    refine g_aload_n X (or_rv _) dX12_program_5 rfl (lv_at hl 0 rfl) ?_
    refine g_gI X S foX12_65 rfl dX12_program_6 hf (fun v2 hf => ?_)
    refine lv_icmp_le (tgt := 22) X.1 X.2.1 dX12_program_9 (by decide) (fun c3 => ?_) (fun c3 => ?_)
    · exfalso
      replace hf := (if_pos c3).symm.trans hf
      obtain ⟨_, _, hf⟩ := ob_some hf
      obtain ⟨_, _, hf⟩ := ob_some hf
      obtain ⟨_, _, hf⟩ := ob_some hf
      obtain ⟨_, _, hf⟩ := ob_some hf
      obtain ⟨v7, _, _, _, hf⟩ := oba2_some hf
      by_cases c8 : v7 = 0
      · replace hf := (if_pos c8).symm.trans hf
        obtain ⟨_, _, hf⟩ := ob_some hf
        obtain ⟨_, _, hf⟩ := ob_some hf
        obtain ⟨_, _, hf⟩ := ob_some hf
        obtain ⟨_, _, _, hf⟩ := obk_some hf
        obtain ⟨_, _, hf⟩ := ob_some hf
        obtain ⟨_, _, hf⟩ := ob_some hf
        obtain ⟨_, _, hf⟩ := ob_some hf
        obtain ⟨_, _, _, _, hf⟩ := obk2_some hf
        obtain ⟨_, _, hf⟩ := ob_some hf
        obtain ⟨_, _, hf⟩ := ob_some hf
        cases hf
      · replace hf := (if_neg c8).symm.trans hf
        obtain ⟨_, _, hf⟩ := ob_some hf
        obtain ⟨_, _, hf⟩ := ob_some hf
        obtain ⟨_, _, hf⟩ := ob_some hf
        obtain ⟨_, _, hf⟩ := ob_some hf
        obtain ⟨_, _, _, hf⟩ := obk_some hf
        cases hf
    · replace hf := (if_neg c3).symm.trans hf
      exact wfX12_program_12_x X hr hlk hnm hne hlt hR1 _ _ _ _ (lv_sub hl [] rfl) S hf
end GM
