section GM
variable {p : Program} {l : Launch} {e : Env} {R : Room} {s : State} {m : MethodId} {args : Array Value} {below : List Frame} {meth : Method} {c : Code} {E : EE} {A : Nat → Prop}
def fX13_readJump_94 (x0 : Nat) (h : Hp) : Option (Hp) := ob (fX13_readTarget x0 h) fun h => some h
theorem wfX13_readJump_94 {h9 : Hp} (X : Cx p E A 13 R s m args c cX13_readJump yX13_readJump.cls 3) (hr : meth.sig.returnType = none) (hlk : meth.locks = false) (hnm : meth.name = yX13_readJump.name) :
    ∀ (x0 : Nat) (h : Hp) (H : Heap) (locs : List Loc) (ls : Array Slot), lv_has ls 3 [(0, rv x0)] → St E A s h H locs → fX13_readJump_94 x0 h = some h9 → W p l e R s m args below meth c H locs 0 0 (MQ below (Qv E A h9) args s 0 0 A) (F0 m 94 ls []) := by
  intro x0 h H locs ls hl S hf
  unfold fX13_readJump_94 at hf
  refine g_aload_n X (or_rv _) dX13_readJump_94 rfl (lv_at hl 0 rfl) ?_
  obtain ⟨h, hc, hf⟩ := ob_some hf
  refine g_cv S (runV (As := []) (rest := []) X S coX13_314 (by decide) (cX13_readTarget_m l hc) (tkX13_readTarget hc) rfl hl.1 (by decide) rfl ⟨Nat.zero_le _, Nat.zero_le _⟩ dX13_readJump_95) (fun H locs S => ?_)
  cases hf; exact g_rv X S hr hlk dX13_readJump_98
def fX13_readJump_60 (x0 : Nat) (x1 : Int32) (h : Hp) : Option (Hp) := if x1 = 20 then fX13_readJump_94 x0 h else if x1 = 21 then fX13_readJump_94 x0 h else if x1 = 22 then ob (gI 11 x0 23 h) fun v4 => if v4 = 0 then ob (fX13_isMarked x0 59 h) fun v6 => if v6 = 0 then fX13_readJump_94 x0 h else some h else some h else some h
theorem wfX13_readJump_60 {h9 : Hp} (X : Cx p E A 13 R s m args c cX13_readJump yX13_readJump.cls 3) (hr : meth.sig.returnType = none) (hlk : meth.locks = false) (hnm : meth.name = yX13_readJump.name) :
    ∀ (x0 : Nat) (x1 : Int32) (h : Hp) (H : Heap) (locs : List Loc) (ls : Array Slot), lv_has ls 3 [(0, rv x0), (1, .int x1)] → St E A s h H locs → fX13_readJump_60 x0 x1 h = some h9 → W p l e R s m args below meth c H locs 0 0 (MQ below (Qv E A h9) args s 0 0 A) (F0 m 60 ls []) := by
  intro x0 x1 h H locs ls hl S hf
  unfold fX13_readJump_60 at hf
  refine lv_iload_n X.1 X.2.1 dX13_readJump_60 rfl (lv_at hl 1 rfl) ?_
  refine lv_bipush (v := 20) X.1 X.2.1 dX13_readJump_61 (by decide) ?_
  refine lv_icmp_eq (tgt := 94) X.1 X.2.1 dX13_readJump_63 (by decide) (fun c1 => ?_) (fun c1 => ?_)
  · replace hf := (if_pos c1).symm.trans hf
    exact wfX13_readJump_94 X hr hlk hnm _ _ _ _ _ (lv_sub hl [0] rfl) S hf
  · replace hf := (if_neg c1).symm.trans hf
    refine lv_iload_n X.1 X.2.1 dX13_readJump_66 rfl (lv_at hl 1 rfl) ?_
    refine lv_bipush (v := 21) X.1 X.2.1 dX13_readJump_67 (by decide) ?_
    refine lv_icmp_eq (tgt := 94) X.1 X.2.1 dX13_readJump_69 (by decide) (fun c2 => ?_) (fun c2 => ?_)
    · replace hf := (if_pos c2).symm.trans hf
      exact wfX13_readJump_94 X hr hlk hnm _ _ _ _ _ (lv_sub hl [0] rfl) S hf
    · replace hf := (if_neg c2).symm.trans hf
      refine lv_iload_n X.1 X.2.1 dX13_readJump_72 rfl (lv_at hl 1 rfl) ?_
      refine lv_bipush (v := 22) X.1 X.2.1 dX13_readJump_73 (by decide) ?_
      refine lv_icmp_ne (tgt := 98) X.1 X.2.1 dX13_readJump_75 (by decide) (fun c3 => ?_) (fun c3 => ?_)
      · replace hf := (if_neg c3).symm.trans hf
        cases hf; exact g_rv X S hr hlk dX13_readJump_98
      · replace hf := (if_pos c3).symm.trans hf
        refine g_aload_n X (or_rv _) dX13_readJump_78 rfl (lv_at hl 0 rfl) ?_
        refine g_gI X S foX13_231 rfl dX13_readJump_79 hf (fun v4 hf => ?_)
        refine lv_if_ne (tgt := 98) X.1 X.2.1 dX13_readJump_82 (by decide) (fun c5 => ?_) (fun c5 => ?_)
        · replace hf := (if_neg c5).symm.trans hf
          cases hf; exact g_rv X S hr hlk dX13_readJump_98
        · replace hf := (if_pos c5).symm.trans hf
          refine g_aload_n X (or_rv _) dX13_readJump_85 rfl (lv_at hl 0 rfl) ?_
          refine lv_bipush (v := 59) X.1 X.2.1 dX13_readJump_86 (by decide) ?_
          obtain ⟨v6, hc, hf⟩ := ob_some hf
          refine g_ci S (runV (As := [.int 59]) (rest := []) X S coX13_249 (by decide) (cX13_isMarked_m l hc) (tkX13_isMarked hc) rfl hl.1 (by decide) rfl ⟨Nat.zero_le _, Nat.zero_le _⟩ dX13_readJump_88) (fun H locs S => ?_)
          refine lv_if_ne (tgt := 98) X.1 X.2.1 dX13_readJump_91 (by decide) (fun c7 => ?_) (fun c7 => ?_)
          · replace hf := (if_neg c7).symm.trans hf
            cases hf; exact g_rv X S hr hlk dX13_readJump_98
          · replace hf := (if_pos c7).symm.trans hf
            exact wfX13_readJump_94 X hr hlk hnm _ _ _ _ _ (lv_sub hl [0] rfl) S hf
def fX13_readJump (a0 : Nat) (a1 : Int32) (a2 : Int32) (h : Hp) : Option (Hp) := gd 11 a0 h (if a1 = 20 then ob (gR 11 a0 9 h) fun v8 => ob2 (fX13_readRegister a0 h) fun v9 h => ob (qI v8 a2 v9 h) fun h => fX13_readJump_60 a0 a1 h else if a1 = 21 then ob (gR 11 a0 9 h) fun v6 => ob2 (fX13_readNumber a0 0 15 h) fun v7 h => ob (qI v6 a2 v7 h) fun h => fX13_readJump_60 a0 a1 h else if a1 = 22 then ob (gR 11 a0 9 h) fun v4 => ob2 (fX13_readNumber a0 1 8 h) fun v5 h => ob (qI v4 a2 v5 h) fun h => fX13_readJump_60 a0 a1 h else fX13_readJump_60 a0 a1 h)
theorem tkX13_readJump {a0 : Nat} {a1 : Int32} {a2 : Int32} {h : Hp} {r9 : Hp} (e : fX13_readJump a0 a1 a2 h = some r9) : hK h a0 = 11 := by
  unfold fX13_readJump at e
  exact (gd_some e).1
theorem cX13_readJump_m (l : Launch) {E : EE} {A : Nat → Prop} {a0 : Nat} {a1 : Int32} {a2 : Int32} {h : Hp} {h9 : Hp} (hf : fX13_readJump a0 a1 a2 h = some h9) : Met l yX13_readJump (wsM yX13_readJump cX13_readJump 3 none) (rmm 13 0 0) (PcE E A h [rv a0, .int a1, .int a2]) (Qv E A h9) 0 0 A := by
  refine met_of (by decide +kernel) (by simp [lg_sl, cat_rv, cat_wv, cat_sv, cat_i, cat_l, cat_a]) (fun p e s m args below meth c ls X hr hlk hnm S hl => ?_)
  have hl : lv_has ls 3 [(0, rv a0), (1, .int a1), (2, .int a2)] := by simpa [lv_args, cat_rv, cat_wv, cat_sv, cat_i, cat_l, cat_a] using hl
  generalize hH : s.heap = H at S ⊢
  generalize hlo : ([] : List Loc) = locs at S ⊢
  clear hH hlo
  unfold fX13_readJump at hf
  obtain ⟨hth, hf⟩ := gd_some hf
  refine lv_iload_n X.1 X.2.1 dX13_readJump_0 rfl (lv_at hl 1 rfl) ?_
  refine lv_bipush (v := 20) X.1 X.2.1 dX13_readJump_1 (by decide) ?_
  refine lv_icmp_ne (tgt := 19) X.1 X.2.1 dX13_readJump_3 (by decide) (fun c1 => ?_) (fun c1 => ?_)
  · replace hf := (if_neg c1).symm.trans hf
    refine lv_iload_n X.1 X.2.1 dX13_readJump_19 rfl (lv_at hl 1 rfl) ?_
    refine lv_bipush (v := 21) X.1 X.2.1 dX13_readJump_20 (by decide) ?_
    refine lv_icmp_ne (tgt := 41) X.1 X.2.1 dX13_readJump_22 (by decide) (fun c2 => ?_) (fun c2 => ?_)
    · replace hf := (if_neg c2).symm.trans hf
      refine lv_iload_n X.1 X.2.1 dX13_readJump_41 rfl (lv_at hl 1 rfl) ?_
      refine lv_bipush (v := 22) X.1 X.2.1 dX13_readJump_42 (by decide) ?_
      refine lv_icmp_ne (tgt := 60) X.1 X.2.1 dX13_readJump_44 (by decide) (fun c3 => ?_) (fun c3 => ?_)
      · replace hf := (if_neg c3).symm.trans hf
        exact wfX13_readJump_60 X hr hlk hnm _ _ _ _ _ _ (lv_sub hl [0, 1] rfl) S hf
      · replace hf := (if_pos c3).symm.trans hf
        refine g_aload_n X (or_rv _) dX13_readJump_47 rfl (lv_at hl 0 rfl) ?_
        refine g_gR X S foX13_95 dX13_readJump_48 hf (fun v4 hf => ?_)
        refine lv_iload_n X.1 X.2.1 dX13_readJump_51 rfl (lv_at hl 2 rfl) ?_
        refine g_aload_n X (or_rv _) dX13_readJump_52 rfl (lv_at hl 0 rfl) ?_
        refine lv_iconst (v := 1) X.1 X.2.1 dX13_readJump_53 (by decide) ?_
        refine lv_bipush (v := 8) X.1 X.2.1 dX13_readJump_54 (by decide) ?_
        obtain ⟨v5, h, hc, hf⟩ := ob2_some hf
        refine g_ci S (runV (As := [.int 1, .int 8]) (rest := [.int a2, rv v4]) X S coX13_291 (by decide) (cX13_readNumber_m l hc) (tkX13_readNumber hc) rfl hl.1 (by simp [cat_rv, cat_wv, cat_sv, cat_i, cat_l, cat_a]) rfl ⟨Nat.zero_le _, Nat.zero_le _⟩ dX13_readJump_56) (fun H locs S => ?_)
        refine g_qI X S dX13_readJump_59 hf (fun h H locs hm hf S => ?_)
        exact wfX13_readJump_60 X hr hlk hnm _ _ _ _ _ _ (lv_sub hl [0, 1] rfl) S hf
    · replace hf := (if_pos c2).symm.trans hf
      refine g_aload_n X (or_rv _) dX13_readJump_25 rfl (lv_at hl 0 rfl) ?_
      refine g_gR X S foX13_95 dX13_readJump_26 hf (fun v6 hf => ?_)
      refine lv_iload_n X.1 X.2.1 dX13_readJump_29 rfl (lv_at hl 2 rfl) ?_
      refine g_aload_n X (or_rv _) dX13_readJump_30 rfl (lv_at hl 0 rfl) ?_
      refine lv_iconst (v := 0) X.1 X.2.1 dX13_readJump_31 (by decide) ?_
      refine lv_bipush (v := 15) X.1 X.2.1 dX13_readJump_32 (by decide) ?_
      obtain ⟨v7, h, hc, hf⟩ := ob2_some hf
      refine g_ci S (runV (As := [.int 0, .int 15]) (rest := [.int a2, rv v6]) X S coX13_291 (by decide) (cX13_readNumber_m l hc) (tkX13_readNumber hc) rfl hl.1 (by simp [cat_rv, cat_wv, cat_sv, cat_i, cat_l, cat_a]) rfl ⟨Nat.zero_le _, Nat.zero_le _⟩ dX13_readJump_34) (fun H locs S => ?_)
      refine g_qI X S dX13_readJump_37 hf (fun h H locs hm hf S => ?_)
      refine lv_goto (tgt := 60) X.1 X.2.1 dX13_readJump_38 (by decide) ?_
      exact wfX13_readJump_60 X hr hlk hnm _ _ _ _ _ _ (lv_sub hl [0, 1] rfl) S hf
  · replace hf := (if_pos c1).symm.trans hf
    refine g_aload_n X (or_rv _) dX13_readJump_6 rfl (lv_at hl 0 rfl) ?_
    refine g_gR X S foX13_95 dX13_readJump_7 hf (fun v8 hf => ?_)
    refine lv_iload_n X.1 X.2.1 dX13_readJump_10 rfl (lv_at hl 2 rfl) ?_
    refine g_aload_n X (or_rv _) dX13_readJump_11 rfl (lv_at hl 0 rfl) ?_
    obtain ⟨v9, h, hc, hf⟩ := ob2_some hf
    refine g_ci S (runV (As := []) (rest := [.int a2, rv v8]) X S coX13_301 (by decide) (cX13_readRegister_m l hc) (tkX13_readRegister hc) rfl hl.1 (by simp [cat_rv, cat_wv, cat_sv, cat_i, cat_l, cat_a]) rfl ⟨Nat.zero_le _, Nat.zero_le _⟩ dX13_readJump_12) (fun H locs S => ?_)
    refine g_qI X S dX13_readJump_15 hf (fun h H locs hm hf S => ?_)
    refine lv_goto (tgt := 60) X.1 X.2.1 dX13_readJump_16 (by decide) ?_
    exact wfX13_readJump_60 X hr hlk hnm _ _ _ _ _ _ (lv_sub hl [0, 1] rfl) S hf
def fX13_readOperands_107 (x0 : Nat) (x2 : Int32) (y0 : Int32) (y1 : Int32) (y2 : Nat) (h : Hp) : Option (Hp) := ob (qI y2 y1 y0 h) fun h => ob (gR 11 x0 10 h) fun v1 => ob2 (fX13_readNumber x0 0 9 h) fun v2 h => ob (qI v1 x2 v2 h) fun h => some h
theorem wfX13_readOperands_107 {h9 : Hp} (X : Cx p E A 15 R s m args c cX13_readOperands yX13_readOperands.cls 5) (hr : meth.sig.returnType = none) (hlk : meth.locks = false) (hnm : meth.name = yX13_readOperands.name) :
    ∀ (x0 : Nat) (x2 : Int32) (y0 : Int32) (y1 : Int32) (y2 : Nat) (h : Hp) (H : Heap) (locs : List Loc) (ls : Array Slot), lv_has ls 5 [(0, rv x0), (2, .int x2)] → St E A s h H locs → fX13_readOperands_107 x0 x2 y0 y1 y2 h = some h9 → W p l e R s m args below meth c H locs 0 0 (MQ below (Qv E A h9) args s 0 0 A) (F0 m 107 ls [.int y0, .int y1, rv y2]) := by
  intro x0 x2 y0 y1 y2 h H locs ls hl S hf
  unfold fX13_readOperands_107 at hf
  refine g_qI X S dX13_readOperands_107 hf (fun h H locs hm hf S => ?_)
  refine g_aload_n X (or_rv _) dX13_readOperands_108 rfl (lv_at hl 0 rfl) ?_
  refine g_gR X S foX13_98 dX13_readOperands_109 hf (fun v1 hf => ?_)
  refine lv_iload_n X.1 X.2.1 dX13_readOperands_112 rfl (lv_at hl 1 rfl) ?_
  refine g_aload_n X (or_rv _) dX13_readOperands_113 rfl (lv_at hl 0 rfl) ?_
  refine lv_iconst (v := 0) X.1 X.2.1 dX13_readOperands_114 (by decide) ?_
  refine lv_bipush (v := 9) X.1 X.2.1 dX13_readOperands_115 (by decide) ?_
  obtain ⟨v2, h, hc, hf⟩ := ob2_some hf
  refine g_ci S (runV (As := [.int 0, .int 9]) (rest := [.int x2, rv v1]) X S coX13_291 (by decide) (cX13_readNumber_m l hc) (tkX13_readNumber hc) rfl hl.1 (by simp [cat_rv, cat_wv, cat_sv, cat_i, cat_l, cat_a]) rfl ⟨Nat.zero_le _, Nat.zero_le _⟩ dX13_readOperands_117) (fun H locs S => ?_)
  refine g_qI X S dX13_readOperands_120 hf (fun h H locs hm hf S => ?_)
  refine lv_goto (tgt := 224) X.1 X.2.1 dX13_readOperands_121 (by decide) ?_
  cases hf; exact g_rv X S hr hlk dX13_readOperands_224
def fX13_readOperands_85 (x0 : Nat) (x2 : Int32) (x3 : Int32) (y0 : Int32) (y1 : Int32) (y2 : Nat) (h : Hp) : Option (Hp) := ob2 (fX13_readNumber y2 y1 y0 h) fun v1 h => ob (gR 11 x0 9 h) fun v2 => if x3 = 0 then fX13_readOperands_107 x0 x2 v1 x2 v2 h else fX13_readOperands_107 x0 x2 (-v1) x2 v2 h
theorem wfX13_readOperands_85 {h9 : Hp} (X : Cx p E A 15 R s m args c cX13_readOperands yX13_readOperands.cls 5) (hr : meth.sig.returnType = none) (hlk : meth.locks = false) (hnm : meth.name = yX13_readOperands.name) :
    ∀ (x0 : Nat) (x2 : Int32) (x3 : Int32) (y0 : Int32) (y1 : Int32) (y2 : Nat) (h : Hp) (H : Heap) (locs : List Loc) (ls : Array Slot), lv_has ls 5 [(0, rv x0), (2, .int x2), (3, .int x3)] → St E A s h H locs → fX13_readOperands_85 x0 x2 x3 y0 y1 y2 h = some h9 → W p l e R s m args below meth c H locs 0 0 (MQ below (Qv E A h9) args s 0 0 A) (F0 m 85 ls [.int y0, .int y1, rv y2]) := by
  intro x0 x2 x3 y0 y1 y2 h H locs ls hl S hf
  unfold fX13_readOperands_85 at hf
  obtain ⟨v1, h, hc, hf⟩ := ob2_some hf
  refine g_ci S (runV (As := [.int y1, .int y0]) (rest := []) X S coX13_291 (by decide) (cX13_readNumber_m l hc) (tkX13_readNumber hc) rfl hl.1 (by decide) rfl ⟨Nat.zero_le _, Nat.zero_le _⟩ dX13_readOperands_85) (fun H locs S => ?_)
  refine lv_istore (lv' := [(4, .int v1), (0, rv x0), (2, .int x2), (3, .int x3)]) X.1 X.2.1 dX13_readOperands_88 hl (by decide) rfl (fun ls hl => ?_)
  refine g_aload_n X (or_rv _) dX13_readOperands_90 rfl (lv_at hl 1 rfl) ?_
  refine g_gR X S foX13_95 dX13_readOperands_91 hf (fun v2 hf => ?_)
  refine lv_iload_n X.1 X.2.1 dX13_readOperands_94 rfl (lv_at hl 2 rfl) ?_
  refine lv_iload_n X.1 X.2.1 dX13_readOperands_95 rfl (lv_at hl 3 rfl) ?_
  refine lv_if_eq (tgt := 105) X.1 X.2.1 dX13_readOperands_96 (by decide) (fun c3 => ?_) (fun c3 => ?_)
  · replace hf := (if_pos c3).symm.trans hf
    refine lv_iload X.1 X.2.1 dX13_readOperands_105 (lv_at hl 0 rfl) ?_
    exact wfX13_readOperands_107 X hr hlk hnm _ _ _ _ _ _ _ _ _ (lv_sub hl [1, 2] rfl) S hf
  · replace hf := (if_neg c3).symm.trans hf
    refine lv_iload X.1 X.2.1 dX13_readOperands_99 (lv_at hl 0 rfl) ?_
    refine lv_ineg X.1 X.2.1 dX13_readOperands_101 ?_
    refine lv_goto (tgt := 107) X.1 X.2.1 dX13_readOperands_102 (by decide) ?_
    exact wfX13_readOperands_107 X hr hlk hnm _ _ _ _ _ _ _ _ _ (lv_sub hl [1, 2] rfl) S hf
def fX13_readOperands_214 (y0 : Int32) (y1 : Int32) (y2 : Nat) (h : Hp) : Option (Hp) := ob (qI y2 y1 y0 h) fun h => some h
theorem wfX13_readOperands_214 {h9 : Hp} (X : Cx p E A 15 R s m args c cX13_readOperands yX13_readOperands.cls 5) (hr : meth.sig.returnType = none) (hlk : meth.locks = false) (hnm : meth.name = yX13_readOperands.name) :
    ∀ (y0 : Int32) (y1 : Int32) (y2 : Nat) (h : Hp) (H : Heap) (locs : List Loc) (ls : Array Slot), lv_has ls 5 [] → St E A s h H locs → fX13_readOperands_214 y0 y1 y2 h = some h9 → W p l e R s m args below meth c H locs 0 0 (MQ below (Qv E A h9) args s 0 0 A) (F0 m 214 ls [.int y0, .int y1, rv y2]) := by
  intro y0 y1 y2 h H locs ls hl S hf
  unfold fX13_readOperands_214 at hf
  refine g_qI X S dX13_readOperands_214 hf (fun h H locs hm hf S => ?_)
  refine lv_goto (tgt := 224) X.1 X.2.1 dX13_readOperands_215 (by decide) ?_
  cases hf; exact g_rv X S hr hlk dX13_readOperands_224
def fX13_readOperands (a0 : Nat) (a1 : Int32) (h : Hp) : Option (Hp) := gd 11 a0 h (ob (gI 11 a0 14 h) fun v1 => lt (60 + v1) fun z2 => if 8 < a1 then if 13 < a1 then if a1 = 14 then ob (fX13_readField a0 0 16 h) fun h => ob2 (fX13_passes a0 45 h) fun v21 h => if v21 = 0 then fX13_readOperands_85 a0 z2 v21 31 0 a0 h else fX13_readOperands_85 a0 z2 v21 32 0 a0 h else if a1 = 15 then ob (fX13_readField a0 0 16 h) fun h => some h else if 18 < a1 then if a1 = 19 then ob (gR 11 a0 9 h) fun v10 => ob2 (fX13_readRegister a0 h) fun v11 h => ob (qI v10 z2 v11 h) fun h => ob2 (fX13_passes a0 45 h) fun v12 h => ob2 (fX13_readNumber a0 0 9999 h) fun v13 h => ob (gR 11 a0 10 h) fun v14 => if v12 = 0 then fX13_readOperands_214 v13 z2 v14 h else fX13_readOperands_214 (-v13) z2 v14 h else ob (fX13_readJump a0 a1 z2 h) fun h => some h else ob (gR 11 a0 9 h) fun v16 => ob2 (fX13_readRegister a0 h) fun v17 h => ob (qI v16 z2 v17 h) fun h => ob (fX13_readAddress a0 0 h) fun h => some h else ob (fX13_readField a0 0 64 h) fun h => ob (fX13_readAddress a0 1 h) fun h => some h else ob (fX13_readField a0 0 16 h) fun h => ob (fX13_readField a0 1 16 h) fun h => some h)
theorem tkX13_readOperands {a0 : Nat} {a1 : Int32} {h : Hp} {r9 : Hp} (e : fX13_readOperands a0 a1 h = some r9) : hK h a0 = 11 := by
  unfold fX13_readOperands at e
  exact (gd_some e).1
theorem cX13_readOperands_m (l : Launch) {E : EE} {A : Nat → Prop} {a0 : Nat} {a1 : Int32} {h : Hp} {h9 : Hp} (hf : fX13_readOperands a0 a1 h = some h9) : Met l yX13_readOperands (wsM yX13_readOperands cX13_readOperands 5 none) (rmm 15 0 0) (PcE E A h [rv a0, .int a1]) (Qv E A h9) 0 0 A := by
  refine met_of (by decide +kernel) (by simp [lg_sl, cat_rv, cat_wv, cat_sv, cat_i, cat_l, cat_a]) (fun p e s m args below meth c ls X hr hlk hnm S hl => ?_)
  have hl : lv_has ls 5 [(0, rv a0), (1, .int a1)] := by simpa [lv_args, cat_rv, cat_wv, cat_sv, cat_i, cat_l, cat_a] using hl
  generalize hH : s.heap = H at S ⊢
  generalize hlo : ([] : List Loc) = locs at S ⊢
  clear hH hlo
  unfold fX13_readOperands at hf
  obtain ⟨hth, hf⟩ := gd_some hf
  refine lv_bipush (v := 60) X.1 X.2.1 dX13_readOperands_0 (by decide) ?_
  refine g_aload_n X (or_rv _) dX13_readOperands_2 rfl (lv_at hl 0 rfl) ?_
  refine g_gI X S foX13_259 rfl dX13_readOperands_3 hf (fun v1 hf => ?_)
  refine lv_iadd X.1 X.2.1 dX13_readOperands_6 ?_
  refine g_lti hf (fun z2 hf => ?_)
  refine lv_istore_n (i := 2) (lv' := [(2, .int z2), (0, rv a0), (1, .int a1)]) X.1 X.2.1 dX13_readOperands_7 rfl hl (by decide) rfl (fun ls hl => ?_)
  refine lv_iload_n X.1 X.2.1 dX13_readOperands_8 rfl (lv_at hl 2 rfl) ?_
  refine lv_bipush (v := 8) X.1 X.2.1 dX13_readOperands_9 (by decide) ?_
  refine lv_icmp_gt (tgt := 31) X.1 X.2.1 dX13_readOperands_11 (by decide) (fun c3 => ?_) (fun c3 => ?_)
  · replace hf := (if_pos c3).symm.trans hf
    refine lv_iload_n X.1 X.2.1 dX13_readOperands_31 rfl (lv_at hl 2 rfl) ?_
    refine lv_bipush (v := 13) X.1 X.2.1 dX13_readOperands_32 (by decide) ?_
    refine lv_icmp_gt (tgt := 52) X.1 X.2.1 dX13_readOperands_34 (by decide) (fun c4 => ?_) (fun c4 => ?_)
    · replace hf := (if_pos c4).symm.trans hf
      refine lv_iload_n X.1 X.2.1 dX13_readOperands_52 rfl (lv_at hl 2 rfl) ?_
      refine lv_bipush (v := 14) X.1 X.2.1 dX13_readOperands_53 (by decide) ?_
      refine lv_icmp_ne (tgt := 124) X.1 X.2.1 dX13_readOperands_55 (by decide) (fun c5 => ?_) (fun c5 => ?_)
      · replace hf := (if_neg c5).symm.trans hf
        refine lv_iload_n X.1 X.2.1 dX13_readOperands_124 rfl (lv_at hl 2 rfl) ?_
        refine lv_bipush (v := 15) X.1 X.2.1 dX13_readOperands_125 (by decide) ?_
        refine lv_icmp_ne (tgt := 140) X.1 X.2.1 dX13_readOperands_127 (by decide) (fun c6 => ?_) (fun c6 => ?_)
        · replace hf := (if_neg c6).symm.trans hf
          refine lv_iload_n X.1 X.2.1 dX13_readOperands_140 rfl (lv_at hl 2 rfl) ?_
          refine lv_bipush (v := 18) X.1 X.2.1 dX13_readOperands_141 (by decide) ?_
          refine lv_icmp_gt (tgt := 164) X.1 X.2.1 dX13_readOperands_143 (by decide) (fun c7 => ?_) (fun c7 => ?_)
          · replace hf := (if_pos c7).symm.trans hf
            refine lv_iload_n X.1 X.2.1 dX13_readOperands_164 rfl (lv_at hl 2 rfl) ?_
            refine lv_bipush (v := 19) X.1 X.2.1 dX13_readOperands_165 (by decide) ?_
            refine lv_icmp_ne (tgt := 218) X.1 X.2.1 dX13_readOperands_167 (by decide) (fun c8 => ?_) (fun c8 => ?_)
            · replace hf := (if_neg c8).symm.trans hf
              refine g_aload_n X (or_rv _) dX13_readOperands_218 rfl (lv_at hl 1 rfl) ?_
              refine lv_iload_n X.1 X.2.1 dX13_readOperands_219 rfl (lv_at hl 2 rfl) ?_
              refine lv_iload_n X.1 X.2.1 dX13_readOperands_220 rfl (lv_at hl 0 rfl) ?_
              obtain ⟨h, hc, hf⟩ := ob_some hf
              refine g_cv S (runV (As := [.int a1, .int z2]) (rest := []) X S coX13_311 (by decide) (cX13_readJump_m l hc) (tkX13_readJump hc) rfl hl.1 (by decide) rfl ⟨Nat.zero_le _, Nat.zero_le _⟩ dX13_readOperands_221) (fun H locs S => ?_)
              cases hf; exact g_rv X S hr hlk dX13_readOperands_224
            · replace hf := (if_pos c8).symm.trans hf
              refine g_aload_n X (or_rv _) dX13_readOperands_170 rfl (lv_at hl 1 rfl) ?_
              refine g_gR X S foX13_95 dX13_readOperands_171 hf (fun v10 hf => ?_)
              refine lv_iload_n X.1 X.2.1 dX13_readOperands_174 rfl (lv_at hl 0 rfl) ?_
              refine g_aload_n X (or_rv _) dX13_readOperands_175 rfl (lv_at hl 1 rfl) ?_
              obtain ⟨v11, h, hc, hf⟩ := ob2_some hf
              refine g_ci S (runV (As := []) (rest := [.int z2, rv v10]) X S coX13_301 (by decide) (cX13_readRegister_m l hc) (tkX13_readRegister hc) rfl hl.1 (by simp [cat_rv, cat_wv, cat_sv, cat_i, cat_l, cat_a]) rfl ⟨Nat.zero_le _, Nat.zero_le _⟩ dX13_readOperands_176) (fun H locs S => ?_)
              refine g_qI X S dX13_readOperands_179 hf (fun h H locs hm hf S => ?_)
              refine g_aload_n X (or_rv _) dX13_readOperands_180 rfl (lv_at hl 1 rfl) ?_
              refine lv_bipush (v := 45) X.1 X.2.1 dX13_readOperands_181 (by decide) ?_
              obtain ⟨v12, h, hc, hf⟩ := ob2_some hf
              refine g_ci S (runV (As := [.int 45]) (rest := []) X S coX13_282 (by decide) (cX13_passes_m l hc) (tkX13_passes hc) rfl hl.1 (by decide) rfl ⟨Nat.zero_le _, Nat.zero_le _⟩ dX13_readOperands_183) (fun H locs S => ?_)
              refine lv_istore_n (i := 3) (lv' := [(3, .int v12), (2, .int z2), (0, rv a0), (1, .int a1)]) X.1 X.2.1 dX13_readOperands_186 rfl hl (by decide) rfl (fun ls hl => ?_)
              refine g_aload_n X (or_rv _) dX13_readOperands_187 rfl (lv_at hl 2 rfl) ?_
              refine lv_iconst (v := 0) X.1 X.2.1 dX13_readOperands_188 (by decide) ?_
              refine lv_sipush (v := 9999) X.1 X.2.1 dX13_readOperands_189 (by decide) ?_
              obtain ⟨v13, h, hc, hf⟩ := ob2_some hf
              refine g_ci S (runV (As := [.int 0, .int 9999]) (rest := []) X S coX13_291 (by decide) (cX13_readNumber_m l hc) (tkX13_readNumber hc) rfl hl.1 (by decide) rfl ⟨Nat.zero_le _, Nat.zero_le _⟩ dX13_readOperands_192) (fun H locs S => ?_)
              refine lv_istore (lv' := [(4, .int v13), (3, .int v12), (2, .int z2), (0, rv a0), (1, .int a1)]) X.1 X.2.1 dX13_readOperands_195 hl (by decide) rfl (fun ls hl => ?_)
              refine g_aload_n X (or_rv _) dX13_readOperands_197 rfl (lv_at hl 3 rfl) ?_
              refine g_gR X S foX13_98 dX13_readOperands_198 hf (fun v14 hf => ?_)
              refine lv_iload_n X.1 X.2.1 dX13_readOperands_201 rfl (lv_at hl 2 rfl) ?_
              refine lv_iload_n X.1 X.2.1 dX13_readOperands_202 rfl (lv_at hl 1 rfl) ?_
              refine lv_if_eq (tgt := 212) X.1 X.2.1 dX13_readOperands_203 (by decide) (fun c15 => ?_) (fun c15 => ?_)
              · replace hf := (if_pos c15).symm.trans hf
                refine lv_iload X.1 X.2.1 dX13_readOperands_212 (lv_at hl 0 rfl) ?_
                exact wfX13_readOperands_214 X hr hlk hnm _ _ _ _ _ _ _ (lv_sub hl [] rfl) S hf
              · replace hf := (if_neg c15).symm.trans hf
                refine lv_iload X.1 X.2.1 dX13_readOperands_206 (lv_at hl 0 rfl) ?_
                refine lv_ineg X.1 X.2.1 dX13_readOperands_208 ?_
                refine lv_goto (tgt := 214) X.1 X.2.1 dX13_readOperands_209 (by decide) ?_
                exact wfX13_readOperands_214 X hr hlk hnm _ _ _ _ _ _ _ (lv_sub hl [] rfl) S hf
          · replace hf := (if_neg c7).symm.trans hf
            refine g_aload_n X (or_rv _) dX13_readOperands_146 rfl (lv_at hl 1 rfl) ?_
            refine g_gR X S foX13_95 dX13_readOperands_147 hf (fun v16 hf => ?_)
            refine lv_iload_n X.1 X.2.1 dX13_readOperands_150 rfl (lv_at hl 0 rfl) ?_
            refine g_aload_n X (or_rv _) dX13_readOperands_151 rfl (lv_at hl 1 rfl) ?_
            obtain ⟨v17, h, hc, hf⟩ := ob2_some hf
            refine g_ci S (runV (As := []) (rest := [.int z2, rv v16]) X S coX13_301 (by decide) (cX13_readRegister_m l hc) (tkX13_readRegister hc) rfl hl.1 (by simp [cat_rv, cat_wv, cat_sv, cat_i, cat_l, cat_a]) rfl ⟨Nat.zero_le _, Nat.zero_le _⟩ dX13_readOperands_152) (fun H locs S => ?_)
            refine g_qI X S dX13_readOperands_155 hf (fun h H locs hm hf S => ?_)
            refine g_aload_n X (or_rv _) dX13_readOperands_156 rfl (lv_at hl 1 rfl) ?_
            refine lv_iconst (v := 0) X.1 X.2.1 dX13_readOperands_157 (by decide) ?_
            obtain ⟨h, hc, hf⟩ := ob_some hf
            refine g_cv S (runV (As := [.int 0]) (rest := []) X S coX13_304 (by decide) (cX13_readAddress_m l hc) (tkX13_readAddress hc) rfl hl.1 (by decide) rfl ⟨Nat.zero_le _, Nat.zero_le _⟩ dX13_readOperands_158) (fun H locs S => ?_)
            refine lv_goto (tgt := 224) X.1 X.2.1 dX13_readOperands_161 (by decide) ?_
            cases hf; exact g_rv X S hr hlk dX13_readOperands_224
        · replace hf := (if_pos c6).symm.trans hf
          refine g_aload_n X (or_rv _) dX13_readOperands_130 rfl (lv_at hl 1 rfl) ?_
          refine lv_iconst (v := 0) X.1 X.2.1 dX13_readOperands_131 (by decide) ?_
          refine lv_bipush (v := 16) X.1 X.2.1 dX13_readOperands_132 (by decide) ?_
          obtain ⟨h, hc, hf⟩ := ob_some hf
          refine g_cv S (runV (As := [.int 0, .int 16]) (rest := []) X S coX13_307 (by decide) (cX13_readField_m l hc) (tkX13_readField hc) rfl hl.1 (by decide) rfl ⟨Nat.zero_le _, Nat.zero_le _⟩ dX13_readOperands_134) (fun H locs S => ?_)
          refine lv_goto (tgt := 224) X.1 X.2.1 dX13_readOperands_137 (by decide) ?_
          cases hf; exact g_rv X S hr hlk dX13_readOperands_224
      · replace hf := (if_pos c5).symm.trans hf
        refine g_aload_n X (or_rv _) dX13_readOperands_58 rfl (lv_at hl 1 rfl) ?_
        refine lv_iconst (v := 0) X.1 X.2.1 dX13_readOperands_59 (by decide) ?_
        refine lv_bipush (v := 16) X.1 X.2.1 dX13_readOperands_60 (by decide) ?_
        obtain ⟨h, hc, hf⟩ := ob_some hf
        refine g_cv S (runV (As := [.int 0, .int 16]) (rest := []) X S coX13_307 (by decide) (cX13_readField_m l hc) (tkX13_readField hc) rfl hl.1 (by decide) rfl ⟨Nat.zero_le _, Nat.zero_le _⟩ dX13_readOperands_62) (fun H locs S => ?_)
        refine g_aload_n X (or_rv _) dX13_readOperands_65 rfl (lv_at hl 1 rfl) ?_
        refine lv_bipush (v := 45) X.1 X.2.1 dX13_readOperands_66 (by decide) ?_
        obtain ⟨v21, h, hc, hf⟩ := ob2_some hf
        refine g_ci S (runV (As := [.int 45]) (rest := []) X S coX13_282 (by decide) (cX13_passes_m l hc) (tkX13_passes hc) rfl hl.1 (by decide) rfl ⟨Nat.zero_le _, Nat.zero_le _⟩ dX13_readOperands_68) (fun H locs S => ?_)
        refine lv_istore_n (i := 3) (lv' := [(3, .int v21), (2, .int z2), (0, rv a0), (1, .int a1)]) X.1 X.2.1 dX13_readOperands_71 rfl hl (by decide) rfl (fun ls hl => ?_)
        refine g_aload_n X (or_rv _) dX13_readOperands_72 rfl (lv_at hl 2 rfl) ?_
        refine lv_iconst (v := 0) X.1 X.2.1 dX13_readOperands_73 (by decide) ?_
        refine lv_iload_n X.1 X.2.1 dX13_readOperands_74 rfl (lv_at hl 0 rfl) ?_
        refine lv_if_eq (tgt := 83) X.1 X.2.1 dX13_readOperands_75 (by decide) (fun c22 => ?_) (fun c22 => ?_)
        · replace hf := (if_pos c22).symm.trans hf
          refine lv_bipush (v := 31) X.1 X.2.1 dX13_readOperands_83 (by decide) ?_
          exact wfX13_readOperands_85 X hr hlk hnm _ _ _ _ _ _ _ _ _ _ (lv_sub hl [2, 1, 0] rfl) S hf
        · replace hf := (if_neg c22).symm.trans hf
          refine lv_bipush (v := 32) X.1 X.2.1 dX13_readOperands_78 (by decide) ?_
          refine lv_goto (tgt := 85) X.1 X.2.1 dX13_readOperands_80 (by decide) ?_
          exact wfX13_readOperands_85 X hr hlk hnm _ _ _ _ _ _ _ _ _ _ (lv_sub hl [2, 1, 0] rfl) S hf
    · replace hf := (if_neg c4).symm.trans hf
      refine g_aload_n X (or_rv _) dX13_readOperands_37 rfl (lv_at hl 1 rfl) ?_
      refine lv_iconst (v := 0) X.1 X.2.1 dX13_readOperands_38 (by decide) ?_
      refine lv_bipush (v := 64) X.1 X.2.1 dX13_readOperands_39 (by decide) ?_
      obtain ⟨h, hc, hf⟩ := ob_some hf
      refine g_cv S (runV (As := [.int 0, .int 64]) (rest := []) X S coX13_307 (by decide) (cX13_readField_m l hc) (tkX13_readField hc) rfl hl.1 (by decide) rfl ⟨Nat.zero_le _, Nat.zero_le _⟩ dX13_readOperands_41) (fun H locs S => ?_)
      refine g_aload_n X (or_rv _) dX13_readOperands_44 rfl (lv_at hl 1 rfl) ?_
      refine lv_iconst (v := 1) X.1 X.2.1 dX13_readOperands_45 (by decide) ?_
      obtain ⟨h, hc, hf⟩ := ob_some hf
      refine g_cv S (runV (As := [.int 1]) (rest := []) X S coX13_304 (by decide) (cX13_readAddress_m l hc) (tkX13_readAddress hc) rfl hl.1 (by decide) rfl ⟨Nat.zero_le _, Nat.zero_le _⟩ dX13_readOperands_46) (fun H locs S => ?_)
      refine lv_goto (tgt := 224) X.1 X.2.1 dX13_readOperands_49 (by decide) ?_
      cases hf; exact g_rv X S hr hlk dX13_readOperands_224
  · replace hf := (if_neg c3).symm.trans hf
    refine g_aload_n X (or_rv _) dX13_readOperands_14 rfl (lv_at hl 1 rfl) ?_
    refine lv_iconst (v := 0) X.1 X.2.1 dX13_readOperands_15 (by decide) ?_
    refine lv_bipush (v := 16) X.1 X.2.1 dX13_readOperands_16 (by decide) ?_
    obtain ⟨h, hc, hf⟩ := ob_some hf
    refine g_cv S (runV (As := [.int 0, .int 16]) (rest := []) X S coX13_307 (by decide) (cX13_readField_m l hc) (tkX13_readField hc) rfl hl.1 (by decide) rfl ⟨Nat.zero_le _, Nat.zero_le _⟩ dX13_readOperands_18) (fun H locs S => ?_)
    refine g_aload_n X (or_rv _) dX13_readOperands_21 rfl (lv_at hl 1 rfl) ?_
    refine lv_iconst (v := 1) X.1 X.2.1 dX13_readOperands_22 (by decide) ?_
    refine lv_bipush (v := 16) X.1 X.2.1 dX13_readOperands_23 (by decide) ?_
    obtain ⟨h, hc, hf⟩ := ob_some hf
    refine g_cv S (runV (As := [.int 1, .int 16]) (rest := []) X S coX13_307 (by decide) (cX13_readField_m l hc) (tkX13_readField hc) rfl hl.1 (by decide) rfl ⟨Nat.zero_le _, Nat.zero_le _⟩ dX13_readOperands_25) (fun H locs S => ?_)
    refine lv_goto (tgt := 224) X.1 X.2.1 dX13_readOperands_28 (by decide) ?_
    cases hf; exact g_rv X S hr hlk dX13_readOperands_224
def fX13_readInstruction_83 (x0 : Nat) (x1 : Int32) (h : Hp) : Option (Hp) := ob (gI 11 x0 23 h) fun v1 => if v1 = 0 then ob (fX13_stepOn x0 h) fun h => ob (gR 11 x0 5 h) fun v4 => ob (gI 11 x0 14 h) fun v5 => ob (qI v4 (60 + v5) x1 h) fun h => ob (fX13_readOperands x0 x1 h) fun h => ob (gI 11 x0 14 h) fun v7 => ob (pI 11 x0 14 (v7 + 1) h) fun h => some h else some h
theorem wfX13_readInstruction_83 {h9 : Hp} (X : Cx p E A 16 R s m args c cX13_readInstruction yX13_readInstruction.cls 2) (hr : meth.sig.returnType = none) (hlk : meth.locks = false) (hnm : meth.name = yX13_readInstruction.name) :
    ∀ (x0 : Nat) (x1 : Int32) (h : Hp) (H : Heap) (locs : List Loc) (ls : Array Slot), lv_has ls 2 [(0, rv x0), (1, .int x1)] → St E A s h H locs → fX13_readInstruction_83 x0 x1 h = some h9 → W p l e R s m args below meth c H locs 0 0 (MQ below (Qv E A h9) args s 0 0 A) (F0 m 83 ls []) := by
  intro x0 x1 h H locs ls hl S hf
  unfold fX13_readInstruction_83 at hf
  refine g_aload_n X (or_rv _) dX13_readInstruction_83 rfl (lv_at hl 0 rfl) ?_
  refine g_gI X S foX13_231 rfl dX13_readInstruction_84 hf (fun v1 hf => ?_)
  refine lv_if_eq (tgt := 91) X.1 X.2.1 dX13_readInstruction_87 (by decide) (fun c2 => ?_) (fun c2 => ?_)
  · replace hf := (if_pos c2).symm.trans hf
    refine g_aload_n X (or_rv _) dX13_readInstruction_91 rfl (lv_at hl 0 rfl) ?_
    obtain ⟨h, hc, hf⟩ := ob_some hf
    refine g_cv S (runV (As := []) (rest := []) X S coX13_252 (by decide) (cX13_stepOn_m l hc) (tkX13_stepOn hc) rfl hl.1 (by decide) rfl ⟨Nat.zero_le _, Nat.zero_le _⟩ dX13_readInstruction_92) (fun H locs S => ?_)
    refine g_aload_n X (or_rv _) dX13_readInstruction_95 rfl (lv_at hl 0 rfl) ?_
    refine g_gR X S foX13_83 dX13_readInstruction_96 hf (fun v4 hf => ?_)
    refine lv_bipush (v := 60) X.1 X.2.1 dX13_readInstruction_99 (by decide) ?_
    refine g_aload_n X (or_rv _) dX13_readInstruction_101 rfl (lv_at hl 0 rfl) ?_
    refine g_gI X S foX13_259 rfl dX13_readInstruction_102 hf (fun v5 hf => ?_)
    refine lv_iadd X.1 X.2.1 dX13_readInstruction_105 ?_
    refine lv_iload_n X.1 X.2.1 dX13_readInstruction_106 rfl (lv_at hl 1 rfl) ?_
    refine g_qI X S dX13_readInstruction_107 hf (fun h H locs hm hf S => ?_)
    refine g_aload_n X (or_rv _) dX13_readInstruction_108 rfl (lv_at hl 0 rfl) ?_
    refine lv_iload_n X.1 X.2.1 dX13_readInstruction_109 rfl (lv_at hl 1 rfl) ?_
    obtain ⟨h, hc, hf⟩ := ob_some hf
    refine g_cv S (runV (As := [.int x1]) (rest := []) X S coX13_320 (by decide) (cX13_readOperands_m l hc) (tkX13_readOperands hc) rfl hl.1 (by decide) rfl ⟨Nat.zero_le _, Nat.zero_le _⟩ dX13_readInstruction_110) (fun H locs S => ?_)
    refine g_aload_n X (or_rv _) dX13_readInstruction_113 rfl (lv_at hl 0 rfl) ?_
    refine lv_dup X.1 X.2.1 dX13_readInstruction_114 (cat_rv _) ?_
    refine g_gI X S foX13_259 rfl dX13_readInstruction_115 hf (fun v7 hf => ?_)
    refine lv_iconst (v := 1) X.1 X.2.1 dX13_readInstruction_118 (by decide) ?_
    refine lv_iadd X.1 X.2.1 dX13_readInstruction_119 ?_
    refine g_pI X S fpX13_259 (Or.inl rfl) dX13_readInstruction_120 hf (fun h H locs hm hf S => ?_)
    cases hf; exact g_rv X S hr hlk dX13_readInstruction_123
  · replace hf := (if_neg c2).symm.trans hf
    cases hf; exact g_rv X S hr hlk dX13_readInstruction_90
def fX13_readInstruction_62 (x0 : Nat) (x1 : Int32) (h : Hp) : Option (Hp) := ob (gI 11 x0 23 h) fun v1 => if v1 = 0 then ob (gI 11 x0 14 h) fun v3 => if v3 = 60 then ob (fX13_wrong x0 2 h) fun h => fX13_readInstruction_83 x0 x1 h else fX13_readInstruction_83 x0 x1 h else fX13_readInstruction_83 x0 x1 h
theorem wfX13_readInstruction_62 {h9 : Hp} (X : Cx p E A 16 R s m args c cX13_readInstruction yX13_readInstruction.cls 2) (hr : meth.sig.returnType = none) (hlk : meth.locks = false) (hnm : meth.name = yX13_readInstruction.name) :
    ∀ (x0 : Nat) (x1 : Int32) (h : Hp) (H : Heap) (locs : List Loc) (ls : Array Slot), lv_has ls 2 [(0, rv x0), (1, .int x1)] → St E A s h H locs → fX13_readInstruction_62 x0 x1 h = some h9 → W p l e R s m args below meth c H locs 0 0 (MQ below (Qv E A h9) args s 0 0 A) (F0 m 62 ls []) := by
  intro x0 x1 h H locs ls hl S hf
  unfold fX13_readInstruction_62 at hf
  refine g_aload_n X (or_rv _) dX13_readInstruction_62 rfl (lv_at hl 0 rfl) ?_
  refine g_gI X S foX13_231 rfl dX13_readInstruction_63 hf (fun v1 hf => ?_)
  refine lv_if_ne (tgt := 83) X.1 X.2.1 dX13_readInstruction_66 (by decide) (fun c2 => ?_) (fun c2 => ?_)
  · replace hf := (if_neg c2).symm.trans hf
    exact wfX13_readInstruction_83 X hr hlk hnm _ _ _ _ _ _ hl S hf
  · replace hf := (if_pos c2).symm.trans hf
    refine g_aload_n X (or_rv _) dX13_readInstruction_69 rfl (lv_at hl 0 rfl) ?_
    refine g_gI X S foX13_259 rfl dX13_readInstruction_70 hf (fun v3 hf => ?_)
    refine lv_bipush (v := 60) X.1 X.2.1 dX13_readInstruction_73 (by decide) ?_
    refine lv_icmp_ne (tgt := 83) X.1 X.2.1 dX13_readInstruction_75 (by decide) (fun c4 => ?_) (fun c4 => ?_)
    · replace hf := (if_neg c4).symm.trans hf
      exact wfX13_readInstruction_83 X hr hlk hnm _ _ _ _ _ _ hl S hf
    · replace hf := (if_pos c4).symm.trans hf
      refine g_aload_n X (or_rv _) dX13_readInstruction_78 rfl (lv_at hl 0 rfl) ?_
      refine lv_iconst (v := 2) X.1 X.2.1 dX13_readInstruction_79 (by decide) ?_
      obtain ⟨h, hc, hf⟩ := ob_some hf
      refine g_cv S (runV (As := [.int 2]) (rest := []) X S coX13_255 (by decide) (cX13_wrong_m l hc) (tkX13_wrong hc) rfl hl.1 (by decide) rfl ⟨Nat.zero_le _, Nat.zero_le _⟩ dX13_readInstruction_80) (fun H locs S => ?_)
      exact wfX13_readInstruction_83 X hr hlk hnm _ _ _ _ _ _ hl S hf
def fX13_readInstruction_36 (x0 : Nat) (h : Hp) : Option (Hp) := ob (gR 11 x0 0 h) fun v1 => ob (fX13_which x0 v1 h) fun v2 => ob (gI 11 x0 23 h) fun v3 => if v3 = 0 then if v2 = (-1) then ob (fX13_wrong x0 1 h) fun h => fX13_readInstruction_62 x0 v2 h else fX13_readInstruction_62 x0 v2 h else fX13_readInstruction_62 x0 v2 h
theorem wfX13_readInstruction_36 {h9 : Hp} (X : Cx p E A 16 R s m args c cX13_readInstruction yX13_readInstruction.cls 2) (hr : meth.sig.returnType = none) (hlk : meth.locks = false) (hnm : meth.name = yX13_readInstruction.name) :
    ∀ (x0 : Nat) (h : Hp) (H : Heap) (locs : List Loc) (ls : Array Slot), lv_has ls 2 [(0, rv x0)] → St E A s h H locs → fX13_readInstruction_36 x0 h = some h9 → W p l e R s m args below meth c H locs 0 0 (MQ below (Qv E A h9) args s 0 0 A) (F0 m 36 ls []) := by
  intro x0 h H locs ls hl S hf
  unfold fX13_readInstruction_36 at hf
  refine g_aload_n X (or_rv _) dX13_readInstruction_36 rfl (lv_at hl 0 rfl) ?_
  refine g_aload_n X (or_rv _) dX13_readInstruction_37 rfl (lv_at hl 0 rfl) ?_
  refine g_gR X S foX13_59 dX13_readInstruction_38 hf (fun v1 hf => ?_)
  obtain ⟨v2, hc, hf⟩ := ob_some hf
  refine g_ci S (runV (As := [rv v1]) (rest := []) X S coX13_266 (by decide) (cX13_which_m l hc) (tkX13_which hc) rfl hl.1 (by decide) rfl ⟨Nat.zero_le _, Nat.zero_le _⟩ dX13_readInstruction_41) (fun H locs S => ?_)
  refine lv_istore_n (i := 1) (lv' := [(1, .int v2), (0, rv x0)]) X.1 X.2.1 dX13_readInstruction_44 rfl hl (by decide) (by simp [List.filter, cat_rv, cat_wv, cat_sv]) (fun ls hl => ?_)
  refine g_aload_n X (or_rv _) dX13_readInstruction_45 rfl (lv_at hl 1 rfl) ?_
  refine g_gI X S foX13_231 rfl dX13_readInstruction_46 hf (fun v3 hf => ?_)
  refine lv_if_ne (tgt := 62) X.1 X.2.1 dX13_readInstruction_49 (by decide) (fun c4 => ?_) (fun c4 => ?_)
  · replace hf := (if_neg c4).symm.trans hf
    exact wfX13_readInstruction_62 X hr hlk hnm _ _ _ _ _ _ (lv_sub hl [1, 0] rfl) S hf
  · replace hf := (if_pos c4).symm.trans hf
    refine lv_iload_n X.1 X.2.1 dX13_readInstruction_52 rfl (lv_at hl 0 rfl) ?_
    refine lv_iconst (v := (-1)) X.1 X.2.1 dX13_readInstruction_53 (by decide) ?_
    refine lv_icmp_ne (tgt := 62) X.1 X.2.1 dX13_readInstruction_54 (by decide) (fun c5 => ?_) (fun c5 => ?_)
    · replace hf := (if_neg c5).symm.trans hf
      exact wfX13_readInstruction_62 X hr hlk hnm _ _ _ _ _ _ (lv_sub hl [1, 0] rfl) S hf
    · replace hf := (if_pos c5).symm.trans hf
      refine g_aload_n X (or_rv _) dX13_readInstruction_57 rfl (lv_at hl 1 rfl) ?_
      refine lv_iconst (v := 1) X.1 X.2.1 dX13_readInstruction_58 (by decide) ?_
      obtain ⟨h, hc, hf⟩ := ob_some hf
      refine g_cv S (runV (As := [.int 1]) (rest := []) X S coX13_255 (by decide) (cX13_wrong_m l hc) (tkX13_wrong hc) rfl hl.1 (by decide) rfl ⟨Nat.zero_le _, Nat.zero_le _⟩ dX13_readInstruction_59) (fun H locs S => ?_)
      exact wfX13_readInstruction_62 X hr hlk hnm _ _ _ _ _ _ (lv_sub hl [1, 0] rfl) S hf
def fX13_readInstruction (a0 : Nat) (h : Hp) : Option (Hp) := gd 11 a0 h (ob (gR 11 a0 27 h) fun v1 => ob (gI 11 a0 14 h) fun v2 => ob (qI v1 v2 0 h) fun h => ob (gR 11 a0 29 h) fun v3 => ob (gI 11 a0 14 h) fun v4 => ob (qI v3 v4 0 h) fun h => ob (gR 11 a0 0 h) fun v5 => ob (fX13_which a0 v5 h) fun v6 => if v6 = (-1) then ob (fX13_readLabel a0 h) fun h => fX13_readInstruction_36 a0 h else fX13_readInstruction_36 a0 h)
theorem tkX13_readInstruction {a0 : Nat} {h : Hp} {r9 : Hp} (e : fX13_readInstruction a0 h = some r9) : hK h a0 = 11 := by
  unfold fX13_readInstruction at e
  exact (gd_some e).1
theorem cX13_readInstruction_m (l : Launch) {E : EE} {A : Nat → Prop} {a0 : Nat} {h : Hp} {h9 : Hp} (hf : fX13_readInstruction a0 h = some h9) : Met l yX13_readInstruction (wsM yX13_readInstruction cX13_readInstruction 2 none) (rmm 16 0 0) (PcE E A h [rv a0]) (Qv E A h9) 0 0 A := by
  refine met_of (by decide +kernel) (by simp [lg_sl, cat_rv, cat_wv, cat_sv, cat_i, cat_l, cat_a]) (fun p e s m args below meth c ls X hr hlk hnm S hl => ?_)
  have hl : lv_has ls 2 [(0, rv a0)] := by simpa [lv_args, cat_rv, cat_wv, cat_sv, cat_i, cat_l, cat_a] using hl
  generalize hH : s.heap = H at S ⊢
  generalize hlo : ([] : List Loc) = locs at S ⊢
  clear hH hlo
  unfold fX13_readInstruction at hf
  obtain ⟨hth, hf⟩ := gd_some hf
  refine g_aload_n X (or_rv _) dX13_readInstruction_0 rfl (lv_at hl 0 rfl) ?_
  refine g_gR X S foX13_117 dX13_readInstruction_1 hf (fun v1 hf => ?_)
  refine g_aload_n X (or_rv _) dX13_readInstruction_4 rfl (lv_at hl 0 rfl) ?_
  refine g_gI X S foX13_259 rfl dX13_readInstruction_5 hf (fun v2 hf => ?_)
  refine lv_iconst (v := 0) X.1 X.2.1 dX13_readInstruction_8 (by decide) ?_
  refine g_qI X S dX13_readInstruction_9 hf (fun h H locs hm hf S => ?_)
  refine g_aload_n X (or_rv _) dX13_readInstruction_10 rfl (lv_at hl 0 rfl) ?_
  refine g_gR X S foX13_123 dX13_readInstruction_11 hf (fun v3 hf => ?_)
  refine g_aload_n X (or_rv _) dX13_readInstruction_14 rfl (lv_at hl 0 rfl) ?_
  refine g_gI X S foX13_259 rfl dX13_readInstruction_15 hf (fun v4 hf => ?_)
  refine lv_iconst (v := 0) X.1 X.2.1 dX13_readInstruction_18 (by decide) ?_
  refine g_qI X S dX13_readInstruction_19 hf (fun h H locs hm hf S => ?_)
  refine g_aload_n X (or_rv _) dX13_readInstruction_20 rfl (lv_at hl 0 rfl) ?_
  refine g_aload_n X (or_rv _) dX13_readInstruction_21 rfl (lv_at hl 0 rfl) ?_
  refine g_gR X S foX13_59 dX13_readInstruction_22 hf (fun v5 hf => ?_)
  obtain ⟨v6, hc, hf⟩ := ob_some hf
  refine g_ci S (runV (As := [rv v5]) (rest := []) X S coX13_266 (by decide) (cX13_which_m l hc) (tkX13_which hc) rfl hl.1 (by decide) rfl ⟨Nat.zero_le _, Nat.zero_le _⟩ dX13_readInstruction_25) (fun H locs S => ?_)
  refine lv_iconst (v := (-1)) X.1 X.2.1 dX13_readInstruction_28 (by decide) ?_
  refine lv_icmp_ne (tgt := 36) X.1 X.2.1 dX13_readInstruction_29 (by decide) (fun c7 => ?_) (fun c7 => ?_)
  · replace hf := (if_neg c7).symm.trans hf
    exact wfX13_readInstruction_36 X hr hlk hnm _ _ _ _ _ hl S hf
  · replace hf := (if_pos c7).symm.trans hf
    refine g_aload_n X (or_rv _) dX13_readInstruction_32 rfl (lv_at hl 0 rfl) ?_
    obtain ⟨h, hc, hf⟩ := ob_some hf
    refine g_cv S (runV (As := []) (rest := []) X S coX13_317 (by decide) (cX13_readLabel_m l hc) (tkX13_readLabel hc) rfl hl.1 (by decide) rfl ⟨Nat.zero_le _, Nat.zero_le _⟩ dX13_readInstruction_33) (fun H locs S => ?_)
    exact wfX13_readInstruction_36 X hr hlk hnm _ _ _ _ _ hl S hf
def fX13_readLine_40 (x0 : Nat) (h : Hp) : Option (Hp) := ob (fX13_mark x0 59 h) fun h => some h
theorem wfX13_readLine_40 {h9 : Hp} (X : Cx p E A 17 R s m args c cX13_readLine yX13_readLine.cls 1) (hr : meth.sig.returnType = none) (hlk : meth.locks = false) (hnm : meth.name = yX13_readLine.name) :
    ∀ (x0 : Nat) (h : Hp) (H : Heap) (locs : List Loc) (ls : Array Slot), lv_has ls 1 [(0, rv x0)] → St E A s h H locs → fX13_readLine_40 x0 h = some h9 → W p l e R s m args below meth c H locs 0 0 (MQ below (Qv E A h9) args s 0 0 A) (F0 m 40 ls []) := by
  intro x0 h H locs ls hl S hf
  unfold fX13_readLine_40 at hf
  refine g_aload_n X (or_rv _) dX13_readLine_40 rfl (lv_at hl 0 rfl) ?_
  refine lv_bipush (v := 59) X.1 X.2.1 dX13_readLine_41 (by decide) ?_
  obtain ⟨h, hc, hf⟩ := ob_some hf
  refine g_cv S (runV (As := [.int 59]) (rest := []) X S coX13_277 (by decide) (cX13_mark_m l hc) (tkX13_mark hc) rfl hl.1 (by decide) rfl ⟨Nat.zero_le _, Nat.zero_le _⟩ dX13_readLine_43) (fun H locs S => ?_)
  cases hf; exact g_rv X S hr hlk dX13_readLine_46
def fX13_readLine_13 (x0 : Nat) (h : Hp) : Option (Hp) := ob (fX13_is x0 66 h) fun v1 => if v1 = 0 then ob (gI 11 x0 23 h) fun v3 => if v3 = 0 then ob (fX13_readInstruction x0 h) fun h => fX13_readLine_40 x0 h else fX13_readLine_40 x0 h else ob (fX13_readAt x0 h) fun h => fX13_readLine_40 x0 h
theorem wfX13_readLine_13 {h9 : Hp} (X : Cx p E A 17 R s m args c cX13_readLine yX13_readLine.cls 1) (hr : meth.sig.returnType = none) (hlk : meth.locks = false) (hnm : meth.name = yX13_readLine.name) :
    ∀ (x0 : Nat) (h : Hp) (H : Heap) (locs : List Loc) (ls : Array Slot), lv_has ls 1 [(0, rv x0)] → St E A s h H locs → fX13_readLine_13 x0 h = some h9 → W p l e R s m args below meth c H locs 0 0 (MQ below (Qv E A h9) args s 0 0 A) (F0 m 13 ls []) := by
  intro x0 h H locs ls hl S hf
  unfold fX13_readLine_13 at hf
  refine g_aload_n X (or_rv _) dX13_readLine_13 rfl (lv_at hl 0 rfl) ?_
  refine g_lds (i := 65) X S ⟨by decide, by decide, rfl⟩ dX13_readLine_14 ?_
  obtain ⟨v1, hc, hf⟩ := ob_some hf
  refine g_ci S (runV (As := [sv E 66]) (rest := []) X S coX13_245 (by decide) (cX13_is_m l hc) (tkX13_is hc) rfl hl.1 (by decide) rfl ⟨Nat.zero_le _, Nat.zero_le _⟩ dX13_readLine_16) (fun H locs S => ?_)
  refine lv_if_eq (tgt := 29) X.1 X.2.1 dX13_readLine_19 (by decide) (fun c2 => ?_) (fun c2 => ?_)
  · replace hf := (if_pos c2).symm.trans hf
    refine g_aload_n X (or_rv _) dX13_readLine_29 rfl (lv_at hl 0 rfl) ?_
    refine g_gI X S foX13_231 rfl dX13_readLine_30 hf (fun v3 hf => ?_)
    refine lv_if_ne (tgt := 40) X.1 X.2.1 dX13_readLine_33 (by decide) (fun c4 => ?_) (fun c4 => ?_)
    · replace hf := (if_neg c4).symm.trans hf
      exact wfX13_readLine_40 X hr hlk hnm _ _ _ _ _ hl S hf
    · replace hf := (if_pos c4).symm.trans hf
      refine g_aload_n X (or_rv _) dX13_readLine_36 rfl (lv_at hl 0 rfl) ?_
      obtain ⟨h, hc, hf⟩ := ob_some hf
      refine g_cv S (runV (As := []) (rest := []) X S coX13_326 (by decide) (cX13_readInstruction_m l hc) (tkX13_readInstruction hc) rfl hl.1 (by decide) rfl ⟨Nat.zero_le _, Nat.zero_le _⟩ dX13_readLine_37) (fun H locs S => ?_)
      exact wfX13_readLine_40 X hr hlk hnm _ _ _ _ _ hl S hf
  · replace hf := (if_neg c2).symm.trans hf
    refine g_aload_n X (or_rv _) dX13_readLine_22 rfl (lv_at hl 0 rfl) ?_
    obtain ⟨h, hc, hf⟩ := ob_some hf
    refine g_cv S (runV (As := []) (rest := []) X S coX13_323 (by decide) (cX13_readAt_m l hc) (tkX13_readAt hc) rfl hl.1 (by decide) rfl ⟨Nat.zero_le _, Nat.zero_le _⟩ dX13_readLine_23) (fun H locs S => ?_)
    refine lv_goto (tgt := 40) X.1 X.2.1 dX13_readLine_26 (by decide) ?_
    exact wfX13_readLine_40 X hr hlk hnm _ _ _ _ _ hl S hf
def fX13_readLine (a0 : Nat) (h : Hp) : Option (Hp) := gd 11 a0 h (ob (gI 11 a0 19 h) fun v1 => if v1 = 1 then fX13_readLine_13 a0 h else ob (fX13_wrong a0 1 h) fun h => fX13_readLine_13 a0 h)
theorem tkX13_readLine {a0 : Nat} {h : Hp} {r9 : Hp} (e : fX13_readLine a0 h = some r9) : hK h a0 = 11 := by
  unfold fX13_readLine at e
  exact (gd_some e).1
theorem cX13_readLine_m (l : Launch) {E : EE} {A : Nat → Prop} {a0 : Nat} {h : Hp} {h9 : Hp} (hf : fX13_readLine a0 h = some h9) : Met l yX13_readLine (wsM yX13_readLine cX13_readLine 1 none) (rmm 17 0 0) (PcE E A h [rv a0]) (Qv E A h9) 0 0 A := by
  refine met_of (by decide +kernel) (by simp [lg_sl, cat_rv, cat_wv, cat_sv, cat_i, cat_l, cat_a]) (fun p e s m args below meth c ls X hr hlk hnm S hl => ?_)
  have hl : lv_has ls 1 [(0, rv a0)] := by simpa [lv_args, cat_rv, cat_wv, cat_sv, cat_i, cat_l, cat_a] using hl
  generalize hH : s.heap = H at S ⊢
  generalize hlo : ([] : List Loc) = locs at S ⊢
  clear hH hlo
  unfold fX13_readLine at hf
  obtain ⟨hth, hf⟩ := gd_some hf
  refine g_aload_n X (or_rv _) dX13_readLine_0 rfl (lv_at hl 0 rfl) ?_
  refine g_gI X S foX13_209 rfl dX13_readLine_1 hf (fun v1 hf => ?_)
  refine lv_iconst (v := 1) X.1 X.2.1 dX13_readLine_4 (by decide) ?_
  refine lv_icmp_eq (tgt := 13) X.1 X.2.1 dX13_readLine_5 (by decide) (fun c2 => ?_) (fun c2 => ?_)
  · replace hf := (if_pos c2).symm.trans hf
    exact wfX13_readLine_13 X hr hlk hnm _ _ _ _ _ hl S hf
  · replace hf := (if_neg c2).symm.trans hf
    refine g_aload_n X (or_rv _) dX13_readLine_8 rfl (lv_at hl 0 rfl) ?_
    refine lv_iconst (v := 1) X.1 X.2.1 dX13_readLine_9 (by decide) ?_
    obtain ⟨h, hc, hf⟩ := ob_some hf
    refine g_cv S (runV (As := [.int 1]) (rest := []) X S coX13_255 (by decide) (cX13_wrong_m l hc) (tkX13_wrong hc) rfl hl.1 (by decide) rfl ⟨Nat.zero_le _, Nat.zero_le _⟩ dX13_readLine_10) (fun H locs S => ?_)
    exact wfX13_readLine_13 X hr hlk hnm _ _ _ _ _ hl S hf
def fX13_findNames_2 (k2 : Nat → Int32 → Hp → Option (Hp)) (x0 : Nat) (x1 : Int32) (h : Hp) : Option (Hp) := ob (gI 11 x0 14 h) fun v1 => if v1 ≤ x1 then some h else ob (gI 11 x0 23 h) fun v3 => if v3 = 0 then ob (gR 11 x0 11 h) fun v5 => ob (qI v5 (60 + x1) (-1) h) fun h => ob (gR 11 x0 29 h) fun v6 => ob (aI v6 x1 h) fun v7 => if v7 = 0 then lt (x1 + 1) fun z22 => k2 x0 z22 h else ob (gR 11 x0 11 h) fun v9 => ob (gR 11 x0 28 h) fun v10 => ob (aI v10 x1 h) fun v11 => ob (gR 11 x0 29 h) fun v12 => ob (aI v12 x1 h) fun v13 => ob (fX13_named x0 v11 v13 h) fun v14 => ob (qI v9 (60 + x1) v14 h) fun h => ob (gR 11 x0 11 h) fun v15 => ob (aI v15 (60 + x1) h) fun v16 => if v16 = (-1) then ob (pI 11 x0 23 3 h) fun h => ob (gR 11 x0 28 h) fun v18 => ob (aI v18 x1 h) fun v19 => ob (pI 11 x0 24 v19 h) fun h => lt (x1 + 1) fun z20 => k2 x0 z20 h else lt (x1 + 1) fun z21 => k2 x0 z21 h else some h
theorem wfX13_findNames_2 {k2 : Nat → Int32 → Hp → Option (Hp)} {h9 : Hp} (X : Cx p E A 10 R s m args c cX13_findNames yX13_findNames.cls 2) (hr : meth.sig.returnType = none) (hlk : meth.locks = false) (hnm : meth.name = yX13_findNames.name) (hk2 : ∀ (x0 : Nat) (x1 : Int32) (h : Hp) (H : Heap) (locs : List Loc) (ls : Array Slot), lv_has ls 2 [(0, rv x0), (1, .int x1)] → St E A s h H locs → k2 x0 x1 h = some h9 → W p l e R s m args below meth c H locs 0 0 (MQ below (Qv E A h9) args s 0 0 A) (F0 m 2 ls [])) :
    ∀ (x0 : Nat) (x1 : Int32) (h : Hp) (H : Heap) (locs : List Loc) (ls : Array Slot), lv_has ls 2 [(0, rv x0), (1, .int x1)] → St E A s h H locs → fX13_findNames_2 k2 x0 x1 h = some h9 → W p l e R s m args below meth c H locs 0 0 (MQ below (Qv E A h9) args s 0 0 A) (F0 m 2 ls []) := by
  intro x0 x1 h H locs ls hl S hf
  unfold fX13_findNames_2 at hf
  refine lv_iload_n X.1 X.2.1 dX13_findNames_2 rfl (lv_at hl 1 rfl) ?_
  refine g_aload_n X (or_rv _) dX13_findNames_3 rfl (lv_at hl 0 rfl) ?_
  refine g_gI X S foX13_259 rfl dX13_findNames_4 hf (fun v1 hf => ?_)
  refine lv_icmp_ge (tgt := 101) X.1 X.2.1 dX13_findNames_7 (by decide) (fun c2 => ?_) (fun c2 => ?_)
  · replace hf := (if_pos c2).symm.trans hf
    cases hf; exact g_rv X S hr hlk dX13_findNames_101
  · replace hf := (if_neg c2).symm.trans hf
    refine g_aload_n X (or_rv _) dX13_findNames_10 rfl (lv_at hl 0 rfl) ?_
    refine g_gI X S foX13_231 rfl dX13_findNames_11 hf (fun v3 hf => ?_)
    refine lv_if_ne (tgt := 101) X.1 X.2.1 dX13_findNames_14 (by decide) (fun c4 => ?_) (fun c4 => ?_)
    · replace hf := (if_neg c4).symm.trans hf
      cases hf; exact g_rv X S hr hlk dX13_findNames_101
    · replace hf := (if_pos c4).symm.trans hf
      refine g_aload_n X (or_rv _) dX13_findNames_17 rfl (lv_at hl 0 rfl) ?_
      refine g_gR X S foX13_101 dX13_findNames_18 hf (fun v5 hf => ?_)
      refine lv_bipush (v := 60) X.1 X.2.1 dX13_findNames_21 (by decide) ?_
      refine lv_iload_n X.1 X.2.1 dX13_findNames_23 rfl (lv_at hl 1 rfl) ?_
      refine lv_iadd X.1 X.2.1 dX13_findNames_24 ?_
      refine lv_iconst (v := (-1)) X.1 X.2.1 dX13_findNames_25 (by decide) ?_
      refine g_qI X S dX13_findNames_26 hf (fun h H locs hm hf S => ?_)
      refine g_aload_n X (or_rv _) dX13_findNames_27 rfl (lv_at hl 0 rfl) ?_
      refine g_gR X S foX13_123 dX13_findNames_28 hf (fun v6 hf => ?_)
      refine lv_iload_n X.1 X.2.1 dX13_findNames_31 rfl (lv_at hl 1 rfl) ?_
      refine g_aI X S dX13_findNames_32 hf (fun v7 hf => ?_)
      refine lv_if_ne (tgt := 39) X.1 X.2.1 dX13_findNames_33 (by decide) (fun c8 => ?_) (fun c8 => ?_)
      · replace hf := (if_neg c8).symm.trans hf
        refine g_aload_n X (or_rv _) dX13_findNames_39 rfl (lv_at hl 0 rfl) ?_
        refine g_gR X S foX13_101 dX13_findNames_40 hf (fun v9 hf => ?_)
        refine lv_bipush (v := 60) X.1 X.2.1 dX13_findNames_43 (by decide) ?_
        refine lv_iload_n X.1 X.2.1 dX13_findNames_45 rfl (lv_at hl 1 rfl) ?_
        refine lv_iadd X.1 X.2.1 dX13_findNames_46 ?_
        refine g_aload_n X (or_rv _) dX13_findNames_47 rfl (lv_at hl 0 rfl) ?_
        refine g_aload_n X (or_rv _) dX13_findNames_48 rfl (lv_at hl 0 rfl) ?_
        refine g_gR X S foX13_120 dX13_findNames_49 hf (fun v10 hf => ?_)
        refine lv_iload_n X.1 X.2.1 dX13_findNames_52 rfl (lv_at hl 1 rfl) ?_
        refine g_aI X S dX13_findNames_53 hf (fun v11 hf => ?_)
        refine g_aload_n X (or_rv _) dX13_findNames_54 rfl (lv_at hl 0 rfl) ?_
        refine g_gR X S foX13_123 dX13_findNames_55 hf (fun v12 hf => ?_)
        refine lv_iload_n X.1 X.2.1 dX13_findNames_58 rfl (lv_at hl 1 rfl) ?_
        refine g_aI X S dX13_findNames_59 hf (fun v13 hf => ?_)
        obtain ⟨v14, hc, hf⟩ := ob_some hf
        refine g_ci S (runV (As := [.int v11, .int v13]) (rest := [.int (60 + x1), rv v9]) X S coX13_274 (by decide) (cX13_named_m l hc) (tkX13_named hc) rfl hl.1 (by simp [cat_rv, cat_wv, cat_sv, cat_i, cat_l, cat_a]) rfl ⟨Nat.zero_le _, Nat.zero_le _⟩ dX13_findNames_60) (fun H locs S => ?_)
        refine g_qI X S dX13_findNames_63 hf (fun h H locs hm hf S => ?_)
        refine g_aload_n X (or_rv _) dX13_findNames_64 rfl (lv_at hl 0 rfl) ?_
        refine g_gR X S foX13_101 dX13_findNames_65 hf (fun v15 hf => ?_)
        refine lv_bipush (v := 60) X.1 X.2.1 dX13_findNames_68 (by decide) ?_
        refine lv_iload_n X.1 X.2.1 dX13_findNames_70 rfl (lv_at hl 1 rfl) ?_
        refine lv_iadd X.1 X.2.1 dX13_findNames_71 ?_
        refine g_aI X S dX13_findNames_72 hf (fun v16 hf => ?_)
        refine lv_iconst (v := (-1)) X.1 X.2.1 dX13_findNames_73 (by decide) ?_
        refine lv_icmp_eq (tgt := 80) X.1 X.2.1 dX13_findNames_74 (by decide) (fun c17 => ?_) (fun c17 => ?_)
        · replace hf := (if_pos c17).symm.trans hf
          refine g_aload_n X (or_rv _) dX13_findNames_80 rfl (lv_at hl 0 rfl) ?_
          refine lv_iconst (v := 3) X.1 X.2.1 dX13_findNames_81 (by decide) ?_
          refine g_pI X S fpX13_231 (Or.inl rfl) dX13_findNames_82 hf (fun h H locs hm hf S => ?_)
          refine g_aload_n X (or_rv _) dX13_findNames_85 rfl (lv_at hl 0 rfl) ?_
          refine g_aload_n X (or_rv _) dX13_findNames_86 rfl (lv_at hl 0 rfl) ?_
          refine g_gR X S foX13_120 dX13_findNames_87 hf (fun v18 hf => ?_)
          refine lv_iload_n X.1 X.2.1 dX13_findNames_90 rfl (lv_at hl 1 rfl) ?_
          refine g_aI X S dX13_findNames_91 hf (fun v19 hf => ?_)
          refine g_pI X S fpX13_234 (Or.inl rfl) dX13_findNames_92 hf (fun h H locs hm hf S => ?_)
          obtain ⟨z20, ez20, hf⟩ := lt_some hf
          refine lv_iinc (v := z20) (lv' := [(1, .int z20), (0, rv x0)]) X.1 X.2.1 dX13_findNames_95 hl (k := 1) rfl (by rw [← ez20]; rfl) (by decide) (by simp [List.filter, cat_rv, cat_wv, cat_sv]) (fun ls hl => ?_)
          refine lv_goto (tgt := 2) X.1 X.2.1 dX13_findNames_98 (by decide) ?_
          exact hk2 _ _ _ _ _ _ (lv_sub hl [1, 0] rfl) S hf
        · replace hf := (if_neg c17).symm.trans hf
          refine lv_goto (tgt := 95) X.1 X.2.1 dX13_findNames_77 (by decide) ?_
          obtain ⟨z21, ez21, hf⟩ := lt_some hf
          refine lv_iinc (v := z21) (lv' := [(1, .int z21), (0, rv x0)]) X.1 X.2.1 dX13_findNames_95 hl (k := 1) rfl (by rw [← ez21]; rfl) (by decide) (by simp [List.filter, cat_rv, cat_wv, cat_sv]) (fun ls hl => ?_)
          refine lv_goto (tgt := 2) X.1 X.2.1 dX13_findNames_98 (by decide) ?_
          exact hk2 _ _ _ _ _ _ (lv_sub hl [1, 0] rfl) S hf
      · replace hf := (if_pos c8).symm.trans hf
        refine lv_goto (tgt := 95) X.1 X.2.1 dX13_findNames_36 (by decide) ?_
        obtain ⟨z22, ez22, hf⟩ := lt_some hf
        refine lv_iinc (v := z22) (lv' := [(1, .int z22), (0, rv x0)]) X.1 X.2.1 dX13_findNames_95 hl (k := 1) rfl (by rw [← ez22]; rfl) (by decide) (by simp [List.filter, cat_rv, cat_wv, cat_sv]) (fun ls hl => ?_)
        refine lv_goto (tgt := 2) X.1 X.2.1 dX13_findNames_98 (by decide) ?_
        exact hk2 _ _ _ _ _ _ (lv_sub hl [1, 0] rfl) S hf
theorem wfX13_findNames_2_l {h9 : Hp} (X : Cx p E A 10 R s m args c cX13_findNames yX13_findNames.cls 2) (hr : meth.sig.returnType = none) (hlk : meth.locks = false) (hnm : meth.name = yX13_findNames.name) :
    ∀ (n : Nat) (x0 : Nat) (x1 : Int32) (h : Hp) (H : Heap) (locs : List Loc) (ls : Array Slot), lv_has ls 2 [(0, rv x0), (1, .int x1)] → St E A s h H locs → lp (fun _ _ _ => none) (fX13_findNames_2) n x0 x1 h = some h9 → W p l e R s m args below meth c H locs 0 0 (MQ below (Qv E A h9) args s 0 0 A) (F0 m 2 ls []) := by
  intro n
  induction n with
  | zero =>
    intro x0 x1 h H locs ls hl S hf
    exact nomatch hf
  | succ n ih =>
    intro x0 x1 h H locs ls hl S hf
    exact wfX13_findNames_2 X hr hlk hnm ih x0 x1 h H locs ls hl S hf
def fX13_findNames (a0 : Nat) (h : Hp) : Option (Hp) := gd 11 a0 h (lp (fun _ _ _ => none) (fX13_findNames_2) FU a0 0 h)
theorem tkX13_findNames {a0 : Nat} {h : Hp} {r9 : Hp} (e : fX13_findNames a0 h = some r9) : hK h a0 = 11 := by
  unfold fX13_findNames at e
  exact (gd_some e).1
theorem cX13_findNames_m (l : Launch) {E : EE} {A : Nat → Prop} {a0 : Nat} {h : Hp} {h9 : Hp} (hf : fX13_findNames a0 h = some h9) : Met l yX13_findNames (wsM yX13_findNames cX13_findNames 2 none) (rmm 10 0 0) (PcE E A h [rv a0]) (Qv E A h9) 0 0 A := by
  refine met_of (by decide +kernel) (by simp [lg_sl, cat_rv, cat_wv, cat_sv, cat_i, cat_l, cat_a]) (fun p e s m args below meth c ls X hr hlk hnm S hl => ?_)
  have hl : lv_has ls 2 [(0, rv a0)] := by simpa [lv_args, cat_rv, cat_wv, cat_sv, cat_i, cat_l, cat_a] using hl
  generalize hH : s.heap = H at S ⊢
  generalize hlo : ([] : List Loc) = locs at S ⊢
  clear hH hlo
  unfold fX13_findNames at hf
  obtain ⟨hth, hf⟩ := gd_some hf
  refine lv_iconst (v := 0) X.1 X.2.1 dX13_findNames_0 (by decide) ?_
  refine lv_istore_n (i := 1) (lv' := [(1, .int 0), (0, rv a0)]) X.1 X.2.1 dX13_findNames_1 rfl hl (by decide) (by simp [List.filter, cat_rv, cat_wv, cat_sv]) (fun ls hl => ?_)
  exact wfX13_findNames_2_l X hr hlk hnm FU _ _ _ _ _ _ (lv_sub hl [1, 0] rfl) S hf
def fX13_takeHalf_2 (k2 : Nat → Int32 → Hp → Option (Hp)) (x0 : Nat) (x1 : Int32) (h : Hp) : Option (Hp) := ob (aN 101 x0 h) fun v1 => if (v1 / 2) ≤ x1 then some h else ob (aN 101 x0 h) fun v3 => ob (aI x0 ((v3 / 2) + x1) h) fun v4 => ob (qI x0 x1 v4 h) fun h => lt (x1 + 1) fun z5 => k2 x0 z5 h
theorem wfX13_takeHalf_2 {k2 : Nat → Int32 → Hp → Option (Hp)} {h9 : Hp} (X : Cx p E A 8 R s m args c cX13_takeHalf yX13_takeHalf.cls 2) (hr : meth.sig.returnType = none) (hlk : meth.locks = false) (hnm : meth.name = yX13_takeHalf.name) (hk2 : ∀ (x0 : Nat) (x1 : Int32) (h : Hp) (H : Heap) (locs : List Loc) (ls : Array Slot), lv_has ls 2 [(0, rv x0), (1, .int x1)] → St E A s h H locs → k2 x0 x1 h = some h9 → W p l e R s m args below meth c H locs 0 0 (MQ below (Qv E A h9) args s 0 0 A) (F0 m 2 ls [])) :
    ∀ (x0 : Nat) (x1 : Int32) (h : Hp) (H : Heap) (locs : List Loc) (ls : Array Slot), lv_has ls 2 [(0, rv x0), (1, .int x1)] → St E A s h H locs → fX13_takeHalf_2 k2 x0 x1 h = some h9 → W p l e R s m args below meth c H locs 0 0 (MQ below (Qv E A h9) args s 0 0 A) (F0 m 2 ls []) := by
  intro x0 x1 h H locs ls hl S hf
  unfold fX13_takeHalf_2 at hf
  refine lv_iload_n X.1 X.2.1 dX13_takeHalf_2 rfl (lv_at hl 1 rfl) ?_
  refine g_aload_n X (or_rv _) dX13_takeHalf_3 rfl (lv_at hl 0 rfl) ?_
  refine g_aN X S (by decide) dX13_takeHalf_4 hf (fun v1 hf => ?_)
  refine lv_iconst (v := 2) X.1 X.2.1 dX13_takeHalf_5 (by decide) ?_
  refine g_idiv X (by decide) dX13_takeHalf_6 ?_
  refine lv_icmp_ge (tgt := 27) X.1 X.2.1 dX13_takeHalf_7 (by decide) (fun c2 => ?_) (fun c2 => ?_)
  · replace hf := (if_pos c2).symm.trans hf
    cases hf; exact g_rv X S hr hlk dX13_takeHalf_27
  · replace hf := (if_neg c2).symm.trans hf
    refine g_aload_n X (or_rv _) dX13_takeHalf_10 rfl (lv_at hl 0 rfl) ?_
    refine lv_iload_n X.1 X.2.1 dX13_takeHalf_11 rfl (lv_at hl 1 rfl) ?_
    refine g_aload_n X (or_rv _) dX13_takeHalf_12 rfl (lv_at hl 0 rfl) ?_
    refine g_aload_n X (or_rv _) dX13_takeHalf_13 rfl (lv_at hl 0 rfl) ?_
    refine g_aN X S (by decide) dX13_takeHalf_14 hf (fun v3 hf => ?_)
    refine lv_iconst (v := 2) X.1 X.2.1 dX13_takeHalf_15 (by decide) ?_
    refine g_idiv X (by decide) dX13_takeHalf_16 ?_
    refine lv_iload_n X.1 X.2.1 dX13_takeHalf_17 rfl (lv_at hl 1 rfl) ?_
    refine lv_iadd X.1 X.2.1 dX13_takeHalf_18 ?_
    refine g_aI X S dX13_takeHalf_19 hf (fun v4 hf => ?_)
    refine g_qI X S dX13_takeHalf_20 hf (fun h H locs hm hf S => ?_)
    obtain ⟨z5, ez5, hf⟩ := lt_some hf
    refine lv_iinc (v := z5) (lv' := [(1, .int z5), (0, rv x0)]) X.1 X.2.1 dX13_takeHalf_21 hl (k := 1) rfl (by rw [← ez5]; rfl) (by decide) (by simp [List.filter, cat_rv, cat_wv, cat_sv]) (fun ls hl => ?_)
    refine lv_goto (tgt := 2) X.1 X.2.1 dX13_takeHalf_24 (by decide) ?_
    exact hk2 _ _ _ _ _ _ (lv_sub hl [1, 0] rfl) S hf
theorem wfX13_takeHalf_2_l {h9 : Hp} (X : Cx p E A 8 R s m args c cX13_takeHalf yX13_takeHalf.cls 2) (hr : meth.sig.returnType = none) (hlk : meth.locks = false) (hnm : meth.name = yX13_takeHalf.name) :
    ∀ (n : Nat) (x0 : Nat) (x1 : Int32) (h : Hp) (H : Heap) (locs : List Loc) (ls : Array Slot), lv_has ls 2 [(0, rv x0), (1, .int x1)] → St E A s h H locs → lp (fun _ _ _ => none) (fX13_takeHalf_2) n x0 x1 h = some h9 → W p l e R s m args below meth c H locs 0 0 (MQ below (Qv E A h9) args s 0 0 A) (F0 m 2 ls []) := by
  intro n
  induction n with
  | zero =>
    intro x0 x1 h H locs ls hl S hf
    exact nomatch hf
  | succ n ih =>
    intro x0 x1 h H locs ls hl S hf
    exact wfX13_takeHalf_2 X hr hlk hnm ih x0 x1 h H locs ls hl S hf
def fX13_takeHalf (a0 : Nat) (h : Hp) : Option (Hp) := lp (fun _ _ _ => none) (fX13_takeHalf_2) FU a0 0 h
theorem cX13_takeHalf_m (l : Launch) {E : EE} {A : Nat → Prop} {a0 : Nat} {h : Hp} {h9 : Hp} (hf : fX13_takeHalf a0 h = some h9) : Met l yX13_takeHalf (wsM yX13_takeHalf cX13_takeHalf 2 none) (rmm 8 0 0) (PcE E A h [rv a0]) (Qv E A h9) 0 0 A := by
  refine met_of (by decide +kernel) (by simp [lg_sl, cat_rv, cat_wv, cat_sv, cat_i, cat_l, cat_a]) (fun p e s m args below meth c ls X hr hlk hnm S hl => ?_)
  have hl : lv_has ls 2 [(0, rv a0)] := by simpa [lv_args, cat_rv, cat_wv, cat_sv, cat_i, cat_l, cat_a] using hl
  generalize hH : s.heap = H at S ⊢
  generalize hlo : ([] : List Loc) = locs at S ⊢
  clear hH hlo
  unfold fX13_takeHalf at hf
  refine lv_iconst (v := 0) X.1 X.2.1 dX13_takeHalf_0 (by decide) ?_
  refine lv_istore_n (i := 1) (lv' := [(1, .int 0), (0, rv a0)]) X.1 X.2.1 dX13_takeHalf_1 rfl hl (by decide) (by simp [List.filter, cat_rv, cat_wv, cat_sv]) (fun ls hl => ?_)
  exact wfX13_takeHalf_2_l X hr hlk hnm FU _ _ _ _ _ _ (lv_sub hl [1, 0] rfl) S hf
def fX13_takeOver_66 (k66 : Nat → Int32 → Hp → Option (Hp)) (x0 : Nat) (x1 : Int32) (h : Hp) : Option (Hp) := if 414 ≤ x1 then ob (fX13_beginNow x0 h) fun h => ob (pI 11 x0 58 0 h) fun h => ob (pI 11 x0 59 0 h) fun h => ob (pZ 11 x0 67 0 h) fun h => some h else ob (gR 11 x0 3 h) fun v3 => ob (qI v3 x1 0 h) fun h => lt (x1 + 1) fun z4 => k66 x0 z4 h
theorem wfX13_takeOver_66 {k66 : Nat → Int32 → Hp → Option (Hp)} {h9 : Hp} (X : Cx p E A 9 R s m args c cX13_takeOver yX13_takeOver.cls 2) (hr : meth.sig.returnType = none) (hlk : meth.locks = false) (hnm : meth.name = yX13_takeOver.name) (hk66 : ∀ (x0 : Nat) (x1 : Int32) (h : Hp) (H : Heap) (locs : List Loc) (ls : Array Slot), lv_has ls 2 [(0, rv x0), (1, .int x1)] → St E A s h H locs → k66 x0 x1 h = some h9 → W p l e R s m args below meth c H locs 0 0 (MQ below (Qv E A h9) args s 0 0 A) (F0 m 66 ls [])) :
    ∀ (x0 : Nat) (x1 : Int32) (h : Hp) (H : Heap) (locs : List Loc) (ls : Array Slot), lv_has ls 2 [(0, rv x0), (1, .int x1)] → St E A s h H locs → fX13_takeOver_66 k66 x0 x1 h = some h9 → W p l e R s m args below meth c H locs 0 0 (MQ below (Qv E A h9) args s 0 0 A) (F0 m 66 ls []) := by
  intro x0 x1 h H locs ls hl S hf
  unfold fX13_takeOver_66 at hf
  refine lv_iload_n X.1 X.2.1 dX13_takeOver_66 rfl (lv_at hl 1 rfl) ?_
  refine lv_sipush (v := 414) X.1 X.2.1 dX13_takeOver_67 (by decide) ?_
  refine lv_icmp_ge (tgt := 86) X.1 X.2.1 dX13_takeOver_70 (by decide) (fun c1 => ?_) (fun c1 => ?_)
  · replace hf := (if_pos c1).symm.trans hf
    refine g_aload_n X (or_rv _) dX13_takeOver_86 rfl (lv_at hl 0 rfl) ?_
    obtain ⟨h, hc, hf⟩ := ob_some hf
    refine g_cv S (runV (As := []) (rest := []) X S coX13_184 (by decide) (cX13_beginNow_m l hc) (tkX13_beginNow hc) rfl hl.1 (by decide) rfl ⟨Nat.zero_le _, Nat.zero_le _⟩ dX13_takeOver_87) (fun H locs S => ?_)
    refine g_aload_n X (or_rv _) dX13_takeOver_90 rfl (lv_at hl 0 rfl) ?_
    refine lv_iconst (v := 0) X.1 X.2.1 dX13_takeOver_91 (by decide) ?_
    refine g_pI X S fpX13_348 (Or.inl rfl) dX13_takeOver_92 hf (fun h H locs hm hf S => ?_)
    refine g_aload_n X (or_rv _) dX13_takeOver_95 rfl (lv_at hl 0 rfl) ?_
    refine lv_iconst (v := 0) X.1 X.2.1 dX13_takeOver_96 (by decide) ?_
    refine g_pI X S fpX13_351 (Or.inl rfl) dX13_takeOver_97 hf (fun h H locs hm hf S => ?_)
    refine g_aload_n X (or_rv _) dX13_takeOver_100 rfl (lv_at hl 0 rfl) ?_
    refine lv_iconst (v := 0) X.1 X.2.1 dX13_takeOver_101 (by decide) ?_
    refine g_pZ X S fpX13_354 (Or.inl rfl) dX13_takeOver_102 hf (fun h H locs hm hf S => ?_)
    cases hf; exact g_rv X S hr hlk dX13_takeOver_105
  · replace hf := (if_neg c1).symm.trans hf
    refine g_aload_n X (or_rv _) dX13_takeOver_73 rfl (lv_at hl 0 rfl) ?_
    refine g_gR X S foX13_76 dX13_takeOver_74 hf (fun v3 hf => ?_)
    refine lv_iload_n X.1 X.2.1 dX13_takeOver_77 rfl (lv_at hl 1 rfl) ?_
    refine lv_iconst (v := 0) X.1 X.2.1 dX13_takeOver_78 (by decide) ?_
    refine g_qI X S dX13_takeOver_79 hf (fun h H locs hm hf S => ?_)
    obtain ⟨z4, ez4, hf⟩ := lt_some hf
    refine lv_iinc (v := z4) (lv' := [(1, .int z4), (0, rv x0)]) X.1 X.2.1 dX13_takeOver_80 hl (k := 1) rfl (by rw [← ez4]; rfl) (by decide) (by simp [List.filter, cat_rv, cat_wv, cat_sv]) (fun ls hl => ?_)
    refine lv_goto (tgt := 66) X.1 X.2.1 dX13_takeOver_83 (by decide) ?_
    exact hk66 _ _ _ _ _ _ (lv_sub hl [1, 0] rfl) S hf
theorem wfX13_takeOver_66_l {h9 : Hp} (X : Cx p E A 9 R s m args c cX13_takeOver yX13_takeOver.cls 2) (hr : meth.sig.returnType = none) (hlk : meth.locks = false) (hnm : meth.name = yX13_takeOver.name) :
    ∀ (n : Nat) (x0 : Nat) (x1 : Int32) (h : Hp) (H : Heap) (locs : List Loc) (ls : Array Slot), lv_has ls 2 [(0, rv x0), (1, .int x1)] → St E A s h H locs → lp (fun _ _ _ => none) (fX13_takeOver_66) n x0 x1 h = some h9 → W p l e R s m args below meth c H locs 0 0 (MQ below (Qv E A h9) args s 0 0 A) (F0 m 66 ls []) := by
  intro n
  induction n with
  | zero =>
    intro x0 x1 h H locs ls hl S hf
    exact nomatch hf
  | succ n ih =>
    intro x0 x1 h H locs ls hl S hf
    exact wfX13_takeOver_66 X hr hlk hnm ih x0 x1 h H locs ls hl S hf
def fX13_takeOver (a0 : Nat) (h : Hp) : Option (Hp) := gd 11 a0 h (ob (gR 11 a0 5 h) fun v1 => ob (fX13_takeHalf v1 h) fun h => ob (gR 11 a0 6 h) fun v3 => ob (fX13_takeHalf v3 h) fun h => ob (gR 11 a0 7 h) fun v5 => ob (fX13_takeHalf v5 h) fun h => ob (gR 11 a0 8 h) fun v7 => ob (fX13_takeHalf v7 h) fun h => ob (gR 11 a0 9 h) fun v9 => ob (fX13_takeHalf v9 h) fun h => ob (gR 11 a0 10 h) fun v11 => ob (fX13_takeHalf v11 h) fun h => ob (gR 11 a0 11 h) fun v13 => ob (fX13_takeHalf v13 h) fun h => ob (gR 11 a0 12 h) fun v15 => ob (fX13_takeHalf v15 h) fun h => ob (gI 11 a0 14 h) fun v17 => ob (pI 11 a0 13 v17 h) fun h => lp (fun _ _ _ => none) (fX13_takeOver_66) FU a0 0 h)
theorem tkX13_takeOver {a0 : Nat} {h : Hp} {r9 : Hp} (e : fX13_takeOver a0 h = some r9) : hK h a0 = 11 := by
  unfold fX13_takeOver at e
  exact (gd_some e).1
theorem cX13_takeOver_m (l : Launch) {E : EE} {A : Nat → Prop} {a0 : Nat} {h : Hp} {h9 : Hp} (hf : fX13_takeOver a0 h = some h9) : Met l yX13_takeOver (wsM yX13_takeOver cX13_takeOver 2 none) (rmm 9 0 0) (PcE E A h [rv a0]) (Qv E A h9) 0 0 A := by
  refine met_of (by decide +kernel) (by simp [lg_sl, cat_rv, cat_wv, cat_sv, cat_i, cat_l, cat_a]) (fun p e s m args below meth c ls X hr hlk hnm S hl => ?_)
  have hl : lv_has ls 2 [(0, rv a0)] := by simpa [lv_args, cat_rv, cat_wv, cat_sv, cat_i, cat_l, cat_a] using hl
  generalize hH : s.heap = H at S ⊢
  generalize hlo : ([] : List Loc) = locs at S ⊢
  clear hH hlo
  unfold fX13_takeOver at hf
  obtain ⟨hth, hf⟩ := gd_some hf
  refine g_aload_n X (or_rv _) dX13_takeOver_0 rfl (lv_at hl 0 rfl) ?_
  refine g_gR X S foX13_83 dX13_takeOver_1 hf (fun v1 hf => ?_)
  obtain ⟨h, hc, hf⟩ := ob_some hf
  refine g_cv S (runS (As := [rv v1]) (rest := []) X S coX13_341 (by decide) (cX13_takeHalf_m l hc) rfl hl.1 (by decide) rfl ⟨Nat.zero_le _, Nat.zero_le _⟩ dX13_takeOver_4) (fun H locs S => ?_)
  refine g_aload_n X (or_rv _) dX13_takeOver_7 rfl (lv_at hl 0 rfl) ?_
  refine g_gR X S foX13_86 dX13_takeOver_8 hf (fun v3 hf => ?_)
  obtain ⟨h, hc, hf⟩ := ob_some hf
  refine g_cv S (runS (As := [rv v3]) (rest := []) X S coX13_341 (by decide) (cX13_takeHalf_m l hc) rfl hl.1 (by decide) rfl ⟨Nat.zero_le _, Nat.zero_le _⟩ dX13_takeOver_11) (fun H locs S => ?_)
  refine g_aload_n X (or_rv _) dX13_takeOver_14 rfl (lv_at hl 0 rfl) ?_
  refine g_gR X S foX13_89 dX13_takeOver_15 hf (fun v5 hf => ?_)
  obtain ⟨h, hc, hf⟩ := ob_some hf
  refine g_cv S (runS (As := [rv v5]) (rest := []) X S coX13_341 (by decide) (cX13_takeHalf_m l hc) rfl hl.1 (by decide) rfl ⟨Nat.zero_le _, Nat.zero_le _⟩ dX13_takeOver_18) (fun H locs S => ?_)
  refine g_aload_n X (or_rv _) dX13_takeOver_21 rfl (lv_at hl 0 rfl) ?_
  refine g_gR X S foX13_92 dX13_takeOver_22 hf (fun v7 hf => ?_)
  obtain ⟨h, hc, hf⟩ := ob_some hf
  refine g_cv S (runS (As := [rv v7]) (rest := []) X S coX13_341 (by decide) (cX13_takeHalf_m l hc) rfl hl.1 (by decide) rfl ⟨Nat.zero_le _, Nat.zero_le _⟩ dX13_takeOver_25) (fun H locs S => ?_)
  refine g_aload_n X (or_rv _) dX13_takeOver_28 rfl (lv_at hl 0 rfl) ?_
  refine g_gR X S foX13_95 dX13_takeOver_29 hf (fun v9 hf => ?_)
  obtain ⟨h, hc, hf⟩ := ob_some hf
  refine g_cv S (runS (As := [rv v9]) (rest := []) X S coX13_341 (by decide) (cX13_takeHalf_m l hc) rfl hl.1 (by decide) rfl ⟨Nat.zero_le _, Nat.zero_le _⟩ dX13_takeOver_32) (fun H locs S => ?_)
  refine g_aload_n X (or_rv _) dX13_takeOver_35 rfl (lv_at hl 0 rfl) ?_
  refine g_gR X S foX13_98 dX13_takeOver_36 hf (fun v11 hf => ?_)
  obtain ⟨h, hc, hf⟩ := ob_some hf
  refine g_cv S (runS (As := [rv v11]) (rest := []) X S coX13_341 (by decide) (cX13_takeHalf_m l hc) rfl hl.1 (by decide) rfl ⟨Nat.zero_le _, Nat.zero_le _⟩ dX13_takeOver_39) (fun H locs S => ?_)
  refine g_aload_n X (or_rv _) dX13_takeOver_42 rfl (lv_at hl 0 rfl) ?_
  refine g_gR X S foX13_101 dX13_takeOver_43 hf (fun v13 hf => ?_)
  obtain ⟨h, hc, hf⟩ := ob_some hf
  refine g_cv S (runS (As := [rv v13]) (rest := []) X S coX13_341 (by decide) (cX13_takeHalf_m l hc) rfl hl.1 (by decide) rfl ⟨Nat.zero_le _, Nat.zero_le _⟩ dX13_takeOver_46) (fun H locs S => ?_)
  refine g_aload_n X (or_rv _) dX13_takeOver_49 rfl (lv_at hl 0 rfl) ?_
  refine g_gR X S foX13_104 dX13_takeOver_50 hf (fun v15 hf => ?_)
  obtain ⟨h, hc, hf⟩ := ob_some hf
  refine g_cv S (runS (As := [rv v15]) (rest := []) X S coX13_341 (by decide) (cX13_takeHalf_m l hc) rfl hl.1 (by decide) rfl ⟨Nat.zero_le _, Nat.zero_le _⟩ dX13_takeOver_53) (fun H locs S => ?_)
  refine g_aload_n X (or_rv _) dX13_takeOver_56 rfl (lv_at hl 0 rfl) ?_
  refine g_aload_n X (or_rv _) dX13_takeOver_57 rfl (lv_at hl 0 rfl) ?_
  refine g_gI X S foX13_259 rfl dX13_takeOver_58 hf (fun v17 hf => ?_)
  refine g_pI X S fpX13_345 (Or.inl rfl) dX13_takeOver_61 hf (fun h H locs hm hf S => ?_)
  refine lv_iconst (v := 0) X.1 X.2.1 dX13_takeOver_64 (by decide) ?_
  refine lv_istore_n (i := 1) (lv' := [(1, .int 0), (0, rv a0)]) X.1 X.2.1 dX13_takeOver_65 rfl hl (by decide) (by simp [List.filter, cat_rv, cat_wv, cat_sv]) (fun ls hl => ?_)
  exact wfX13_takeOver_66_l X hr hlk hnm FU _ _ _ _ _ _ (lv_sub hl [1, 0] rfl) S hf
def fX13_program_17 (x0 : Nat) (h : Hp) : Option (Int32 × Hp) := ob2 (fX13_fail x0 1 h) fun v1 h => some (v1, h)
theorem wfX13_program_17 {r9 : Int32} {h9 : Hp} (X : Cx p E A 18 R s m args c cX13_program yX13_program.cls 3) (hr : meth.sig.returnType = (some .int)) (hlk : meth.locks = false) (hnm : meth.name = yX13_program.name) :
    ∀ (x0 : Nat) (h : Hp) (H : Heap) (locs : List Loc) (ls : Array Slot), lv_has ls 3 [(0, rv x0)] → St E A s h H locs → fX13_program_17 x0 h = some (r9, h9) → W p l e R s m args below meth c H locs 0 0 (MQ below (Qi E A h9 r9) args s 0 0 A) (F0 m 17 ls []) := by
  intro x0 h H locs ls hl S hf
  unfold fX13_program_17 at hf
  refine g_aload_n X (or_rv _) dX13_program_17 rfl (lv_at hl 0 rfl) ?_
  refine lv_iconst (v := 1) X.1 X.2.1 dX13_program_18 (by decide) ?_
  obtain ⟨v1, h, hc, hf⟩ := ob2_some hf
  refine g_ci S (runV (As := [.int 1]) (rest := []) X S coX13_329 (by decide) (cX13_fail_m l hc) (tkX13_fail hc) rfl hl.1 (by decide) rfl ⟨Nat.zero_le _, Nat.zero_le _⟩ dX13_program_19) (fun H locs S => ?_)
  cases hf; exact g_ri X S hr hlk dX13_program_22
def fX13_program_104 (x0 : Nat) (h : Hp) : Option (Int32 × Hp) := ob (fX13_findNames x0 h) fun h => ob (gI 11 x0 23 h) fun v2 => if v2 = 0 then ob (fX13_takeOver x0 h) fun h => some (0, h) else ob (gI 11 x0 24 h) fun v5 => ob (pI 11 x0 25 v5 h) fun h => ob (gR 11 x0 4 h) fun v6 => ob (aI v6 0 h) fun v7 => ob (qI v6 0 (v7 + 1) h) fun h => ob (gI 11 x0 23 h) fun v8 => some (v8, h)
theorem wfX13_program_104 {r9 : Int32} {h9 : Hp} (X : Cx p E A 18 R s m args c cX13_program yX13_program.cls 3) (hr : meth.sig.returnType = (some .int)) (hlk : meth.locks = false) (hnm : meth.name = yX13_program.name) :
    ∀ (x0 : Nat) (h : Hp) (H : Heap) (locs : List Loc) (ls : Array Slot), lv_has ls 3 [(0, rv x0)] → St E A s h H locs → fX13_program_104 x0 h = some (r9, h9) → W p l e R s m args below meth c H locs 0 0 (MQ below (Qi E A h9 r9) args s 0 0 A) (F0 m 104 ls []) := by
  intro x0 h H locs ls hl S hf
  unfold fX13_program_104 at hf
  refine g_aload_n X (or_rv _) dX13_program_104 rfl (lv_at hl 0 rfl) ?_
  obtain ⟨h, hc, hf⟩ := ob_some hf
  refine g_cv S (runV (As := []) (rest := []) X S coX13_335 (by decide) (cX13_findNames_m l hc) (tkX13_findNames hc) rfl hl.1 (by decide) rfl ⟨Nat.zero_le _, Nat.zero_le _⟩ dX13_program_105) (fun H locs S => ?_)
  refine g_aload_n X (or_rv _) dX13_program_108 rfl (lv_at hl 0 rfl) ?_
  refine g_gI X S foX13_231 rfl dX13_program_109 hf (fun v2 hf => ?_)
  refine lv_if_eq (tgt := 138) X.1 X.2.1 dX13_program_112 (by decide) (fun c3 => ?_) (fun c3 => ?_)
  · replace hf := (if_pos c3).symm.trans hf
    refine g_aload_n X (or_rv _) dX13_program_138 rfl (lv_at hl 0 rfl) ?_
    obtain ⟨h, hc, hf⟩ := ob_some hf
    refine g_cv S (runV (As := []) (rest := []) X S coX13_338 (by decide) (cX13_takeOver_m l hc) (tkX13_takeOver hc) rfl hl.1 (by decide) rfl ⟨Nat.zero_le _, Nat.zero_le _⟩ dX13_program_139) (fun H locs S => ?_)
    refine lv_iconst (v := 0) X.1 X.2.1 dX13_program_142 (by decide) ?_
    cases hf; exact g_ri X S hr hlk dX13_program_143
  · replace hf := (if_neg c3).symm.trans hf
    refine g_aload_n X (or_rv _) dX13_program_115 rfl (lv_at hl 0 rfl) ?_
    refine g_aload_n X (or_rv _) dX13_program_116 rfl (lv_at hl 0 rfl) ?_
    refine g_gI X S foX13_234 rfl dX13_program_117 hf (fun v5 hf => ?_)
    refine g_pI X S fpX13_110 (Or.inl rfl) dX13_program_120 hf (fun h H locs hm hf S => ?_)
    refine g_aload_n X (or_rv _) dX13_program_123 rfl (lv_at hl 0 rfl) ?_
    refine g_gR X S foX13_80 dX13_program_124 hf (fun v6 hf => ?_)
    refine lv_iconst (v := 0) X.1 X.2.1 dX13_program_127 (by decide) ?_
    refine lv_dup2_11 X.1 X.2.1 dX13_program_128 rfl (cat_rv _) ?_
    refine g_aI X S dX13_program_129 hf (fun v7 hf => ?_)
    refine lv_iconst (v := 1) X.1 X.2.1 dX13_program_130 (by decide) ?_
    refine lv_iadd X.1 X.2.1 dX13_program_131 ?_
    refine g_qI X S dX13_program_132 hf (fun h H locs hm hf S => ?_)
    refine g_aload_n X (or_rv _) dX13_program_133 rfl (lv_at hl 0 rfl) ?_
    refine g_gI X S foX13_231 rfl dX13_program_134 hf (fun v8 hf => ?_)
    cases hf; exact g_ri X S hr hlk dX13_program_137
def fX13_program_83 (k83 : Nat → Hp → Option (Int32 × Hp)) (x0 : Nat) (h : Hp) : Option (Int32 × Hp) := ob (gI 11 x0 23 h) fun v1 => if v1 = 0 then ob (gI 11 x0 19 h) fun v3 => if v3 = 0 then fX13_program_104 x0 h else ob (fX13_readLine x0 h) fun h => k83 x0 h else fX13_program_104 x0 h
theorem wfX13_program_83 {k83 : Nat → Hp → Option (Int32 × Hp)} {r9 : Int32} {h9 : Hp} (X : Cx p E A 18 R s m args c cX13_program yX13_program.cls 3) (hr : meth.sig.returnType = (some .int)) (hlk : meth.locks = false) (hnm : meth.name = yX13_program.name) (hk83 : ∀ (x0 : Nat) (h : Hp) (H : Heap) (locs : List Loc) (ls : Array Slot), lv_has ls 3 [(0, rv x0)] → St E A s h H locs → k83 x0 h = some (r9, h9) → W p l e R s m args below meth c H locs 0 0 (MQ below (Qi E A h9 r9) args s 0 0 A) (F0 m 83 ls [])) :
    ∀ (x0 : Nat) (h : Hp) (H : Heap) (locs : List Loc) (ls : Array Slot), lv_has ls 3 [(0, rv x0)] → St E A s h H locs → fX13_program_83 k83 x0 h = some (r9, h9) → W p l e R s m args below meth c H locs 0 0 (MQ below (Qi E A h9 r9) args s 0 0 A) (F0 m 83 ls []) := by
  intro x0 h H locs ls hl S hf
  unfold fX13_program_83 at hf
  refine g_aload_n X (or_rv _) dX13_program_83 rfl (lv_at hl 0 rfl) ?_
  refine g_gI X S foX13_231 rfl dX13_program_84 hf (fun v1 hf => ?_)
  refine lv_if_ne (tgt := 104) X.1 X.2.1 dX13_program_87 (by decide) (fun c2 => ?_) (fun c2 => ?_)
  · replace hf := (if_neg c2).symm.trans hf
    exact wfX13_program_104 X hr hlk hnm _ _ _ _ _ hl S hf
  · replace hf := (if_pos c2).symm.trans hf
    refine g_aload_n X (or_rv _) dX13_program_90 rfl (lv_at hl 0 rfl) ?_
    refine g_gI X S foX13_209 rfl dX13_program_91 hf (fun v3 hf => ?_)
    refine lv_if_eq (tgt := 104) X.1 X.2.1 dX13_program_94 (by decide) (fun c4 => ?_) (fun c4 => ?_)
    · replace hf := (if_pos c4).symm.trans hf
      exact wfX13_program_104 X hr hlk hnm _ _ _ _ _ hl S hf
    · replace hf := (if_neg c4).symm.trans hf
      refine g_aload_n X (or_rv _) dX13_program_97 rfl (lv_at hl 0 rfl) ?_
      obtain ⟨h, hc, hf⟩ := ob_some hf
      refine g_cv S (runV (As := []) (rest := []) X S coX13_332 (by decide) (cX13_readLine_m l hc) (tkX13_readLine hc) rfl hl.1 (by decide) rfl ⟨Nat.zero_le _, Nat.zero_le _⟩ dX13_program_98) (fun H locs S => ?_)
      refine lv_goto (tgt := 83) X.1 X.2.1 dX13_program_101 (by decide) ?_
      exact hk83 _ _ _ _ _ hl S hf
theorem wfX13_program_83_l {r9 : Int32} {h9 : Hp} (X : Cx p E A 18 R s m args c cX13_program yX13_program.cls 3) (hr : meth.sig.returnType = (some .int)) (hlk : meth.locks = false) (hnm : meth.name = yX13_program.name) :
    ∀ (n : Nat) (x0 : Nat) (h : Hp) (H : Heap) (locs : List Loc) (ls : Array Slot), lv_has ls 3 [(0, rv x0)] → St E A s h H locs → lp (fun _ _ => none) (fX13_program_83) n x0 h = some (r9, h9) → W p l e R s m args below meth c H locs 0 0 (MQ below (Qi E A h9 r9) args s 0 0 A) (F0 m 83 ls []) := by
  intro n
  induction n with
  | zero =>
    intro x0 h H locs ls hl S hf
    exact nomatch hf
  | succ n ih =>
    intro x0 h H locs ls hl S hf
    exact wfX13_program_83 X hr hlk hnm ih x0 h H locs ls hl S hf
def fX13_program_55 (k55 : Nat → Int32 → Hp → Option (Int32 × Hp)) (x0 : Nat) (x2 : Int32) (h : Hp) : Option (Int32 × Hp) := if 256 ≤ x2 then ob (fX13_stepOn x0 h) fun h => lp (fun _ _ => none) (fX13_program_83) FU x0 h else ob (gR 11 x0 12 h) fun v3 => ob (qI v3 (256 + x2) 0 h) fun h => lt (x2 + 1) fun z4 => k55 x0 z4 h
theorem wfX13_program_55 {k55 : Nat → Int32 → Hp → Option (Int32 × Hp)} {r9 : Int32} {h9 : Hp} (X : Cx p E A 18 R s m args c cX13_program yX13_program.cls 3) (hr : meth.sig.returnType = (some .int)) (hlk : meth.locks = false) (hnm : meth.name = yX13_program.name) (hk55 : ∀ (x0 : Nat) (x2 : Int32) (h : Hp) (H : Heap) (locs : List Loc) (ls : Array Slot), lv_has ls 3 [(0, rv x0), (2, .int x2)] → St E A s h H locs → k55 x0 x2 h = some (r9, h9) → W p l e R s m args below meth c H locs 0 0 (MQ below (Qi E A h9 r9) args s 0 0 A) (F0 m 55 ls [])) :
    ∀ (x0 : Nat) (x2 : Int32) (h : Hp) (H : Heap) (locs : List Loc) (ls : Array Slot), lv_has ls 3 [(0, rv x0), (2, .int x2)] → St E A s h H locs → fX13_program_55 k55 x0 x2 h = some (r9, h9) → W p l e R s m args below meth c H locs 0 0 (MQ below (Qi E A h9 r9) args s 0 0 A) (F0 m 55 ls []) := by
  intro x0 x2 h H locs ls hl S hf
  unfold fX13_program_55 at hf
  refine lv_iload_n X.1 X.2.1 dX13_program_55 rfl (lv_at hl 1 rfl) ?_
  refine lv_sipush (v := 256) X.1 X.2.1 dX13_program_56 (by decide) ?_
  refine lv_icmp_ge (tgt := 79) X.1 X.2.1 dX13_program_59 (by decide) (fun c1 => ?_) (fun c1 => ?_)
  · replace hf := (if_pos c1).symm.trans hf
    refine g_aload_n X (or_rv _) dX13_program_79 rfl (lv_at hl 0 rfl) ?_
    obtain ⟨h, hc, hf⟩ := ob_some hf
    refine g_cv S (runV (As := []) (rest := []) X S coX13_252 (by decide) (cX13_stepOn_m l hc) (tkX13_stepOn hc) rfl hl.1 (by decide) rfl ⟨Nat.zero_le _, Nat.zero_le _⟩ dX13_program_80) (fun H locs S => ?_)
    exact wfX13_program_83_l X hr hlk hnm FU _ _ _ _ _ (lv_sub hl [0] rfl) S hf
  · replace hf := (if_neg c1).symm.trans hf
    refine g_aload_n X (or_rv _) dX13_program_62 rfl (lv_at hl 0 rfl) ?_
    refine g_gR X S foX13_104 dX13_program_63 hf (fun v3 hf => ?_)
    refine lv_sipush (v := 256) X.1 X.2.1 dX13_program_66 (by decide) ?_
    refine lv_iload_n X.1 X.2.1 dX13_program_69 rfl (lv_at hl 1 rfl) ?_
    refine lv_iadd X.1 X.2.1 dX13_program_70 ?_
    refine lv_iconst (v := 0) X.1 X.2.1 dX13_program_71 (by decide) ?_
    refine g_qI X S dX13_program_72 hf (fun h H locs hm hf S => ?_)
    obtain ⟨z4, ez4, hf⟩ := lt_some hf
    refine lv_iinc (v := z4) (lv' := [(2, .int z4), (0, rv x0)]) X.1 X.2.1 dX13_program_73 hl (k := 1) rfl (by rw [← ez4]; rfl) (by decide) rfl (fun ls hl => ?_)
    refine lv_goto (tgt := 55) X.1 X.2.1 dX13_program_76 (by decide) ?_
    exact hk55 _ _ _ _ _ _ (lv_sub hl [1, 0] rfl) S hf
theorem wfX13_program_55_l {r9 : Int32} {h9 : Hp} (X : Cx p E A 18 R s m args c cX13_program yX13_program.cls 3) (hr : meth.sig.returnType = (some .int)) (hlk : meth.locks = false) (hnm : meth.name = yX13_program.name) :
    ∀ (n : Nat) (x0 : Nat) (x2 : Int32) (h : Hp) (H : Heap) (locs : List Loc) (ls : Array Slot), lv_has ls 3 [(0, rv x0), (2, .int x2)] → St E A s h H locs → lp (fun _ _ _ => none) (fX13_program_55) n x0 x2 h = some (r9, h9) → W p l e R s m args below meth c H locs 0 0 (MQ below (Qi E A h9 r9) args s 0 0 A) (F0 m 55 ls []) := by
  intro n
  induction n with
  | zero =>
    intro x0 x2 h H locs ls hl S hf
    exact nomatch hf
  | succ n ih =>
    intro x0 x2 h H locs ls hl S hf
    exact wfX13_program_55 X hr hlk hnm ih x0 x2 h H locs ls hl S hf
def fX13_program (a0 : Nat) (a1 : Int32) (h : Hp) : Option (Int32 × Hp) := gd 11 a0 h (ob (pI 11 a0 2 0 h) fun h => if a1 < 0 then fX13_program_17 a0 h else ob (gI 11 a0 16 h) fun v2 => if a1 ≤ v2 then ob (pI 11 a0 16 0 h) fun h => ob (pI 11 a0 18 a1 h) fun h => ob (pI 11 a0 17 0 h) fun h => ob (pI 11 a0 23 0 h) fun h => ob (pI 11 a0 25 (-1) h) fun h => ob (pI 11 a0 14 0 h) fun h => lp (fun _ _ _ => none) (fX13_program_55) FU a0 0 h else fX13_program_17 a0 h)
theorem tkX13_program {a0 : Nat} {a1 : Int32} {h : Hp} {r9 : Int32 × Hp} (e : fX13_program a0 a1 h = some r9) : hK h a0 = 11 := by
  unfold fX13_program at e
  exact (gd_some e).1
theorem cX13_program_m (l : Launch) {E : EE} {A : Nat → Prop} {a0 : Nat} {a1 : Int32} {h : Hp} {r9 : Int32} {h9 : Hp} (hf : fX13_program a0 a1 h = some (r9, h9)) : Met l yX13_program (wsM yX13_program cX13_program 3 (some .int)) (rmm 18 0 0) (PcE E A h [rv a0, .int a1]) (Qi E A h9 r9) 0 0 A := by
  refine met_of (by decide +kernel) (by simp [lg_sl, cat_rv, cat_wv, cat_sv, cat_i, cat_l, cat_a]) (fun p e s m args below meth c ls X hr hlk hnm S hl => ?_)
  have hl : lv_has ls 3 [(0, rv a0), (1, .int a1)] := by simpa [lv_args, cat_rv, cat_wv, cat_sv, cat_i, cat_l, cat_a] using hl
  generalize hH : s.heap = H at S ⊢
  generalize hlo : ([] : List Loc) = locs at S ⊢
  clear hH hlo
  unfold fX13_program at hf
  obtain ⟨hth, hf⟩ := gd_some hf
  refine g_aload_n X (or_rv _) dX13_program_0 rfl (lv_at hl 0 rfl) ?_
  refine lv_iconst (v := 0) X.1 X.2.1 dX13_program_1 (by decide) ?_
  refine g_pI X S fpX13_187 (Or.inl rfl) dX13_program_2 hf (fun h H locs hm hf S => ?_)
  refine lv_iload_n X.1 X.2.1 dX13_program_5 rfl (lv_at hl 1 rfl) ?_
  refine lv_if_lt (tgt := 17) X.1 X.2.1 dX13_program_6 (by decide) (fun c1 => ?_) (fun c1 => ?_)
  · replace hf := (if_pos c1).symm.trans hf
    exact wfX13_program_17 X hr hlk hnm _ _ _ _ _ (lv_sub hl [0] rfl) S hf
  · replace hf := (if_neg c1).symm.trans hf
    refine lv_iload_n X.1 X.2.1 dX13_program_9 rfl (lv_at hl 1 rfl) ?_
    refine g_aload_n X (or_rv _) dX13_program_10 rfl (lv_at hl 0 rfl) ?_
    refine g_gI X S foX13_190 rfl dX13_program_11 hf (fun v2 hf => ?_)
    refine lv_icmp_le (tgt := 23) X.1 X.2.1 dX13_program_14 (by decide) (fun c3 => ?_) (fun c3 => ?_)
    · replace hf := (if_pos c3).symm.trans hf
      refine g_aload_n X (or_rv _) dX13_program_23 rfl (lv_at hl 0 rfl) ?_
      refine lv_iconst (v := 0) X.1 X.2.1 dX13_program_24 (by decide) ?_
      refine g_pI X S fpX13_190 (Or.inl rfl) dX13_program_25 hf (fun h H locs hm hf S => ?_)
      refine g_aload_n X (or_rv _) dX13_program_28 rfl (lv_at hl 0 rfl) ?_
      refine lv_iload_n X.1 X.2.1 dX13_program_29 rfl (lv_at hl 1 rfl) ?_
      refine g_pI X S fpX13_193 (Or.inl rfl) dX13_program_30 hf (fun h H locs hm hf S => ?_)
      refine g_aload_n X (or_rv _) dX13_program_33 rfl (lv_at hl 0 rfl) ?_
      refine lv_iconst (v := 0) X.1 X.2.1 dX13_program_34 (by decide) ?_
      refine g_pI X S fpX13_200 (Or.inl rfl) dX13_program_35 hf (fun h H locs hm hf S => ?_)
      refine g_aload_n X (or_rv _) dX13_program_38 rfl (lv_at hl 0 rfl) ?_
      refine lv_iconst (v := 0) X.1 X.2.1 dX13_program_39 (by decide) ?_
      refine g_pI X S fpX13_231 (Or.inl rfl) dX13_program_40 hf (fun h H locs hm hf S => ?_)
      refine g_aload_n X (or_rv _) dX13_program_43 rfl (lv_at hl 0 rfl) ?_
      refine lv_iconst (v := (-1)) X.1 X.2.1 dX13_program_44 (by decide) ?_
      refine g_pI X S fpX13_110 (Or.inl rfl) dX13_program_45 hf (fun h H locs hm hf S => ?_)
      refine g_aload_n X (or_rv _) dX13_program_48 rfl (lv_at hl 0 rfl) ?_
      refine lv_iconst (v := 0) X.1 X.2.1 dX13_program_49 (by decide) ?_
      refine g_pI X S fpX13_259 (Or.inl rfl) dX13_program_50 hf (fun h H locs hm hf S => ?_)
      refine lv_iconst (v := 0) X.1 X.2.1 dX13_program_53 (by decide) ?_
      refine lv_istore_n (i := 2) (lv' := [(2, .int 0), (0, rv a0), (1, .int a1)]) X.1 X.2.1 dX13_program_54 rfl hl (by decide) rfl (fun ls hl => ?_)
      exact wfX13_program_55_l X hr hlk hnm FU _ _ _ _ _ _ (lv_sub hl [1, 0] rfl) S hf
    · replace hf := (if_neg c3).symm.trans hf
      exact wfX13_program_17 X hr hlk hnm _ _ _ _ _ (lv_sub hl [0] rfl) S hf
def fX13_fault (a0 : Nat) (h : Hp) : Option (Int32 × Hp) := gd 11 a0 h (ob (pI 11 a0 2 0 h) fun h => ob (gI 11 a0 25 h) fun v1 => some (v1, h))
theorem tkX13_fault {a0 : Nat} {h : Hp} {r9 : Int32 × Hp} (e : fX13_fault a0 h = some r9) : hK h a0 = 11 := by
  unfold fX13_fault at e
  exact (gd_some e).1
theorem cX13_fault_m (l : Launch) {E : EE} {A : Nat → Prop} {a0 : Nat} {h : Hp} {r9 : Int32} {h9 : Hp} (hf : fX13_fault a0 h = some (r9, h9)) : Met l yX13_fault (wsM yX13_fault cX13_fault 1 (some .int)) (rmm 8 0 0) (PcE E A h [rv a0]) (Qi E A h9 r9) 0 0 A := by
  refine met_of (by decide +kernel) (by simp [lg_sl, cat_rv, cat_wv, cat_sv, cat_i, cat_l, cat_a]) (fun p e s m args below meth c ls X hr hlk hnm S hl => ?_)
  have hl : lv_has ls 1 [(0, rv a0)] := by simpa [lv_args, cat_rv, cat_wv, cat_sv, cat_i, cat_l, cat_a] using hl
  generalize hH : s.heap = H at S ⊢
  generalize hlo : ([] : List Loc) = locs at S ⊢
  clear hH hlo
  unfold fX13_fault at hf
  obtain ⟨hth, hf⟩ := gd_some hf
  refine g_aload_n X (or_rv _) dX13_fault_0 rfl (lv_at hl 0 rfl) ?_
  refine lv_iconst (v := 0) X.1 X.2.1 dX13_fault_1 (by decide) ?_
  refine g_pI X S fpX13_187 (Or.inl rfl) dX13_fault_2 hf (fun h H locs hm hf S => ?_)
  refine g_aload_n X (or_rv _) dX13_fault_5 rfl (lv_at hl 0 rfl) ?_
  refine g_gI X S foX13_110 rfl dX13_fault_6 hf (fun v1 hf => ?_)
  cases hf; exact g_ri X S hr hlk dX13_fault_9
def fX13_powerOf_4 (k4 : Int32 → Int64 → Int32 → Option (Int64)) (x0 : Int32) (x1 : Int64) (x3 : Int32) : Option (Int64) := if x0 ≤ x3 then some x1 else lt (x1 * 10) fun z2 => lt (x3 + 1) fun z3 => k4 x0 z2 z3
theorem wfX13_powerOf_4 {h : Hp} {k4 : Int32 → Int64 → Int32 → Option (Int64)} {r9 : Int64} (X : Cx p E A 8 R s m args c cX13_powerOf yX13_powerOf.cls 4) (hr : meth.sig.returnType = (some .long)) (hlk : meth.locks = false) (hnm : meth.name = yX13_powerOf.name) (hk4 : ∀ (x0 : Int32) (x1 : Int64) (x3 : Int32) (H : Heap) (locs : List Loc) (ls : Array Slot), lv_has ls 4 [(0, .int x0), (1, .long x1), (3, .int x3)] → St E A s h H locs → k4 x0 x1 x3 = some r9 → W p l e R s m args below meth c H locs 0 0 (MQ below (Ql E A h r9) args s 0 0 A) (F0 m 4 ls [])) :
    ∀ (x0 : Int32) (x1 : Int64) (x3 : Int32) (H : Heap) (locs : List Loc) (ls : Array Slot), lv_has ls 4 [(0, .int x0), (1, .long x1), (3, .int x3)] → St E A s h H locs → fX13_powerOf_4 k4 x0 x1 x3 = some r9 → W p l e R s m args below meth c H locs 0 0 (MQ below (Ql E A h r9) args s 0 0 A) (F0 m 4 ls []) := by
  intro x0 x1 x3 H locs ls hl S hf
  unfold fX13_powerOf_4 at hf
  refine lv_iload_n X.1 X.2.1 dX13_powerOf_4 rfl (lv_at hl 2 rfl) ?_
  refine lv_iload_n X.1 X.2.1 dX13_powerOf_5 rfl (lv_at hl 0 rfl) ?_
  refine lv_icmp_ge (tgt := 21) X.1 X.2.1 dX13_powerOf_6 (by decide) (fun c1 => ?_) (fun c1 => ?_)
  · replace hf := (if_pos c1).symm.trans hf
    refine lv_lload_n X.1 X.2.1 dX13_powerOf_21 rfl (lv_at hl 1 rfl) ?_
    cases hf; exact g_rl X S hr hlk dX13_powerOf_22
  · replace hf := (if_neg c1).symm.trans hf
    refine lv_lload_n X.1 X.2.1 dX13_powerOf_9 rfl (lv_at hl 1 rfl) ?_
    refine lv_ldc2 X.1 X.2.1 X.2.2.2.1 (X.2.2.1 _ kuX13_358) dX13_powerOf_10 ?_
    refine lv_lmul X.1 X.2.1 dX13_powerOf_13 ?_
    refine g_ltl hf (fun z2 hf => ?_)
    refine lv_lstore_n (i := 1) (lv' := [(1, .long z2), (0, .int x0), (3, .int x3)]) X.1 X.2.1 dX13_powerOf_14 rfl hl (by decide) rfl (fun ls hl => ?_)
    obtain ⟨z3, ez3, hf⟩ := lt_some hf
    refine lv_iinc (v := z3) (lv' := [(3, .int z3), (1, .long z2), (0, .int x0)]) X.1 X.2.1 dX13_powerOf_15 hl (k := 2) rfl (by rw [← ez3]; rfl) (by decide) rfl (fun ls hl => ?_)
    refine lv_goto (tgt := 4) X.1 X.2.1 dX13_powerOf_18 (by decide) ?_
    exact hk4 _ _ _ _ _ _ (lv_sub hl [2, 1, 0] rfl) S hf
theorem wfX13_powerOf_4_l {h : Hp} {r9 : Int64} (X : Cx p E A 8 R s m args c cX13_powerOf yX13_powerOf.cls 4) (hr : meth.sig.returnType = (some .long)) (hlk : meth.locks = false) (hnm : meth.name = yX13_powerOf.name) :
    ∀ (n : Nat) (x0 : Int32) (x1 : Int64) (x3 : Int32) (H : Heap) (locs : List Loc) (ls : Array Slot), lv_has ls 4 [(0, .int x0), (1, .long x1), (3, .int x3)] → St E A s h H locs → lp (fun _ _ _ => none) (fX13_powerOf_4) n x0 x1 x3 = some r9 → W p l e R s m args below meth c H locs 0 0 (MQ below (Ql E A h r9) args s 0 0 A) (F0 m 4 ls []) := by
  intro n
  induction n with
  | zero =>
    intro x0 x1 x3 H locs ls hl S hf
    exact nomatch hf
  | succ n ih =>
    intro x0 x1 x3 H locs ls hl S hf
    exact wfX13_powerOf_4 X hr hlk hnm ih x0 x1 x3 H locs ls hl S hf
def fX13_powerOf (a0 : Int32) : Option (Int64) := lp (fun _ _ _ => none) (fX13_powerOf_4) FU a0 1 0
theorem cX13_powerOf_m (l : Launch) {E : EE} {A : Nat → Prop} {a0 : Int32} {h : Hp} {r9 : Int64} (hf : fX13_powerOf a0 = some r9) : Met l yX13_powerOf (wsM yX13_powerOf cX13_powerOf 4 (some .long)) (rmm 8 0 0) (PcE E A h [.int a0]) (Ql E A h r9) 0 0 A := by
  refine met_of (by decide +kernel) (by simp [lg_sl, cat_rv, cat_wv, cat_sv, cat_i, cat_l, cat_a]) (fun p e s m args below meth c ls X hr hlk hnm S hl => ?_)
  have hl : lv_has ls 4 [(0, .int a0)] := by simpa [lv_args, cat_rv, cat_wv, cat_sv, cat_i, cat_l, cat_a] using hl
  generalize hH : s.heap = H at S ⊢
  generalize hlo : ([] : List Loc) = locs at S ⊢
  clear hH hlo
  unfold fX13_powerOf at hf
  refine lv_lconst (v := 1) X.1 X.2.1 dX13_powerOf_0 (by decide) ?_
  refine lv_lstore_n (i := 1) (lv' := [(1, .long 1), (0, .int a0)]) X.1 X.2.1 dX13_powerOf_1 rfl hl (by decide) rfl (fun ls hl => ?_)
  refine lv_iconst (v := 0) X.1 X.2.1 dX13_powerOf_2 (by decide) ?_
  refine lv_istore_n (i := 3) (lv' := [(3, .int 0), (1, .long 1), (0, .int a0)]) X.1 X.2.1 dX13_powerOf_3 rfl hl (by decide) rfl (fun ls hl => ?_)
  exact wfX13_powerOf_4_l X hr hlk hnm FU _ _ _ _ _ _ (lv_sub hl [2, 1, 0] rfl) S hf
def fX13_clear_2 (k2 : Nat → Int32 → Hp → Option (Hp)) (x0 : Nat) (x1 : Int32) (h : Hp) : Option (Hp) := if 8 ≤ x1 then some h else ob (qL x0 x1 0 h) fun h => lt (x1 + 1) fun z2 => k2 x0 z2 h
theorem wfX13_clear_2 {k2 : Nat → Int32 → Hp → Option (Hp)} {h9 : Hp} (X : Cx p E A 8 R s m args c cX13_clear yX13_clear.cls 2) (hr : meth.sig.returnType = none) (hlk : meth.locks = false) (hnm : meth.name = yX13_clear.name) (hk2 : ∀ (x0 : Nat) (x1 : Int32) (h : Hp) (H : Heap) (locs : List Loc) (ls : Array Slot), lv_has ls 2 [(0, rv x0), (1, .int x1)] → St E A s h H locs → k2 x0 x1 h = some h9 → W p l e R s m args below meth c H locs 0 0 (MQ below (Qv E A h9) args s 0 0 A) (F0 m 2 ls [])) :
    ∀ (x0 : Nat) (x1 : Int32) (h : Hp) (H : Heap) (locs : List Loc) (ls : Array Slot), lv_has ls 2 [(0, rv x0), (1, .int x1)] → St E A s h H locs → fX13_clear_2 k2 x0 x1 h = some h9 → W p l e R s m args below meth c H locs 0 0 (MQ below (Qv E A h9) args s 0 0 A) (F0 m 2 ls []) := by
  intro x0 x1 h H locs ls hl S hf
  unfold fX13_clear_2 at hf
  refine lv_iload_n X.1 X.2.1 dX13_clear_2 rfl (lv_at hl 1 rfl) ?_
  refine lv_bipush (v := 8) X.1 X.2.1 dX13_clear_3 (by decide) ?_
  refine lv_icmp_ge (tgt := 18) X.1 X.2.1 dX13_clear_5 (by decide) (fun c1 => ?_) (fun c1 => ?_)
  · replace hf := (if_pos c1).symm.trans hf
    cases hf; exact g_rv X S hr hlk dX13_clear_18
  · replace hf := (if_neg c1).symm.trans hf
    refine g_aload_n X (or_rv _) dX13_clear_8 rfl (lv_at hl 0 rfl) ?_
    refine lv_iload_n X.1 X.2.1 dX13_clear_9 rfl (lv_at hl 1 rfl) ?_
    refine lv_lconst (v := 0) X.1 X.2.1 dX13_clear_10 (by decide) ?_
    refine g_qL X S dX13_clear_11 hf (fun h H locs hm hf S => ?_)
    obtain ⟨z2, ez2, hf⟩ := lt_some hf
    refine lv_iinc (v := z2) (lv' := [(1, .int z2), (0, rv x0)]) X.1 X.2.1 dX13_clear_12 hl (k := 1) rfl (by rw [← ez2]; rfl) (by decide) (by simp [List.filter, cat_rv, cat_wv, cat_sv]) (fun ls hl => ?_)
    refine lv_goto (tgt := 2) X.1 X.2.1 dX13_clear_15 (by decide) ?_
    exact hk2 _ _ _ _ _ _ (lv_sub hl [1, 0] rfl) S hf
theorem wfX13_clear_2_l {h9 : Hp} (X : Cx p E A 8 R s m args c cX13_clear yX13_clear.cls 2) (hr : meth.sig.returnType = none) (hlk : meth.locks = false) (hnm : meth.name = yX13_clear.name) :
    ∀ (n : Nat) (x0 : Nat) (x1 : Int32) (h : Hp) (H : Heap) (locs : List Loc) (ls : Array Slot), lv_has ls 2 [(0, rv x0), (1, .int x1)] → St E A s h H locs → lp (fun _ _ _ => none) (fX13_clear_2) n x0 x1 h = some h9 → W p l e R s m args below meth c H locs 0 0 (MQ below (Qv E A h9) args s 0 0 A) (F0 m 2 ls []) := by
  intro n
  induction n with
  | zero =>
    intro x0 x1 h H locs ls hl S hf
    exact nomatch hf
  | succ n ih =>
    intro x0 x1 h H locs ls hl S hf
    exact wfX13_clear_2 X hr hlk hnm ih x0 x1 h H locs ls hl S hf
def fX13_clear (a0 : Nat) (h : Hp) : Option (Hp) := lp (fun _ _ _ => none) (fX13_clear_2) FU a0 0 h
theorem cX13_clear_m (l : Launch) {E : EE} {A : Nat → Prop} {a0 : Nat} {h : Hp} {h9 : Hp} (hf : fX13_clear a0 h = some h9) : Met l yX13_clear (wsM yX13_clear cX13_clear 2 none) (rmm 8 0 0) (PcE E A h [rv a0]) (Qv E A h9) 0 0 A := by
  refine met_of (by decide +kernel) (by simp [lg_sl, cat_rv, cat_wv, cat_sv, cat_i, cat_l, cat_a]) (fun p e s m args below meth c ls X hr hlk hnm S hl => ?_)
  have hl : lv_has ls 2 [(0, rv a0)] := by simpa [lv_args, cat_rv, cat_wv, cat_sv, cat_i, cat_l, cat_a] using hl
  generalize hH : s.heap = H at S ⊢
  generalize hlo : ([] : List Loc) = locs at S ⊢
  clear hH hlo
  unfold fX13_clear at hf
  refine lv_iconst (v := 0) X.1 X.2.1 dX13_clear_0 (by decide) ?_
  refine lv_istore_n (i := 1) (lv' := [(1, .int 0), (0, rv a0)]) X.1 X.2.1 dX13_clear_1 rfl hl (by decide) (by simp [List.filter, cat_rv, cat_wv, cat_sv]) (fun ls hl => ?_)
  exact wfX13_clear_2_l X hr hlk hnm FU _ _ _ _ _ _ (lv_sub hl [1, 0] rfl) S hf
def fX13_digitOf (a0 : Nat) (a1 : Int32) (h : Hp) : Option (Int32) := ob (aL a0 (a1 / 8) h) fun v1 => ob (fX13_powerOf (irm a1 8)) fun v2 => nz (v2 = 0) (some (Int64.toInt32 (lrm (v1 / v2) 10)))
theorem cX13_digitOf_m (l : Launch) {E : EE} {A : Nat → Prop} {a0 : Nat} {a1 : Int32} {h : Hp} {r9 : Int32} (hf : fX13_digitOf a0 a1 h = some r9) : Met l yX13_digitOf (wsM yX13_digitOf cX13_digitOf 2 (some .int)) (rmm 9 0 0) (PcE E A h [rv a0, .int a1]) (Qi E A h r9) 0 0 A := by
  refine met_of (by decide +kernel) (by simp [lg_sl, cat_rv, cat_wv, cat_sv, cat_i, cat_l, cat_a]) (fun p e s m args below meth c ls X hr hlk hnm S hl => ?_)
  have hl : lv_has ls 2 [(0, rv a0), (1, .int a1)] := by simpa [lv_args, cat_rv, cat_wv, cat_sv, cat_i, cat_l, cat_a] using hl
  generalize hH : s.heap = H at S ⊢
  generalize hlo : ([] : List Loc) = locs at S ⊢
  clear hH hlo
  unfold fX13_digitOf at hf
  refine g_aload_n X (or_rv _) dX13_digitOf_0 rfl (lv_at hl 0 rfl) ?_
  refine lv_iload_n X.1 X.2.1 dX13_digitOf_1 rfl (lv_at hl 1 rfl) ?_
  refine lv_bipush (v := 8) X.1 X.2.1 dX13_digitOf_2 (by decide) ?_
  refine g_idiv X (by decide) dX13_digitOf_4 ?_
  refine g_aL X S dX13_digitOf_5 hf (fun v1 hf => ?_)
  refine lv_iload_n X.1 X.2.1 dX13_digitOf_6 rfl (lv_at hl 1 rfl) ?_
  refine lv_bipush (v := 8) X.1 X.2.1 dX13_digitOf_7 (by decide) ?_
  refine g_irem X (by decide) dX13_digitOf_9 ?_
  obtain ⟨v2, hc, hf⟩ := ob_some hf
  refine g_cl S (runS (As := [.int (irm a1 8)]) (rest := [.long v1]) X S coX13_360 (by decide) (cX13_powerOf_m l hc) rfl hl.1 (by simp [cat_rv, cat_wv, cat_sv, cat_i, cat_l, cat_a]) rfl ⟨Nat.zero_le _, Nat.zero_le _⟩ dX13_digitOf_10) (fun H locs S => ?_)
  obtain ⟨c3, hf⟩ := nz_some hf
  refine g_ldiv X c3 dX13_digitOf_13 ?_
  refine lv_ldc2 X.1 X.2.1 X.2.2.2.1 (X.2.2.1 _ kuX13_358) dX13_digitOf_14 ?_
  refine g_lrem X (by decide) dX13_digitOf_17 ?_
  refine lv_l2i (v := Int64.toInt32 (lrm (v1 / v2) 10)) X.1 X.2.1 dX13_digitOf_18 rfl ?_
  cases hf; exact g_ri X S hr hlk dX13_digitOf_19
def fX13_putDigit (a0 : Nat) (a1 : Int32) (a2 : Int32) (h : Hp) : Option (Hp) := ob (aL a0 (a1 / 8) h) fun v1 => ob (fX13_powerOf (irm a1 8)) fun v2 => ob (qL a0 (a1 / 8) (v1 + ((Int32.toInt64 a2) * v2)) h) fun h => some h
theorem cX13_putDigit_m (l : Launch) {E : EE} {A : Nat → Prop} {a0 : Nat} {a1 : Int32} {a2 : Int32} {h : Hp} {h9 : Hp} (hf : fX13_putDigit a0 a1 a2 h = some h9) : Met l yX13_putDigit (wsM yX13_putDigit cX13_putDigit 3 none) (rmm 9 0 0) (PcE E A h [rv a0, .int a1, .int a2]) (Qv E A h9) 0 0 A := by
  refine met_of (by decide +kernel) (by simp [lg_sl, cat_rv, cat_wv, cat_sv, cat_i, cat_l, cat_a]) (fun p e s m args below meth c ls X hr hlk hnm S hl => ?_)
  have hl : lv_has ls 3 [(0, rv a0), (1, .int a1), (2, .int a2)] := by simpa [lv_args, cat_rv, cat_wv, cat_sv, cat_i, cat_l, cat_a] using hl
  generalize hH : s.heap = H at S ⊢
  generalize hlo : ([] : List Loc) = locs at S ⊢
  clear hH hlo
  unfold fX13_putDigit at hf
  refine g_aload_n X (or_rv _) dX13_putDigit_0 rfl (lv_at hl 0 rfl) ?_
  refine lv_iload_n X.1 X.2.1 dX13_putDigit_1 rfl (lv_at hl 1 rfl) ?_
  refine lv_bipush (v := 8) X.1 X.2.1 dX13_putDigit_2 (by decide) ?_
  refine g_idiv X (by decide) dX13_putDigit_4 ?_
  refine lv_dup2_11 X.1 X.2.1 dX13_putDigit_5 rfl (cat_rv _) ?_
  refine g_aL X S dX13_putDigit_6 hf (fun v1 hf => ?_)
  refine lv_iload_n X.1 X.2.1 dX13_putDigit_7 rfl (lv_at hl 2 rfl) ?_
  refine lv_i2l (v := Int32.toInt64 a2) X.1 X.2.1 dX13_putDigit_8 rfl ?_
  refine lv_iload_n X.1 X.2.1 dX13_putDigit_9 rfl (lv_at hl 1 rfl) ?_
  refine lv_bipush (v := 8) X.1 X.2.1 dX13_putDigit_10 (by decide) ?_
  refine g_irem X (by decide) dX13_putDigit_12 ?_
  obtain ⟨v2, hc, hf⟩ := ob_some hf
  refine g_cl S (runS (As := [.int (irm a1 8)]) (rest := [.long (Int32.toInt64 a2), .long v1, .int (a1 / 8), rv a0]) X S coX13_360 (by decide) (cX13_powerOf_m l hc) rfl hl.1 (by simp [cat_rv, cat_wv, cat_sv, cat_i, cat_l, cat_a]) rfl ⟨Nat.zero_le _, Nat.zero_le _⟩ dX13_putDigit_13) (fun H locs S => ?_)
  refine lv_lmul X.1 X.2.1 dX13_putDigit_16 ?_
  refine lv_ladd X.1 X.2.1 dX13_putDigit_17 ?_
  refine g_qL X S dX13_putDigit_18 hf (fun h H locs hm hf S => ?_)
  cases hf; exact g_rv X S hr hlk dX13_putDigit_19
def fX13_digitsOf_3 (h : Hp) (k3 : Nat → Int32 → Option (Int32)) (x0 : Nat) (x1 : Int32) : Option (Int32) := if x1 ≤ 0 then some x1 else ob (fX13_digitOf x0 (x1 - 1) h) fun v2 => if v2 = 0 then lt (x1 + (-1)) fun z4 => k3 x0 z4 else some x1
theorem wfX13_digitsOf_3 {h : Hp} {k3 : Nat → Int32 → Option (Int32)} {r9 : Int32} (X : Cx p E A 10 R s m args c cX13_digitsOf yX13_digitsOf.cls 2) (hr : meth.sig.returnType = (some .int)) (hlk : meth.locks = false) (hnm : meth.name = yX13_digitsOf.name) (hk3 : ∀ (x0 : Nat) (x1 : Int32) (H : Heap) (locs : List Loc) (ls : Array Slot), lv_has ls 2 [(0, rv x0), (1, .int x1)] → St E A s h H locs → k3 x0 x1 = some r9 → W p l e R s m args below meth c H locs 0 0 (MQ below (Qi E A h r9) args s 0 0 A) (F0 m 3 ls [])) :
    ∀ (x0 : Nat) (x1 : Int32) (H : Heap) (locs : List Loc) (ls : Array Slot), lv_has ls 2 [(0, rv x0), (1, .int x1)] → St E A s h H locs → fX13_digitsOf_3 h k3 x0 x1 = some r9 → W p l e R s m args below meth c H locs 0 0 (MQ below (Qi E A h r9) args s 0 0 A) (F0 m 3 ls []) := by
  intro x0 x1 H locs ls hl S hf
  unfold fX13_digitsOf_3 at hf
  refine lv_iload_n X.1 X.2.1 dX13_digitsOf_3 rfl (lv_at hl 1 rfl) ?_
  refine lv_if_le (tgt := 23) X.1 X.2.1 dX13_digitsOf_4 (by decide) (fun c1 => ?_) (fun c1 => ?_)
  · replace hf := (if_pos c1).symm.trans hf
    refine lv_iload_n X.1 X.2.1 dX13_digitsOf_23 rfl (lv_at hl 1 rfl) ?_
    cases hf; exact g_ri X S hr hlk dX13_digitsOf_24
  · replace hf := (if_neg c1).symm.trans hf
    refine g_aload_n X (or_rv _) dX13_digitsOf_7 rfl (lv_at hl 0 rfl) ?_
    refine lv_iload_n X.1 X.2.1 dX13_digitsOf_8 rfl (lv_at hl 1 rfl) ?_
    refine lv_iconst (v := 1) X.1 X.2.1 dX13_digitsOf_9 (by decide) ?_
    refine lv_isub X.1 X.2.1 dX13_digitsOf_10 ?_
    obtain ⟨v2, hc, hf⟩ := ob_some hf
    refine g_ci S (runS (As := [rv x0, .int (x1 - 1)]) (rest := []) X S coX13_364 (by decide) (cX13_digitOf_m l hc) rfl hl.1 (by decide) rfl ⟨Nat.zero_le _, Nat.zero_le _⟩ dX13_digitsOf_11) (fun H locs S => ?_)
    refine lv_if_ne (tgt := 23) X.1 X.2.1 dX13_digitsOf_14 (by decide) (fun c3 => ?_) (fun c3 => ?_)
    · replace hf := (if_neg c3).symm.trans hf
      refine lv_iload_n X.1 X.2.1 dX13_digitsOf_23 rfl (lv_at hl 1 rfl) ?_
      cases hf; exact g_ri X S hr hlk dX13_digitsOf_24
    · replace hf := (if_pos c3).symm.trans hf
      obtain ⟨z4, ez4, hf⟩ := lt_some hf
      refine lv_iinc (v := z4) (lv' := [(1, .int z4), (0, rv x0)]) X.1 X.2.1 dX13_digitsOf_17 hl (k := 1) rfl (by rw [← ez4]; rfl) (by decide) (by simp [List.filter, cat_rv, cat_wv, cat_sv]) (fun ls hl => ?_)
      refine lv_goto (tgt := 3) X.1 X.2.1 dX13_digitsOf_20 (by decide) ?_
      exact hk3 _ _ _ _ _ (lv_sub hl [1, 0] rfl) S hf
theorem wfX13_digitsOf_3_l {h : Hp} {r9 : Int32} (X : Cx p E A 10 R s m args c cX13_digitsOf yX13_digitsOf.cls 2) (hr : meth.sig.returnType = (some .int)) (hlk : meth.locks = false) (hnm : meth.name = yX13_digitsOf.name) :
    ∀ (n : Nat) (x0 : Nat) (x1 : Int32) (H : Heap) (locs : List Loc) (ls : Array Slot), lv_has ls 2 [(0, rv x0), (1, .int x1)] → St E A s h H locs → lp (fun _ _ => none) (fX13_digitsOf_3 h) n x0 x1 = some r9 → W p l e R s m args below meth c H locs 0 0 (MQ below (Qi E A h r9) args s 0 0 A) (F0 m 3 ls []) := by
  intro n
  induction n with
  | zero =>
    intro x0 x1 H locs ls hl S hf
    exact nomatch hf
  | succ n ih =>
    intro x0 x1 H locs ls hl S hf
    exact wfX13_digitsOf_3 X hr hlk hnm ih x0 x1 H locs ls hl S hf
def fX13_digitsOf (a0 : Nat) (h : Hp) : Option (Int32) := lp (fun _ _ => none) (fX13_digitsOf_3 h) FU a0 64
theorem cX13_digitsOf_m (l : Launch) {E : EE} {A : Nat → Prop} {a0 : Nat} {h : Hp} {r9 : Int32} (hf : fX13_digitsOf a0 h = some r9) : Met l yX13_digitsOf (wsM yX13_digitsOf cX13_digitsOf 2 (some .int)) (rmm 10 0 0) (PcE E A h [rv a0]) (Qi E A h r9) 0 0 A := by
  refine met_of (by decide +kernel) (by simp [lg_sl, cat_rv, cat_wv, cat_sv, cat_i, cat_l, cat_a]) (fun p e s m args below meth c ls X hr hlk hnm S hl => ?_)
  have hl : lv_has ls 2 [(0, rv a0)] := by simpa [lv_args, cat_rv, cat_wv, cat_sv, cat_i, cat_l, cat_a] using hl
  generalize hH : s.heap = H at S ⊢
  generalize hlo : ([] : List Loc) = locs at S ⊢
  clear hH hlo
  unfold fX13_digitsOf at hf
  refine lv_bipush (v := 64) X.1 X.2.1 dX13_digitsOf_0 (by decide) ?_
  refine lv_istore_n (i := 1) (lv' := [(1, .int 64), (0, rv a0)]) X.1 X.2.1 dX13_digitsOf_2 rfl hl (by decide) (by simp [List.filter, cat_rv, cat_wv, cat_sv]) (fun ls hl => ?_)
  exact wfX13_digitsOf_3_l X hr hlk hnm FU _ _ _ _ _ (lv_sub hl [1, 0] rfl) S hf
def fX13_orderOf_3 (h : Hp) (k3 : Nat → Nat → Int32 → Option (Int32)) (x0 : Nat) (x1 : Nat) (x2 : Int32) : Option (Int32) := if x2 < 0 then some 0 else ob (aL x0 x2 h) fun v2 => ob (aL x1 x2 h) fun v3 => if (lg_cmp v2 v3) = 0 then lt (x2 + (-1)) fun z5 => k3 x0 x1 z5 else ob (aL x0 x2 h) fun v6 => ob (aL x1 x2 h) fun v7 => if 0 ≤ (lg_cmp v6 v7) then some 1 else some (-1)
theorem wfX13_orderOf_3 {h : Hp} {k3 : Nat → Nat → Int32 → Option (Int32)} {r9 : Int32} (X : Cx p E A 8 R s m args c cX13_orderOf yX13_orderOf.cls 3) (hr : meth.sig.returnType = (some .int)) (hlk : meth.locks = false) (hnm : meth.name = yX13_orderOf.name) (hk3 : ∀ (x0 : Nat) (x1 : Nat) (x2 : Int32) (H : Heap) (locs : List Loc) (ls : Array Slot), lv_has ls 3 [(0, rv x0), (1, rv x1), (2, .int x2)] → St E A s h H locs → k3 x0 x1 x2 = some r9 → W p l e R s m args below meth c H locs 0 0 (MQ below (Qi E A h r9) args s 0 0 A) (F0 m 3 ls [])) :
    ∀ (x0 : Nat) (x1 : Nat) (x2 : Int32) (H : Heap) (locs : List Loc) (ls : Array Slot), lv_has ls 3 [(0, rv x0), (1, rv x1), (2, .int x2)] → St E A s h H locs → fX13_orderOf_3 h k3 x0 x1 x2 = some r9 → W p l e R s m args below meth c H locs 0 0 (MQ below (Qi E A h r9) args s 0 0 A) (F0 m 3 ls []) := by
  intro x0 x1 x2 H locs ls hl S hf
  unfold fX13_orderOf_3 at hf
  refine lv_iload_n X.1 X.2.1 dX13_orderOf_3 rfl (lv_at hl 2 rfl) ?_
  refine lv_if_lt (tgt := 39) X.1 X.2.1 dX13_orderOf_4 (by decide) (fun c1 => ?_) (fun c1 => ?_)
  · replace hf := (if_pos c1).symm.trans hf
    refine lv_iconst (v := 0) X.1 X.2.1 dX13_orderOf_39 (by decide) ?_
    cases hf; exact g_ri X S hr hlk dX13_orderOf_40
  · replace hf := (if_neg c1).symm.trans hf
    refine g_aload_n X (or_rv _) dX13_orderOf_7 rfl (lv_at hl 0 rfl) ?_
    refine lv_iload_n X.1 X.2.1 dX13_orderOf_8 rfl (lv_at hl 2 rfl) ?_
    refine g_aL X S dX13_orderOf_9 hf (fun v2 hf => ?_)
    refine g_aload_n X (or_rv _) dX13_orderOf_10 rfl (lv_at hl 1 rfl) ?_
    refine lv_iload_n X.1 X.2.1 dX13_orderOf_11 rfl (lv_at hl 2 rfl) ?_
    refine g_aL X S dX13_orderOf_12 hf (fun v3 hf => ?_)
    refine W.lcmp X.1 X.2.1 dX13_orderOf_13 ?_
    refine lv_if_eq (tgt := 33) X.1 X.2.1 dX13_orderOf_14 (by decide) (fun c4 => ?_) (fun c4 => ?_)
    · replace hf := (if_pos c4).symm.trans hf
      obtain ⟨z5, ez5, hf⟩ := lt_some hf
      refine lv_iinc (v := z5) (lv' := [(2, .int z5), (0, rv x0), (1, rv x1)]) X.1 X.2.1 dX13_orderOf_33 hl (k := 2) rfl (by rw [← ez5]; rfl) (by decide) (by simp [List.filter, cat_rv, cat_wv, cat_sv]) (fun ls hl => ?_)
      refine lv_goto (tgt := 3) X.1 X.2.1 dX13_orderOf_36 (by decide) ?_
      exact hk3 _ _ _ _ _ _ (lv_sub hl [1, 2, 0] rfl) S hf
    · replace hf := (if_neg c4).symm.trans hf
      refine g_aload_n X (or_rv _) dX13_orderOf_17 rfl (lv_at hl 0 rfl) ?_
      refine lv_iload_n X.1 X.2.1 dX13_orderOf_18 rfl (lv_at hl 2 rfl) ?_
      refine g_aL X S dX13_orderOf_19 hf (fun v6 hf => ?_)
      refine g_aload_n X (or_rv _) dX13_orderOf_20 rfl (lv_at hl 1 rfl) ?_
      refine lv_iload_n X.1 X.2.1 dX13_orderOf_21 rfl (lv_at hl 2 rfl) ?_
      refine g_aL X S dX13_orderOf_22 hf (fun v7 hf => ?_)
      refine W.lcmp X.1 X.2.1 dX13_orderOf_23 ?_
      refine lv_if_ge (tgt := 31) X.1 X.2.1 dX13_orderOf_24 (by decide) (fun c8 => ?_) (fun c8 => ?_)
      · replace hf := (if_pos c8).symm.trans hf
        refine lv_iconst (v := 1) X.1 X.2.1 dX13_orderOf_31 (by decide) ?_
        cases hf; exact g_ri X S hr hlk dX13_orderOf_32
      · replace hf := (if_neg c8).symm.trans hf
        refine lv_iconst (v := (-1)) X.1 X.2.1 dX13_orderOf_27 (by decide) ?_
        refine lv_goto (tgt := 32) X.1 X.2.1 dX13_orderOf_28 (by decide) ?_
        cases hf; exact g_ri X S hr hlk dX13_orderOf_32
theorem wfX13_orderOf_3_l {h : Hp} {r9 : Int32} (X : Cx p E A 8 R s m args c cX13_orderOf yX13_orderOf.cls 3) (hr : meth.sig.returnType = (some .int)) (hlk : meth.locks = false) (hnm : meth.name = yX13_orderOf.name) :
    ∀ (n : Nat) (x0 : Nat) (x1 : Nat) (x2 : Int32) (H : Heap) (locs : List Loc) (ls : Array Slot), lv_has ls 3 [(0, rv x0), (1, rv x1), (2, .int x2)] → St E A s h H locs → lp (fun _ _ _ => none) (fX13_orderOf_3 h) n x0 x1 x2 = some r9 → W p l e R s m args below meth c H locs 0 0 (MQ below (Qi E A h r9) args s 0 0 A) (F0 m 3 ls []) := by
  intro n
  induction n with
  | zero =>
    intro x0 x1 x2 H locs ls hl S hf
    exact nomatch hf
  | succ n ih =>
    intro x0 x1 x2 H locs ls hl S hf
    exact wfX13_orderOf_3 X hr hlk hnm ih x0 x1 x2 H locs ls hl S hf
def fX13_orderOf (a0 : Nat) (a1 : Nat) (h : Hp) : Option (Int32) := lp (fun _ _ _ => none) (fX13_orderOf_3 h) FU a0 a1 7
theorem cX13_orderOf_m (l : Launch) {E : EE} {A : Nat → Prop} {a0 : Nat} {a1 : Nat} {h : Hp} {r9 : Int32} (hf : fX13_orderOf a0 a1 h = some r9) : Met l yX13_orderOf (wsM yX13_orderOf cX13_orderOf 3 (some .int)) (rmm 8 0 0) (PcE E A h [rv a0, rv a1]) (Qi E A h r9) 0 0 A := by
  refine met_of (by decide +kernel) (by simp [lg_sl, cat_rv, cat_wv, cat_sv, cat_i, cat_l, cat_a]) (fun p e s m args below meth c ls X hr hlk hnm S hl => ?_)
  have hl : lv_has ls 3 [(0, rv a0), (1, rv a1)] := by simpa [lv_args, cat_rv, cat_wv, cat_sv, cat_i, cat_l, cat_a] using hl
  generalize hH : s.heap = H at S ⊢
  generalize hlo : ([] : List Loc) = locs at S ⊢
  clear hH hlo
  unfold fX13_orderOf at hf
  refine lv_bipush (v := 7) X.1 X.2.1 dX13_orderOf_0 (by decide) ?_
  refine lv_istore_n (i := 2) (lv' := [(2, .int 7), (0, rv a0), (1, rv a1)]) X.1 X.2.1 dX13_orderOf_2 rfl hl (by decide) (by simp [List.filter, cat_rv, cat_wv, cat_sv]) (fun ls hl => ?_)
  exact wfX13_orderOf_3_l X hr hlk hnm FU _ _ _ _ _ _ (lv_sub hl [1, 2, 0] rfl) S hf
def fX13_sum_5 (k5 : Nat → Nat → Nat → Int64 → Int32 → Hp → Option (Hp)) (x0 : Nat) (x1 : Nat) (x2 : Nat) (x3 : Int64) (x5 : Int32) (h : Hp) : Option (Hp) := if 8 ≤ x5 then some h else ob (aL x1 x5 h) fun v2 => ob (aL x2 x5 h) fun v3 => lt ((v2 + v3) + x3) fun z4 => lt (z4 / 100000000) fun z5 => ob (qL x0 x5 (lrm z4 100000000) h) fun h => lt (x5 + 1) fun z6 => k5 x0 x1 x2 z5 z6 h
theorem wfX13_sum_5 {k5 : Nat → Nat → Nat → Int64 → Int32 → Hp → Option (Hp)} {h9 : Hp} (X : Cx p E A 8 R s m args c cX13_sum yX13_sum.cls 8) (hr : meth.sig.returnType = none) (hlk : meth.locks = false) (hnm : meth.name = yX13_sum.name) (hk5 : ∀ (x0 : Nat) (x1 : Nat) (x2 : Nat) (x3 : Int64) (x5 : Int32) (h : Hp) (H : Heap) (locs : List Loc) (ls : Array Slot), lv_has ls 8 [(0, rv x0), (1, rv x1), (2, rv x2), (3, .long x3), (5, .int x5)] → St E A s h H locs → k5 x0 x1 x2 x3 x5 h = some h9 → W p l e R s m args below meth c H locs 0 0 (MQ below (Qv E A h9) args s 0 0 A) (F0 m 5 ls [])) :
    ∀ (x0 : Nat) (x1 : Nat) (x2 : Nat) (x3 : Int64) (x5 : Int32) (h : Hp) (H : Heap) (locs : List Loc) (ls : Array Slot), lv_has ls 8 [(0, rv x0), (1, rv x1), (2, rv x2), (3, .long x3), (5, .int x5)] → St E A s h H locs → fX13_sum_5 k5 x0 x1 x2 x3 x5 h = some h9 → W p l e R s m args below meth c H locs 0 0 (MQ below (Qv E A h9) args s 0 0 A) (F0 m 5 ls []) := by
  intro x0 x1 x2 x3 x5 h H locs ls hl S hf
  unfold fX13_sum_5 at hf
  refine lv_iload X.1 X.2.1 dX13_sum_5 (lv_at hl 4 rfl) ?_
  refine lv_bipush (v := 8) X.1 X.2.1 dX13_sum_7 (by decide) ?_
  refine lv_icmp_ge (tgt := 48) X.1 X.2.1 dX13_sum_9 (by decide) (fun c1 => ?_) (fun c1 => ?_)
  · replace hf := (if_pos c1).symm.trans hf
    cases hf; exact g_rv X S hr hlk dX13_sum_48
  · replace hf := (if_neg c1).symm.trans hf
    refine g_aload_n X (or_rv _) dX13_sum_12 rfl (lv_at hl 1 rfl) ?_
    refine lv_iload X.1 X.2.1 dX13_sum_13 (lv_at hl 4 rfl) ?_
    refine g_aL X S dX13_sum_15 hf (fun v2 hf => ?_)
    refine g_aload_n X (or_rv _) dX13_sum_16 rfl (lv_at hl 2 rfl) ?_
    refine lv_iload X.1 X.2.1 dX13_sum_17 (lv_at hl 4 rfl) ?_
    refine g_aL X S dX13_sum_19 hf (fun v3 hf => ?_)
    refine lv_ladd X.1 X.2.1 dX13_sum_20 ?_
    refine lv_lload_n X.1 X.2.1 dX13_sum_21 rfl (lv_at hl 3 rfl) ?_
    refine lv_ladd X.1 X.2.1 dX13_sum_22 ?_
    refine g_ltl hf (fun z4 hf => ?_)
    refine lv_lstore (lv' := [(6, .long z4), (0, rv x0), (1, rv x1), (2, rv x2), (3, .long x3), (5, .int x5)]) X.1 X.2.1 dX13_sum_23 hl (by decide) rfl (fun ls hl => ?_)
    refine lv_lload X.1 X.2.1 dX13_sum_25 (lv_at hl 0 rfl) ?_
    refine lv_ldc2 X.1 X.2.1 X.2.2.2.1 (X.2.2.1 _ kuX13_368) dX13_sum_27 ?_
    refine g_ldiv X (by decide) dX13_sum_30 ?_
    refine g_ltl hf (fun z5 hf => ?_)
    refine lv_lstore_n (i := 3) (lv' := [(3, .long z5), (6, .long z4), (0, rv x0), (1, rv x1), (2, rv x2), (5, .int x5)]) X.1 X.2.1 dX13_sum_31 rfl hl (by decide) (by simp [List.filter, cat_rv, cat_wv, cat_sv]) (fun ls hl => ?_)
    refine g_aload_n X (or_rv _) dX13_sum_32 rfl (lv_at hl 2 rfl) ?_
    refine lv_iload X.1 X.2.1 dX13_sum_33 (lv_at hl 5 rfl) ?_
    refine lv_lload X.1 X.2.1 dX13_sum_35 (lv_at hl 1 rfl) ?_
    refine lv_ldc2 X.1 X.2.1 X.2.2.2.1 (X.2.2.1 _ kuX13_368) dX13_sum_37 ?_
    refine g_lrem X (by decide) dX13_sum_40 ?_
    refine g_qL X S dX13_sum_41 hf (fun h H locs hm hf S => ?_)
    obtain ⟨z6, ez6, hf⟩ := lt_some hf
    refine lv_iinc (v := z6) (lv' := [(5, .int z6), (3, .long z5), (6, .long z4), (0, rv x0), (1, rv x1), (2, rv x2)]) X.1 X.2.1 dX13_sum_42 hl (k := 5) rfl (by rw [← ez6]; rfl) (by decide) rfl (fun ls hl => ?_)
    refine lv_goto (tgt := 5) X.1 X.2.1 dX13_sum_45 (by decide) ?_
    exact hk5 _ _ _ _ _ _ _ _ _ (lv_sub hl [3, 4, 5, 1, 0] rfl) S hf
theorem wfX13_sum_5_l {h9 : Hp} (X : Cx p E A 8 R s m args c cX13_sum yX13_sum.cls 8) (hr : meth.sig.returnType = none) (hlk : meth.locks = false) (hnm : meth.name = yX13_sum.name) :
    ∀ (n : Nat) (x0 : Nat) (x1 : Nat) (x2 : Nat) (x3 : Int64) (x5 : Int32) (h : Hp) (H : Heap) (locs : List Loc) (ls : Array Slot), lv_has ls 8 [(0, rv x0), (1, rv x1), (2, rv x2), (3, .long x3), (5, .int x5)] → St E A s h H locs → lp (fun _ _ _ _ _ _ => none) (fX13_sum_5) n x0 x1 x2 x3 x5 h = some h9 → W p l e R s m args below meth c H locs 0 0 (MQ below (Qv E A h9) args s 0 0 A) (F0 m 5 ls []) := by
  intro n
  induction n with
  | zero =>
    intro x0 x1 x2 x3 x5 h H locs ls hl S hf
    exact nomatch hf
  | succ n ih =>
    intro x0 x1 x2 x3 x5 h H locs ls hl S hf
    exact wfX13_sum_5 X hr hlk hnm ih x0 x1 x2 x3 x5 h H locs ls hl S hf
def fX13_sum (a0 : Nat) (a1 : Nat) (a2 : Nat) (h : Hp) : Option (Hp) := lp (fun _ _ _ _ _ _ => none) (fX13_sum_5) FU a0 a1 a2 0 0 h
theorem cX13_sum_m (l : Launch) {E : EE} {A : Nat → Prop} {a0 : Nat} {a1 : Nat} {a2 : Nat} {h : Hp} {h9 : Hp} (hf : fX13_sum a0 a1 a2 h = some h9) : Met l yX13_sum (wsM yX13_sum cX13_sum 8 none) (rmm 8 0 0) (PcE E A h [rv a0, rv a1, rv a2]) (Qv E A h9) 0 0 A := by
  refine met_of (by decide +kernel) (by simp [lg_sl, cat_rv, cat_wv, cat_sv, cat_i, cat_l, cat_a]) (fun p e s m args below meth c ls X hr hlk hnm S hl => ?_)
  have hl : lv_has ls 8 [(0, rv a0), (1, rv a1), (2, rv a2)] := by simpa [lv_args, cat_rv, cat_wv, cat_sv, cat_i, cat_l, cat_a] using hl
  generalize hH : s.heap = H at S ⊢
  generalize hlo : ([] : List Loc) = locs at S ⊢
  clear hH hlo
  unfold fX13_sum at hf
  refine lv_lconst (v := 0) X.1 X.2.1 dX13_sum_0 (by decide) ?_
  refine lv_lstore_n (i := 3) (lv' := [(3, .long 0), (0, rv a0), (1, rv a1), (2, rv a2)]) X.1 X.2.1 dX13_sum_1 rfl hl (by decide) (by simp [List.filter, cat_rv, cat_wv, cat_sv]) (fun ls hl => ?_)
  refine lv_iconst (v := 0) X.1 X.2.1 dX13_sum_2 (by decide) ?_
  refine lv_istore (lv' := [(5, .int 0), (3, .long 0), (0, rv a0), (1, rv a1), (2, rv a2)]) X.1 X.2.1 dX13_sum_3 hl (by decide) rfl (fun ls hl => ?_)
  exact wfX13_sum_5_l X hr hlk hnm FU _ _ _ _ _ _ _ _ _ (lv_sub hl [2, 3, 4, 1, 0] rfl) S hf
def fX13_less_37 (k5 : Nat → Nat → Nat → Int64 → Int32 → Hp → Option (Hp)) (x0 : Nat) (x1 : Nat) (x2 : Nat) (x5 : Int32) (x6 : Int64) (y0 : Int64) (h : Hp) : Option (Hp) := ob (qL x0 x5 (x6 + (y0 * 100000000)) h) fun h => lt (x5 + 1) fun z1 => k5 x0 x1 x2 y0 z1 h
theorem wfX13_less_37 {k5 : Nat → Nat → Nat → Int64 → Int32 → Hp → Option (Hp)} {h9 : Hp} (X : Cx p E A 8 R s m args c cX13_less yX13_less.cls 8) (hr : meth.sig.returnType = none) (hlk : meth.locks = false) (hnm : meth.name = yX13_less.name) (hk5 : ∀ (x0 : Nat) (x1 : Nat) (x2 : Nat) (x3 : Int64) (x5 : Int32) (h : Hp) (H : Heap) (locs : List Loc) (ls : Array Slot), lv_has ls 8 [(0, rv x0), (1, rv x1), (2, rv x2), (3, .long x3), (5, .int x5)] → St E A s h H locs → k5 x0 x1 x2 x3 x5 h = some h9 → W p l e R s m args below meth c H locs 0 0 (MQ below (Qv E A h9) args s 0 0 A) (F0 m 5 ls [])) :
    ∀ (x0 : Nat) (x1 : Nat) (x2 : Nat) (x5 : Int32) (x6 : Int64) (y0 : Int64) (h : Hp) (H : Heap) (locs : List Loc) (ls : Array Slot), lv_has ls 8 [(0, rv x0), (1, rv x1), (2, rv x2), (5, .int x5), (6, .long x6)] → St E A s h H locs → fX13_less_37 k5 x0 x1 x2 x5 x6 y0 h = some h9 → W p l e R s m args below meth c H locs 0 0 (MQ below (Qv E A h9) args s 0 0 A) (F0 m 37 ls [.long y0]) := by
  intro x0 x1 x2 x5 x6 y0 h H locs ls hl S hf
  unfold fX13_less_37 at hf
  refine lv_lstore_n (i := 3) (lv' := [(3, .long y0), (0, rv x0), (1, rv x1), (2, rv x2), (5, .int x5), (6, .long x6)]) X.1 X.2.1 dX13_less_37 rfl hl (by decide) (by simp [List.filter, cat_rv, cat_wv, cat_sv]) (fun ls hl => ?_)
  refine g_aload_n X (or_rv _) dX13_less_38 rfl (lv_at hl 1 rfl) ?_
  refine lv_iload X.1 X.2.1 dX13_less_39 (lv_at hl 4 rfl) ?_
  refine lv_lload X.1 X.2.1 dX13_less_41 (lv_at hl 5 rfl) ?_
  refine lv_lload_n X.1 X.2.1 dX13_less_43 rfl (lv_at hl 0 rfl) ?_
  refine lv_ldc2 X.1 X.2.1 X.2.2.2.1 (X.2.2.1 _ kuX13_368) dX13_less_44 ?_
  refine lv_lmul X.1 X.2.1 dX13_less_47 ?_
  refine lv_ladd X.1 X.2.1 dX13_less_48 ?_
  refine g_qL X S dX13_less_49 hf (fun h H locs hm hf S => ?_)
  obtain ⟨z1, ez1, hf⟩ := lt_some hf
  refine lv_iinc (v := z1) (lv' := [(5, .int z1), (3, .long y0), (0, rv x0), (1, rv x1), (2, rv x2), (6, .long x6)]) X.1 X.2.1 dX13_less_50 hl (k := 4) rfl (by rw [← ez1]; rfl) (by decide) rfl (fun ls hl => ?_)
  refine lv_goto (tgt := 5) X.1 X.2.1 dX13_less_53 (by decide) ?_
  exact hk5 _ _ _ _ _ _ _ _ _ (lv_sub hl [2, 3, 4, 1, 0] rfl) S hf
def fX13_less_5 (k5 : Nat → Nat → Nat → Int64 → Int32 → Hp → Option (Hp)) (x0 : Nat) (x1 : Nat) (x2 : Nat) (x3 : Int64) (x5 : Int32) (h : Hp) : Option (Hp) := if 8 ≤ x5 then some h else ob (aL x1 x5 h) fun v2 => ob (aL x2 x5 h) fun v3 => lt ((v2 - v3) - x3) fun z4 => if 0 ≤ (lg_cmp z4 0) then fX13_less_37 k5 x0 x1 x2 x5 z4 0 h else fX13_less_37 k5 x0 x1 x2 x5 z4 1 h
theorem wfX13_less_5 {k5 : Nat → Nat → Nat → Int64 → Int32 → Hp → Option (Hp)} {h9 : Hp} (X : Cx p E A 8 R s m args c cX13_less yX13_less.cls 8) (hr : meth.sig.returnType = none) (hlk : meth.locks = false) (hnm : meth.name = yX13_less.name) (hk5 : ∀ (x0 : Nat) (x1 : Nat) (x2 : Nat) (x3 : Int64) (x5 : Int32) (h : Hp) (H : Heap) (locs : List Loc) (ls : Array Slot), lv_has ls 8 [(0, rv x0), (1, rv x1), (2, rv x2), (3, .long x3), (5, .int x5)] → St E A s h H locs → k5 x0 x1 x2 x3 x5 h = some h9 → W p l e R s m args below meth c H locs 0 0 (MQ below (Qv E A h9) args s 0 0 A) (F0 m 5 ls [])) :
    ∀ (x0 : Nat) (x1 : Nat) (x2 : Nat) (x3 : Int64) (x5 : Int32) (h : Hp) (H : Heap) (locs : List Loc) (ls : Array Slot), lv_has ls 8 [(0, rv x0), (1, rv x1), (2, rv x2), (3, .long x3), (5, .int x5)] → St E A s h H locs → fX13_less_5 k5 x0 x1 x2 x3 x5 h = some h9 → W p l e R s m args below meth c H locs 0 0 (MQ below (Qv E A h9) args s 0 0 A) (F0 m 5 ls []) := by
  intro x0 x1 x2 x3 x5 h H locs ls hl S hf
  unfold fX13_less_5 at hf
  refine lv_iload X.1 X.2.1 dX13_less_5 (lv_at hl 4 rfl) ?_
  refine lv_bipush (v := 8) X.1 X.2.1 dX13_less_7 (by decide) ?_
  refine lv_icmp_ge (tgt := 56) X.1 X.2.1 dX13_less_9 (by decide) (fun c1 => ?_) (fun c1 => ?_)
  · replace hf := (if_pos c1).symm.trans hf
    cases hf; exact g_rv X S hr hlk dX13_less_56
  · replace hf := (if_neg c1).symm.trans hf
    refine g_aload_n X (or_rv _) dX13_less_12 rfl (lv_at hl 1 rfl) ?_
    refine lv_iload X.1 X.2.1 dX13_less_13 (lv_at hl 4 rfl) ?_
    refine g_aL X S dX13_less_15 hf (fun v2 hf => ?_)
    refine g_aload_n X (or_rv _) dX13_less_16 rfl (lv_at hl 2 rfl) ?_
    refine lv_iload X.1 X.2.1 dX13_less_17 (lv_at hl 4 rfl) ?_
    refine g_aL X S dX13_less_19 hf (fun v3 hf => ?_)
    refine lv_lsub X.1 X.2.1 dX13_less_20 ?_
    refine lv_lload_n X.1 X.2.1 dX13_less_21 rfl (lv_at hl 3 rfl) ?_
    refine lv_lsub X.1 X.2.1 dX13_less_22 ?_
    refine g_ltl hf (fun z4 hf => ?_)
    refine lv_lstore (lv' := [(6, .long z4), (0, rv x0), (1, rv x1), (2, rv x2), (3, .long x3), (5, .int x5)]) X.1 X.2.1 dX13_less_23 hl (by decide) rfl (fun ls hl => ?_)
    refine lv_lload X.1 X.2.1 dX13_less_25 (lv_at hl 0 rfl) ?_
    refine lv_lconst (v := 0) X.1 X.2.1 dX13_less_27 (by decide) ?_
    refine W.lcmp X.1 X.2.1 dX13_less_28 ?_
    refine lv_if_ge (tgt := 36) X.1 X.2.1 dX13_less_29 (by decide) (fun c5 => ?_) (fun c5 => ?_)
    · replace hf := (if_pos c5).symm.trans hf
      refine lv_lconst (v := 0) X.1 X.2.1 dX13_less_36 (by decide) ?_
      exact wfX13_less_37 X hr hlk hnm hk5 _ _ _ _ _ _ _ _ _ _ (lv_sub hl [1, 2, 3, 5, 0] rfl) S hf
    · replace hf := (if_neg c5).symm.trans hf
      refine lv_lconst (v := 1) X.1 X.2.1 dX13_less_32 (by decide) ?_
      refine lv_goto (tgt := 37) X.1 X.2.1 dX13_less_33 (by decide) ?_
      exact wfX13_less_37 X hr hlk hnm hk5 _ _ _ _ _ _ _ _ _ _ (lv_sub hl [1, 2, 3, 5, 0] rfl) S hf
theorem wfX13_less_5_l {h9 : Hp} (X : Cx p E A 8 R s m args c cX13_less yX13_less.cls 8) (hr : meth.sig.returnType = none) (hlk : meth.locks = false) (hnm : meth.name = yX13_less.name) :
    ∀ (n : Nat) (x0 : Nat) (x1 : Nat) (x2 : Nat) (x3 : Int64) (x5 : Int32) (h : Hp) (H : Heap) (locs : List Loc) (ls : Array Slot), lv_has ls 8 [(0, rv x0), (1, rv x1), (2, rv x2), (3, .long x3), (5, .int x5)] → St E A s h H locs → lp (fun _ _ _ _ _ _ => none) (fX13_less_5) n x0 x1 x2 x3 x5 h = some h9 → W p l e R s m args below meth c H locs 0 0 (MQ below (Qv E A h9) args s 0 0 A) (F0 m 5 ls []) := by
  intro n
  induction n with
  | zero =>
    intro x0 x1 x2 x3 x5 h H locs ls hl S hf
    exact nomatch hf
  | succ n ih =>
    intro x0 x1 x2 x3 x5 h H locs ls hl S hf
    exact wfX13_less_5 X hr hlk hnm ih x0 x1 x2 x3 x5 h H locs ls hl S hf
def fX13_less (a0 : Nat) (a1 : Nat) (a2 : Nat) (h : Hp) : Option (Hp) := lp (fun _ _ _ _ _ _ => none) (fX13_less_5) FU a0 a1 a2 0 0 h
theorem cX13_less_m (l : Launch) {E : EE} {A : Nat → Prop} {a0 : Nat} {a1 : Nat} {a2 : Nat} {h : Hp} {h9 : Hp} (hf : fX13_less a0 a1 a2 h = some h9) : Met l yX13_less (wsM yX13_less cX13_less 8 none) (rmm 8 0 0) (PcE E A h [rv a0, rv a1, rv a2]) (Qv E A h9) 0 0 A := by
  refine met_of (by decide +kernel) (by simp [lg_sl, cat_rv, cat_wv, cat_sv, cat_i, cat_l, cat_a]) (fun p e s m args below meth c ls X hr hlk hnm S hl => ?_)
  have hl : lv_has ls 8 [(0, rv a0), (1, rv a1), (2, rv a2)] := by simpa [lv_args, cat_rv, cat_wv, cat_sv, cat_i, cat_l, cat_a] using hl
  generalize hH : s.heap = H at S ⊢
  generalize hlo : ([] : List Loc) = locs at S ⊢
  clear hH hlo
  unfold fX13_less at hf
  refine lv_lconst (v := 0) X.1 X.2.1 dX13_less_0 (by decide) ?_
  refine lv_lstore_n (i := 3) (lv' := [(3, .long 0), (0, rv a0), (1, rv a1), (2, rv a2)]) X.1 X.2.1 dX13_less_1 rfl hl (by decide) (by simp [List.filter, cat_rv, cat_wv, cat_sv]) (fun ls hl => ?_)
  refine lv_iconst (v := 0) X.1 X.2.1 dX13_less_2 (by decide) ?_
  refine lv_istore (lv' := [(5, .int 0), (3, .long 0), (0, rv a0), (1, rv a1), (2, rv a2)]) X.1 X.2.1 dX13_less_3 hl (by decide) rfl (fun ls hl => ?_)
  exact wfX13_less_5_l X hr hlk hnm FU _ _ _ _ _ _ _ _ _ (lv_sub hl [2, 3, 4, 1, 0] rfl) S hf
def fX13_product_18 (k5 : Nat → Nat → Nat → Int64 → Int32 → Hp → Option (Hp)) (k18 : Nat → Nat → Nat → Int32 → Int64 → Int32 → Hp → Option (Hp)) (x0 : Nat) (x1 : Nat) (x2 : Nat) (x5 : Int32) (x6 : Int64) (x8 : Int32) (h : Hp) : Option (Hp) := if x5 < x8 then lt (x6 / 100000000) fun z2 => ob (qL x0 x5 (lrm x6 100000000) h) fun h => lt (x5 + 1) fun z3 => k5 x0 x1 x2 z2 z3 h else ob (aL x1 x8 h) fun v4 => ob (aL x2 (x5 - x8) h) fun v5 => lt (x6 + (v4 * v5)) fun z6 => lt (x8 + 1) fun z7 => k18 x0 x1 x2 x5 z6 z7 h
theorem wfX13_product_18 {k5 : Nat → Nat → Nat → Int64 → Int32 → Hp → Option (Hp)} {k18 : Nat → Nat → Nat → Int32 → Int64 → Int32 → Hp → Option (Hp)} {h9 : Hp} (X : Cx p E A 8 R s m args c cX13_product yX13_product.cls 9) (hr : meth.sig.returnType = none) (hlk : meth.locks = false) (hnm : meth.name = yX13_product.name) (hk5 : ∀ (x0 : Nat) (x1 : Nat) (x2 : Nat) (x3 : Int64) (x5 : Int32) (h : Hp) (H : Heap) (locs : List Loc) (ls : Array Slot), lv_has ls 9 [(0, rv x0), (1, rv x1), (2, rv x2), (3, .long x3), (5, .int x5)] → St E A s h H locs → k5 x0 x1 x2 x3 x5 h = some h9 → W p l e R s m args below meth c H locs 0 0 (MQ below (Qv E A h9) args s 0 0 A) (F0 m 5 ls [])) (hk18 : ∀ (x0 : Nat) (x1 : Nat) (x2 : Nat) (x5 : Int32) (x6 : Int64) (x8 : Int32) (h : Hp) (H : Heap) (locs : List Loc) (ls : Array Slot), lv_has ls 9 [(0, rv x0), (1, rv x1), (2, rv x2), (5, .int x5), (6, .long x6), (8, .int x8)] → St E A s h H locs → k18 x0 x1 x2 x5 x6 x8 h = some h9 → W p l e R s m args below meth c H locs 0 0 (MQ below (Qv E A h9) args s 0 0 A) (F0 m 18 ls [])) :
    ∀ (x0 : Nat) (x1 : Nat) (x2 : Nat) (x5 : Int32) (x6 : Int64) (x8 : Int32) (h : Hp) (H : Heap) (locs : List Loc) (ls : Array Slot), lv_has ls 9 [(0, rv x0), (1, rv x1), (2, rv x2), (5, .int x5), (6, .long x6), (8, .int x8)] → St E A s h H locs → fX13_product_18 k5 k18 x0 x1 x2 x5 x6 x8 h = some h9 → W p l e R s m args below meth c H locs 0 0 (MQ below (Qv E A h9) args s 0 0 A) (F0 m 18 ls []) := by
  intro x0 x1 x2 x5 x6 x8 h H locs ls hl S hf
  unfold fX13_product_18 at hf
  refine lv_iload X.1 X.2.1 dX13_product_18 (lv_at hl 5 rfl) ?_
  refine lv_iload X.1 X.2.1 dX13_product_20 (lv_at hl 3 rfl) ?_
  refine lv_icmp_gt (tgt := 48) X.1 X.2.1 dX13_product_22 (by decide) (fun c1 => ?_) (fun c1 => ?_)
  · replace hf := (if_pos c1).symm.trans hf
    refine lv_lload X.1 X.2.1 dX13_product_48 (lv_at hl 4 rfl) ?_
    refine lv_ldc2 X.1 X.2.1 X.2.2.2.1 (X.2.2.1 _ kuX13_368) dX13_product_50 ?_
    refine g_ldiv X (by decide) dX13_product_53 ?_
    refine g_ltl hf (fun z2 hf => ?_)
    refine lv_lstore_n (i := 3) (lv' := [(3, .long z2), (0, rv x0), (1, rv x1), (2, rv x2), (5, .int x5), (6, .long x6), (8, .int x8)]) X.1 X.2.1 dX13_product_54 rfl hl (by decide) (by simp [List.filter, cat_rv, cat_wv, cat_sv]) (fun ls hl => ?_)
    refine g_aload_n X (or_rv _) dX13_product_55 rfl (lv_at hl 1 rfl) ?_
    refine lv_iload X.1 X.2.1 dX13_product_56 (lv_at hl 4 rfl) ?_
    refine lv_lload X.1 X.2.1 dX13_product_58 (lv_at hl 5 rfl) ?_
    refine lv_ldc2 X.1 X.2.1 X.2.2.2.1 (X.2.2.1 _ kuX13_368) dX13_product_60 ?_
    refine g_lrem X (by decide) dX13_product_63 ?_
    refine g_qL X S dX13_product_64 hf (fun h H locs hm hf S => ?_)
    obtain ⟨z3, ez3, hf⟩ := lt_some hf
    refine lv_iinc (v := z3) (lv' := [(5, .int z3), (3, .long z2), (0, rv x0), (1, rv x1), (2, rv x2), (6, .long x6), (8, .int x8)]) X.1 X.2.1 dX13_product_65 hl (k := 4) rfl (by rw [← ez3]; rfl) (by decide) rfl (fun ls hl => ?_)
    refine lv_goto (tgt := 5) X.1 X.2.1 dX13_product_68 (by decide) ?_
    exact hk5 _ _ _ _ _ _ _ _ _ (lv_sub hl [2, 3, 4, 1, 0] rfl) S hf
  · replace hf := (if_neg c1).symm.trans hf
    refine lv_lload X.1 X.2.1 dX13_product_25 (lv_at hl 4 rfl) ?_
    refine g_aload_n X (or_rv _) dX13_product_27 rfl (lv_at hl 1 rfl) ?_
    refine lv_iload X.1 X.2.1 dX13_product_28 (lv_at hl 5 rfl) ?_
    refine g_aL X S dX13_product_30 hf (fun v4 hf => ?_)
    refine g_aload_n X (or_rv _) dX13_product_31 rfl (lv_at hl 2 rfl) ?_
    refine lv_iload X.1 X.2.1 dX13_product_32 (lv_at hl 3 rfl) ?_
    refine lv_iload X.1 X.2.1 dX13_product_34 (lv_at hl 5 rfl) ?_
    refine lv_isub X.1 X.2.1 dX13_product_36 ?_
    refine g_aL X S dX13_product_37 hf (fun v5 hf => ?_)
    refine lv_lmul X.1 X.2.1 dX13_product_38 ?_
    refine lv_ladd X.1 X.2.1 dX13_product_39 ?_
    refine g_ltl hf (fun z6 hf => ?_)
    refine lv_lstore (lv' := [(6, .long z6), (0, rv x0), (1, rv x1), (2, rv x2), (5, .int x5), (8, .int x8)]) X.1 X.2.1 dX13_product_40 hl (by decide) rfl (fun ls hl => ?_)
    obtain ⟨z7, ez7, hf⟩ := lt_some hf
    refine lv_iinc (v := z7) (lv' := [(8, .int z7), (6, .long z6), (0, rv x0), (1, rv x1), (2, rv x2), (5, .int x5)]) X.1 X.2.1 dX13_product_42 hl (k := 5) rfl (by rw [← ez7]; rfl) (by decide) rfl (fun ls hl => ?_)
    refine lv_goto (tgt := 18) X.1 X.2.1 dX13_product_45 (by decide) ?_
    exact hk18 _ _ _ _ _ _ _ _ _ _ (lv_sub hl [2, 3, 4, 5, 1, 0] rfl) S hf
theorem wfX13_product_18_l {k5 : Nat → Nat → Nat → Int64 → Int32 → Hp → Option (Hp)} {h9 : Hp} (X : Cx p E A 8 R s m args c cX13_product yX13_product.cls 9) (hr : meth.sig.returnType = none) (hlk : meth.locks = false) (hnm : meth.name = yX13_product.name) (hk5 : ∀ (x0 : Nat) (x1 : Nat) (x2 : Nat) (x3 : Int64) (x5 : Int32) (h : Hp) (H : Heap) (locs : List Loc) (ls : Array Slot), lv_has ls 9 [(0, rv x0), (1, rv x1), (2, rv x2), (3, .long x3), (5, .int x5)] → St E A s h H locs → k5 x0 x1 x2 x3 x5 h = some h9 → W p l e R s m args below meth c H locs 0 0 (MQ below (Qv E A h9) args s 0 0 A) (F0 m 5 ls [])) :
    ∀ (n : Nat) (x0 : Nat) (x1 : Nat) (x2 : Nat) (x5 : Int32) (x6 : Int64) (x8 : Int32) (h : Hp) (H : Heap) (locs : List Loc) (ls : Array Slot), lv_has ls 9 [(0, rv x0), (1, rv x1), (2, rv x2), (5, .int x5), (6, .long x6), (8, .int x8)] → St E A s h H locs → lp (fun _ _ _ _ _ _ _ => none) (fX13_product_18 k5) n x0 x1 x2 x5 x6 x8 h = some h9 → W p l e R s m args below meth c H locs 0 0 (MQ below (Qv E A h9) args s 0 0 A) (F0 m 18 ls []) := by
  intro n
  induction n with
  | zero =>
    intro x0 x1 x2 x5 x6 x8 h H locs ls hl S hf
    exact nomatch hf
  | succ n ih =>
    intro x0 x1 x2 x5 x6 x8 h H locs ls hl S hf
    exact wfX13_product_18 X hr hlk hnm hk5 ih x0 x1 x2 x5 x6 x8 h H locs ls hl S hf
def fX13_product_5 (k5 : Nat → Nat → Nat → Int64 → Int32 → Hp → Option (Hp)) (x0 : Nat) (x1 : Nat) (x2 : Nat) (x3 : Int64) (x5 : Int32) (h : Hp) : Option (Hp) := if 8 ≤ x5 then some h else lp (fun _ _ _ _ _ _ _ => none) (fX13_product_18 k5) FU x0 x1 x2 x5 x3 0 h
theorem wfX13_product_5 {k5 : Nat → Nat → Nat → Int64 → Int32 → Hp → Option (Hp)} {h9 : Hp} (X : Cx p E A 8 R s m args c cX13_product yX13_product.cls 9) (hr : meth.sig.returnType = none) (hlk : meth.locks = false) (hnm : meth.name = yX13_product.name) (hk5 : ∀ (x0 : Nat) (x1 : Nat) (x2 : Nat) (x3 : Int64) (x5 : Int32) (h : Hp) (H : Heap) (locs : List Loc) (ls : Array Slot), lv_has ls 9 [(0, rv x0), (1, rv x1), (2, rv x2), (3, .long x3), (5, .int x5)] → St E A s h H locs → k5 x0 x1 x2 x3 x5 h = some h9 → W p l e R s m args below meth c H locs 0 0 (MQ below (Qv E A h9) args s 0 0 A) (F0 m 5 ls [])) :
    ∀ (x0 : Nat) (x1 : Nat) (x2 : Nat) (x3 : Int64) (x5 : Int32) (h : Hp) (H : Heap) (locs : List Loc) (ls : Array Slot), lv_has ls 9 [(0, rv x0), (1, rv x1), (2, rv x2), (3, .long x3), (5, .int x5)] → St E A s h H locs → fX13_product_5 k5 x0 x1 x2 x3 x5 h = some h9 → W p l e R s m args below meth c H locs 0 0 (MQ below (Qv E A h9) args s 0 0 A) (F0 m 5 ls []) := by
  intro x0 x1 x2 x3 x5 h H locs ls hl S hf
  unfold fX13_product_5 at hf
  refine lv_iload X.1 X.2.1 dX13_product_5 (lv_at hl 4 rfl) ?_
  refine lv_bipush (v := 8) X.1 X.2.1 dX13_product_7 (by decide) ?_
  refine lv_icmp_ge (tgt := 71) X.1 X.2.1 dX13_product_9 (by decide) (fun c1 => ?_) (fun c1 => ?_)
  · replace hf := (if_pos c1).symm.trans hf
    cases hf; exact g_rv X S hr hlk dX13_product_71
  · replace hf := (if_neg c1).symm.trans hf
    refine lv_lload_n X.1 X.2.1 dX13_product_12 rfl (lv_at hl 3 rfl) ?_
    refine lv_lstore (lv' := [(6, .long x3), (0, rv x0), (1, rv x1), (2, rv x2), (3, .long x3), (5, .int x5)]) X.1 X.2.1 dX13_product_13 hl (by decide) rfl (fun ls hl => ?_)
    refine lv_iconst (v := 0) X.1 X.2.1 dX13_product_15 (by decide) ?_
    refine lv_istore (lv' := [(8, .int 0), (6, .long x3), (0, rv x0), (1, rv x1), (2, rv x2), (3, .long x3), (5, .int x5)]) X.1 X.2.1 dX13_product_16 hl (by decide) rfl (fun ls hl => ?_)
    exact wfX13_product_18_l X hr hlk hnm hk5 FU _ _ _ _ _ _ _ _ _ _ (lv_sub hl [2, 3, 4, 6, 1, 0] rfl) S hf
theorem wfX13_product_5_l {h9 : Hp} (X : Cx p E A 8 R s m args c cX13_product yX13_product.cls 9) (hr : meth.sig.returnType = none) (hlk : meth.locks = false) (hnm : meth.name = yX13_product.name) :
    ∀ (n : Nat) (x0 : Nat) (x1 : Nat) (x2 : Nat) (x3 : Int64) (x5 : Int32) (h : Hp) (H : Heap) (locs : List Loc) (ls : Array Slot), lv_has ls 9 [(0, rv x0), (1, rv x1), (2, rv x2), (3, .long x3), (5, .int x5)] → St E A s h H locs → lp (fun _ _ _ _ _ _ => none) (fX13_product_5) n x0 x1 x2 x3 x5 h = some h9 → W p l e R s m args below meth c H locs 0 0 (MQ below (Qv E A h9) args s 0 0 A) (F0 m 5 ls []) := by
  intro n
  induction n with
  | zero =>
    intro x0 x1 x2 x3 x5 h H locs ls hl S hf
    exact nomatch hf
  | succ n ih =>
    intro x0 x1 x2 x3 x5 h H locs ls hl S hf
    exact wfX13_product_5 X hr hlk hnm ih x0 x1 x2 x3 x5 h H locs ls hl S hf
def fX13_product (a0 : Nat) (a1 : Nat) (a2 : Nat) (h : Hp) : Option (Hp) := lp (fun _ _ _ _ _ _ => none) (fX13_product_5) FU a0 a1 a2 0 0 h
theorem cX13_product_m (l : Launch) {E : EE} {A : Nat → Prop} {a0 : Nat} {a1 : Nat} {a2 : Nat} {h : Hp} {h9 : Hp} (hf : fX13_product a0 a1 a2 h = some h9) : Met l yX13_product (wsM yX13_product cX13_product 9 none) (rmm 8 0 0) (PcE E A h [rv a0, rv a1, rv a2]) (Qv E A h9) 0 0 A := by
  refine met_of (by decide +kernel) (by simp [lg_sl, cat_rv, cat_wv, cat_sv, cat_i, cat_l, cat_a]) (fun p e s m args below meth c ls X hr hlk hnm S hl => ?_)
  have hl : lv_has ls 9 [(0, rv a0), (1, rv a1), (2, rv a2)] := by simpa [lv_args, cat_rv, cat_wv, cat_sv, cat_i, cat_l, cat_a] using hl
  generalize hH : s.heap = H at S ⊢
  generalize hlo : ([] : List Loc) = locs at S ⊢
  clear hH hlo
  unfold fX13_product at hf
  refine lv_lconst (v := 0) X.1 X.2.1 dX13_product_0 (by decide) ?_
  refine lv_lstore_n (i := 3) (lv' := [(3, .long 0), (0, rv a0), (1, rv a1), (2, rv a2)]) X.1 X.2.1 dX13_product_1 rfl hl (by decide) (by simp [List.filter, cat_rv, cat_wv, cat_sv]) (fun ls hl => ?_)
  refine lv_iconst (v := 0) X.1 X.2.1 dX13_product_2 (by decide) ?_
  refine lv_istore (lv' := [(5, .int 0), (3, .long 0), (0, rv a0), (1, rv a1), (2, rv a2)]) X.1 X.2.1 dX13_product_3 hl (by decide) rfl (fun ls hl => ?_)
  exact wfX13_product_5_l X hr hlk hnm FU _ _ _ _ _ _ _ _ _ (lv_sub hl [2, 3, 4, 1, 0] rfl) S hf
def fX13_halfAt (a0 : Nat) (a1 : Int32) (h : Hp) : Option (Int32) := gd 11 a0 h (if (irm a1 2) = 0 then ob (gR 11 a0 3 h) fun v4 => ob (aI v4 (a1 / 2) h) fun v5 => some (v5 >>> ((4 : Int32) &&& 31)) else ob (gR 11 a0 3 h) fun v2 => ob (aI v2 (a1 / 2) h) fun v3 => some (v3 &&& (15 : Int32)))
theorem tkX13_halfAt {a0 : Nat} {a1 : Int32} {h : Hp} {r9 : Int32} (e : fX13_halfAt a0 a1 h = some r9) : hK h a0 = 11 := by
  unfold fX13_halfAt at e
  exact (gd_some e).1
theorem cX13_halfAt_m (l : Launch) {E : EE} {A : Nat → Prop} {a0 : Nat} {a1 : Int32} {h : Hp} {r9 : Int32} (hf : fX13_halfAt a0 a1 h = some r9) : Met l yX13_halfAt (wsM yX13_halfAt cX13_halfAt 2 (some .int)) (rmm 8 0 0) (PcE E A h [rv a0, .int a1]) (Qi E A h r9) 0 0 A := by
  refine met_of (by decide +kernel) (by simp [lg_sl, cat_rv, cat_wv, cat_sv, cat_i, cat_l, cat_a]) (fun p e s m args below meth c ls X hr hlk hnm S hl => ?_)
  have hl : lv_has ls 2 [(0, rv a0), (1, .int a1)] := by simpa [lv_args, cat_rv, cat_wv, cat_sv, cat_i, cat_l, cat_a] using hl
  generalize hH : s.heap = H at S ⊢
  generalize hlo : ([] : List Loc) = locs at S ⊢
  clear hH hlo
  unfold fX13_halfAt at hf
  obtain ⟨hth, hf⟩ := gd_some hf
  refine lv_iload_n X.1 X.2.1 dX13_halfAt_0 rfl (lv_at hl 1 rfl) ?_
  refine lv_iconst (v := 2) X.1 X.2.1 dX13_halfAt_1 (by decide) ?_
  refine g_irem X (by decide) dX13_halfAt_2 ?_
  refine lv_if_ne (tgt := 19) X.1 X.2.1 dX13_halfAt_3 (by decide) (fun c1 => ?_) (fun c1 => ?_)
  · replace hf := (if_neg c1).symm.trans hf
    refine g_aload_n X (or_rv _) dX13_halfAt_19 rfl (lv_at hl 0 rfl) ?_
    refine g_gR X S foX13_76 dX13_halfAt_20 hf (fun v2 hf => ?_)
    refine lv_iload_n X.1 X.2.1 dX13_halfAt_23 rfl (lv_at hl 1 rfl) ?_
    refine lv_iconst (v := 2) X.1 X.2.1 dX13_halfAt_24 (by decide) ?_
    refine g_idiv X (by decide) dX13_halfAt_25 ?_
    refine g_aI X S dX13_halfAt_26 hf (fun v3 hf => ?_)
    refine lv_bipush (v := 15) X.1 X.2.1 dX13_halfAt_27 (by decide) ?_
    refine lv_iand X.1 X.2.1 dX13_halfAt_29 ?_
    cases hf; exact g_ri X S hr hlk dX13_halfAt_30
  · replace hf := (if_pos c1).symm.trans hf
    refine g_aload_n X (or_rv _) dX13_halfAt_6 rfl (lv_at hl 0 rfl) ?_
    refine g_gR X S foX13_76 dX13_halfAt_7 hf (fun v4 hf => ?_)
    refine lv_iload_n X.1 X.2.1 dX13_halfAt_10 rfl (lv_at hl 1 rfl) ?_
    refine lv_iconst (v := 2) X.1 X.2.1 dX13_halfAt_11 (by decide) ?_
    refine g_idiv X (by decide) dX13_halfAt_12 ?_
    refine g_aI X S dX13_halfAt_13 hf (fun v5 hf => ?_)
    refine lv_iconst (v := 4) X.1 X.2.1 dX13_halfAt_14 (by decide) ?_
    refine lv_ishr X.1 X.2.1 dX13_halfAt_15 ?_
    refine lv_goto (tgt := 30) X.1 X.2.1 dX13_halfAt_16 (by decide) ?_
    cases hf; exact g_ri X S hr hlk dX13_halfAt_30
def fX13_layHalf_46 (y0 : Int32) (y1 : Int32) (y2 : Nat) (h : Hp) : Option (Hp) := ob (qI y2 y1 y0 h) fun h => some h
theorem wfX13_layHalf_46 {h9 : Hp} (X : Cx p E A 8 R s m args c cX13_layHalf yX13_layHalf.cls 3) (hr : meth.sig.returnType = none) (hlk : meth.locks = false) (hnm : meth.name = yX13_layHalf.name) :
    ∀ (y0 : Int32) (y1 : Int32) (y2 : Nat) (h : Hp) (H : Heap) (locs : List Loc) (ls : Array Slot), lv_has ls 3 [] → St E A s h H locs → fX13_layHalf_46 y0 y1 y2 h = some h9 → W p l e R s m args below meth c H locs 0 0 (MQ below (Qv E A h9) args s 0 0 A) (F0 m 46 ls [.int y0, .int y1, rv y2]) := by
  intro y0 y1 y2 h H locs ls hl S hf
  unfold fX13_layHalf_46 at hf
  refine g_qI X S dX13_layHalf_46 hf (fun h H locs hm hf S => ?_)
  cases hf; exact g_rv X S hr hlk dX13_layHalf_47
def fX13_layHalf (a0 : Nat) (a1 : Int32) (a2 : Int32) (h : Hp) : Option (Hp) := gd 11 a0 h (ob (gR 11 a0 3 h) fun v1 => if (irm a1 2) = 0 then ob (gR 11 a0 3 h) fun v5 => ob (aI v5 (a1 / 2) h) fun v6 => fX13_layHalf_46 ((16 * a2) + (v6 &&& (15 : Int32))) (a1 / 2) v1 h else ob (gR 11 a0 3 h) fun v3 => ob (aI v3 (a1 / 2) h) fun v4 => fX13_layHalf_46 ((v4 &&& (240 : Int32)) + a2) (a1 / 2) v1 h)
theorem tkX13_layHalf {a0 : Nat} {a1 : Int32} {a2 : Int32} {h : Hp} {r9 : Hp} (e : fX13_layHalf a0 a1 a2 h = some r9) : hK h a0 = 11 := by
  unfold fX13_layHalf at e
  exact (gd_some e).1
theorem cX13_layHalf_m (l : Launch) {E : EE} {A : Nat → Prop} {a0 : Nat} {a1 : Int32} {a2 : Int32} {h : Hp} {h9 : Hp} (hf : fX13_layHalf a0 a1 a2 h = some h9) : Met l yX13_layHalf (wsM yX13_layHalf cX13_layHalf 3 none) (rmm 8 0 0) (PcE E A h [rv a0, .int a1, .int a2]) (Qv E A h9) 0 0 A := by
  refine met_of (by decide +kernel) (by simp [lg_sl, cat_rv, cat_wv, cat_sv, cat_i, cat_l, cat_a]) (fun p e s m args below meth c ls X hr hlk hnm S hl => ?_)
  have hl : lv_has ls 3 [(0, rv a0), (1, .int a1), (2, .int a2)] := by simpa [lv_args, cat_rv, cat_wv, cat_sv, cat_i, cat_l, cat_a] using hl
  generalize hH : s.heap = H at S ⊢
  generalize hlo : ([] : List Loc) = locs at S ⊢
  clear hH hlo
  unfold fX13_layHalf at hf
  obtain ⟨hth, hf⟩ := gd_some hf
  refine g_aload_n X (or_rv _) dX13_layHalf_0 rfl (lv_at hl 0 rfl) ?_
  refine g_gR X S foX13_76 dX13_layHalf_1 hf (fun v1 hf => ?_)
  refine lv_iload_n X.1 X.2.1 dX13_layHalf_4 rfl (lv_at hl 1 rfl) ?_
  refine lv_iconst (v := 2) X.1 X.2.1 dX13_layHalf_5 (by decide) ?_
  refine g_idiv X (by decide) dX13_layHalf_6 ?_
  refine lv_iload_n X.1 X.2.1 dX13_layHalf_7 rfl (lv_at hl 1 rfl) ?_
  refine lv_iconst (v := 2) X.1 X.2.1 dX13_layHalf_8 (by decide) ?_
  refine g_irem X (by decide) dX13_layHalf_9 ?_
  refine lv_if_ne (tgt := 32) X.1 X.2.1 dX13_layHalf_10 (by decide) (fun c2 => ?_) (fun c2 => ?_)
  · replace hf := (if_neg c2).symm.trans hf
    refine g_aload_n X (or_rv _) dX13_layHalf_32 rfl (lv_at hl 0 rfl) ?_
    refine g_gR X S foX13_76 dX13_layHalf_33 hf (fun v3 hf => ?_)
    refine lv_iload_n X.1 X.2.1 dX13_layHalf_36 rfl (lv_at hl 1 rfl) ?_
    refine lv_iconst (v := 2) X.1 X.2.1 dX13_layHalf_37 (by decide) ?_
    refine g_idiv X (by decide) dX13_layHalf_38 ?_
    refine g_aI X S dX13_layHalf_39 hf (fun v4 hf => ?_)
    refine lv_sipush (v := 240) X.1 X.2.1 dX13_layHalf_40 (by decide) ?_
    refine lv_iand X.1 X.2.1 dX13_layHalf_43 ?_
    refine lv_iload_n X.1 X.2.1 dX13_layHalf_44 rfl (lv_at hl 2 rfl) ?_
    refine lv_iadd X.1 X.2.1 dX13_layHalf_45 ?_
    exact wfX13_layHalf_46 X hr hlk hnm _ _ _ _ _ _ _ (lv_sub hl [] rfl) S hf
  · replace hf := (if_pos c2).symm.trans hf
    refine lv_bipush (v := 16) X.1 X.2.1 dX13_layHalf_13 (by decide) ?_
    refine lv_iload_n X.1 X.2.1 dX13_layHalf_15 rfl (lv_at hl 2 rfl) ?_
    refine lv_imul X.1 X.2.1 dX13_layHalf_16 ?_
    refine g_aload_n X (or_rv _) dX13_layHalf_17 rfl (lv_at hl 0 rfl) ?_
    refine g_gR X S foX13_76 dX13_layHalf_18 hf (fun v5 hf => ?_)
    refine lv_iload_n X.1 X.2.1 dX13_layHalf_21 rfl (lv_at hl 1 rfl) ?_
    refine lv_iconst (v := 2) X.1 X.2.1 dX13_layHalf_22 (by decide) ?_
    refine g_idiv X (by decide) dX13_layHalf_23 ?_
    refine g_aI X S dX13_layHalf_24 hf (fun v6 hf => ?_)
    refine lv_bipush (v := 15) X.1 X.2.1 dX13_layHalf_25 (by decide) ?_
    refine lv_iand X.1 X.2.1 dX13_layHalf_27 ?_
    refine lv_iadd X.1 X.2.1 dX13_layHalf_28 ?_
    refine lv_goto (tgt := 46) X.1 X.2.1 dX13_layHalf_29 (by decide) ?_
    exact wfX13_layHalf_46 X hr hlk hnm _ _ _ _ _ _ _ (lv_sub hl [] rfl) S hf
def fX13_load_16 (k16 : Nat → Nat → Int32 → Int32 → Int32 → Hp → Option (Hp)) (x0 : Nat) (x1 : Nat) (x3 : Int32) (x4 : Int32) (x5 : Int32) (h : Hp) : Option (Hp) := if ((2 * x3) - 1) ≤ x5 then some h else ob (fX13_halfAt x0 ((x4 - 1) - x5) h) fun v2 => ob (fX13_putDigit x1 x5 v2 h) fun h => lt (x5 + 1) fun z4 => k16 x0 x1 x3 x4 z4 h
theorem wfX13_load_16 {k16 : Nat → Nat → Int32 → Int32 → Int32 → Hp → Option (Hp)} {h9 : Hp} (X : Cx p E A 10 R s m args c cX13_load yX13_load.cls 6) (hr : meth.sig.returnType = none) (hlk : meth.locks = false) (hnm : meth.name = yX13_load.name) (hk16 : ∀ (x0 : Nat) (x1 : Nat) (x3 : Int32) (x4 : Int32) (x5 : Int32) (h : Hp) (H : Heap) (locs : List Loc) (ls : Array Slot), lv_has ls 6 [(0, rv x0), (1, rv x1), (3, .int x3), (4, .int x4), (5, .int x5)] → St E A s h H locs → k16 x0 x1 x3 x4 x5 h = some h9 → W p l e R s m args below meth c H locs 0 0 (MQ below (Qv E A h9) args s 0 0 A) (F0 m 16 ls [])) :
    ∀ (x0 : Nat) (x1 : Nat) (x3 : Int32) (x4 : Int32) (x5 : Int32) (h : Hp) (H : Heap) (locs : List Loc) (ls : Array Slot), lv_has ls 6 [(0, rv x0), (1, rv x1), (3, .int x3), (4, .int x4), (5, .int x5)] → St E A s h H locs → fX13_load_16 k16 x0 x1 x3 x4 x5 h = some h9 → W p l e R s m args below meth c H locs 0 0 (MQ below (Qv E A h9) args s 0 0 A) (F0 m 16 ls []) := by
  intro x0 x1 x3 x4 x5 h H locs ls hl S hf
  unfold fX13_load_16 at hf
  refine lv_iload X.1 X.2.1 dX13_load_16 (lv_at hl 4 rfl) ?_
  refine lv_iconst (v := 2) X.1 X.2.1 dX13_load_18 (by decide) ?_
  refine lv_iload_n X.1 X.2.1 dX13_load_19 rfl (lv_at hl 2 rfl) ?_
  refine lv_imul X.1 X.2.1 dX13_load_20 ?_
  refine lv_iconst (v := 1) X.1 X.2.1 dX13_load_21 (by decide) ?_
  refine lv_isub X.1 X.2.1 dX13_load_22 ?_
  refine lv_icmp_ge (tgt := 49) X.1 X.2.1 dX13_load_23 (by decide) (fun c1 => ?_) (fun c1 => ?_)
  · replace hf := (if_pos c1).symm.trans hf
    cases hf; exact g_rv X S hr hlk dX13_load_49
  · replace hf := (if_neg c1).symm.trans hf
    refine g_aload_n X (or_rv _) dX13_load_26 rfl (lv_at hl 1 rfl) ?_
    refine lv_iload X.1 X.2.1 dX13_load_27 (lv_at hl 4 rfl) ?_
    refine g_aload_n X (or_rv _) dX13_load_29 rfl (lv_at hl 0 rfl) ?_
    refine lv_iload X.1 X.2.1 dX13_load_30 (lv_at hl 3 rfl) ?_
    refine lv_iconst (v := 1) X.1 X.2.1 dX13_load_32 (by decide) ?_
    refine lv_isub X.1 X.2.1 dX13_load_33 ?_
    refine lv_iload X.1 X.2.1 dX13_load_34 (lv_at hl 4 rfl) ?_
    refine lv_isub X.1 X.2.1 dX13_load_36 ?_
    obtain ⟨v2, hc, hf⟩ := ob_some hf
    refine g_ci S (runV (As := [.int ((x4 - 1) - x5)]) (rest := [.int x5, rv x1]) X S coX13_374 (by decide) (cX13_halfAt_m l hc) (tkX13_halfAt hc) rfl hl.1 (by simp [cat_rv, cat_wv, cat_sv, cat_i, cat_l, cat_a]) rfl ⟨Nat.zero_le _, Nat.zero_le _⟩ dX13_load_37) (fun H locs S => ?_)
    obtain ⟨h, hc, hf⟩ := ob_some hf
    refine g_cv S (runS (As := [rv x1, .int x5, .int v2]) (rest := []) X S coX13_377 (by decide) (cX13_putDigit_m l hc) rfl hl.1 (by decide) rfl ⟨Nat.zero_le _, Nat.zero_le _⟩ dX13_load_40) (fun H locs S => ?_)
    obtain ⟨z4, ez4, hf⟩ := lt_some hf
    refine lv_iinc (v := z4) (lv' := [(5, .int z4), (0, rv x0), (1, rv x1), (3, .int x3), (4, .int x4)]) X.1 X.2.1 dX13_load_43 hl (k := 4) rfl (by rw [← ez4]; rfl) (by decide) rfl (fun ls hl => ?_)
    refine lv_goto (tgt := 16) X.1 X.2.1 dX13_load_46 (by decide) ?_
    exact hk16 _ _ _ _ _ _ _ _ _ (lv_sub hl [1, 2, 3, 4, 0] rfl) S hf
theorem wfX13_load_16_l {h9 : Hp} (X : Cx p E A 10 R s m args c cX13_load yX13_load.cls 6) (hr : meth.sig.returnType = none) (hlk : meth.locks = false) (hnm : meth.name = yX13_load.name) :
    ∀ (n : Nat) (x0 : Nat) (x1 : Nat) (x3 : Int32) (x4 : Int32) (x5 : Int32) (h : Hp) (H : Heap) (locs : List Loc) (ls : Array Slot), lv_has ls 6 [(0, rv x0), (1, rv x1), (3, .int x3), (4, .int x4), (5, .int x5)] → St E A s h H locs → lp (fun _ _ _ _ _ _ => none) (fX13_load_16) n x0 x1 x3 x4 x5 h = some h9 → W p l e R s m args below meth c H locs 0 0 (MQ below (Qv E A h9) args s 0 0 A) (F0 m 16 ls []) := by
  intro n
  induction n with
  | zero =>
    intro x0 x1 x3 x4 x5 h H locs ls hl S hf
    exact nomatch hf
  | succ n ih =>
    intro x0 x1 x3 x4 x5 h H locs ls hl S hf
    exact wfX13_load_16 X hr hlk hnm ih x0 x1 x3 x4 x5 h H locs ls hl S hf
def fX13_load (a0 : Nat) (a1 : Nat) (a2 : Int32) (a3 : Int32) (h : Hp) : Option (Hp) := gd 11 a0 h (ob (fX13_clear a1 h) fun h => lt ((2 * (a2 + a3)) - 1) fun z2 => lp (fun _ _ _ _ _ _ => none) (fX13_load_16) FU a0 a1 a3 z2 0 h)
theorem tkX13_load {a0 : Nat} {a1 : Nat} {a2 : Int32} {a3 : Int32} {h : Hp} {r9 : Hp} (e : fX13_load a0 a1 a2 a3 h = some r9) : hK h a0 = 11 := by
  unfold fX13_load at e
  exact (gd_some e).1
theorem cX13_load_m (l : Launch) {E : EE} {A : Nat → Prop} {a0 : Nat} {a1 : Nat} {a2 : Int32} {a3 : Int32} {h : Hp} {h9 : Hp} (hf : fX13_load a0 a1 a2 a3 h = some h9) : Met l yX13_load (wsM yX13_load cX13_load 6 none) (rmm 10 0 0) (PcE E A h [rv a0, rv a1, .int a2, .int a3]) (Qv E A h9) 0 0 A := by
  refine met_of (by decide +kernel) (by simp [lg_sl, cat_rv, cat_wv, cat_sv, cat_i, cat_l, cat_a]) (fun p e s m args below meth c ls X hr hlk hnm S hl => ?_)
  have hl : lv_has ls 6 [(0, rv a0), (1, rv a1), (2, .int a2), (3, .int a3)] := by simpa [lv_args, cat_rv, cat_wv, cat_sv, cat_i, cat_l, cat_a] using hl
  generalize hH : s.heap = H at S ⊢
  generalize hlo : ([] : List Loc) = locs at S ⊢
  clear hH hlo
  unfold fX13_load at hf
  obtain ⟨hth, hf⟩ := gd_some hf
  refine g_aload_n X (or_rv _) dX13_load_0 rfl (lv_at hl 1 rfl) ?_
  obtain ⟨h, hc, hf⟩ := ob_some hf
  refine g_cv S (runS (As := [rv a1]) (rest := []) X S coX13_370 (by decide) (cX13_clear_m l hc) rfl hl.1 (by decide) rfl ⟨Nat.zero_le _, Nat.zero_le _⟩ dX13_load_1) (fun H locs S => ?_)
  refine lv_iconst (v := 2) X.1 X.2.1 dX13_load_4 (by decide) ?_
  refine lv_iload_n X.1 X.2.1 dX13_load_5 rfl (lv_at hl 2 rfl) ?_
  refine lv_iload_n X.1 X.2.1 dX13_load_6 rfl (lv_at hl 3 rfl) ?_
  refine lv_iadd X.1 X.2.1 dX13_load_7 ?_
  refine lv_imul X.1 X.2.1 dX13_load_8 ?_
  refine lv_iconst (v := 1) X.1 X.2.1 dX13_load_9 (by decide) ?_
  refine lv_isub X.1 X.2.1 dX13_load_10 ?_
  refine g_lti hf (fun z2 hf => ?_)
  refine lv_istore (lv' := [(4, .int z2), (0, rv a0), (1, rv a1), (2, .int a2), (3, .int a3)]) X.1 X.2.1 dX13_load_11 hl (by decide) rfl (fun ls hl => ?_)
  refine lv_iconst (v := 0) X.1 X.2.1 dX13_load_13 (by decide) ?_
  refine lv_istore (lv' := [(5, .int 0), (4, .int z2), (0, rv a0), (1, rv a1), (2, .int a2), (3, .int a3)]) X.1 X.2.1 dX13_load_14 hl (by decide) rfl (fun ls hl => ?_)
  exact wfX13_load_16_l X hr hlk hnm FU _ _ _ _ _ _ _ _ _ (lv_sub hl [2, 3, 5, 1, 0] rfl) S hf
def fX13_isBelow (a0 : Int32) : Option (Int32) := if a0 = 11 then some 1 else if a0 = 13 then some 1 else some 0
theorem cX13_isBelow_m (l : Launch) {E : EE} {A : Nat → Prop} {a0 : Int32} {h : Hp} {r9 : Int32} (hf : fX13_isBelow a0 = some r9) : Met l yX13_isBelow (wsM yX13_isBelow cX13_isBelow 1 (some .boolean)) (rmm 8 0 0) (PcE E A h [.int a0]) (Qi E A h r9) 0 0 A := by
  refine met_of (by decide +kernel) (by simp [lg_sl, cat_rv, cat_wv, cat_sv, cat_i, cat_l, cat_a]) (fun p e s m args below meth c ls X hr hlk hnm S hl => ?_)
  have hl : lv_has ls 1 [(0, .int a0)] := by simpa [lv_args, cat_rv, cat_wv, cat_sv, cat_i, cat_l, cat_a] using hl
  generalize hH : s.heap = H at S ⊢
  generalize hlo : ([] : List Loc) = locs at S ⊢
  clear hH hlo
  unfold fX13_isBelow at hf
  refine lv_iload_n X.1 X.2.1 dX13_isBelow_0 rfl (lv_at hl 0 rfl) ?_
  refine lv_bipush (v := 11) X.1 X.2.1 dX13_isBelow_1 (by decide) ?_
  refine lv_icmp_eq (tgt := 12) X.1 X.2.1 dX13_isBelow_3 (by decide) (fun c1 => ?_) (fun c1 => ?_)
  · replace hf := (if_pos c1).symm.trans hf
    refine lv_iconst (v := 1) X.1 X.2.1 dX13_isBelow_12 (by decide) ?_
    refine lv_goto (tgt := 17) X.1 X.2.1 dX13_isBelow_13 (by decide) ?_
    cases hf; exact g_rz X S hr hlk (by decide) dX13_isBelow_17
  · replace hf := (if_neg c1).symm.trans hf
    refine lv_iload_n X.1 X.2.1 dX13_isBelow_6 rfl (lv_at hl 0 rfl) ?_
    refine lv_bipush (v := 13) X.1 X.2.1 dX13_isBelow_7 (by decide) ?_
    refine lv_icmp_ne (tgt := 16) X.1 X.2.1 dX13_isBelow_9 (by decide) (fun c2 => ?_) (fun c2 => ?_)
    · replace hf := (if_neg c2).symm.trans hf
      refine lv_iconst (v := 0) X.1 X.2.1 dX13_isBelow_16 (by decide) ?_
      cases hf; exact g_rz X S hr hlk (by decide) dX13_isBelow_17
    · replace hf := (if_pos c2).symm.trans hf
      refine lv_iconst (v := 1) X.1 X.2.1 dX13_isBelow_12 (by decide) ?_
      refine lv_goto (tgt := 17) X.1 X.2.1 dX13_isBelow_13 (by decide) ?_
      cases hf; exact g_rz X S hr hlk (by decide) dX13_isBelow_17
def fX13_signAt (a0 : Nat) (a1 : Int32) (a2 : Int32) (h : Hp) : Option (Int32) := gd 11 a0 h (ob (fX13_halfAt a0 ((2 * (a1 + a2)) - 1) h) fun v1 => some v1)
theorem tkX13_signAt {a0 : Nat} {a1 : Int32} {a2 : Int32} {h : Hp} {r9 : Int32} (e : fX13_signAt a0 a1 a2 h = some r9) : hK h a0 = 11 := by
  unfold fX13_signAt at e
  exact (gd_some e).1
theorem cX13_signAt_m (l : Launch) {E : EE} {A : Nat → Prop} {a0 : Nat} {a1 : Int32} {a2 : Int32} {h : Hp} {r9 : Int32} (hf : fX13_signAt a0 a1 a2 h = some r9) : Met l yX13_signAt (wsM yX13_signAt cX13_signAt 3 (some .int)) (rmm 9 0 0) (PcE E A h [rv a0, .int a1, .int a2]) (Qi E A h r9) 0 0 A := by
  refine met_of (by decide +kernel) (by simp [lg_sl, cat_rv, cat_wv, cat_sv, cat_i, cat_l, cat_a]) (fun p e s m args below meth c ls X hr hlk hnm S hl => ?_)
  have hl : lv_has ls 3 [(0, rv a0), (1, .int a1), (2, .int a2)] := by simpa [lv_args, cat_rv, cat_wv, cat_sv, cat_i, cat_l, cat_a] using hl
  generalize hH : s.heap = H at S ⊢
  generalize hlo : ([] : List Loc) = locs at S ⊢
  clear hH hlo
  unfold fX13_signAt at hf
  obtain ⟨hth, hf⟩ := gd_some hf
  refine g_aload_n X (or_rv _) dX13_signAt_0 rfl (lv_at hl 0 rfl) ?_
  refine lv_iconst (v := 2) X.1 X.2.1 dX13_signAt_1 (by decide) ?_
  refine lv_iload_n X.1 X.2.1 dX13_signAt_2 rfl (lv_at hl 1 rfl) ?_
  refine lv_iload_n X.1 X.2.1 dX13_signAt_3 rfl (lv_at hl 2 rfl) ?_
  refine lv_iadd X.1 X.2.1 dX13_signAt_4 ?_
  refine lv_imul X.1 X.2.1 dX13_signAt_5 ?_
  refine lv_iconst (v := 1) X.1 X.2.1 dX13_signAt_6 (by decide) ?_
  refine lv_isub X.1 X.2.1 dX13_signAt_7 ?_
  obtain ⟨v1, hc, hf⟩ := ob_some hf
  refine g_ci S (runV (As := [.int ((2 * (a1 + a2)) - 1)]) (rest := []) X S coX13_374 (by decide) (cX13_halfAt_m l hc) (tkX13_halfAt hc) rfl hl.1 (by decide) rfl ⟨Nat.zero_le _, Nat.zero_le _⟩ dX13_signAt_8) (fun H locs S => ?_)
  cases hf; exact g_ri X S hr hlk dX13_signAt_11
def fX13_store_30 (k30 : Nat → Int32 → Nat → Int32 → Int32 → Hp → Option (Hp)) (x0 : Nat) (x2 : Int32) (x3 : Nat) (x5 : Int32) (x6 : Int32) (h : Hp) : Option (Hp) := if ((2 * x2) - 1) ≤ x6 then some h else ob (fX13_digitOf x3 x6 h) fun v2 => ob (fX13_layHalf x0 ((x5 - 1) - x6) v2 h) fun h => lt (x6 + 1) fun z4 => k30 x0 x2 x3 x5 z4 h
theorem wfX13_store_30 {k30 : Nat → Int32 → Nat → Int32 → Int32 → Hp → Option (Hp)} {h9 : Hp} (X : Cx p E A 10 R s m args c cX13_store yX13_store.cls 7) (hr : meth.sig.returnType = none) (hlk : meth.locks = false) (hnm : meth.name = yX13_store.name) (hk30 : ∀ (x0 : Nat) (x2 : Int32) (x3 : Nat) (x5 : Int32) (x6 : Int32) (h : Hp) (H : Heap) (locs : List Loc) (ls : Array Slot), lv_has ls 7 [(0, rv x0), (2, .int x2), (3, rv x3), (5, .int x5), (6, .int x6)] → St E A s h H locs → k30 x0 x2 x3 x5 x6 h = some h9 → W p l e R s m args below meth c H locs 0 0 (MQ below (Qv E A h9) args s 0 0 A) (F0 m 30 ls [])) :
    ∀ (x0 : Nat) (x2 : Int32) (x3 : Nat) (x5 : Int32) (x6 : Int32) (h : Hp) (H : Heap) (locs : List Loc) (ls : Array Slot), lv_has ls 7 [(0, rv x0), (2, .int x2), (3, rv x3), (5, .int x5), (6, .int x6)] → St E A s h H locs → fX13_store_30 k30 x0 x2 x3 x5 x6 h = some h9 → W p l e R s m args below meth c H locs 0 0 (MQ below (Qv E A h9) args s 0 0 A) (F0 m 30 ls []) := by
  intro x0 x2 x3 x5 x6 h H locs ls hl S hf
  unfold fX13_store_30 at hf
  refine lv_iload X.1 X.2.1 dX13_store_30 (lv_at hl 4 rfl) ?_
  refine lv_iconst (v := 2) X.1 X.2.1 dX13_store_32 (by decide) ?_
  refine lv_iload_n X.1 X.2.1 dX13_store_33 rfl (lv_at hl 1 rfl) ?_
  refine lv_imul X.1 X.2.1 dX13_store_34 ?_
  refine lv_iconst (v := 1) X.1 X.2.1 dX13_store_35 (by decide) ?_
  refine lv_isub X.1 X.2.1 dX13_store_36 ?_
  refine lv_icmp_ge (tgt := 63) X.1 X.2.1 dX13_store_37 (by decide) (fun c1 => ?_) (fun c1 => ?_)
  · replace hf := (if_pos c1).symm.trans hf
    cases hf; exact g_rv X S hr hlk dX13_store_63
  · replace hf := (if_neg c1).symm.trans hf
    refine g_aload_n X (or_rv _) dX13_store_40 rfl (lv_at hl 0 rfl) ?_
    refine lv_iload X.1 X.2.1 dX13_store_41 (lv_at hl 3 rfl) ?_
    refine lv_iconst (v := 1) X.1 X.2.1 dX13_store_43 (by decide) ?_
    refine lv_isub X.1 X.2.1 dX13_store_44 ?_
    refine lv_iload X.1 X.2.1 dX13_store_45 (lv_at hl 4 rfl) ?_
    refine lv_isub X.1 X.2.1 dX13_store_47 ?_
    refine g_aload_n X (or_rv _) dX13_store_48 rfl (lv_at hl 2 rfl) ?_
    refine lv_iload X.1 X.2.1 dX13_store_49 (lv_at hl 4 rfl) ?_
    obtain ⟨v2, hc, hf⟩ := ob_some hf
    refine g_ci S (runS (As := [rv x3, .int x6]) (rest := [.int ((x5 - 1) - x6), rv x0]) X S coX13_364 (by decide) (cX13_digitOf_m l hc) rfl hl.1 (by simp [cat_rv, cat_wv, cat_sv, cat_i, cat_l, cat_a]) rfl ⟨Nat.zero_le _, Nat.zero_le _⟩ dX13_store_51) (fun H locs S => ?_)
    obtain ⟨h, hc, hf⟩ := ob_some hf
    refine g_cv S (runV (As := [.int ((x5 - 1) - x6), .int v2]) (rest := []) X S coX13_381 (by decide) (cX13_layHalf_m l hc) (tkX13_layHalf hc) rfl hl.1 (by decide) rfl ⟨Nat.zero_le _, Nat.zero_le _⟩ dX13_store_54) (fun H locs S => ?_)
    obtain ⟨z4, ez4, hf⟩ := lt_some hf
    refine lv_iinc (v := z4) (lv' := [(6, .int z4), (0, rv x0), (2, .int x2), (3, rv x3), (5, .int x5)]) X.1 X.2.1 dX13_store_57 hl (k := 4) rfl (by rw [← ez4]; rfl) (by decide) rfl (fun ls hl => ?_)
    refine lv_goto (tgt := 30) X.1 X.2.1 dX13_store_60 (by decide) ?_
    exact hk30 _ _ _ _ _ _ _ _ _ (lv_sub hl [1, 2, 3, 4, 0] rfl) S hf
theorem wfX13_store_30_l {h9 : Hp} (X : Cx p E A 10 R s m args c cX13_store yX13_store.cls 7) (hr : meth.sig.returnType = none) (hlk : meth.locks = false) (hnm : meth.name = yX13_store.name) :
    ∀ (n : Nat) (x0 : Nat) (x2 : Int32) (x3 : Nat) (x5 : Int32) (x6 : Int32) (h : Hp) (H : Heap) (locs : List Loc) (ls : Array Slot), lv_has ls 7 [(0, rv x0), (2, .int x2), (3, rv x3), (5, .int x5), (6, .int x6)] → St E A s h H locs → lp (fun _ _ _ _ _ _ => none) (fX13_store_30) n x0 x2 x3 x5 x6 h = some h9 → W p l e R s m args below meth c H locs 0 0 (MQ below (Qv E A h9) args s 0 0 A) (F0 m 30 ls []) := by
  intro n
  induction n with
  | zero =>
    intro x0 x2 x3 x5 x6 h H locs ls hl S hf
    exact nomatch hf
  | succ n ih =>
    intro x0 x2 x3 x5 x6 h H locs ls hl S hf
    exact wfX13_store_30 X hr hlk hnm ih x0 x2 x3 x5 x6 h H locs ls hl S hf
def fX13_store_24 (x0 : Nat) (x2 : Int32) (x3 : Nat) (x5 : Int32) (y0 : Int32) (y1 : Int32) (y2 : Nat) (h : Hp) : Option (Hp) := ob (fX13_layHalf y2 y1 y0 h) fun h => lp (fun _ _ _ _ _ _ => none) (fX13_store_30) FU x0 x2 x3 x5 0 h
theorem wfX13_store_24 {h9 : Hp} (X : Cx p E A 10 R s m args c cX13_store yX13_store.cls 7) (hr : meth.sig.returnType = none) (hlk : meth.locks = false) (hnm : meth.name = yX13_store.name) :
    ∀ (x0 : Nat) (x2 : Int32) (x3 : Nat) (x5 : Int32) (y0 : Int32) (y1 : Int32) (y2 : Nat) (h : Hp) (H : Heap) (locs : List Loc) (ls : Array Slot), lv_has ls 7 [(0, rv x0), (2, .int x2), (3, rv x3), (5, .int x5)] → St E A s h H locs → fX13_store_24 x0 x2 x3 x5 y0 y1 y2 h = some h9 → W p l e R s m args below meth c H locs 0 0 (MQ below (Qv E A h9) args s 0 0 A) (F0 m 24 ls [.int y0, .int y1, rv y2]) := by
  intro x0 x2 x3 x5 y0 y1 y2 h H locs ls hl S hf
  unfold fX13_store_24 at hf
  obtain ⟨h, hc, hf⟩ := ob_some hf
  refine g_cv S (runV (As := [.int y1, .int y0]) (rest := []) X S coX13_381 (by decide) (cX13_layHalf_m l hc) (tkX13_layHalf hc) rfl hl.1 (by decide) rfl ⟨Nat.zero_le _, Nat.zero_le _⟩ dX13_store_24) (fun H locs S => ?_)
  refine lv_iconst (v := 0) X.1 X.2.1 dX13_store_27 (by decide) ?_
  refine lv_istore (lv' := [(6, .int 0), (0, rv x0), (2, .int x2), (3, rv x3), (5, .int x5)]) X.1 X.2.1 dX13_store_28 hl (by decide) rfl (fun ls hl => ?_)
  exact wfX13_store_30_l X hr hlk hnm FU _ _ _ _ _ _ _ _ _ (lv_sub hl [1, 2, 3, 4, 0] rfl) S hf
def fX13_store (a0 : Nat) (a1 : Int32) (a2 : Int32) (a3 : Nat) (a4 : Int32) (h : Hp) : Option (Hp) := gd 11 a0 h (lt ((2 * (a1 + a2)) - 1) fun z1 => if a4 = 0 then fX13_store_24 a0 a2 a3 z1 12 z1 a0 h else fX13_store_24 a0 a2 a3 z1 13 z1 a0 h)
theorem tkX13_store {a0 : Nat} {a1 : Int32} {a2 : Int32} {a3 : Nat} {a4 : Int32} {h : Hp} {r9 : Hp} (e : fX13_store a0 a1 a2 a3 a4 h = some r9) : hK h a0 = 11 := by
  unfold fX13_store at e
  exact (gd_some e).1
theorem cX13_store_m (l : Launch) {E : EE} {A : Nat → Prop} {a0 : Nat} {a1 : Int32} {a2 : Int32} {a3 : Nat} {a4 : Int32} {h : Hp} {h9 : Hp} (hf : fX13_store a0 a1 a2 a3 a4 h = some h9) : Met l yX13_store (wsM yX13_store cX13_store 7 none) (rmm 10 0 0) (PcE E A h [rv a0, .int a1, .int a2, rv a3, .int a4]) (Qv E A h9) 0 0 A := by
  refine met_of (by decide +kernel) (by simp [lg_sl, cat_rv, cat_wv, cat_sv, cat_i, cat_l, cat_a]) (fun p e s m args below meth c ls X hr hlk hnm S hl => ?_)
  have hl : lv_has ls 7 [(0, rv a0), (1, .int a1), (2, .int a2), (3, rv a3), (4, .int a4)] := by simpa [lv_args, cat_rv, cat_wv, cat_sv, cat_i, cat_l, cat_a] using hl
  generalize hH : s.heap = H at S ⊢
  generalize hlo : ([] : List Loc) = locs at S ⊢
  clear hH hlo
  unfold fX13_store at hf
  obtain ⟨hth, hf⟩ := gd_some hf
  refine lv_iconst (v := 2) X.1 X.2.1 dX13_store_0 (by decide) ?_
  refine lv_iload_n X.1 X.2.1 dX13_store_1 rfl (lv_at hl 1 rfl) ?_
  refine lv_iload_n X.1 X.2.1 dX13_store_2 rfl (lv_at hl 2 rfl) ?_
  refine lv_iadd X.1 X.2.1 dX13_store_3 ?_
  refine lv_imul X.1 X.2.1 dX13_store_4 ?_
  refine lv_iconst (v := 1) X.1 X.2.1 dX13_store_5 (by decide) ?_
  refine lv_isub X.1 X.2.1 dX13_store_6 ?_
  refine g_lti hf (fun z1 hf => ?_)
  refine lv_istore (lv' := [(5, .int z1), (0, rv a0), (1, .int a1), (2, .int a2), (3, rv a3), (4, .int a4)]) X.1 X.2.1 dX13_store_7 hl (by decide) rfl (fun ls hl => ?_)
  refine g_aload_n X (or_rv _) dX13_store_9 rfl (lv_at hl 1 rfl) ?_
  refine lv_iload X.1 X.2.1 dX13_store_10 (lv_at hl 0 rfl) ?_
  refine lv_iload X.1 X.2.1 dX13_store_12 (lv_at hl 5 rfl) ?_
  refine lv_if_eq (tgt := 22) X.1 X.2.1 dX13_store_14 (by decide) (fun c2 => ?_) (fun c2 => ?_)
  · replace hf := (if_pos c2).symm.trans hf
    refine lv_bipush (v := 12) X.1 X.2.1 dX13_store_22 (by decide) ?_
    exact wfX13_store_24 X hr hlk hnm _ _ _ _ _ _ _ _ _ _ _ (lv_sub hl [1, 3, 4, 0] rfl) S hf
  · replace hf := (if_neg c2).symm.trans hf
    refine lv_bipush (v := 13) X.1 X.2.1 dX13_store_17 (by decide) ?_
    refine lv_goto (tgt := 24) X.1 X.2.1 dX13_store_19 (by decide) ?_
    exact wfX13_store_24 X hr hlk hnm _ _ _ _ _ _ _ _ _ _ _ (lv_sub hl [1, 3, 4, 0] rfl) S hf
def fX13_isNothing (a0 : Nat) (h : Hp) : Option (Int32) := ob (fX13_digitsOf a0 h) fun v1 => if v1 = 0 then some 1 else some 0
theorem cX13_isNothing_m (l : Launch) {E : EE} {A : Nat → Prop} {a0 : Nat} {h : Hp} {r9 : Int32} (hf : fX13_isNothing a0 h = some r9) : Met l yX13_isNothing (wsM yX13_isNothing cX13_isNothing 1 (some .boolean)) (rmm 11 0 0) (PcE E A h [rv a0]) (Qi E A h r9) 0 0 A := by
  refine met_of (by decide +kernel) (by simp [lg_sl, cat_rv, cat_wv, cat_sv, cat_i, cat_l, cat_a]) (fun p e s m args below meth c ls X hr hlk hnm S hl => ?_)
  have hl : lv_has ls 1 [(0, rv a0)] := by simpa [lv_args, cat_rv, cat_wv, cat_sv, cat_i, cat_l, cat_a] using hl
  generalize hH : s.heap = H at S ⊢
  generalize hlo : ([] : List Loc) = locs at S ⊢
  clear hH hlo
  unfold fX13_isNothing at hf
  refine g_aload_n X (or_rv _) dX13_isNothing_0 rfl (lv_at hl 0 rfl) ?_
  obtain ⟨v1, hc, hf⟩ := ob_some hf
  refine g_ci S (runS (As := [rv a0]) (rest := []) X S coX13_384 (by decide) (cX13_digitsOf_m l hc) rfl hl.1 (by decide) rfl ⟨Nat.zero_le _, Nat.zero_le _⟩ dX13_isNothing_1) (fun H locs S => ?_)
  refine lv_if_ne (tgt := 11) X.1 X.2.1 dX13_isNothing_4 (by decide) (fun c2 => ?_) (fun c2 => ?_)
  · replace hf := (if_neg c2).symm.trans hf
    refine lv_iconst (v := 0) X.1 X.2.1 dX13_isNothing_11 (by decide) ?_
    cases hf; exact g_rz X S hr hlk (by decide) dX13_isNothing_12
  · replace hf := (if_pos c2).symm.trans hf
    refine lv_iconst (v := 1) X.1 X.2.1 dX13_isNothing_7 (by decide) ?_
    refine lv_goto (tgt := 12) X.1 X.2.1 dX13_isNothing_8 (by decide) ?_
    cases hf; exact g_rz X S hr hlk (by decide) dX13_isNothing_12
def fX13_flawOf_46 (h : Hp) (k13 : Nat → Int32 → Int32 → Option (Int32)) (x0 : Nat) (x3 : Int32) (x4 : Int32) (y0 : Int32) (y1 : Int32) : Option (Int32) := if y1 = y0 then lt (x4 + 1) fun z2 => k13 x0 x3 z2 else some x4
theorem wfX13_flawOf_46 {h : Hp} {k13 : Nat → Int32 → Int32 → Option (Int32)} {r9 : Int32} (X : Cx p E A 9 R s m args c cX13_flawOf yX13_flawOf.cls 5) (hr : meth.sig.returnType = (some .int)) (hlk : meth.locks = false) (hnm : meth.name = yX13_flawOf.name) (hk13 : ∀ (x0 : Nat) (x3 : Int32) (x4 : Int32) (H : Heap) (locs : List Loc) (ls : Array Slot), lv_has ls 5 [(0, rv x0), (3, .int x3), (4, .int x4)] → St E A s h H locs → k13 x0 x3 x4 = some r9 → W p l e R s m args below meth c H locs 0 0 (MQ below (Qi E A h r9) args s 0 0 A) (F0 m 13 ls [])) :
    ∀ (x0 : Nat) (x3 : Int32) (x4 : Int32) (y0 : Int32) (y1 : Int32) (H : Heap) (locs : List Loc) (ls : Array Slot), lv_has ls 5 [(0, rv x0), (3, .int x3), (4, .int x4)] → St E A s h H locs → fX13_flawOf_46 h k13 x0 x3 x4 y0 y1 = some r9 → W p l e R s m args below meth c H locs 0 0 (MQ below (Qi E A h r9) args s 0 0 A) (F0 m 46 ls [.int y0, .int y1]) := by
  intro x0 x3 x4 y0 y1 H locs ls hl S hf
  unfold fX13_flawOf_46 at hf
  refine lv_icmp_eq (tgt := 52) X.1 X.2.1 dX13_flawOf_46 (by decide) (fun c1 => ?_) (fun c1 => ?_)
  · replace hf := (if_pos c1).symm.trans hf
    obtain ⟨z2, ez2, hf⟩ := lt_some hf
    refine lv_iinc (v := z2) (lv' := [(4, .int z2), (0, rv x0), (3, .int x3)]) X.1 X.2.1 dX13_flawOf_52 hl (k := 2) rfl (by rw [← ez2]; rfl) (by decide) rfl (fun ls hl => ?_)
    refine lv_goto (tgt := 13) X.1 X.2.1 dX13_flawOf_55 (by decide) ?_
    exact hk13 _ _ _ _ _ _ (lv_sub hl [1, 2, 0] rfl) S hf
  · replace hf := (if_neg c1).symm.trans hf
    refine lv_iload X.1 X.2.1 dX13_flawOf_49 (lv_at hl 2 rfl) ?_
    cases hf; exact g_ri X S hr hlk dX13_flawOf_51
def fX13_flawOf_35 (h : Hp) (k13 : Nat → Int32 → Int32 → Option (Int32)) (x0 : Nat) (x3 : Int32) (x4 : Int32) (y0 : Int32) : Option (Int32) := if x4 = x3 then fX13_flawOf_46 h k13 x0 x3 x4 1 y0 else fX13_flawOf_46 h k13 x0 x3 x4 0 y0
theorem wfX13_flawOf_35 {h : Hp} {k13 : Nat → Int32 → Int32 → Option (Int32)} {r9 : Int32} (X : Cx p E A 9 R s m args c cX13_flawOf yX13_flawOf.cls 5) (hr : meth.sig.returnType = (some .int)) (hlk : meth.locks = false) (hnm : meth.name = yX13_flawOf.name) (hk13 : ∀ (x0 : Nat) (x3 : Int32) (x4 : Int32) (H : Heap) (locs : List Loc) (ls : Array Slot), lv_has ls 5 [(0, rv x0), (3, .int x3), (4, .int x4)] → St E A s h H locs → k13 x0 x3 x4 = some r9 → W p l e R s m args below meth c H locs 0 0 (MQ below (Qi E A h r9) args s 0 0 A) (F0 m 13 ls [])) :
    ∀ (x0 : Nat) (x3 : Int32) (x4 : Int32) (y0 : Int32) (H : Heap) (locs : List Loc) (ls : Array Slot), lv_has ls 5 [(0, rv x0), (3, .int x3), (4, .int x4)] → St E A s h H locs → fX13_flawOf_35 h k13 x0 x3 x4 y0 = some r9 → W p l e R s m args below meth c H locs 0 0 (MQ below (Qi E A h r9) args s 0 0 A) (F0 m 35 ls [.int y0]) := by
  intro x0 x3 x4 y0 H locs ls hl S hf
  unfold fX13_flawOf_35 at hf
  refine lv_iload X.1 X.2.1 dX13_flawOf_35 (lv_at hl 2 rfl) ?_
  refine lv_iload_n X.1 X.2.1 dX13_flawOf_37 rfl (lv_at hl 1 rfl) ?_
  refine lv_icmp_ne (tgt := 45) X.1 X.2.1 dX13_flawOf_38 (by decide) (fun c1 => ?_) (fun c1 => ?_)
  · replace hf := (if_neg c1).symm.trans hf
    refine lv_iconst (v := 0) X.1 X.2.1 dX13_flawOf_45 (by decide) ?_
    exact wfX13_flawOf_46 X hr hlk hnm hk13 _ _ _ _ _ _ _ _ hl S hf
  · replace hf := (if_pos c1).symm.trans hf
    refine lv_iconst (v := 1) X.1 X.2.1 dX13_flawOf_41 (by decide) ?_
    refine lv_goto (tgt := 46) X.1 X.2.1 dX13_flawOf_42 (by decide) ?_
    exact wfX13_flawOf_46 X hr hlk hnm hk13 _ _ _ _ _ _ _ _ hl S hf
def fX13_flawOf_13 (h : Hp) (k13 : Nat → Int32 → Int32 → Option (Int32)) (x0 : Nat) (x3 : Int32) (x4 : Int32) : Option (Int32) := if x3 < x4 then some (-1) else ob (fX13_halfAt x0 x4 h) fun v2 => if v2 ≤ 9 then fX13_flawOf_35 h k13 x0 x3 x4 0 else fX13_flawOf_35 h k13 x0 x3 x4 1
theorem wfX13_flawOf_13 {h : Hp} {k13 : Nat → Int32 → Int32 → Option (Int32)} {r9 : Int32} (X : Cx p E A 9 R s m args c cX13_flawOf yX13_flawOf.cls 5) (hr : meth.sig.returnType = (some .int)) (hlk : meth.locks = false) (hnm : meth.name = yX13_flawOf.name) (hk13 : ∀ (x0 : Nat) (x3 : Int32) (x4 : Int32) (H : Heap) (locs : List Loc) (ls : Array Slot), lv_has ls 5 [(0, rv x0), (3, .int x3), (4, .int x4)] → St E A s h H locs → k13 x0 x3 x4 = some r9 → W p l e R s m args below meth c H locs 0 0 (MQ below (Qi E A h r9) args s 0 0 A) (F0 m 13 ls [])) :
    ∀ (x0 : Nat) (x3 : Int32) (x4 : Int32) (H : Heap) (locs : List Loc) (ls : Array Slot), lv_has ls 5 [(0, rv x0), (3, .int x3), (4, .int x4)] → St E A s h H locs → fX13_flawOf_13 h k13 x0 x3 x4 = some r9 → W p l e R s m args below meth c H locs 0 0 (MQ below (Qi E A h r9) args s 0 0 A) (F0 m 13 ls []) := by
  intro x0 x3 x4 H locs ls hl S hf
  unfold fX13_flawOf_13 at hf
  refine lv_iload X.1 X.2.1 dX13_flawOf_13 (lv_at hl 2 rfl) ?_
  refine lv_iload_n X.1 X.2.1 dX13_flawOf_15 rfl (lv_at hl 1 rfl) ?_
  refine lv_icmp_gt (tgt := 58) X.1 X.2.1 dX13_flawOf_16 (by decide) (fun c1 => ?_) (fun c1 => ?_)
  · replace hf := (if_pos c1).symm.trans hf
    refine lv_iconst (v := (-1)) X.1 X.2.1 dX13_flawOf_58 (by decide) ?_
    cases hf; exact g_ri X S hr hlk dX13_flawOf_59
  · replace hf := (if_neg c1).symm.trans hf
    refine g_aload_n X (or_rv _) dX13_flawOf_19 rfl (lv_at hl 0 rfl) ?_
    refine lv_iload X.1 X.2.1 dX13_flawOf_20 (lv_at hl 2 rfl) ?_
    obtain ⟨v2, hc, hf⟩ := ob_some hf
    refine g_ci S (runV (As := [.int x4]) (rest := []) X S coX13_374 (by decide) (cX13_halfAt_m l hc) (tkX13_halfAt hc) rfl hl.1 (by decide) rfl ⟨Nat.zero_le _, Nat.zero_le _⟩ dX13_flawOf_22) (fun H locs S => ?_)
    refine lv_bipush (v := 9) X.1 X.2.1 dX13_flawOf_25 (by decide) ?_
    refine lv_icmp_le (tgt := 34) X.1 X.2.1 dX13_flawOf_27 (by decide) (fun c3 => ?_) (fun c3 => ?_)
    · replace hf := (if_pos c3).symm.trans hf
      refine lv_iconst (v := 0) X.1 X.2.1 dX13_flawOf_34 (by decide) ?_
      exact wfX13_flawOf_35 X hr hlk hnm hk13 _ _ _ _ _ _ _ hl S hf
    · replace hf := (if_neg c3).symm.trans hf
      refine lv_iconst (v := 1) X.1 X.2.1 dX13_flawOf_30 (by decide) ?_
      refine lv_goto (tgt := 35) X.1 X.2.1 dX13_flawOf_31 (by decide) ?_
      exact wfX13_flawOf_35 X hr hlk hnm hk13 _ _ _ _ _ _ _ hl S hf
theorem wfX13_flawOf_13_l {h : Hp} {r9 : Int32} (X : Cx p E A 9 R s m args c cX13_flawOf yX13_flawOf.cls 5) (hr : meth.sig.returnType = (some .int)) (hlk : meth.locks = false) (hnm : meth.name = yX13_flawOf.name) :
    ∀ (n : Nat) (x0 : Nat) (x3 : Int32) (x4 : Int32) (H : Heap) (locs : List Loc) (ls : Array Slot), lv_has ls 5 [(0, rv x0), (3, .int x3), (4, .int x4)] → St E A s h H locs → lp (fun _ _ _ => none) (fX13_flawOf_13 h) n x0 x3 x4 = some r9 → W p l e R s m args below meth c H locs 0 0 (MQ below (Qi E A h r9) args s 0 0 A) (F0 m 13 ls []) := by
  intro n
  induction n with
  | zero =>
    intro x0 x3 x4 H locs ls hl S hf
    exact nomatch hf
  | succ n ih =>
    intro x0 x3 x4 H locs ls hl S hf
    exact wfX13_flawOf_13 X hr hlk hnm ih x0 x3 x4 H locs ls hl S hf
def fX13_flawOf (a0 : Nat) (a1 : Int32) (a2 : Int32) (h : Hp) : Option (Int32) := gd 11 a0 h (lt ((2 * (a1 + a2)) - 1) fun z1 => lt (2 * a1) fun z2 => lp (fun _ _ _ => none) (fX13_flawOf_13 h) FU a0 z1 z2)
theorem tkX13_flawOf {a0 : Nat} {a1 : Int32} {a2 : Int32} {h : Hp} {r9 : Int32} (e : fX13_flawOf a0 a1 a2 h = some r9) : hK h a0 = 11 := by
  unfold fX13_flawOf at e
  exact (gd_some e).1
theorem cX13_flawOf_m (l : Launch) {E : EE} {A : Nat → Prop} {a0 : Nat} {a1 : Int32} {a2 : Int32} {h : Hp} {r9 : Int32} (hf : fX13_flawOf a0 a1 a2 h = some r9) : Met l yX13_flawOf (wsM yX13_flawOf cX13_flawOf 5 (some .int)) (rmm 9 0 0) (PcE E A h [rv a0, .int a1, .int a2]) (Qi E A h r9) 0 0 A := by
  refine met_of (by decide +kernel) (by simp [lg_sl, cat_rv, cat_wv, cat_sv, cat_i, cat_l, cat_a]) (fun p e s m args below meth c ls X hr hlk hnm S hl => ?_)
  have hl : lv_has ls 5 [(0, rv a0), (1, .int a1), (2, .int a2)] := by simpa [lv_args, cat_rv, cat_wv, cat_sv, cat_i, cat_l, cat_a] using hl
  generalize hH : s.heap = H at S ⊢
  generalize hlo : ([] : List Loc) = locs at S ⊢
  clear hH hlo
  unfold fX13_flawOf at hf
  obtain ⟨hth, hf⟩ := gd_some hf
  refine lv_iconst (v := 2) X.1 X.2.1 dX13_flawOf_0 (by decide) ?_
  refine lv_iload_n X.1 X.2.1 dX13_flawOf_1 rfl (lv_at hl 1 rfl) ?_
  refine lv_iload_n X.1 X.2.1 dX13_flawOf_2 rfl (lv_at hl 2 rfl) ?_
  refine lv_iadd X.1 X.2.1 dX13_flawOf_3 ?_
  refine lv_imul X.1 X.2.1 dX13_flawOf_4 ?_
  refine lv_iconst (v := 1) X.1 X.2.1 dX13_flawOf_5 (by decide) ?_
  refine lv_isub X.1 X.2.1 dX13_flawOf_6 ?_
  refine g_lti hf (fun z1 hf => ?_)
  refine lv_istore_n (i := 3) (lv' := [(3, .int z1), (0, rv a0), (1, .int a1), (2, .int a2)]) X.1 X.2.1 dX13_flawOf_7 rfl hl (by decide) rfl (fun ls hl => ?_)
  refine lv_iconst (v := 2) X.1 X.2.1 dX13_flawOf_8 (by decide) ?_
  refine lv_iload_n X.1 X.2.1 dX13_flawOf_9 rfl (lv_at hl 2 rfl) ?_
  refine lv_imul X.1 X.2.1 dX13_flawOf_10 ?_
  refine g_lti hf (fun z2 hf => ?_)
  refine lv_istore (lv' := [(4, .int z2), (3, .int z1), (0, rv a0), (1, .int a1), (2, .int a2)]) X.1 X.2.1 dX13_flawOf_11 hl (by decide) rfl (fun ls hl => ?_)
  exact wfX13_flawOf_13_l X hr hlk hnm FU _ _ _ _ _ _ (lv_sub hl [2, 1, 0] rfl) S hf
def fX13_isThere (a0 : Int32) (a1 : Int32) : Option (Int32) := if a0 < 0 then some 0 else if (256 - a1) < a0 then some 0 else some 1
theorem cX13_isThere_m (l : Launch) {E : EE} {A : Nat → Prop} {a0 : Int32} {a1 : Int32} {h : Hp} {r9 : Int32} (hf : fX13_isThere a0 a1 = some r9) : Met l yX13_isThere (wsM yX13_isThere cX13_isThere 2 (some .boolean)) (rmm 8 0 0) (PcE E A h [.int a0, .int a1]) (Qi E A h r9) 0 0 A := by
  refine met_of (by decide +kernel) (by simp [lg_sl, cat_rv, cat_wv, cat_sv, cat_i, cat_l, cat_a]) (fun p e s m args below meth c ls X hr hlk hnm S hl => ?_)
  have hl : lv_has ls 2 [(0, .int a0), (1, .int a1)] := by simpa [lv_args, cat_rv, cat_wv, cat_sv, cat_i, cat_l, cat_a] using hl
  generalize hH : s.heap = H at S ⊢
  generalize hlo : ([] : List Loc) = locs at S ⊢
  clear hH hlo
  unfold fX13_isThere at hf
  refine lv_iload_n X.1 X.2.1 dX13_isThere_0 rfl (lv_at hl 0 rfl) ?_
  refine lv_if_lt (tgt := 17) X.1 X.2.1 dX13_isThere_1 (by decide) (fun c1 => ?_) (fun c1 => ?_)
  · replace hf := (if_pos c1).symm.trans hf
    refine lv_iconst (v := 0) X.1 X.2.1 dX13_isThere_17 (by decide) ?_
    cases hf; exact g_rz X S hr hlk (by decide) dX13_isThere_18
  · replace hf := (if_neg c1).symm.trans hf
    refine lv_iload_n X.1 X.2.1 dX13_isThere_4 rfl (lv_at hl 0 rfl) ?_
    refine lv_sipush (v := 256) X.1 X.2.1 dX13_isThere_5 (by decide) ?_
    refine lv_iload_n X.1 X.2.1 dX13_isThere_8 rfl (lv_at hl 1 rfl) ?_
    refine lv_isub X.1 X.2.1 dX13_isThere_9 ?_
    refine lv_icmp_gt (tgt := 17) X.1 X.2.1 dX13_isThere_10 (by decide) (fun c2 => ?_) (fun c2 => ?_)
    · replace hf := (if_pos c2).symm.trans hf
      refine lv_iconst (v := 0) X.1 X.2.1 dX13_isThere_17 (by decide) ?_
      cases hf; exact g_rz X S hr hlk (by decide) dX13_isThere_18
    · replace hf := (if_neg c2).symm.trans hf
      refine lv_iconst (v := 1) X.1 X.2.1 dX13_isThere_13 (by decide) ?_
      refine lv_goto (tgt := 18) X.1 X.2.1 dX13_isThere_14 (by decide) ?_
      cases hf; exact g_rz X S hr hlk (by decide) dX13_isThere_18
def fX13_raise_53 (x0 : Nat) (y0 : Int32) (y1 : Nat) (h : Hp) : Option (Hp) := ob (pI 11 y1 41 y0 h) fun h => ob (pI 11 x0 42 (-1) h) fun h => some h
theorem wfX13_raise_53 {h9 : Hp} (X : Cx p E A 8 R s m args c cX13_raise yX13_raise.cls 3) (hr : meth.sig.returnType = none) (hlk : meth.locks = false) (hnm : meth.name = yX13_raise.name) :
    ∀ (x0 : Nat) (y0 : Int32) (y1 : Nat) (h : Hp) (H : Heap) (locs : List Loc) (ls : Array Slot), lv_has ls 3 [(0, rv x0)] → St E A s h H locs → fX13_raise_53 x0 y0 y1 h = some h9 → W p l e R s m args below meth c H locs 0 0 (MQ below (Qv E A h9) args s 0 0 A) (F0 m 53 ls [.int y0, rv y1]) := by
  intro x0 y0 y1 h H locs ls hl S hf
  unfold fX13_raise_53 at hf
  refine g_pI X S fpX13_409 (Or.inl rfl) dX13_raise_53 hf (fun h H locs hm hf S => ?_)
  refine g_aload_n X (or_rv _) dX13_raise_56 rfl (lv_at hl 0 rfl) ?_
  refine lv_iconst (v := (-1)) X.1 X.2.1 dX13_raise_57 (by decide) ?_
  refine g_pI X S fpX13_412 (Or.inl rfl) dX13_raise_58 hf (fun h H locs hm hf S => ?_)
  cases hf; exact g_rv X S hr hlk dX13_raise_61
def fX13_raise_34 (x0 : Nat) (x2 : Int32) (y0 : Int32) (y1 : Nat) (h : Hp) : Option (Hp) := ob (pI 11 y1 40 y0 h) fun h => if x2 = 0 then ob (gI 11 x0 35 h) fun v3 => fX13_raise_53 x0 v3 x0 h else ob (gI 11 x0 37 h) fun v2 => fX13_raise_53 x0 v2 x0 h
theorem wfX13_raise_34 {h9 : Hp} (X : Cx p E A 8 R s m args c cX13_raise yX13_raise.cls 3) (hr : meth.sig.returnType = none) (hlk : meth.locks = false) (hnm : meth.name = yX13_raise.name) :
    ∀ (x0 : Nat) (x2 : Int32) (y0 : Int32) (y1 : Nat) (h : Hp) (H : Heap) (locs : List Loc) (ls : Array Slot), lv_has ls 3 [(0, rv x0), (2, .int x2)] → St E A s h H locs → fX13_raise_34 x0 x2 y0 y1 h = some h9 → W p l e R s m args below meth c H locs 0 0 (MQ below (Qv E A h9) args s 0 0 A) (F0 m 34 ls [.int y0, rv y1]) := by
  intro x0 x2 y0 y1 h H locs ls hl S hf
  unfold fX13_raise_34 at hf
  refine g_pI X S fpX13_400 (Or.inl rfl) dX13_raise_34 hf (fun h H locs hm hf S => ?_)
  refine g_aload_n X (or_rv _) dX13_raise_37 rfl (lv_at hl 0 rfl) ?_
  refine lv_iload_n X.1 X.2.1 dX13_raise_38 rfl (lv_at hl 1 rfl) ?_
  refine lv_if_ne (tgt := 49) X.1 X.2.1 dX13_raise_39 (by decide) (fun c1 => ?_) (fun c1 => ?_)
  · replace hf := (if_neg c1).symm.trans hf
    refine g_aload_n X (or_rv _) dX13_raise_49 rfl (lv_at hl 0 rfl) ?_
    refine g_gI X S foX13_406 rfl dX13_raise_50 hf (fun v2 hf => ?_)
    exact wfX13_raise_53 X hr hlk hnm _ _ _ _ _ _ _ (lv_sub hl [0] rfl) S hf
  · replace hf := (if_pos c1).symm.trans hf
    refine g_aload_n X (or_rv _) dX13_raise_42 rfl (lv_at hl 0 rfl) ?_
    refine g_gI X S foX13_403 rfl dX13_raise_43 hf (fun v3 hf => ?_)
    refine lv_goto (tgt := 53) X.1 X.2.1 dX13_raise_46 (by decide) ?_
    exact wfX13_raise_53 X hr hlk hnm _ _ _ _ _ _ _ (lv_sub hl [0] rfl) S hf
def fX13_raise (a0 : Nat) (a1 : Int32) (a2 : Int32) (h : Hp) : Option (Hp) := gd 11 a0 h (ob (gI 11 a0 38 h) fun v1 => if v1 = 0 then ob (pI 11 a0 38 a1 h) fun h => ob (pI 11 a0 39 a2 h) fun h => if a2 = 0 then ob (gI 11 a0 34 h) fun v5 => fX13_raise_34 a0 a2 v5 a0 h else ob (gI 11 a0 36 h) fun v4 => fX13_raise_34 a0 a2 v4 a0 h else some h)
theorem tkX13_raise {a0 : Nat} {a1 : Int32} {a2 : Int32} {h : Hp} {r9 : Hp} (e : fX13_raise a0 a1 a2 h = some r9) : hK h a0 = 11 := by
  unfold fX13_raise at e
  exact (gd_some e).1
theorem cX13_raise_m (l : Launch) {E : EE} {A : Nat → Prop} {a0 : Nat} {a1 : Int32} {a2 : Int32} {h : Hp} {h9 : Hp} (hf : fX13_raise a0 a1 a2 h = some h9) : Met l yX13_raise (wsM yX13_raise cX13_raise 3 none) (rmm 8 0 0) (PcE E A h [rv a0, .int a1, .int a2]) (Qv E A h9) 0 0 A := by
  refine met_of (by decide +kernel) (by simp [lg_sl, cat_rv, cat_wv, cat_sv, cat_i, cat_l, cat_a]) (fun p e s m args below meth c ls X hr hlk hnm S hl => ?_)
  have hl : lv_has ls 3 [(0, rv a0), (1, .int a1), (2, .int a2)] := by simpa [lv_args, cat_rv, cat_wv, cat_sv, cat_i, cat_l, cat_a] using hl
  generalize hH : s.heap = H at S ⊢
  generalize hlo : ([] : List Loc) = locs at S ⊢
  clear hH hlo
  unfold fX13_raise at hf
  obtain ⟨hth, hf⟩ := gd_some hf
  refine g_aload_n X (or_rv _) dX13_raise_0 rfl (lv_at hl 0 rfl) ?_
  refine g_gI X S foX13_388 rfl dX13_raise_1 hf (fun v1 hf => ?_)
  refine lv_if_eq (tgt := 8) X.1 X.2.1 dX13_raise_4 (by decide) (fun c2 => ?_) (fun c2 => ?_)
  · replace hf := (if_pos c2).symm.trans hf
    refine g_aload_n X (or_rv _) dX13_raise_8 rfl (lv_at hl 0 rfl) ?_
    refine lv_iload_n X.1 X.2.1 dX13_raise_9 rfl (lv_at hl 1 rfl) ?_
    refine g_pI X S fpX13_388 (Or.inl rfl) dX13_raise_10 hf (fun h H locs hm hf S => ?_)
    refine g_aload_n X (or_rv _) dX13_raise_13 rfl (lv_at hl 0 rfl) ?_
    refine lv_iload_n X.1 X.2.1 dX13_raise_14 rfl (lv_at hl 2 rfl) ?_
    refine g_pI X S fpX13_391 (Or.inl rfl) dX13_raise_15 hf (fun h H locs hm hf S => ?_)
    refine g_aload_n X (or_rv _) dX13_raise_18 rfl (lv_at hl 0 rfl) ?_
    refine lv_iload_n X.1 X.2.1 dX13_raise_19 rfl (lv_at hl 2 rfl) ?_
    refine lv_if_ne (tgt := 30) X.1 X.2.1 dX13_raise_20 (by decide) (fun c3 => ?_) (fun c3 => ?_)
    · replace hf := (if_neg c3).symm.trans hf
      refine g_aload_n X (or_rv _) dX13_raise_30 rfl (lv_at hl 0 rfl) ?_
      refine g_gI X S foX13_397 rfl dX13_raise_31 hf (fun v4 hf => ?_)
      exact wfX13_raise_34 X hr hlk hnm _ _ _ _ _ _ _ _ (lv_sub hl [0, 2] rfl) S hf
    · replace hf := (if_pos c3).symm.trans hf
      refine g_aload_n X (or_rv _) dX13_raise_23 rfl (lv_at hl 0 rfl) ?_
      refine g_gI X S foX13_394 rfl dX13_raise_24 hf (fun v5 hf => ?_)
      refine lv_goto (tgt := 34) X.1 X.2.1 dX13_raise_27 (by decide) ?_
      exact wfX13_raise_34 X hr hlk hnm _ _ _ _ _ _ _ _ (lv_sub hl [0, 2] rfl) S hf
  · replace hf := (if_neg c2).symm.trans hf
    cases hf; exact g_rv X S hr hlk dX13_raise_7
def fX13_raiseHalf (a0 : Nat) (a1 : Int32) (a2 : Int32) (a3 : Int32) (h : Hp) : Option (Hp) := gd 11 a0 h (ob (gI 11 a0 38 h) fun v1 => if v1 = 0 then ob (fX13_raise a0 a1 a2 h) fun h => ob (pI 11 a0 42 a3 h) fun h => ob (fX13_halfAt a0 a3 h) fun v4 => ob (pI 11 a0 43 v4 h) fun h => some h else some h)
theorem tkX13_raiseHalf {a0 : Nat} {a1 : Int32} {a2 : Int32} {a3 : Int32} {h : Hp} {r9 : Hp} (e : fX13_raiseHalf a0 a1 a2 a3 h = some r9) : hK h a0 = 11 := by
  unfold fX13_raiseHalf at e
  exact (gd_some e).1
theorem cX13_raiseHalf_m (l : Launch) {E : EE} {A : Nat → Prop} {a0 : Nat} {a1 : Int32} {a2 : Int32} {a3 : Int32} {h : Hp} {h9 : Hp} (hf : fX13_raiseHalf a0 a1 a2 a3 h = some h9) : Met l yX13_raiseHalf (wsM yX13_raiseHalf cX13_raiseHalf 4 none) (rmm 9 0 0) (PcE E A h [rv a0, .int a1, .int a2, .int a3]) (Qv E A h9) 0 0 A := by
  refine met_of (by decide +kernel) (by simp [lg_sl, cat_rv, cat_wv, cat_sv, cat_i, cat_l, cat_a]) (fun p e s m args below meth c ls X hr hlk hnm S hl => ?_)
  have hl : lv_has ls 4 [(0, rv a0), (1, .int a1), (2, .int a2), (3, .int a3)] := by simpa [lv_args, cat_rv, cat_wv, cat_sv, cat_i, cat_l, cat_a] using hl
  generalize hH : s.heap = H at S ⊢
  generalize hlo : ([] : List Loc) = locs at S ⊢
  clear hH hlo
  unfold fX13_raiseHalf at hf
  obtain ⟨hth, hf⟩ := gd_some hf
  refine g_aload_n X (or_rv _) dX13_raiseHalf_0 rfl (lv_at hl 0 rfl) ?_
  refine g_gI X S foX13_388 rfl dX13_raiseHalf_1 hf (fun v1 hf => ?_)
  refine lv_if_eq (tgt := 8) X.1 X.2.1 dX13_raiseHalf_4 (by decide) (fun c2 => ?_) (fun c2 => ?_)
  · replace hf := (if_pos c2).symm.trans hf
    refine g_aload_n X (or_rv _) dX13_raiseHalf_8 rfl (lv_at hl 0 rfl) ?_
    refine lv_iload_n X.1 X.2.1 dX13_raiseHalf_9 rfl (lv_at hl 1 rfl) ?_
    refine lv_iload_n X.1 X.2.1 dX13_raiseHalf_10 rfl (lv_at hl 2 rfl) ?_
    obtain ⟨h, hc, hf⟩ := ob_some hf
    refine g_cv S (runV (As := [.int a1, .int a2]) (rest := []) X S coX13_415 (by decide) (cX13_raise_m l hc) (tkX13_raise hc) rfl hl.1 (by decide) rfl ⟨Nat.zero_le _, Nat.zero_le _⟩ dX13_raiseHalf_11) (fun H locs S => ?_)
    refine g_aload_n X (or_rv _) dX13_raiseHalf_14 rfl (lv_at hl 0 rfl) ?_
    refine lv_iload_n X.1 X.2.1 dX13_raiseHalf_15 rfl (lv_at hl 3 rfl) ?_
    refine g_pI X S fpX13_412 (Or.inl rfl) dX13_raiseHalf_16 hf (fun h H locs hm hf S => ?_)
    refine g_aload_n X (or_rv _) dX13_raiseHalf_19 rfl (lv_at hl 0 rfl) ?_
    refine g_aload_n X (or_rv _) dX13_raiseHalf_20 rfl (lv_at hl 0 rfl) ?_
    refine lv_iload_n X.1 X.2.1 dX13_raiseHalf_21 rfl (lv_at hl 3 rfl) ?_
    obtain ⟨v4, hc, hf⟩ := ob_some hf
    refine g_ci S (runV (As := [.int a3]) (rest := [rv a0]) X S coX13_374 (by decide) (cX13_halfAt_m l hc) (tkX13_halfAt hc) rfl hl.1 (by simp [cat_rv, cat_wv, cat_sv, cat_i, cat_l, cat_a]) rfl ⟨Nat.zero_le _, Nat.zero_le _⟩ dX13_raiseHalf_22) (fun H locs S => ?_)
    refine g_pI X S fpX13_418 (Or.inl rfl) dX13_raiseHalf_25 hf (fun h H locs hm hf S => ?_)
    cases hf; exact g_rv X S hr hlk dX13_raiseHalf_28
  · replace hf := (if_neg c2).symm.trans hf
    cases hf; exact g_rv X S hr hlk dX13_raiseHalf_7
def fX13_addressOf (a0 : Nat) (a1 : Int32) (a2 : Int32) (h : Hp) : Option (Int32) := gd 11 a0 h (lt ((2 * a1) + a2) fun z1 => ob (gR 11 a0 6 h) fun v2 => ob (aI v2 z1 h) fun v3 => ob (gR 11 a0 7 h) fun v4 => ob (aI v4 z1 h) fun v5 => if v5 = (-1) then some (v3 + 0) else ob (gR 11 a0 3 h) fun v7 => ob (gR 11 a0 7 h) fun v8 => ob (aI v8 z1 h) fun v9 => ob (aI v7 (256 + v9) h) fun v10 => some (v3 + v10))
theorem tkX13_addressOf {a0 : Nat} {a1 : Int32} {a2 : Int32} {h : Hp} {r9 : Int32} (e : fX13_addressOf a0 a1 a2 h = some r9) : hK h a0 = 11 := by
  unfold fX13_addressOf at e
  exact (gd_some e).1
theorem cX13_addressOf_m (l : Launch) {E : EE} {A : Nat → Prop} {a0 : Nat} {a1 : Int32} {a2 : Int32} {h : Hp} {r9 : Int32} (hf : fX13_addressOf a0 a1 a2 h = some r9) : Met l yX13_addressOf (wsM yX13_addressOf cX13_addressOf 4 (some .int)) (rmm 8 0 0) (PcE E A h [rv a0, .int a1, .int a2]) (Qi E A h r9) 0 0 A := by
  refine met_of (by decide +kernel) (by simp [lg_sl, cat_rv, cat_wv, cat_sv, cat_i, cat_l, cat_a]) (fun p e s m args below meth c ls X hr hlk hnm S hl => ?_)
  have hl : lv_has ls 4 [(0, rv a0), (1, .int a1), (2, .int a2)] := by simpa [lv_args, cat_rv, cat_wv, cat_sv, cat_i, cat_l, cat_a] using hl
  generalize hH : s.heap = H at S ⊢
  generalize hlo : ([] : List Loc) = locs at S ⊢
  clear hH hlo
  unfold fX13_addressOf at hf
  obtain ⟨hth, hf⟩ := gd_some hf
  refine lv_iconst (v := 2) X.1 X.2.1 dX13_addressOf_0 (by decide) ?_
  refine lv_iload_n X.1 X.2.1 dX13_addressOf_1 rfl (lv_at hl 1 rfl) ?_
  refine lv_imul X.1 X.2.1 dX13_addressOf_2 ?_
  refine lv_iload_n X.1 X.2.1 dX13_addressOf_3 rfl (lv_at hl 2 rfl) ?_
  refine lv_iadd X.1 X.2.1 dX13_addressOf_4 ?_
  refine g_lti hf (fun z1 hf => ?_)
  refine lv_istore_n (i := 3) (lv' := [(3, .int z1), (0, rv a0), (1, .int a1), (2, .int a2)]) X.1 X.2.1 dX13_addressOf_5 rfl hl (by decide) rfl (fun ls hl => ?_)
  refine g_aload_n X (or_rv _) dX13_addressOf_6 rfl (lv_at hl 1 rfl) ?_
  refine g_gR X S foX13_86 dX13_addressOf_7 hf (fun v2 hf => ?_)
  refine lv_iload_n X.1 X.2.1 dX13_addressOf_10 rfl (lv_at hl 0 rfl) ?_
  refine g_aI X S dX13_addressOf_11 hf (fun v3 hf => ?_)
  refine g_aload_n X (or_rv _) dX13_addressOf_12 rfl (lv_at hl 1 rfl) ?_
  refine g_gR X S foX13_89 dX13_addressOf_13 hf (fun v4 hf => ?_)
  refine lv_iload_n X.1 X.2.1 dX13_addressOf_16 rfl (lv_at hl 0 rfl) ?_
  refine g_aI X S dX13_addressOf_17 hf (fun v5 hf => ?_)
  refine lv_iconst (v := (-1)) X.1 X.2.1 dX13_addressOf_18 (by decide) ?_
  refine lv_icmp_ne (tgt := 26) X.1 X.2.1 dX13_addressOf_19 (by decide) (fun c6 => ?_) (fun c6 => ?_)
  · replace hf := (if_neg c6).symm.trans hf
    refine g_aload_n X (or_rv _) dX13_addressOf_26 rfl (lv_at hl 1 rfl) ?_
    refine g_gR X S foX13_76 dX13_addressOf_27 hf (fun v7 hf => ?_)
    refine lv_sipush (v := 256) X.1 X.2.1 dX13_addressOf_30 (by decide) ?_
    refine g_aload_n X (or_rv _) dX13_addressOf_33 rfl (lv_at hl 1 rfl) ?_
    refine g_gR X S foX13_89 dX13_addressOf_34 hf (fun v8 hf => ?_)
    refine lv_iload_n X.1 X.2.1 dX13_addressOf_37 rfl (lv_at hl 0 rfl) ?_
    refine g_aI X S dX13_addressOf_38 hf (fun v9 hf => ?_)
    refine lv_iadd X.1 X.2.1 dX13_addressOf_39 ?_
    refine g_aI X S dX13_addressOf_40 hf (fun v10 hf => ?_)
    refine lv_iadd X.1 X.2.1 dX13_addressOf_41 ?_
    cases hf; exact g_ri X S hr hlk dX13_addressOf_42
  · replace hf := (if_pos c6).symm.trans hf
    refine lv_iconst (v := 0) X.1 X.2.1 dX13_addressOf_22 (by decide) ?_
    refine lv_goto (tgt := 41) X.1 X.2.1 dX13_addressOf_23 (by decide) ?_
    refine lv_iadd X.1 X.2.1 dX13_addressOf_41 ?_
    cases hf; exact g_ri X S hr hlk dX13_addressOf_42
end GM
