section GM
variable {p : Program} {l : Launch} {e : Env} {R : Room} {s : State} {m : MethodId} {args : Array Value} {below : List Frame} {meth : Method} {c : Code} {E : EE} {A : Nat → Prop}
def fX13_beginNow_31 (k2 : Nat → Int32 → Hp → Option (Hp)) (x0 : Nat) (x1 : Int32) (y0 : Int32) (y1 : Int32) (y2 : Nat) (h : Hp) : Option (Hp) := ob (qI y2 y1 y0 h) fun h => lt (x1 + 1) fun z1 => k2 x0 z1 h
theorem wfX13_beginNow_31 {k2 : Nat → Int32 → Hp → Option (Hp)} {h9 : Hp} (X : Cx p E A 8 R s m args c cX13_beginNow yX13_beginNow.cls 2) (hr : meth.sig.returnType = none) (hlk : meth.locks = false) (hnm : meth.name = yX13_beginNow.name) (hk2 : ∀ (x0 : Nat) (x1 : Int32) (h : Hp) (H : Heap) (locs : List Loc) (ls : Array Slot), lv_has ls 2 [(0, rv x0), (1, .int x1)] → St E A s h H locs → k2 x0 x1 h = some h9 → W p l e R s m args below meth c H locs 0 0 (MQ below (Qv E A h9) args s 0 0 A) (F0 m 2 ls [])) :
    ∀ (x0 : Nat) (x1 : Int32) (y0 : Int32) (y1 : Int32) (y2 : Nat) (h : Hp) (H : Heap) (locs : List Loc) (ls : Array Slot), lv_has ls 2 [(0, rv x0), (1, .int x1)] → St E A s h H locs → fX13_beginNow_31 k2 x0 x1 y0 y1 y2 h = some h9 → W p l e R s m args below meth c H locs 0 0 (MQ below (Qv E A h9) args s 0 0 A) (F0 m 31 ls [.int y0, .int y1, rv y2]) := by
  intro x0 x1 y0 y1 y2 h H locs ls hl S hf
  unfold fX13_beginNow_31 at hf
  refine g_qI X S dX13_beginNow_31 hf (fun h H locs hm hf S => ?_)
  obtain ⟨z1, ez1, hf⟩ := lt_some hf
  refine lv_iinc (v := z1) (lv' := [(1, .int z1), (0, rv x0)]) X.1 X.2.1 dX13_beginNow_32 hl (k := 1) rfl (by rw [← ez1]; rfl) (by decide) (by simp [List.filter, cat_rv, cat_wv, cat_sv]) (fun ls hl => ?_)
  refine lv_goto (tgt := 2) X.1 X.2.1 dX13_beginNow_35 (by decide) ?_
  exact hk2 _ _ _ _ _ _ (lv_sub hl [1, 0] rfl) S hf
def fX13_beginNow_91 (y0 : Int32) (y1 : Int32) (y2 : Nat) (h : Hp) : Option (Hp) := ob (qI y2 y1 y0 h) fun h => some h
theorem wfX13_beginNow_91 {h9 : Hp} (X : Cx p E A 8 R s m args c cX13_beginNow yX13_beginNow.cls 2) (hr : meth.sig.returnType = none) (hlk : meth.locks = false) (hnm : meth.name = yX13_beginNow.name) :
    ∀ (y0 : Int32) (y1 : Int32) (y2 : Nat) (h : Hp) (H : Heap) (locs : List Loc) (ls : Array Slot), lv_has ls 2 [] → St E A s h H locs → fX13_beginNow_91 y0 y1 y2 h = some h9 → W p l e R s m args below meth c H locs 0 0 (MQ below (Qv E A h9) args s 0 0 A) (F0 m 91 ls [.int y0, .int y1, rv y2]) := by
  intro y0 y1 y2 h H locs ls hl S hf
  unfold fX13_beginNow_91 at hf
  refine g_qI X S dX13_beginNow_91 hf (fun h H locs hm hf S => ?_)
  cases hf; exact g_rv X S hr hlk dX13_beginNow_92
def fX13_beginNow_49 (k49 : Nat → Int32 → Hp → Option (Hp)) (x0 : Nat) (x1 : Int32) (h : Hp) : Option (Hp) := if 8 < x1 then ob (gR 11 x0 3 h) fun v2 => ob (gI 11 x0 13 h) fun v3 => if v3 = 0 then fX13_beginNow_91 1 276 v2 h else fX13_beginNow_91 0 276 v2 h else ob (gR 11 x0 3 h) fun v5 => ob (qI v5 (267 + x1) (-1) h) fun h => lt (x1 + 1) fun z6 => k49 x0 z6 h
theorem wfX13_beginNow_49 {k49 : Nat → Int32 → Hp → Option (Hp)} {h9 : Hp} (X : Cx p E A 8 R s m args c cX13_beginNow yX13_beginNow.cls 2) (hr : meth.sig.returnType = none) (hlk : meth.locks = false) (hnm : meth.name = yX13_beginNow.name) (hk49 : ∀ (x0 : Nat) (x1 : Int32) (h : Hp) (H : Heap) (locs : List Loc) (ls : Array Slot), lv_has ls 2 [(0, rv x0), (1, .int x1)] → St E A s h H locs → k49 x0 x1 h = some h9 → W p l e R s m args below meth c H locs 0 0 (MQ below (Qv E A h9) args s 0 0 A) (F0 m 49 ls [])) :
    ∀ (x0 : Nat) (x1 : Int32) (h : Hp) (H : Heap) (locs : List Loc) (ls : Array Slot), lv_has ls 2 [(0, rv x0), (1, .int x1)] → St E A s h H locs → fX13_beginNow_49 k49 x0 x1 h = some h9 → W p l e R s m args below meth c H locs 0 0 (MQ below (Qv E A h9) args s 0 0 A) (F0 m 49 ls []) := by
  intro x0 x1 h H locs ls hl S hf
  unfold fX13_beginNow_49 at hf
  refine lv_iload_n X.1 X.2.1 dX13_beginNow_49 rfl (lv_at hl 1 rfl) ?_
  refine lv_bipush (v := 8) X.1 X.2.1 dX13_beginNow_50 (by decide) ?_
  refine lv_icmp_gt (tgt := 72) X.1 X.2.1 dX13_beginNow_52 (by decide) (fun c1 => ?_) (fun c1 => ?_)
  · replace hf := (if_pos c1).symm.trans hf
    refine g_aload_n X (or_rv _) dX13_beginNow_72 rfl (lv_at hl 0 rfl) ?_
    refine g_gR X S foX13_76 dX13_beginNow_73 hf (fun v2 hf => ?_)
    refine lv_sipush (v := 276) X.1 X.2.1 dX13_beginNow_76 (by decide) ?_
    refine g_aload_n X (or_rv _) dX13_beginNow_79 rfl (lv_at hl 0 rfl) ?_
    refine g_gI X S foX13_345 rfl dX13_beginNow_80 hf (fun v3 hf => ?_)
    refine lv_if_ne (tgt := 90) X.1 X.2.1 dX13_beginNow_83 (by decide) (fun c4 => ?_) (fun c4 => ?_)
    · replace hf := (if_neg c4).symm.trans hf
      refine lv_iconst (v := 0) X.1 X.2.1 dX13_beginNow_90 (by decide) ?_
      exact wfX13_beginNow_91 X hr hlk hnm _ _ _ _ _ _ _ (lv_sub hl [] rfl) S hf
    · replace hf := (if_pos c4).symm.trans hf
      refine lv_iconst (v := 1) X.1 X.2.1 dX13_beginNow_86 (by decide) ?_
      refine lv_goto (tgt := 91) X.1 X.2.1 dX13_beginNow_87 (by decide) ?_
      exact wfX13_beginNow_91 X hr hlk hnm _ _ _ _ _ _ _ (lv_sub hl [] rfl) S hf
  · replace hf := (if_neg c1).symm.trans hf
    refine g_aload_n X (or_rv _) dX13_beginNow_55 rfl (lv_at hl 0 rfl) ?_
    refine g_gR X S foX13_76 dX13_beginNow_56 hf (fun v5 hf => ?_)
    refine lv_sipush (v := 267) X.1 X.2.1 dX13_beginNow_59 (by decide) ?_
    refine lv_iload_n X.1 X.2.1 dX13_beginNow_62 rfl (lv_at hl 1 rfl) ?_
    refine lv_iadd X.1 X.2.1 dX13_beginNow_63 ?_
    refine lv_iconst (v := (-1)) X.1 X.2.1 dX13_beginNow_64 (by decide) ?_
    refine g_qI X S dX13_beginNow_65 hf (fun h H locs hm hf S => ?_)
    obtain ⟨z6, ez6, hf⟩ := lt_some hf
    refine lv_iinc (v := z6) (lv' := [(1, .int z6), (0, rv x0)]) X.1 X.2.1 dX13_beginNow_66 hl (k := 1) rfl (by rw [← ez6]; rfl) (by decide) (by simp [List.filter, cat_rv, cat_wv, cat_sv]) (fun ls hl => ?_)
    refine lv_goto (tgt := 49) X.1 X.2.1 dX13_beginNow_69 (by decide) ?_
    exact hk49 _ _ _ _ _ _ (lv_sub hl [1, 0] rfl) S hf
theorem wfX13_beginNow_49_l {h9 : Hp} (X : Cx p E A 8 R s m args c cX13_beginNow yX13_beginNow.cls 2) (hr : meth.sig.returnType = none) (hlk : meth.locks = false) (hnm : meth.name = yX13_beginNow.name) :
    ∀ (n : Nat) (x0 : Nat) (x1 : Int32) (h : Hp) (H : Heap) (locs : List Loc) (ls : Array Slot), lv_has ls 2 [(0, rv x0), (1, .int x1)] → St E A s h H locs → lp (fun _ _ _ => none) (fX13_beginNow_49) n x0 x1 h = some h9 → W p l e R s m args below meth c H locs 0 0 (MQ below (Qv E A h9) args s 0 0 A) (F0 m 49 ls []) := by
  intro n
  induction n with
  | zero =>
    intro x0 x1 h H locs ls hl S hf
    exact nomatch hf
  | succ n ih =>
    intro x0 x1 h H locs ls hl S hf
    exact wfX13_beginNow_49 X hr hlk hnm ih x0 x1 h H locs ls hl S hf
def fX13_beginNow_2 (k2 : Nat → Int32 → Hp → Option (Hp)) (x0 : Nat) (x1 : Int32) (h : Hp) : Option (Hp) := if 277 ≤ x1 then ob (gR 11 x0 3 h) fun v2 => ob (qI v2 266 (-1) h) fun h => lp (fun _ _ _ => none) (fX13_beginNow_49) FU x0 0 h else ob (gR 11 x0 3 h) fun v3 => if 256 ≤ x1 then fX13_beginNow_31 k2 x0 x1 0 x1 v3 h else ob (gR 11 x0 12 h) fun v5 => ob (aI v5 x1 h) fun v6 => fX13_beginNow_31 k2 x0 x1 v6 x1 v3 h
theorem wfX13_beginNow_2 {k2 : Nat → Int32 → Hp → Option (Hp)} {h9 : Hp} (X : Cx p E A 8 R s m args c cX13_beginNow yX13_beginNow.cls 2) (hr : meth.sig.returnType = none) (hlk : meth.locks = false) (hnm : meth.name = yX13_beginNow.name) (hk2 : ∀ (x0 : Nat) (x1 : Int32) (h : Hp) (H : Heap) (locs : List Loc) (ls : Array Slot), lv_has ls 2 [(0, rv x0), (1, .int x1)] → St E A s h H locs → k2 x0 x1 h = some h9 → W p l e R s m args below meth c H locs 0 0 (MQ below (Qv E A h9) args s 0 0 A) (F0 m 2 ls [])) :
    ∀ (x0 : Nat) (x1 : Int32) (h : Hp) (H : Heap) (locs : List Loc) (ls : Array Slot), lv_has ls 2 [(0, rv x0), (1, .int x1)] → St E A s h H locs → fX13_beginNow_2 k2 x0 x1 h = some h9 → W p l e R s m args below meth c H locs 0 0 (MQ below (Qv E A h9) args s 0 0 A) (F0 m 2 ls []) := by
  intro x0 x1 h H locs ls hl S hf
  unfold fX13_beginNow_2 at hf
  refine lv_iload_n X.1 X.2.1 dX13_beginNow_2 rfl (lv_at hl 1 rfl) ?_
  refine lv_sipush (v := 277) X.1 X.2.1 dX13_beginNow_3 (by decide) ?_
  refine lv_icmp_ge (tgt := 38) X.1 X.2.1 dX13_beginNow_6 (by decide) (fun c1 => ?_) (fun c1 => ?_)
  · replace hf := (if_pos c1).symm.trans hf
    refine g_aload_n X (or_rv _) dX13_beginNow_38 rfl (lv_at hl 0 rfl) ?_
    refine g_gR X S foX13_76 dX13_beginNow_39 hf (fun v2 hf => ?_)
    refine lv_sipush (v := 266) X.1 X.2.1 dX13_beginNow_42 (by decide) ?_
    refine lv_iconst (v := (-1)) X.1 X.2.1 dX13_beginNow_45 (by decide) ?_
    refine g_qI X S dX13_beginNow_46 hf (fun h H locs hm hf S => ?_)
    refine lv_iconst (v := 0) X.1 X.2.1 dX13_beginNow_47 (by decide) ?_
    refine lv_istore_n (i := 1) (lv' := [(1, .int 0), (0, rv x0)]) X.1 X.2.1 dX13_beginNow_48 rfl hl (by decide) (by simp [List.filter, cat_rv, cat_wv, cat_sv]) (fun ls hl => ?_)
    exact wfX13_beginNow_49_l X hr hlk hnm FU _ _ _ _ _ _ (lv_sub hl [1, 0] rfl) S hf
  · replace hf := (if_neg c1).symm.trans hf
    refine g_aload_n X (or_rv _) dX13_beginNow_9 rfl (lv_at hl 0 rfl) ?_
    refine g_gR X S foX13_76 dX13_beginNow_10 hf (fun v3 hf => ?_)
    refine lv_iload_n X.1 X.2.1 dX13_beginNow_13 rfl (lv_at hl 1 rfl) ?_
    refine lv_iload_n X.1 X.2.1 dX13_beginNow_14 rfl (lv_at hl 1 rfl) ?_
    refine lv_sipush (v := 256) X.1 X.2.1 dX13_beginNow_15 (by decide) ?_
    refine lv_icmp_ge (tgt := 30) X.1 X.2.1 dX13_beginNow_18 (by decide) (fun c4 => ?_) (fun c4 => ?_)
    · replace hf := (if_pos c4).symm.trans hf
      refine lv_iconst (v := 0) X.1 X.2.1 dX13_beginNow_30 (by decide) ?_
      exact wfX13_beginNow_31 X hr hlk hnm hk2 _ _ _ _ _ _ _ _ _ hl S hf
    · replace hf := (if_neg c4).symm.trans hf
      refine g_aload_n X (or_rv _) dX13_beginNow_21 rfl (lv_at hl 0 rfl) ?_
      refine g_gR X S foX13_104 dX13_beginNow_22 hf (fun v5 hf => ?_)
      refine lv_iload_n X.1 X.2.1 dX13_beginNow_25 rfl (lv_at hl 1 rfl) ?_
      refine g_aI X S dX13_beginNow_26 hf (fun v6 hf => ?_)
      refine lv_goto (tgt := 31) X.1 X.2.1 dX13_beginNow_27 (by decide) ?_
      exact wfX13_beginNow_31 X hr hlk hnm hk2 _ _ _ _ _ _ _ _ _ hl S hf
theorem wfX13_beginNow_2_l {h9 : Hp} (X : Cx p E A 8 R s m args c cX13_beginNow yX13_beginNow.cls 2) (hr : meth.sig.returnType = none) (hlk : meth.locks = false) (hnm : meth.name = yX13_beginNow.name) :
    ∀ (n : Nat) (x0 : Nat) (x1 : Int32) (h : Hp) (H : Heap) (locs : List Loc) (ls : Array Slot), lv_has ls 2 [(0, rv x0), (1, .int x1)] → St E A s h H locs → lp (fun _ _ _ => none) (fX13_beginNow_2) n x0 x1 h = some h9 → W p l e R s m args below meth c H locs 0 0 (MQ below (Qv E A h9) args s 0 0 A) (F0 m 2 ls []) := by
  intro n
  induction n with
  | zero =>
    intro x0 x1 h H locs ls hl S hf
    exact nomatch hf
  | succ n ih =>
    intro x0 x1 h H locs ls hl S hf
    exact wfX13_beginNow_2 X hr hlk hnm ih x0 x1 h H locs ls hl S hf
def fX13_beginNow (a0 : Nat) (h : Hp) : Option (Hp) := gd 11 a0 h (lp (fun _ _ _ => none) (fX13_beginNow_2) FU a0 0 h)
theorem tkX13_beginNow {a0 : Nat} {h : Hp} {r9 : Hp} (e : fX13_beginNow a0 h = some r9) : hK h a0 = 11 := by
  unfold fX13_beginNow at e
  exact (gd_some e).1
theorem cX13_beginNow_m (l : Launch) {E : EE} {A : Nat → Prop} {a0 : Nat} {h : Hp} {h9 : Hp} (hf : fX13_beginNow a0 h = some h9) : Met l yX13_beginNow (wsM yX13_beginNow cX13_beginNow 2 none) (rmm 8 0 0) (PcE E A h [rv a0]) (Qv E A h9) 0 0 A := by
  refine met_of (by decide +kernel) (by simp [lg_sl, cat_rv, cat_wv, cat_sv, cat_i, cat_l, cat_a]) (fun p e s m args below meth c ls X hr hlk hnm S hl => ?_)
  have hl : lv_has ls 2 [(0, rv a0)] := by simpa [lv_args, cat_rv, cat_wv, cat_sv, cat_i, cat_l, cat_a] using hl
  generalize hH : s.heap = H at S ⊢
  generalize hlo : ([] : List Loc) = locs at S ⊢
  clear hH hlo
  unfold fX13_beginNow at hf
  obtain ⟨hth, hf⟩ := gd_some hf
  refine lv_iconst (v := 0) X.1 X.2.1 dX13_beginNow_0 (by decide) ?_
  refine lv_istore_n (i := 1) (lv' := [(1, .int 0), (0, rv a0)]) X.1 X.2.1 dX13_beginNow_1 rfl hl (by decide) (by simp [List.filter, cat_rv, cat_wv, cat_sv]) (fun ls hl => ?_)
  exact wfX13_beginNow_2_l X hr hlk hnm FU _ _ _ _ _ _ (lv_sub hl [1, 0] rfl) S hf
def fX13_init (a0 : Nat) (h : Hp) : Option (Hp) := gd 11 a0 h (ob2 (newA 105 4 25 h) fun p1 h => ob (qS p1 0 41 h) fun h => ob (qS p1 1 42 h) fun h => ob (qS p1 2 43 h) fun h => ob (qS p1 3 44 h) fun h => ob (qS p1 4 45 h) fun h => ob (qS p1 5 46 h) fun h => ob (qS p1 6 47 h) fun h => ob (qS p1 7 48 h) fun h => ob (qS p1 8 49 h) fun h => ob (qS p1 9 50 h) fun h => ob (qS p1 10 51 h) fun h => ob (qS p1 11 52 h) fun h => ob (qS p1 12 53 h) fun h => ob (qS p1 13 54 h) fun h => ob (qS p1 14 55 h) fun h => ob (qS p1 15 56 h) fun h => ob (qS p1 16 57 h) fun h => ob (qS p1 17 58 h) fun h => ob (qS p1 18 59 h) fun h => ob (qS p1 19 60 h) fun h => ob (qS p1 20 61 h) fun h => ob (qS p1 21 62 h) fun h => ob (qS p1 22 63 h) fun h => ob (qS p1 23 64 h) fun h => ob (qS p1 24 65 h) fun h => ob (pR 11 a0 0 p1 h) fun h => ob2 (newA 105 4 4 h) fun p2 h => ob (qS p2 0 66 h) fun h => ob (qS p2 1 67 h) fun h => ob (qS p2 2 68 h) fun h => ob (qS p2 3 69 h) fun h => ob (pR 11 a0 1 p2 h) fun h => ob2 (newA 101 4 414 h) fun p3 h => ob (pR 11 a0 3 p3 h) fun h => ob2 (newA 101 4 3 h) fun p4 h => ob (pR 11 a0 4 p4 h) fun h => ob2 (newA 101 4 120 h) fun p5 h => ob (pR 11 a0 5 p5 h) fun h => ob2 (newA 101 4 240 h) fun p6 h => ob (pR 11 a0 6 p6 h) fun h => ob2 (newA 101 4 240 h) fun p7 h => ob (pR 11 a0 7 p7 h) fun h => ob2 (newA 101 4 240 h) fun p8 h => ob (pR 11 a0 8 p8 h) fun h => ob2 (newA 101 4 120 h) fun p9 h => ob (pR 11 a0 9 p9 h) fun h => ob2 (newA 101 4 120 h) fun p10 h => ob (pR 11 a0 10 p10 h) fun h => ob2 (newA 101 4 120 h) fun p11 h => ob (pR 11 a0 11 p11 h) fun h => ob2 (newA 101 4 512 h) fun p12 h => ob (pR 11 a0 12 p12 h) fun h => ob2 (newA 101 4 700 h) fun p13 h => ob (pR 11 a0 15 p13 h) fun h => ob (pI 11 a0 25 (-1) h) fun h => ob2 (newA 101 4 61 h) fun p14 h => ob (pR 11 a0 26 p14 h) fun h => ob2 (newA 101 4 61 h) fun p15 h => ob (pR 11 a0 27 p15 h) fun h => ob2 (newA 101 4 61 h) fun p16 h => ob (pR 11 a0 28 p16 h) fun h => ob2 (newA 101 4 61 h) fun p17 h => ob (pR 11 a0 29 p17 h) fun h => ob2 (newA 102 8 8 h) fun p18 h => ob (pR 11 a0 30 p18 h) fun h => ob2 (newA 102 8 8 h) fun p19 h => ob (pR 11 a0 31 p19 h) fun h => ob2 (newA 102 8 8 h) fun p20 h => ob (pR 11 a0 32 p20 h) fun h => ob2 (newA 102 8 8 h) fun p21 h => ob (pR 11 a0 33 p21 h) fun h => ob2 (newA 101 4 64 h) fun p22 h => ob (pR 11 a0 45 p22 h) fun h => ob2 (newA 102 8 132 h) fun p23 h => ob (pR 11 a0 52 p23 h) fun h => ob2 (newA 101 4 32 h) fun p24 h => ob (pR 11 a0 55 p24 h) fun h => ob2 (newA 101 4 16560 h) fun p25 h => ob (pR 11 a0 60 p25 h) fun h => ob2 (newA 101 4 414 h) fun p26 h => ob (pR 11 a0 61 p26 h) fun h => ob2 (newA 101 4 414 h) fun p27 h => ob (pR 11 a0 62 p27 h) fun h => ob2 (newA 101 4 8 h) fun p28 h => ob (pR 11 a0 63 p28 h) fun h => ob2 (newA 101 4 8 h) fun p29 h => ob (pR 11 a0 64 p29 h) fun h => ob2 (newA 101 4 8 h) fun p30 h => ob (pR 11 a0 65 p30 h) fun h => ob2 (newA 101 4 414 h) fun p31 h => ob (pR 11 a0 70 p31 h) fun h => ob2 (newA 101 4 16560 h) fun p32 h => ob (pR 11 a0 71 p32 h) fun h => ob2 (newA 101 4 8 h) fun p33 h => ob (pR 11 a0 72 p33 h) fun h => ob2 (newA 101 4 8 h) fun p34 h => ob (pR 11 a0 73 p34 h) fun h => ob2 (newA 101 4 8 h) fun p35 h => ob (pR 11 a0 74 p35 h) fun h => ob2 (newA 101 4 3 h) fun p36 h => ob (pR 11 a0 75 p36 h) fun h => obk h (fX13_beginNow a0 h) fun h => some h)
theorem tkX13_init {a0 : Nat} {h : Hp} {r9 : Hp} (e : fX13_init a0 h = some r9) : hK h a0 = 11 := by
  unfold fX13_init at e
  exact (gd_some e).1
theorem cX13_init_m (l : Launch) {E : EE} {A : Nat → Prop} {a0 : Nat} {h : Hp} {h9 : Hp} {mc ms : Nat} (hmc : mc + hX h = hC h) (hms : ms + hU h = hZ h) (hf : fX13_init a0 h = some h9) : Met l yX13_init (wsM yX13_init cX13_init 1 none) (rmm 9 mc ms) (PcF E A h [rv a0]) (QG (Qv E A h9) h h9) mc ms A := by
  refine met_ofA (by decide +kernel) (by simp [lg_sl, cat_rv, cat_wv, cat_sv, cat_i, cat_l, cat_a]) hmc hms (fun p e s m args below meth c ls X hr hlk hnm S AI hl => ?_)
  have hl : lv_has ls 1 [(0, rv a0)] := by simpa [lv_args, cat_rv, cat_wv, cat_sv, cat_i, cat_l, cat_a] using hl
  generalize hH : s.heap = H at S ⊢
  generalize hlo : ([] : List Loc) = locs at S ⊢
  clear hH hlo
  unfold fX13_init at hf
  obtain ⟨hth, hf⟩ := gd_some hf
  refine g_aload_n X (or_rv _) dX13_init_0 rfl (lv_at hl 0 rfl) ?_
  refine g_oi (rest := []) X S hl.1 oiX13_1 dX13_init_1 (by decide) (by decide) (dom_ne S.1.1 hth (by decide)) ?_
  refine g_aload_n X (or_rv _) dX13_init_4 rfl (lv_at hl 0 rfl) ?_
  refine lv_bipush (v := 25) X.1 X.2.1 dX13_init_5 (by decide) ?_
  refine g_newQ (t0 := 4) X S AI ⟨by decide, rfl⟩ (Kon.ao105 X.2.2.2.2.2.2.2.1) clX13_7 dX13_init_7 hf (fun p1 h H cells slots hf S AI => ?_)
  refine lv_dup X.1 X.2.1 dX13_init_10 (cat_rv _) ?_
  refine lv_iconst (v := 0) X.1 X.2.1 dX13_init_11 (by decide) ?_
  refine g_lds (i := 40) X S ⟨by decide, by decide, rfl⟩ dX13_init_12 ?_
  refine g_qS X S dX13_init_14 hf (fun h H locs hm hf S => ?_)
  replace AI := AI.sm hm
  refine lv_dup X.1 X.2.1 dX13_init_15 (cat_rv _) ?_
  refine lv_iconst (v := 1) X.1 X.2.1 dX13_init_16 (by decide) ?_
  refine g_lds (i := 41) X S ⟨by decide, by decide, rfl⟩ dX13_init_17 ?_
  refine g_qS X S dX13_init_19 hf (fun h H locs hm hf S => ?_)
  replace AI := AI.sm hm
  refine lv_dup X.1 X.2.1 dX13_init_20 (cat_rv _) ?_
  refine lv_iconst (v := 2) X.1 X.2.1 dX13_init_21 (by decide) ?_
  refine g_lds (i := 42) X S ⟨by decide, by decide, rfl⟩ dX13_init_22 ?_
  refine g_qS X S dX13_init_24 hf (fun h H locs hm hf S => ?_)
  replace AI := AI.sm hm
  refine lv_dup X.1 X.2.1 dX13_init_25 (cat_rv _) ?_
  refine lv_iconst (v := 3) X.1 X.2.1 dX13_init_26 (by decide) ?_
  refine g_lds (i := 43) X S ⟨by decide, by decide, rfl⟩ dX13_init_27 ?_
  refine g_qS X S dX13_init_29 hf (fun h H locs hm hf S => ?_)
  replace AI := AI.sm hm
  refine lv_dup X.1 X.2.1 dX13_init_30 (cat_rv _) ?_
  refine lv_iconst (v := 4) X.1 X.2.1 dX13_init_31 (by decide) ?_
  refine g_lds (i := 44) X S ⟨by decide, by decide, rfl⟩ dX13_init_32 ?_
  refine g_qS X S dX13_init_34 hf (fun h H locs hm hf S => ?_)
  replace AI := AI.sm hm
  refine lv_dup X.1 X.2.1 dX13_init_35 (cat_rv _) ?_
  refine lv_iconst (v := 5) X.1 X.2.1 dX13_init_36 (by decide) ?_
  refine g_lds (i := 45) X S ⟨by decide, by decide, rfl⟩ dX13_init_37 ?_
  refine g_qS X S dX13_init_39 hf (fun h H locs hm hf S => ?_)
  replace AI := AI.sm hm
  refine lv_dup X.1 X.2.1 dX13_init_40 (cat_rv _) ?_
  refine lv_bipush (v := 6) X.1 X.2.1 dX13_init_41 (by decide) ?_
  refine g_lds (i := 46) X S ⟨by decide, by decide, rfl⟩ dX13_init_43 ?_
  refine g_qS X S dX13_init_45 hf (fun h H locs hm hf S => ?_)
  replace AI := AI.sm hm
  refine lv_dup X.1 X.2.1 dX13_init_46 (cat_rv _) ?_
  refine lv_bipush (v := 7) X.1 X.2.1 dX13_init_47 (by decide) ?_
  refine g_lds (i := 47) X S ⟨by decide, by decide, rfl⟩ dX13_init_49 ?_
  refine g_qS X S dX13_init_51 hf (fun h H locs hm hf S => ?_)
  replace AI := AI.sm hm
  refine lv_dup X.1 X.2.1 dX13_init_52 (cat_rv _) ?_
  refine lv_bipush (v := 8) X.1 X.2.1 dX13_init_53 (by decide) ?_
  refine g_lds (i := 48) X S ⟨by decide, by decide, rfl⟩ dX13_init_55 ?_
  refine g_qS X S dX13_init_57 hf (fun h H locs hm hf S => ?_)
  replace AI := AI.sm hm
  refine lv_dup X.1 X.2.1 dX13_init_58 (cat_rv _) ?_
  refine lv_bipush (v := 9) X.1 X.2.1 dX13_init_59 (by decide) ?_
  refine g_lds (i := 49) X S ⟨by decide, by decide, rfl⟩ dX13_init_61 ?_
  refine g_qS X S dX13_init_63 hf (fun h H locs hm hf S => ?_)
  replace AI := AI.sm hm
  refine lv_dup X.1 X.2.1 dX13_init_64 (cat_rv _) ?_
  refine lv_bipush (v := 10) X.1 X.2.1 dX13_init_65 (by decide) ?_
  refine g_lds (i := 50) X S ⟨by decide, by decide, rfl⟩ dX13_init_67 ?_
  refine g_qS X S dX13_init_69 hf (fun h H locs hm hf S => ?_)
  replace AI := AI.sm hm
  refine lv_dup X.1 X.2.1 dX13_init_70 (cat_rv _) ?_
  refine lv_bipush (v := 11) X.1 X.2.1 dX13_init_71 (by decide) ?_
  refine g_lds (i := 51) X S ⟨by decide, by decide, rfl⟩ dX13_init_73 ?_
  refine g_qS X S dX13_init_75 hf (fun h H locs hm hf S => ?_)
  replace AI := AI.sm hm
  refine lv_dup X.1 X.2.1 dX13_init_76 (cat_rv _) ?_
  refine lv_bipush (v := 12) X.1 X.2.1 dX13_init_77 (by decide) ?_
  refine g_lds (i := 52) X S ⟨by decide, by decide, rfl⟩ dX13_init_79 ?_
  refine g_qS X S dX13_init_81 hf (fun h H locs hm hf S => ?_)
  replace AI := AI.sm hm
  refine lv_dup X.1 X.2.1 dX13_init_82 (cat_rv _) ?_
  refine lv_bipush (v := 13) X.1 X.2.1 dX13_init_83 (by decide) ?_
  refine g_lds (i := 53) X S ⟨by decide, by decide, rfl⟩ dX13_init_85 ?_
  refine g_qS X S dX13_init_87 hf (fun h H locs hm hf S => ?_)
  replace AI := AI.sm hm
  refine lv_dup X.1 X.2.1 dX13_init_88 (cat_rv _) ?_
  refine lv_bipush (v := 14) X.1 X.2.1 dX13_init_89 (by decide) ?_
  refine g_lds (i := 54) X S ⟨by decide, by decide, rfl⟩ dX13_init_91 ?_
  refine g_qS X S dX13_init_93 hf (fun h H locs hm hf S => ?_)
  replace AI := AI.sm hm
  refine lv_dup X.1 X.2.1 dX13_init_94 (cat_rv _) ?_
  refine lv_bipush (v := 15) X.1 X.2.1 dX13_init_95 (by decide) ?_
  refine g_lds (i := 55) X S ⟨by decide, by decide, rfl⟩ dX13_init_97 ?_
  refine g_qS X S dX13_init_99 hf (fun h H locs hm hf S => ?_)
  replace AI := AI.sm hm
  refine lv_dup X.1 X.2.1 dX13_init_100 (cat_rv _) ?_
  refine lv_bipush (v := 16) X.1 X.2.1 dX13_init_101 (by decide) ?_
  refine g_lds (i := 56) X S ⟨by decide, by decide, rfl⟩ dX13_init_103 ?_
  refine g_qS X S dX13_init_105 hf (fun h H locs hm hf S => ?_)
  replace AI := AI.sm hm
  refine lv_dup X.1 X.2.1 dX13_init_106 (cat_rv _) ?_
  refine lv_bipush (v := 17) X.1 X.2.1 dX13_init_107 (by decide) ?_
  refine g_lds (i := 57) X S ⟨by decide, by decide, rfl⟩ dX13_init_109 ?_
  refine g_qS X S dX13_init_111 hf (fun h H locs hm hf S => ?_)
  replace AI := AI.sm hm
  refine lv_dup X.1 X.2.1 dX13_init_112 (cat_rv _) ?_
  refine lv_bipush (v := 18) X.1 X.2.1 dX13_init_113 (by decide) ?_
  refine g_lds (i := 58) X S ⟨by decide, by decide, rfl⟩ dX13_init_115 ?_
  refine g_qS X S dX13_init_117 hf (fun h H locs hm hf S => ?_)
  replace AI := AI.sm hm
  refine lv_dup X.1 X.2.1 dX13_init_118 (cat_rv _) ?_
  refine lv_bipush (v := 19) X.1 X.2.1 dX13_init_119 (by decide) ?_
  refine g_lds (i := 59) X S ⟨by decide, by decide, rfl⟩ dX13_init_121 ?_
  refine g_qS X S dX13_init_123 hf (fun h H locs hm hf S => ?_)
  replace AI := AI.sm hm
  refine lv_dup X.1 X.2.1 dX13_init_124 (cat_rv _) ?_
  refine lv_bipush (v := 20) X.1 X.2.1 dX13_init_125 (by decide) ?_
  refine g_lds (i := 60) X S ⟨by decide, by decide, rfl⟩ dX13_init_127 ?_
  refine g_qS X S dX13_init_129 hf (fun h H locs hm hf S => ?_)
  replace AI := AI.sm hm
  refine lv_dup X.1 X.2.1 dX13_init_130 (cat_rv _) ?_
  refine lv_bipush (v := 21) X.1 X.2.1 dX13_init_131 (by decide) ?_
  refine g_lds (i := 61) X S ⟨by decide, by decide, rfl⟩ dX13_init_133 ?_
  refine g_qS X S dX13_init_135 hf (fun h H locs hm hf S => ?_)
  replace AI := AI.sm hm
  refine lv_dup X.1 X.2.1 dX13_init_136 (cat_rv _) ?_
  refine lv_bipush (v := 22) X.1 X.2.1 dX13_init_137 (by decide) ?_
  refine g_lds (i := 62) X S ⟨by decide, by decide, rfl⟩ dX13_init_139 ?_
  refine g_qS X S dX13_init_141 hf (fun h H locs hm hf S => ?_)
  replace AI := AI.sm hm
  refine lv_dup X.1 X.2.1 dX13_init_142 (cat_rv _) ?_
  refine lv_bipush (v := 23) X.1 X.2.1 dX13_init_143 (by decide) ?_
  refine g_lds (i := 63) X S ⟨by decide, by decide, rfl⟩ dX13_init_145 ?_
  refine g_qS X S dX13_init_147 hf (fun h H locs hm hf S => ?_)
  replace AI := AI.sm hm
  refine lv_dup X.1 X.2.1 dX13_init_148 (cat_rv _) ?_
  refine lv_bipush (v := 24) X.1 X.2.1 dX13_init_149 (by decide) ?_
  refine g_lds (i := 64) X S ⟨by decide, by decide, rfl⟩ dX13_init_151 ?_
  refine g_qS X S dX13_init_153 hf (fun h H locs hm hf S => ?_)
  replace AI := AI.sm hm
  refine g_pR X S fpX13_59 (Or.inr ⟨_, rfl⟩) (Or.inr hnm) dX13_init_154 hf (fun h H locs hm hf S => ?_)
  replace AI := AI.sm hm
  refine g_aload_n X (or_rv _) dX13_init_157 rfl (lv_at hl 0 rfl) ?_
  refine lv_iconst (v := 4) X.1 X.2.1 dX13_init_158 (by decide) ?_
  refine g_newQ (t0 := 4) X S AI ⟨by decide, rfl⟩ (Kon.ao105 X.2.2.2.2.2.2.2.1) clX13_7 dX13_init_159 hf (fun p2 h H cells slots hf S AI => ?_)
  refine lv_dup X.1 X.2.1 dX13_init_162 (cat_rv _) ?_
  refine lv_iconst (v := 0) X.1 X.2.1 dX13_init_163 (by decide) ?_
  refine g_lds (i := 65) X S ⟨by decide, by decide, rfl⟩ dX13_init_164 ?_
  refine g_qS X S dX13_init_166 hf (fun h H locs hm hf S => ?_)
  replace AI := AI.sm hm
  refine lv_dup X.1 X.2.1 dX13_init_167 (cat_rv _) ?_
  refine lv_iconst (v := 1) X.1 X.2.1 dX13_init_168 (by decide) ?_
  refine g_lds (i := 66) X S ⟨by decide, by decide, rfl⟩ dX13_init_169 ?_
  refine g_qS X S dX13_init_171 hf (fun h H locs hm hf S => ?_)
  replace AI := AI.sm hm
  refine lv_dup X.1 X.2.1 dX13_init_172 (cat_rv _) ?_
  refine lv_iconst (v := 2) X.1 X.2.1 dX13_init_173 (by decide) ?_
  refine g_lds (i := 67) X S ⟨by decide, by decide, rfl⟩ dX13_init_174 ?_
  refine g_qS X S dX13_init_176 hf (fun h H locs hm hf S => ?_)
  replace AI := AI.sm hm
  refine lv_dup X.1 X.2.1 dX13_init_177 (cat_rv _) ?_
  refine lv_iconst (v := 3) X.1 X.2.1 dX13_init_178 (by decide) ?_
  refine g_lds (i := 68) X S ⟨by decide, by decide, rfl⟩ dX13_init_179 ?_
  refine g_qS X S dX13_init_181 hf (fun h H locs hm hf S => ?_)
  replace AI := AI.sm hm
  refine g_pR X S fpX13_73 (Or.inr ⟨_, rfl⟩) (Or.inr hnm) dX13_init_182 hf (fun h H locs hm hf S => ?_)
  replace AI := AI.sm hm
  refine g_aload_n X (or_rv _) dX13_init_185 rfl (lv_at hl 0 rfl) ?_
  refine lv_sipush (v := 414) X.1 X.2.1 dX13_init_186 (by decide) ?_
  refine g_newI X S AI dX13_init_189 hf (fun p3 h H cells slots hf S AI => ?_)
  refine g_pR X S fpX13_76 (Or.inr ⟨_, rfl⟩) (Or.inr hnm) dX13_init_191 hf (fun h H locs hm hf S => ?_)
  replace AI := AI.sm hm
  refine g_aload_n X (or_rv _) dX13_init_194 rfl (lv_at hl 0 rfl) ?_
  refine lv_iconst (v := 3) X.1 X.2.1 dX13_init_195 (by decide) ?_
  refine g_newI X S AI dX13_init_196 hf (fun p4 h H cells slots hf S AI => ?_)
  refine g_pR X S fpX13_80 (Or.inr ⟨_, rfl⟩) (Or.inr hnm) dX13_init_198 hf (fun h H locs hm hf S => ?_)
  replace AI := AI.sm hm
  refine g_aload_n X (or_rv _) dX13_init_201 rfl (lv_at hl 0 rfl) ?_
  refine lv_bipush (v := 120) X.1 X.2.1 dX13_init_202 (by decide) ?_
  refine g_newI X S AI dX13_init_204 hf (fun p5 h H cells slots hf S AI => ?_)
  refine g_pR X S fpX13_83 (Or.inr ⟨_, rfl⟩) (Or.inr hnm) dX13_init_206 hf (fun h H locs hm hf S => ?_)
  replace AI := AI.sm hm
  refine g_aload_n X (or_rv _) dX13_init_209 rfl (lv_at hl 0 rfl) ?_
  refine lv_sipush (v := 240) X.1 X.2.1 dX13_init_210 (by decide) ?_
  refine g_newI X S AI dX13_init_213 hf (fun p6 h H cells slots hf S AI => ?_)
  refine g_pR X S fpX13_86 (Or.inr ⟨_, rfl⟩) (Or.inr hnm) dX13_init_215 hf (fun h H locs hm hf S => ?_)
  replace AI := AI.sm hm
  refine g_aload_n X (or_rv _) dX13_init_218 rfl (lv_at hl 0 rfl) ?_
  refine lv_sipush (v := 240) X.1 X.2.1 dX13_init_219 (by decide) ?_
  refine g_newI X S AI dX13_init_222 hf (fun p7 h H cells slots hf S AI => ?_)
  refine g_pR X S fpX13_89 (Or.inr ⟨_, rfl⟩) (Or.inr hnm) dX13_init_224 hf (fun h H locs hm hf S => ?_)
  replace AI := AI.sm hm
  refine g_aload_n X (or_rv _) dX13_init_227 rfl (lv_at hl 0 rfl) ?_
  refine lv_sipush (v := 240) X.1 X.2.1 dX13_init_228 (by decide) ?_
  refine g_newI X S AI dX13_init_231 hf (fun p8 h H cells slots hf S AI => ?_)
  refine g_pR X S fpX13_92 (Or.inr ⟨_, rfl⟩) (Or.inr hnm) dX13_init_233 hf (fun h H locs hm hf S => ?_)
  replace AI := AI.sm hm
  refine g_aload_n X (or_rv _) dX13_init_236 rfl (lv_at hl 0 rfl) ?_
  refine lv_bipush (v := 120) X.1 X.2.1 dX13_init_237 (by decide) ?_
  refine g_newI X S AI dX13_init_239 hf (fun p9 h H cells slots hf S AI => ?_)
  refine g_pR X S fpX13_95 (Or.inr ⟨_, rfl⟩) (Or.inr hnm) dX13_init_241 hf (fun h H locs hm hf S => ?_)
  replace AI := AI.sm hm
  refine g_aload_n X (or_rv _) dX13_init_244 rfl (lv_at hl 0 rfl) ?_
  refine lv_bipush (v := 120) X.1 X.2.1 dX13_init_245 (by decide) ?_
  refine g_newI X S AI dX13_init_247 hf (fun p10 h H cells slots hf S AI => ?_)
  refine g_pR X S fpX13_98 (Or.inr ⟨_, rfl⟩) (Or.inr hnm) dX13_init_249 hf (fun h H locs hm hf S => ?_)
  replace AI := AI.sm hm
  refine g_aload_n X (or_rv _) dX13_init_252 rfl (lv_at hl 0 rfl) ?_
  refine lv_bipush (v := 120) X.1 X.2.1 dX13_init_253 (by decide) ?_
  refine g_newI X S AI dX13_init_255 hf (fun p11 h H cells slots hf S AI => ?_)
  refine g_pR X S fpX13_101 (Or.inr ⟨_, rfl⟩) (Or.inr hnm) dX13_init_257 hf (fun h H locs hm hf S => ?_)
  replace AI := AI.sm hm
  refine g_aload_n X (or_rv _) dX13_init_260 rfl (lv_at hl 0 rfl) ?_
  refine lv_sipush (v := 512) X.1 X.2.1 dX13_init_261 (by decide) ?_
  refine g_newI X S AI dX13_init_264 hf (fun p12 h H cells slots hf S AI => ?_)
  refine g_pR X S fpX13_104 (Or.inr ⟨_, rfl⟩) (Or.inr hnm) dX13_init_266 hf (fun h H locs hm hf S => ?_)
  replace AI := AI.sm hm
  refine g_aload_n X (or_rv _) dX13_init_269 rfl (lv_at hl 0 rfl) ?_
  refine lv_sipush (v := 700) X.1 X.2.1 dX13_init_270 (by decide) ?_
  refine g_newI X S AI dX13_init_273 hf (fun p13 h H cells slots hf S AI => ?_)
  refine g_pR X S fpX13_107 (Or.inr ⟨_, rfl⟩) (Or.inr hnm) dX13_init_275 hf (fun h H locs hm hf S => ?_)
  replace AI := AI.sm hm
  refine g_aload_n X (or_rv _) dX13_init_278 rfl (lv_at hl 0 rfl) ?_
  refine lv_iconst (v := (-1)) X.1 X.2.1 dX13_init_279 (by decide) ?_
  refine g_pI X S fpX13_110 (Or.inl rfl) dX13_init_280 hf (fun h H locs hm hf S => ?_)
  replace AI := AI.sm hm
  refine g_aload_n X (or_rv _) dX13_init_283 rfl (lv_at hl 0 rfl) ?_
  refine lv_bipush (v := 61) X.1 X.2.1 dX13_init_284 (by decide) ?_
  refine g_newI X S AI dX13_init_286 hf (fun p14 h H cells slots hf S AI => ?_)
  refine g_pR X S fpX13_114 (Or.inr ⟨_, rfl⟩) (Or.inr hnm) dX13_init_288 hf (fun h H locs hm hf S => ?_)
  replace AI := AI.sm hm
  refine g_aload_n X (or_rv _) dX13_init_291 rfl (lv_at hl 0 rfl) ?_
  refine lv_bipush (v := 61) X.1 X.2.1 dX13_init_292 (by decide) ?_
  refine g_newI X S AI dX13_init_294 hf (fun p15 h H cells slots hf S AI => ?_)
  refine g_pR X S fpX13_117 (Or.inr ⟨_, rfl⟩) (Or.inr hnm) dX13_init_296 hf (fun h H locs hm hf S => ?_)
  replace AI := AI.sm hm
  refine g_aload_n X (or_rv _) dX13_init_299 rfl (lv_at hl 0 rfl) ?_
  refine lv_bipush (v := 61) X.1 X.2.1 dX13_init_300 (by decide) ?_
  refine g_newI X S AI dX13_init_302 hf (fun p16 h H cells slots hf S AI => ?_)
  refine g_pR X S fpX13_120 (Or.inr ⟨_, rfl⟩) (Or.inr hnm) dX13_init_304 hf (fun h H locs hm hf S => ?_)
  replace AI := AI.sm hm
  refine g_aload_n X (or_rv _) dX13_init_307 rfl (lv_at hl 0 rfl) ?_
  refine lv_bipush (v := 61) X.1 X.2.1 dX13_init_308 (by decide) ?_
  refine g_newI X S AI dX13_init_310 hf (fun p17 h H cells slots hf S AI => ?_)
  refine g_pR X S fpX13_123 (Or.inr ⟨_, rfl⟩) (Or.inr hnm) dX13_init_312 hf (fun h H locs hm hf S => ?_)
  replace AI := AI.sm hm
  refine g_aload_n X (or_rv _) dX13_init_315 rfl (lv_at hl 0 rfl) ?_
  refine lv_bipush (v := 8) X.1 X.2.1 dX13_init_316 (by decide) ?_
  refine g_newL X S AI dX13_init_318 hf (fun p18 h H cells slots hf S AI => ?_)
  refine g_pR X S fpX13_126 (Or.inr ⟨_, rfl⟩) (Or.inr hnm) dX13_init_320 hf (fun h H locs hm hf S => ?_)
  replace AI := AI.sm hm
  refine g_aload_n X (or_rv _) dX13_init_323 rfl (lv_at hl 0 rfl) ?_
  refine lv_bipush (v := 8) X.1 X.2.1 dX13_init_324 (by decide) ?_
  refine g_newL X S AI dX13_init_326 hf (fun p19 h H cells slots hf S AI => ?_)
  refine g_pR X S fpX13_130 (Or.inr ⟨_, rfl⟩) (Or.inr hnm) dX13_init_328 hf (fun h H locs hm hf S => ?_)
  replace AI := AI.sm hm
  refine g_aload_n X (or_rv _) dX13_init_331 rfl (lv_at hl 0 rfl) ?_
  refine lv_bipush (v := 8) X.1 X.2.1 dX13_init_332 (by decide) ?_
  refine g_newL X S AI dX13_init_334 hf (fun p20 h H cells slots hf S AI => ?_)
  refine g_pR X S fpX13_133 (Or.inr ⟨_, rfl⟩) (Or.inr hnm) dX13_init_336 hf (fun h H locs hm hf S => ?_)
  replace AI := AI.sm hm
  refine g_aload_n X (or_rv _) dX13_init_339 rfl (lv_at hl 0 rfl) ?_
  refine lv_bipush (v := 8) X.1 X.2.1 dX13_init_340 (by decide) ?_
  refine g_newL X S AI dX13_init_342 hf (fun p21 h H cells slots hf S AI => ?_)
  refine g_pR X S fpX13_136 (Or.inr ⟨_, rfl⟩) (Or.inr hnm) dX13_init_344 hf (fun h H locs hm hf S => ?_)
  replace AI := AI.sm hm
  refine g_aload_n X (or_rv _) dX13_init_347 rfl (lv_at hl 0 rfl) ?_
  refine lv_bipush (v := 64) X.1 X.2.1 dX13_init_348 (by decide) ?_
  refine g_newI X S AI dX13_init_350 hf (fun p22 h H cells slots hf S AI => ?_)
  refine g_pR X S fpX13_139 (Or.inr ⟨_, rfl⟩) (Or.inr hnm) dX13_init_352 hf (fun h H locs hm hf S => ?_)
  replace AI := AI.sm hm
  refine g_aload_n X (or_rv _) dX13_init_355 rfl (lv_at hl 0 rfl) ?_
  refine lv_sipush (v := 132) X.1 X.2.1 dX13_init_356 (by decide) ?_
  refine g_newL X S AI dX13_init_359 hf (fun p23 h H cells slots hf S AI => ?_)
  refine g_pR X S fpX13_142 (Or.inr ⟨_, rfl⟩) (Or.inr hnm) dX13_init_361 hf (fun h H locs hm hf S => ?_)
  replace AI := AI.sm hm
  refine g_aload_n X (or_rv _) dX13_init_364 rfl (lv_at hl 0 rfl) ?_
  refine lv_bipush (v := 32) X.1 X.2.1 dX13_init_365 (by decide) ?_
  refine g_newI X S AI dX13_init_367 hf (fun p24 h H cells slots hf S AI => ?_)
  refine g_pR X S fpX13_145 (Or.inr ⟨_, rfl⟩) (Or.inr hnm) dX13_init_369 hf (fun h H locs hm hf S => ?_)
  replace AI := AI.sm hm
  refine g_aload_n X (or_rv _) dX13_init_372 rfl (lv_at hl 0 rfl) ?_
  refine lv_sipush (v := 16560) X.1 X.2.1 dX13_init_373 (by decide) ?_
  refine g_newI X S AI dX13_init_376 hf (fun p25 h H cells slots hf S AI => ?_)
  refine g_pR X S fpX13_148 (Or.inr ⟨_, rfl⟩) (Or.inr hnm) dX13_init_378 hf (fun h H locs hm hf S => ?_)
  replace AI := AI.sm hm
  refine g_aload_n X (or_rv _) dX13_init_381 rfl (lv_at hl 0 rfl) ?_
  refine lv_sipush (v := 414) X.1 X.2.1 dX13_init_382 (by decide) ?_
  refine g_newI X S AI dX13_init_385 hf (fun p26 h H cells slots hf S AI => ?_)
  refine g_pR X S fpX13_151 (Or.inr ⟨_, rfl⟩) (Or.inr hnm) dX13_init_387 hf (fun h H locs hm hf S => ?_)
  replace AI := AI.sm hm
  refine g_aload_n X (or_rv _) dX13_init_390 rfl (lv_at hl 0 rfl) ?_
  refine lv_sipush (v := 414) X.1 X.2.1 dX13_init_391 (by decide) ?_
  refine g_newI X S AI dX13_init_394 hf (fun p27 h H cells slots hf S AI => ?_)
  refine g_pR X S fpX13_154 (Or.inr ⟨_, rfl⟩) (Or.inr hnm) dX13_init_396 hf (fun h H locs hm hf S => ?_)
  replace AI := AI.sm hm
  refine g_aload_n X (or_rv _) dX13_init_399 rfl (lv_at hl 0 rfl) ?_
  refine lv_bipush (v := 8) X.1 X.2.1 dX13_init_400 (by decide) ?_
  refine g_newI X S AI dX13_init_402 hf (fun p28 h H cells slots hf S AI => ?_)
  refine g_pR X S fpX13_157 (Or.inr ⟨_, rfl⟩) (Or.inr hnm) dX13_init_404 hf (fun h H locs hm hf S => ?_)
  replace AI := AI.sm hm
  refine g_aload_n X (or_rv _) dX13_init_407 rfl (lv_at hl 0 rfl) ?_
  refine lv_bipush (v := 8) X.1 X.2.1 dX13_init_408 (by decide) ?_
  refine g_newI X S AI dX13_init_410 hf (fun p29 h H cells slots hf S AI => ?_)
  refine g_pR X S fpX13_160 (Or.inr ⟨_, rfl⟩) (Or.inr hnm) dX13_init_412 hf (fun h H locs hm hf S => ?_)
  replace AI := AI.sm hm
  refine g_aload_n X (or_rv _) dX13_init_415 rfl (lv_at hl 0 rfl) ?_
  refine lv_bipush (v := 8) X.1 X.2.1 dX13_init_416 (by decide) ?_
  refine g_newI X S AI dX13_init_418 hf (fun p30 h H cells slots hf S AI => ?_)
  refine g_pR X S fpX13_163 (Or.inr ⟨_, rfl⟩) (Or.inr hnm) dX13_init_420 hf (fun h H locs hm hf S => ?_)
  replace AI := AI.sm hm
  refine g_aload_n X (or_rv _) dX13_init_423 rfl (lv_at hl 0 rfl) ?_
  refine lv_sipush (v := 414) X.1 X.2.1 dX13_init_424 (by decide) ?_
  refine g_newI X S AI dX13_init_427 hf (fun p31 h H cells slots hf S AI => ?_)
  refine g_pR X S fpX13_166 (Or.inr ⟨_, rfl⟩) (Or.inr hnm) dX13_init_429 hf (fun h H locs hm hf S => ?_)
  replace AI := AI.sm hm
  refine g_aload_n X (or_rv _) dX13_init_432 rfl (lv_at hl 0 rfl) ?_
  refine lv_sipush (v := 16560) X.1 X.2.1 dX13_init_433 (by decide) ?_
  refine g_newI X S AI dX13_init_436 hf (fun p32 h H cells slots hf S AI => ?_)
  refine g_pR X S fpX13_169 (Or.inr ⟨_, rfl⟩) (Or.inr hnm) dX13_init_438 hf (fun h H locs hm hf S => ?_)
  replace AI := AI.sm hm
  refine g_aload_n X (or_rv _) dX13_init_441 rfl (lv_at hl 0 rfl) ?_
  refine lv_bipush (v := 8) X.1 X.2.1 dX13_init_442 (by decide) ?_
  refine g_newI X S AI dX13_init_444 hf (fun p33 h H cells slots hf S AI => ?_)
  refine g_pR X S fpX13_172 (Or.inr ⟨_, rfl⟩) (Or.inr hnm) dX13_init_446 hf (fun h H locs hm hf S => ?_)
  replace AI := AI.sm hm
  refine g_aload_n X (or_rv _) dX13_init_449 rfl (lv_at hl 0 rfl) ?_
  refine lv_bipush (v := 8) X.1 X.2.1 dX13_init_450 (by decide) ?_
  refine g_newI X S AI dX13_init_452 hf (fun p34 h H cells slots hf S AI => ?_)
  refine g_pR X S fpX13_175 (Or.inr ⟨_, rfl⟩) (Or.inr hnm) dX13_init_454 hf (fun h H locs hm hf S => ?_)
  replace AI := AI.sm hm
  refine g_aload_n X (or_rv _) dX13_init_457 rfl (lv_at hl 0 rfl) ?_
  refine lv_bipush (v := 8) X.1 X.2.1 dX13_init_458 (by decide) ?_
  refine g_newI X S AI dX13_init_460 hf (fun p35 h H cells slots hf S AI => ?_)
  refine g_pR X S fpX13_178 (Or.inr ⟨_, rfl⟩) (Or.inr hnm) dX13_init_462 hf (fun h H locs hm hf S => ?_)
  replace AI := AI.sm hm
  refine g_aload_n X (or_rv _) dX13_init_465 rfl (lv_at hl 0 rfl) ?_
  refine lv_iconst (v := 3) X.1 X.2.1 dX13_init_466 (by decide) ?_
  refine g_newI X S AI dX13_init_467 hf (fun p36 h H cells slots hf S AI => ?_)
  refine g_pR X S fpX13_181 (Or.inr ⟨_, rfl⟩) (Or.inr hnm) dX13_init_469 hf (fun h H locs hm hf S => ?_)
  replace AI := AI.sm hm
  refine g_aload_n X (or_rv _) dX13_init_472 rfl (lv_at hl 0 rfl) ?_
  obtain ⟨h, hc, hok, hf⟩ := obk_some hf
  refine g_cv S (runV (As := []) (rest := []) X S coX13_184 (by decide) (cX13_beginNow_m l hc) (tkX13_beginNow hc) rfl hl.1 (by decide) rfl AI.fit dX13_init_473) (fun H locs S => ?_)
  replace AI := AI.kc hok
  cases hf; exact g_rvA X S AI hr hlk dX13_init_476
def fX13_thrown (a0 : Nat) (h : Hp) : Option (Int32) := gd 11 a0 h (ob (gI 11 a0 2 h) fun v1 => some v1)
theorem tkX13_thrown {a0 : Nat} {h : Hp} {r9 : Int32} (e : fX13_thrown a0 h = some r9) : hK h a0 = 11 := by
  unfold fX13_thrown at e
  exact (gd_some e).1
theorem cX13_thrown_m (l : Launch) {E : EE} {A : Nat → Prop} {a0 : Nat} {h : Hp} {r9 : Int32} (hf : fX13_thrown a0 h = some r9) : Met l yX13_thrown (wsM yX13_thrown cX13_thrown 1 (some .int)) (rmm 8 0 0) (PcE E A h [rv a0]) (Qi E A h r9) 0 0 A := by
  refine met_of (by decide +kernel) (by simp [lg_sl, cat_rv, cat_wv, cat_sv, cat_i, cat_l, cat_a]) (fun p e s m args below meth c ls X hr hlk hnm S hl => ?_)
  have hl : lv_has ls 1 [(0, rv a0)] := by simpa [lv_args, cat_rv, cat_wv, cat_sv, cat_i, cat_l, cat_a] using hl
  generalize hH : s.heap = H at S ⊢
  generalize hlo : ([] : List Loc) = locs at S ⊢
  clear hH hlo
  unfold fX13_thrown at hf
  obtain ⟨hth, hf⟩ := gd_some hf
  refine g_aload_n X (or_rv _) dX13_thrown_0 rfl (lv_at hl 0 rfl) ?_
  refine g_gI X S foX13_187 rfl dX13_thrown_1 hf (fun v1 hf => ?_)
  cases hf; exact g_ri X S hr hlk dX13_thrown_4
def fX13_fail (a0 : Nat) (a1 : Int32) (h : Hp) : Option (Int32 × Hp) := gd 11 a0 h (ob (pI 11 a0 2 a1 h) fun h => some (0, h))
theorem tkX13_fail {a0 : Nat} {a1 : Int32} {h : Hp} {r9 : Int32 × Hp} (e : fX13_fail a0 a1 h = some r9) : hK h a0 = 11 := by
  unfold fX13_fail at e
  exact (gd_some e).1
theorem cX13_fail_m (l : Launch) {E : EE} {A : Nat → Prop} {a0 : Nat} {a1 : Int32} {h : Hp} {r9 : Int32} {h9 : Hp} (hf : fX13_fail a0 a1 h = some (r9, h9)) : Met l yX13_fail (wsM yX13_fail cX13_fail 2 (some .int)) (rmm 8 0 0) (PcE E A h [rv a0, .int a1]) (Qi E A h9 r9) 0 0 A := by
  refine met_of (by decide +kernel) (by simp [lg_sl, cat_rv, cat_wv, cat_sv, cat_i, cat_l, cat_a]) (fun p e s m args below meth c ls X hr hlk hnm S hl => ?_)
  have hl : lv_has ls 2 [(0, rv a0), (1, .int a1)] := by simpa [lv_args, cat_rv, cat_wv, cat_sv, cat_i, cat_l, cat_a] using hl
  generalize hH : s.heap = H at S ⊢
  generalize hlo : ([] : List Loc) = locs at S ⊢
  clear hH hlo
  unfold fX13_fail at hf
  obtain ⟨hth, hf⟩ := gd_some hf
  refine g_aload_n X (or_rv _) dX13_fail_0 rfl (lv_at hl 0 rfl) ?_
  refine lv_iload_n X.1 X.2.1 dX13_fail_1 rfl (lv_at hl 1 rfl) ?_
  refine g_pI X S fpX13_187 (Or.inl rfl) dX13_fail_2 hf (fun h H locs hm hf S => ?_)
  refine lv_iconst (v := 0) X.1 X.2.1 dX13_fail_5 (by decide) ?_
  cases hf; exact g_ri X S hr hlk dX13_fail_6
def fX13_isIn (a0 : Int64) (a2 : Int64) (a4 : Int64) : Option (Int32) := if (lg_cmp a0 a2) < 0 then some 0 else if 0 < (lg_cmp a0 a4) then some 0 else some 1
theorem cX13_isIn_m (l : Launch) {E : EE} {A : Nat → Prop} {a0 : Int64} {a2 : Int64} {a4 : Int64} {h : Hp} {r9 : Int32} (hf : fX13_isIn a0 a2 a4 = some r9) : Met l yX13_isIn (wsM yX13_isIn cX13_isIn 6 (some .boolean)) (rmm 8 0 0) (PcE E A h [.long a0, .long a2, .long a4]) (Qi E A h r9) 0 0 A := by
  refine met_of (by decide +kernel) (by simp [lg_sl, cat_rv, cat_wv, cat_sv, cat_i, cat_l, cat_a]) (fun p e s m args below meth c ls X hr hlk hnm S hl => ?_)
  have hl : lv_has ls 6 [(0, .long a0), (2, .long a2), (4, .long a4)] := by simpa [lv_args, cat_rv, cat_wv, cat_sv, cat_i, cat_l, cat_a] using hl
  generalize hH : s.heap = H at S ⊢
  generalize hlo : ([] : List Loc) = locs at S ⊢
  clear hH hlo
  unfold fX13_isIn at hf
  refine lv_lload_n X.1 X.2.1 dX13_isIn_0 rfl (lv_at hl 0 rfl) ?_
  refine lv_lload_n X.1 X.2.1 dX13_isIn_1 rfl (lv_at hl 1 rfl) ?_
  refine W.lcmp X.1 X.2.1 dX13_isIn_2 ?_
  refine lv_if_lt (tgt := 17) X.1 X.2.1 dX13_isIn_3 (by decide) (fun c1 => ?_) (fun c1 => ?_)
  · replace hf := (if_pos c1).symm.trans hf
    refine lv_iconst (v := 0) X.1 X.2.1 dX13_isIn_17 (by decide) ?_
    cases hf; exact g_rz X S hr hlk (by decide) dX13_isIn_18
  · replace hf := (if_neg c1).symm.trans hf
    refine lv_lload_n X.1 X.2.1 dX13_isIn_6 rfl (lv_at hl 0 rfl) ?_
    refine lv_lload X.1 X.2.1 dX13_isIn_7 (lv_at hl 2 rfl) ?_
    refine W.lcmp X.1 X.2.1 dX13_isIn_9 ?_
    refine lv_if_gt (tgt := 17) X.1 X.2.1 dX13_isIn_10 (by decide) (fun c2 => ?_) (fun c2 => ?_)
    · replace hf := (if_pos c2).symm.trans hf
      refine lv_iconst (v := 0) X.1 X.2.1 dX13_isIn_17 (by decide) ?_
      cases hf; exact g_rz X S hr hlk (by decide) dX13_isIn_18
    · replace hf := (if_neg c2).symm.trans hf
      refine lv_iconst (v := 1) X.1 X.2.1 dX13_isIn_13 (by decide) ?_
      refine lv_goto (tgt := 18) X.1 X.2.1 dX13_isIn_14 (by decide) ?_
      cases hf; exact g_rz X S hr hlk (by decide) dX13_isIn_18
def fX13_feed_76 (k23 : Nat → Int32 → Int32 → Int32 → Int32 → Int32 → Int32 → Hp → Option (Int32 × Hp)) (x0 : Nat) (x1 : Int32) (x2 : Int32) (x3 : Int32) (x4 : Int32) (x5 : Int32) (x6 : Int32) (y0 : Int32) (h : Hp) : Option (Int32 × Hp) := ob (gR 11 x0 15 h) fun v1 => ob (gI 11 x0 16 h) fun v2 => ob (qI v1 v2 ((y0 >>> ((24 - (8 * (irm x6 4))) &&& 31)) &&& (255 : Int32)) h) fun h => ob (gI 11 x0 16 h) fun v3 => ob (pI 11 x0 16 (v3 + 1) h) fun h => lt (x6 + 1) fun z4 => k23 x0 x1 x2 x3 x4 x5 z4 h
theorem wfX13_feed_76 {k23 : Nat → Int32 → Int32 → Int32 → Int32 → Int32 → Int32 → Hp → Option (Int32 × Hp)} {r9 : Int32} {h9 : Hp} (X : Cx p E A 8 R s m args c cX13_feed yX13_feed.cls 8) (hr : meth.sig.returnType = (some .int)) (hlk : meth.locks = false) (hnm : meth.name = yX13_feed.name) (hk23 : ∀ (x0 : Nat) (x1 : Int32) (x2 : Int32) (x3 : Int32) (x4 : Int32) (x5 : Int32) (x6 : Int32) (h : Hp) (H : Heap) (locs : List Loc) (ls : Array Slot), lv_has ls 8 [(0, rv x0), (1, .int x1), (2, .int x2), (3, .int x3), (4, .int x4), (5, .int x5), (6, .int x6)] → St E A s h H locs → k23 x0 x1 x2 x3 x4 x5 x6 h = some (r9, h9) → W p l e R s m args below meth c H locs 0 0 (MQ below (Qi E A h9 r9) args s 0 0 A) (F0 m 23 ls [])) :
    ∀ (x0 : Nat) (x1 : Int32) (x2 : Int32) (x3 : Int32) (x4 : Int32) (x5 : Int32) (x6 : Int32) (y0 : Int32) (h : Hp) (H : Heap) (locs : List Loc) (ls : Array Slot), lv_has ls 8 [(0, rv x0), (1, .int x1), (2, .int x2), (3, .int x3), (4, .int x4), (5, .int x5), (6, .int x6)] → St E A s h H locs → fX13_feed_76 k23 x0 x1 x2 x3 x4 x5 x6 y0 h = some (r9, h9) → W p l e R s m args below meth c H locs 0 0 (MQ below (Qi E A h9 r9) args s 0 0 A) (F0 m 76 ls [.int y0]) := by
  intro x0 x1 x2 x3 x4 x5 x6 y0 h H locs ls hl S hf
  unfold fX13_feed_76 at hf
  refine lv_istore (lv' := [(7, .int y0), (0, rv x0), (1, .int x1), (2, .int x2), (3, .int x3), (4, .int x4), (5, .int x5), (6, .int x6)]) X.1 X.2.1 dX13_feed_76 hl (by decide) rfl (fun ls hl => ?_)
  refine g_aload_n X (or_rv _) dX13_feed_78 rfl (lv_at hl 1 rfl) ?_
  refine g_gR X S foX13_107 dX13_feed_79 hf (fun v1 hf => ?_)
  refine g_aload_n X (or_rv _) dX13_feed_82 rfl (lv_at hl 1 rfl) ?_
  refine g_gI X S foX13_190 rfl dX13_feed_83 hf (fun v2 hf => ?_)
  refine lv_iload X.1 X.2.1 dX13_feed_86 (lv_at hl 0 rfl) ?_
  refine lv_bipush (v := 24) X.1 X.2.1 dX13_feed_88 (by decide) ?_
  refine lv_bipush (v := 8) X.1 X.2.1 dX13_feed_90 (by decide) ?_
  refine lv_iload X.1 X.2.1 dX13_feed_92 (lv_at hl 7 rfl) ?_
  refine lv_iconst (v := 4) X.1 X.2.1 dX13_feed_94 (by decide) ?_
  refine g_irem X (by decide) dX13_feed_95 ?_
  refine lv_imul X.1 X.2.1 dX13_feed_96 ?_
  refine lv_isub X.1 X.2.1 dX13_feed_97 ?_
  refine lv_ishr X.1 X.2.1 dX13_feed_98 ?_
  refine lv_sipush (v := 255) X.1 X.2.1 dX13_feed_99 (by decide) ?_
  refine lv_iand X.1 X.2.1 dX13_feed_102 ?_
  refine g_qI X S dX13_feed_103 hf (fun h H locs hm hf S => ?_)
  refine g_aload_n X (or_rv _) dX13_feed_104 rfl (lv_at hl 1 rfl) ?_
  refine lv_dup X.1 X.2.1 dX13_feed_105 (cat_rv _) ?_
  refine g_gI X S foX13_190 rfl dX13_feed_106 hf (fun v3 hf => ?_)
  refine lv_iconst (v := 1) X.1 X.2.1 dX13_feed_109 (by decide) ?_
  refine lv_iadd X.1 X.2.1 dX13_feed_110 ?_
  refine g_pI X S fpX13_190 (Or.inl rfl) dX13_feed_111 hf (fun h H locs hm hf S => ?_)
  obtain ⟨z4, ez4, hf⟩ := lt_some hf
  refine lv_iinc (v := z4) (lv' := [(6, .int z4), (7, .int y0), (0, rv x0), (1, .int x1), (2, .int x2), (3, .int x3), (4, .int x4), (5, .int x5)]) X.1 X.2.1 dX13_feed_114 hl (k := 7) rfl (by rw [← ez4]; rfl) (by decide) rfl (fun ls hl => ?_)
  refine lv_goto (tgt := 23) X.1 X.2.1 dX13_feed_117 (by decide) ?_
  exact hk23 _ _ _ _ _ _ _ _ _ _ _ (lv_sub hl [2, 3, 4, 5, 6, 7, 0] rfl) S hf
def fX13_feed_23 (k23 : Nat → Int32 → Int32 → Int32 → Int32 → Int32 → Int32 → Hp → Option (Int32 × Hp)) (x0 : Nat) (x1 : Int32) (x2 : Int32) (x3 : Int32) (x4 : Int32) (x5 : Int32) (x6 : Int32) (h : Hp) : Option (Int32 × Hp) := if 20 ≤ x6 then ob (gI 11 x0 16 h) fun v2 => some (v2, h) else if 4 ≤ x6 then if 8 ≤ x6 then if 12 ≤ x6 then if 16 ≤ x6 then fX13_feed_76 k23 x0 x1 x2 x3 x4 x5 x6 x5 h else fX13_feed_76 k23 x0 x1 x2 x3 x4 x5 x6 x4 h else fX13_feed_76 k23 x0 x1 x2 x3 x4 x5 x6 x3 h else fX13_feed_76 k23 x0 x1 x2 x3 x4 x5 x6 x2 h else fX13_feed_76 k23 x0 x1 x2 x3 x4 x5 x6 x1 h
theorem wfX13_feed_23 {k23 : Nat → Int32 → Int32 → Int32 → Int32 → Int32 → Int32 → Hp → Option (Int32 × Hp)} {r9 : Int32} {h9 : Hp} (X : Cx p E A 8 R s m args c cX13_feed yX13_feed.cls 8) (hr : meth.sig.returnType = (some .int)) (hlk : meth.locks = false) (hnm : meth.name = yX13_feed.name) (hk23 : ∀ (x0 : Nat) (x1 : Int32) (x2 : Int32) (x3 : Int32) (x4 : Int32) (x5 : Int32) (x6 : Int32) (h : Hp) (H : Heap) (locs : List Loc) (ls : Array Slot), lv_has ls 8 [(0, rv x0), (1, .int x1), (2, .int x2), (3, .int x3), (4, .int x4), (5, .int x5), (6, .int x6)] → St E A s h H locs → k23 x0 x1 x2 x3 x4 x5 x6 h = some (r9, h9) → W p l e R s m args below meth c H locs 0 0 (MQ below (Qi E A h9 r9) args s 0 0 A) (F0 m 23 ls [])) :
    ∀ (x0 : Nat) (x1 : Int32) (x2 : Int32) (x3 : Int32) (x4 : Int32) (x5 : Int32) (x6 : Int32) (h : Hp) (H : Heap) (locs : List Loc) (ls : Array Slot), lv_has ls 8 [(0, rv x0), (1, .int x1), (2, .int x2), (3, .int x3), (4, .int x4), (5, .int x5), (6, .int x6)] → St E A s h H locs → fX13_feed_23 k23 x0 x1 x2 x3 x4 x5 x6 h = some (r9, h9) → W p l e R s m args below meth c H locs 0 0 (MQ below (Qi E A h9 r9) args s 0 0 A) (F0 m 23 ls []) := by
  intro x0 x1 x2 x3 x4 x5 x6 h H locs ls hl S hf
  unfold fX13_feed_23 at hf
  refine lv_iload X.1 X.2.1 dX13_feed_23 (lv_at hl 6 rfl) ?_
  refine lv_bipush (v := 20) X.1 X.2.1 dX13_feed_25 (by decide) ?_
  refine lv_icmp_ge (tgt := 120) X.1 X.2.1 dX13_feed_27 (by decide) (fun c1 => ?_) (fun c1 => ?_)
  · replace hf := (if_pos c1).symm.trans hf
    refine g_aload_n X (or_rv _) dX13_feed_120 rfl (lv_at hl 0 rfl) ?_
    refine g_gI X S foX13_190 rfl dX13_feed_121 hf (fun v2 hf => ?_)
    cases hf; exact g_ri X S hr hlk dX13_feed_124
  · replace hf := (if_neg c1).symm.trans hf
    refine lv_iload X.1 X.2.1 dX13_feed_30 (lv_at hl 6 rfl) ?_
    refine lv_iconst (v := 4) X.1 X.2.1 dX13_feed_32 (by decide) ?_
    refine lv_icmp_ge (tgt := 40) X.1 X.2.1 dX13_feed_33 (by decide) (fun c3 => ?_) (fun c3 => ?_)
    · replace hf := (if_pos c3).symm.trans hf
      refine lv_iload X.1 X.2.1 dX13_feed_40 (lv_at hl 6 rfl) ?_
      refine lv_bipush (v := 8) X.1 X.2.1 dX13_feed_42 (by decide) ?_
      refine lv_icmp_ge (tgt := 51) X.1 X.2.1 dX13_feed_44 (by decide) (fun c4 => ?_) (fun c4 => ?_)
      · replace hf := (if_pos c4).symm.trans hf
        refine lv_iload X.1 X.2.1 dX13_feed_51 (lv_at hl 6 rfl) ?_
        refine lv_bipush (v := 12) X.1 X.2.1 dX13_feed_53 (by decide) ?_
        refine lv_icmp_ge (tgt := 62) X.1 X.2.1 dX13_feed_55 (by decide) (fun c5 => ?_) (fun c5 => ?_)
        · replace hf := (if_pos c5).symm.trans hf
          refine lv_iload X.1 X.2.1 dX13_feed_62 (lv_at hl 6 rfl) ?_
          refine lv_bipush (v := 16) X.1 X.2.1 dX13_feed_64 (by decide) ?_
          refine lv_icmp_ge (tgt := 74) X.1 X.2.1 dX13_feed_66 (by decide) (fun c6 => ?_) (fun c6 => ?_)
          · replace hf := (if_pos c6).symm.trans hf
            refine lv_iload X.1 X.2.1 dX13_feed_74 (lv_at hl 5 rfl) ?_
            exact wfX13_feed_76 X hr hlk hnm hk23 _ _ _ _ _ _ _ _ _ _ _ _ hl S hf
          · replace hf := (if_neg c6).symm.trans hf
            refine lv_iload X.1 X.2.1 dX13_feed_69 (lv_at hl 4 rfl) ?_
            refine lv_goto (tgt := 76) X.1 X.2.1 dX13_feed_71 (by decide) ?_
            exact wfX13_feed_76 X hr hlk hnm hk23 _ _ _ _ _ _ _ _ _ _ _ _ hl S hf
        · replace hf := (if_neg c5).symm.trans hf
          refine lv_iload_n X.1 X.2.1 dX13_feed_58 rfl (lv_at hl 3 rfl) ?_
          refine lv_goto (tgt := 76) X.1 X.2.1 dX13_feed_59 (by decide) ?_
          exact wfX13_feed_76 X hr hlk hnm hk23 _ _ _ _ _ _ _ _ _ _ _ _ hl S hf
      · replace hf := (if_neg c4).symm.trans hf
        refine lv_iload_n X.1 X.2.1 dX13_feed_47 rfl (lv_at hl 2 rfl) ?_
        refine lv_goto (tgt := 76) X.1 X.2.1 dX13_feed_48 (by decide) ?_
        exact wfX13_feed_76 X hr hlk hnm hk23 _ _ _ _ _ _ _ _ _ _ _ _ hl S hf
    · replace hf := (if_neg c3).symm.trans hf
      refine lv_iload_n X.1 X.2.1 dX13_feed_36 rfl (lv_at hl 1 rfl) ?_
      refine lv_goto (tgt := 76) X.1 X.2.1 dX13_feed_37 (by decide) ?_
      exact wfX13_feed_76 X hr hlk hnm hk23 _ _ _ _ _ _ _ _ _ _ _ _ hl S hf
theorem wfX13_feed_23_l {r9 : Int32} {h9 : Hp} (X : Cx p E A 8 R s m args c cX13_feed yX13_feed.cls 8) (hr : meth.sig.returnType = (some .int)) (hlk : meth.locks = false) (hnm : meth.name = yX13_feed.name) :
    ∀ (n : Nat) (x0 : Nat) (x1 : Int32) (x2 : Int32) (x3 : Int32) (x4 : Int32) (x5 : Int32) (x6 : Int32) (h : Hp) (H : Heap) (locs : List Loc) (ls : Array Slot), lv_has ls 8 [(0, rv x0), (1, .int x1), (2, .int x2), (3, .int x3), (4, .int x4), (5, .int x5), (6, .int x6)] → St E A s h H locs → lp (fun _ _ _ _ _ _ _ _ => none) (fX13_feed_23) n x0 x1 x2 x3 x4 x5 x6 h = some (r9, h9) → W p l e R s m args below meth c H locs 0 0 (MQ below (Qi E A h9 r9) args s 0 0 A) (F0 m 23 ls []) := by
  intro n
  induction n with
  | zero =>
    intro x0 x1 x2 x3 x4 x5 x6 h H locs ls hl S hf
    exact nomatch hf
  | succ n ih =>
    intro x0 x1 x2 x3 x4 x5 x6 h H locs ls hl S hf
    exact wfX13_feed_23 X hr hlk hnm ih x0 x1 x2 x3 x4 x5 x6 h H locs ls hl S hf
def fX13_feed (a0 : Nat) (a1 : Int32) (a2 : Int32) (a3 : Int32) (a4 : Int32) (a5 : Int32) (h : Hp) : Option (Int32 × Hp) := gd 11 a0 h (ob (pI 11 a0 2 0 h) fun h => ob (gI 11 a0 16 h) fun v1 => if (v1 + 20) ≤ 700 then lp (fun _ _ _ _ _ _ _ _ => none) (fX13_feed_23) FU a0 a1 a2 a3 a4 a5 0 h else some ((-1), h))
theorem tkX13_feed {a0 : Nat} {a1 : Int32} {a2 : Int32} {a3 : Int32} {a4 : Int32} {a5 : Int32} {h : Hp} {r9 : Int32 × Hp} (e : fX13_feed a0 a1 a2 a3 a4 a5 h = some r9) : hK h a0 = 11 := by
  unfold fX13_feed at e
  exact (gd_some e).1
theorem cX13_feed_m (l : Launch) {E : EE} {A : Nat → Prop} {a0 : Nat} {a1 : Int32} {a2 : Int32} {a3 : Int32} {a4 : Int32} {a5 : Int32} {h : Hp} {r9 : Int32} {h9 : Hp} (hf : fX13_feed a0 a1 a2 a3 a4 a5 h = some (r9, h9)) : Met l yX13_feed (wsM yX13_feed cX13_feed 8 (some .int)) (rmm 8 0 0) (PcE E A h [rv a0, .int a1, .int a2, .int a3, .int a4, .int a5]) (Qi E A h9 r9) 0 0 A := by
  refine met_of (by decide +kernel) (by simp [lg_sl, cat_rv, cat_wv, cat_sv, cat_i, cat_l, cat_a]) (fun p e s m args below meth c ls X hr hlk hnm S hl => ?_)
  have hl : lv_has ls 8 [(0, rv a0), (1, .int a1), (2, .int a2), (3, .int a3), (4, .int a4), (5, .int a5)] := by simpa [lv_args, cat_rv, cat_wv, cat_sv, cat_i, cat_l, cat_a] using hl
  generalize hH : s.heap = H at S ⊢
  generalize hlo : ([] : List Loc) = locs at S ⊢
  clear hH hlo
  unfold fX13_feed at hf
  obtain ⟨hth, hf⟩ := gd_some hf
  refine g_aload_n X (or_rv _) dX13_feed_0 rfl (lv_at hl 0 rfl) ?_
  refine lv_iconst (v := 0) X.1 X.2.1 dX13_feed_1 (by decide) ?_
  refine g_pI X S fpX13_187 (Or.inl rfl) dX13_feed_2 hf (fun h H locs hm hf S => ?_)
  refine g_aload_n X (or_rv _) dX13_feed_5 rfl (lv_at hl 0 rfl) ?_
  refine g_gI X S foX13_190 rfl dX13_feed_6 hf (fun v1 hf => ?_)
  refine lv_bipush (v := 20) X.1 X.2.1 dX13_feed_9 (by decide) ?_
  refine lv_iadd X.1 X.2.1 dX13_feed_11 ?_
  refine lv_sipush (v := 700) X.1 X.2.1 dX13_feed_12 (by decide) ?_
  refine lv_icmp_le (tgt := 20) X.1 X.2.1 dX13_feed_15 (by decide) (fun c2 => ?_) (fun c2 => ?_)
  · replace hf := (if_pos c2).symm.trans hf
    refine lv_iconst (v := 0) X.1 X.2.1 dX13_feed_20 (by decide) ?_
    refine lv_istore (lv' := [(6, .int 0), (0, rv a0), (1, .int a1), (2, .int a2), (3, .int a3), (4, .int a4), (5, .int a5)]) X.1 X.2.1 dX13_feed_21 hl (by decide) rfl (fun ls hl => ?_)
    exact wfX13_feed_23_l X hr hlk hnm FU _ _ _ _ _ _ _ _ _ _ _ (lv_sub hl [1, 2, 3, 4, 5, 6, 0] rfl) S hf
  · replace hf := (if_neg c2).symm.trans hf
    refine lv_iconst (v := (-1)) X.1 X.2.1 dX13_feed_18 (by decide) ?_
    cases hf; exact g_ri X S hr hlk dX13_feed_19
def fX13_byteAt (a0 : Nat) (a1 : Int32) (h : Hp) : Option (Int32) := gd 11 a0 h (ob (gI 11 a0 18 h) fun v1 => if v1 ≤ a1 then some (-1) else ob (gR 11 a0 15 h) fun v3 => ob (aI v3 a1 h) fun v4 => some v4)
theorem tkX13_byteAt {a0 : Nat} {a1 : Int32} {h : Hp} {r9 : Int32} (e : fX13_byteAt a0 a1 h = some r9) : hK h a0 = 11 := by
  unfold fX13_byteAt at e
  exact (gd_some e).1
theorem cX13_byteAt_m (l : Launch) {E : EE} {A : Nat → Prop} {a0 : Nat} {a1 : Int32} {h : Hp} {r9 : Int32} (hf : fX13_byteAt a0 a1 h = some r9) : Met l yX13_byteAt (wsM yX13_byteAt cX13_byteAt 2 (some .int)) (rmm 8 0 0) (PcE E A h [rv a0, .int a1]) (Qi E A h r9) 0 0 A := by
  refine met_of (by decide +kernel) (by simp [lg_sl, cat_rv, cat_wv, cat_sv, cat_i, cat_l, cat_a]) (fun p e s m args below meth c ls X hr hlk hnm S hl => ?_)
  have hl : lv_has ls 2 [(0, rv a0), (1, .int a1)] := by simpa [lv_args, cat_rv, cat_wv, cat_sv, cat_i, cat_l, cat_a] using hl
  generalize hH : s.heap = H at S ⊢
  generalize hlo : ([] : List Loc) = locs at S ⊢
  clear hH hlo
  unfold fX13_byteAt at hf
  obtain ⟨hth, hf⟩ := gd_some hf
  refine lv_iload_n X.1 X.2.1 dX13_byteAt_0 rfl (lv_at hl 1 rfl) ?_
  refine g_aload_n X (or_rv _) dX13_byteAt_1 rfl (lv_at hl 0 rfl) ?_
  refine g_gI X S foX13_193 rfl dX13_byteAt_2 hf (fun v1 hf => ?_)
  refine lv_icmp_ge (tgt := 17) X.1 X.2.1 dX13_byteAt_5 (by decide) (fun c2 => ?_) (fun c2 => ?_)
  · replace hf := (if_pos c2).symm.trans hf
    refine lv_iconst (v := (-1)) X.1 X.2.1 dX13_byteAt_17 (by decide) ?_
    cases hf; exact g_ri X S hr hlk dX13_byteAt_18
  · replace hf := (if_neg c2).symm.trans hf
    refine g_aload_n X (or_rv _) dX13_byteAt_8 rfl (lv_at hl 0 rfl) ?_
    refine g_gR X S foX13_107 dX13_byteAt_9 hf (fun v3 hf => ?_)
    refine lv_iload_n X.1 X.2.1 dX13_byteAt_12 rfl (lv_at hl 1 rfl) ?_
    refine g_aI X S dX13_byteAt_13 hf (fun v4 hf => ?_)
    refine lv_goto (tgt := 18) X.1 X.2.1 dX13_byteAt_14 (by decide) ?_
    cases hf; exact g_ri X S hr hlk dX13_byteAt_18
def fX13_isLetter (a0 : Int32) : Option (Int32) := if a0 < 97 then some 0 else if 122 < a0 then some 0 else some 1
theorem cX13_isLetter_m (l : Launch) {E : EE} {A : Nat → Prop} {a0 : Int32} {h : Hp} {r9 : Int32} (hf : fX13_isLetter a0 = some r9) : Met l yX13_isLetter (wsM yX13_isLetter cX13_isLetter 1 (some .boolean)) (rmm 8 0 0) (PcE E A h [.int a0]) (Qi E A h r9) 0 0 A := by
  refine met_of (by decide +kernel) (by simp [lg_sl, cat_rv, cat_wv, cat_sv, cat_i, cat_l, cat_a]) (fun p e s m args below meth c ls X hr hlk hnm S hl => ?_)
  have hl : lv_has ls 1 [(0, .int a0)] := by simpa [lv_args, cat_rv, cat_wv, cat_sv, cat_i, cat_l, cat_a] using hl
  generalize hH : s.heap = H at S ⊢
  generalize hlo : ([] : List Loc) = locs at S ⊢
  clear hH hlo
  unfold fX13_isLetter at hf
  refine lv_iload_n X.1 X.2.1 dX13_isLetter_0 rfl (lv_at hl 0 rfl) ?_
  refine lv_bipush (v := 97) X.1 X.2.1 dX13_isLetter_1 (by decide) ?_
  refine lv_icmp_lt (tgt := 16) X.1 X.2.1 dX13_isLetter_3 (by decide) (fun c1 => ?_) (fun c1 => ?_)
  · replace hf := (if_pos c1).symm.trans hf
    refine lv_iconst (v := 0) X.1 X.2.1 dX13_isLetter_16 (by decide) ?_
    cases hf; exact g_rz X S hr hlk (by decide) dX13_isLetter_17
  · replace hf := (if_neg c1).symm.trans hf
    refine lv_iload_n X.1 X.2.1 dX13_isLetter_6 rfl (lv_at hl 0 rfl) ?_
    refine lv_bipush (v := 122) X.1 X.2.1 dX13_isLetter_7 (by decide) ?_
    refine lv_icmp_gt (tgt := 16) X.1 X.2.1 dX13_isLetter_9 (by decide) (fun c2 => ?_) (fun c2 => ?_)
    · replace hf := (if_pos c2).symm.trans hf
      refine lv_iconst (v := 0) X.1 X.2.1 dX13_isLetter_16 (by decide) ?_
      cases hf; exact g_rz X S hr hlk (by decide) dX13_isLetter_17
    · replace hf := (if_neg c2).symm.trans hf
      refine lv_iconst (v := 1) X.1 X.2.1 dX13_isLetter_12 (by decide) ?_
      refine lv_goto (tgt := 17) X.1 X.2.1 dX13_isLetter_13 (by decide) ?_
      cases hf; exact g_rz X S hr hlk (by decide) dX13_isLetter_17
def fX13_isDigit (a0 : Int32) : Option (Int32) := if a0 < 48 then some 0 else if 57 < a0 then some 0 else some 1
theorem cX13_isDigit_m (l : Launch) {E : EE} {A : Nat → Prop} {a0 : Int32} {h : Hp} {r9 : Int32} (hf : fX13_isDigit a0 = some r9) : Met l yX13_isDigit (wsM yX13_isDigit cX13_isDigit 1 (some .boolean)) (rmm 8 0 0) (PcE E A h [.int a0]) (Qi E A h r9) 0 0 A := by
  refine met_of (by decide +kernel) (by simp [lg_sl, cat_rv, cat_wv, cat_sv, cat_i, cat_l, cat_a]) (fun p e s m args below meth c ls X hr hlk hnm S hl => ?_)
  have hl : lv_has ls 1 [(0, .int a0)] := by simpa [lv_args, cat_rv, cat_wv, cat_sv, cat_i, cat_l, cat_a] using hl
  generalize hH : s.heap = H at S ⊢
  generalize hlo : ([] : List Loc) = locs at S ⊢
  clear hH hlo
  unfold fX13_isDigit at hf
  refine lv_iload_n X.1 X.2.1 dX13_isDigit_0 rfl (lv_at hl 0 rfl) ?_
  refine lv_bipush (v := 48) X.1 X.2.1 dX13_isDigit_1 (by decide) ?_
  refine lv_icmp_lt (tgt := 16) X.1 X.2.1 dX13_isDigit_3 (by decide) (fun c1 => ?_) (fun c1 => ?_)
  · replace hf := (if_pos c1).symm.trans hf
    refine lv_iconst (v := 0) X.1 X.2.1 dX13_isDigit_16 (by decide) ?_
    cases hf; exact g_rz X S hr hlk (by decide) dX13_isDigit_17
  · replace hf := (if_neg c1).symm.trans hf
    refine lv_iload_n X.1 X.2.1 dX13_isDigit_6 rfl (lv_at hl 0 rfl) ?_
    refine lv_bipush (v := 57) X.1 X.2.1 dX13_isDigit_7 (by decide) ?_
    refine lv_icmp_gt (tgt := 16) X.1 X.2.1 dX13_isDigit_9 (by decide) (fun c2 => ?_) (fun c2 => ?_)
    · replace hf := (if_pos c2).symm.trans hf
      refine lv_iconst (v := 0) X.1 X.2.1 dX13_isDigit_16 (by decide) ?_
      cases hf; exact g_rz X S hr hlk (by decide) dX13_isDigit_17
    · replace hf := (if_neg c2).symm.trans hf
      refine lv_iconst (v := 1) X.1 X.2.1 dX13_isDigit_12 (by decide) ?_
      refine lv_goto (tgt := 17) X.1 X.2.1 dX13_isDigit_13 (by decide) ?_
      cases hf; exact g_rz X S hr hlk (by decide) dX13_isDigit_17
def fX13_isHex (a0 : Int32) : Option (Int32) := ob (fX13_isDigit a0) fun v1 => if v1 = 0 then if a0 < 97 then some 0 else if 102 < a0 then some 0 else some 1 else some 1
theorem cX13_isHex_m (l : Launch) {E : EE} {A : Nat → Prop} {a0 : Int32} {h : Hp} {r9 : Int32} (hf : fX13_isHex a0 = some r9) : Met l yX13_isHex (wsM yX13_isHex cX13_isHex 1 (some .boolean)) (rmm 9 0 0) (PcE E A h [.int a0]) (Qi E A h r9) 0 0 A := by
  refine met_of (by decide +kernel) (by simp [lg_sl, cat_rv, cat_wv, cat_sv, cat_i, cat_l, cat_a]) (fun p e s m args below meth c ls X hr hlk hnm S hl => ?_)
  have hl : lv_has ls 1 [(0, .int a0)] := by simpa [lv_args, cat_rv, cat_wv, cat_sv, cat_i, cat_l, cat_a] using hl
  generalize hH : s.heap = H at S ⊢
  generalize hlo : ([] : List Loc) = locs at S ⊢
  clear hH hlo
  unfold fX13_isHex at hf
  refine lv_iload_n X.1 X.2.1 dX13_isHex_0 rfl (lv_at hl 0 rfl) ?_
  obtain ⟨v1, hc, hf⟩ := ob_some hf
  refine g_ci S (runS (As := [.int a0]) (rest := []) X S coX13_196 (by decide) (cX13_isDigit_m l hc) rfl hl.1 (by decide) rfl ⟨Nat.zero_le _, Nat.zero_le _⟩ dX13_isHex_1) (fun H locs S => ?_)
  refine lv_if_ne (tgt := 19) X.1 X.2.1 dX13_isHex_4 (by decide) (fun c2 => ?_) (fun c2 => ?_)
  · replace hf := (if_neg c2).symm.trans hf
    refine lv_iconst (v := 1) X.1 X.2.1 dX13_isHex_19 (by decide) ?_
    refine lv_goto (tgt := 24) X.1 X.2.1 dX13_isHex_20 (by decide) ?_
    cases hf; exact g_rz X S hr hlk (by decide) dX13_isHex_24
  · replace hf := (if_pos c2).symm.trans hf
    refine lv_iload_n X.1 X.2.1 dX13_isHex_7 rfl (lv_at hl 0 rfl) ?_
    refine lv_bipush (v := 97) X.1 X.2.1 dX13_isHex_8 (by decide) ?_
    refine lv_icmp_lt (tgt := 23) X.1 X.2.1 dX13_isHex_10 (by decide) (fun c3 => ?_) (fun c3 => ?_)
    · replace hf := (if_pos c3).symm.trans hf
      refine lv_iconst (v := 0) X.1 X.2.1 dX13_isHex_23 (by decide) ?_
      cases hf; exact g_rz X S hr hlk (by decide) dX13_isHex_24
    · replace hf := (if_neg c3).symm.trans hf
      refine lv_iload_n X.1 X.2.1 dX13_isHex_13 rfl (lv_at hl 0 rfl) ?_
      refine lv_bipush (v := 102) X.1 X.2.1 dX13_isHex_14 (by decide) ?_
      refine lv_icmp_gt (tgt := 23) X.1 X.2.1 dX13_isHex_16 (by decide) (fun c4 => ?_) (fun c4 => ?_)
      · replace hf := (if_pos c4).symm.trans hf
        refine lv_iconst (v := 0) X.1 X.2.1 dX13_isHex_23 (by decide) ?_
        cases hf; exact g_rz X S hr hlk (by decide) dX13_isHex_24
      · replace hf := (if_neg c4).symm.trans hf
        refine lv_iconst (v := 1) X.1 X.2.1 dX13_isHex_19 (by decide) ?_
        refine lv_goto (tgt := 24) X.1 X.2.1 dX13_isHex_20 (by decide) ?_
        cases hf; exact g_rz X S hr hlk (by decide) dX13_isHex_24
def fX13_stepOn_26 (k0 : Nat → Hp → Option (Hp)) (x0 : Nat) (h : Hp) : Option (Hp) := ob (gI 11 x0 17 h) fun v1 => ob (pI 11 x0 17 (v1 + 1) h) fun h => k0 x0 h
theorem wfX13_stepOn_26 {k0 : Nat → Hp → Option (Hp)} {h9 : Hp} (X : Cx p E A 10 R s m args c cX13_stepOn yX13_stepOn.cls 2) (hr : meth.sig.returnType = none) (hlk : meth.locks = false) (hnm : meth.name = yX13_stepOn.name) (hk0 : ∀ (x0 : Nat) (h : Hp) (H : Heap) (locs : List Loc) (ls : Array Slot), lv_has ls 2 [(0, rv x0)] → St E A s h H locs → k0 x0 h = some h9 → W p l e R s m args below meth c H locs 0 0 (MQ below (Qv E A h9) args s 0 0 A) (F0 m 0 ls [])) :
    ∀ (x0 : Nat) (h : Hp) (H : Heap) (locs : List Loc) (ls : Array Slot), lv_has ls 2 [(0, rv x0)] → St E A s h H locs → fX13_stepOn_26 k0 x0 h = some h9 → W p l e R s m args below meth c H locs 0 0 (MQ below (Qv E A h9) args s 0 0 A) (F0 m 26 ls []) := by
  intro x0 h H locs ls hl S hf
  unfold fX13_stepOn_26 at hf
  refine g_aload_n X (or_rv _) dX13_stepOn_26 rfl (lv_at hl 0 rfl) ?_
  refine lv_dup X.1 X.2.1 dX13_stepOn_27 (cat_rv _) ?_
  refine g_gI X S foX13_200 rfl dX13_stepOn_28 hf (fun v1 hf => ?_)
  refine lv_iconst (v := 1) X.1 X.2.1 dX13_stepOn_31 (by decide) ?_
  refine lv_iadd X.1 X.2.1 dX13_stepOn_32 ?_
  refine g_pI X S fpX13_200 (Or.inl rfl) dX13_stepOn_33 hf (fun h H locs hm hf S => ?_)
  refine lv_goto (tgt := 0) X.1 X.2.1 dX13_stepOn_36 (by decide) ?_
  exact hk0 _ _ _ _ _ hl S hf
def fX13_stepOn_76 (k289 : Nat → Hp → Option (Hp)) (k76 : Nat → Hp → Option (Hp)) (x0 : Nat) (h : Hp) : Option (Hp) := ob (gI 11 x0 17 h) fun v1 => ob (fX13_byteAt x0 v1 h) fun v2 => ob (fX13_isLetter v2) fun v3 => if v3 = 0 then ob (pI 11 x0 19 1 h) fun h => k289 x0 h else ob (gI 11 x0 17 h) fun v5 => ob (pI 11 x0 17 (v5 + 1) h) fun h => k76 x0 h
theorem wfX13_stepOn_76 {k289 : Nat → Hp → Option (Hp)} {k76 : Nat → Hp → Option (Hp)} {h9 : Hp} (X : Cx p E A 10 R s m args c cX13_stepOn yX13_stepOn.cls 2) (hr : meth.sig.returnType = none) (hlk : meth.locks = false) (hnm : meth.name = yX13_stepOn.name) (hk289 : ∀ (x0 : Nat) (h : Hp) (H : Heap) (locs : List Loc) (ls : Array Slot), lv_has ls 2 [(0, rv x0)] → St E A s h H locs → k289 x0 h = some h9 → W p l e R s m args below meth c H locs 0 0 (MQ below (Qv E A h9) args s 0 0 A) (F0 m 289 ls [])) (hk76 : ∀ (x0 : Nat) (h : Hp) (H : Heap) (locs : List Loc) (ls : Array Slot), lv_has ls 2 [(0, rv x0)] → St E A s h H locs → k76 x0 h = some h9 → W p l e R s m args below meth c H locs 0 0 (MQ below (Qv E A h9) args s 0 0 A) (F0 m 76 ls [])) :
    ∀ (x0 : Nat) (h : Hp) (H : Heap) (locs : List Loc) (ls : Array Slot), lv_has ls 2 [(0, rv x0)] → St E A s h H locs → fX13_stepOn_76 k289 k76 x0 h = some h9 → W p l e R s m args below meth c H locs 0 0 (MQ below (Qv E A h9) args s 0 0 A) (F0 m 76 ls []) := by
  intro x0 h H locs ls hl S hf
  unfold fX13_stepOn_76 at hf
  refine g_aload_n X (or_rv _) dX13_stepOn_76 rfl (lv_at hl 0 rfl) ?_
  refine g_aload_n X (or_rv _) dX13_stepOn_77 rfl (lv_at hl 0 rfl) ?_
  refine g_gI X S foX13_200 rfl dX13_stepOn_78 hf (fun v1 hf => ?_)
  obtain ⟨v2, hc, hf⟩ := ob_some hf
  refine g_ci S (runV (As := [.int v1]) (rest := []) X S coX13_202 (by decide) (cX13_byteAt_m l hc) (tkX13_byteAt hc) rfl hl.1 (by decide) rfl ⟨Nat.zero_le _, Nat.zero_le _⟩ dX13_stepOn_81) (fun H locs S => ?_)
  obtain ⟨v3, hc, hf⟩ := ob_some hf
  refine g_ci S (runS (As := [.int v2]) (rest := []) X S coX13_212 (by decide) (cX13_isLetter_m l hc) rfl hl.1 (by decide) rfl ⟨Nat.zero_le _, Nat.zero_le _⟩ dX13_stepOn_84) (fun H locs S => ?_)
  refine lv_if_eq (tgt := 103) X.1 X.2.1 dX13_stepOn_87 (by decide) (fun c4 => ?_) (fun c4 => ?_)
  · replace hf := (if_pos c4).symm.trans hf
    refine g_aload_n X (or_rv _) dX13_stepOn_103 rfl (lv_at hl 0 rfl) ?_
    refine lv_iconst (v := 1) X.1 X.2.1 dX13_stepOn_104 (by decide) ?_
    refine g_pI X S fpX13_209 (Or.inl rfl) dX13_stepOn_105 hf (fun h H locs hm hf S => ?_)
    refine lv_goto (tgt := 289) X.1 X.2.1 dX13_stepOn_108 (by decide) ?_
    exact hk289 _ _ _ _ _ hl S hf
  · replace hf := (if_neg c4).symm.trans hf
    refine g_aload_n X (or_rv _) dX13_stepOn_90 rfl (lv_at hl 0 rfl) ?_
    refine lv_dup X.1 X.2.1 dX13_stepOn_91 (cat_rv _) ?_
    refine g_gI X S foX13_200 rfl dX13_stepOn_92 hf (fun v5 hf => ?_)
    refine lv_iconst (v := 1) X.1 X.2.1 dX13_stepOn_95 (by decide) ?_
    refine lv_iadd X.1 X.2.1 dX13_stepOn_96 ?_
    refine g_pI X S fpX13_200 (Or.inl rfl) dX13_stepOn_97 hf (fun h H locs hm hf S => ?_)
    refine lv_goto (tgt := 76) X.1 X.2.1 dX13_stepOn_100 (by decide) ?_
    exact hk76 _ _ _ _ _ hl S hf
theorem wfX13_stepOn_76_l {k289 : Nat → Hp → Option (Hp)} {h9 : Hp} (X : Cx p E A 10 R s m args c cX13_stepOn yX13_stepOn.cls 2) (hr : meth.sig.returnType = none) (hlk : meth.locks = false) (hnm : meth.name = yX13_stepOn.name) (hk289 : ∀ (x0 : Nat) (h : Hp) (H : Heap) (locs : List Loc) (ls : Array Slot), lv_has ls 2 [(0, rv x0)] → St E A s h H locs → k289 x0 h = some h9 → W p l e R s m args below meth c H locs 0 0 (MQ below (Qv E A h9) args s 0 0 A) (F0 m 289 ls [])) :
    ∀ (n : Nat) (x0 : Nat) (h : Hp) (H : Heap) (locs : List Loc) (ls : Array Slot), lv_has ls 2 [(0, rv x0)] → St E A s h H locs → lp (fun _ _ => none) (fX13_stepOn_76 k289) n x0 h = some h9 → W p l e R s m args below meth c H locs 0 0 (MQ below (Qv E A h9) args s 0 0 A) (F0 m 76 ls []) := by
  intro n
  induction n with
  | zero =>
    intro x0 h H locs ls hl S hf
    exact nomatch hf
  | succ n ih =>
    intro x0 h H locs ls hl S hf
    exact wfX13_stepOn_76 X hr hlk hnm hk289 ih x0 h H locs ls hl S hf
def fX13_stepOn_123 (k289 : Nat → Hp → Option (Hp)) (k123 : Nat → Hp → Option (Hp)) (x0 : Nat) (h : Hp) : Option (Hp) := ob (gI 11 x0 17 h) fun v1 => ob (fX13_byteAt x0 v1 h) fun v2 => ob (fX13_isDigit v2) fun v3 => if v3 = 0 then ob (pI 11 x0 19 2 h) fun h => k289 x0 h else ob (gI 11 x0 20 h) fun v5 => ob (gI 11 x0 17 h) fun v6 => ob (fX13_byteAt x0 v6 h) fun v7 => ob (pI 11 x0 20 (imin 100000 (((10 * v5) + v7) - 48)) h) fun h => ob (gI 11 x0 17 h) fun v8 => ob (pI 11 x0 17 (v8 + 1) h) fun h => k123 x0 h
theorem wfX13_stepOn_123 {k289 : Nat → Hp → Option (Hp)} {k123 : Nat → Hp → Option (Hp)} {h9 : Hp} (X : Cx p E A 10 R s m args c cX13_stepOn yX13_stepOn.cls 2) (hr : meth.sig.returnType = none) (hlk : meth.locks = false) (hnm : meth.name = yX13_stepOn.name) (hk289 : ∀ (x0 : Nat) (h : Hp) (H : Heap) (locs : List Loc) (ls : Array Slot), lv_has ls 2 [(0, rv x0)] → St E A s h H locs → k289 x0 h = some h9 → W p l e R s m args below meth c H locs 0 0 (MQ below (Qv E A h9) args s 0 0 A) (F0 m 289 ls [])) (hk123 : ∀ (x0 : Nat) (h : Hp) (H : Heap) (locs : List Loc) (ls : Array Slot), lv_has ls 2 [(0, rv x0)] → St E A s h H locs → k123 x0 h = some h9 → W p l e R s m args below meth c H locs 0 0 (MQ below (Qv E A h9) args s 0 0 A) (F0 m 123 ls [])) :
    ∀ (x0 : Nat) (h : Hp) (H : Heap) (locs : List Loc) (ls : Array Slot), lv_has ls 2 [(0, rv x0)] → St E A s h H locs → fX13_stepOn_123 k289 k123 x0 h = some h9 → W p l e R s m args below meth c H locs 0 0 (MQ below (Qv E A h9) args s 0 0 A) (F0 m 123 ls []) := by
  intro x0 h H locs ls hl S hf
  unfold fX13_stepOn_123 at hf
  refine g_aload_n X (or_rv _) dX13_stepOn_123 rfl (lv_at hl 0 rfl) ?_
  refine g_aload_n X (or_rv _) dX13_stepOn_124 rfl (lv_at hl 0 rfl) ?_
  refine g_gI X S foX13_200 rfl dX13_stepOn_125 hf (fun v1 hf => ?_)
  obtain ⟨v2, hc, hf⟩ := ob_some hf
  refine g_ci S (runV (As := [.int v1]) (rest := []) X S coX13_202 (by decide) (cX13_byteAt_m l hc) (tkX13_byteAt hc) rfl hl.1 (by decide) rfl ⟨Nat.zero_le _, Nat.zero_le _⟩ dX13_stepOn_128) (fun H locs S => ?_)
  obtain ⟨v3, hc, hf⟩ := ob_some hf
  refine g_ci S (runS (As := [.int v2]) (rest := []) X S coX13_196 (by decide) (cX13_isDigit_m l hc) rfl hl.1 (by decide) rfl ⟨Nat.zero_le _, Nat.zero_le _⟩ dX13_stepOn_131) (fun H locs S => ?_)
  refine lv_if_eq (tgt := 178) X.1 X.2.1 dX13_stepOn_134 (by decide) (fun c4 => ?_) (fun c4 => ?_)
  · replace hf := (if_pos c4).symm.trans hf
    refine g_aload_n X (or_rv _) dX13_stepOn_178 rfl (lv_at hl 0 rfl) ?_
    refine lv_iconst (v := 2) X.1 X.2.1 dX13_stepOn_179 (by decide) ?_
    refine g_pI X S fpX13_209 (Or.inl rfl) dX13_stepOn_180 hf (fun h H locs hm hf S => ?_)
    refine lv_goto (tgt := 289) X.1 X.2.1 dX13_stepOn_183 (by decide) ?_
    exact hk289 _ _ _ _ _ hl S hf
  · replace hf := (if_neg c4).symm.trans hf
    refine g_aload_n X (or_rv _) dX13_stepOn_137 rfl (lv_at hl 0 rfl) ?_
    refine lv_ldc X.1 X.2.1 X.2.2.2.1 (X.2.2.1 _ kuX13_218) dX13_stepOn_138 ?_
    refine lv_bipush (v := 10) X.1 X.2.1 dX13_stepOn_140 (by decide) ?_
    refine g_aload_n X (or_rv _) dX13_stepOn_142 rfl (lv_at hl 0 rfl) ?_
    refine g_gI X S foX13_215 rfl dX13_stepOn_143 hf (fun v5 hf => ?_)
    refine lv_imul X.1 X.2.1 dX13_stepOn_146 ?_
    refine g_aload_n X (or_rv _) dX13_stepOn_147 rfl (lv_at hl 0 rfl) ?_
    refine g_aload_n X (or_rv _) dX13_stepOn_148 rfl (lv_at hl 0 rfl) ?_
    refine g_gI X S foX13_200 rfl dX13_stepOn_149 hf (fun v6 hf => ?_)
    obtain ⟨v7, hc, hf⟩ := ob_some hf
    refine g_ci S (runV (As := [.int v6]) (rest := [.int (10 * v5), .int 100000, rv x0]) X S coX13_202 (by decide) (cX13_byteAt_m l hc) (tkX13_byteAt hc) rfl hl.1 (by simp [cat_rv, cat_wv, cat_sv, cat_i, cat_l, cat_a]) rfl ⟨Nat.zero_le _, Nat.zero_le _⟩ dX13_stepOn_152) (fun H locs S => ?_)
    refine lv_iadd X.1 X.2.1 dX13_stepOn_155 ?_
    refine lv_bipush (v := 48) X.1 X.2.1 dX13_stepOn_156 (by decide) ?_
    refine lv_isub X.1 X.2.1 dX13_stepOn_158 ?_
    refine g_min (rest := [rv x0]) X hl.1 (by decide) (by simp [cat_rv, cat_wv, cat_sv, cat_i, cat_l, cat_a]) mlX13_219 u_min_s u_math u_min_c (Nat.zero_le _) (Nat.zero_le _) dX13_stepOn_159 ?_
    refine g_pI X S fpX13_215 (Or.inl rfl) dX13_stepOn_162 hf (fun h H locs hm hf S => ?_)
    refine g_aload_n X (or_rv _) dX13_stepOn_165 rfl (lv_at hl 0 rfl) ?_
    refine lv_dup X.1 X.2.1 dX13_stepOn_166 (cat_rv _) ?_
    refine g_gI X S foX13_200 rfl dX13_stepOn_167 hf (fun v8 hf => ?_)
    refine lv_iconst (v := 1) X.1 X.2.1 dX13_stepOn_170 (by decide) ?_
    refine lv_iadd X.1 X.2.1 dX13_stepOn_171 ?_
    refine g_pI X S fpX13_200 (Or.inl rfl) dX13_stepOn_172 hf (fun h H locs hm hf S => ?_)
    refine lv_goto (tgt := 123) X.1 X.2.1 dX13_stepOn_175 (by decide) ?_
    exact hk123 _ _ _ _ _ hl S hf
theorem wfX13_stepOn_123_l {k289 : Nat → Hp → Option (Hp)} {h9 : Hp} (X : Cx p E A 10 R s m args c cX13_stepOn yX13_stepOn.cls 2) (hr : meth.sig.returnType = none) (hlk : meth.locks = false) (hnm : meth.name = yX13_stepOn.name) (hk289 : ∀ (x0 : Nat) (h : Hp) (H : Heap) (locs : List Loc) (ls : Array Slot), lv_has ls 2 [(0, rv x0)] → St E A s h H locs → k289 x0 h = some h9 → W p l e R s m args below meth c H locs 0 0 (MQ below (Qv E A h9) args s 0 0 A) (F0 m 289 ls [])) :
    ∀ (n : Nat) (x0 : Nat) (h : Hp) (H : Heap) (locs : List Loc) (ls : Array Slot), lv_has ls 2 [(0, rv x0)] → St E A s h H locs → lp (fun _ _ => none) (fX13_stepOn_123 k289) n x0 h = some h9 → W p l e R s m args below meth c H locs 0 0 (MQ below (Qv E A h9) args s 0 0 A) (F0 m 123 ls []) := by
  intro n
  induction n with
  | zero =>
    intro x0 h H locs ls hl S hf
    exact nomatch hf
  | succ n ih =>
    intro x0 h H locs ls hl S hf
    exact wfX13_stepOn_123 X hr hlk hnm hk289 ih x0 h H locs ls hl S hf
def fX13_stepOn_221 (k226 : Nat → Int32 → Int32 → Nat → Hp → Option (Hp)) (x0 : Nat) (x1 : Int32) (y0 : Nat) (h : Hp) : Option (Hp) := k226 x0 x1 4 y0 h
theorem wfX13_stepOn_221 {k226 : Nat → Int32 → Int32 → Nat → Hp → Option (Hp)} {h9 : Hp} (X : Cx p E A 10 R s m args c cX13_stepOn yX13_stepOn.cls 2) (hr : meth.sig.returnType = none) (hlk : meth.locks = false) (hnm : meth.name = yX13_stepOn.name) (hk226 : ∀ (x0 : Nat) (x1 : Int32) (y0 : Int32) (y1 : Nat) (h : Hp) (H : Heap) (locs : List Loc) (ls : Array Slot), lv_has ls 2 [(0, rv x0), (1, .int x1)] → St E A s h H locs → k226 x0 x1 y0 y1 h = some h9 → W p l e R s m args below meth c H locs 0 0 (MQ below (Qv E A h9) args s 0 0 A) (F0 m 226 ls [.int y0, rv y1])) :
    ∀ (x0 : Nat) (x1 : Int32) (y0 : Nat) (h : Hp) (H : Heap) (locs : List Loc) (ls : Array Slot), lv_has ls 2 [(0, rv x0), (1, .int x1)] → St E A s h H locs → fX13_stepOn_221 k226 x0 x1 y0 h = some h9 → W p l e R s m args below meth c H locs 0 0 (MQ below (Qv E A h9) args s 0 0 A) (F0 m 221 ls [rv y0]) := by
  intro x0 x1 y0 h H locs ls hl S hf
  unfold fX13_stepOn_221 at hf
  refine lv_iconst (v := 4) X.1 X.2.1 dX13_stepOn_221 (by decide) ?_
  refine lv_goto (tgt := 226) X.1 X.2.1 dX13_stepOn_222 (by decide) ?_
  exact hk226 _ _ _ _ _ _ _ _ hl S hf
def fX13_stepOn_254 (k289 : Nat → Hp → Option (Hp)) (k254 : Nat → Hp → Option (Hp)) (x0 : Nat) (h : Hp) : Option (Hp) := ob (gI 11 x0 19 h) fun v1 => if v1 = 3 then ob (gI 11 x0 17 h) fun v3 => ob (fX13_byteAt x0 v3 h) fun v4 => ob (fX13_isHex v4) fun v5 => if v5 = 0 then k289 x0 h else ob (gI 11 x0 17 h) fun v7 => ob (pI 11 x0 17 (v7 + 1) h) fun h => k254 x0 h else k289 x0 h
theorem wfX13_stepOn_254 {k289 : Nat → Hp → Option (Hp)} {k254 : Nat → Hp → Option (Hp)} {h9 : Hp} (X : Cx p E A 10 R s m args c cX13_stepOn yX13_stepOn.cls 2) (hr : meth.sig.returnType = none) (hlk : meth.locks = false) (hnm : meth.name = yX13_stepOn.name) (hk289 : ∀ (x0 : Nat) (h : Hp) (H : Heap) (locs : List Loc) (ls : Array Slot), lv_has ls 2 [(0, rv x0)] → St E A s h H locs → k289 x0 h = some h9 → W p l e R s m args below meth c H locs 0 0 (MQ below (Qv E A h9) args s 0 0 A) (F0 m 289 ls [])) (hk254 : ∀ (x0 : Nat) (h : Hp) (H : Heap) (locs : List Loc) (ls : Array Slot), lv_has ls 2 [(0, rv x0)] → St E A s h H locs → k254 x0 h = some h9 → W p l e R s m args below meth c H locs 0 0 (MQ below (Qv E A h9) args s 0 0 A) (F0 m 254 ls [])) :
    ∀ (x0 : Nat) (h : Hp) (H : Heap) (locs : List Loc) (ls : Array Slot), lv_has ls 2 [(0, rv x0)] → St E A s h H locs → fX13_stepOn_254 k289 k254 x0 h = some h9 → W p l e R s m args below meth c H locs 0 0 (MQ below (Qv E A h9) args s 0 0 A) (F0 m 254 ls []) := by
  intro x0 h H locs ls hl S hf
  unfold fX13_stepOn_254 at hf
  refine g_aload_n X (or_rv _) dX13_stepOn_254 rfl (lv_at hl 0 rfl) ?_
  refine g_gI X S foX13_209 rfl dX13_stepOn_255 hf (fun v1 hf => ?_)
  refine lv_iconst (v := 3) X.1 X.2.1 dX13_stepOn_258 (by decide) ?_
  refine lv_icmp_ne (tgt := 289) X.1 X.2.1 dX13_stepOn_259 (by decide) (fun c2 => ?_) (fun c2 => ?_)
  · replace hf := (if_neg c2).symm.trans hf
    exact hk289 _ _ _ _ _ hl S hf
  · replace hf := (if_pos c2).symm.trans hf
    refine g_aload_n X (or_rv _) dX13_stepOn_262 rfl (lv_at hl 0 rfl) ?_
    refine g_aload_n X (or_rv _) dX13_stepOn_263 rfl (lv_at hl 0 rfl) ?_
    refine g_gI X S foX13_200 rfl dX13_stepOn_264 hf (fun v3 hf => ?_)
    obtain ⟨v4, hc, hf⟩ := ob_some hf
    refine g_ci S (runV (As := [.int v3]) (rest := []) X S coX13_202 (by decide) (cX13_byteAt_m l hc) (tkX13_byteAt hc) rfl hl.1 (by decide) rfl ⟨Nat.zero_le _, Nat.zero_le _⟩ dX13_stepOn_267) (fun H locs S => ?_)
    obtain ⟨v5, hc, hf⟩ := ob_some hf
    refine g_ci S (runS (As := [.int v4]) (rest := []) X S coX13_225 (by decide) (cX13_isHex_m l hc) rfl hl.1 (by decide) rfl ⟨Nat.zero_le _, Nat.zero_le _⟩ dX13_stepOn_270) (fun H locs S => ?_)
    refine lv_if_eq (tgt := 289) X.1 X.2.1 dX13_stepOn_273 (by decide) (fun c6 => ?_) (fun c6 => ?_)
    · replace hf := (if_pos c6).symm.trans hf
      exact hk289 _ _ _ _ _ hl S hf
    · replace hf := (if_neg c6).symm.trans hf
      refine g_aload_n X (or_rv _) dX13_stepOn_276 rfl (lv_at hl 0 rfl) ?_
      refine lv_dup X.1 X.2.1 dX13_stepOn_277 (cat_rv _) ?_
      refine g_gI X S foX13_200 rfl dX13_stepOn_278 hf (fun v7 hf => ?_)
      refine lv_iconst (v := 1) X.1 X.2.1 dX13_stepOn_281 (by decide) ?_
      refine lv_iadd X.1 X.2.1 dX13_stepOn_282 ?_
      refine g_pI X S fpX13_200 (Or.inl rfl) dX13_stepOn_283 hf (fun h H locs hm hf S => ?_)
      refine lv_goto (tgt := 254) X.1 X.2.1 dX13_stepOn_286 (by decide) ?_
      exact hk254 _ _ _ _ _ hl S hf
theorem wfX13_stepOn_254_l {k289 : Nat → Hp → Option (Hp)} {h9 : Hp} (X : Cx p E A 10 R s m args c cX13_stepOn yX13_stepOn.cls 2) (hr : meth.sig.returnType = none) (hlk : meth.locks = false) (hnm : meth.name = yX13_stepOn.name) (hk289 : ∀ (x0 : Nat) (h : Hp) (H : Heap) (locs : List Loc) (ls : Array Slot), lv_has ls 2 [(0, rv x0)] → St E A s h H locs → k289 x0 h = some h9 → W p l e R s m args below meth c H locs 0 0 (MQ below (Qv E A h9) args s 0 0 A) (F0 m 289 ls [])) :
    ∀ (n : Nat) (x0 : Nat) (h : Hp) (H : Heap) (locs : List Loc) (ls : Array Slot), lv_has ls 2 [(0, rv x0)] → St E A s h H locs → lp (fun _ _ => none) (fX13_stepOn_254 k289) n x0 h = some h9 → W p l e R s m args below meth c H locs 0 0 (MQ below (Qv E A h9) args s 0 0 A) (F0 m 254 ls []) := by
  intro n
  induction n with
  | zero =>
    intro x0 h H locs ls hl S hf
    exact nomatch hf
  | succ n ih =>
    intro x0 h H locs ls hl S hf
    exact wfX13_stepOn_254 X hr hlk hnm hk289 ih x0 h H locs ls hl S hf
def fX13_stepOn_226 (k289 : Nat → Hp → Option (Hp)) (x0 : Nat) (x1 : Int32) (y0 : Int32) (y1 : Nat) (h : Hp) : Option (Hp) := ob (pI 11 y1 19 y0 h) fun h => if x1 = 35 then ob (gI 11 x0 17 h) fun v2 => ob (fX13_byteAt x0 v2 h) fun v3 => ob (fX13_isHex v3) fun v4 => if v4 = 0 then lp (fun _ _ => none) (fX13_stepOn_254 k289) FU x0 h else ob (pI 11 x0 19 3 h) fun h => lp (fun _ _ => none) (fX13_stepOn_254 k289) FU x0 h else lp (fun _ _ => none) (fX13_stepOn_254 k289) FU x0 h
theorem wfX13_stepOn_226 {k289 : Nat → Hp → Option (Hp)} {h9 : Hp} (X : Cx p E A 10 R s m args c cX13_stepOn yX13_stepOn.cls 2) (hr : meth.sig.returnType = none) (hlk : meth.locks = false) (hnm : meth.name = yX13_stepOn.name) (hk289 : ∀ (x0 : Nat) (h : Hp) (H : Heap) (locs : List Loc) (ls : Array Slot), lv_has ls 2 [(0, rv x0)] → St E A s h H locs → k289 x0 h = some h9 → W p l e R s m args below meth c H locs 0 0 (MQ below (Qv E A h9) args s 0 0 A) (F0 m 289 ls [])) :
    ∀ (x0 : Nat) (x1 : Int32) (y0 : Int32) (y1 : Nat) (h : Hp) (H : Heap) (locs : List Loc) (ls : Array Slot), lv_has ls 2 [(0, rv x0), (1, .int x1)] → St E A s h H locs → fX13_stepOn_226 k289 x0 x1 y0 y1 h = some h9 → W p l e R s m args below meth c H locs 0 0 (MQ below (Qv E A h9) args s 0 0 A) (F0 m 226 ls [.int y0, rv y1]) := by
  intro x0 x1 y0 y1 h H locs ls hl S hf
  unfold fX13_stepOn_226 at hf
  refine g_pI X S fpX13_209 (Or.inl rfl) dX13_stepOn_226 hf (fun h H locs hm hf S => ?_)
  refine lv_iload_n X.1 X.2.1 dX13_stepOn_229 rfl (lv_at hl 1 rfl) ?_
  refine lv_bipush (v := 35) X.1 X.2.1 dX13_stepOn_230 (by decide) ?_
  refine lv_icmp_ne (tgt := 254) X.1 X.2.1 dX13_stepOn_232 (by decide) (fun c1 => ?_) (fun c1 => ?_)
  · replace hf := (if_neg c1).symm.trans hf
    exact wfX13_stepOn_254_l X hr hlk hnm hk289 FU _ _ _ _ _ (lv_sub hl [0] rfl) S hf
  · replace hf := (if_pos c1).symm.trans hf
    refine g_aload_n X (or_rv _) dX13_stepOn_235 rfl (lv_at hl 0 rfl) ?_
    refine g_aload_n X (or_rv _) dX13_stepOn_236 rfl (lv_at hl 0 rfl) ?_
    refine g_gI X S foX13_200 rfl dX13_stepOn_237 hf (fun v2 hf => ?_)
    obtain ⟨v3, hc, hf⟩ := ob_some hf
    refine g_ci S (runV (As := [.int v2]) (rest := []) X S coX13_202 (by decide) (cX13_byteAt_m l hc) (tkX13_byteAt hc) rfl hl.1 (by decide) rfl ⟨Nat.zero_le _, Nat.zero_le _⟩ dX13_stepOn_240) (fun H locs S => ?_)
    obtain ⟨v4, hc, hf⟩ := ob_some hf
    refine g_ci S (runS (As := [.int v3]) (rest := []) X S coX13_225 (by decide) (cX13_isHex_m l hc) rfl hl.1 (by decide) rfl ⟨Nat.zero_le _, Nat.zero_le _⟩ dX13_stepOn_243) (fun H locs S => ?_)
    refine lv_if_eq (tgt := 254) X.1 X.2.1 dX13_stepOn_246 (by decide) (fun c5 => ?_) (fun c5 => ?_)
    · replace hf := (if_pos c5).symm.trans hf
      exact wfX13_stepOn_254_l X hr hlk hnm hk289 FU _ _ _ _ _ (lv_sub hl [0] rfl) S hf
    · replace hf := (if_neg c5).symm.trans hf
      refine g_aload_n X (or_rv _) dX13_stepOn_249 rfl (lv_at hl 0 rfl) ?_
      refine lv_iconst (v := 3) X.1 X.2.1 dX13_stepOn_250 (by decide) ?_
      refine g_pI X S fpX13_209 (Or.inl rfl) dX13_stepOn_251 hf (fun h H locs hm hf S => ?_)
      exact wfX13_stepOn_254_l X hr hlk hnm hk289 FU _ _ _ _ _ (lv_sub hl [0] rfl) S hf
def fX13_stepOn_289 (x0 : Nat) (h : Hp) : Option (Hp) := ob (gI 11 x0 17 h) fun v1 => ob (pI 11 x0 22 v1 h) fun h => some h
theorem wfX13_stepOn_289 {h9 : Hp} (X : Cx p E A 10 R s m args c cX13_stepOn yX13_stepOn.cls 2) (hr : meth.sig.returnType = none) (hlk : meth.locks = false) (hnm : meth.name = yX13_stepOn.name) :
    ∀ (x0 : Nat) (h : Hp) (H : Heap) (locs : List Loc) (ls : Array Slot), lv_has ls 2 [(0, rv x0)] → St E A s h H locs → fX13_stepOn_289 x0 h = some h9 → W p l e R s m args below meth c H locs 0 0 (MQ below (Qv E A h9) args s 0 0 A) (F0 m 289 ls []) := by
  intro x0 h H locs ls hl S hf
  unfold fX13_stepOn_289 at hf
  refine g_aload_n X (or_rv _) dX13_stepOn_289 rfl (lv_at hl 0 rfl) ?_
  refine g_aload_n X (or_rv _) dX13_stepOn_290 rfl (lv_at hl 0 rfl) ?_
  refine g_gI X S foX13_200 rfl dX13_stepOn_291 hf (fun v1 hf => ?_)
  refine g_pI X S fpX13_228 (Or.inl rfl) dX13_stepOn_294 hf (fun h H locs hm hf S => ?_)
  cases hf; exact g_rv X S hr hlk dX13_stepOn_297
def fX13_stepOn_0 (k0 : Nat → Hp → Option (Hp)) (x0 : Nat) (h : Hp) : Option (Hp) := ob (gI 11 x0 17 h) fun v1 => ob (fX13_byteAt x0 v1 h) fun v2 => if v2 = 32 then fX13_stepOn_26 k0 x0 h else ob (gI 11 x0 17 h) fun v4 => ob (fX13_byteAt x0 v4 h) fun v5 => if v5 = 10 then fX13_stepOn_26 k0 x0 h else ob (gI 11 x0 17 h) fun v7 => ob (pI 11 x0 21 v7 h) fun h => ob (gI 11 x0 17 h) fun v8 => ob (fX13_byteAt x0 v8 h) fun v9 => if v9 = (-1) then ob (pI 11 x0 19 0 h) fun h => fX13_stepOn_289 x0 h else ob (fX13_isLetter v9) fun v11 => if v11 = 0 then ob (fX13_isDigit v9) fun v13 => if v13 = 0 then ob (gI 11 x0 17 h) fun v15 => ob (pI 11 x0 17 (v15 + 1) h) fun h => if v9 = 59 then fX13_stepOn_221 (fX13_stepOn_226 fX13_stepOn_289) x0 v9 x0 h else if v9 = 58 then fX13_stepOn_221 (fX13_stepOn_226 fX13_stepOn_289) x0 v9 x0 h else if v9 = 37 then fX13_stepOn_221 (fX13_stepOn_226 fX13_stepOn_289) x0 v9 x0 h else if v9 = 45 then fX13_stepOn_221 (fX13_stepOn_226 fX13_stepOn_289) x0 v9 x0 h else fX13_stepOn_226 fX13_stepOn_289 x0 v9 5 x0 h else ob (pI 11 x0 20 0 h) fun h => lp (fun _ _ => none) (fX13_stepOn_123 fX13_stepOn_289) FU x0 h else lp (fun _ _ => none) (fX13_stepOn_76 fX13_stepOn_289) FU x0 h
theorem wfX13_stepOn_0 {k0 : Nat → Hp → Option (Hp)} {h9 : Hp} (X : Cx p E A 10 R s m args c cX13_stepOn yX13_stepOn.cls 2) (hr : meth.sig.returnType = none) (hlk : meth.locks = false) (hnm : meth.name = yX13_stepOn.name) (hk0 : ∀ (x0 : Nat) (h : Hp) (H : Heap) (locs : List Loc) (ls : Array Slot), lv_has ls 2 [(0, rv x0)] → St E A s h H locs → k0 x0 h = some h9 → W p l e R s m args below meth c H locs 0 0 (MQ below (Qv E A h9) args s 0 0 A) (F0 m 0 ls [])) :
    ∀ (x0 : Nat) (h : Hp) (H : Heap) (locs : List Loc) (ls : Array Slot), lv_has ls 2 [(0, rv x0)] → St E A s h H locs → fX13_stepOn_0 k0 x0 h = some h9 → W p l e R s m args below meth c H locs 0 0 (MQ below (Qv E A h9) args s 0 0 A) (F0 m 0 ls []) := by
  intro x0 h H locs ls hl S hf
  unfold fX13_stepOn_0 at hf
  refine g_aload_n X (or_rv _) dX13_stepOn_0 rfl (lv_at hl 0 rfl) ?_
  refine g_aload_n X (or_rv _) dX13_stepOn_1 rfl (lv_at hl 0 rfl) ?_
  refine g_gI X S foX13_200 rfl dX13_stepOn_2 hf (fun v1 hf => ?_)
  obtain ⟨v2, hc, hf⟩ := ob_some hf
  refine g_ci S (runV (As := [.int v1]) (rest := []) X S coX13_202 (by decide) (cX13_byteAt_m l hc) (tkX13_byteAt hc) rfl hl.1 (by decide) rfl ⟨Nat.zero_le _, Nat.zero_le _⟩ dX13_stepOn_5) (fun H locs S => ?_)
  refine lv_bipush (v := 32) X.1 X.2.1 dX13_stepOn_8 (by decide) ?_
  refine lv_icmp_eq (tgt := 26) X.1 X.2.1 dX13_stepOn_10 (by decide) (fun c3 => ?_) (fun c3 => ?_)
  · replace hf := (if_pos c3).symm.trans hf
    exact wfX13_stepOn_26 X hr hlk hnm hk0 _ _ _ _ _ hl S hf
  · replace hf := (if_neg c3).symm.trans hf
    refine g_aload_n X (or_rv _) dX13_stepOn_13 rfl (lv_at hl 0 rfl) ?_
    refine g_aload_n X (or_rv _) dX13_stepOn_14 rfl (lv_at hl 0 rfl) ?_
    refine g_gI X S foX13_200 rfl dX13_stepOn_15 hf (fun v4 hf => ?_)
    obtain ⟨v5, hc, hf⟩ := ob_some hf
    refine g_ci S (runV (As := [.int v4]) (rest := []) X S coX13_202 (by decide) (cX13_byteAt_m l hc) (tkX13_byteAt hc) rfl hl.1 (by decide) rfl ⟨Nat.zero_le _, Nat.zero_le _⟩ dX13_stepOn_18) (fun H locs S => ?_)
    refine lv_bipush (v := 10) X.1 X.2.1 dX13_stepOn_21 (by decide) ?_
    refine lv_icmp_ne (tgt := 39) X.1 X.2.1 dX13_stepOn_23 (by decide) (fun c6 => ?_) (fun c6 => ?_)
    · replace hf := (if_neg c6).symm.trans hf
      refine g_aload_n X (or_rv _) dX13_stepOn_39 rfl (lv_at hl 0 rfl) ?_
      refine g_aload_n X (or_rv _) dX13_stepOn_40 rfl (lv_at hl 0 rfl) ?_
      refine g_gI X S foX13_200 rfl dX13_stepOn_41 hf (fun v7 hf => ?_)
      refine g_pI X S fpX13_206 (Or.inl rfl) dX13_stepOn_44 hf (fun h H locs hm hf S => ?_)
      refine g_aload_n X (or_rv _) dX13_stepOn_47 rfl (lv_at hl 0 rfl) ?_
      refine g_aload_n X (or_rv _) dX13_stepOn_48 rfl (lv_at hl 0 rfl) ?_
      refine g_gI X S foX13_200 rfl dX13_stepOn_49 hf (fun v8 hf => ?_)
      obtain ⟨v9, hc, hf⟩ := ob_some hf
      refine g_ci S (runV (As := [.int v8]) (rest := []) X S coX13_202 (by decide) (cX13_byteAt_m l hc) (tkX13_byteAt hc) rfl hl.1 (by decide) rfl ⟨Nat.zero_le _, Nat.zero_le _⟩ dX13_stepOn_52) (fun H locs S => ?_)
      refine lv_istore_n (i := 1) (lv' := [(1, .int v9), (0, rv x0)]) X.1 X.2.1 dX13_stepOn_55 rfl hl (by decide) (by simp [List.filter, cat_rv, cat_wv, cat_sv]) (fun ls hl => ?_)
      refine lv_iload_n X.1 X.2.1 dX13_stepOn_56 rfl (lv_at hl 0 rfl) ?_
      refine lv_iconst (v := (-1)) X.1 X.2.1 dX13_stepOn_57 (by decide) ?_
      refine lv_icmp_ne (tgt := 69) X.1 X.2.1 dX13_stepOn_58 (by decide) (fun c10 => ?_) (fun c10 => ?_)
      · replace hf := (if_neg c10).symm.trans hf
        refine lv_iload_n X.1 X.2.1 dX13_stepOn_69 rfl (lv_at hl 0 rfl) ?_
        obtain ⟨v11, hc, hf⟩ := ob_some hf
        refine g_ci S (runS (As := [.int v9]) (rest := []) X S coX13_212 (by decide) (cX13_isLetter_m l hc) rfl hl.1 (by decide) rfl ⟨Nat.zero_le _, Nat.zero_le _⟩ dX13_stepOn_70) (fun H locs S => ?_)
        refine lv_if_eq (tgt := 111) X.1 X.2.1 dX13_stepOn_73 (by decide) (fun c12 => ?_) (fun c12 => ?_)
        · replace hf := (if_pos c12).symm.trans hf
          refine lv_iload_n X.1 X.2.1 dX13_stepOn_111 rfl (lv_at hl 0 rfl) ?_
          obtain ⟨v13, hc, hf⟩ := ob_some hf
          refine g_ci S (runS (As := [.int v9]) (rest := []) X S coX13_196 (by decide) (cX13_isDigit_m l hc) rfl hl.1 (by decide) rfl ⟨Nat.zero_le _, Nat.zero_le _⟩ dX13_stepOn_112) (fun H locs S => ?_)
          refine lv_if_eq (tgt := 186) X.1 X.2.1 dX13_stepOn_115 (by decide) (fun c14 => ?_) (fun c14 => ?_)
          · replace hf := (if_pos c14).symm.trans hf
            refine g_aload_n X (or_rv _) dX13_stepOn_186 rfl (lv_at hl 1 rfl) ?_
            refine lv_dup X.1 X.2.1 dX13_stepOn_187 (cat_rv _) ?_
            refine g_gI X S foX13_200 rfl dX13_stepOn_188 hf (fun v15 hf => ?_)
            refine lv_iconst (v := 1) X.1 X.2.1 dX13_stepOn_191 (by decide) ?_
            refine lv_iadd X.1 X.2.1 dX13_stepOn_192 ?_
            refine g_pI X S fpX13_200 (Or.inl rfl) dX13_stepOn_193 hf (fun h H locs hm hf S => ?_)
            refine g_aload_n X (or_rv _) dX13_stepOn_196 rfl (lv_at hl 1 rfl) ?_
            refine lv_iload_n X.1 X.2.1 dX13_stepOn_197 rfl (lv_at hl 0 rfl) ?_
            refine lv_bipush (v := 59) X.1 X.2.1 dX13_stepOn_198 (by decide) ?_
            refine lv_icmp_eq (tgt := 221) X.1 X.2.1 dX13_stepOn_200 (by decide) (fun c16 => ?_) (fun c16 => ?_)
            · replace hf := (if_pos c16).symm.trans hf
              exact wfX13_stepOn_221 X hr hlk hnm (wfX13_stepOn_226 X hr hlk hnm (wfX13_stepOn_289 X hr hlk hnm)) _ _ _ _ _ _ _ (lv_sub hl [1, 0] rfl) S hf
            · replace hf := (if_neg c16).symm.trans hf
              refine lv_iload_n X.1 X.2.1 dX13_stepOn_203 rfl (lv_at hl 0 rfl) ?_
              refine lv_bipush (v := 58) X.1 X.2.1 dX13_stepOn_204 (by decide) ?_
              refine lv_icmp_eq (tgt := 221) X.1 X.2.1 dX13_stepOn_206 (by decide) (fun c17 => ?_) (fun c17 => ?_)
              · replace hf := (if_pos c17).symm.trans hf
                exact wfX13_stepOn_221 X hr hlk hnm (wfX13_stepOn_226 X hr hlk hnm (wfX13_stepOn_289 X hr hlk hnm)) _ _ _ _ _ _ _ (lv_sub hl [1, 0] rfl) S hf
              · replace hf := (if_neg c17).symm.trans hf
                refine lv_iload_n X.1 X.2.1 dX13_stepOn_209 rfl (lv_at hl 0 rfl) ?_
                refine lv_bipush (v := 37) X.1 X.2.1 dX13_stepOn_210 (by decide) ?_
                refine lv_icmp_eq (tgt := 221) X.1 X.2.1 dX13_stepOn_212 (by decide) (fun c18 => ?_) (fun c18 => ?_)
                · replace hf := (if_pos c18).symm.trans hf
                  exact wfX13_stepOn_221 X hr hlk hnm (wfX13_stepOn_226 X hr hlk hnm (wfX13_stepOn_289 X hr hlk hnm)) _ _ _ _ _ _ _ (lv_sub hl [1, 0] rfl) S hf
                · replace hf := (if_neg c18).symm.trans hf
                  refine lv_iload_n X.1 X.2.1 dX13_stepOn_215 rfl (lv_at hl 0 rfl) ?_
                  refine lv_bipush (v := 45) X.1 X.2.1 dX13_stepOn_216 (by decide) ?_
                  refine lv_icmp_ne (tgt := 225) X.1 X.2.1 dX13_stepOn_218 (by decide) (fun c19 => ?_) (fun c19 => ?_)
                  · replace hf := (if_neg c19).symm.trans hf
                    refine lv_iconst (v := 5) X.1 X.2.1 dX13_stepOn_225 (by decide) ?_
                    exact wfX13_stepOn_226 X hr hlk hnm (wfX13_stepOn_289 X hr hlk hnm) _ _ _ _ _ _ _ _ (lv_sub hl [1, 0] rfl) S hf
                  · replace hf := (if_pos c19).symm.trans hf
                    exact wfX13_stepOn_221 X hr hlk hnm (wfX13_stepOn_226 X hr hlk hnm (wfX13_stepOn_289 X hr hlk hnm)) _ _ _ _ _ _ _ (lv_sub hl [1, 0] rfl) S hf
          · replace hf := (if_neg c14).symm.trans hf
            refine g_aload_n X (or_rv _) dX13_stepOn_118 rfl (lv_at hl 1 rfl) ?_
            refine lv_iconst (v := 0) X.1 X.2.1 dX13_stepOn_119 (by decide) ?_
            refine g_pI X S fpX13_215 (Or.inl rfl) dX13_stepOn_120 hf (fun h H locs hm hf S => ?_)
            exact wfX13_stepOn_123_l X hr hlk hnm (wfX13_stepOn_289 X hr hlk hnm) FU _ _ _ _ _ (lv_sub hl [1] rfl) S hf
        · replace hf := (if_neg c12).symm.trans hf
          exact wfX13_stepOn_76_l X hr hlk hnm (wfX13_stepOn_289 X hr hlk hnm) FU _ _ _ _ _ (lv_sub hl [1] rfl) S hf
      · replace hf := (if_pos c10).symm.trans hf
        refine g_aload_n X (or_rv _) dX13_stepOn_61 rfl (lv_at hl 1 rfl) ?_
        refine lv_iconst (v := 0) X.1 X.2.1 dX13_stepOn_62 (by decide) ?_
        refine g_pI X S fpX13_209 (Or.inl rfl) dX13_stepOn_63 hf (fun h H locs hm hf S => ?_)
        refine lv_goto (tgt := 289) X.1 X.2.1 dX13_stepOn_66 (by decide) ?_
        exact wfX13_stepOn_289 X hr hlk hnm _ _ _ _ _ (lv_sub hl [1] rfl) S hf
    · replace hf := (if_pos c6).symm.trans hf
      exact wfX13_stepOn_26 X hr hlk hnm hk0 _ _ _ _ _ hl S hf
theorem wfX13_stepOn_0_l {h9 : Hp} (X : Cx p E A 10 R s m args c cX13_stepOn yX13_stepOn.cls 2) (hr : meth.sig.returnType = none) (hlk : meth.locks = false) (hnm : meth.name = yX13_stepOn.name) :
    ∀ (n : Nat) (x0 : Nat) (h : Hp) (H : Heap) (locs : List Loc) (ls : Array Slot), lv_has ls 2 [(0, rv x0)] → St E A s h H locs → lp (fun _ _ => none) (fX13_stepOn_0) n x0 h = some h9 → W p l e R s m args below meth c H locs 0 0 (MQ below (Qv E A h9) args s 0 0 A) (F0 m 0 ls []) := by
  intro n
  induction n with
  | zero =>
    intro x0 h H locs ls hl S hf
    exact nomatch hf
  | succ n ih =>
    intro x0 h H locs ls hl S hf
    exact wfX13_stepOn_0 X hr hlk hnm ih x0 h H locs ls hl S hf
def fX13_stepOn (a0 : Nat) (h : Hp) : Option (Hp) := gd 11 a0 h (lp (fun _ _ => none) (fX13_stepOn_0) FU a0 h)
theorem tkX13_stepOn {a0 : Nat} {h : Hp} {r9 : Hp} (e : fX13_stepOn a0 h = some r9) : hK h a0 = 11 := by
  unfold fX13_stepOn at e
  exact (gd_some e).1
theorem cX13_stepOn_m (l : Launch) {E : EE} {A : Nat → Prop} {a0 : Nat} {h : Hp} {h9 : Hp} (hf : fX13_stepOn a0 h = some h9) : Met l yX13_stepOn (wsM yX13_stepOn cX13_stepOn 2 none) (rmm 10 0 0) (PcE E A h [rv a0]) (Qv E A h9) 0 0 A := by
  refine met_of (by decide +kernel) (by simp [lg_sl, cat_rv, cat_wv, cat_sv, cat_i, cat_l, cat_a]) (fun p e s m args below meth c ls X hr hlk hnm S hl => ?_)
  have hl : lv_has ls 2 [(0, rv a0)] := by simpa [lv_args, cat_rv, cat_wv, cat_sv, cat_i, cat_l, cat_a] using hl
  generalize hH : s.heap = H at S ⊢
  generalize hlo : ([] : List Loc) = locs at S ⊢
  clear hH hlo
  unfold fX13_stepOn at hf
  obtain ⟨hth, hf⟩ := gd_some hf
  exact wfX13_stepOn_0_l X hr hlk hnm FU _ _ _ _ _ hl S hf
def fX13_wrong (a0 : Nat) (a1 : Int32) (h : Hp) : Option (Hp) := gd 11 a0 h (ob (gI 11 a0 23 h) fun v1 => if v1 = 0 then ob (pI 11 a0 23 a1 h) fun h => ob (gI 11 a0 21 h) fun v3 => ob (pI 11 a0 24 v3 h) fun h => some h else some h)
theorem tkX13_wrong {a0 : Nat} {a1 : Int32} {h : Hp} {r9 : Hp} (e : fX13_wrong a0 a1 h = some r9) : hK h a0 = 11 := by
  unfold fX13_wrong at e
  exact (gd_some e).1
theorem cX13_wrong_m (l : Launch) {E : EE} {A : Nat → Prop} {a0 : Nat} {a1 : Int32} {h : Hp} {h9 : Hp} (hf : fX13_wrong a0 a1 h = some h9) : Met l yX13_wrong (wsM yX13_wrong cX13_wrong 2 none) (rmm 8 0 0) (PcE E A h [rv a0, .int a1]) (Qv E A h9) 0 0 A := by
  refine met_of (by decide +kernel) (by simp [lg_sl, cat_rv, cat_wv, cat_sv, cat_i, cat_l, cat_a]) (fun p e s m args below meth c ls X hr hlk hnm S hl => ?_)
  have hl : lv_has ls 2 [(0, rv a0), (1, .int a1)] := by simpa [lv_args, cat_rv, cat_wv, cat_sv, cat_i, cat_l, cat_a] using hl
  generalize hH : s.heap = H at S ⊢
  generalize hlo : ([] : List Loc) = locs at S ⊢
  clear hH hlo
  unfold fX13_wrong at hf
  obtain ⟨hth, hf⟩ := gd_some hf
  refine g_aload_n X (or_rv _) dX13_wrong_0 rfl (lv_at hl 0 rfl) ?_
  refine g_gI X S foX13_231 rfl dX13_wrong_1 hf (fun v1 hf => ?_)
  refine lv_if_eq (tgt := 8) X.1 X.2.1 dX13_wrong_4 (by decide) (fun c2 => ?_) (fun c2 => ?_)
  · replace hf := (if_pos c2).symm.trans hf
    refine g_aload_n X (or_rv _) dX13_wrong_8 rfl (lv_at hl 0 rfl) ?_
    refine lv_iload_n X.1 X.2.1 dX13_wrong_9 rfl (lv_at hl 1 rfl) ?_
    refine g_pI X S fpX13_231 (Or.inl rfl) dX13_wrong_10 hf (fun h H locs hm hf S => ?_)
    refine g_aload_n X (or_rv _) dX13_wrong_13 rfl (lv_at hl 0 rfl) ?_
    refine g_aload_n X (or_rv _) dX13_wrong_14 rfl (lv_at hl 0 rfl) ?_
    refine g_gI X S foX13_206 rfl dX13_wrong_15 hf (fun v3 hf => ?_)
    refine g_pI X S fpX13_234 (Or.inl rfl) dX13_wrong_18 hf (fun h H locs hm hf S => ?_)
    cases hf; exact g_rv X S hr hlk dX13_wrong_21
  · replace hf := (if_neg c2).symm.trans hf
    cases hf; exact g_rv X S hr hlk dX13_wrong_7
def fX13_is_39 (h : Hp) (k39 : Nat → Nat → Int32 → Int32 → Option (Int32)) (x0 : Nat) (x1 : Nat) (x2 : Int32) (x3 : Int32) : Option (Int32) := if x2 = 0 then rz x2 (some x2) else ob (sLen x1) fun v2 => if v2 ≤ x3 then rz x2 (some x2) else ob (sAt x1 x3) fun v4 => ob (gR 11 x0 15 h) fun v5 => ob (gI 11 x0 21 h) fun v6 => ob (aI v5 (v6 + x3) h) fun v7 => if v4 = v7 then lt (x3 + 1) fun z10 => k39 x0 x1 1 z10 else lt (x3 + 1) fun z9 => k39 x0 x1 0 z9
theorem wfX13_is_39 {h : Hp} {k39 : Nat → Nat → Int32 → Int32 → Option (Int32)} {r9 : Int32} (X : Cx p E A 8 R s m args c cX13_is yX13_is.cls 4) (hr : meth.sig.returnType = (some .boolean)) (hlk : meth.locks = false) (hnm : meth.name = yX13_is.name) (hk39 : ∀ (x0 : Nat) (x1 : Nat) (x2 : Int32) (x3 : Int32) (H : Heap) (locs : List Loc) (ls : Array Slot), lv_has ls 4 [(0, rv x0), (1, sv E x1), (2, .int x2), (3, .int x3)] → St E A s h H locs → k39 x0 x1 x2 x3 = some r9 → W p l e R s m args below meth c H locs 0 0 (MQ below (Qi E A h r9) args s 0 0 A) (F0 m 39 ls [])) :
    ∀ (x0 : Nat) (x1 : Nat) (x2 : Int32) (x3 : Int32) (H : Heap) (locs : List Loc) (ls : Array Slot), lv_has ls 4 [(0, rv x0), (1, sv E x1), (2, .int x2), (3, .int x3)] → St E A s h H locs → fX13_is_39 h k39 x0 x1 x2 x3 = some r9 → W p l e R s m args below meth c H locs 0 0 (MQ below (Qi E A h r9) args s 0 0 A) (F0 m 39 ls []) := by
  intro x0 x1 x2 x3 H locs ls hl S hf
  unfold fX13_is_39 at hf
  refine lv_iload_n X.1 X.2.1 dX13_is_39 rfl (lv_at hl 2 rfl) ?_
  refine lv_if_eq (tgt := 82) X.1 X.2.1 dX13_is_40 (by decide) (fun c1 => ?_) (fun c1 => ?_)
  · replace hf := (if_pos c1).symm.trans hf
    refine lv_iload_n X.1 X.2.1 dX13_is_82 rfl (lv_at hl 2 rfl) ?_
    obtain ⟨hz, hf⟩ := rz_some hf
    cases hf; exact g_rz X S hr hlk hz dX13_is_83
  · replace hf := (if_neg c1).symm.trans hf
    refine lv_iload_n X.1 X.2.1 dX13_is_43 rfl (lv_at hl 3 rfl) ?_
    refine g_aload_n X (or_sv _ _) dX13_is_44 rfl (lv_at hl 1 rfl) ?_
    refine g_sLen (rest := [.int x3]) X S hl.1 (by decide) (by simp [cat_rv, cat_wv, cat_sv, cat_i, cat_l, cat_a]) jfX13_237 (Nat.zero_le _) (Nat.zero_le _) dX13_is_45 hf (fun v2 H locs hf S => ?_)
    refine lv_icmp_ge (tgt := 82) X.1 X.2.1 dX13_is_48 (by decide) (fun c3 => ?_) (fun c3 => ?_)
    · replace hf := (if_pos c3).symm.trans hf
      refine lv_iload_n X.1 X.2.1 dX13_is_82 rfl (lv_at hl 2 rfl) ?_
      obtain ⟨hz, hf⟩ := rz_some hf
      cases hf; exact g_rz X S hr hlk hz dX13_is_83
    · replace hf := (if_neg c3).symm.trans hf
      refine g_aload_n X (or_sv _ _) dX13_is_51 rfl (lv_at hl 1 rfl) ?_
      refine lv_iload_n X.1 X.2.1 dX13_is_52 rfl (lv_at hl 3 rfl) ?_
      refine g_sAt (rest := []) X S hl.1 (by decide) (by decide) jfX13_241 (Nat.zero_le _) (Nat.zero_le _) dX13_is_53 hf (fun v4 H locs hf S => ?_)
      refine g_aload_n X (or_rv _) dX13_is_56 rfl (lv_at hl 0 rfl) ?_
      refine g_gR X S foX13_107 dX13_is_57 hf (fun v5 hf => ?_)
      refine g_aload_n X (or_rv _) dX13_is_60 rfl (lv_at hl 0 rfl) ?_
      refine g_gI X S foX13_206 rfl dX13_is_61 hf (fun v6 hf => ?_)
      refine lv_iload_n X.1 X.2.1 dX13_is_64 rfl (lv_at hl 3 rfl) ?_
      refine lv_iadd X.1 X.2.1 dX13_is_65 ?_
      refine g_aI X S dX13_is_66 hf (fun v7 hf => ?_)
      refine lv_icmp_ne (tgt := 74) X.1 X.2.1 dX13_is_67 (by decide) (fun c8 => ?_) (fun c8 => ?_)
      · replace hf := (if_neg c8).symm.trans hf
        refine lv_iconst (v := 0) X.1 X.2.1 dX13_is_74 (by decide) ?_
        refine lv_istore_n (i := 2) (lv' := [(2, .int 0), (0, rv x0), (1, sv E x1), (3, .int x3)]) X.1 X.2.1 dX13_is_75 rfl hl (by decide) (by simp [List.filter, cat_rv, cat_wv, cat_sv]) (fun ls hl => ?_)
        obtain ⟨z9, ez9, hf⟩ := lt_some hf
        refine lv_iinc (v := z9) (lv' := [(3, .int z9), (2, .int 0), (0, rv x0), (1, sv E x1)]) X.1 X.2.1 dX13_is_76 hl (k := 3) rfl (by rw [← ez9]; rfl) (by decide) rfl (fun ls hl => ?_)
        refine lv_goto (tgt := 39) X.1 X.2.1 dX13_is_79 (by decide) ?_
        exact hk39 _ _ _ _ _ _ _ (lv_sub hl [2, 3, 1, 0] rfl) S hf
      · replace hf := (if_pos c8).symm.trans hf
        refine lv_iconst (v := 1) X.1 X.2.1 dX13_is_70 (by decide) ?_
        refine lv_goto (tgt := 75) X.1 X.2.1 dX13_is_71 (by decide) ?_
        refine lv_istore_n (i := 2) (lv' := [(2, .int 1), (0, rv x0), (1, sv E x1), (3, .int x3)]) X.1 X.2.1 dX13_is_75 rfl hl (by decide) (by simp [List.filter, cat_rv, cat_wv, cat_sv]) (fun ls hl => ?_)
        obtain ⟨z10, ez10, hf⟩ := lt_some hf
        refine lv_iinc (v := z10) (lv' := [(3, .int z10), (2, .int 1), (0, rv x0), (1, sv E x1)]) X.1 X.2.1 dX13_is_76 hl (k := 3) rfl (by rw [← ez10]; rfl) (by decide) rfl (fun ls hl => ?_)
        refine lv_goto (tgt := 39) X.1 X.2.1 dX13_is_79 (by decide) ?_
        exact hk39 _ _ _ _ _ _ _ (lv_sub hl [2, 3, 1, 0] rfl) S hf
theorem wfX13_is_39_l {h : Hp} {r9 : Int32} (X : Cx p E A 8 R s m args c cX13_is yX13_is.cls 4) (hr : meth.sig.returnType = (some .boolean)) (hlk : meth.locks = false) (hnm : meth.name = yX13_is.name) :
    ∀ (n : Nat) (x0 : Nat) (x1 : Nat) (x2 : Int32) (x3 : Int32) (H : Heap) (locs : List Loc) (ls : Array Slot), lv_has ls 4 [(0, rv x0), (1, sv E x1), (2, .int x2), (3, .int x3)] → St E A s h H locs → lp (fun _ _ _ _ => none) (fX13_is_39 h) n x0 x1 x2 x3 = some r9 → W p l e R s m args below meth c H locs 0 0 (MQ below (Qi E A h r9) args s 0 0 A) (F0 m 39 ls []) := by
  intro n
  induction n with
  | zero =>
    intro x0 x1 x2 x3 H locs ls hl S hf
    exact nomatch hf
  | succ n ih =>
    intro x0 x1 x2 x3 H locs ls hl S hf
    exact wfX13_is_39 X hr hlk hnm ih x0 x1 x2 x3 H locs ls hl S hf
def fX13_is (a0 : Nat) (a1 : Nat) (h : Hp) : Option (Int32) := gd 11 a0 h (ob (gI 11 a0 23 h) fun v1 => if v1 = 0 then ob (gI 11 a0 19 h) fun v3 => if v3 = 1 then ob (sLen a1) fun v5 => ob (gI 11 a0 22 h) fun v6 => ob (gI 11 a0 21 h) fun v7 => if v5 = (v6 - v7) then lp (fun _ _ _ _ => none) (fX13_is_39 h) FU a0 a1 1 0 else lp (fun _ _ _ _ => none) (fX13_is_39 h) FU a0 a1 0 0 else lp (fun _ _ _ _ => none) (fX13_is_39 h) FU a0 a1 0 0 else lp (fun _ _ _ _ => none) (fX13_is_39 h) FU a0 a1 0 0)
theorem tkX13_is {a0 : Nat} {a1 : Nat} {h : Hp} {r9 : Int32} (e : fX13_is a0 a1 h = some r9) : hK h a0 = 11 := by
  unfold fX13_is at e
  exact (gd_some e).1
theorem cX13_is_m (l : Launch) {E : EE} {A : Nat → Prop} {a0 : Nat} {a1 : Nat} {h : Hp} {r9 : Int32} (hf : fX13_is a0 a1 h = some r9) : Met l yX13_is (wsM yX13_is cX13_is 4 (some .boolean)) (rmm 8 0 0) (PcE E A h [rv a0, sv E a1]) (Qi E A h r9) 0 0 A := by
  refine met_of (by decide +kernel) (by simp [lg_sl, cat_rv, cat_wv, cat_sv, cat_i, cat_l, cat_a]) (fun p e s m args below meth c ls X hr hlk hnm S hl => ?_)
  have hl : lv_has ls 4 [(0, rv a0), (1, sv E a1)] := by simpa [lv_args, cat_rv, cat_wv, cat_sv, cat_i, cat_l, cat_a] using hl
  generalize hH : s.heap = H at S ⊢
  generalize hlo : ([] : List Loc) = locs at S ⊢
  clear hH hlo
  unfold fX13_is at hf
  obtain ⟨hth, hf⟩ := gd_some hf
  refine g_aload_n X (or_rv _) dX13_is_0 rfl (lv_at hl 0 rfl) ?_
  refine g_gI X S foX13_231 rfl dX13_is_1 hf (fun v1 hf => ?_)
  refine lv_if_ne (tgt := 35) X.1 X.2.1 dX13_is_4 (by decide) (fun c2 => ?_) (fun c2 => ?_)
  · replace hf := (if_neg c2).symm.trans hf
    refine lv_iconst (v := 0) X.1 X.2.1 dX13_is_35 (by decide) ?_
    refine lv_istore_n (i := 2) (lv' := [(2, .int 0), (0, rv a0), (1, sv E a1)]) X.1 X.2.1 dX13_is_36 rfl hl (by decide) (by simp [List.filter, cat_rv, cat_wv, cat_sv]) (fun ls hl => ?_)
    refine lv_iconst (v := 0) X.1 X.2.1 dX13_is_37 (by decide) ?_
    refine lv_istore_n (i := 3) (lv' := [(3, .int 0), (2, .int 0), (0, rv a0), (1, sv E a1)]) X.1 X.2.1 dX13_is_38 rfl hl (by decide) rfl (fun ls hl => ?_)
    exact wfX13_is_39_l X hr hlk hnm FU _ _ _ _ _ _ _ (lv_sub hl [2, 3, 1, 0] rfl) S hf
  · replace hf := (if_pos c2).symm.trans hf
    refine g_aload_n X (or_rv _) dX13_is_7 rfl (lv_at hl 0 rfl) ?_
    refine g_gI X S foX13_209 rfl dX13_is_8 hf (fun v3 hf => ?_)
    refine lv_iconst (v := 1) X.1 X.2.1 dX13_is_11 (by decide) ?_
    refine lv_icmp_ne (tgt := 35) X.1 X.2.1 dX13_is_12 (by decide) (fun c4 => ?_) (fun c4 => ?_)
    · replace hf := (if_neg c4).symm.trans hf
      refine lv_iconst (v := 0) X.1 X.2.1 dX13_is_35 (by decide) ?_
      refine lv_istore_n (i := 2) (lv' := [(2, .int 0), (0, rv a0), (1, sv E a1)]) X.1 X.2.1 dX13_is_36 rfl hl (by decide) (by simp [List.filter, cat_rv, cat_wv, cat_sv]) (fun ls hl => ?_)
      refine lv_iconst (v := 0) X.1 X.2.1 dX13_is_37 (by decide) ?_
      refine lv_istore_n (i := 3) (lv' := [(3, .int 0), (2, .int 0), (0, rv a0), (1, sv E a1)]) X.1 X.2.1 dX13_is_38 rfl hl (by decide) rfl (fun ls hl => ?_)
      exact wfX13_is_39_l X hr hlk hnm FU _ _ _ _ _ _ _ (lv_sub hl [2, 3, 1, 0] rfl) S hf
    · replace hf := (if_pos c4).symm.trans hf
      refine g_aload_n X (or_sv _ _) dX13_is_15 rfl (lv_at hl 1 rfl) ?_
      refine g_sLen (rest := []) X S hl.1 (by decide) (by decide) jfX13_237 (Nat.zero_le _) (Nat.zero_le _) dX13_is_16 hf (fun v5 H locs hf S => ?_)
      refine g_aload_n X (or_rv _) dX13_is_19 rfl (lv_at hl 0 rfl) ?_
      refine g_gI X S foX13_228 rfl dX13_is_20 hf (fun v6 hf => ?_)
      refine g_aload_n X (or_rv _) dX13_is_23 rfl (lv_at hl 0 rfl) ?_
      refine g_gI X S foX13_206 rfl dX13_is_24 hf (fun v7 hf => ?_)
      refine lv_isub X.1 X.2.1 dX13_is_27 ?_
      refine lv_icmp_ne (tgt := 35) X.1 X.2.1 dX13_is_28 (by decide) (fun c8 => ?_) (fun c8 => ?_)
      · replace hf := (if_neg c8).symm.trans hf
        refine lv_iconst (v := 0) X.1 X.2.1 dX13_is_35 (by decide) ?_
        refine lv_istore_n (i := 2) (lv' := [(2, .int 0), (0, rv a0), (1, sv E a1)]) X.1 X.2.1 dX13_is_36 rfl hl (by decide) (by simp [List.filter, cat_rv, cat_wv, cat_sv]) (fun ls hl => ?_)
        refine lv_iconst (v := 0) X.1 X.2.1 dX13_is_37 (by decide) ?_
        refine lv_istore_n (i := 3) (lv' := [(3, .int 0), (2, .int 0), (0, rv a0), (1, sv E a1)]) X.1 X.2.1 dX13_is_38 rfl hl (by decide) rfl (fun ls hl => ?_)
        exact wfX13_is_39_l X hr hlk hnm FU _ _ _ _ _ _ _ (lv_sub hl [2, 3, 1, 0] rfl) S hf
      · replace hf := (if_pos c8).symm.trans hf
        refine lv_iconst (v := 1) X.1 X.2.1 dX13_is_31 (by decide) ?_
        refine lv_goto (tgt := 36) X.1 X.2.1 dX13_is_32 (by decide) ?_
        refine lv_istore_n (i := 2) (lv' := [(2, .int 1), (0, rv a0), (1, sv E a1)]) X.1 X.2.1 dX13_is_36 rfl hl (by decide) (by simp [List.filter, cat_rv, cat_wv, cat_sv]) (fun ls hl => ?_)
        refine lv_iconst (v := 0) X.1 X.2.1 dX13_is_37 (by decide) ?_
        refine lv_istore_n (i := 3) (lv' := [(3, .int 0), (2, .int 1), (0, rv a0), (1, sv E a1)]) X.1 X.2.1 dX13_is_38 rfl hl (by decide) rfl (fun ls hl => ?_)
        exact wfX13_is_39_l X hr hlk hnm FU _ _ _ _ _ _ _ (lv_sub hl [2, 3, 1, 0] rfl) S hf
def fX13_which_2 (h : Hp) (k2 : Nat → Nat → Int32 → Option (Int32)) (x0 : Nat) (x1 : Nat) (x2 : Int32) : Option (Int32) := ob (aN 105 x1 h) fun v1 => if v1 ≤ x2 then some (-1) else ob (aR 105 x1 x2 h) fun v3 => ob (fX13_is x0 v3 h) fun v4 => if v4 = 0 then lt (x2 + 1) fun z6 => k2 x0 x1 z6 else some x2
theorem wfX13_which_2 {h : Hp} {k2 : Nat → Nat → Int32 → Option (Int32)} {r9 : Int32} (X : Cx p E A 9 R s m args c cX13_which yX13_which.cls 3) (hr : meth.sig.returnType = (some .int)) (hlk : meth.locks = false) (hnm : meth.name = yX13_which.name) (hk2 : ∀ (x0 : Nat) (x1 : Nat) (x2 : Int32) (H : Heap) (locs : List Loc) (ls : Array Slot), lv_has ls 3 [(0, rv x0), (1, rv x1), (2, .int x2)] → St E A s h H locs → k2 x0 x1 x2 = some r9 → W p l e R s m args below meth c H locs 0 0 (MQ below (Qi E A h r9) args s 0 0 A) (F0 m 2 ls [])) :
    ∀ (x0 : Nat) (x1 : Nat) (x2 : Int32) (H : Heap) (locs : List Loc) (ls : Array Slot), lv_has ls 3 [(0, rv x0), (1, rv x1), (2, .int x2)] → St E A s h H locs → fX13_which_2 h k2 x0 x1 x2 = some r9 → W p l e R s m args below meth c H locs 0 0 (MQ below (Qi E A h r9) args s 0 0 A) (F0 m 2 ls []) := by
  intro x0 x1 x2 H locs ls hl S hf
  unfold fX13_which_2 at hf
  refine lv_iload_n X.1 X.2.1 dX13_which_2 rfl (lv_at hl 2 rfl) ?_
  refine g_aload_n X (or_rv _) dX13_which_3 rfl (lv_at hl 1 rfl) ?_
  refine g_aN X S (by decide) dX13_which_4 hf (fun v1 hf => ?_)
  refine lv_icmp_ge (tgt := 26) X.1 X.2.1 dX13_which_5 (by decide) (fun c2 => ?_) (fun c2 => ?_)
  · replace hf := (if_pos c2).symm.trans hf
    refine lv_iconst (v := (-1)) X.1 X.2.1 dX13_which_26 (by decide) ?_
    cases hf; exact g_ri X S hr hlk dX13_which_27
  · replace hf := (if_neg c2).symm.trans hf
    refine g_aload_n X (or_rv _) dX13_which_8 rfl (lv_at hl 0 rfl) ?_
    refine g_aload_n X (or_rv _) dX13_which_9 rfl (lv_at hl 1 rfl) ?_
    refine lv_iload_n X.1 X.2.1 dX13_which_10 rfl (lv_at hl 2 rfl) ?_
    refine g_aS X S dX13_which_11 hf (fun v3 hf => ?_)
    obtain ⟨v4, hc, hf⟩ := ob_some hf
    refine g_ci S (runV (As := [sv E v3]) (rest := []) X S coX13_245 (by decide) (cX13_is_m l hc) (tkX13_is hc) rfl hl.1 (by decide) rfl ⟨Nat.zero_le _, Nat.zero_le _⟩ dX13_which_12) (fun H locs S => ?_)
    refine lv_if_eq (tgt := 20) X.1 X.2.1 dX13_which_15 (by decide) (fun c5 => ?_) (fun c5 => ?_)
    · replace hf := (if_pos c5).symm.trans hf
      obtain ⟨z6, ez6, hf⟩ := lt_some hf
      refine lv_iinc (v := z6) (lv' := [(2, .int z6), (0, rv x0), (1, rv x1)]) X.1 X.2.1 dX13_which_20 hl (k := 2) rfl (by rw [← ez6]; rfl) (by decide) (by simp [List.filter, cat_rv, cat_wv, cat_sv]) (fun ls hl => ?_)
      refine lv_goto (tgt := 2) X.1 X.2.1 dX13_which_23 (by decide) ?_
      exact hk2 _ _ _ _ _ _ (lv_sub hl [1, 2, 0] rfl) S hf
    · replace hf := (if_neg c5).symm.trans hf
      refine lv_iload_n X.1 X.2.1 dX13_which_18 rfl (lv_at hl 2 rfl) ?_
      cases hf; exact g_ri X S hr hlk dX13_which_19
theorem wfX13_which_2_l {h : Hp} {r9 : Int32} (X : Cx p E A 9 R s m args c cX13_which yX13_which.cls 3) (hr : meth.sig.returnType = (some .int)) (hlk : meth.locks = false) (hnm : meth.name = yX13_which.name) :
    ∀ (n : Nat) (x0 : Nat) (x1 : Nat) (x2 : Int32) (H : Heap) (locs : List Loc) (ls : Array Slot), lv_has ls 3 [(0, rv x0), (1, rv x1), (2, .int x2)] → St E A s h H locs → lp (fun _ _ _ => none) (fX13_which_2 h) n x0 x1 x2 = some r9 → W p l e R s m args below meth c H locs 0 0 (MQ below (Qi E A h r9) args s 0 0 A) (F0 m 2 ls []) := by
  intro n
  induction n with
  | zero =>
    intro x0 x1 x2 H locs ls hl S hf
    exact nomatch hf
  | succ n ih =>
    intro x0 x1 x2 H locs ls hl S hf
    exact wfX13_which_2 X hr hlk hnm ih x0 x1 x2 H locs ls hl S hf
def fX13_which (a0 : Nat) (a1 : Nat) (h : Hp) : Option (Int32) := gd 11 a0 h (lp (fun _ _ _ => none) (fX13_which_2 h) FU a0 a1 0)
theorem tkX13_which {a0 : Nat} {a1 : Nat} {h : Hp} {r9 : Int32} (e : fX13_which a0 a1 h = some r9) : hK h a0 = 11 := by
  unfold fX13_which at e
  exact (gd_some e).1
theorem cX13_which_m (l : Launch) {E : EE} {A : Nat → Prop} {a0 : Nat} {a1 : Nat} {h : Hp} {r9 : Int32} (hf : fX13_which a0 a1 h = some r9) : Met l yX13_which (wsM yX13_which cX13_which 3 (some .int)) (rmm 9 0 0) (PcE E A h [rv a0, rv a1]) (Qi E A h r9) 0 0 A := by
  refine met_of (by decide +kernel) (by simp [lg_sl, cat_rv, cat_wv, cat_sv, cat_i, cat_l, cat_a]) (fun p e s m args below meth c ls X hr hlk hnm S hl => ?_)
  have hl : lv_has ls 3 [(0, rv a0), (1, rv a1)] := by simpa [lv_args, cat_rv, cat_wv, cat_sv, cat_i, cat_l, cat_a] using hl
  generalize hH : s.heap = H at S ⊢
  generalize hlo : ([] : List Loc) = locs at S ⊢
  clear hH hlo
  unfold fX13_which at hf
  obtain ⟨hth, hf⟩ := gd_some hf
  refine lv_iconst (v := 0) X.1 X.2.1 dX13_which_0 (by decide) ?_
  refine lv_istore_n (i := 2) (lv' := [(2, .int 0), (0, rv a0), (1, rv a1)]) X.1 X.2.1 dX13_which_1 rfl hl (by decide) (by simp [List.filter, cat_rv, cat_wv, cat_sv]) (fun ls hl => ?_)
  exact wfX13_which_2_l X hr hlk hnm FU _ _ _ _ _ _ (lv_sub hl [1, 2, 0] rfl) S hf
def fX13_isMarked (a0 : Nat) (a1 : Int32) (h : Hp) : Option (Int32) := gd 11 a0 h (ob (gI 11 a0 23 h) fun v1 => if v1 = 0 then ob (gI 11 a0 19 h) fun v3 => if v3 = 4 then ob (gR 11 a0 15 h) fun v5 => ob (gI 11 a0 21 h) fun v6 => ob (aI v5 v6 h) fun v7 => if v7 = a1 then some 1 else some 0 else some 0 else some 0)
theorem tkX13_isMarked {a0 : Nat} {a1 : Int32} {h : Hp} {r9 : Int32} (e : fX13_isMarked a0 a1 h = some r9) : hK h a0 = 11 := by
  unfold fX13_isMarked at e
  exact (gd_some e).1
theorem cX13_isMarked_m (l : Launch) {E : EE} {A : Nat → Prop} {a0 : Nat} {a1 : Int32} {h : Hp} {r9 : Int32} (hf : fX13_isMarked a0 a1 h = some r9) : Met l yX13_isMarked (wsM yX13_isMarked cX13_isMarked 2 (some .boolean)) (rmm 8 0 0) (PcE E A h [rv a0, .int a1]) (Qi E A h r9) 0 0 A := by
  refine met_of (by decide +kernel) (by simp [lg_sl, cat_rv, cat_wv, cat_sv, cat_i, cat_l, cat_a]) (fun p e s m args below meth c ls X hr hlk hnm S hl => ?_)
  have hl : lv_has ls 2 [(0, rv a0), (1, .int a1)] := by simpa [lv_args, cat_rv, cat_wv, cat_sv, cat_i, cat_l, cat_a] using hl
  generalize hH : s.heap = H at S ⊢
  generalize hlo : ([] : List Loc) = locs at S ⊢
  clear hH hlo
  unfold fX13_isMarked at hf
  obtain ⟨hth, hf⟩ := gd_some hf
  refine g_aload_n X (or_rv _) dX13_isMarked_0 rfl (lv_at hl 0 rfl) ?_
  refine g_gI X S foX13_231 rfl dX13_isMarked_1 hf (fun v1 hf => ?_)
  refine lv_if_ne (tgt := 32) X.1 X.2.1 dX13_isMarked_4 (by decide) (fun c2 => ?_) (fun c2 => ?_)
  · replace hf := (if_neg c2).symm.trans hf
    refine lv_iconst (v := 0) X.1 X.2.1 dX13_isMarked_32 (by decide) ?_
    cases hf; exact g_rz X S hr hlk (by decide) dX13_isMarked_33
  · replace hf := (if_pos c2).symm.trans hf
    refine g_aload_n X (or_rv _) dX13_isMarked_7 rfl (lv_at hl 0 rfl) ?_
    refine g_gI X S foX13_209 rfl dX13_isMarked_8 hf (fun v3 hf => ?_)
    refine lv_iconst (v := 4) X.1 X.2.1 dX13_isMarked_11 (by decide) ?_
    refine lv_icmp_ne (tgt := 32) X.1 X.2.1 dX13_isMarked_12 (by decide) (fun c4 => ?_) (fun c4 => ?_)
    · replace hf := (if_neg c4).symm.trans hf
      refine lv_iconst (v := 0) X.1 X.2.1 dX13_isMarked_32 (by decide) ?_
      cases hf; exact g_rz X S hr hlk (by decide) dX13_isMarked_33
    · replace hf := (if_pos c4).symm.trans hf
      refine g_aload_n X (or_rv _) dX13_isMarked_15 rfl (lv_at hl 0 rfl) ?_
      refine g_gR X S foX13_107 dX13_isMarked_16 hf (fun v5 hf => ?_)
      refine g_aload_n X (or_rv _) dX13_isMarked_19 rfl (lv_at hl 0 rfl) ?_
      refine g_gI X S foX13_206 rfl dX13_isMarked_20 hf (fun v6 hf => ?_)
      refine g_aI X S dX13_isMarked_23 hf (fun v7 hf => ?_)
      refine lv_iload_n X.1 X.2.1 dX13_isMarked_24 rfl (lv_at hl 1 rfl) ?_
      refine lv_icmp_ne (tgt := 32) X.1 X.2.1 dX13_isMarked_25 (by decide) (fun c8 => ?_) (fun c8 => ?_)
      · replace hf := (if_neg c8).symm.trans hf
        refine lv_iconst (v := 0) X.1 X.2.1 dX13_isMarked_32 (by decide) ?_
        cases hf; exact g_rz X S hr hlk (by decide) dX13_isMarked_33
      · replace hf := (if_pos c8).symm.trans hf
        refine lv_iconst (v := 1) X.1 X.2.1 dX13_isMarked_28 (by decide) ?_
        refine lv_goto (tgt := 33) X.1 X.2.1 dX13_isMarked_29 (by decide) ?_
        cases hf; exact g_rz X S hr hlk (by decide) dX13_isMarked_33
def fX13_passes (a0 : Nat) (a1 : Int32) (h : Hp) : Option (Int32 × Hp) := gd 11 a0 h (ob (fX13_isMarked a0 a1 h) fun v1 => if v1 = 0 then rz v1 (some (v1, h)) else ob (fX13_stepOn a0 h) fun h => rz v1 (some (v1, h)))
theorem tkX13_passes {a0 : Nat} {a1 : Int32} {h : Hp} {r9 : Int32 × Hp} (e : fX13_passes a0 a1 h = some r9) : hK h a0 = 11 := by
  unfold fX13_passes at e
  exact (gd_some e).1
theorem cX13_passes_m (l : Launch) {E : EE} {A : Nat → Prop} {a0 : Nat} {a1 : Int32} {h : Hp} {r9 : Int32} {h9 : Hp} (hf : fX13_passes a0 a1 h = some (r9, h9)) : Met l yX13_passes (wsM yX13_passes cX13_passes 3 (some .boolean)) (rmm 11 0 0) (PcE E A h [rv a0, .int a1]) (Qi E A h9 r9) 0 0 A := by
  refine met_of (by decide +kernel) (by simp [lg_sl, cat_rv, cat_wv, cat_sv, cat_i, cat_l, cat_a]) (fun p e s m args below meth c ls X hr hlk hnm S hl => ?_)
  have hl : lv_has ls 3 [(0, rv a0), (1, .int a1)] := by simpa [lv_args, cat_rv, cat_wv, cat_sv, cat_i, cat_l, cat_a] using hl
  generalize hH : s.heap = H at S ⊢
  generalize hlo : ([] : List Loc) = locs at S ⊢
  clear hH hlo
  unfold fX13_passes at hf
  obtain ⟨hth, hf⟩ := gd_some hf
  refine g_aload_n X (or_rv _) dX13_passes_0 rfl (lv_at hl 0 rfl) ?_
  refine lv_iload_n X.1 X.2.1 dX13_passes_1 rfl (lv_at hl 1 rfl) ?_
  obtain ⟨v1, hc, hf⟩ := ob_some hf
  refine g_ci S (runV (As := [.int a1]) (rest := []) X S coX13_249 (by decide) (cX13_isMarked_m l hc) (tkX13_isMarked hc) rfl hl.1 (by decide) rfl ⟨Nat.zero_le _, Nat.zero_le _⟩ dX13_passes_2) (fun H locs S => ?_)
  refine lv_istore_n (i := 2) (lv' := [(2, .int v1), (0, rv a0), (1, .int a1)]) X.1 X.2.1 dX13_passes_5 rfl hl (by decide) rfl (fun ls hl => ?_)
  refine lv_iload_n X.1 X.2.1 dX13_passes_6 rfl (lv_at hl 0 rfl) ?_
  refine lv_if_eq (tgt := 14) X.1 X.2.1 dX13_passes_7 (by decide) (fun c2 => ?_) (fun c2 => ?_)
  · replace hf := (if_pos c2).symm.trans hf
    refine lv_iload_n X.1 X.2.1 dX13_passes_14 rfl (lv_at hl 0 rfl) ?_
    obtain ⟨hz, hf⟩ := rz_some hf
    cases hf; exact g_rz X S hr hlk hz dX13_passes_15
  · replace hf := (if_neg c2).symm.trans hf
    refine g_aload_n X (or_rv _) dX13_passes_10 rfl (lv_at hl 1 rfl) ?_
    obtain ⟨h, hc, hf⟩ := ob_some hf
    refine g_cv S (runV (As := []) (rest := []) X S coX13_252 (by decide) (cX13_stepOn_m l hc) (tkX13_stepOn hc) rfl hl.1 (by decide) rfl ⟨Nat.zero_le _, Nat.zero_le _⟩ dX13_passes_11) (fun H locs S => ?_)
    refine lv_iload_n X.1 X.2.1 dX13_passes_14 rfl (lv_at hl 0 rfl) ?_
    obtain ⟨hz, hf⟩ := rz_some hf
    cases hf; exact g_rz X S hr hlk hz dX13_passes_15
def fX13_mark_20 (x0 : Nat) (h : Hp) : Option (Hp) := ob (gI 11 x0 23 h) fun v1 => if v1 = 0 then ob (fX13_stepOn x0 h) fun h => some h else some h
theorem wfX13_mark_20 {h9 : Hp} (X : Cx p E A 11 R s m args c cX13_mark yX13_mark.cls 2) (hr : meth.sig.returnType = none) (hlk : meth.locks = false) (hnm : meth.name = yX13_mark.name) :
    ∀ (x0 : Nat) (h : Hp) (H : Heap) (locs : List Loc) (ls : Array Slot), lv_has ls 2 [(0, rv x0)] → St E A s h H locs → fX13_mark_20 x0 h = some h9 → W p l e R s m args below meth c H locs 0 0 (MQ below (Qv E A h9) args s 0 0 A) (F0 m 20 ls []) := by
  intro x0 h H locs ls hl S hf
  unfold fX13_mark_20 at hf
  refine g_aload_n X (or_rv _) dX13_mark_20 rfl (lv_at hl 0 rfl) ?_
  refine g_gI X S foX13_231 rfl dX13_mark_21 hf (fun v1 hf => ?_)
  refine lv_if_ne (tgt := 31) X.1 X.2.1 dX13_mark_24 (by decide) (fun c2 => ?_) (fun c2 => ?_)
  · replace hf := (if_neg c2).symm.trans hf
    cases hf; exact g_rv X S hr hlk dX13_mark_31
  · replace hf := (if_pos c2).symm.trans hf
    refine g_aload_n X (or_rv _) dX13_mark_27 rfl (lv_at hl 0 rfl) ?_
    obtain ⟨h, hc, hf⟩ := ob_some hf
    refine g_cv S (runV (As := []) (rest := []) X S coX13_252 (by decide) (cX13_stepOn_m l hc) (tkX13_stepOn hc) rfl hl.1 (by decide) rfl ⟨Nat.zero_le _, Nat.zero_le _⟩ dX13_mark_28) (fun H locs S => ?_)
    cases hf; exact g_rv X S hr hlk dX13_mark_31
def fX13_mark (a0 : Nat) (a1 : Int32) (h : Hp) : Option (Hp) := gd 11 a0 h (ob (gI 11 a0 23 h) fun v1 => if v1 = 0 then ob (fX13_isMarked a0 a1 h) fun v3 => if v3 = 0 then ob (fX13_wrong a0 1 h) fun h => fX13_mark_20 a0 h else fX13_mark_20 a0 h else fX13_mark_20 a0 h)
theorem tkX13_mark {a0 : Nat} {a1 : Int32} {h : Hp} {r9 : Hp} (e : fX13_mark a0 a1 h = some r9) : hK h a0 = 11 := by
  unfold fX13_mark at e
  exact (gd_some e).1
theorem cX13_mark_m (l : Launch) {E : EE} {A : Nat → Prop} {a0 : Nat} {a1 : Int32} {h : Hp} {h9 : Hp} (hf : fX13_mark a0 a1 h = some h9) : Met l yX13_mark (wsM yX13_mark cX13_mark 2 none) (rmm 11 0 0) (PcE E A h [rv a0, .int a1]) (Qv E A h9) 0 0 A := by
  refine met_of (by decide +kernel) (by simp [lg_sl, cat_rv, cat_wv, cat_sv, cat_i, cat_l, cat_a]) (fun p e s m args below meth c ls X hr hlk hnm S hl => ?_)
  have hl : lv_has ls 2 [(0, rv a0), (1, .int a1)] := by simpa [lv_args, cat_rv, cat_wv, cat_sv, cat_i, cat_l, cat_a] using hl
  generalize hH : s.heap = H at S ⊢
  generalize hlo : ([] : List Loc) = locs at S ⊢
  clear hH hlo
  unfold fX13_mark at hf
  obtain ⟨hth, hf⟩ := gd_some hf
  refine g_aload_n X (or_rv _) dX13_mark_0 rfl (lv_at hl 0 rfl) ?_
  refine g_gI X S foX13_231 rfl dX13_mark_1 hf (fun v1 hf => ?_)
  refine lv_if_ne (tgt := 20) X.1 X.2.1 dX13_mark_4 (by decide) (fun c2 => ?_) (fun c2 => ?_)
  · replace hf := (if_neg c2).symm.trans hf
    exact wfX13_mark_20 X hr hlk hnm _ _ _ _ _ (lv_sub hl [0] rfl) S hf
  · replace hf := (if_pos c2).symm.trans hf
    refine g_aload_n X (or_rv _) dX13_mark_7 rfl (lv_at hl 0 rfl) ?_
    refine lv_iload_n X.1 X.2.1 dX13_mark_8 rfl (lv_at hl 1 rfl) ?_
    obtain ⟨v3, hc, hf⟩ := ob_some hf
    refine g_ci S (runV (As := [.int a1]) (rest := []) X S coX13_249 (by decide) (cX13_isMarked_m l hc) (tkX13_isMarked hc) rfl hl.1 (by decide) rfl ⟨Nat.zero_le _, Nat.zero_le _⟩ dX13_mark_9) (fun H locs S => ?_)
    refine lv_if_ne (tgt := 20) X.1 X.2.1 dX13_mark_12 (by decide) (fun c4 => ?_) (fun c4 => ?_)
    · replace hf := (if_neg c4).symm.trans hf
      exact wfX13_mark_20 X hr hlk hnm _ _ _ _ _ (lv_sub hl [0] rfl) S hf
    · replace hf := (if_pos c4).symm.trans hf
      refine g_aload_n X (or_rv _) dX13_mark_15 rfl (lv_at hl 0 rfl) ?_
      refine lv_iconst (v := 1) X.1 X.2.1 dX13_mark_16 (by decide) ?_
      obtain ⟨h, hc, hf⟩ := ob_some hf
      refine g_cv S (runV (As := [.int 1]) (rest := []) X S coX13_255 (by decide) (cX13_wrong_m l hc) (tkX13_wrong hc) rfl hl.1 (by decide) rfl ⟨Nat.zero_le _, Nat.zero_le _⟩ dX13_mark_17) (fun H locs S => ?_)
      exact wfX13_mark_20 X hr hlk hnm _ _ _ _ _ (lv_sub hl [0] rfl) S hf
def fX13_readNumber_41 (k46 : Nat → Hp → Option (Int32 × Hp)) (x0 : Nat) (h : Hp) : Option (Int32 × Hp) := ob (fX13_wrong x0 2 h) fun h => k46 x0 h
theorem wfX13_readNumber_41 {k46 : Nat → Hp → Option (Int32 × Hp)} {r9 : Int32} {h9 : Hp} (X : Cx p E A 11 R s m args c cX13_readNumber yX13_readNumber.cls 4) (hr : meth.sig.returnType = (some .int)) (hlk : meth.locks = false) (hnm : meth.name = yX13_readNumber.name) (hk46 : ∀ (x0 : Nat) (h : Hp) (H : Heap) (locs : List Loc) (ls : Array Slot), lv_has ls 4 [(0, rv x0)] → St E A s h H locs → k46 x0 h = some (r9, h9) → W p l e R s m args below meth c H locs 0 0 (MQ below (Qi E A h9 r9) args s 0 0 A) (F0 m 46 ls [])) :
    ∀ (x0 : Nat) (h : Hp) (H : Heap) (locs : List Loc) (ls : Array Slot), lv_has ls 4 [(0, rv x0)] → St E A s h H locs → fX13_readNumber_41 k46 x0 h = some (r9, h9) → W p l e R s m args below meth c H locs 0 0 (MQ below (Qi E A h9 r9) args s 0 0 A) (F0 m 41 ls []) := by
  intro x0 h H locs ls hl S hf
  unfold fX13_readNumber_41 at hf
  refine g_aload_n X (or_rv _) dX13_readNumber_41 rfl (lv_at hl 0 rfl) ?_
  refine lv_iconst (v := 2) X.1 X.2.1 dX13_readNumber_42 (by decide) ?_
  obtain ⟨h, hc, hf⟩ := ob_some hf
  refine g_cv S (runV (As := [.int 2]) (rest := []) X S coX13_255 (by decide) (cX13_wrong_m l hc) (tkX13_wrong hc) rfl hl.1 (by decide) rfl ⟨Nat.zero_le _, Nat.zero_le _⟩ dX13_readNumber_43) (fun H locs S => ?_)
  exact hk46 _ _ _ _ _ hl S hf
def fX13_readNumber_61 (x0 : Nat) (y0 : Int32) (h : Hp) : Option (Int32 × Hp) := ob (gI 11 x0 23 h) fun v1 => if v1 = 0 then ob (fX13_stepOn x0 h) fun h => some (y0, h) else some (y0, h)
theorem wfX13_readNumber_61 {r9 : Int32} {h9 : Hp} (X : Cx p E A 11 R s m args c cX13_readNumber yX13_readNumber.cls 4) (hr : meth.sig.returnType = (some .int)) (hlk : meth.locks = false) (hnm : meth.name = yX13_readNumber.name) :
    ∀ (x0 : Nat) (y0 : Int32) (h : Hp) (H : Heap) (locs : List Loc) (ls : Array Slot), lv_has ls 4 [(0, rv x0)] → St E A s h H locs → fX13_readNumber_61 x0 y0 h = some (r9, h9) → W p l e R s m args below meth c H locs 0 0 (MQ below (Qi E A h9 r9) args s 0 0 A) (F0 m 61 ls [.int y0]) := by
  intro x0 y0 h H locs ls hl S hf
  unfold fX13_readNumber_61 at hf
  refine lv_istore_n (i := 3) (lv' := [(3, .int y0), (0, rv x0)]) X.1 X.2.1 dX13_readNumber_61 rfl hl (by decide) rfl (fun ls hl => ?_)
  refine g_aload_n X (or_rv _) dX13_readNumber_62 rfl (lv_at hl 1 rfl) ?_
  refine g_gI X S foX13_231 rfl dX13_readNumber_63 hf (fun v1 hf => ?_)
  refine lv_if_ne (tgt := 73) X.1 X.2.1 dX13_readNumber_66 (by decide) (fun c2 => ?_) (fun c2 => ?_)
  · replace hf := (if_neg c2).symm.trans hf
    refine lv_iload_n X.1 X.2.1 dX13_readNumber_73 rfl (lv_at hl 0 rfl) ?_
    cases hf; exact g_ri X S hr hlk dX13_readNumber_74
  · replace hf := (if_pos c2).symm.trans hf
    refine g_aload_n X (or_rv _) dX13_readNumber_69 rfl (lv_at hl 1 rfl) ?_
    obtain ⟨h, hc, hf⟩ := ob_some hf
    refine g_cv S (runV (As := []) (rest := []) X S coX13_252 (by decide) (cX13_stepOn_m l hc) (tkX13_stepOn hc) rfl hl.1 (by decide) rfl ⟨Nat.zero_le _, Nat.zero_le _⟩ dX13_readNumber_70) (fun H locs S => ?_)
    refine lv_iload_n X.1 X.2.1 dX13_readNumber_73 rfl (lv_at hl 0 rfl) ?_
    cases hf; exact g_ri X S hr hlk dX13_readNumber_74
def fX13_readNumber_46 (x0 : Nat) (h : Hp) : Option (Int32 × Hp) := ob (gI 11 x0 23 h) fun v1 => if v1 = 0 then ob (gI 11 x0 20 h) fun v3 => fX13_readNumber_61 x0 v3 h else fX13_readNumber_61 x0 0 h
theorem wfX13_readNumber_46 {r9 : Int32} {h9 : Hp} (X : Cx p E A 11 R s m args c cX13_readNumber yX13_readNumber.cls 4) (hr : meth.sig.returnType = (some .int)) (hlk : meth.locks = false) (hnm : meth.name = yX13_readNumber.name) :
    ∀ (x0 : Nat) (h : Hp) (H : Heap) (locs : List Loc) (ls : Array Slot), lv_has ls 4 [(0, rv x0)] → St E A s h H locs → fX13_readNumber_46 x0 h = some (r9, h9) → W p l e R s m args below meth c H locs 0 0 (MQ below (Qi E A h9 r9) args s 0 0 A) (F0 m 46 ls []) := by
  intro x0 h H locs ls hl S hf
  unfold fX13_readNumber_46 at hf
  refine g_aload_n X (or_rv _) dX13_readNumber_46 rfl (lv_at hl 0 rfl) ?_
  refine g_gI X S foX13_231 rfl dX13_readNumber_47 hf (fun v1 hf => ?_)
  refine lv_if_ne (tgt := 60) X.1 X.2.1 dX13_readNumber_50 (by decide) (fun c2 => ?_) (fun c2 => ?_)
  · replace hf := (if_neg c2).symm.trans hf
    refine lv_iconst (v := 0) X.1 X.2.1 dX13_readNumber_60 (by decide) ?_
    exact wfX13_readNumber_61 X hr hlk hnm _ _ _ _ _ _ hl S hf
  · replace hf := (if_pos c2).symm.trans hf
    refine g_aload_n X (or_rv _) dX13_readNumber_53 rfl (lv_at hl 0 rfl) ?_
    refine g_gI X S foX13_215 rfl dX13_readNumber_54 hf (fun v3 hf => ?_)
    refine lv_goto (tgt := 61) X.1 X.2.1 dX13_readNumber_57 (by decide) ?_
    exact wfX13_readNumber_61 X hr hlk hnm _ _ _ _ _ _ hl S hf
def fX13_readNumber (a0 : Nat) (a1 : Int32) (a2 : Int32) (h : Hp) : Option (Int32 × Hp) := gd 11 a0 h (ob (gI 11 a0 23 h) fun v1 => if v1 = 0 then ob (gI 11 a0 19 h) fun v3 => if v3 = 2 then ob (gI 11 a0 20 h) fun v5 => if v5 < a1 then fX13_readNumber_41 fX13_readNumber_46 a0 h else ob (gI 11 a0 20 h) fun v7 => if v7 ≤ a2 then fX13_readNumber_46 a0 h else fX13_readNumber_41 fX13_readNumber_46 a0 h else ob (fX13_wrong a0 1 h) fun h => fX13_readNumber_46 a0 h else some (0, h))
theorem tkX13_readNumber {a0 : Nat} {a1 : Int32} {a2 : Int32} {h : Hp} {r9 : Int32 × Hp} (e : fX13_readNumber a0 a1 a2 h = some r9) : hK h a0 = 11 := by
  unfold fX13_readNumber at e
  exact (gd_some e).1
theorem cX13_readNumber_m (l : Launch) {E : EE} {A : Nat → Prop} {a0 : Nat} {a1 : Int32} {a2 : Int32} {h : Hp} {r9 : Int32} {h9 : Hp} (hf : fX13_readNumber a0 a1 a2 h = some (r9, h9)) : Met l yX13_readNumber (wsM yX13_readNumber cX13_readNumber 4 (some .int)) (rmm 11 0 0) (PcE E A h [rv a0, .int a1, .int a2]) (Qi E A h9 r9) 0 0 A := by
  refine met_of (by decide +kernel) (by simp [lg_sl, cat_rv, cat_wv, cat_sv, cat_i, cat_l, cat_a]) (fun p e s m args below meth c ls X hr hlk hnm S hl => ?_)
  have hl : lv_has ls 4 [(0, rv a0), (1, .int a1), (2, .int a2)] := by simpa [lv_args, cat_rv, cat_wv, cat_sv, cat_i, cat_l, cat_a] using hl
  generalize hH : s.heap = H at S ⊢
  generalize hlo : ([] : List Loc) = locs at S ⊢
  clear hH hlo
  unfold fX13_readNumber at hf
  obtain ⟨hth, hf⟩ := gd_some hf
  refine g_aload_n X (or_rv _) dX13_readNumber_0 rfl (lv_at hl 0 rfl) ?_
  refine g_gI X S foX13_231 rfl dX13_readNumber_1 hf (fun v1 hf => ?_)
  refine lv_if_eq (tgt := 9) X.1 X.2.1 dX13_readNumber_4 (by decide) (fun c2 => ?_) (fun c2 => ?_)
  · replace hf := (if_pos c2).symm.trans hf
    refine g_aload_n X (or_rv _) dX13_readNumber_9 rfl (lv_at hl 0 rfl) ?_
    refine g_gI X S foX13_209 rfl dX13_readNumber_10 hf (fun v3 hf => ?_)
    refine lv_iconst (v := 2) X.1 X.2.1 dX13_readNumber_13 (by decide) ?_
    refine lv_icmp_eq (tgt := 25) X.1 X.2.1 dX13_readNumber_14 (by decide) (fun c4 => ?_) (fun c4 => ?_)
    · replace hf := (if_pos c4).symm.trans hf
      refine g_aload_n X (or_rv _) dX13_readNumber_25 rfl (lv_at hl 0 rfl) ?_
      refine g_gI X S foX13_215 rfl dX13_readNumber_26 hf (fun v5 hf => ?_)
      refine lv_iload_n X.1 X.2.1 dX13_readNumber_29 rfl (lv_at hl 1 rfl) ?_
      refine lv_icmp_lt (tgt := 41) X.1 X.2.1 dX13_readNumber_30 (by decide) (fun c6 => ?_) (fun c6 => ?_)
      · replace hf := (if_pos c6).symm.trans hf
        exact wfX13_readNumber_41 X hr hlk hnm (wfX13_readNumber_46 X hr hlk hnm) _ _ _ _ _ (lv_sub hl [0] rfl) S hf
      · replace hf := (if_neg c6).symm.trans hf
        refine g_aload_n X (or_rv _) dX13_readNumber_33 rfl (lv_at hl 0 rfl) ?_
        refine g_gI X S foX13_215 rfl dX13_readNumber_34 hf (fun v7 hf => ?_)
        refine lv_iload_n X.1 X.2.1 dX13_readNumber_37 rfl (lv_at hl 2 rfl) ?_
        refine lv_icmp_le (tgt := 46) X.1 X.2.1 dX13_readNumber_38 (by decide) (fun c8 => ?_) (fun c8 => ?_)
        · replace hf := (if_pos c8).symm.trans hf
          exact wfX13_readNumber_46 X hr hlk hnm _ _ _ _ _ (lv_sub hl [0] rfl) S hf
        · replace hf := (if_neg c8).symm.trans hf
          exact wfX13_readNumber_41 X hr hlk hnm (wfX13_readNumber_46 X hr hlk hnm) _ _ _ _ _ (lv_sub hl [0] rfl) S hf
    · replace hf := (if_neg c4).symm.trans hf
      refine g_aload_n X (or_rv _) dX13_readNumber_17 rfl (lv_at hl 0 rfl) ?_
      refine lv_iconst (v := 1) X.1 X.2.1 dX13_readNumber_18 (by decide) ?_
      obtain ⟨h, hc, hf⟩ := ob_some hf
      refine g_cv S (runV (As := [.int 1]) (rest := []) X S coX13_255 (by decide) (cX13_wrong_m l hc) (tkX13_wrong hc) rfl hl.1 (by decide) rfl ⟨Nat.zero_le _, Nat.zero_le _⟩ dX13_readNumber_19) (fun H locs S => ?_)
      refine lv_goto (tgt := 46) X.1 X.2.1 dX13_readNumber_22 (by decide) ?_
      exact wfX13_readNumber_46 X hr hlk hnm _ _ _ _ _ (lv_sub hl [0] rfl) S hf
  · replace hf := (if_neg c2).symm.trans hf
    refine lv_iconst (v := 0) X.1 X.2.1 dX13_readNumber_7 (by decide) ?_
    cases hf; exact g_ri X S hr hlk dX13_readNumber_8
def fX13_isName_20 (h : Hp) (k20 : Nat → Int32 → Int32 → Int32 → Int32 → Int32 → Option (Int32)) (x0 : Nat) (x1 : Int32) (x2 : Int32) (x3 : Int32) (x4 : Int32) (x5 : Int32) : Option (Int32) := if x4 = 0 then rz x4 (some x4) else if x2 ≤ x5 then rz x4 (some x4) else ob (gR 11 x0 15 h) fun v3 => ob (aI v3 (x1 + x5) h) fun v4 => ob (gR 11 x0 15 h) fun v5 => ob (gR 11 x0 26 h) fun v6 => ob (aI v6 x3 h) fun v7 => ob (aI v5 (v7 + x5) h) fun v8 => if v4 = v8 then lt (x5 + 1) fun z11 => k20 x0 x1 x2 x3 1 z11 else lt (x5 + 1) fun z10 => k20 x0 x1 x2 x3 0 z10
theorem wfX13_isName_20 {h : Hp} {k20 : Nat → Int32 → Int32 → Int32 → Int32 → Int32 → Option (Int32)} {r9 : Int32} (X : Cx p E A 8 R s m args c cX13_isName yX13_isName.cls 6) (hr : meth.sig.returnType = (some .boolean)) (hlk : meth.locks = false) (hnm : meth.name = yX13_isName.name) (hk20 : ∀ (x0 : Nat) (x1 : Int32) (x2 : Int32) (x3 : Int32) (x4 : Int32) (x5 : Int32) (H : Heap) (locs : List Loc) (ls : Array Slot), lv_has ls 6 [(0, rv x0), (1, .int x1), (2, .int x2), (3, .int x3), (4, .int x4), (5, .int x5)] → St E A s h H locs → k20 x0 x1 x2 x3 x4 x5 = some r9 → W p l e R s m args below meth c H locs 0 0 (MQ below (Qi E A h r9) args s 0 0 A) (F0 m 20 ls [])) :
    ∀ (x0 : Nat) (x1 : Int32) (x2 : Int32) (x3 : Int32) (x4 : Int32) (x5 : Int32) (H : Heap) (locs : List Loc) (ls : Array Slot), lv_has ls 6 [(0, rv x0), (1, .int x1), (2, .int x2), (3, .int x3), (4, .int x4), (5, .int x5)] → St E A s h H locs → fX13_isName_20 h k20 x0 x1 x2 x3 x4 x5 = some r9 → W p l e R s m args below meth c H locs 0 0 (MQ below (Qi E A h r9) args s 0 0 A) (F0 m 20 ls []) := by
  intro x0 x1 x2 x3 x4 x5 H locs ls hl S hf
  unfold fX13_isName_20 at hf
  refine lv_iload X.1 X.2.1 dX13_isName_20 (lv_at hl 4 rfl) ?_
  refine lv_if_eq (tgt := 70) X.1 X.2.1 dX13_isName_22 (by decide) (fun c1 => ?_) (fun c1 => ?_)
  · replace hf := (if_pos c1).symm.trans hf
    refine lv_iload X.1 X.2.1 dX13_isName_70 (lv_at hl 4 rfl) ?_
    obtain ⟨hz, hf⟩ := rz_some hf
    cases hf; exact g_rz X S hr hlk hz dX13_isName_72
  · replace hf := (if_neg c1).symm.trans hf
    refine lv_iload X.1 X.2.1 dX13_isName_25 (lv_at hl 5 rfl) ?_
    refine lv_iload_n X.1 X.2.1 dX13_isName_27 rfl (lv_at hl 2 rfl) ?_
    refine lv_icmp_ge (tgt := 70) X.1 X.2.1 dX13_isName_28 (by decide) (fun c2 => ?_) (fun c2 => ?_)
    · replace hf := (if_pos c2).symm.trans hf
      refine lv_iload X.1 X.2.1 dX13_isName_70 (lv_at hl 4 rfl) ?_
      obtain ⟨hz, hf⟩ := rz_some hf
      cases hf; exact g_rz X S hr hlk hz dX13_isName_72
    · replace hf := (if_neg c2).symm.trans hf
      refine g_aload_n X (or_rv _) dX13_isName_31 rfl (lv_at hl 0 rfl) ?_
      refine g_gR X S foX13_107 dX13_isName_32 hf (fun v3 hf => ?_)
      refine lv_iload_n X.1 X.2.1 dX13_isName_35 rfl (lv_at hl 1 rfl) ?_
      refine lv_iload X.1 X.2.1 dX13_isName_36 (lv_at hl 5 rfl) ?_
      refine lv_iadd X.1 X.2.1 dX13_isName_38 ?_
      refine g_aI X S dX13_isName_39 hf (fun v4 hf => ?_)
      refine g_aload_n X (or_rv _) dX13_isName_40 rfl (lv_at hl 0 rfl) ?_
      refine g_gR X S foX13_107 dX13_isName_41 hf (fun v5 hf => ?_)
      refine g_aload_n X (or_rv _) dX13_isName_44 rfl (lv_at hl 0 rfl) ?_
      refine g_gR X S foX13_114 dX13_isName_45 hf (fun v6 hf => ?_)
      refine lv_iload_n X.1 X.2.1 dX13_isName_48 rfl (lv_at hl 3 rfl) ?_
      refine g_aI X S dX13_isName_49 hf (fun v7 hf => ?_)
      refine lv_iload X.1 X.2.1 dX13_isName_50 (lv_at hl 5 rfl) ?_
      refine lv_iadd X.1 X.2.1 dX13_isName_52 ?_
      refine g_aI X S dX13_isName_53 hf (fun v8 hf => ?_)
      refine lv_icmp_ne (tgt := 61) X.1 X.2.1 dX13_isName_54 (by decide) (fun c9 => ?_) (fun c9 => ?_)
      · replace hf := (if_neg c9).symm.trans hf
        refine lv_iconst (v := 0) X.1 X.2.1 dX13_isName_61 (by decide) ?_
        refine lv_istore (lv' := [(4, .int 0), (0, rv x0), (1, .int x1), (2, .int x2), (3, .int x3), (5, .int x5)]) X.1 X.2.1 dX13_isName_62 hl (by decide) rfl (fun ls hl => ?_)
        obtain ⟨z10, ez10, hf⟩ := lt_some hf
        refine lv_iinc (v := z10) (lv' := [(5, .int z10), (4, .int 0), (0, rv x0), (1, .int x1), (2, .int x2), (3, .int x3)]) X.1 X.2.1 dX13_isName_64 hl (k := 5) rfl (by rw [← ez10]; rfl) (by decide) rfl (fun ls hl => ?_)
        refine lv_goto (tgt := 20) X.1 X.2.1 dX13_isName_67 (by decide) ?_
        exact hk20 _ _ _ _ _ _ _ _ _ (lv_sub hl [2, 3, 4, 5, 1, 0] rfl) S hf
      · replace hf := (if_pos c9).symm.trans hf
        refine lv_iconst (v := 1) X.1 X.2.1 dX13_isName_57 (by decide) ?_
        refine lv_goto (tgt := 62) X.1 X.2.1 dX13_isName_58 (by decide) ?_
        refine lv_istore (lv' := [(4, .int 1), (0, rv x0), (1, .int x1), (2, .int x2), (3, .int x3), (5, .int x5)]) X.1 X.2.1 dX13_isName_62 hl (by decide) rfl (fun ls hl => ?_)
        obtain ⟨z11, ez11, hf⟩ := lt_some hf
        refine lv_iinc (v := z11) (lv' := [(5, .int z11), (4, .int 1), (0, rv x0), (1, .int x1), (2, .int x2), (3, .int x3)]) X.1 X.2.1 dX13_isName_64 hl (k := 5) rfl (by rw [← ez11]; rfl) (by decide) rfl (fun ls hl => ?_)
        refine lv_goto (tgt := 20) X.1 X.2.1 dX13_isName_67 (by decide) ?_
        exact hk20 _ _ _ _ _ _ _ _ _ (lv_sub hl [2, 3, 4, 5, 1, 0] rfl) S hf
theorem wfX13_isName_20_l {h : Hp} {r9 : Int32} (X : Cx p E A 8 R s m args c cX13_isName yX13_isName.cls 6) (hr : meth.sig.returnType = (some .boolean)) (hlk : meth.locks = false) (hnm : meth.name = yX13_isName.name) :
    ∀ (n : Nat) (x0 : Nat) (x1 : Int32) (x2 : Int32) (x3 : Int32) (x4 : Int32) (x5 : Int32) (H : Heap) (locs : List Loc) (ls : Array Slot), lv_has ls 6 [(0, rv x0), (1, .int x1), (2, .int x2), (3, .int x3), (4, .int x4), (5, .int x5)] → St E A s h H locs → lp (fun _ _ _ _ _ _ => none) (fX13_isName_20 h) n x0 x1 x2 x3 x4 x5 = some r9 → W p l e R s m args below meth c H locs 0 0 (MQ below (Qi E A h r9) args s 0 0 A) (F0 m 20 ls []) := by
  intro n
  induction n with
  | zero =>
    intro x0 x1 x2 x3 x4 x5 H locs ls hl S hf
    exact nomatch hf
  | succ n ih =>
    intro x0 x1 x2 x3 x4 x5 H locs ls hl S hf
    exact wfX13_isName_20 X hr hlk hnm ih x0 x1 x2 x3 x4 x5 H locs ls hl S hf
def fX13_isName (a0 : Nat) (a1 : Int32) (a2 : Int32) (a3 : Int32) (h : Hp) : Option (Int32) := gd 11 a0 h (ob (gR 11 a0 27 h) fun v1 => ob (aI v1 a3 h) fun v2 => if v2 = a2 then lp (fun _ _ _ _ _ _ => none) (fX13_isName_20 h) FU a0 a1 a2 a3 1 0 else lp (fun _ _ _ _ _ _ => none) (fX13_isName_20 h) FU a0 a1 a2 a3 0 0)
theorem tkX13_isName {a0 : Nat} {a1 : Int32} {a2 : Int32} {a3 : Int32} {h : Hp} {r9 : Int32} (e : fX13_isName a0 a1 a2 a3 h = some r9) : hK h a0 = 11 := by
  unfold fX13_isName at e
  exact (gd_some e).1
theorem cX13_isName_m (l : Launch) {E : EE} {A : Nat → Prop} {a0 : Nat} {a1 : Int32} {a2 : Int32} {a3 : Int32} {h : Hp} {r9 : Int32} (hf : fX13_isName a0 a1 a2 a3 h = some r9) : Met l yX13_isName (wsM yX13_isName cX13_isName 6 (some .boolean)) (rmm 8 0 0) (PcE E A h [rv a0, .int a1, .int a2, .int a3]) (Qi E A h r9) 0 0 A := by
  refine met_of (by decide +kernel) (by simp [lg_sl, cat_rv, cat_wv, cat_sv, cat_i, cat_l, cat_a]) (fun p e s m args below meth c ls X hr hlk hnm S hl => ?_)
  have hl : lv_has ls 6 [(0, rv a0), (1, .int a1), (2, .int a2), (3, .int a3)] := by simpa [lv_args, cat_rv, cat_wv, cat_sv, cat_i, cat_l, cat_a] using hl
  generalize hH : s.heap = H at S ⊢
  generalize hlo : ([] : List Loc) = locs at S ⊢
  clear hH hlo
  unfold fX13_isName at hf
  obtain ⟨hth, hf⟩ := gd_some hf
  refine g_aload_n X (or_rv _) dX13_isName_0 rfl (lv_at hl 0 rfl) ?_
  refine g_gR X S foX13_117 dX13_isName_1 hf (fun v1 hf => ?_)
  refine lv_iload_n X.1 X.2.1 dX13_isName_4 rfl (lv_at hl 3 rfl) ?_
  refine g_aI X S dX13_isName_5 hf (fun v2 hf => ?_)
  refine lv_iload_n X.1 X.2.1 dX13_isName_6 rfl (lv_at hl 2 rfl) ?_
  refine lv_icmp_ne (tgt := 14) X.1 X.2.1 dX13_isName_7 (by decide) (fun c3 => ?_) (fun c3 => ?_)
  · replace hf := (if_neg c3).symm.trans hf
    refine lv_iconst (v := 0) X.1 X.2.1 dX13_isName_14 (by decide) ?_
    refine lv_istore (lv' := [(4, .int 0), (0, rv a0), (1, .int a1), (2, .int a2), (3, .int a3)]) X.1 X.2.1 dX13_isName_15 hl (by decide) rfl (fun ls hl => ?_)
    refine lv_iconst (v := 0) X.1 X.2.1 dX13_isName_17 (by decide) ?_
    refine lv_istore (lv' := [(5, .int 0), (4, .int 0), (0, rv a0), (1, .int a1), (2, .int a2), (3, .int a3)]) X.1 X.2.1 dX13_isName_18 hl (by decide) rfl (fun ls hl => ?_)
    exact wfX13_isName_20_l X hr hlk hnm FU _ _ _ _ _ _ _ _ _ (lv_sub hl [2, 3, 4, 5, 1, 0] rfl) S hf
  · replace hf := (if_pos c3).symm.trans hf
    refine lv_iconst (v := 1) X.1 X.2.1 dX13_isName_10 (by decide) ?_
    refine lv_goto (tgt := 15) X.1 X.2.1 dX13_isName_11 (by decide) ?_
    refine lv_istore (lv' := [(4, .int 1), (0, rv a0), (1, .int a1), (2, .int a2), (3, .int a3)]) X.1 X.2.1 dX13_isName_15 hl (by decide) rfl (fun ls hl => ?_)
    refine lv_iconst (v := 0) X.1 X.2.1 dX13_isName_17 (by decide) ?_
    refine lv_istore (lv' := [(5, .int 0), (4, .int 1), (0, rv a0), (1, .int a1), (2, .int a2), (3, .int a3)]) X.1 X.2.1 dX13_isName_18 hl (by decide) rfl (fun ls hl => ?_)
    exact wfX13_isName_20_l X hr hlk hnm FU _ _ _ _ _ _ _ _ _ (lv_sub hl [2, 3, 4, 5, 1, 0] rfl) S hf
def fX13_named_2 (h : Hp) (k2 : Nat → Int32 → Int32 → Int32 → Option (Int32)) (x0 : Nat) (x1 : Int32) (x2 : Int32) (x3 : Int32) : Option (Int32) := ob (gI 11 x0 14 h) fun v1 => if v1 ≤ x3 then some (-1) else ob (gR 11 x0 27 h) fun v3 => ob (aI v3 x3 h) fun v4 => if v4 ≤ 0 then lt (x3 + 1) fun z6 => k2 x0 x1 x2 z6 else ob (fX13_isName x0 x1 x2 x3 h) fun v7 => if v7 = 0 then lt (x3 + 1) fun z9 => k2 x0 x1 x2 z9 else some x3
theorem wfX13_named_2 {h : Hp} {k2 : Nat → Int32 → Int32 → Int32 → Option (Int32)} {r9 : Int32} (X : Cx p E A 9 R s m args c cX13_named yX13_named.cls 4) (hr : meth.sig.returnType = (some .int)) (hlk : meth.locks = false) (hnm : meth.name = yX13_named.name) (hk2 : ∀ (x0 : Nat) (x1 : Int32) (x2 : Int32) (x3 : Int32) (H : Heap) (locs : List Loc) (ls : Array Slot), lv_has ls 4 [(0, rv x0), (1, .int x1), (2, .int x2), (3, .int x3)] → St E A s h H locs → k2 x0 x1 x2 x3 = some r9 → W p l e R s m args below meth c H locs 0 0 (MQ below (Qi E A h r9) args s 0 0 A) (F0 m 2 ls [])) :
    ∀ (x0 : Nat) (x1 : Int32) (x2 : Int32) (x3 : Int32) (H : Heap) (locs : List Loc) (ls : Array Slot), lv_has ls 4 [(0, rv x0), (1, .int x1), (2, .int x2), (3, .int x3)] → St E A s h H locs → fX13_named_2 h k2 x0 x1 x2 x3 = some r9 → W p l e R s m args below meth c H locs 0 0 (MQ below (Qi E A h r9) args s 0 0 A) (F0 m 2 ls []) := by
  intro x0 x1 x2 x3 H locs ls hl S hf
  unfold fX13_named_2 at hf
  refine lv_iload_n X.1 X.2.1 dX13_named_2 rfl (lv_at hl 3 rfl) ?_
  refine g_aload_n X (or_rv _) dX13_named_3 rfl (lv_at hl 0 rfl) ?_
  refine g_gI X S foX13_259 rfl dX13_named_4 hf (fun v1 hf => ?_)
  refine lv_icmp_ge (tgt := 37) X.1 X.2.1 dX13_named_7 (by decide) (fun c2 => ?_) (fun c2 => ?_)
  · replace hf := (if_pos c2).symm.trans hf
    refine lv_iconst (v := (-1)) X.1 X.2.1 dX13_named_37 (by decide) ?_
    cases hf; exact g_ri X S hr hlk dX13_named_38
  · replace hf := (if_neg c2).symm.trans hf
    refine g_aload_n X (or_rv _) dX13_named_10 rfl (lv_at hl 0 rfl) ?_
    refine g_gR X S foX13_117 dX13_named_11 hf (fun v3 hf => ?_)
    refine lv_iload_n X.1 X.2.1 dX13_named_14 rfl (lv_at hl 3 rfl) ?_
    refine g_aI X S dX13_named_15 hf (fun v4 hf => ?_)
    refine lv_if_le (tgt := 31) X.1 X.2.1 dX13_named_16 (by decide) (fun c5 => ?_) (fun c5 => ?_)
    · replace hf := (if_pos c5).symm.trans hf
      obtain ⟨z6, ez6, hf⟩ := lt_some hf
      refine lv_iinc (v := z6) (lv' := [(3, .int z6), (0, rv x0), (1, .int x1), (2, .int x2)]) X.1 X.2.1 dX13_named_31 hl (k := 3) rfl (by rw [← ez6]; rfl) (by decide) rfl (fun ls hl => ?_)
      refine lv_goto (tgt := 2) X.1 X.2.1 dX13_named_34 (by decide) ?_
      exact hk2 _ _ _ _ _ _ _ (lv_sub hl [1, 2, 3, 0] rfl) S hf
    · replace hf := (if_neg c5).symm.trans hf
      refine g_aload_n X (or_rv _) dX13_named_19 rfl (lv_at hl 0 rfl) ?_
      refine lv_iload_n X.1 X.2.1 dX13_named_20 rfl (lv_at hl 1 rfl) ?_
      refine lv_iload_n X.1 X.2.1 dX13_named_21 rfl (lv_at hl 2 rfl) ?_
      refine lv_iload_n X.1 X.2.1 dX13_named_22 rfl (lv_at hl 3 rfl) ?_
      obtain ⟨v7, hc, hf⟩ := ob_some hf
      refine g_ci S (runV (As := [.int x1, .int x2, .int x3]) (rest := []) X S coX13_262 (by decide) (cX13_isName_m l hc) (tkX13_isName hc) rfl hl.1 (by decide) rfl ⟨Nat.zero_le _, Nat.zero_le _⟩ dX13_named_23) (fun H locs S => ?_)
      refine lv_if_eq (tgt := 31) X.1 X.2.1 dX13_named_26 (by decide) (fun c8 => ?_) (fun c8 => ?_)
      · replace hf := (if_pos c8).symm.trans hf
        obtain ⟨z9, ez9, hf⟩ := lt_some hf
        refine lv_iinc (v := z9) (lv' := [(3, .int z9), (0, rv x0), (1, .int x1), (2, .int x2)]) X.1 X.2.1 dX13_named_31 hl (k := 3) rfl (by rw [← ez9]; rfl) (by decide) rfl (fun ls hl => ?_)
        refine lv_goto (tgt := 2) X.1 X.2.1 dX13_named_34 (by decide) ?_
        exact hk2 _ _ _ _ _ _ _ (lv_sub hl [1, 2, 3, 0] rfl) S hf
      · replace hf := (if_neg c8).symm.trans hf
        refine lv_iload_n X.1 X.2.1 dX13_named_29 rfl (lv_at hl 3 rfl) ?_
        cases hf; exact g_ri X S hr hlk dX13_named_30
theorem wfX13_named_2_l {h : Hp} {r9 : Int32} (X : Cx p E A 9 R s m args c cX13_named yX13_named.cls 4) (hr : meth.sig.returnType = (some .int)) (hlk : meth.locks = false) (hnm : meth.name = yX13_named.name) :
    ∀ (n : Nat) (x0 : Nat) (x1 : Int32) (x2 : Int32) (x3 : Int32) (H : Heap) (locs : List Loc) (ls : Array Slot), lv_has ls 4 [(0, rv x0), (1, .int x1), (2, .int x2), (3, .int x3)] → St E A s h H locs → lp (fun _ _ _ _ => none) (fX13_named_2 h) n x0 x1 x2 x3 = some r9 → W p l e R s m args below meth c H locs 0 0 (MQ below (Qi E A h r9) args s 0 0 A) (F0 m 2 ls []) := by
  intro n
  induction n with
  | zero =>
    intro x0 x1 x2 x3 H locs ls hl S hf
    exact nomatch hf
  | succ n ih =>
    intro x0 x1 x2 x3 H locs ls hl S hf
    exact wfX13_named_2 X hr hlk hnm ih x0 x1 x2 x3 H locs ls hl S hf
def fX13_named (a0 : Nat) (a1 : Int32) (a2 : Int32) (h : Hp) : Option (Int32) := gd 11 a0 h (lp (fun _ _ _ _ => none) (fX13_named_2 h) FU a0 a1 a2 0)
theorem tkX13_named {a0 : Nat} {a1 : Int32} {a2 : Int32} {h : Hp} {r9 : Int32} (e : fX13_named a0 a1 a2 h = some r9) : hK h a0 = 11 := by
  unfold fX13_named at e
  exact (gd_some e).1
theorem cX13_named_m (l : Launch) {E : EE} {A : Nat → Prop} {a0 : Nat} {a1 : Int32} {a2 : Int32} {h : Hp} {r9 : Int32} (hf : fX13_named a0 a1 a2 h = some r9) : Met l yX13_named (wsM yX13_named cX13_named 4 (some .int)) (rmm 9 0 0) (PcE E A h [rv a0, .int a1, .int a2]) (Qi E A h r9) 0 0 A := by
  refine met_of (by decide +kernel) (by simp [lg_sl, cat_rv, cat_wv, cat_sv, cat_i, cat_l, cat_a]) (fun p e s m args below meth c ls X hr hlk hnm S hl => ?_)
  have hl : lv_has ls 4 [(0, rv a0), (1, .int a1), (2, .int a2)] := by simpa [lv_args, cat_rv, cat_wv, cat_sv, cat_i, cat_l, cat_a] using hl
  generalize hH : s.heap = H at S ⊢
  generalize hlo : ([] : List Loc) = locs at S ⊢
  clear hH hlo
  unfold fX13_named at hf
  obtain ⟨hth, hf⟩ := gd_some hf
  refine lv_iconst (v := 0) X.1 X.2.1 dX13_named_0 (by decide) ?_
  refine lv_istore_n (i := 3) (lv' := [(3, .int 0), (0, rv a0), (1, .int a1), (2, .int a2)]) X.1 X.2.1 dX13_named_1 rfl hl (by decide) rfl (fun ls hl => ?_)
  exact wfX13_named_2_l X hr hlk hnm FU _ _ _ _ _ _ _ (lv_sub hl [1, 2, 3, 0] rfl) S hf
def fX13_nameHere_41 (k68 : Nat → Hp → Option (Int32 × Hp)) (x0 : Nat) (h : Hp) : Option (Int32 × Hp) := ob (fX13_wrong x0 1 h) fun h => k68 x0 h
theorem wfX13_nameHere_41 {k68 : Nat → Hp → Option (Int32 × Hp)} {r9 : Int32} {h9 : Hp} (X : Cx p E A 10 R s m args c cX13_nameHere yX13_nameHere.cls 1) (hr : meth.sig.returnType = (some .boolean)) (hlk : meth.locks = false) (hnm : meth.name = yX13_nameHere.name) (hk68 : ∀ (x0 : Nat) (h : Hp) (H : Heap) (locs : List Loc) (ls : Array Slot), lv_has ls 1 [(0, rv x0)] → St E A s h H locs → k68 x0 h = some (r9, h9) → W p l e R s m args below meth c H locs 0 0 (MQ below (Qi E A h9 r9) args s 0 0 A) (F0 m 68 ls [])) :
    ∀ (x0 : Nat) (h : Hp) (H : Heap) (locs : List Loc) (ls : Array Slot), lv_has ls 1 [(0, rv x0)] → St E A s h H locs → fX13_nameHere_41 k68 x0 h = some (r9, h9) → W p l e R s m args below meth c H locs 0 0 (MQ below (Qi E A h9 r9) args s 0 0 A) (F0 m 41 ls []) := by
  intro x0 h H locs ls hl S hf
  unfold fX13_nameHere_41 at hf
  refine g_aload_n X (or_rv _) dX13_nameHere_41 rfl (lv_at hl 0 rfl) ?_
  refine lv_iconst (v := 1) X.1 X.2.1 dX13_nameHere_42 (by decide) ?_
  obtain ⟨h, hc, hf⟩ := ob_some hf
  refine g_cv S (runV (As := [.int 1]) (rest := []) X S coX13_255 (by decide) (cX13_wrong_m l hc) (tkX13_wrong hc) rfl hl.1 (by decide) rfl ⟨Nat.zero_le _, Nat.zero_le _⟩ dX13_nameHere_43) (fun H locs S => ?_)
  refine lv_goto (tgt := 68) X.1 X.2.1 dX13_nameHere_46 (by decide) ?_
  exact hk68 _ _ _ _ _ hl S hf
def fX13_nameHere_68 (x0 : Nat) (h : Hp) : Option (Int32 × Hp) := ob (gI 11 x0 23 h) fun v1 => if v1 = 0 then some (1, h) else some (0, h)
theorem wfX13_nameHere_68 {r9 : Int32} {h9 : Hp} (X : Cx p E A 10 R s m args c cX13_nameHere yX13_nameHere.cls 1) (hr : meth.sig.returnType = (some .boolean)) (hlk : meth.locks = false) (hnm : meth.name = yX13_nameHere.name) :
    ∀ (x0 : Nat) (h : Hp) (H : Heap) (locs : List Loc) (ls : Array Slot), lv_has ls 1 [(0, rv x0)] → St E A s h H locs → fX13_nameHere_68 x0 h = some (r9, h9) → W p l e R s m args below meth c H locs 0 0 (MQ below (Qi E A h9 r9) args s 0 0 A) (F0 m 68 ls []) := by
  intro x0 h H locs ls hl S hf
  unfold fX13_nameHere_68 at hf
  refine g_aload_n X (or_rv _) dX13_nameHere_68 rfl (lv_at hl 0 rfl) ?_
  refine g_gI X S foX13_231 rfl dX13_nameHere_69 hf (fun v1 hf => ?_)
  refine lv_if_ne (tgt := 79) X.1 X.2.1 dX13_nameHere_72 (by decide) (fun c2 => ?_) (fun c2 => ?_)
  · replace hf := (if_neg c2).symm.trans hf
    refine lv_iconst (v := 0) X.1 X.2.1 dX13_nameHere_79 (by decide) ?_
    cases hf; exact g_rz X S hr hlk (by decide) dX13_nameHere_80
  · replace hf := (if_pos c2).symm.trans hf
    refine lv_iconst (v := 1) X.1 X.2.1 dX13_nameHere_75 (by decide) ?_
    refine lv_goto (tgt := 80) X.1 X.2.1 dX13_nameHere_76 (by decide) ?_
    cases hf; exact g_rz X S hr hlk (by decide) dX13_nameHere_80
def fX13_nameHere (a0 : Nat) (h : Hp) : Option (Int32 × Hp) := gd 11 a0 h (ob (gI 11 a0 23 h) fun v1 => if v1 = 0 then ob (gI 11 a0 19 h) fun v3 => if v3 = 1 then ob (gR 11 a0 0 h) fun v5 => ob (fX13_which a0 v5 h) fun v6 => if v6 = (-1) then ob (gR 11 a0 1 h) fun v8 => ob (fX13_which a0 v8 h) fun v9 => if v9 = (-1) then ob (gI 11 a0 22 h) fun v11 => ob (gI 11 a0 21 h) fun v12 => if (v11 - v12) ≤ 8 then fX13_nameHere_68 a0 h else ob (fX13_wrong a0 2 h) fun h => fX13_nameHere_68 a0 h else fX13_nameHere_41 fX13_nameHere_68 a0 h else fX13_nameHere_41 fX13_nameHere_68 a0 h else fX13_nameHere_41 fX13_nameHere_68 a0 h else some (0, h))
theorem tkX13_nameHere {a0 : Nat} {h : Hp} {r9 : Int32 × Hp} (e : fX13_nameHere a0 h = some r9) : hK h a0 = 11 := by
  unfold fX13_nameHere at e
  exact (gd_some e).1
theorem cX13_nameHere_m (l : Launch) {E : EE} {A : Nat → Prop} {a0 : Nat} {h : Hp} {r9 : Int32} {h9 : Hp} (hf : fX13_nameHere a0 h = some (r9, h9)) : Met l yX13_nameHere (wsM yX13_nameHere cX13_nameHere 1 (some .boolean)) (rmm 10 0 0) (PcE E A h [rv a0]) (Qi E A h9 r9) 0 0 A := by
  refine met_of (by decide +kernel) (by simp [lg_sl, cat_rv, cat_wv, cat_sv, cat_i, cat_l, cat_a]) (fun p e s m args below meth c ls X hr hlk hnm S hl => ?_)
  have hl : lv_has ls 1 [(0, rv a0)] := by simpa [lv_args, cat_rv, cat_wv, cat_sv, cat_i, cat_l, cat_a] using hl
  generalize hH : s.heap = H at S ⊢
  generalize hlo : ([] : List Loc) = locs at S ⊢
  clear hH hlo
  unfold fX13_nameHere at hf
  obtain ⟨hth, hf⟩ := gd_some hf
  refine g_aload_n X (or_rv _) dX13_nameHere_0 rfl (lv_at hl 0 rfl) ?_
  refine g_gI X S foX13_231 rfl dX13_nameHere_1 hf (fun v1 hf => ?_)
  refine lv_if_eq (tgt := 9) X.1 X.2.1 dX13_nameHere_4 (by decide) (fun c2 => ?_) (fun c2 => ?_)
  · replace hf := (if_pos c2).symm.trans hf
    refine g_aload_n X (or_rv _) dX13_nameHere_9 rfl (lv_at hl 0 rfl) ?_
    refine g_gI X S foX13_209 rfl dX13_nameHere_10 hf (fun v3 hf => ?_)
    refine lv_iconst (v := 1) X.1 X.2.1 dX13_nameHere_13 (by decide) ?_
    refine lv_icmp_ne (tgt := 41) X.1 X.2.1 dX13_nameHere_14 (by decide) (fun c4 => ?_) (fun c4 => ?_)
    · replace hf := (if_neg c4).symm.trans hf
      exact wfX13_nameHere_41 X hr hlk hnm (wfX13_nameHere_68 X hr hlk hnm) _ _ _ _ _ hl S hf
    · replace hf := (if_pos c4).symm.trans hf
      refine g_aload_n X (or_rv _) dX13_nameHere_17 rfl (lv_at hl 0 rfl) ?_
      refine g_aload_n X (or_rv _) dX13_nameHere_18 rfl (lv_at hl 0 rfl) ?_
      refine g_gR X S foX13_59 dX13_nameHere_19 hf (fun v5 hf => ?_)
      obtain ⟨v6, hc, hf⟩ := ob_some hf
      refine g_ci S (runV (As := [rv v5]) (rest := []) X S coX13_266 (by decide) (cX13_which_m l hc) (tkX13_which hc) rfl hl.1 (by decide) rfl ⟨Nat.zero_le _, Nat.zero_le _⟩ dX13_nameHere_22) (fun H locs S => ?_)
      refine lv_iconst (v := (-1)) X.1 X.2.1 dX13_nameHere_25 (by decide) ?_
      refine lv_icmp_ne (tgt := 41) X.1 X.2.1 dX13_nameHere_26 (by decide) (fun c7 => ?_) (fun c7 => ?_)
      · replace hf := (if_neg c7).symm.trans hf
        exact wfX13_nameHere_41 X hr hlk hnm (wfX13_nameHere_68 X hr hlk hnm) _ _ _ _ _ hl S hf
      · replace hf := (if_pos c7).symm.trans hf
        refine g_aload_n X (or_rv _) dX13_nameHere_29 rfl (lv_at hl 0 rfl) ?_
        refine g_aload_n X (or_rv _) dX13_nameHere_30 rfl (lv_at hl 0 rfl) ?_
        refine g_gR X S foX13_73 dX13_nameHere_31 hf (fun v8 hf => ?_)
        obtain ⟨v9, hc, hf⟩ := ob_some hf
        refine g_ci S (runV (As := [rv v8]) (rest := []) X S coX13_266 (by decide) (cX13_which_m l hc) (tkX13_which hc) rfl hl.1 (by decide) rfl ⟨Nat.zero_le _, Nat.zero_le _⟩ dX13_nameHere_34) (fun H locs S => ?_)
        refine lv_iconst (v := (-1)) X.1 X.2.1 dX13_nameHere_37 (by decide) ?_
        refine lv_icmp_eq (tgt := 49) X.1 X.2.1 dX13_nameHere_38 (by decide) (fun c10 => ?_) (fun c10 => ?_)
        · replace hf := (if_pos c10).symm.trans hf
          refine g_aload_n X (or_rv _) dX13_nameHere_49 rfl (lv_at hl 0 rfl) ?_
          refine g_gI X S foX13_228 rfl dX13_nameHere_50 hf (fun v11 hf => ?_)
          refine g_aload_n X (or_rv _) dX13_nameHere_53 rfl (lv_at hl 0 rfl) ?_
          refine g_gI X S foX13_206 rfl dX13_nameHere_54 hf (fun v12 hf => ?_)
          refine lv_isub X.1 X.2.1 dX13_nameHere_57 ?_
          refine lv_bipush (v := 8) X.1 X.2.1 dX13_nameHere_58 (by decide) ?_
          refine lv_icmp_le (tgt := 68) X.1 X.2.1 dX13_nameHere_60 (by decide) (fun c13 => ?_) (fun c13 => ?_)
          · replace hf := (if_pos c13).symm.trans hf
            exact wfX13_nameHere_68 X hr hlk hnm _ _ _ _ _ hl S hf
          · replace hf := (if_neg c13).symm.trans hf
            refine g_aload_n X (or_rv _) dX13_nameHere_63 rfl (lv_at hl 0 rfl) ?_
            refine lv_iconst (v := 2) X.1 X.2.1 dX13_nameHere_64 (by decide) ?_
            obtain ⟨h, hc, hf⟩ := ob_some hf
            refine g_cv S (runV (As := [.int 2]) (rest := []) X S coX13_255 (by decide) (cX13_wrong_m l hc) (tkX13_wrong hc) rfl hl.1 (by decide) rfl ⟨Nat.zero_le _, Nat.zero_le _⟩ dX13_nameHere_65) (fun H locs S => ?_)
            exact wfX13_nameHere_68 X hr hlk hnm _ _ _ _ _ hl S hf
        · replace hf := (if_neg c10).symm.trans hf
          exact wfX13_nameHere_41 X hr hlk hnm (wfX13_nameHere_68 X hr hlk hnm) _ _ _ _ _ hl S hf
  · replace hf := (if_neg c2).symm.trans hf
    refine lv_iconst (v := 0) X.1 X.2.1 dX13_nameHere_7 (by decide) ?_
    cases hf; exact g_rz X S hr hlk (by decide) dX13_nameHere_8
def fX13_readLabel_76 (x0 : Nat) (h : Hp) : Option (Hp) := ob (fX13_mark x0 58 h) fun h => some h
theorem wfX13_readLabel_76 {h9 : Hp} (X : Cx p E A 12 R s m args c cX13_readLabel yX13_readLabel.cls 1) (hr : meth.sig.returnType = none) (hlk : meth.locks = false) (hnm : meth.name = yX13_readLabel.name) :
    ∀ (x0 : Nat) (h : Hp) (H : Heap) (locs : List Loc) (ls : Array Slot), lv_has ls 1 [(0, rv x0)] → St E A s h H locs → fX13_readLabel_76 x0 h = some h9 → W p l e R s m args below meth c H locs 0 0 (MQ below (Qv E A h9) args s 0 0 A) (F0 m 76 ls []) := by
  intro x0 h H locs ls hl S hf
  unfold fX13_readLabel_76 at hf
  refine g_aload_n X (or_rv _) dX13_readLabel_76 rfl (lv_at hl 0 rfl) ?_
  refine lv_bipush (v := 58) X.1 X.2.1 dX13_readLabel_77 (by decide) ?_
  obtain ⟨h, hc, hf⟩ := ob_some hf
  refine g_cv S (runV (As := [.int 58]) (rest := []) X S coX13_277 (by decide) (cX13_mark_m l hc) (tkX13_mark hc) rfl hl.1 (by decide) rfl ⟨Nat.zero_le _, Nat.zero_le _⟩ dX13_readLabel_79) (fun H locs S => ?_)
  cases hf; exact g_rv X S hr hlk dX13_readLabel_82
def fX13_readLabel_34 (x0 : Nat) (h : Hp) : Option (Hp) := ob (gR 11 x0 26 h) fun v1 => ob (gI 11 x0 14 h) fun v2 => ob (gI 11 x0 21 h) fun v3 => ob (qI v1 v2 v3 h) fun h => ob (gR 11 x0 27 h) fun v4 => ob (gI 11 x0 14 h) fun v5 => ob (gI 11 x0 22 h) fun v6 => ob (gI 11 x0 21 h) fun v7 => ob (qI v4 v5 (v6 - v7) h) fun h => ob (gI 11 x0 23 h) fun v8 => if v8 = 0 then ob (fX13_stepOn x0 h) fun h => fX13_readLabel_76 x0 h else fX13_readLabel_76 x0 h
theorem wfX13_readLabel_34 {h9 : Hp} (X : Cx p E A 12 R s m args c cX13_readLabel yX13_readLabel.cls 1) (hr : meth.sig.returnType = none) (hlk : meth.locks = false) (hnm : meth.name = yX13_readLabel.name) :
    ∀ (x0 : Nat) (h : Hp) (H : Heap) (locs : List Loc) (ls : Array Slot), lv_has ls 1 [(0, rv x0)] → St E A s h H locs → fX13_readLabel_34 x0 h = some h9 → W p l e R s m args below meth c H locs 0 0 (MQ below (Qv E A h9) args s 0 0 A) (F0 m 34 ls []) := by
  intro x0 h H locs ls hl S hf
  unfold fX13_readLabel_34 at hf
  refine g_aload_n X (or_rv _) dX13_readLabel_34 rfl (lv_at hl 0 rfl) ?_
  refine g_gR X S foX13_114 dX13_readLabel_35 hf (fun v1 hf => ?_)
  refine g_aload_n X (or_rv _) dX13_readLabel_38 rfl (lv_at hl 0 rfl) ?_
  refine g_gI X S foX13_259 rfl dX13_readLabel_39 hf (fun v2 hf => ?_)
  refine g_aload_n X (or_rv _) dX13_readLabel_42 rfl (lv_at hl 0 rfl) ?_
  refine g_gI X S foX13_206 rfl dX13_readLabel_43 hf (fun v3 hf => ?_)
  refine g_qI X S dX13_readLabel_46 hf (fun h H locs hm hf S => ?_)
  refine g_aload_n X (or_rv _) dX13_readLabel_47 rfl (lv_at hl 0 rfl) ?_
  refine g_gR X S foX13_117 dX13_readLabel_48 hf (fun v4 hf => ?_)
  refine g_aload_n X (or_rv _) dX13_readLabel_51 rfl (lv_at hl 0 rfl) ?_
  refine g_gI X S foX13_259 rfl dX13_readLabel_52 hf (fun v5 hf => ?_)
  refine g_aload_n X (or_rv _) dX13_readLabel_55 rfl (lv_at hl 0 rfl) ?_
  refine g_gI X S foX13_228 rfl dX13_readLabel_56 hf (fun v6 hf => ?_)
  refine g_aload_n X (or_rv _) dX13_readLabel_59 rfl (lv_at hl 0 rfl) ?_
  refine g_gI X S foX13_206 rfl dX13_readLabel_60 hf (fun v7 hf => ?_)
  refine lv_isub X.1 X.2.1 dX13_readLabel_63 ?_
  refine g_qI X S dX13_readLabel_64 hf (fun h H locs hm hf S => ?_)
  refine g_aload_n X (or_rv _) dX13_readLabel_65 rfl (lv_at hl 0 rfl) ?_
  refine g_gI X S foX13_231 rfl dX13_readLabel_66 hf (fun v8 hf => ?_)
  refine lv_if_ne (tgt := 76) X.1 X.2.1 dX13_readLabel_69 (by decide) (fun c9 => ?_) (fun c9 => ?_)
  · replace hf := (if_neg c9).symm.trans hf
    exact wfX13_readLabel_76 X hr hlk hnm _ _ _ _ _ hl S hf
  · replace hf := (if_pos c9).symm.trans hf
    refine g_aload_n X (or_rv _) dX13_readLabel_72 rfl (lv_at hl 0 rfl) ?_
    obtain ⟨h, hc, hf⟩ := ob_some hf
    refine g_cv S (runV (As := []) (rest := []) X S coX13_252 (by decide) (cX13_stepOn_m l hc) (tkX13_stepOn hc) rfl hl.1 (by decide) rfl ⟨Nat.zero_le _, Nat.zero_le _⟩ dX13_readLabel_73) (fun H locs S => ?_)
    exact wfX13_readLabel_76 X hr hlk hnm _ _ _ _ _ hl S hf
def fX13_readLabel (a0 : Nat) (h : Hp) : Option (Hp) := gd 11 a0 h (ob2 (fX13_nameHere a0 h) fun v1 h => if v1 = 0 then some h else ob (gI 11 a0 21 h) fun v3 => ob (gI 11 a0 22 h) fun v4 => ob (gI 11 a0 21 h) fun v5 => ob (fX13_named a0 v3 (v4 - v5) h) fun v6 => if v6 = (-1) then fX13_readLabel_34 a0 h else ob (fX13_wrong a0 4 h) fun h => fX13_readLabel_34 a0 h)
theorem tkX13_readLabel {a0 : Nat} {h : Hp} {r9 : Hp} (e : fX13_readLabel a0 h = some r9) : hK h a0 = 11 := by
  unfold fX13_readLabel at e
  exact (gd_some e).1
theorem cX13_readLabel_m (l : Launch) {E : EE} {A : Nat → Prop} {a0 : Nat} {h : Hp} {h9 : Hp} (hf : fX13_readLabel a0 h = some h9) : Met l yX13_readLabel (wsM yX13_readLabel cX13_readLabel 1 none) (rmm 12 0 0) (PcE E A h [rv a0]) (Qv E A h9) 0 0 A := by
  refine met_of (by decide +kernel) (by simp [lg_sl, cat_rv, cat_wv, cat_sv, cat_i, cat_l, cat_a]) (fun p e s m args below meth c ls X hr hlk hnm S hl => ?_)
  have hl : lv_has ls 1 [(0, rv a0)] := by simpa [lv_args, cat_rv, cat_wv, cat_sv, cat_i, cat_l, cat_a] using hl
  generalize hH : s.heap = H at S ⊢
  generalize hlo : ([] : List Loc) = locs at S ⊢
  clear hH hlo
  unfold fX13_readLabel at hf
  obtain ⟨hth, hf⟩ := gd_some hf
  refine g_aload_n X (or_rv _) dX13_readLabel_0 rfl (lv_at hl 0 rfl) ?_
  obtain ⟨v1, h, hc, hf⟩ := ob2_some hf
  refine g_ci S (runV (As := []) (rest := []) X S coX13_270 (by decide) (cX13_nameHere_m l hc) (tkX13_nameHere hc) rfl hl.1 (by decide) rfl ⟨Nat.zero_le _, Nat.zero_le _⟩ dX13_readLabel_1) (fun H locs S => ?_)
  refine lv_if_ne (tgt := 8) X.1 X.2.1 dX13_readLabel_4 (by decide) (fun c2 => ?_) (fun c2 => ?_)
  · replace hf := (if_neg c2).symm.trans hf
    refine g_aload_n X (or_rv _) dX13_readLabel_8 rfl (lv_at hl 0 rfl) ?_
    refine g_aload_n X (or_rv _) dX13_readLabel_9 rfl (lv_at hl 0 rfl) ?_
    refine g_gI X S foX13_206 rfl dX13_readLabel_10 hf (fun v3 hf => ?_)
    refine g_aload_n X (or_rv _) dX13_readLabel_13 rfl (lv_at hl 0 rfl) ?_
    refine g_gI X S foX13_228 rfl dX13_readLabel_14 hf (fun v4 hf => ?_)
    refine g_aload_n X (or_rv _) dX13_readLabel_17 rfl (lv_at hl 0 rfl) ?_
    refine g_gI X S foX13_206 rfl dX13_readLabel_18 hf (fun v5 hf => ?_)
    refine lv_isub X.1 X.2.1 dX13_readLabel_21 ?_
    obtain ⟨v6, hc, hf⟩ := ob_some hf
    refine g_ci S (runV (As := [.int v3, .int (v4 - v5)]) (rest := []) X S coX13_274 (by decide) (cX13_named_m l hc) (tkX13_named hc) rfl hl.1 (by decide) rfl ⟨Nat.zero_le _, Nat.zero_le _⟩ dX13_readLabel_22) (fun H locs S => ?_)
    refine lv_iconst (v := (-1)) X.1 X.2.1 dX13_readLabel_25 (by decide) ?_
    refine lv_icmp_eq (tgt := 34) X.1 X.2.1 dX13_readLabel_26 (by decide) (fun c7 => ?_) (fun c7 => ?_)
    · replace hf := (if_pos c7).symm.trans hf
      exact wfX13_readLabel_34 X hr hlk hnm _ _ _ _ _ hl S hf
    · replace hf := (if_neg c7).symm.trans hf
      refine g_aload_n X (or_rv _) dX13_readLabel_29 rfl (lv_at hl 0 rfl) ?_
      refine lv_iconst (v := 4) X.1 X.2.1 dX13_readLabel_30 (by decide) ?_
      obtain ⟨h, hc, hf⟩ := ob_some hf
      refine g_cv S (runV (As := [.int 4]) (rest := []) X S coX13_255 (by decide) (cX13_wrong_m l hc) (tkX13_wrong hc) rfl hl.1 (by decide) rfl ⟨Nat.zero_le _, Nat.zero_le _⟩ dX13_readLabel_31) (fun H locs S => ?_)
      exact wfX13_readLabel_34 X hr hlk hnm _ _ _ _ _ hl S hf
  · replace hf := (if_pos c2).symm.trans hf
    cases hf; exact g_rv X S hr hlk dX13_readLabel_7
def fX13_readTarget (a0 : Nat) (h : Hp) : Option (Hp) := gd 11 a0 h (ob2 (fX13_nameHere a0 h) fun v1 h => if v1 = 0 then some h else ob (gR 11 a0 28 h) fun v3 => ob (gI 11 a0 14 h) fun v4 => ob (gI 11 a0 21 h) fun v5 => ob (qI v3 v4 v5 h) fun h => ob (gR 11 a0 29 h) fun v6 => ob (gI 11 a0 14 h) fun v7 => ob (gI 11 a0 22 h) fun v8 => ob (gI 11 a0 21 h) fun v9 => ob (qI v6 v7 (v8 - v9) h) fun h => ob (fX13_stepOn a0 h) fun h => some h)
theorem tkX13_readTarget {a0 : Nat} {h : Hp} {r9 : Hp} (e : fX13_readTarget a0 h = some r9) : hK h a0 = 11 := by
  unfold fX13_readTarget at e
  exact (gd_some e).1
theorem cX13_readTarget_m (l : Launch) {E : EE} {A : Nat → Prop} {a0 : Nat} {h : Hp} {h9 : Hp} (hf : fX13_readTarget a0 h = some h9) : Met l yX13_readTarget (wsM yX13_readTarget cX13_readTarget 1 none) (rmm 11 0 0) (PcE E A h [rv a0]) (Qv E A h9) 0 0 A := by
  refine met_of (by decide +kernel) (by simp [lg_sl, cat_rv, cat_wv, cat_sv, cat_i, cat_l, cat_a]) (fun p e s m args below meth c ls X hr hlk hnm S hl => ?_)
  have hl : lv_has ls 1 [(0, rv a0)] := by simpa [lv_args, cat_rv, cat_wv, cat_sv, cat_i, cat_l, cat_a] using hl
  generalize hH : s.heap = H at S ⊢
  generalize hlo : ([] : List Loc) = locs at S ⊢
  clear hH hlo
  unfold fX13_readTarget at hf
  obtain ⟨hth, hf⟩ := gd_some hf
  refine g_aload_n X (or_rv _) dX13_readTarget_0 rfl (lv_at hl 0 rfl) ?_
  obtain ⟨v1, h, hc, hf⟩ := ob2_some hf
  refine g_ci S (runV (As := []) (rest := []) X S coX13_270 (by decide) (cX13_nameHere_m l hc) (tkX13_nameHere hc) rfl hl.1 (by decide) rfl ⟨Nat.zero_le _, Nat.zero_le _⟩ dX13_readTarget_1) (fun H locs S => ?_)
  refine lv_if_ne (tgt := 8) X.1 X.2.1 dX13_readTarget_4 (by decide) (fun c2 => ?_) (fun c2 => ?_)
  · replace hf := (if_neg c2).symm.trans hf
    refine g_aload_n X (or_rv _) dX13_readTarget_8 rfl (lv_at hl 0 rfl) ?_
    refine g_gR X S foX13_120 dX13_readTarget_9 hf (fun v3 hf => ?_)
    refine g_aload_n X (or_rv _) dX13_readTarget_12 rfl (lv_at hl 0 rfl) ?_
    refine g_gI X S foX13_259 rfl dX13_readTarget_13 hf (fun v4 hf => ?_)
    refine g_aload_n X (or_rv _) dX13_readTarget_16 rfl (lv_at hl 0 rfl) ?_
    refine g_gI X S foX13_206 rfl dX13_readTarget_17 hf (fun v5 hf => ?_)
    refine g_qI X S dX13_readTarget_20 hf (fun h H locs hm hf S => ?_)
    refine g_aload_n X (or_rv _) dX13_readTarget_21 rfl (lv_at hl 0 rfl) ?_
    refine g_gR X S foX13_123 dX13_readTarget_22 hf (fun v6 hf => ?_)
    refine g_aload_n X (or_rv _) dX13_readTarget_25 rfl (lv_at hl 0 rfl) ?_
    refine g_gI X S foX13_259 rfl dX13_readTarget_26 hf (fun v7 hf => ?_)
    refine g_aload_n X (or_rv _) dX13_readTarget_29 rfl (lv_at hl 0 rfl) ?_
    refine g_gI X S foX13_228 rfl dX13_readTarget_30 hf (fun v8 hf => ?_)
    refine g_aload_n X (or_rv _) dX13_readTarget_33 rfl (lv_at hl 0 rfl) ?_
    refine g_gI X S foX13_206 rfl dX13_readTarget_34 hf (fun v9 hf => ?_)
    refine lv_isub X.1 X.2.1 dX13_readTarget_37 ?_
    refine g_qI X S dX13_readTarget_38 hf (fun h H locs hm hf S => ?_)
    refine g_aload_n X (or_rv _) dX13_readTarget_39 rfl (lv_at hl 0 rfl) ?_
    obtain ⟨h, hc, hf⟩ := ob_some hf
    refine g_cv S (runV (As := []) (rest := []) X S coX13_252 (by decide) (cX13_stepOn_m l hc) (tkX13_stepOn hc) rfl hl.1 (by decide) rfl ⟨Nat.zero_le _, Nat.zero_le _⟩ dX13_readTarget_40) (fun H locs S => ?_)
    cases hf; exact g_rv X S hr hlk dX13_readTarget_43
  · replace hf := (if_pos c2).symm.trans hf
    cases hf; exact g_rv X S hr hlk dX13_readTarget_7
def fX13_worthOf (a0 : Int32) : Option (Int32) := ob (fX13_isDigit a0) fun v1 => if v1 = 0 then some ((a0 - 97) + 10) else some (a0 - 48)
theorem cX13_worthOf_m (l : Launch) {E : EE} {A : Nat → Prop} {a0 : Int32} {h : Hp} {r9 : Int32} (hf : fX13_worthOf a0 = some r9) : Met l yX13_worthOf (wsM yX13_worthOf cX13_worthOf 1 (some .int)) (rmm 9 0 0) (PcE E A h [.int a0]) (Qi E A h r9) 0 0 A := by
  refine met_of (by decide +kernel) (by simp [lg_sl, cat_rv, cat_wv, cat_sv, cat_i, cat_l, cat_a]) (fun p e s m args below meth c ls X hr hlk hnm S hl => ?_)
  have hl : lv_has ls 1 [(0, .int a0)] := by simpa [lv_args, cat_rv, cat_wv, cat_sv, cat_i, cat_l, cat_a] using hl
  generalize hH : s.heap = H at S ⊢
  generalize hlo : ([] : List Loc) = locs at S ⊢
  clear hH hlo
  unfold fX13_worthOf at hf
  refine lv_iload_n X.1 X.2.1 dX13_worthOf_0 rfl (lv_at hl 0 rfl) ?_
  obtain ⟨v1, hc, hf⟩ := ob_some hf
  refine g_ci S (runS (As := [.int a0]) (rest := []) X S coX13_196 (by decide) (cX13_isDigit_m l hc) rfl hl.1 (by decide) rfl ⟨Nat.zero_le _, Nat.zero_le _⟩ dX13_worthOf_1) (fun H locs S => ?_)
  refine lv_if_eq (tgt := 14) X.1 X.2.1 dX13_worthOf_4 (by decide) (fun c2 => ?_) (fun c2 => ?_)
  · replace hf := (if_pos c2).symm.trans hf
    refine lv_iload_n X.1 X.2.1 dX13_worthOf_14 rfl (lv_at hl 0 rfl) ?_
    refine lv_bipush (v := 97) X.1 X.2.1 dX13_worthOf_15 (by decide) ?_
    refine lv_isub X.1 X.2.1 dX13_worthOf_17 ?_
    refine lv_bipush (v := 10) X.1 X.2.1 dX13_worthOf_18 (by decide) ?_
    refine lv_iadd X.1 X.2.1 dX13_worthOf_20 ?_
    cases hf; exact g_ri X S hr hlk dX13_worthOf_21
  · replace hf := (if_neg c2).symm.trans hf
    refine lv_iload_n X.1 X.2.1 dX13_worthOf_7 rfl (lv_at hl 0 rfl) ?_
    refine lv_bipush (v := 48) X.1 X.2.1 dX13_worthOf_8 (by decide) ?_
    refine lv_isub X.1 X.2.1 dX13_worthOf_10 ?_
    refine lv_goto (tgt := 21) X.1 X.2.1 dX13_worthOf_11 (by decide) ?_
    cases hf; exact g_ri X S hr hlk dX13_worthOf_21
def fX13_readHex_30 (k37 : Nat → Int32 → Int32 → Int32 → Hp → Option (Hp)) (x0 : Nat) (x1 : Int32) (x2 : Int32) (h : Hp) : Option (Hp) := ob (fX13_wrong x0 2 h) fun h => k37 x0 x1 x2 0 h
theorem wfX13_readHex_30 {k37 : Nat → Int32 → Int32 → Int32 → Hp → Option (Hp)} {h9 : Hp} (X : Cx p E A 11 R s m args c cX13_readHex yX13_readHex.cls 4) (hr : meth.sig.returnType = none) (hlk : meth.locks = false) (hnm : meth.name = yX13_readHex.name) (hk37 : ∀ (x0 : Nat) (x1 : Int32) (x2 : Int32) (x3 : Int32) (h : Hp) (H : Heap) (locs : List Loc) (ls : Array Slot), lv_has ls 4 [(0, rv x0), (1, .int x1), (2, .int x2), (3, .int x3)] → St E A s h H locs → k37 x0 x1 x2 x3 h = some h9 → W p l e R s m args below meth c H locs 0 0 (MQ below (Qv E A h9) args s 0 0 A) (F0 m 37 ls [])) :
    ∀ (x0 : Nat) (x1 : Int32) (x2 : Int32) (h : Hp) (H : Heap) (locs : List Loc) (ls : Array Slot), lv_has ls 4 [(0, rv x0), (1, .int x1), (2, .int x2)] → St E A s h H locs → fX13_readHex_30 k37 x0 x1 x2 h = some h9 → W p l e R s m args below meth c H locs 0 0 (MQ below (Qv E A h9) args s 0 0 A) (F0 m 30 ls []) := by
  intro x0 x1 x2 h H locs ls hl S hf
  unfold fX13_readHex_30 at hf
  refine g_aload_n X (or_rv _) dX13_readHex_30 rfl (lv_at hl 0 rfl) ?_
  refine lv_iconst (v := 2) X.1 X.2.1 dX13_readHex_31 (by decide) ?_
  obtain ⟨h, hc, hf⟩ := ob_some hf
  refine g_cv S (runV (As := [.int 2]) (rest := []) X S coX13_255 (by decide) (cX13_wrong_m l hc) (tkX13_wrong hc) rfl hl.1 (by decide) rfl ⟨Nat.zero_le _, Nat.zero_le _⟩ dX13_readHex_32) (fun H locs S => ?_)
  refine lv_iconst (v := 0) X.1 X.2.1 dX13_readHex_35 (by decide) ?_
  refine lv_istore_n (i := 3) (lv' := [(3, .int 0), (0, rv x0), (1, .int x1), (2, .int x2)]) X.1 X.2.1 dX13_readHex_36 rfl hl (by decide) rfl (fun ls hl => ?_)
  exact hk37 _ _ _ _ _ _ _ _ (lv_sub hl [1, 2, 3, 0] rfl) S hf
def fX13_readHex_105 (x0 : Nat) (h : Hp) : Option (Hp) := ob (gI 11 x0 23 h) fun v1 => if v1 = 0 then ob (fX13_stepOn x0 h) fun h => some h else some h
theorem wfX13_readHex_105 {h9 : Hp} (X : Cx p E A 11 R s m args c cX13_readHex yX13_readHex.cls 4) (hr : meth.sig.returnType = none) (hlk : meth.locks = false) (hnm : meth.name = yX13_readHex.name) :
    ∀ (x0 : Nat) (h : Hp) (H : Heap) (locs : List Loc) (ls : Array Slot), lv_has ls 4 [(0, rv x0)] → St E A s h H locs → fX13_readHex_105 x0 h = some h9 → W p l e R s m args below meth c H locs 0 0 (MQ below (Qv E A h9) args s 0 0 A) (F0 m 105 ls []) := by
  intro x0 h H locs ls hl S hf
  unfold fX13_readHex_105 at hf
  refine g_aload_n X (or_rv _) dX13_readHex_105 rfl (lv_at hl 0 rfl) ?_
  refine g_gI X S foX13_231 rfl dX13_readHex_106 hf (fun v1 hf => ?_)
  refine lv_if_ne (tgt := 116) X.1 X.2.1 dX13_readHex_109 (by decide) (fun c2 => ?_) (fun c2 => ?_)
  · replace hf := (if_neg c2).symm.trans hf
    cases hf; exact g_rv X S hr hlk dX13_readHex_116
  · replace hf := (if_pos c2).symm.trans hf
    refine g_aload_n X (or_rv _) dX13_readHex_112 rfl (lv_at hl 0 rfl) ?_
    obtain ⟨h, hc, hf⟩ := ob_some hf
    refine g_cv S (runV (As := []) (rest := []) X S coX13_252 (by decide) (cX13_stepOn_m l hc) (tkX13_stepOn hc) rfl hl.1 (by decide) rfl ⟨Nat.zero_le _, Nat.zero_le _⟩ dX13_readHex_113) (fun H locs S => ?_)
    cases hf; exact g_rv X S hr hlk dX13_readHex_116
def fX13_readHex_37 (k37 : Nat → Int32 → Int32 → Int32 → Hp → Option (Hp)) (x0 : Nat) (x1 : Int32) (x2 : Int32) (x3 : Int32) (h : Hp) : Option (Hp) := ob (gI 11 x0 23 h) fun v1 => if v1 = 0 then if x2 ≤ x3 then fX13_readHex_105 x0 h else ob (gR 11 x0 12 h) fun v4 => ob (gR 11 x0 15 h) fun v5 => ob (gI 11 x0 21 h) fun v6 => ob (aI v5 ((v6 + 1) + x3) h) fun v7 => ob (fX13_worthOf v7) fun v8 => ob (gR 11 x0 15 h) fun v9 => ob (gI 11 x0 21 h) fun v10 => ob (aI v9 ((v10 + 2) + x3) h) fun v11 => ob (fX13_worthOf v11) fun v12 => ob (qI v4 ((256 + x1) + (x3 / 2)) ((16 * v8) + v12) h) fun h => lt (x3 + 2) fun z13 => k37 x0 x1 x2 z13 h else fX13_readHex_105 x0 h
theorem wfX13_readHex_37 {k37 : Nat → Int32 → Int32 → Int32 → Hp → Option (Hp)} {h9 : Hp} (X : Cx p E A 11 R s m args c cX13_readHex yX13_readHex.cls 4) (hr : meth.sig.returnType = none) (hlk : meth.locks = false) (hnm : meth.name = yX13_readHex.name) (hk37 : ∀ (x0 : Nat) (x1 : Int32) (x2 : Int32) (x3 : Int32) (h : Hp) (H : Heap) (locs : List Loc) (ls : Array Slot), lv_has ls 4 [(0, rv x0), (1, .int x1), (2, .int x2), (3, .int x3)] → St E A s h H locs → k37 x0 x1 x2 x3 h = some h9 → W p l e R s m args below meth c H locs 0 0 (MQ below (Qv E A h9) args s 0 0 A) (F0 m 37 ls [])) :
    ∀ (x0 : Nat) (x1 : Int32) (x2 : Int32) (x3 : Int32) (h : Hp) (H : Heap) (locs : List Loc) (ls : Array Slot), lv_has ls 4 [(0, rv x0), (1, .int x1), (2, .int x2), (3, .int x3)] → St E A s h H locs → fX13_readHex_37 k37 x0 x1 x2 x3 h = some h9 → W p l e R s m args below meth c H locs 0 0 (MQ below (Qv E A h9) args s 0 0 A) (F0 m 37 ls []) := by
  intro x0 x1 x2 x3 h H locs ls hl S hf
  unfold fX13_readHex_37 at hf
  refine g_aload_n X (or_rv _) dX13_readHex_37 rfl (lv_at hl 0 rfl) ?_
  refine g_gI X S foX13_231 rfl dX13_readHex_38 hf (fun v1 hf => ?_)
  refine lv_if_ne (tgt := 105) X.1 X.2.1 dX13_readHex_41 (by decide) (fun c2 => ?_) (fun c2 => ?_)
  · replace hf := (if_neg c2).symm.trans hf
    exact wfX13_readHex_105 X hr hlk hnm _ _ _ _ _ (lv_sub hl [0] rfl) S hf
  · replace hf := (if_pos c2).symm.trans hf
    refine lv_iload_n X.1 X.2.1 dX13_readHex_44 rfl (lv_at hl 3 rfl) ?_
    refine lv_iload_n X.1 X.2.1 dX13_readHex_45 rfl (lv_at hl 2 rfl) ?_
    refine lv_icmp_ge (tgt := 105) X.1 X.2.1 dX13_readHex_46 (by decide) (fun c3 => ?_) (fun c3 => ?_)
    · replace hf := (if_pos c3).symm.trans hf
      exact wfX13_readHex_105 X hr hlk hnm _ _ _ _ _ (lv_sub hl [0] rfl) S hf
    · replace hf := (if_neg c3).symm.trans hf
      refine g_aload_n X (or_rv _) dX13_readHex_49 rfl (lv_at hl 0 rfl) ?_
      refine g_gR X S foX13_104 dX13_readHex_50 hf (fun v4 hf => ?_)
      refine lv_sipush (v := 256) X.1 X.2.1 dX13_readHex_53 (by decide) ?_
      refine lv_iload_n X.1 X.2.1 dX13_readHex_56 rfl (lv_at hl 1 rfl) ?_
      refine lv_iadd X.1 X.2.1 dX13_readHex_57 ?_
      refine lv_iload_n X.1 X.2.1 dX13_readHex_58 rfl (lv_at hl 3 rfl) ?_
      refine lv_iconst (v := 2) X.1 X.2.1 dX13_readHex_59 (by decide) ?_
      refine g_idiv X (by decide) dX13_readHex_60 ?_
      refine lv_iadd X.1 X.2.1 dX13_readHex_61 ?_
      refine lv_bipush (v := 16) X.1 X.2.1 dX13_readHex_62 (by decide) ?_
      refine g_aload_n X (or_rv _) dX13_readHex_64 rfl (lv_at hl 0 rfl) ?_
      refine g_gR X S foX13_107 dX13_readHex_65 hf (fun v5 hf => ?_)
      refine g_aload_n X (or_rv _) dX13_readHex_68 rfl (lv_at hl 0 rfl) ?_
      refine g_gI X S foX13_206 rfl dX13_readHex_69 hf (fun v6 hf => ?_)
      refine lv_iconst (v := 1) X.1 X.2.1 dX13_readHex_72 (by decide) ?_
      refine lv_iadd X.1 X.2.1 dX13_readHex_73 ?_
      refine lv_iload_n X.1 X.2.1 dX13_readHex_74 rfl (lv_at hl 3 rfl) ?_
      refine lv_iadd X.1 X.2.1 dX13_readHex_75 ?_
      refine g_aI X S dX13_readHex_76 hf (fun v7 hf => ?_)
      obtain ⟨v8, hc, hf⟩ := ob_some hf
      refine g_ci S (runS (As := [.int v7]) (rest := [.int 16, .int ((256 + x1) + (x3 / 2)), rv v4]) X S coX13_279 (by decide) (cX13_worthOf_m l hc) rfl hl.1 (by simp [cat_rv, cat_wv, cat_sv, cat_i, cat_l, cat_a]) rfl ⟨Nat.zero_le _, Nat.zero_le _⟩ dX13_readHex_77) (fun H locs S => ?_)
      refine lv_imul X.1 X.2.1 dX13_readHex_80 ?_
      refine g_aload_n X (or_rv _) dX13_readHex_81 rfl (lv_at hl 0 rfl) ?_
      refine g_gR X S foX13_107 dX13_readHex_82 hf (fun v9 hf => ?_)
      refine g_aload_n X (or_rv _) dX13_readHex_85 rfl (lv_at hl 0 rfl) ?_
      refine g_gI X S foX13_206 rfl dX13_readHex_86 hf (fun v10 hf => ?_)
      refine lv_iconst (v := 2) X.1 X.2.1 dX13_readHex_89 (by decide) ?_
      refine lv_iadd X.1 X.2.1 dX13_readHex_90 ?_
      refine lv_iload_n X.1 X.2.1 dX13_readHex_91 rfl (lv_at hl 3 rfl) ?_
      refine lv_iadd X.1 X.2.1 dX13_readHex_92 ?_
      refine g_aI X S dX13_readHex_93 hf (fun v11 hf => ?_)
      obtain ⟨v12, hc, hf⟩ := ob_some hf
      refine g_ci S (runS (As := [.int v11]) (rest := [.int (16 * v8), .int ((256 + x1) + (x3 / 2)), rv v4]) X S coX13_279 (by decide) (cX13_worthOf_m l hc) rfl hl.1 (by simp [cat_rv, cat_wv, cat_sv, cat_i, cat_l, cat_a]) rfl ⟨Nat.zero_le _, Nat.zero_le _⟩ dX13_readHex_94) (fun H locs S => ?_)
      refine lv_iadd X.1 X.2.1 dX13_readHex_97 ?_
      refine g_qI X S dX13_readHex_98 hf (fun h H locs hm hf S => ?_)
      obtain ⟨z13, ez13, hf⟩ := lt_some hf
      refine lv_iinc (v := z13) (lv' := [(3, .int z13), (0, rv x0), (1, .int x1), (2, .int x2)]) X.1 X.2.1 dX13_readHex_99 hl (k := 3) rfl (by rw [← ez13]; rfl) (by decide) rfl (fun ls hl => ?_)
      refine lv_goto (tgt := 37) X.1 X.2.1 dX13_readHex_102 (by decide) ?_
      exact hk37 _ _ _ _ _ _ _ _ (lv_sub hl [1, 2, 3, 0] rfl) S hf
theorem wfX13_readHex_37_l {h9 : Hp} (X : Cx p E A 11 R s m args c cX13_readHex yX13_readHex.cls 4) (hr : meth.sig.returnType = none) (hlk : meth.locks = false) (hnm : meth.name = yX13_readHex.name) :
    ∀ (n : Nat) (x0 : Nat) (x1 : Int32) (x2 : Int32) (x3 : Int32) (h : Hp) (H : Heap) (locs : List Loc) (ls : Array Slot), lv_has ls 4 [(0, rv x0), (1, .int x1), (2, .int x2), (3, .int x3)] → St E A s h H locs → lp (fun _ _ _ _ _ => none) (fX13_readHex_37) n x0 x1 x2 x3 h = some h9 → W p l e R s m args below meth c H locs 0 0 (MQ below (Qv E A h9) args s 0 0 A) (F0 m 37 ls []) := by
  intro n
  induction n with
  | zero =>
    intro x0 x1 x2 x3 h H locs ls hl S hf
    exact nomatch hf
  | succ n ih =>
    intro x0 x1 x2 x3 h H locs ls hl S hf
    exact wfX13_readHex_37 X hr hlk hnm ih x0 x1 x2 x3 h H locs ls hl S hf
def fX13_readHex (a0 : Nat) (a1 : Int32) (h : Hp) : Option (Hp) := gd 11 a0 h (ob (gI 11 a0 22 h) fun v1 => ob (gI 11 a0 21 h) fun v2 => lt ((v1 - v2) - 1) fun z3 => if (irm z3 2) = 1 then fX13_readHex_30 (lp (fun _ _ _ _ _ => none) fX13_readHex_37 FU) a0 a1 z3 h else if (a1 + (z3 / 2)) ≤ 256 then lp (fun _ _ _ _ _ => none) (fX13_readHex_37) FU a0 a1 z3 0 h else fX13_readHex_30 (lp (fun _ _ _ _ _ => none) fX13_readHex_37 FU) a0 a1 z3 h)
theorem tkX13_readHex {a0 : Nat} {a1 : Int32} {h : Hp} {r9 : Hp} (e : fX13_readHex a0 a1 h = some r9) : hK h a0 = 11 := by
  unfold fX13_readHex at e
  exact (gd_some e).1
theorem cX13_readHex_m (l : Launch) {E : EE} {A : Nat → Prop} {a0 : Nat} {a1 : Int32} {h : Hp} {h9 : Hp} (hf : fX13_readHex a0 a1 h = some h9) : Met l yX13_readHex (wsM yX13_readHex cX13_readHex 4 none) (rmm 11 0 0) (PcE E A h [rv a0, .int a1]) (Qv E A h9) 0 0 A := by
  refine met_of (by decide +kernel) (by simp [lg_sl, cat_rv, cat_wv, cat_sv, cat_i, cat_l, cat_a]) (fun p e s m args below meth c ls X hr hlk hnm S hl => ?_)
  have hl : lv_has ls 4 [(0, rv a0), (1, .int a1)] := by simpa [lv_args, cat_rv, cat_wv, cat_sv, cat_i, cat_l, cat_a] using hl
  generalize hH : s.heap = H at S ⊢
  generalize hlo : ([] : List Loc) = locs at S ⊢
  clear hH hlo
  unfold fX13_readHex at hf
  obtain ⟨hth, hf⟩ := gd_some hf
  refine g_aload_n X (or_rv _) dX13_readHex_0 rfl (lv_at hl 0 rfl) ?_
  refine g_gI X S foX13_228 rfl dX13_readHex_1 hf (fun v1 hf => ?_)
  refine g_aload_n X (or_rv _) dX13_readHex_4 rfl (lv_at hl 0 rfl) ?_
  refine g_gI X S foX13_206 rfl dX13_readHex_5 hf (fun v2 hf => ?_)
  refine lv_isub X.1 X.2.1 dX13_readHex_8 ?_
  refine lv_iconst (v := 1) X.1 X.2.1 dX13_readHex_9 (by decide) ?_
  refine lv_isub X.1 X.2.1 dX13_readHex_10 ?_
  refine g_lti hf (fun z3 hf => ?_)
  refine lv_istore_n (i := 2) (lv' := [(2, .int z3), (0, rv a0), (1, .int a1)]) X.1 X.2.1 dX13_readHex_11 rfl hl (by decide) rfl (fun ls hl => ?_)
  refine lv_iload_n X.1 X.2.1 dX13_readHex_12 rfl (lv_at hl 0 rfl) ?_
  refine lv_iconst (v := 2) X.1 X.2.1 dX13_readHex_13 (by decide) ?_
  refine g_irem X (by decide) dX13_readHex_14 ?_
  refine lv_iconst (v := 1) X.1 X.2.1 dX13_readHex_15 (by decide) ?_
  refine lv_icmp_eq (tgt := 30) X.1 X.2.1 dX13_readHex_16 (by decide) (fun c4 => ?_) (fun c4 => ?_)
  · replace hf := (if_pos c4).symm.trans hf
    exact wfX13_readHex_30 X hr hlk hnm (wfX13_readHex_37_l X hr hlk hnm FU) _ _ _ _ _ _ _ (lv_sub hl [1, 2, 0] rfl) S hf
  · replace hf := (if_neg c4).symm.trans hf
    refine lv_iload_n X.1 X.2.1 dX13_readHex_19 rfl (lv_at hl 2 rfl) ?_
    refine lv_iload_n X.1 X.2.1 dX13_readHex_20 rfl (lv_at hl 0 rfl) ?_
    refine lv_iconst (v := 2) X.1 X.2.1 dX13_readHex_21 (by decide) ?_
    refine g_idiv X (by decide) dX13_readHex_22 ?_
    refine lv_iadd X.1 X.2.1 dX13_readHex_23 ?_
    refine lv_sipush (v := 256) X.1 X.2.1 dX13_readHex_24 (by decide) ?_
    refine lv_icmp_le (tgt := 35) X.1 X.2.1 dX13_readHex_27 (by decide) (fun c5 => ?_) (fun c5 => ?_)
    · replace hf := (if_pos c5).symm.trans hf
      refine lv_iconst (v := 0) X.1 X.2.1 dX13_readHex_35 (by decide) ?_
      refine lv_istore_n (i := 3) (lv' := [(3, .int 0), (2, .int z3), (0, rv a0), (1, .int a1)]) X.1 X.2.1 dX13_readHex_36 rfl hl (by decide) rfl (fun ls hl => ?_)
      exact wfX13_readHex_37_l X hr hlk hnm FU _ _ _ _ _ _ _ _ (lv_sub hl [2, 3, 1, 0] rfl) S hf
    · replace hf := (if_neg c5).symm.trans hf
      exact wfX13_readHex_30 X hr hlk hnm (wfX13_readHex_37_l X hr hlk hnm FU) _ _ _ _ _ _ _ (lv_sub hl [1, 2, 0] rfl) S hf
def fX13_readDigits_183 (k186 : Nat → Int32 → Int32 → Int32 → Int32 → Int32 → Int32 → Hp → Option (Hp)) (k191 : Nat → Int32 → Int32 → Int32 → Int32 → Int32 → Int32 → Hp → Option (Hp)) (x0 : Nat) (x1 : Int32) (x2 : Int32) (x3 : Int32) (x4 : Int32) (x5 : Int32) (x6 : Int32) (y0 : Int32) (y1 : Int32) (h : Hp) : Option (Hp) := if y1 ≤ y0 then k191 x0 x1 x2 x3 x4 x5 x6 h else k186 x0 x1 x2 x3 x4 x5 x6 h
theorem wfX13_readDigits_183 {k186 : Nat → Int32 → Int32 → Int32 → Int32 → Int32 → Int32 → Hp → Option (Hp)} {k191 : Nat → Int32 → Int32 → Int32 → Int32 → Int32 → Int32 → Hp → Option (Hp)} {h9 : Hp} (X : Cx p E A 12 R s m args c cX13_readDigits yX13_readDigits.cls 9) (hr : meth.sig.returnType = none) (hlk : meth.locks = false) (hnm : meth.name = yX13_readDigits.name) (hk186 : ∀ (x0 : Nat) (x1 : Int32) (x2 : Int32) (x3 : Int32) (x4 : Int32) (x5 : Int32) (x6 : Int32) (h : Hp) (H : Heap) (locs : List Loc) (ls : Array Slot), lv_has ls 9 [(0, rv x0), (1, .int x1), (2, .int x2), (3, .int x3), (4, .int x4), (5, .int x5), (6, .int x6)] → St E A s h H locs → k186 x0 x1 x2 x3 x4 x5 x6 h = some h9 → W p l e R s m args below meth c H locs 0 0 (MQ below (Qv E A h9) args s 0 0 A) (F0 m 186 ls [])) (hk191 : ∀ (x0 : Nat) (x1 : Int32) (x2 : Int32) (x3 : Int32) (x4 : Int32) (x5 : Int32) (x6 : Int32) (h : Hp) (H : Heap) (locs : List Loc) (ls : Array Slot), lv_has ls 9 [(0, rv x0), (1, .int x1), (2, .int x2), (3, .int x3), (4, .int x4), (5, .int x5), (6, .int x6)] → St E A s h H locs → k191 x0 x1 x2 x3 x4 x5 x6 h = some h9 → W p l e R s m args below meth c H locs 0 0 (MQ below (Qv E A h9) args s 0 0 A) (F0 m 191 ls [])) :
    ∀ (x0 : Nat) (x1 : Int32) (x2 : Int32) (x3 : Int32) (x4 : Int32) (x5 : Int32) (x6 : Int32) (y0 : Int32) (y1 : Int32) (h : Hp) (H : Heap) (locs : List Loc) (ls : Array Slot), lv_has ls 9 [(0, rv x0), (1, .int x1), (2, .int x2), (3, .int x3), (4, .int x4), (5, .int x5), (6, .int x6)] → St E A s h H locs → fX13_readDigits_183 k186 k191 x0 x1 x2 x3 x4 x5 x6 y0 y1 h = some h9 → W p l e R s m args below meth c H locs 0 0 (MQ below (Qv E A h9) args s 0 0 A) (F0 m 183 ls [.int y0, .int y1]) := by
  intro x0 x1 x2 x3 x4 x5 x6 y0 y1 h H locs ls hl S hf
  unfold fX13_readDigits_183 at hf
  refine lv_icmp_le (tgt := 191) X.1 X.2.1 dX13_readDigits_183 (by decide) (fun c1 => ?_) (fun c1 => ?_)
  · replace hf := (if_pos c1).symm.trans hf
    exact hk191 _ _ _ _ _ _ _ _ _ _ _ hl S hf
  · replace hf := (if_neg c1).symm.trans hf
    exact hk186 _ _ _ _ _ _ _ _ _ _ _ hl S hf
def fX13_readDigits_186 (k191 : Nat → Int32 → Int32 → Int32 → Int32 → Int32 → Int32 → Hp → Option (Hp)) (x0 : Nat) (x1 : Int32) (x2 : Int32) (x3 : Int32) (x4 : Int32) (x5 : Int32) (x6 : Int32) (h : Hp) : Option (Hp) := ob (fX13_wrong x0 2 h) fun h => k191 x0 x1 x2 x3 x4 x5 x6 h
theorem wfX13_readDigits_186 {k191 : Nat → Int32 → Int32 → Int32 → Int32 → Int32 → Int32 → Hp → Option (Hp)} {h9 : Hp} (X : Cx p E A 12 R s m args c cX13_readDigits yX13_readDigits.cls 9) (hr : meth.sig.returnType = none) (hlk : meth.locks = false) (hnm : meth.name = yX13_readDigits.name) (hk191 : ∀ (x0 : Nat) (x1 : Int32) (x2 : Int32) (x3 : Int32) (x4 : Int32) (x5 : Int32) (x6 : Int32) (h : Hp) (H : Heap) (locs : List Loc) (ls : Array Slot), lv_has ls 9 [(0, rv x0), (1, .int x1), (2, .int x2), (3, .int x3), (4, .int x4), (5, .int x5), (6, .int x6)] → St E A s h H locs → k191 x0 x1 x2 x3 x4 x5 x6 h = some h9 → W p l e R s m args below meth c H locs 0 0 (MQ below (Qv E A h9) args s 0 0 A) (F0 m 191 ls [])) :
    ∀ (x0 : Nat) (x1 : Int32) (x2 : Int32) (x3 : Int32) (x4 : Int32) (x5 : Int32) (x6 : Int32) (h : Hp) (H : Heap) (locs : List Loc) (ls : Array Slot), lv_has ls 9 [(0, rv x0), (1, .int x1), (2, .int x2), (3, .int x3), (4, .int x4), (5, .int x5), (6, .int x6)] → St E A s h H locs → fX13_readDigits_186 k191 x0 x1 x2 x3 x4 x5 x6 h = some h9 → W p l e R s m args below meth c H locs 0 0 (MQ below (Qv E A h9) args s 0 0 A) (F0 m 186 ls []) := by
  intro x0 x1 x2 x3 x4 x5 x6 h H locs ls hl S hf
  unfold fX13_readDigits_186 at hf
  refine g_aload_n X (or_rv _) dX13_readDigits_186 rfl (lv_at hl 0 rfl) ?_
  refine lv_iconst (v := 2) X.1 X.2.1 dX13_readDigits_187 (by decide) ?_
  obtain ⟨h, hc, hf⟩ := ob_some hf
  refine g_cv S (runV (As := [.int 2]) (rest := []) X S coX13_255 (by decide) (cX13_wrong_m l hc) (tkX13_wrong hc) rfl hl.1 (by decide) rfl ⟨Nat.zero_le _, Nat.zero_le _⟩ dX13_readDigits_188) (fun H locs S => ?_)
  exact hk191 _ _ _ _ _ _ _ _ _ _ _ hl S hf
def fX13_readDigits_236 (k206 : Nat → Int32 → Int32 → Int32 → Int32 → Int32 → Int32 → Int32 → Hp → Option (Hp)) (x0 : Nat) (x1 : Int32) (x2 : Int32) (x3 : Int32) (x4 : Int32) (x5 : Int32) (x6 : Int32) (x7 : Int32) (y0 : Int32) (y1 : Int32) (y2 : Nat) (h : Hp) : Option (Hp) := ob (qI y2 y1 y0 h) fun h => lt (x7 + 1) fun z1 => k206 x0 x1 x2 x3 x4 x5 x6 z1 h
theorem wfX13_readDigits_236 {k206 : Nat → Int32 → Int32 → Int32 → Int32 → Int32 → Int32 → Int32 → Hp → Option (Hp)} {h9 : Hp} (X : Cx p E A 12 R s m args c cX13_readDigits yX13_readDigits.cls 9) (hr : meth.sig.returnType = none) (hlk : meth.locks = false) (hnm : meth.name = yX13_readDigits.name) (hk206 : ∀ (x0 : Nat) (x1 : Int32) (x2 : Int32) (x3 : Int32) (x4 : Int32) (x5 : Int32) (x6 : Int32) (x7 : Int32) (h : Hp) (H : Heap) (locs : List Loc) (ls : Array Slot), lv_has ls 9 [(0, rv x0), (1, .int x1), (2, .int x2), (3, .int x3), (4, .int x4), (5, .int x5), (6, .int x6), (7, .int x7)] → St E A s h H locs → k206 x0 x1 x2 x3 x4 x5 x6 x7 h = some h9 → W p l e R s m args below meth c H locs 0 0 (MQ below (Qv E A h9) args s 0 0 A) (F0 m 206 ls [])) :
    ∀ (x0 : Nat) (x1 : Int32) (x2 : Int32) (x3 : Int32) (x4 : Int32) (x5 : Int32) (x6 : Int32) (x7 : Int32) (y0 : Int32) (y1 : Int32) (y2 : Nat) (h : Hp) (H : Heap) (locs : List Loc) (ls : Array Slot), lv_has ls 9 [(0, rv x0), (1, .int x1), (2, .int x2), (3, .int x3), (4, .int x4), (5, .int x5), (6, .int x6), (7, .int x7)] → St E A s h H locs → fX13_readDigits_236 k206 x0 x1 x2 x3 x4 x5 x6 x7 y0 y1 y2 h = some h9 → W p l e R s m args below meth c H locs 0 0 (MQ below (Qv E A h9) args s 0 0 A) (F0 m 236 ls [.int y0, .int y1, rv y2]) := by
  intro x0 x1 x2 x3 x4 x5 x6 x7 y0 y1 y2 h H locs ls hl S hf
  unfold fX13_readDigits_236 at hf
  refine g_qI X S dX13_readDigits_236 hf (fun h H locs hm hf S => ?_)
  obtain ⟨z1, ez1, hf⟩ := lt_some hf
  refine lv_iinc (v := z1) (lv' := [(7, .int z1), (0, rv x0), (1, .int x1), (2, .int x2), (3, .int x3), (4, .int x4), (5, .int x5), (6, .int x6)]) X.1 X.2.1 dX13_readDigits_237 hl (k := 7) rfl (by rw [← ez1]; rfl) (by decide) rfl (fun ls hl => ?_)
  refine lv_goto (tgt := 206) X.1 X.2.1 dX13_readDigits_240 (by decide) ?_
  exact hk206 _ _ _ _ _ _ _ _ _ _ _ _ (lv_sub hl [1, 2, 3, 4, 5, 6, 7, 0] rfl) S hf
def fX13_readDigits_317 (k246 : Nat → Int32 → Int32 → Int32 → Int32 → Int32 → Int32 → Int32 → Hp → Option (Hp)) (x0 : Nat) (x1 : Int32) (x2 : Int32) (x3 : Int32) (x4 : Int32) (x5 : Int32) (x6 : Int32) (x7 : Int32) (y0 : Int32) (y1 : Int32) (y2 : Int32) (y3 : Nat) (h : Hp) : Option (Hp) := ob (qI y3 y2 (y1 + y0) h) fun h => lt (x7 + 1) fun z1 => k246 x0 x1 x2 x3 x4 x5 x6 z1 h
theorem wfX13_readDigits_317 {k246 : Nat → Int32 → Int32 → Int32 → Int32 → Int32 → Int32 → Int32 → Hp → Option (Hp)} {h9 : Hp} (X : Cx p E A 12 R s m args c cX13_readDigits yX13_readDigits.cls 9) (hr : meth.sig.returnType = none) (hlk : meth.locks = false) (hnm : meth.name = yX13_readDigits.name) (hk246 : ∀ (x0 : Nat) (x1 : Int32) (x2 : Int32) (x3 : Int32) (x4 : Int32) (x5 : Int32) (x6 : Int32) (x7 : Int32) (h : Hp) (H : Heap) (locs : List Loc) (ls : Array Slot), lv_has ls 9 [(0, rv x0), (1, .int x1), (2, .int x2), (3, .int x3), (4, .int x4), (5, .int x5), (6, .int x6), (7, .int x7)] → St E A s h H locs → k246 x0 x1 x2 x3 x4 x5 x6 x7 h = some h9 → W p l e R s m args below meth c H locs 0 0 (MQ below (Qv E A h9) args s 0 0 A) (F0 m 246 ls [])) :
    ∀ (x0 : Nat) (x1 : Int32) (x2 : Int32) (x3 : Int32) (x4 : Int32) (x5 : Int32) (x6 : Int32) (x7 : Int32) (y0 : Int32) (y1 : Int32) (y2 : Int32) (y3 : Nat) (h : Hp) (H : Heap) (locs : List Loc) (ls : Array Slot), lv_has ls 9 [(0, rv x0), (1, .int x1), (2, .int x2), (3, .int x3), (4, .int x4), (5, .int x5), (6, .int x6), (7, .int x7)] → St E A s h H locs → fX13_readDigits_317 k246 x0 x1 x2 x3 x4 x5 x6 x7 y0 y1 y2 y3 h = some h9 → W p l e R s m args below meth c H locs 0 0 (MQ below (Qv E A h9) args s 0 0 A) (F0 m 317 ls [.int y0, .int y1, .int y2, rv y3]) := by
  intro x0 x1 x2 x3 x4 x5 x6 x7 y0 y1 y2 y3 h H locs ls hl S hf
  unfold fX13_readDigits_317 at hf
  refine lv_iadd X.1 X.2.1 dX13_readDigits_317 ?_
  refine g_qI X S dX13_readDigits_318 hf (fun h H locs hm hf S => ?_)
  refine lv_goto (tgt := 345) X.1 X.2.1 dX13_readDigits_319 (by decide) ?_
  obtain ⟨z1, ez1, hf⟩ := lt_some hf
  refine lv_iinc (v := z1) (lv' := [(7, .int z1), (0, rv x0), (1, .int x1), (2, .int x2), (3, .int x3), (4, .int x4), (5, .int x5), (6, .int x6)]) X.1 X.2.1 dX13_readDigits_345 hl (k := 7) rfl (by rw [← ez1]; rfl) (by decide) rfl (fun ls hl => ?_)
  refine lv_goto (tgt := 246) X.1 X.2.1 dX13_readDigits_348 (by decide) ?_
  exact hk246 _ _ _ _ _ _ _ _ _ _ _ _ (lv_sub hl [1, 2, 3, 4, 5, 6, 7, 0] rfl) S hf
def fX13_readDigits_400 (y0 : Int32) (y1 : Int32) (y2 : Nat) (h : Hp) : Option (Hp) := ob (qI y2 y1 y0 h) fun h => some h
theorem wfX13_readDigits_400 {h9 : Hp} (X : Cx p E A 12 R s m args c cX13_readDigits yX13_readDigits.cls 9) (hr : meth.sig.returnType = none) (hlk : meth.locks = false) (hnm : meth.name = yX13_readDigits.name) :
    ∀ (y0 : Int32) (y1 : Int32) (y2 : Nat) (h : Hp) (H : Heap) (locs : List Loc) (ls : Array Slot), lv_has ls 9 [] → St E A s h H locs → fX13_readDigits_400 y0 y1 y2 h = some h9 → W p l e R s m args below meth c H locs 0 0 (MQ below (Qv E A h9) args s 0 0 A) (F0 m 400 ls [.int y0, .int y1, rv y2]) := by
  intro y0 y1 y2 h H locs ls hl S hf
  unfold fX13_readDigits_400 at hf
  refine g_qI X S dX13_readDigits_400 hf (fun h H locs hm hf S => ?_)
  cases hf; exact g_rv X S hr hlk dX13_readDigits_401
def fX13_readDigits_246 (k246 : Nat → Int32 → Int32 → Int32 → Int32 → Int32 → Int32 → Int32 → Hp → Option (Hp)) (x0 : Nat) (x1 : Int32) (x2 : Int32) (x3 : Int32) (x4 : Int32) (x5 : Int32) (x6 : Int32) (x7 : Int32) (h : Hp) : Option (Hp) := if x5 ≤ x7 then lt (((256 + x1) + x6) - 1) fun z2 => ob (gR 11 x0 12 h) fun v3 => if x2 = 0 then ob (gR 11 x0 12 h) fun v5 => ob (aI v5 z2 h) fun v6 => fX13_readDigits_400 ((16 * x3) + (irm v6 16)) z2 v3 h else ob (gR 11 x0 12 h) fun v7 => ob (aI v7 z2 h) fun v8 => fX13_readDigits_400 (v8 + x3) z2 v3 h else ob (gR 11 x0 15 h) fun v9 => ob (aI v9 (((x4 + x5) - 1) - x7) h) fun v10 => lt (v10 - 48) fun z11 => if x2 = 0 then ob (gR 11 x0 12 h) fun v13 => ob (aI v13 ((((256 + x1) + x6) - 1) - x7) h) fun v14 => ob (qI v13 ((((256 + x1) + x6) - 1) - x7) (v14 + z11) h) fun h => lt (x7 + 1) fun z15 => k246 x0 x1 x2 x3 x4 x5 x6 z15 h else ob (gR 11 x0 12 h) fun v16 => ob (aI v16 ((((256 + x1) + x6) - 1) - ((x7 + 1) / 2)) h) fun v17 => if (irm x7 2) = 0 then fX13_readDigits_317 k246 x0 x1 x2 x3 x4 x5 x6 x7 (16 * z11) v17 ((((256 + x1) + x6) - 1) - ((x7 + 1) / 2)) v16 h else fX13_readDigits_317 k246 x0 x1 x2 x3 x4 x5 x6 x7 z11 v17 ((((256 + x1) + x6) - 1) - ((x7 + 1) / 2)) v16 h
theorem wfX13_readDigits_246 {k246 : Nat → Int32 → Int32 → Int32 → Int32 → Int32 → Int32 → Int32 → Hp → Option (Hp)} {h9 : Hp} (X : Cx p E A 12 R s m args c cX13_readDigits yX13_readDigits.cls 9) (hr : meth.sig.returnType = none) (hlk : meth.locks = false) (hnm : meth.name = yX13_readDigits.name) (hk246 : ∀ (x0 : Nat) (x1 : Int32) (x2 : Int32) (x3 : Int32) (x4 : Int32) (x5 : Int32) (x6 : Int32) (x7 : Int32) (h : Hp) (H : Heap) (locs : List Loc) (ls : Array Slot), lv_has ls 9 [(0, rv x0), (1, .int x1), (2, .int x2), (3, .int x3), (4, .int x4), (5, .int x5), (6, .int x6), (7, .int x7)] → St E A s h H locs → k246 x0 x1 x2 x3 x4 x5 x6 x7 h = some h9 → W p l e R s m args below meth c H locs 0 0 (MQ below (Qv E A h9) args s 0 0 A) (F0 m 246 ls [])) :
    ∀ (x0 : Nat) (x1 : Int32) (x2 : Int32) (x3 : Int32) (x4 : Int32) (x5 : Int32) (x6 : Int32) (x7 : Int32) (h : Hp) (H : Heap) (locs : List Loc) (ls : Array Slot), lv_has ls 9 [(0, rv x0), (1, .int x1), (2, .int x2), (3, .int x3), (4, .int x4), (5, .int x5), (6, .int x6), (7, .int x7)] → St E A s h H locs → fX13_readDigits_246 k246 x0 x1 x2 x3 x4 x5 x6 x7 h = some h9 → W p l e R s m args below meth c H locs 0 0 (MQ below (Qv E A h9) args s 0 0 A) (F0 m 246 ls []) := by
  intro x0 x1 x2 x3 x4 x5 x6 x7 h H locs ls hl S hf
  unfold fX13_readDigits_246 at hf
  refine lv_iload X.1 X.2.1 dX13_readDigits_246 (lv_at hl 7 rfl) ?_
  refine lv_iload X.1 X.2.1 dX13_readDigits_248 (lv_at hl 5 rfl) ?_
  refine lv_icmp_ge (tgt := 351) X.1 X.2.1 dX13_readDigits_250 (by decide) (fun c1 => ?_) (fun c1 => ?_)
  · replace hf := (if_pos c1).symm.trans hf
    refine lv_sipush (v := 256) X.1 X.2.1 dX13_readDigits_351 (by decide) ?_
    refine lv_iload_n X.1 X.2.1 dX13_readDigits_354 rfl (lv_at hl 1 rfl) ?_
    refine lv_iadd X.1 X.2.1 dX13_readDigits_355 ?_
    refine lv_iload X.1 X.2.1 dX13_readDigits_356 (lv_at hl 6 rfl) ?_
    refine lv_iadd X.1 X.2.1 dX13_readDigits_358 ?_
    refine lv_iconst (v := 1) X.1 X.2.1 dX13_readDigits_359 (by decide) ?_
    refine lv_isub X.1 X.2.1 dX13_readDigits_360 ?_
    refine g_lti hf (fun z2 hf => ?_)
    refine lv_istore (lv' := [(7, .int z2), (0, rv x0), (1, .int x1), (2, .int x2), (3, .int x3), (4, .int x4), (5, .int x5), (6, .int x6)]) X.1 X.2.1 dX13_readDigits_361 hl (by decide) rfl (fun ls hl => ?_)
    refine g_aload_n X (or_rv _) dX13_readDigits_363 rfl (lv_at hl 1 rfl) ?_
    refine g_gR X S foX13_104 dX13_readDigits_364 hf (fun v3 hf => ?_)
    refine lv_iload X.1 X.2.1 dX13_readDigits_367 (lv_at hl 0 rfl) ?_
    refine lv_iload_n X.1 X.2.1 dX13_readDigits_369 rfl (lv_at hl 3 rfl) ?_
    refine lv_if_eq (tgt := 385) X.1 X.2.1 dX13_readDigits_370 (by decide) (fun c4 => ?_) (fun c4 => ?_)
    · replace hf := (if_pos c4).symm.trans hf
      refine lv_bipush (v := 16) X.1 X.2.1 dX13_readDigits_385 (by decide) ?_
      refine lv_iload_n X.1 X.2.1 dX13_readDigits_387 rfl (lv_at hl 4 rfl) ?_
      refine lv_imul X.1 X.2.1 dX13_readDigits_388 ?_
      refine g_aload_n X (or_rv _) dX13_readDigits_389 rfl (lv_at hl 1 rfl) ?_
      refine g_gR X S foX13_104 dX13_readDigits_390 hf (fun v5 hf => ?_)
      refine lv_iload X.1 X.2.1 dX13_readDigits_393 (lv_at hl 0 rfl) ?_
      refine g_aI X S dX13_readDigits_395 hf (fun v6 hf => ?_)
      refine lv_bipush (v := 16) X.1 X.2.1 dX13_readDigits_396 (by decide) ?_
      refine g_irem X (by decide) dX13_readDigits_398 ?_
      refine lv_iadd X.1 X.2.1 dX13_readDigits_399 ?_
      exact wfX13_readDigits_400 X hr hlk hnm _ _ _ _ _ _ _ (lv_sub hl [] rfl) S hf
    · replace hf := (if_neg c4).symm.trans hf
      refine g_aload_n X (or_rv _) dX13_readDigits_373 rfl (lv_at hl 1 rfl) ?_
      refine g_gR X S foX13_104 dX13_readDigits_374 hf (fun v7 hf => ?_)
      refine lv_iload X.1 X.2.1 dX13_readDigits_377 (lv_at hl 0 rfl) ?_
      refine g_aI X S dX13_readDigits_379 hf (fun v8 hf => ?_)
      refine lv_iload_n X.1 X.2.1 dX13_readDigits_380 rfl (lv_at hl 4 rfl) ?_
      refine lv_iadd X.1 X.2.1 dX13_readDigits_381 ?_
      refine lv_goto (tgt := 400) X.1 X.2.1 dX13_readDigits_382 (by decide) ?_
      exact wfX13_readDigits_400 X hr hlk hnm _ _ _ _ _ _ _ (lv_sub hl [] rfl) S hf
  · replace hf := (if_neg c1).symm.trans hf
    refine g_aload_n X (or_rv _) dX13_readDigits_253 rfl (lv_at hl 0 rfl) ?_
    refine g_gR X S foX13_107 dX13_readDigits_254 hf (fun v9 hf => ?_)
    refine lv_iload X.1 X.2.1 dX13_readDigits_257 (lv_at hl 4 rfl) ?_
    refine lv_iload X.1 X.2.1 dX13_readDigits_259 (lv_at hl 5 rfl) ?_
    refine lv_iadd X.1 X.2.1 dX13_readDigits_261 ?_
    refine lv_iconst (v := 1) X.1 X.2.1 dX13_readDigits_262 (by decide) ?_
    refine lv_isub X.1 X.2.1 dX13_readDigits_263 ?_
    refine lv_iload X.1 X.2.1 dX13_readDigits_264 (lv_at hl 7 rfl) ?_
    refine lv_isub X.1 X.2.1 dX13_readDigits_266 ?_
    refine g_aI X S dX13_readDigits_267 hf (fun v10 hf => ?_)
    refine lv_bipush (v := 48) X.1 X.2.1 dX13_readDigits_268 (by decide) ?_
    refine lv_isub X.1 X.2.1 dX13_readDigits_270 ?_
    refine g_lti hf (fun z11 hf => ?_)
    refine lv_istore (lv' := [(8, .int z11), (0, rv x0), (1, .int x1), (2, .int x2), (3, .int x3), (4, .int x4), (5, .int x5), (6, .int x6), (7, .int x7)]) X.1 X.2.1 dX13_readDigits_271 hl (by decide) rfl (fun ls hl => ?_)
    refine lv_iload_n X.1 X.2.1 dX13_readDigits_273 rfl (lv_at hl 3 rfl) ?_
    refine lv_if_eq (tgt := 322) X.1 X.2.1 dX13_readDigits_274 (by decide) (fun c12 => ?_) (fun c12 => ?_)
    · replace hf := (if_pos c12).symm.trans hf
      refine g_aload_n X (or_rv _) dX13_readDigits_322 rfl (lv_at hl 1 rfl) ?_
      refine g_gR X S foX13_104 dX13_readDigits_323 hf (fun v13 hf => ?_)
      refine lv_sipush (v := 256) X.1 X.2.1 dX13_readDigits_326 (by decide) ?_
      refine lv_iload_n X.1 X.2.1 dX13_readDigits_329 rfl (lv_at hl 2 rfl) ?_
      refine lv_iadd X.1 X.2.1 dX13_readDigits_330 ?_
      refine lv_iload X.1 X.2.1 dX13_readDigits_331 (lv_at hl 7 rfl) ?_
      refine lv_iadd X.1 X.2.1 dX13_readDigits_333 ?_
      refine lv_iconst (v := 1) X.1 X.2.1 dX13_readDigits_334 (by decide) ?_
      refine lv_isub X.1 X.2.1 dX13_readDigits_335 ?_
      refine lv_iload X.1 X.2.1 dX13_readDigits_336 (lv_at hl 8 rfl) ?_
      refine lv_isub X.1 X.2.1 dX13_readDigits_338 ?_
      refine lv_dup2_11 X.1 X.2.1 dX13_readDigits_339 rfl (cat_rv _) ?_
      refine g_aI X S dX13_readDigits_340 hf (fun v14 hf => ?_)
      refine lv_iload X.1 X.2.1 dX13_readDigits_341 (lv_at hl 0 rfl) ?_
      refine lv_iadd X.1 X.2.1 dX13_readDigits_343 ?_
      refine g_qI X S dX13_readDigits_344 hf (fun h H locs hm hf S => ?_)
      obtain ⟨z15, ez15, hf⟩ := lt_some hf
      refine lv_iinc (v := z15) (lv' := [(7, .int z15), (8, .int z11), (0, rv x0), (1, .int x1), (2, .int x2), (3, .int x3), (4, .int x4), (5, .int x5), (6, .int x6)]) X.1 X.2.1 dX13_readDigits_345 hl (k := 8) rfl (by rw [← ez15]; rfl) (by decide) rfl (fun ls hl => ?_)
      refine lv_goto (tgt := 246) X.1 X.2.1 dX13_readDigits_348 (by decide) ?_
      exact hk246 _ _ _ _ _ _ _ _ _ _ _ _ (lv_sub hl [2, 3, 4, 5, 6, 7, 8, 0] rfl) S hf
    · replace hf := (if_neg c12).symm.trans hf
      refine g_aload_n X (or_rv _) dX13_readDigits_277 rfl (lv_at hl 1 rfl) ?_
      refine g_gR X S foX13_104 dX13_readDigits_278 hf (fun v16 hf => ?_)
      refine lv_sipush (v := 256) X.1 X.2.1 dX13_readDigits_281 (by decide) ?_
      refine lv_iload_n X.1 X.2.1 dX13_readDigits_284 rfl (lv_at hl 2 rfl) ?_
      refine lv_iadd X.1 X.2.1 dX13_readDigits_285 ?_
      refine lv_iload X.1 X.2.1 dX13_readDigits_286 (lv_at hl 7 rfl) ?_
      refine lv_iadd X.1 X.2.1 dX13_readDigits_288 ?_
      refine lv_iconst (v := 1) X.1 X.2.1 dX13_readDigits_289 (by decide) ?_
      refine lv_isub X.1 X.2.1 dX13_readDigits_290 ?_
      refine lv_iload X.1 X.2.1 dX13_readDigits_291 (lv_at hl 8 rfl) ?_
      refine lv_iconst (v := 1) X.1 X.2.1 dX13_readDigits_293 (by decide) ?_
      refine lv_iadd X.1 X.2.1 dX13_readDigits_294 ?_
      refine lv_iconst (v := 2) X.1 X.2.1 dX13_readDigits_295 (by decide) ?_
      refine g_idiv X (by decide) dX13_readDigits_296 ?_
      refine lv_isub X.1 X.2.1 dX13_readDigits_297 ?_
      refine lv_dup2_11 X.1 X.2.1 dX13_readDigits_298 rfl (cat_rv _) ?_
      refine g_aI X S dX13_readDigits_299 hf (fun v17 hf => ?_)
      refine lv_iload X.1 X.2.1 dX13_readDigits_300 (lv_at hl 8 rfl) ?_
      refine lv_iconst (v := 2) X.1 X.2.1 dX13_readDigits_302 (by decide) ?_
      refine g_irem X (by decide) dX13_readDigits_303 ?_
      refine lv_if_ne (tgt := 315) X.1 X.2.1 dX13_readDigits_304 (by decide) (fun c18 => ?_) (fun c18 => ?_)
      · replace hf := (if_neg c18).symm.trans hf
        refine lv_iload X.1 X.2.1 dX13_readDigits_315 (lv_at hl 0 rfl) ?_
        exact wfX13_readDigits_317 X hr hlk hnm hk246 _ _ _ _ _ _ _ _ _ _ _ _ _ _ _ _ (lv_sub hl [1, 2, 3, 4, 5, 6, 7, 8] rfl) S hf
      · replace hf := (if_pos c18).symm.trans hf
        refine lv_bipush (v := 16) X.1 X.2.1 dX13_readDigits_307 (by decide) ?_
        refine lv_iload X.1 X.2.1 dX13_readDigits_309 (lv_at hl 0 rfl) ?_
        refine lv_imul X.1 X.2.1 dX13_readDigits_311 ?_
        refine lv_goto (tgt := 317) X.1 X.2.1 dX13_readDigits_312 (by decide) ?_
        exact wfX13_readDigits_317 X hr hlk hnm hk246 _ _ _ _ _ _ _ _ _ _ _ _ _ _ _ _ (lv_sub hl [1, 2, 3, 4, 5, 6, 7, 8] rfl) S hf
theorem wfX13_readDigits_246_l {h9 : Hp} (X : Cx p E A 12 R s m args c cX13_readDigits yX13_readDigits.cls 9) (hr : meth.sig.returnType = none) (hlk : meth.locks = false) (hnm : meth.name = yX13_readDigits.name) :
    ∀ (n : Nat) (x0 : Nat) (x1 : Int32) (x2 : Int32) (x3 : Int32) (x4 : Int32) (x5 : Int32) (x6 : Int32) (x7 : Int32) (h : Hp) (H : Heap) (locs : List Loc) (ls : Array Slot), lv_has ls 9 [(0, rv x0), (1, .int x1), (2, .int x2), (3, .int x3), (4, .int x4), (5, .int x5), (6, .int x6), (7, .int x7)] → St E A s h H locs → lp (fun _ _ _ _ _ _ _ _ _ => none) (fX13_readDigits_246) n x0 x1 x2 x3 x4 x5 x6 x7 h = some h9 → W p l e R s m args below meth c H locs 0 0 (MQ below (Qv E A h9) args s 0 0 A) (F0 m 246 ls []) := by
  intro n
  induction n with
  | zero =>
    intro x0 x1 x2 x3 x4 x5 x6 x7 h H locs ls hl S hf
    exact nomatch hf
  | succ n ih =>
    intro x0 x1 x2 x3 x4 x5 x6 x7 h H locs ls hl S hf
    exact wfX13_readDigits_246 X hr hlk hnm ih x0 x1 x2 x3 x4 x5 x6 x7 h H locs ls hl S hf
def fX13_readDigits_206 (k206 : Nat → Int32 → Int32 → Int32 → Int32 → Int32 → Int32 → Int32 → Hp → Option (Hp)) (x0 : Nat) (x1 : Int32) (x2 : Int32) (x3 : Int32) (x4 : Int32) (x5 : Int32) (x6 : Int32) (x7 : Int32) (h : Hp) : Option (Hp) := if x6 ≤ x7 then lp (fun _ _ _ _ _ _ _ _ _ => none) (fX13_readDigits_246) FU x0 x1 x2 x3 x4 x5 x6 0 h else ob (gR 11 x0 12 h) fun v2 => if x2 = 0 then fX13_readDigits_236 k206 x0 x1 x2 x3 x4 x5 x6 x7 240 ((256 + x1) + x7) v2 h else fX13_readDigits_236 k206 x0 x1 x2 x3 x4 x5 x6 x7 0 ((256 + x1) + x7) v2 h
theorem wfX13_readDigits_206 {k206 : Nat → Int32 → Int32 → Int32 → Int32 → Int32 → Int32 → Int32 → Hp → Option (Hp)} {h9 : Hp} (X : Cx p E A 12 R s m args c cX13_readDigits yX13_readDigits.cls 9) (hr : meth.sig.returnType = none) (hlk : meth.locks = false) (hnm : meth.name = yX13_readDigits.name) (hk206 : ∀ (x0 : Nat) (x1 : Int32) (x2 : Int32) (x3 : Int32) (x4 : Int32) (x5 : Int32) (x6 : Int32) (x7 : Int32) (h : Hp) (H : Heap) (locs : List Loc) (ls : Array Slot), lv_has ls 9 [(0, rv x0), (1, .int x1), (2, .int x2), (3, .int x3), (4, .int x4), (5, .int x5), (6, .int x6), (7, .int x7)] → St E A s h H locs → k206 x0 x1 x2 x3 x4 x5 x6 x7 h = some h9 → W p l e R s m args below meth c H locs 0 0 (MQ below (Qv E A h9) args s 0 0 A) (F0 m 206 ls [])) :
    ∀ (x0 : Nat) (x1 : Int32) (x2 : Int32) (x3 : Int32) (x4 : Int32) (x5 : Int32) (x6 : Int32) (x7 : Int32) (h : Hp) (H : Heap) (locs : List Loc) (ls : Array Slot), lv_has ls 9 [(0, rv x0), (1, .int x1), (2, .int x2), (3, .int x3), (4, .int x4), (5, .int x5), (6, .int x6), (7, .int x7)] → St E A s h H locs → fX13_readDigits_206 k206 x0 x1 x2 x3 x4 x5 x6 x7 h = some h9 → W p l e R s m args below meth c H locs 0 0 (MQ below (Qv E A h9) args s 0 0 A) (F0 m 206 ls []) := by
  intro x0 x1 x2 x3 x4 x5 x6 x7 h H locs ls hl S hf
  unfold fX13_readDigits_206 at hf
  refine lv_iload X.1 X.2.1 dX13_readDigits_206 (lv_at hl 7 rfl) ?_
  refine lv_iload X.1 X.2.1 dX13_readDigits_208 (lv_at hl 6 rfl) ?_
  refine lv_icmp_ge (tgt := 243) X.1 X.2.1 dX13_readDigits_210 (by decide) (fun c1 => ?_) (fun c1 => ?_)
  · replace hf := (if_pos c1).symm.trans hf
    refine lv_iconst (v := 0) X.1 X.2.1 dX13_readDigits_243 (by decide) ?_
    refine lv_istore (lv' := [(7, .int 0), (0, rv x0), (1, .int x1), (2, .int x2), (3, .int x3), (4, .int x4), (5, .int x5), (6, .int x6)]) X.1 X.2.1 dX13_readDigits_244 hl (by decide) rfl (fun ls hl => ?_)
    exact wfX13_readDigits_246_l X hr hlk hnm FU _ _ _ _ _ _ _ _ _ _ _ _ (lv_sub hl [1, 2, 3, 4, 5, 6, 7, 0] rfl) S hf
  · replace hf := (if_neg c1).symm.trans hf
    refine g_aload_n X (or_rv _) dX13_readDigits_213 rfl (lv_at hl 0 rfl) ?_
    refine g_gR X S foX13_104 dX13_readDigits_214 hf (fun v2 hf => ?_)
    refine lv_sipush (v := 256) X.1 X.2.1 dX13_readDigits_217 (by decide) ?_
    refine lv_iload_n X.1 X.2.1 dX13_readDigits_220 rfl (lv_at hl 1 rfl) ?_
    refine lv_iadd X.1 X.2.1 dX13_readDigits_221 ?_
    refine lv_iload X.1 X.2.1 dX13_readDigits_222 (lv_at hl 7 rfl) ?_
    refine lv_iadd X.1 X.2.1 dX13_readDigits_224 ?_
    refine lv_iload_n X.1 X.2.1 dX13_readDigits_225 rfl (lv_at hl 2 rfl) ?_
    refine lv_if_eq (tgt := 233) X.1 X.2.1 dX13_readDigits_226 (by decide) (fun c3 => ?_) (fun c3 => ?_)
    · replace hf := (if_pos c3).symm.trans hf
      refine lv_sipush (v := 240) X.1 X.2.1 dX13_readDigits_233 (by decide) ?_
      exact wfX13_readDigits_236 X hr hlk hnm hk206 _ _ _ _ _ _ _ _ _ _ _ _ _ _ _ hl S hf
    · replace hf := (if_neg c3).symm.trans hf
      refine lv_iconst (v := 0) X.1 X.2.1 dX13_readDigits_229 (by decide) ?_
      refine lv_goto (tgt := 236) X.1 X.2.1 dX13_readDigits_230 (by decide) ?_
      exact wfX13_readDigits_236 X hr hlk hnm hk206 _ _ _ _ _ _ _ _ _ _ _ _ _ _ _ hl S hf
theorem wfX13_readDigits_206_l {h9 : Hp} (X : Cx p E A 12 R s m args c cX13_readDigits yX13_readDigits.cls 9) (hr : meth.sig.returnType = none) (hlk : meth.locks = false) (hnm : meth.name = yX13_readDigits.name) :
    ∀ (n : Nat) (x0 : Nat) (x1 : Int32) (x2 : Int32) (x3 : Int32) (x4 : Int32) (x5 : Int32) (x6 : Int32) (x7 : Int32) (h : Hp) (H : Heap) (locs : List Loc) (ls : Array Slot), lv_has ls 9 [(0, rv x0), (1, .int x1), (2, .int x2), (3, .int x3), (4, .int x4), (5, .int x5), (6, .int x6), (7, .int x7)] → St E A s h H locs → lp (fun _ _ _ _ _ _ _ _ _ => none) (fX13_readDigits_206) n x0 x1 x2 x3 x4 x5 x6 x7 h = some h9 → W p l e R s m args below meth c H locs 0 0 (MQ below (Qv E A h9) args s 0 0 A) (F0 m 206 ls []) := by
  intro n
  induction n with
  | zero =>
    intro x0 x1 x2 x3 x4 x5 x6 x7 h H locs ls hl S hf
    exact nomatch hf
  | succ n ih =>
    intro x0 x1 x2 x3 x4 x5 x6 x7 h H locs ls hl S hf
    exact wfX13_readDigits_206 X hr hlk hnm ih x0 x1 x2 x3 x4 x5 x6 x7 h H locs ls hl S hf
def fX13_readDigits_191 (x0 : Nat) (x1 : Int32) (x2 : Int32) (x3 : Int32) (x4 : Int32) (x5 : Int32) (x6 : Int32) (h : Hp) : Option (Hp) := ob (gI 11 x0 23 h) fun v1 => if v1 = 0 then ob (fX13_stepOn x0 h) fun h => lp (fun _ _ _ _ _ _ _ _ _ => none) (fX13_readDigits_206) FU x0 x1 x2 x3 x4 x5 x6 0 h else some h
theorem wfX13_readDigits_191 {h9 : Hp} (X : Cx p E A 12 R s m args c cX13_readDigits yX13_readDigits.cls 9) (hr : meth.sig.returnType = none) (hlk : meth.locks = false) (hnm : meth.name = yX13_readDigits.name) :
    ∀ (x0 : Nat) (x1 : Int32) (x2 : Int32) (x3 : Int32) (x4 : Int32) (x5 : Int32) (x6 : Int32) (h : Hp) (H : Heap) (locs : List Loc) (ls : Array Slot), lv_has ls 9 [(0, rv x0), (1, .int x1), (2, .int x2), (3, .int x3), (4, .int x4), (5, .int x5), (6, .int x6)] → St E A s h H locs → fX13_readDigits_191 x0 x1 x2 x3 x4 x5 x6 h = some h9 → W p l e R s m args below meth c H locs 0 0 (MQ below (Qv E A h9) args s 0 0 A) (F0 m 191 ls []) := by
  intro x0 x1 x2 x3 x4 x5 x6 h H locs ls hl S hf
  unfold fX13_readDigits_191 at hf
  refine g_aload_n X (or_rv _) dX13_readDigits_191 rfl (lv_at hl 0 rfl) ?_
  refine g_gI X S foX13_231 rfl dX13_readDigits_192 hf (fun v1 hf => ?_)
  refine lv_if_eq (tgt := 199) X.1 X.2.1 dX13_readDigits_195 (by decide) (fun c2 => ?_) (fun c2 => ?_)
  · replace hf := (if_pos c2).symm.trans hf
    refine g_aload_n X (or_rv _) dX13_readDigits_199 rfl (lv_at hl 0 rfl) ?_
    obtain ⟨h, hc, hf⟩ := ob_some hf
    refine g_cv S (runV (As := []) (rest := []) X S coX13_252 (by decide) (cX13_stepOn_m l hc) (tkX13_stepOn hc) rfl hl.1 (by decide) rfl ⟨Nat.zero_le _, Nat.zero_le _⟩ dX13_readDigits_200) (fun H locs S => ?_)
    refine lv_iconst (v := 0) X.1 X.2.1 dX13_readDigits_203 (by decide) ?_
    refine lv_istore (lv' := [(7, .int 0), (0, rv x0), (1, .int x1), (2, .int x2), (3, .int x3), (4, .int x4), (5, .int x5), (6, .int x6)]) X.1 X.2.1 dX13_readDigits_204 hl (by decide) rfl (fun ls hl => ?_)
    exact wfX13_readDigits_206_l X hr hlk hnm FU _ _ _ _ _ _ _ _ _ _ _ _ (lv_sub hl [1, 2, 3, 4, 5, 6, 7, 0] rfl) S hf
  · replace hf := (if_neg c2).symm.trans hf
    cases hf; exact g_rv X S hr hlk dX13_readDigits_198
def fX13_readDigits_125 (x0 : Nat) (x1 : Int32) (x2 : Int32) (x3 : Int32) (x4 : Int32) (x5 : Int32) (y0 : Int32) (h : Hp) : Option (Hp) := ob (gI 11 x0 19 h) fun v1 => if v1 = 2 then ob (fX13_isIn (Int32.toInt64 y0) 1 16) fun v3 => if v3 = 0 then fX13_readDigits_186 fX13_readDigits_191 x0 x1 x2 x3 x4 x5 y0 h else if 256 < (x1 + y0) then fX13_readDigits_186 fX13_readDigits_191 x0 x1 x2 x3 x4 x5 y0 h else if x2 = 0 then fX13_readDigits_183 (fX13_readDigits_186 fX13_readDigits_191) fX13_readDigits_191 x0 x1 x2 x3 x4 x5 y0 y0 x5 h else fX13_readDigits_183 (fX13_readDigits_186 fX13_readDigits_191) fX13_readDigits_191 x0 x1 x2 x3 x4 x5 y0 ((2 * y0) - 1) x5 h else ob (fX13_wrong x0 1 h) fun h => fX13_readDigits_191 x0 x1 x2 x3 x4 x5 y0 h
theorem wfX13_readDigits_125 {h9 : Hp} (X : Cx p E A 12 R s m args c cX13_readDigits yX13_readDigits.cls 9) (hr : meth.sig.returnType = none) (hlk : meth.locks = false) (hnm : meth.name = yX13_readDigits.name) :
    ∀ (x0 : Nat) (x1 : Int32) (x2 : Int32) (x3 : Int32) (x4 : Int32) (x5 : Int32) (y0 : Int32) (h : Hp) (H : Heap) (locs : List Loc) (ls : Array Slot), lv_has ls 9 [(0, rv x0), (1, .int x1), (2, .int x2), (3, .int x3), (4, .int x4), (5, .int x5)] → St E A s h H locs → fX13_readDigits_125 x0 x1 x2 x3 x4 x5 y0 h = some h9 → W p l e R s m args below meth c H locs 0 0 (MQ below (Qv E A h9) args s 0 0 A) (F0 m 125 ls [.int y0]) := by
  intro x0 x1 x2 x3 x4 x5 y0 h H locs ls hl S hf
  unfold fX13_readDigits_125 at hf
  refine lv_istore (lv' := [(6, .int y0), (0, rv x0), (1, .int x1), (2, .int x2), (3, .int x3), (4, .int x4), (5, .int x5)]) X.1 X.2.1 dX13_readDigits_125 hl (by decide) rfl (fun ls hl => ?_)
  refine g_aload_n X (or_rv _) dX13_readDigits_127 rfl (lv_at hl 1 rfl) ?_
  refine g_gI X S foX13_209 rfl dX13_readDigits_128 hf (fun v1 hf => ?_)
  refine lv_iconst (v := 2) X.1 X.2.1 dX13_readDigits_131 (by decide) ?_
  refine lv_icmp_eq (tgt := 143) X.1 X.2.1 dX13_readDigits_132 (by decide) (fun c2 => ?_) (fun c2 => ?_)
  · replace hf := (if_pos c2).symm.trans hf
    refine lv_iload X.1 X.2.1 dX13_readDigits_143 (lv_at hl 0 rfl) ?_
    refine lv_i2l (v := Int32.toInt64 y0) X.1 X.2.1 dX13_readDigits_145 rfl ?_
    refine lv_lconst (v := 1) X.1 X.2.1 dX13_readDigits_146 (by decide) ?_
    refine lv_ldc2 X.1 X.2.1 X.2.2.2.1 (X.2.2.1 _ kuX13_285) dX13_readDigits_147 ?_
    obtain ⟨v3, hc, hf⟩ := ob_some hf
    refine g_ci S (runS (As := [.long (Int32.toInt64 y0), .long 1, .long 16]) (rest := []) X S coX13_287 (by decide) (cX13_isIn_m l hc) rfl hl.1 (by decide) rfl ⟨Nat.zero_le _, Nat.zero_le _⟩ dX13_readDigits_150) (fun H locs S => ?_)
    refine lv_if_eq (tgt := 186) X.1 X.2.1 dX13_readDigits_153 (by decide) (fun c4 => ?_) (fun c4 => ?_)
    · replace hf := (if_pos c4).symm.trans hf
      exact wfX13_readDigits_186 X hr hlk hnm (wfX13_readDigits_191 X hr hlk hnm) _ _ _ _ _ _ _ _ _ _ _ (lv_sub hl [1, 2, 3, 4, 5, 6, 0] rfl) S hf
    · replace hf := (if_neg c4).symm.trans hf
      refine lv_iload_n X.1 X.2.1 dX13_readDigits_156 rfl (lv_at hl 2 rfl) ?_
      refine lv_iload X.1 X.2.1 dX13_readDigits_157 (lv_at hl 0 rfl) ?_
      refine lv_iadd X.1 X.2.1 dX13_readDigits_159 ?_
      refine lv_sipush (v := 256) X.1 X.2.1 dX13_readDigits_160 (by decide) ?_
      refine lv_icmp_gt (tgt := 186) X.1 X.2.1 dX13_readDigits_163 (by decide) (fun c5 => ?_) (fun c5 => ?_)
      · replace hf := (if_pos c5).symm.trans hf
        exact wfX13_readDigits_186 X hr hlk hnm (wfX13_readDigits_191 X hr hlk hnm) _ _ _ _ _ _ _ _ _ _ _ (lv_sub hl [1, 2, 3, 4, 5, 6, 0] rfl) S hf
      · replace hf := (if_neg c5).symm.trans hf
        refine lv_iload X.1 X.2.1 dX13_readDigits_166 (lv_at hl 6 rfl) ?_
        refine lv_iload_n X.1 X.2.1 dX13_readDigits_168 rfl (lv_at hl 3 rfl) ?_
        refine lv_if_eq (tgt := 181) X.1 X.2.1 dX13_readDigits_169 (by decide) (fun c6 => ?_) (fun c6 => ?_)
        · replace hf := (if_pos c6).symm.trans hf
          refine lv_iload X.1 X.2.1 dX13_readDigits_181 (lv_at hl 0 rfl) ?_
          exact wfX13_readDigits_183 X hr hlk hnm (wfX13_readDigits_186 X hr hlk hnm (wfX13_readDigits_191 X hr hlk hnm)) (wfX13_readDigits_191 X hr hlk hnm) _ _ _ _ _ _ _ _ _ _ _ _ _ (lv_sub hl [1, 2, 3, 4, 5, 6, 0] rfl) S hf
        · replace hf := (if_neg c6).symm.trans hf
          refine lv_iconst (v := 2) X.1 X.2.1 dX13_readDigits_172 (by decide) ?_
          refine lv_iload X.1 X.2.1 dX13_readDigits_173 (lv_at hl 0 rfl) ?_
          refine lv_imul X.1 X.2.1 dX13_readDigits_175 ?_
          refine lv_iconst (v := 1) X.1 X.2.1 dX13_readDigits_176 (by decide) ?_
          refine lv_isub X.1 X.2.1 dX13_readDigits_177 ?_
          refine lv_goto (tgt := 183) X.1 X.2.1 dX13_readDigits_178 (by decide) ?_
          exact wfX13_readDigits_183 X hr hlk hnm (wfX13_readDigits_186 X hr hlk hnm (wfX13_readDigits_191 X hr hlk hnm)) (wfX13_readDigits_191 X hr hlk hnm) _ _ _ _ _ _ _ _ _ _ _ _ _ (lv_sub hl [1, 2, 3, 4, 5, 6, 0] rfl) S hf
  · replace hf := (if_neg c2).symm.trans hf
    refine g_aload_n X (or_rv _) dX13_readDigits_135 rfl (lv_at hl 1 rfl) ?_
    refine lv_iconst (v := 1) X.1 X.2.1 dX13_readDigits_136 (by decide) ?_
    obtain ⟨h, hc, hf⟩ := ob_some hf
    refine g_cv S (runV (As := [.int 1]) (rest := []) X S coX13_255 (by decide) (cX13_wrong_m l hc) (tkX13_wrong hc) rfl hl.1 (by decide) rfl ⟨Nat.zero_le _, Nat.zero_le _⟩ dX13_readDigits_137) (fun H locs S => ?_)
    refine lv_goto (tgt := 191) X.1 X.2.1 dX13_readDigits_140 (by decide) ?_
    exact wfX13_readDigits_191 X hr hlk hnm _ _ _ _ _ _ _ _ _ _ _ (lv_sub hl [1, 2, 3, 4, 5, 6, 0] rfl) S hf
def fX13_readDigits_101 (x0 : Nat) (x1 : Int32) (x2 : Int32) (x3 : Int32) (x4 : Int32) (x5 : Int32) (h : Hp) : Option (Hp) := ob (gI 11 x0 23 h) fun v1 => if v1 = 0 then ob (gI 11 x0 19 h) fun v3 => if v3 = 2 then ob (gI 11 x0 20 h) fun v5 => fX13_readDigits_125 x0 x1 x2 x3 x4 x5 v5 h else fX13_readDigits_125 x0 x1 x2 x3 x4 x5 1 h else some h
theorem wfX13_readDigits_101 {h9 : Hp} (X : Cx p E A 12 R s m args c cX13_readDigits yX13_readDigits.cls 9) (hr : meth.sig.returnType = none) (hlk : meth.locks = false) (hnm : meth.name = yX13_readDigits.name) :
    ∀ (x0 : Nat) (x1 : Int32) (x2 : Int32) (x3 : Int32) (x4 : Int32) (x5 : Int32) (h : Hp) (H : Heap) (locs : List Loc) (ls : Array Slot), lv_has ls 9 [(0, rv x0), (1, .int x1), (2, .int x2), (3, .int x3), (4, .int x4), (5, .int x5)] → St E A s h H locs → fX13_readDigits_101 x0 x1 x2 x3 x4 x5 h = some h9 → W p l e R s m args below meth c H locs 0 0 (MQ below (Qv E A h9) args s 0 0 A) (F0 m 101 ls []) := by
  intro x0 x1 x2 x3 x4 x5 h H locs ls hl S hf
  unfold fX13_readDigits_101 at hf
  refine g_aload_n X (or_rv _) dX13_readDigits_101 rfl (lv_at hl 0 rfl) ?_
  refine g_gI X S foX13_231 rfl dX13_readDigits_102 hf (fun v1 hf => ?_)
  refine lv_if_eq (tgt := 109) X.1 X.2.1 dX13_readDigits_105 (by decide) (fun c2 => ?_) (fun c2 => ?_)
  · replace hf := (if_pos c2).symm.trans hf
    refine g_aload_n X (or_rv _) dX13_readDigits_109 rfl (lv_at hl 0 rfl) ?_
    refine g_gI X S foX13_209 rfl dX13_readDigits_110 hf (fun v3 hf => ?_)
    refine lv_iconst (v := 2) X.1 X.2.1 dX13_readDigits_113 (by decide) ?_
    refine lv_icmp_ne (tgt := 124) X.1 X.2.1 dX13_readDigits_114 (by decide) (fun c4 => ?_) (fun c4 => ?_)
    · replace hf := (if_neg c4).symm.trans hf
      refine lv_iconst (v := 1) X.1 X.2.1 dX13_readDigits_124 (by decide) ?_
      exact wfX13_readDigits_125 X hr hlk hnm _ _ _ _ _ _ _ _ _ _ _ hl S hf
    · replace hf := (if_pos c4).symm.trans hf
      refine g_aload_n X (or_rv _) dX13_readDigits_117 rfl (lv_at hl 0 rfl) ?_
      refine g_gI X S foX13_215 rfl dX13_readDigits_118 hf (fun v5 hf => ?_)
      refine lv_goto (tgt := 125) X.1 X.2.1 dX13_readDigits_121 (by decide) ?_
      exact wfX13_readDigits_125 X hr hlk hnm _ _ _ _ _ _ _ _ _ _ _ hl S hf
  · replace hf := (if_neg c2).symm.trans hf
    cases hf; exact g_rv X S hr hlk dX13_readDigits_108
def fX13_readDigits_90 (x0 : Nat) (x1 : Int32) (x2 : Int32) (x3 : Int32) (x4 : Int32) (x5 : Int32) (h : Hp) : Option (Hp) := ob (gI 11 x0 23 h) fun v1 => if v1 = 0 then ob (fX13_stepOn x0 h) fun h => fX13_readDigits_101 x0 x1 x2 x3 x4 x5 h else fX13_readDigits_101 x0 x1 x2 x3 x4 x5 h
theorem wfX13_readDigits_90 {h9 : Hp} (X : Cx p E A 12 R s m args c cX13_readDigits yX13_readDigits.cls 9) (hr : meth.sig.returnType = none) (hlk : meth.locks = false) (hnm : meth.name = yX13_readDigits.name) :
    ∀ (x0 : Nat) (x1 : Int32) (x2 : Int32) (x3 : Int32) (x4 : Int32) (x5 : Int32) (h : Hp) (H : Heap) (locs : List Loc) (ls : Array Slot), lv_has ls 9 [(0, rv x0), (1, .int x1), (2, .int x2), (3, .int x3), (4, .int x4), (5, .int x5)] → St E A s h H locs → fX13_readDigits_90 x0 x1 x2 x3 x4 x5 h = some h9 → W p l e R s m args below meth c H locs 0 0 (MQ below (Qv E A h9) args s 0 0 A) (F0 m 90 ls []) := by
  intro x0 x1 x2 x3 x4 x5 h H locs ls hl S hf
  unfold fX13_readDigits_90 at hf
  refine g_aload_n X (or_rv _) dX13_readDigits_90 rfl (lv_at hl 0 rfl) ?_
  refine g_gI X S foX13_231 rfl dX13_readDigits_91 hf (fun v1 hf => ?_)
  refine lv_if_ne (tgt := 101) X.1 X.2.1 dX13_readDigits_94 (by decide) (fun c2 => ?_) (fun c2 => ?_)
  · replace hf := (if_neg c2).symm.trans hf
    exact wfX13_readDigits_101 X hr hlk hnm _ _ _ _ _ _ _ _ _ _ hl S hf
  · replace hf := (if_pos c2).symm.trans hf
    refine g_aload_n X (or_rv _) dX13_readDigits_97 rfl (lv_at hl 0 rfl) ?_
    obtain ⟨h, hc, hf⟩ := ob_some hf
    refine g_cv S (runV (As := []) (rest := []) X S coX13_252 (by decide) (cX13_stepOn_m l hc) (tkX13_stepOn hc) rfl hl.1 (by decide) rfl ⟨Nat.zero_le _, Nat.zero_le _⟩ dX13_readDigits_98) (fun H locs S => ?_)
    exact wfX13_readDigits_101 X hr hlk hnm _ _ _ _ _ _ _ _ _ _ hl S hf
def fX13_readDigits_69 (x0 : Nat) (x1 : Int32) (x2 : Int32) (x3 : Int32) (x4 : Int32) (x5 : Int32) (h : Hp) : Option (Hp) := ob (gI 11 x0 23 h) fun v1 => if v1 = 0 then ob (fX13_is x0 69 h) fun v3 => if v3 = 0 then ob (fX13_wrong x0 1 h) fun h => fX13_readDigits_90 x0 x1 x2 x3 x4 x5 h else fX13_readDigits_90 x0 x1 x2 x3 x4 x5 h else fX13_readDigits_90 x0 x1 x2 x3 x4 x5 h
theorem wfX13_readDigits_69 {h9 : Hp} (X : Cx p E A 12 R s m args c cX13_readDigits yX13_readDigits.cls 9) (hr : meth.sig.returnType = none) (hlk : meth.locks = false) (hnm : meth.name = yX13_readDigits.name) :
    ∀ (x0 : Nat) (x1 : Int32) (x2 : Int32) (x3 : Int32) (x4 : Int32) (x5 : Int32) (h : Hp) (H : Heap) (locs : List Loc) (ls : Array Slot), lv_has ls 9 [(0, rv x0), (1, .int x1), (2, .int x2), (3, .int x3), (4, .int x4), (5, .int x5)] → St E A s h H locs → fX13_readDigits_69 x0 x1 x2 x3 x4 x5 h = some h9 → W p l e R s m args below meth c H locs 0 0 (MQ below (Qv E A h9) args s 0 0 A) (F0 m 69 ls []) := by
  intro x0 x1 x2 x3 x4 x5 h H locs ls hl S hf
  unfold fX13_readDigits_69 at hf
  refine g_aload_n X (or_rv _) dX13_readDigits_69 rfl (lv_at hl 0 rfl) ?_
  refine g_gI X S foX13_231 rfl dX13_readDigits_70 hf (fun v1 hf => ?_)
  refine lv_if_ne (tgt := 90) X.1 X.2.1 dX13_readDigits_73 (by decide) (fun c2 => ?_) (fun c2 => ?_)
  · replace hf := (if_neg c2).symm.trans hf
    exact wfX13_readDigits_90 X hr hlk hnm _ _ _ _ _ _ _ _ _ _ hl S hf
  · replace hf := (if_pos c2).symm.trans hf
    refine g_aload_n X (or_rv _) dX13_readDigits_76 rfl (lv_at hl 0 rfl) ?_
    refine g_lds (i := 68) X S ⟨by decide, by decide, rfl⟩ dX13_readDigits_77 ?_
    obtain ⟨v3, hc, hf⟩ := ob_some hf
    refine g_ci S (runV (As := [sv E 69]) (rest := []) X S coX13_245 (by decide) (cX13_is_m l hc) (tkX13_is hc) rfl hl.1 (by decide) rfl ⟨Nat.zero_le _, Nat.zero_le _⟩ dX13_readDigits_79) (fun H locs S => ?_)
    refine lv_if_ne (tgt := 90) X.1 X.2.1 dX13_readDigits_82 (by decide) (fun c4 => ?_) (fun c4 => ?_)
    · replace hf := (if_neg c4).symm.trans hf
      exact wfX13_readDigits_90 X hr hlk hnm _ _ _ _ _ _ _ _ _ _ hl S hf
    · replace hf := (if_pos c4).symm.trans hf
      refine g_aload_n X (or_rv _) dX13_readDigits_85 rfl (lv_at hl 0 rfl) ?_
      refine lv_iconst (v := 1) X.1 X.2.1 dX13_readDigits_86 (by decide) ?_
      obtain ⟨h, hc, hf⟩ := ob_some hf
      refine g_cv S (runV (As := [.int 1]) (rest := []) X S coX13_255 (by decide) (cX13_wrong_m l hc) (tkX13_wrong hc) rfl hl.1 (by decide) rfl ⟨Nat.zero_le _, Nat.zero_le _⟩ dX13_readDigits_87) (fun H locs S => ?_)
      exact wfX13_readDigits_90 X hr hlk hnm _ _ _ _ _ _ _ _ _ _ hl S hf
def fX13_readDigits_41 (x0 : Nat) (x1 : Int32) (x2 : Int32) (x3 : Int32) (h : Hp) : Option (Hp) := ob (gI 11 x0 21 h) fun v1 => ob (gI 11 x0 22 h) fun v2 => ob (gI 11 x0 21 h) fun v3 => lt (v2 - v3) fun z4 => ob (gI 11 x0 23 h) fun v5 => if v5 = 0 then ob (fX13_stepOn x0 h) fun h => fX13_readDigits_69 x0 x1 x2 x3 v1 z4 h else fX13_readDigits_69 x0 x1 x2 x3 v1 z4 h
theorem wfX13_readDigits_41 {h9 : Hp} (X : Cx p E A 12 R s m args c cX13_readDigits yX13_readDigits.cls 9) (hr : meth.sig.returnType = none) (hlk : meth.locks = false) (hnm : meth.name = yX13_readDigits.name) :
    ∀ (x0 : Nat) (x1 : Int32) (x2 : Int32) (x3 : Int32) (h : Hp) (H : Heap) (locs : List Loc) (ls : Array Slot), lv_has ls 9 [(0, rv x0), (1, .int x1), (2, .int x2), (3, .int x3)] → St E A s h H locs → fX13_readDigits_41 x0 x1 x2 x3 h = some h9 → W p l e R s m args below meth c H locs 0 0 (MQ below (Qv E A h9) args s 0 0 A) (F0 m 41 ls []) := by
  intro x0 x1 x2 x3 h H locs ls hl S hf
  unfold fX13_readDigits_41 at hf
  refine g_aload_n X (or_rv _) dX13_readDigits_41 rfl (lv_at hl 0 rfl) ?_
  refine g_gI X S foX13_206 rfl dX13_readDigits_42 hf (fun v1 hf => ?_)
  refine lv_istore (lv' := [(4, .int v1), (0, rv x0), (1, .int x1), (2, .int x2), (3, .int x3)]) X.1 X.2.1 dX13_readDigits_45 hl (by decide) rfl (fun ls hl => ?_)
  refine g_aload_n X (or_rv _) dX13_readDigits_47 rfl (lv_at hl 1 rfl) ?_
  refine g_gI X S foX13_228 rfl dX13_readDigits_48 hf (fun v2 hf => ?_)
  refine g_aload_n X (or_rv _) dX13_readDigits_51 rfl (lv_at hl 1 rfl) ?_
  refine g_gI X S foX13_206 rfl dX13_readDigits_52 hf (fun v3 hf => ?_)
  refine lv_isub X.1 X.2.1 dX13_readDigits_55 ?_
  refine g_lti hf (fun z4 hf => ?_)
  refine lv_istore (lv' := [(5, .int z4), (4, .int v1), (0, rv x0), (1, .int x1), (2, .int x2), (3, .int x3)]) X.1 X.2.1 dX13_readDigits_56 hl (by decide) rfl (fun ls hl => ?_)
  refine g_aload_n X (or_rv _) dX13_readDigits_58 rfl (lv_at hl 2 rfl) ?_
  refine g_gI X S foX13_231 rfl dX13_readDigits_59 hf (fun v5 hf => ?_)
  refine lv_if_ne (tgt := 69) X.1 X.2.1 dX13_readDigits_62 (by decide) (fun c6 => ?_) (fun c6 => ?_)
  · replace hf := (if_neg c6).symm.trans hf
    exact wfX13_readDigits_69 X hr hlk hnm _ _ _ _ _ _ _ _ _ _ (lv_sub hl [2, 3, 4, 5, 1, 0] rfl) S hf
  · replace hf := (if_pos c6).symm.trans hf
    refine g_aload_n X (or_rv _) dX13_readDigits_65 rfl (lv_at hl 2 rfl) ?_
    obtain ⟨h, hc, hf⟩ := ob_some hf
    refine g_cv S (runV (As := []) (rest := []) X S coX13_252 (by decide) (cX13_stepOn_m l hc) (tkX13_stepOn hc) rfl hl.1 (by decide) rfl ⟨Nat.zero_le _, Nat.zero_le _⟩ dX13_readDigits_66) (fun H locs S => ?_)
    exact wfX13_readDigits_69 X hr hlk hnm _ _ _ _ _ _ _ _ _ _ (lv_sub hl [2, 3, 4, 5, 1, 0] rfl) S hf
def fX13_readDigits_20 (x0 : Nat) (x1 : Int32) (x2 : Int32) (y0 : Int32) (h : Hp) : Option (Hp) := ob (gI 11 x0 23 h) fun v1 => if v1 = 0 then ob (gI 11 x0 19 h) fun v3 => if v3 = 2 then fX13_readDigits_41 x0 x1 x2 y0 h else ob (fX13_wrong x0 1 h) fun h => fX13_readDigits_41 x0 x1 x2 y0 h else fX13_readDigits_41 x0 x1 x2 y0 h
theorem wfX13_readDigits_20 {h9 : Hp} (X : Cx p E A 12 R s m args c cX13_readDigits yX13_readDigits.cls 9) (hr : meth.sig.returnType = none) (hlk : meth.locks = false) (hnm : meth.name = yX13_readDigits.name) :
    ∀ (x0 : Nat) (x1 : Int32) (x2 : Int32) (y0 : Int32) (h : Hp) (H : Heap) (locs : List Loc) (ls : Array Slot), lv_has ls 9 [(0, rv x0), (1, .int x1), (2, .int x2)] → St E A s h H locs → fX13_readDigits_20 x0 x1 x2 y0 h = some h9 → W p l e R s m args below meth c H locs 0 0 (MQ below (Qv E A h9) args s 0 0 A) (F0 m 20 ls [.int y0]) := by
  intro x0 x1 x2 y0 h H locs ls hl S hf
  unfold fX13_readDigits_20 at hf
  refine lv_istore_n (i := 3) (lv' := [(3, .int y0), (0, rv x0), (1, .int x1), (2, .int x2)]) X.1 X.2.1 dX13_readDigits_20 rfl hl (by decide) rfl (fun ls hl => ?_)
  refine g_aload_n X (or_rv _) dX13_readDigits_21 rfl (lv_at hl 1 rfl) ?_
  refine g_gI X S foX13_231 rfl dX13_readDigits_22 hf (fun v1 hf => ?_)
  refine lv_if_ne (tgt := 41) X.1 X.2.1 dX13_readDigits_25 (by decide) (fun c2 => ?_) (fun c2 => ?_)
  · replace hf := (if_neg c2).symm.trans hf
    exact wfX13_readDigits_41 X hr hlk hnm _ _ _ _ _ _ _ _ (lv_sub hl [1, 2, 3, 0] rfl) S hf
  · replace hf := (if_pos c2).symm.trans hf
    refine g_aload_n X (or_rv _) dX13_readDigits_28 rfl (lv_at hl 1 rfl) ?_
    refine g_gI X S foX13_209 rfl dX13_readDigits_29 hf (fun v3 hf => ?_)
    refine lv_iconst (v := 2) X.1 X.2.1 dX13_readDigits_32 (by decide) ?_
    refine lv_icmp_eq (tgt := 41) X.1 X.2.1 dX13_readDigits_33 (by decide) (fun c4 => ?_) (fun c4 => ?_)
    · replace hf := (if_pos c4).symm.trans hf
      exact wfX13_readDigits_41 X hr hlk hnm _ _ _ _ _ _ _ _ (lv_sub hl [1, 2, 3, 0] rfl) S hf
    · replace hf := (if_neg c4).symm.trans hf
      refine g_aload_n X (or_rv _) dX13_readDigits_36 rfl (lv_at hl 1 rfl) ?_
      refine lv_iconst (v := 1) X.1 X.2.1 dX13_readDigits_37 (by decide) ?_
      obtain ⟨h, hc, hf⟩ := ob_some hf
      refine g_cv S (runV (As := [.int 1]) (rest := []) X S coX13_255 (by decide) (cX13_wrong_m l hc) (tkX13_wrong hc) rfl hl.1 (by decide) rfl ⟨Nat.zero_le _, Nat.zero_le _⟩ dX13_readDigits_38) (fun H locs S => ?_)
      exact wfX13_readDigits_41 X hr hlk hnm _ _ _ _ _ _ _ _ (lv_sub hl [1, 2, 3, 0] rfl) S hf
def fX13_readDigits (a0 : Nat) (a1 : Int32) (a2 : Int32) (h : Hp) : Option (Hp) := gd 11 a0 h (ob (fX13_stepOn a0 h) fun h => ob2 (fX13_passes a0 45 h) fun v2 h => if v2 = 0 then fX13_readDigits_20 a0 a1 a2 12 h else fX13_readDigits_20 a0 a1 a2 13 h)
theorem tkX13_readDigits {a0 : Nat} {a1 : Int32} {a2 : Int32} {h : Hp} {r9 : Hp} (e : fX13_readDigits a0 a1 a2 h = some r9) : hK h a0 = 11 := by
  unfold fX13_readDigits at e
  exact (gd_some e).1
theorem cX13_readDigits_m (l : Launch) {E : EE} {A : Nat → Prop} {a0 : Nat} {a1 : Int32} {a2 : Int32} {h : Hp} {h9 : Hp} (hf : fX13_readDigits a0 a1 a2 h = some h9) : Met l yX13_readDigits (wsM yX13_readDigits cX13_readDigits 9 none) (rmm 12 0 0) (PcE E A h [rv a0, .int a1, .int a2]) (Qv E A h9) 0 0 A := by
  refine met_of (by decide +kernel) (by simp [lg_sl, cat_rv, cat_wv, cat_sv, cat_i, cat_l, cat_a]) (fun p e s m args below meth c ls X hr hlk hnm S hl => ?_)
  have hl : lv_has ls 9 [(0, rv a0), (1, .int a1), (2, .int a2)] := by simpa [lv_args, cat_rv, cat_wv, cat_sv, cat_i, cat_l, cat_a] using hl
  generalize hH : s.heap = H at S ⊢
  generalize hlo : ([] : List Loc) = locs at S ⊢
  clear hH hlo
  unfold fX13_readDigits at hf
  obtain ⟨hth, hf⟩ := gd_some hf
  refine g_aload_n X (or_rv _) dX13_readDigits_0 rfl (lv_at hl 0 rfl) ?_
  obtain ⟨h, hc, hf⟩ := ob_some hf
  refine g_cv S (runV (As := []) (rest := []) X S coX13_252 (by decide) (cX13_stepOn_m l hc) (tkX13_stepOn hc) rfl hl.1 (by decide) rfl ⟨Nat.zero_le _, Nat.zero_le _⟩ dX13_readDigits_1) (fun H locs S => ?_)
  refine g_aload_n X (or_rv _) dX13_readDigits_4 rfl (lv_at hl 0 rfl) ?_
  refine lv_bipush (v := 45) X.1 X.2.1 dX13_readDigits_5 (by decide) ?_
  obtain ⟨v2, h, hc, hf⟩ := ob2_some hf
  refine g_ci S (runV (As := [.int 45]) (rest := []) X S coX13_282 (by decide) (cX13_passes_m l hc) (tkX13_passes hc) rfl hl.1 (by decide) rfl ⟨Nat.zero_le _, Nat.zero_le _⟩ dX13_readDigits_7) (fun H locs S => ?_)
  refine lv_if_eq (tgt := 18) X.1 X.2.1 dX13_readDigits_10 (by decide) (fun c3 => ?_) (fun c3 => ?_)
  · replace hf := (if_pos c3).symm.trans hf
    refine lv_bipush (v := 12) X.1 X.2.1 dX13_readDigits_18 (by decide) ?_
    exact wfX13_readDigits_20 X hr hlk hnm _ _ _ _ _ _ _ _ hl S hf
  · replace hf := (if_neg c3).symm.trans hf
    refine lv_bipush (v := 13) X.1 X.2.1 dX13_readDigits_13 (by decide) ?_
    refine lv_goto (tgt := 20) X.1 X.2.1 dX13_readDigits_15 (by decide) ?_
    exact wfX13_readDigits_20 X hr hlk hnm _ _ _ _ _ _ _ _ hl S hf
def fX13_readAt (a0 : Nat) (h : Hp) : Option (Hp) := gd 11 a0 h (ob (fX13_stepOn a0 h) fun h => ob2 (fX13_readNumber a0 0 255 h) fun v2 h => ob (gI 11 a0 23 h) fun v3 => if v3 = 0 then ob (gI 11 a0 19 h) fun v5 => if v5 = 3 then ob (fX13_readHex a0 v2 h) fun h => some h else ob (fX13_is a0 67 h) fun v7 => if v7 = 0 then ob (fX13_is a0 68 h) fun v9 => if v9 = 0 then ob (fX13_wrong a0 1 h) fun h => some h else ob (fX13_readDigits a0 v2 0 h) fun h => some h else ob (fX13_readDigits a0 v2 1 h) fun h => some h else some h)
theorem tkX13_readAt {a0 : Nat} {h : Hp} {r9 : Hp} (e : fX13_readAt a0 h = some r9) : hK h a0 = 11 := by
  unfold fX13_readAt at e
  exact (gd_some e).1
theorem cX13_readAt_m (l : Launch) {E : EE} {A : Nat → Prop} {a0 : Nat} {h : Hp} {h9 : Hp} (hf : fX13_readAt a0 h = some h9) : Met l yX13_readAt (wsM yX13_readAt cX13_readAt 2 none) (rmm 13 0 0) (PcE E A h [rv a0]) (Qv E A h9) 0 0 A := by
  refine met_of (by decide +kernel) (by simp [lg_sl, cat_rv, cat_wv, cat_sv, cat_i, cat_l, cat_a]) (fun p e s m args below meth c ls X hr hlk hnm S hl => ?_)
  have hl : lv_has ls 2 [(0, rv a0)] := by simpa [lv_args, cat_rv, cat_wv, cat_sv, cat_i, cat_l, cat_a] using hl
  generalize hH : s.heap = H at S ⊢
  generalize hlo : ([] : List Loc) = locs at S ⊢
  clear hH hlo
  unfold fX13_readAt at hf
  obtain ⟨hth, hf⟩ := gd_some hf
  refine g_aload_n X (or_rv _) dX13_readAt_0 rfl (lv_at hl 0 rfl) ?_
  obtain ⟨h, hc, hf⟩ := ob_some hf
  refine g_cv S (runV (As := []) (rest := []) X S coX13_252 (by decide) (cX13_stepOn_m l hc) (tkX13_stepOn hc) rfl hl.1 (by decide) rfl ⟨Nat.zero_le _, Nat.zero_le _⟩ dX13_readAt_1) (fun H locs S => ?_)
  refine g_aload_n X (or_rv _) dX13_readAt_4 rfl (lv_at hl 0 rfl) ?_
  refine lv_iconst (v := 0) X.1 X.2.1 dX13_readAt_5 (by decide) ?_
  refine lv_sipush (v := 255) X.1 X.2.1 dX13_readAt_6 (by decide) ?_
  obtain ⟨v2, h, hc, hf⟩ := ob2_some hf
  refine g_ci S (runV (As := [.int 0, .int 255]) (rest := []) X S coX13_291 (by decide) (cX13_readNumber_m l hc) (tkX13_readNumber hc) rfl hl.1 (by decide) rfl ⟨Nat.zero_le _, Nat.zero_le _⟩ dX13_readAt_9) (fun H locs S => ?_)
  refine lv_istore_n (i := 1) (lv' := [(1, .int v2), (0, rv a0)]) X.1 X.2.1 dX13_readAt_12 rfl hl (by decide) (by simp [List.filter, cat_rv, cat_wv, cat_sv]) (fun ls hl => ?_)
  refine g_aload_n X (or_rv _) dX13_readAt_13 rfl (lv_at hl 1 rfl) ?_
  refine g_gI X S foX13_231 rfl dX13_readAt_14 hf (fun v3 hf => ?_)
  refine lv_if_eq (tgt := 21) X.1 X.2.1 dX13_readAt_17 (by decide) (fun c4 => ?_) (fun c4 => ?_)
  · replace hf := (if_pos c4).symm.trans hf
    refine g_aload_n X (or_rv _) dX13_readAt_21 rfl (lv_at hl 1 rfl) ?_
    refine g_gI X S foX13_209 rfl dX13_readAt_22 hf (fun v5 hf => ?_)
    refine lv_iconst (v := 3) X.1 X.2.1 dX13_readAt_25 (by decide) ?_
    refine lv_icmp_ne (tgt := 37) X.1 X.2.1 dX13_readAt_26 (by decide) (fun c6 => ?_) (fun c6 => ?_)
    · replace hf := (if_neg c6).symm.trans hf
      refine g_aload_n X (or_rv _) dX13_readAt_37 rfl (lv_at hl 1 rfl) ?_
      refine g_lds (i := 66) X S ⟨by decide, by decide, rfl⟩ dX13_readAt_38 ?_
      obtain ⟨v7, hc, hf⟩ := ob_some hf
      refine g_ci S (runV (As := [sv E 67]) (rest := []) X S coX13_245 (by decide) (cX13_is_m l hc) (tkX13_is hc) rfl hl.1 (by decide) rfl ⟨Nat.zero_le _, Nat.zero_le _⟩ dX13_readAt_40) (fun H locs S => ?_)
      refine lv_if_eq (tgt := 55) X.1 X.2.1 dX13_readAt_43 (by decide) (fun c8 => ?_) (fun c8 => ?_)
      · replace hf := (if_pos c8).symm.trans hf
        refine g_aload_n X (or_rv _) dX13_readAt_55 rfl (lv_at hl 1 rfl) ?_
        refine g_lds (i := 67) X S ⟨by decide, by decide, rfl⟩ dX13_readAt_56 ?_
        obtain ⟨v9, hc, hf⟩ := ob_some hf
        refine g_ci S (runV (As := [sv E 68]) (rest := []) X S coX13_245 (by decide) (cX13_is_m l hc) (tkX13_is hc) rfl hl.1 (by decide) rfl ⟨Nat.zero_le _, Nat.zero_le _⟩ dX13_readAt_58) (fun H locs S => ?_)
        refine lv_if_eq (tgt := 73) X.1 X.2.1 dX13_readAt_61 (by decide) (fun c10 => ?_) (fun c10 => ?_)
        · replace hf := (if_pos c10).symm.trans hf
          refine g_aload_n X (or_rv _) dX13_readAt_73 rfl (lv_at hl 1 rfl) ?_
          refine lv_iconst (v := 1) X.1 X.2.1 dX13_readAt_74 (by decide) ?_
          obtain ⟨h, hc, hf⟩ := ob_some hf
          refine g_cv S (runV (As := [.int 1]) (rest := []) X S coX13_255 (by decide) (cX13_wrong_m l hc) (tkX13_wrong hc) rfl hl.1 (by decide) rfl ⟨Nat.zero_le _, Nat.zero_le _⟩ dX13_readAt_75) (fun H locs S => ?_)
          cases hf; exact g_rv X S hr hlk dX13_readAt_78
        · replace hf := (if_neg c10).symm.trans hf
          refine g_aload_n X (or_rv _) dX13_readAt_64 rfl (lv_at hl 1 rfl) ?_
          refine lv_iload_n X.1 X.2.1 dX13_readAt_65 rfl (lv_at hl 0 rfl) ?_
          refine lv_iconst (v := 0) X.1 X.2.1 dX13_readAt_66 (by decide) ?_
          obtain ⟨h, hc, hf⟩ := ob_some hf
          refine g_cv S (runV (As := [.int v2, .int 0]) (rest := []) X S coX13_297 (by decide) (cX13_readDigits_m l hc) (tkX13_readDigits hc) rfl hl.1 (by decide) rfl ⟨Nat.zero_le _, Nat.zero_le _⟩ dX13_readAt_67) (fun H locs S => ?_)
          refine lv_goto (tgt := 78) X.1 X.2.1 dX13_readAt_70 (by decide) ?_
          cases hf; exact g_rv X S hr hlk dX13_readAt_78
      · replace hf := (if_neg c8).symm.trans hf
        refine g_aload_n X (or_rv _) dX13_readAt_46 rfl (lv_at hl 1 rfl) ?_
        refine lv_iload_n X.1 X.2.1 dX13_readAt_47 rfl (lv_at hl 0 rfl) ?_
        refine lv_iconst (v := 1) X.1 X.2.1 dX13_readAt_48 (by decide) ?_
        obtain ⟨h, hc, hf⟩ := ob_some hf
        refine g_cv S (runV (As := [.int v2, .int 1]) (rest := []) X S coX13_297 (by decide) (cX13_readDigits_m l hc) (tkX13_readDigits hc) rfl hl.1 (by decide) rfl ⟨Nat.zero_le _, Nat.zero_le _⟩ dX13_readAt_49) (fun H locs S => ?_)
        refine lv_goto (tgt := 78) X.1 X.2.1 dX13_readAt_52 (by decide) ?_
        cases hf; exact g_rv X S hr hlk dX13_readAt_78
    · replace hf := (if_pos c6).symm.trans hf
      refine g_aload_n X (or_rv _) dX13_readAt_29 rfl (lv_at hl 1 rfl) ?_
      refine lv_iload_n X.1 X.2.1 dX13_readAt_30 rfl (lv_at hl 0 rfl) ?_
      obtain ⟨h, hc, hf⟩ := ob_some hf
      refine g_cv S (runV (As := [.int v2]) (rest := []) X S coX13_294 (by decide) (cX13_readHex_m l hc) (tkX13_readHex hc) rfl hl.1 (by decide) rfl ⟨Nat.zero_le _, Nat.zero_le _⟩ dX13_readAt_31) (fun H locs S => ?_)
      refine lv_goto (tgt := 78) X.1 X.2.1 dX13_readAt_34 (by decide) ?_
      cases hf; exact g_rv X S hr hlk dX13_readAt_78
  · replace hf := (if_neg c4).symm.trans hf
    cases hf; exact g_rv X S hr hlk dX13_readAt_20
def fX13_readRegister (a0 : Nat) (h : Hp) : Option (Int32 × Hp) := gd 11 a0 h (ob (fX13_mark a0 37 h) fun h => ob2 (fX13_readNumber a0 0 7 h) fun v2 h => some (v2, h))
theorem tkX13_readRegister {a0 : Nat} {h : Hp} {r9 : Int32 × Hp} (e : fX13_readRegister a0 h = some r9) : hK h a0 = 11 := by
  unfold fX13_readRegister at e
  exact (gd_some e).1
theorem cX13_readRegister_m (l : Launch) {E : EE} {A : Nat → Prop} {a0 : Nat} {h : Hp} {r9 : Int32} {h9 : Hp} (hf : fX13_readRegister a0 h = some (r9, h9)) : Met l yX13_readRegister (wsM yX13_readRegister cX13_readRegister 1 (some .int)) (rmm 12 0 0) (PcE E A h [rv a0]) (Qi E A h9 r9) 0 0 A := by
  refine met_of (by decide +kernel) (by simp [lg_sl, cat_rv, cat_wv, cat_sv, cat_i, cat_l, cat_a]) (fun p e s m args below meth c ls X hr hlk hnm S hl => ?_)
  have hl : lv_has ls 1 [(0, rv a0)] := by simpa [lv_args, cat_rv, cat_wv, cat_sv, cat_i, cat_l, cat_a] using hl
  generalize hH : s.heap = H at S ⊢
  generalize hlo : ([] : List Loc) = locs at S ⊢
  clear hH hlo
  unfold fX13_readRegister at hf
  obtain ⟨hth, hf⟩ := gd_some hf
  refine g_aload_n X (or_rv _) dX13_readRegister_0 rfl (lv_at hl 0 rfl) ?_
  refine lv_bipush (v := 37) X.1 X.2.1 dX13_readRegister_1 (by decide) ?_
  obtain ⟨h, hc, hf⟩ := ob_some hf
  refine g_cv S (runV (As := [.int 37]) (rest := []) X S coX13_277 (by decide) (cX13_mark_m l hc) (tkX13_mark hc) rfl hl.1 (by decide) rfl ⟨Nat.zero_le _, Nat.zero_le _⟩ dX13_readRegister_3) (fun H locs S => ?_)
  refine g_aload_n X (or_rv _) dX13_readRegister_6 rfl (lv_at hl 0 rfl) ?_
  refine lv_iconst (v := 0) X.1 X.2.1 dX13_readRegister_7 (by decide) ?_
  refine lv_bipush (v := 7) X.1 X.2.1 dX13_readRegister_8 (by decide) ?_
  obtain ⟨v2, h, hc, hf⟩ := ob2_some hf
  refine g_ci S (runV (As := [.int 0, .int 7]) (rest := []) X S coX13_291 (by decide) (cX13_readNumber_m l hc) (tkX13_readNumber hc) rfl hl.1 (by decide) rfl ⟨Nat.zero_le _, Nat.zero_le _⟩ dX13_readRegister_10) (fun H locs S => ?_)
  cases hf; exact g_ri X S hr hlk dX13_readRegister_13
def fX13_readAddress_48 (x0 : Nat) (x2 : Int32) (y0 : Int32) (y1 : Int32) (y2 : Nat) (h : Hp) : Option (Hp) := ob (qI y2 y1 y0 h) fun h => ob (gR 11 x0 8 h) fun v1 => ob (qI v1 x2 0 h) fun h => some h
theorem wfX13_readAddress_48 {h9 : Hp} (X : Cx p E A 13 R s m args c cX13_readAddress yX13_readAddress.cls 3) (hr : meth.sig.returnType = none) (hlk : meth.locks = false) (hnm : meth.name = yX13_readAddress.name) :
    ∀ (x0 : Nat) (x2 : Int32) (y0 : Int32) (y1 : Int32) (y2 : Nat) (h : Hp) (H : Heap) (locs : List Loc) (ls : Array Slot), lv_has ls 3 [(0, rv x0), (2, .int x2)] → St E A s h H locs → fX13_readAddress_48 x0 x2 y0 y1 y2 h = some h9 → W p l e R s m args below meth c H locs 0 0 (MQ below (Qv E A h9) args s 0 0 A) (F0 m 48 ls [.int y0, .int y1, rv y2]) := by
  intro x0 x2 y0 y1 y2 h H locs ls hl S hf
  unfold fX13_readAddress_48 at hf
  refine g_qI X S dX13_readAddress_48 hf (fun h H locs hm hf S => ?_)
  refine g_aload_n X (or_rv _) dX13_readAddress_49 rfl (lv_at hl 0 rfl) ?_
  refine g_gR X S foX13_92 dX13_readAddress_50 hf (fun v1 hf => ?_)
  refine lv_iload_n X.1 X.2.1 dX13_readAddress_53 rfl (lv_at hl 1 rfl) ?_
  refine lv_iconst (v := 0) X.1 X.2.1 dX13_readAddress_54 (by decide) ?_
  refine g_qI X S dX13_readAddress_55 hf (fun h H locs hm hf S => ?_)
  cases hf; exact g_rv X S hr hlk dX13_readAddress_56
def fX13_readAddress (a0 : Nat) (a1 : Int32) (h : Hp) : Option (Hp) := gd 11 a0 h (ob (gI 11 a0 14 h) fun v1 => lt ((2 * (60 + v1)) + a1) fun z2 => ob (gR 11 a0 6 h) fun v3 => ob2 (fX13_readNumber a0 0 255 h) fun v4 h => ob (qI v3 z2 v4 h) fun h => ob (gR 11 a0 7 h) fun v5 => ob (fX13_isMarked a0 37 h) fun v6 => if v6 = 0 then fX13_readAddress_48 a0 z2 (-1) z2 v5 h else ob2 (fX13_readRegister a0 h) fun v8 h => fX13_readAddress_48 a0 z2 v8 z2 v5 h)
theorem tkX13_readAddress {a0 : Nat} {a1 : Int32} {h : Hp} {r9 : Hp} (e : fX13_readAddress a0 a1 h = some r9) : hK h a0 = 11 := by
  unfold fX13_readAddress at e
  exact (gd_some e).1
theorem cX13_readAddress_m (l : Launch) {E : EE} {A : Nat → Prop} {a0 : Nat} {a1 : Int32} {h : Hp} {h9 : Hp} (hf : fX13_readAddress a0 a1 h = some h9) : Met l yX13_readAddress (wsM yX13_readAddress cX13_readAddress 3 none) (rmm 13 0 0) (PcE E A h [rv a0, .int a1]) (Qv E A h9) 0 0 A := by
  refine met_of (by decide +kernel) (by simp [lg_sl, cat_rv, cat_wv, cat_sv, cat_i, cat_l, cat_a]) (fun p e s m args below meth c ls X hr hlk hnm S hl => ?_)
  have hl : lv_has ls 3 [(0, rv a0), (1, .int a1)] := by simpa [lv_args, cat_rv, cat_wv, cat_sv, cat_i, cat_l, cat_a] using hl
  generalize hH : s.heap = H at S ⊢
  generalize hlo : ([] : List Loc) = locs at S ⊢
  clear hH hlo
  unfold fX13_readAddress at hf
  obtain ⟨hth, hf⟩ := gd_some hf
  refine lv_iconst (v := 2) X.1 X.2.1 dX13_readAddress_0 (by decide) ?_
  refine lv_bipush (v := 60) X.1 X.2.1 dX13_readAddress_1 (by decide) ?_
  refine g_aload_n X (or_rv _) dX13_readAddress_3 rfl (lv_at hl 0 rfl) ?_
  refine g_gI X S foX13_259 rfl dX13_readAddress_4 hf (fun v1 hf => ?_)
  refine lv_iadd X.1 X.2.1 dX13_readAddress_7 ?_
  refine lv_imul X.1 X.2.1 dX13_readAddress_8 ?_
  refine lv_iload_n X.1 X.2.1 dX13_readAddress_9 rfl (lv_at hl 1 rfl) ?_
  refine lv_iadd X.1 X.2.1 dX13_readAddress_10 ?_
  refine g_lti hf (fun z2 hf => ?_)
  refine lv_istore_n (i := 2) (lv' := [(2, .int z2), (0, rv a0), (1, .int a1)]) X.1 X.2.1 dX13_readAddress_11 rfl hl (by decide) rfl (fun ls hl => ?_)
  refine g_aload_n X (or_rv _) dX13_readAddress_12 rfl (lv_at hl 1 rfl) ?_
  refine g_gR X S foX13_86 dX13_readAddress_13 hf (fun v3 hf => ?_)
  refine lv_iload_n X.1 X.2.1 dX13_readAddress_16 rfl (lv_at hl 0 rfl) ?_
  refine g_aload_n X (or_rv _) dX13_readAddress_17 rfl (lv_at hl 1 rfl) ?_
  refine lv_iconst (v := 0) X.1 X.2.1 dX13_readAddress_18 (by decide) ?_
  refine lv_sipush (v := 255) X.1 X.2.1 dX13_readAddress_19 (by decide) ?_
  obtain ⟨v4, h, hc, hf⟩ := ob2_some hf
  refine g_ci S (runV (As := [.int 0, .int 255]) (rest := [.int z2, rv v3]) X S coX13_291 (by decide) (cX13_readNumber_m l hc) (tkX13_readNumber hc) rfl hl.1 (by simp [cat_rv, cat_wv, cat_sv, cat_i, cat_l, cat_a]) rfl ⟨Nat.zero_le _, Nat.zero_le _⟩ dX13_readAddress_22) (fun H locs S => ?_)
  refine g_qI X S dX13_readAddress_25 hf (fun h H locs hm hf S => ?_)
  refine g_aload_n X (or_rv _) dX13_readAddress_26 rfl (lv_at hl 1 rfl) ?_
  refine g_gR X S foX13_89 dX13_readAddress_27 hf (fun v5 hf => ?_)
  refine lv_iload_n X.1 X.2.1 dX13_readAddress_30 rfl (lv_at hl 0 rfl) ?_
  refine g_aload_n X (or_rv _) dX13_readAddress_31 rfl (lv_at hl 1 rfl) ?_
  refine lv_bipush (v := 37) X.1 X.2.1 dX13_readAddress_32 (by decide) ?_
  obtain ⟨v6, hc, hf⟩ := ob_some hf
  refine g_ci S (runV (As := [.int 37]) (rest := [.int z2, rv v5]) X S coX13_249 (by decide) (cX13_isMarked_m l hc) (tkX13_isMarked hc) rfl hl.1 (by simp [cat_rv, cat_wv, cat_sv, cat_i, cat_l, cat_a]) rfl ⟨Nat.zero_le _, Nat.zero_le _⟩ dX13_readAddress_34) (fun H locs S => ?_)
  refine lv_if_eq (tgt := 47) X.1 X.2.1 dX13_readAddress_37 (by decide) (fun c7 => ?_) (fun c7 => ?_)
  · replace hf := (if_pos c7).symm.trans hf
    refine lv_iconst (v := (-1)) X.1 X.2.1 dX13_readAddress_47 (by decide) ?_
    exact wfX13_readAddress_48 X hr hlk hnm _ _ _ _ _ _ _ _ _ (lv_sub hl [1, 0] rfl) S hf
  · replace hf := (if_neg c7).symm.trans hf
    refine g_aload_n X (or_rv _) dX13_readAddress_40 rfl (lv_at hl 1 rfl) ?_
    obtain ⟨v8, h, hc, hf⟩ := ob2_some hf
    refine g_ci S (runV (As := []) (rest := [.int z2, rv v5]) X S coX13_301 (by decide) (cX13_readRegister_m l hc) (tkX13_readRegister hc) rfl hl.1 (by simp [cat_rv, cat_wv, cat_sv, cat_i, cat_l, cat_a]) rfl ⟨Nat.zero_le _, Nat.zero_le _⟩ dX13_readAddress_41) (fun H locs S => ?_)
    refine lv_goto (tgt := 48) X.1 X.2.1 dX13_readAddress_44 (by decide) ?_
    exact wfX13_readAddress_48 X hr hlk hnm _ _ _ _ _ _ _ _ _ (lv_sub hl [1, 0] rfl) S hf
def fX13_readField (a0 : Nat) (a1 : Int32) (a2 : Int32) (h : Hp) : Option (Hp) := gd 11 a0 h (ob (fX13_readAddress a0 a1 h) fun h => ob (fX13_mark a0 58 h) fun h => ob (gR 11 a0 8 h) fun v3 => ob (gI 11 a0 14 h) fun v4 => ob2 (fX13_readNumber a0 1 a2 h) fun v5 h => ob (qI v3 ((2 * (60 + v4)) + a1) v5 h) fun h => some h)
theorem tkX13_readField {a0 : Nat} {a1 : Int32} {a2 : Int32} {h : Hp} {r9 : Hp} (e : fX13_readField a0 a1 a2 h = some r9) : hK h a0 = 11 := by
  unfold fX13_readField at e
  exact (gd_some e).1
theorem cX13_readField_m (l : Launch) {E : EE} {A : Nat → Prop} {a0 : Nat} {a1 : Int32} {a2 : Int32} {h : Hp} {h9 : Hp} (hf : fX13_readField a0 a1 a2 h = some h9) : Met l yX13_readField (wsM yX13_readField cX13_readField 3 none) (rmm 14 0 0) (PcE E A h [rv a0, .int a1, .int a2]) (Qv E A h9) 0 0 A := by
  refine met_of (by decide +kernel) (by simp [lg_sl, cat_rv, cat_wv, cat_sv, cat_i, cat_l, cat_a]) (fun p e s m args below meth c ls X hr hlk hnm S hl => ?_)
  have hl : lv_has ls 3 [(0, rv a0), (1, .int a1), (2, .int a2)] := by simpa [lv_args, cat_rv, cat_wv, cat_sv, cat_i, cat_l, cat_a] using hl
  generalize hH : s.heap = H at S ⊢
  generalize hlo : ([] : List Loc) = locs at S ⊢
  clear hH hlo
  unfold fX13_readField at hf
  obtain ⟨hth, hf⟩ := gd_some hf
  refine g_aload_n X (or_rv _) dX13_readField_0 rfl (lv_at hl 0 rfl) ?_
  refine lv_iload_n X.1 X.2.1 dX13_readField_1 rfl (lv_at hl 1 rfl) ?_
  obtain ⟨h, hc, hf⟩ := ob_some hf
  refine g_cv S (runV (As := [.int a1]) (rest := []) X S coX13_304 (by decide) (cX13_readAddress_m l hc) (tkX13_readAddress hc) rfl hl.1 (by decide) rfl ⟨Nat.zero_le _, Nat.zero_le _⟩ dX13_readField_2) (fun H locs S => ?_)
  refine g_aload_n X (or_rv _) dX13_readField_5 rfl (lv_at hl 0 rfl) ?_
  refine lv_bipush (v := 58) X.1 X.2.1 dX13_readField_6 (by decide) ?_
  obtain ⟨h, hc, hf⟩ := ob_some hf
  refine g_cv S (runV (As := [.int 58]) (rest := []) X S coX13_277 (by decide) (cX13_mark_m l hc) (tkX13_mark hc) rfl hl.1 (by decide) rfl ⟨Nat.zero_le _, Nat.zero_le _⟩ dX13_readField_8) (fun H locs S => ?_)
  refine g_aload_n X (or_rv _) dX13_readField_11 rfl (lv_at hl 0 rfl) ?_
  refine g_gR X S foX13_92 dX13_readField_12 hf (fun v3 hf => ?_)
  refine lv_iconst (v := 2) X.1 X.2.1 dX13_readField_15 (by decide) ?_
  refine lv_bipush (v := 60) X.1 X.2.1 dX13_readField_16 (by decide) ?_
  refine g_aload_n X (or_rv _) dX13_readField_18 rfl (lv_at hl 0 rfl) ?_
  refine g_gI X S foX13_259 rfl dX13_readField_19 hf (fun v4 hf => ?_)
  refine lv_iadd X.1 X.2.1 dX13_readField_22 ?_
  refine lv_imul X.1 X.2.1 dX13_readField_23 ?_
  refine lv_iload_n X.1 X.2.1 dX13_readField_24 rfl (lv_at hl 1 rfl) ?_
  refine lv_iadd X.1 X.2.1 dX13_readField_25 ?_
  refine g_aload_n X (or_rv _) dX13_readField_26 rfl (lv_at hl 0 rfl) ?_
  refine lv_iconst (v := 1) X.1 X.2.1 dX13_readField_27 (by decide) ?_
  refine lv_iload_n X.1 X.2.1 dX13_readField_28 rfl (lv_at hl 2 rfl) ?_
  obtain ⟨v5, h, hc, hf⟩ := ob2_some hf
  refine g_ci S (runV (As := [.int 1, .int a2]) (rest := [.int ((2 * (60 + v4)) + a1), rv v3]) X S coX13_291 (by decide) (cX13_readNumber_m l hc) (tkX13_readNumber hc) rfl hl.1 (by simp [cat_rv, cat_wv, cat_sv, cat_i, cat_l, cat_a]) rfl ⟨Nat.zero_le _, Nat.zero_le _⟩ dX13_readField_29) (fun H locs S => ?_)
  refine g_qI X S dX13_readField_32 hf (fun h H locs hm hf S => ?_)
  cases hf; exact g_rv X S hr hlk dX13_readField_33
end GM
