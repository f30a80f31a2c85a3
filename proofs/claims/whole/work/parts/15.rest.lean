section GM
variable {p : Program} {l : Launch} {e : Env} {R : Room} {s : State} {m : MethodId} {args : Array Value} {below : List Frame} {meth : Method} {c : Code} {E : EE} {A : Nat → Prop}
def fX12_append_3 (k3 : Nat → Int32 → Int32 → Hp → Option (Hp)) (x0 : Nat) (x1 : Int32) (x2 : Int32) (h : Hp) : Option (Hp) := if x2 < 0 then some h else ob (gI 10 x0 1 h) fun v2 => if 700 ≤ v2 then some h else ob (gR 10 x0 0 h) fun v4 => ob (gI 10 x0 1 h) fun v5 => ob (qI v4 v5 ((ius x1 x2) &&& 255) h) fun h => ob (gI 10 x0 1 h) fun v6 => ob (pI 10 x0 1 (v6 + 1) h) fun h => lt (x2 + (-8)) fun z7 => k3 x0 x1 z7 h
theorem wfX12_append_3 {k3 : Nat → Int32 → Int32 → Hp → Option (Hp)} {h9 : Hp} (X : Cx p E A 8 R s m args c cX12_append yX12_append.cls 3) (hr : meth.sig.returnType = none) (hlk : meth.locks = false) (hnm : meth.name = yX12_append.name) (hk3 : ∀ (x0 : Nat) (x1 : Int32) (x2 : Int32) (h : Hp) (H : Heap) (locs : List Loc) (ls : Array Slot), lv_has ls 3 [(0, rv x0), (1, .int x1), (2, .int x2)] → St E A s h H locs → k3 x0 x1 x2 h = some h9 → W p l e R s m args below meth c H locs 0 0 (MQ below (Qv E A h9) args s 0 0 A) (F0 m 3 ls [])) :
    ∀ (x0 : Nat) (x1 : Int32) (x2 : Int32) (h : Hp) (H : Heap) (locs : List Loc) (ls : Array Slot), lv_has ls 3 [(0, rv x0), (1, .int x1), (2, .int x2)] → St E A s h H locs → fX12_append_3 k3 x0 x1 x2 h = some h9 → W p l e R s m args below meth c H locs 0 0 (MQ below (Qv E A h9) args s 0 0 A) (F0 m 3 ls []) := by
  intro x0 x1 x2 h H locs ls hl S hf
  unfold fX12_append_3 at hf
  refine lv_iload_n X.1 X.2.1 dX12_append_3 rfl (lv_at hl 2 rfl) ?_
  refine lv_if_lt (tgt := 49) X.1 X.2.1 dX12_append_4 (by decide) (fun c1 => ?_) (fun c1 => ?_)
  · replace hf := (if_pos c1).symm.trans hf
    cases hf; exact g_rv X S hr hlk dX12_append_49
  · replace hf := (if_neg c1).symm.trans hf
    refine g_aload_n X (or_rv _) dX12_append_7 rfl (lv_at hl 0 rfl) ?_
    refine g_gI X S foX12_65 rfl dX12_append_8 hf (fun v2 hf => ?_)
    refine lv_sipush (v := 700) X.1 X.2.1 dX12_append_11 (by decide) ?_
    refine lv_icmp_ge (tgt := 49) X.1 X.2.1 dX12_append_14 (by decide) (fun c3 => ?_) (fun c3 => ?_)
    · replace hf := (if_pos c3).symm.trans hf
      cases hf; exact g_rv X S hr hlk dX12_append_49
    · replace hf := (if_neg c3).symm.trans hf
      refine g_aload_n X (or_rv _) dX12_append_17 rfl (lv_at hl 0 rfl) ?_
      refine g_gR X S foX12_9 dX12_append_18 hf (fun v4 hf => ?_)
      refine g_aload_n X (or_rv _) dX12_append_21 rfl (lv_at hl 0 rfl) ?_
      refine g_gI X S foX12_65 rfl dX12_append_22 hf (fun v5 hf => ?_)
      refine lv_iload_n X.1 X.2.1 dX12_append_25 rfl (lv_at hl 1 rfl) ?_
      refine lv_iload_n X.1 X.2.1 dX12_append_26 rfl (lv_at hl 2 rfl) ?_
      refine lv_iushr (v := ius x1 x2) X.1 X.2.1 dX12_append_27 rfl ?_
      refine lv_sipush (v := 255) X.1 X.2.1 dX12_append_28 (by decide) ?_
      refine lv_iand X.1 X.2.1 dX12_append_31 ?_
      refine g_qI X S dX12_append_32 hf (fun h H locs hm hf S => ?_)
      refine g_aload_n X (or_rv _) dX12_append_33 rfl (lv_at hl 0 rfl) ?_
      refine lv_dup X.1 X.2.1 dX12_append_34 (cat_rv _) ?_
      refine g_gI X S foX12_65 rfl dX12_append_35 hf (fun v6 hf => ?_)
      refine lv_iconst (v := 1) X.1 X.2.1 dX12_append_38 (by decide) ?_
      refine lv_iadd X.1 X.2.1 dX12_append_39 ?_
      refine g_pI X S fpX12_65 (Or.inl rfl) dX12_append_40 hf (fun h H locs hm hf S => ?_)
      obtain ⟨z7, ez7, hf⟩ := lt_some hf
      refine lv_iinc (v := z7) (lv' := [(2, .int z7), (0, rv x0), (1, .int x1)]) X.1 X.2.1 dX12_append_43 hl (k := 2) rfl (by rw [← ez7]; rfl) (by decide) rfl (fun ls hl => ?_)
      refine lv_goto (tgt := 3) X.1 X.2.1 dX12_append_46 (by decide) ?_
      exact hk3 _ _ _ _ _ _ _ (lv_sub hl [1, 2, 0] rfl) S hf
theorem wfX12_append_3_l {h9 : Hp} (X : Cx p E A 8 R s m args c cX12_append yX12_append.cls 3) (hr : meth.sig.returnType = none) (hlk : meth.locks = false) (hnm : meth.name = yX12_append.name) :
    ∀ (n : Nat) (x0 : Nat) (x1 : Int32) (x2 : Int32) (h : Hp) (H : Heap) (locs : List Loc) (ls : Array Slot), lv_has ls 3 [(0, rv x0), (1, .int x1), (2, .int x2)] → St E A s h H locs → lp (fun _ _ _ _ => none) (fX12_append_3) n x0 x1 x2 h = some h9 → W p l e R s m args below meth c H locs 0 0 (MQ below (Qv E A h9) args s 0 0 A) (F0 m 3 ls []) := by
  intro n
  induction n with
  | zero =>
    intro x0 x1 x2 h H locs ls hl S hf
    exact nomatch hf
  | succ n ih =>
    intro x0 x1 x2 h H locs ls hl S hf
    exact wfX12_append_3 X hr hlk hnm ih x0 x1 x2 h H locs ls hl S hf
def fX12_append (a0 : Nat) (a1 : Int32) (h : Hp) : Option (Hp) := gd 10 a0 h (lp (fun _ _ _ _ => none) (fX12_append_3) FU a0 a1 24 h)
theorem tkX12_append {a0 : Nat} {a1 : Int32} {h : Hp} {r9 : Hp} (e : fX12_append a0 a1 h = some r9) : hK h a0 = 10 := by
  unfold fX12_append at e
  exact (gd_some e).1
theorem cX12_append_m (l : Launch) {E : EE} {A : Nat → Prop} {a0 : Nat} {a1 : Int32} {h : Hp} {h9 : Hp} (hf : fX12_append a0 a1 h = some h9) : Met l yX12_append (wsM yX12_append cX12_append 3 none) (rmm 8 0 0) (PcE E A h [rv a0, .int a1]) (Qv E A h9) 0 0 A := by
  refine met_of (by decide +kernel) (by simp [lg_sl, cat_rv, cat_wv, cat_sv, cat_i, cat_l, cat_a]) (fun p e s m args below meth c ls X hr hlk hnm S hl => ?_)
  have hl : lv_has ls 3 [(0, rv a0), (1, .int a1)] := by simpa [lv_args, cat_rv, cat_wv, cat_sv, cat_i, cat_l, cat_a] using hl
  generalize hH : s.heap = H at S ⊢
  generalize hlo : ([] : List Loc) = locs at S ⊢
  clear hH hlo
  unfold fX12_append at hf
  obtain ⟨hth, hf⟩ := gd_some hf
  refine lv_bipush (v := 24) X.1 X.2.1 dX12_append_0 (by decide) ?_
  refine lv_istore_n (i := 2) (lv' := [(2, .int 24), (0, rv a0), (1, .int a1)]) X.1 X.2.1 dX12_append_2 rfl hl (by decide) rfl (fun ls hl => ?_)
  exact wfX12_append_3_l X hr hlk hnm FU _ _ _ _ _ _ _ (lv_sub hl [1, 2, 0] rfl) S hf
def fX12_feed (a0 : Nat) (a1 : Int32) (a2 : Int32) (a3 : Int32) (a4 : Int32) (a5 : Int32) (h : Hp) : Option (Int32 × Hp) := gd 10 a0 h (ob (gI 10 a0 1 h) fun v1 => if v1 ≤ 680 then ob (fX12_append a0 a1 h) fun h => ob (fX12_append a0 a2 h) fun h => ob (fX12_append a0 a3 h) fun h => ob (fX12_append a0 a4 h) fun h => ob (fX12_append a0 a5 h) fun h => ob (gI 10 a0 1 h) fun v8 => some (v8, h) else some ((-1), h))
theorem tkX12_feed {a0 : Nat} {a1 : Int32} {a2 : Int32} {a3 : Int32} {a4 : Int32} {a5 : Int32} {h : Hp} {r9 : Int32 × Hp} (e : fX12_feed a0 a1 a2 a3 a4 a5 h = some r9) : hK h a0 = 10 := by
  unfold fX12_feed at e
  exact (gd_some e).1
theorem cX12_feed_m (l : Launch) {E : EE} {A : Nat → Prop} {a0 : Nat} {a1 : Int32} {a2 : Int32} {a3 : Int32} {a4 : Int32} {a5 : Int32} {h : Hp} {r9 : Int32} {h9 : Hp} (hf : fX12_feed a0 a1 a2 a3 a4 a5 h = some (r9, h9)) : Met l yX12_feed (wsM yX12_feed cX12_feed 6 (some .int)) (rmm 9 0 0) (PcE E A h [rv a0, .int a1, .int a2, .int a3, .int a4, .int a5]) (Qi E A h9 r9) 0 0 A := by
  refine met_of (by decide +kernel) (by simp [lg_sl, cat_rv, cat_wv, cat_sv, cat_i, cat_l, cat_a]) (fun p e s m args below meth c ls X hr hlk hnm S hl => ?_)
  have hl : lv_has ls 6 [(0, rv a0), (1, .int a1), (2, .int a2), (3, .int a3), (4, .int a4), (5, .int a5)] := by simpa [lv_args, cat_rv, cat_wv, cat_sv, cat_i, cat_l, cat_a] using hl
  generalize hH : s.heap = H at S ⊢
  generalize hlo : ([] : List Loc) = locs at S ⊢
  clear hH hlo
  unfold fX12_feed at hf
  obtain ⟨hth, hf⟩ := gd_some hf
  refine g_aload_n X (or_rv _) dX12_feed_0 rfl (lv_at hl 0 rfl) ?_
  refine g_gI X S foX12_65 rfl dX12_feed_1 hf (fun v1 hf => ?_)
  refine lv_sipush (v := 680) X.1 X.2.1 dX12_feed_4 (by decide) ?_
  refine lv_icmp_le (tgt := 12) X.1 X.2.1 dX12_feed_7 (by decide) (fun c2 => ?_) (fun c2 => ?_)
  · replace hf := (if_pos c2).symm.trans hf
    refine g_aload_n X (or_rv _) dX12_feed_12 rfl (lv_at hl 0 rfl) ?_
    refine lv_iload_n X.1 X.2.1 dX12_feed_13 rfl (lv_at hl 1 rfl) ?_
    obtain ⟨h, hc, hf⟩ := ob_some hf
    refine g_cv S (runV (As := [.int a1]) (rest := []) X S coX12_68 (by decide) (cX12_append_m l hc) (tkX12_append hc) rfl hl.1 (by decide) rfl ⟨Nat.zero_le _, Nat.zero_le _⟩ dX12_feed_14) (fun H locs S => ?_)
    refine g_aload_n X (or_rv _) dX12_feed_17 rfl (lv_at hl 0 rfl) ?_
    refine lv_iload_n X.1 X.2.1 dX12_feed_18 rfl (lv_at hl 2 rfl) ?_
    obtain ⟨h, hc, hf⟩ := ob_some hf
    refine g_cv S (runV (As := [.int a2]) (rest := []) X S coX12_68 (by decide) (cX12_append_m l hc) (tkX12_append hc) rfl hl.1 (by decide) rfl ⟨Nat.zero_le _, Nat.zero_le _⟩ dX12_feed_19) (fun H locs S => ?_)
    refine g_aload_n X (or_rv _) dX12_feed_22 rfl (lv_at hl 0 rfl) ?_
    refine lv_iload_n X.1 X.2.1 dX12_feed_23 rfl (lv_at hl 3 rfl) ?_
    obtain ⟨h, hc, hf⟩ := ob_some hf
    refine g_cv S (runV (As := [.int a3]) (rest := []) X S coX12_68 (by decide) (cX12_append_m l hc) (tkX12_append hc) rfl hl.1 (by decide) rfl ⟨Nat.zero_le _, Nat.zero_le _⟩ dX12_feed_24) (fun H locs S => ?_)
    refine g_aload_n X (or_rv _) dX12_feed_27 rfl (lv_at hl 0 rfl) ?_
    refine lv_iload X.1 X.2.1 dX12_feed_28 (lv_at hl 4 rfl) ?_
    obtain ⟨h, hc, hf⟩ := ob_some hf
    refine g_cv S (runV (As := [.int a4]) (rest := []) X S coX12_68 (by decide) (cX12_append_m l hc) (tkX12_append hc) rfl hl.1 (by decide) rfl ⟨Nat.zero_le _, Nat.zero_le _⟩ dX12_feed_30) (fun H locs S => ?_)
    refine g_aload_n X (or_rv _) dX12_feed_33 rfl (lv_at hl 0 rfl) ?_
    refine lv_iload X.1 X.2.1 dX12_feed_34 (lv_at hl 5 rfl) ?_
    obtain ⟨h, hc, hf⟩ := ob_some hf
    refine g_cv S (runV (As := [.int a5]) (rest := []) X S coX12_68 (by decide) (cX12_append_m l hc) (tkX12_append hc) rfl hl.1 (by decide) rfl ⟨Nat.zero_le _, Nat.zero_le _⟩ dX12_feed_36) (fun H locs S => ?_)
    refine g_aload_n X (or_rv _) dX12_feed_39 rfl (lv_at hl 0 rfl) ?_
    refine g_gI X S foX12_65 rfl dX12_feed_40 hf (fun v8 hf => ?_)
    cases hf; exact g_ri X S hr hlk dX12_feed_43
  · replace hf := (if_neg c2).symm.trans hf
    refine lv_iconst (v := (-1)) X.1 X.2.1 dX12_feed_10 (by decide) ?_
    cases hf; exact g_ri X S hr hlk dX12_feed_11
def fX2_refuse (a0 : Nat) (a1 : Int32) (h : Hp) : Option (Hp) := gd 2 a0 h (if a1 < 0 then some h else ob (gR 2 a0 6 h) fun v2 => ob (aN 101 v2 h) fun v3 => if v3 ≤ a1 then some h else ob (gR 2 a0 6 h) fun v5 => ob (aI v5 a1 h) fun v6 => ob (qI v5 a1 (v6 + 1) h) fun h => some h)
theorem tkX2_refuse {a0 : Nat} {a1 : Int32} {h : Hp} {r9 : Hp} (e : fX2_refuse a0 a1 h = some r9) : hK h a0 = 2 := by
  unfold fX2_refuse at e
  exact (gd_some e).1
theorem cX2_refuse_m (l : Launch) {E : EE} {A : Nat → Prop} {a0 : Nat} {a1 : Int32} {h : Hp} {h9 : Hp} (hf : fX2_refuse a0 a1 h = some h9) : Met l yX2_refuse (wsM yX2_refuse cX2_refuse 2 none) (rmm 8 0 0) (PcE E A h [rv a0, .int a1]) (Qv E A h9) 0 0 A := by
  refine met_of (by decide +kernel) (by simp [lg_sl, cat_rv, cat_wv, cat_sv, cat_i, cat_l, cat_a]) (fun p e s m args below meth c ls X hr hlk hnm S hl => ?_)
  have hl : lv_has ls 2 [(0, rv a0), (1, .int a1)] := by simpa [lv_args, cat_rv, cat_wv, cat_sv, cat_i, cat_l, cat_a] using hl
  generalize hH : s.heap = H at S ⊢
  generalize hlo : ([] : List Loc) = locs at S ⊢
  clear hH hlo
  unfold fX2_refuse at hf
  obtain ⟨hth, hf⟩ := gd_some hf
  refine lv_iload_n X.1 X.2.1 dX2_refuse_0 rfl (lv_at hl 1 rfl) ?_
  refine lv_if_lt (tgt := 23) X.1 X.2.1 dX2_refuse_1 (by decide) (fun c1 => ?_) (fun c1 => ?_)
  · replace hf := (if_pos c1).symm.trans hf
    cases hf; exact g_rv X S hr hlk dX2_refuse_23
  · replace hf := (if_neg c1).symm.trans hf
    refine lv_iload_n X.1 X.2.1 dX2_refuse_4 rfl (lv_at hl 1 rfl) ?_
    refine g_aload_n X (or_rv _) dX2_refuse_5 rfl (lv_at hl 0 rfl) ?_
    refine g_gR X S foX2_26 dX2_refuse_6 hf (fun v2 hf => ?_)
    refine g_aN X S (by decide) dX2_refuse_9 hf (fun v3 hf => ?_)
    refine lv_icmp_ge (tgt := 23) X.1 X.2.1 dX2_refuse_10 (by decide) (fun c4 => ?_) (fun c4 => ?_)
    · replace hf := (if_pos c4).symm.trans hf
      cases hf; exact g_rv X S hr hlk dX2_refuse_23
    · replace hf := (if_neg c4).symm.trans hf
      refine g_aload_n X (or_rv _) dX2_refuse_13 rfl (lv_at hl 0 rfl) ?_
      refine g_gR X S foX2_26 dX2_refuse_14 hf (fun v5 hf => ?_)
      refine lv_iload_n X.1 X.2.1 dX2_refuse_17 rfl (lv_at hl 1 rfl) ?_
      refine lv_dup2_11 X.1 X.2.1 dX2_refuse_18 rfl (cat_rv _) ?_
      refine g_aI X S dX2_refuse_19 hf (fun v6 hf => ?_)
      refine lv_iconst (v := 1) X.1 X.2.1 dX2_refuse_20 (by decide) ?_
      refine lv_iadd X.1 X.2.1 dX2_refuse_21 ?_
      refine g_qI X S dX2_refuse_22 hf (fun h H locs hm hf S => ?_)
      cases hf; exact g_rv X S hr hlk dX2_refuse_23
def fX2_renew (a0 : Nat) (a1 : Nat) (h : Hp) : Option (Hp) := gd 2 a0 h (ob (gR 2 a0 0 h) fun v1 => ob (fX10_renew v1 a1 h) fun h => ob (pI 2 a0 2 0 h) fun h => ob (pI 2 a0 3 0 h) fun h => ob (pI 2 a0 5 0 h) fun h => some h)
theorem tkX2_renew {a0 : Nat} {a1 : Nat} {h : Hp} {r9 : Hp} (e : fX2_renew a0 a1 h = some r9) : hK h a0 = 2 := by
  unfold fX2_renew at e
  exact (gd_some e).1
theorem cX2_renew_m (l : Launch) {E : EE} {A : Nat → Prop} {a0 : Nat} {a1 : Nat} {h : Hp} {h9 : Hp} (hf : fX2_renew a0 a1 h = some h9) : Met l yX2_renew (wsM yX2_renew cX2_renew 2 none) (rmm 12 0 0) (PcE E A h [rv a0, rv a1]) (Qv E A h9) 0 0 A := by
  refine met_of (by decide +kernel) (by simp [lg_sl, cat_rv, cat_wv, cat_sv, cat_i, cat_l, cat_a]) (fun p e s m args below meth c ls X hr hlk hnm S hl => ?_)
  have hl : lv_has ls 2 [(0, rv a0), (1, rv a1)] := by simpa [lv_args, cat_rv, cat_wv, cat_sv, cat_i, cat_l, cat_a] using hl
  generalize hH : s.heap = H at S ⊢
  generalize hlo : ([] : List Loc) = locs at S ⊢
  clear hH hlo
  unfold fX2_renew at hf
  obtain ⟨hth, hf⟩ := gd_some hf
  refine g_aload_n X (or_rv _) dX2_renew_0 rfl (lv_at hl 0 rfl) ?_
  refine g_gR X S foX2_12 dX2_renew_1 hf (fun v1 hf => ?_)
  refine g_aload_n X (or_rv _) dX2_renew_4 rfl (lv_at hl 1 rfl) ?_
  obtain ⟨h, hc, hf⟩ := ob_some hf
  refine g_cv S (runV (As := [rv a1]) (rest := []) X S coX2_57 (by decide) (cX10_renew_m l hc) (tkX10_renew hc) rfl hl.1 (by decide) rfl ⟨Nat.zero_le _, Nat.zero_le _⟩ dX2_renew_5) (fun H locs S => ?_)
  refine g_aload_n X (or_rv _) dX2_renew_8 rfl (lv_at hl 0 rfl) ?_
  refine lv_iconst (v := 0) X.1 X.2.1 dX2_renew_9 (by decide) ?_
  refine g_pI X S fpX2_36 (Or.inl rfl) dX2_renew_10 hf (fun h H locs hm hf S => ?_)
  refine g_aload_n X (or_rv _) dX2_renew_13 rfl (lv_at hl 0 rfl) ?_
  refine lv_iconst (v := 0) X.1 X.2.1 dX2_renew_14 (by decide) ?_
  refine g_pI X S fpX2_29 (Or.inl rfl) dX2_renew_15 hf (fun h H locs hm hf S => ?_)
  refine g_aload_n X (or_rv _) dX2_renew_18 rfl (lv_at hl 0 rfl) ?_
  refine lv_iconst (v := 0) X.1 X.2.1 dX2_renew_19 (by decide) ?_
  refine g_pI X S fpX2_33 (Or.inl rfl) dX2_renew_20 hf (fun h H locs hm hf S => ?_)
  cases hf; exact g_rv X S hr hlk dX2_renew_23
def fX12_fault (a0 : Nat) (h : Hp) : Option (Int32) := gd 10 a0 h (ob (gI 10 a0 2 h) fun v1 => some v1)
theorem tkX12_fault {a0 : Nat} {h : Hp} {r9 : Int32} (e : fX12_fault a0 h = some r9) : hK h a0 = 10 := by
  unfold fX12_fault at e
  exact (gd_some e).1
theorem cX12_fault_m (l : Launch) {E : EE} {A : Nat → Prop} {a0 : Nat} {h : Hp} {r9 : Int32} (hf : fX12_fault a0 h = some r9) : Met l yX12_fault (wsM yX12_fault cX12_fault 1 (some .int)) (rmm 8 0 0) (PcE E A h [rv a0]) (Qi E A h r9) 0 0 A := by
  refine met_of (by decide +kernel) (by simp [lg_sl, cat_rv, cat_wv, cat_sv, cat_i, cat_l, cat_a]) (fun p e s m args below meth c ls X hr hlk hnm S hl => ?_)
  have hl : lv_has ls 1 [(0, rv a0)] := by simpa [lv_args, cat_rv, cat_wv, cat_sv, cat_i, cat_l, cat_a] using hl
  generalize hH : s.heap = H at S ⊢
  generalize hlo : ([] : List Loc) = locs at S ⊢
  clear hH hlo
  unfold fX12_fault at hf
  obtain ⟨hth, hf⟩ := gd_some hf
  refine g_aload_n X (or_rv _) dX12_fault_0 rfl (lv_at hl 0 rfl) ?_
  refine g_gI X S foX12_13 rfl dX12_fault_1 hf (fun v1 hf => ?_)
  cases hf; exact g_ri X S hr hlk dX12_fault_4
def fX12_instructions (a0 : Nat) (h : Hp) : Option (Int32) := gd 10 a0 h (ob (gR 10 a0 5 h) fun v1 => ob (gR 4 v1 0 h) fun v2 => ob (fX9_instructions v2 h) fun v3 => some v3)
theorem tkX12_instructions {a0 : Nat} {h : Hp} {r9 : Int32} (e : fX12_instructions a0 h = some r9) : hK h a0 = 10 := by
  unfold fX12_instructions at e
  exact (gd_some e).1
theorem cX12_instructions_m (l : Launch) {E : EE} {A : Nat → Prop} {a0 : Nat} {h : Hp} {r9 : Int32} (hf : fX12_instructions a0 h = some r9) : Met l yX12_instructions (wsM yX12_instructions cX12_instructions 1 (some .int)) (rmm 10 0 0) (PcE E A h [rv a0]) (Qi E A h r9) 0 0 A := by
  refine met_of (by decide +kernel) (by simp [lg_sl, cat_rv, cat_wv, cat_sv, cat_i, cat_l, cat_a]) (fun p e s m args below meth c ls X hr hlk hnm S hl => ?_)
  have hl : lv_has ls 1 [(0, rv a0)] := by simpa [lv_args, cat_rv, cat_wv, cat_sv, cat_i, cat_l, cat_a] using hl
  generalize hH : s.heap = H at S ⊢
  generalize hlo : ([] : List Loc) = locs at S ⊢
  clear hH hlo
  unfold fX12_instructions at hf
  obtain ⟨hth, hf⟩ := gd_some hf
  refine g_aload_n X (or_rv _) dX12_instructions_0 rfl (lv_at hl 0 rfl) ?_
  refine g_gR X S foX12_34 dX12_instructions_1 hf (fun v1 hf => ?_)
  refine g_gR X S foX12_93 dX12_instructions_4 hf (fun v2 hf => ?_)
  obtain ⟨v3, hc, hf⟩ := ob_some hf
  refine g_ci S (runV (As := []) (rest := []) X S coX12_302 (by decide) (cX9_instructions_m l hc) (tkX9_instructions hc) rfl hl.1 (by decide) rfl ⟨Nat.zero_le _, Nat.zero_le _⟩ dX12_instructions_7) (fun H locs S => ?_)
  cases hf; exact g_ri X S hr hlk dX12_instructions_10
def fX2_kept (a0 : Nat) (h : Hp) : Option (Int32) := gd 2 a0 h (ob (gI 2 a0 3 h) fun v1 => some v1)
theorem tkX2_kept {a0 : Nat} {h : Hp} {r9 : Int32} (e : fX2_kept a0 h = some r9) : hK h a0 = 2 := by
  unfold fX2_kept at e
  exact (gd_some e).1
theorem cX2_kept_m (l : Launch) {E : EE} {A : Nat → Prop} {a0 : Nat} {h : Hp} {r9 : Int32} (hf : fX2_kept a0 h = some r9) : Met l yX2_kept (wsM yX2_kept cX2_kept 1 (some .int)) (rmm 8 0 0) (PcE E A h [rv a0]) (Qi E A h r9) 0 0 A := by
  refine met_of (by decide +kernel) (by simp [lg_sl, cat_rv, cat_wv, cat_sv, cat_i, cat_l, cat_a]) (fun p e s m args below meth c ls X hr hlk hnm S hl => ?_)
  have hl : lv_has ls 1 [(0, rv a0)] := by simpa [lv_args, cat_rv, cat_wv, cat_sv, cat_i, cat_l, cat_a] using hl
  generalize hH : s.heap = H at S ⊢
  generalize hlo : ([] : List Loc) = locs at S ⊢
  clear hH hlo
  unfold fX2_kept at hf
  obtain ⟨hth, hf⟩ := gd_some hf
  refine g_aload_n X (or_rv _) dX2_kept_0 rfl (lv_at hl 0 rfl) ?_
  refine g_gI X S foX2_29 rfl dX2_kept_1 hf (fun v1 hf => ?_)
  cases hf; exact g_ri X S hr hlk dX2_kept_4
def fX2_noted (a0 : Nat) (h : Hp) : Option (Int32) := gd 2 a0 h (ob (gI 2 a0 5 h) fun v1 => some v1)
theorem tkX2_noted {a0 : Nat} {h : Hp} {r9 : Int32} (e : fX2_noted a0 h = some r9) : hK h a0 = 2 := by
  unfold fX2_noted at e
  exact (gd_some e).1
theorem cX2_noted_m (l : Launch) {E : EE} {A : Nat → Prop} {a0 : Nat} {h : Hp} {r9 : Int32} (hf : fX2_noted a0 h = some r9) : Met l yX2_noted (wsM yX2_noted cX2_noted 1 (some .int)) (rmm 8 0 0) (PcE E A h [rv a0]) (Qi E A h r9) 0 0 A := by
  refine met_of (by decide +kernel) (by simp [lg_sl, cat_rv, cat_wv, cat_sv, cat_i, cat_l, cat_a]) (fun p e s m args below meth c ls X hr hlk hnm S hl => ?_)
  have hl : lv_has ls 1 [(0, rv a0)] := by simpa [lv_args, cat_rv, cat_wv, cat_sv, cat_i, cat_l, cat_a] using hl
  generalize hH : s.heap = H at S ⊢
  generalize hlo : ([] : List Loc) = locs at S ⊢
  clear hH hlo
  unfold fX2_noted at hf
  obtain ⟨hth, hf⟩ := gd_some hf
  refine g_aload_n X (or_rv _) dX2_noted_0 rfl (lv_at hl 0 rfl) ?_
  refine g_gI X S foX2_33 rfl dX2_noted_1 hf (fun v1 hf => ?_)
  cases hf; exact g_ri X S hr hlk dX2_noted_4
def fX2_refused (a0 : Nat) (a1 : Int32) (h : Hp) : Option (Int32) := gd 2 a0 h (if a1 < 0 then some 0 else ob (gR 2 a0 6 h) fun v2 => ob (aN 101 v2 h) fun v3 => if v3 ≤ a1 then some 0 else ob (gR 2 a0 6 h) fun v5 => ob (aI v5 a1 h) fun v6 => some v6)
theorem tkX2_refused {a0 : Nat} {a1 : Int32} {h : Hp} {r9 : Int32} (e : fX2_refused a0 a1 h = some r9) : hK h a0 = 2 := by
  unfold fX2_refused at e
  exact (gd_some e).1
theorem cX2_refused_m (l : Launch) {E : EE} {A : Nat → Prop} {a0 : Nat} {a1 : Int32} {h : Hp} {r9 : Int32} (hf : fX2_refused a0 a1 h = some r9) : Met l yX2_refused (wsM yX2_refused cX2_refused 2 (some .int)) (rmm 8 0 0) (PcE E A h [rv a0, .int a1]) (Qi E A h r9) 0 0 A := by
  refine met_of (by decide +kernel) (by simp [lg_sl, cat_rv, cat_wv, cat_sv, cat_i, cat_l, cat_a]) (fun p e s m args below meth c ls X hr hlk hnm S hl => ?_)
  have hl : lv_has ls 2 [(0, rv a0), (1, .int a1)] := by simpa [lv_args, cat_rv, cat_wv, cat_sv, cat_i, cat_l, cat_a] using hl
  generalize hH : s.heap = H at S ⊢
  generalize hlo : ([] : List Loc) = locs at S ⊢
  clear hH hlo
  unfold fX2_refused at hf
  obtain ⟨hth, hf⟩ := gd_some hf
  refine lv_iload_n X.1 X.2.1 dX2_refused_0 rfl (lv_at hl 1 rfl) ?_
  refine lv_if_lt (tgt := 22) X.1 X.2.1 dX2_refused_1 (by decide) (fun c1 => ?_) (fun c1 => ?_)
  · replace hf := (if_pos c1).symm.trans hf
    refine lv_iconst (v := 0) X.1 X.2.1 dX2_refused_22 (by decide) ?_
    cases hf; exact g_ri X S hr hlk dX2_refused_23
  · replace hf := (if_neg c1).symm.trans hf
    refine lv_iload_n X.1 X.2.1 dX2_refused_4 rfl (lv_at hl 1 rfl) ?_
    refine g_aload_n X (or_rv _) dX2_refused_5 rfl (lv_at hl 0 rfl) ?_
    refine g_gR X S foX2_26 dX2_refused_6 hf (fun v2 hf => ?_)
    refine g_aN X S (by decide) dX2_refused_9 hf (fun v3 hf => ?_)
    refine lv_icmp_ge (tgt := 22) X.1 X.2.1 dX2_refused_10 (by decide) (fun c4 => ?_) (fun c4 => ?_)
    · replace hf := (if_pos c4).symm.trans hf
      refine lv_iconst (v := 0) X.1 X.2.1 dX2_refused_22 (by decide) ?_
      cases hf; exact g_ri X S hr hlk dX2_refused_23
    · replace hf := (if_neg c4).symm.trans hf
      refine g_aload_n X (or_rv _) dX2_refused_13 rfl (lv_at hl 0 rfl) ?_
      refine g_gR X S foX2_26 dX2_refused_14 hf (fun v5 hf => ?_)
      refine lv_iload_n X.1 X.2.1 dX2_refused_17 rfl (lv_at hl 1 rfl) ?_
      refine g_aI X S dX2_refused_18 hf (fun v6 hf => ?_)
      refine lv_goto (tgt := 23) X.1 X.2.1 dX2_refused_19 (by decide) ?_
      cases hf; exact g_ri X S hr hlk dX2_refused_23
def fX2_takeBack (a0 : Nat) (h : Hp) : Option (Hp) := gd 2 a0 h (ob (gI 2 a0 2 h) fun v1 => ob (gI 2 a0 3 h) fun v2 => lt (irm ((v1 + v2) - 1) 40) fun z3 => ob (gI 2 a0 3 h) fun v4 => if v4 ≤ 0 then some h else if z3 < 0 then some h else ob (gR 2 a0 1 h) fun v7 => ob (aR 103 v7 z3 h) fun v8 => if v8 = 0 then some h else ob (gR 2 a0 0 h) fun v10 => ob (gR 2 a0 1 h) fun v11 => ob (aR 103 v11 z3 h) fun v12 => ob (fX10_become v10 v12 h) fun h => ob (gI 2 a0 3 h) fun v14 => ob (pI 2 a0 3 (v14 - 1) h) fun h => some h)
theorem tkX2_takeBack {a0 : Nat} {h : Hp} {r9 : Hp} (e : fX2_takeBack a0 h = some r9) : hK h a0 = 2 := by
  unfold fX2_takeBack at e
  exact (gd_some e).1
theorem cX2_takeBack_m (l : Launch) {E : EE} {A : Nat → Prop} {a0 : Nat} {h : Hp} {h9 : Hp} (hf : fX2_takeBack a0 h = some h9) : Met l yX2_takeBack (wsM yX2_takeBack cX2_takeBack 2 none) (rmm 9 0 0) (PcE E A h [rv a0]) (Qv E A h9) 0 0 A := by
  refine met_of (by decide +kernel) (by simp [lg_sl, cat_rv, cat_wv, cat_sv, cat_i, cat_l, cat_a]) (fun p e s m args below meth c ls X hr hlk hnm S hl => ?_)
  have hl : lv_has ls 2 [(0, rv a0)] := by simpa [lv_args, cat_rv, cat_wv, cat_sv, cat_i, cat_l, cat_a] using hl
  generalize hH : s.heap = H at S ⊢
  generalize hlo : ([] : List Loc) = locs at S ⊢
  clear hH hlo
  unfold fX2_takeBack at hf
  obtain ⟨hth, hf⟩ := gd_some hf
  refine g_aload_n X (or_rv _) dX2_takeBack_0 rfl (lv_at hl 0 rfl) ?_
  refine g_gI X S foX2_36 rfl dX2_takeBack_1 hf (fun v1 hf => ?_)
  refine g_aload_n X (or_rv _) dX2_takeBack_4 rfl (lv_at hl 0 rfl) ?_
  refine g_gI X S foX2_29 rfl dX2_takeBack_5 hf (fun v2 hf => ?_)
  refine lv_iadd X.1 X.2.1 dX2_takeBack_8 ?_
  refine lv_iconst (v := 1) X.1 X.2.1 dX2_takeBack_9 (by decide) ?_
  refine lv_isub X.1 X.2.1 dX2_takeBack_10 ?_
  refine lv_bipush (v := 40) X.1 X.2.1 dX2_takeBack_11 (by decide) ?_
  refine g_irem X (by decide) dX2_takeBack_13 ?_
  refine g_lti hf (fun z3 hf => ?_)
  refine lv_istore_n (i := 1) (lv' := [(1, .int z3), (0, rv a0)]) X.1 X.2.1 dX2_takeBack_14 rfl hl (by decide) (by simp [List.filter, cat_rv, cat_wv, cat_sv]) (fun ls hl => ?_)
  refine g_aload_n X (or_rv _) dX2_takeBack_15 rfl (lv_at hl 1 rfl) ?_
  refine g_gI X S foX2_29 rfl dX2_takeBack_16 hf (fun v4 hf => ?_)
  refine lv_if_le (tgt := 58) X.1 X.2.1 dX2_takeBack_19 (by decide) (fun c5 => ?_) (fun c5 => ?_)
  · replace hf := (if_pos c5).symm.trans hf
    cases hf; exact g_rv X S hr hlk dX2_takeBack_58
  · replace hf := (if_neg c5).symm.trans hf
    refine lv_iload_n X.1 X.2.1 dX2_takeBack_22 rfl (lv_at hl 0 rfl) ?_
    refine lv_if_lt (tgt := 58) X.1 X.2.1 dX2_takeBack_23 (by decide) (fun c6 => ?_) (fun c6 => ?_)
    · replace hf := (if_pos c6).symm.trans hf
      cases hf; exact g_rv X S hr hlk dX2_takeBack_58
    · replace hf := (if_neg c6).symm.trans hf
      refine g_aload_n X (or_rv _) dX2_takeBack_26 rfl (lv_at hl 1 rfl) ?_
      refine g_gR X S foX2_18 dX2_takeBack_27 hf (fun v7 hf => ?_)
      refine lv_iload_n X.1 X.2.1 dX2_takeBack_30 rfl (lv_at hl 0 rfl) ?_
      refine g_aR X S (by decide) dX2_takeBack_31 hf (fun v8 hf => ?_)
      refine g_ifnull (tgt := 58) X dX2_takeBack_32 (by decide) (fun c9 => ?_) (fun c9 => ?_)
      · replace hf := (if_pos c9).symm.trans hf
        cases hf; exact g_rv X S hr hlk dX2_takeBack_58
      · replace hf := (if_neg c9).symm.trans hf
        refine g_aload_n X (or_rv _) dX2_takeBack_35 rfl (lv_at hl 1 rfl) ?_
        refine g_gR X S foX2_12 dX2_takeBack_36 hf (fun v10 hf => ?_)
        refine g_aload_n X (or_rv _) dX2_takeBack_39 rfl (lv_at hl 1 rfl) ?_
        refine g_gR X S foX2_18 dX2_takeBack_40 hf (fun v11 hf => ?_)
        refine lv_iload_n X.1 X.2.1 dX2_takeBack_43 rfl (lv_at hl 0 rfl) ?_
        refine g_aR X S (by decide) dX2_takeBack_44 hf (fun v12 hf => ?_)
        obtain ⟨h, hc, hf⟩ := ob_some hf
        refine g_cv S (runV (As := [rv v12]) (rest := []) X S coX2_43 (by decide) (cX10_become_m l hc) (tkX10_become hc) rfl hl.1 (by decide) rfl ⟨Nat.zero_le _, Nat.zero_le _⟩ dX2_takeBack_45) (fun H locs S => ?_)
        refine g_aload_n X (or_rv _) dX2_takeBack_48 rfl (lv_at hl 1 rfl) ?_
        refine lv_dup X.1 X.2.1 dX2_takeBack_49 (cat_rv _) ?_
        refine g_gI X S foX2_29 rfl dX2_takeBack_50 hf (fun v14 hf => ?_)
        refine lv_iconst (v := 1) X.1 X.2.1 dX2_takeBack_53 (by decide) ?_
        refine lv_isub X.1 X.2.1 dX2_takeBack_54 ?_
        refine g_pI X S fpX2_29 (Or.inl rfl) dX2_takeBack_55 hf (fun h H locs hm hf S => ?_)
        cases hf; exact g_rv X S hr hlk dX2_takeBack_58
def fX12_undo (a0 : Nat) (h : Hp) : Option (Int32 × Hp) := gd 10 a0 h (ob (gR 10 a0 10 h) fun v1 => ob (fX2_kept v1 h) fun v2 => if v2 = 0 then some ((-1), h) else ob (gR 10 a0 10 h) fun v4 => ob (fX2_takeBack v4 h) fun h => ob (gR 10 a0 10 h) fun v6 => ob (fX2_kept v6 h) fun v7 => some (v7, h))
theorem tkX12_undo {a0 : Nat} {h : Hp} {r9 : Int32 × Hp} (e : fX12_undo a0 h = some r9) : hK h a0 = 10 := by
  unfold fX12_undo at e
  exact (gd_some e).1
theorem cX12_undo_m (l : Launch) {E : EE} {A : Nat → Prop} {a0 : Nat} {h : Hp} {r9 : Int32} {h9 : Hp} (hf : fX12_undo a0 h = some (r9, h9)) : Met l yX12_undo (wsM yX12_undo cX12_undo 1 (some .int)) (rmm 10 0 0) (PcE E A h [rv a0]) (Qi E A h9 r9) 0 0 A := by
  refine met_of (by decide +kernel) (by simp [lg_sl, cat_rv, cat_wv, cat_sv, cat_i, cat_l, cat_a]) (fun p e s m args below meth c ls X hr hlk hnm S hl => ?_)
  have hl : lv_has ls 1 [(0, rv a0)] := by simpa [lv_args, cat_rv, cat_wv, cat_sv, cat_i, cat_l, cat_a] using hl
  generalize hH : s.heap = H at S ⊢
  generalize hlo : ([] : List Loc) = locs at S ⊢
  clear hH hlo
  unfold fX12_undo at hf
  obtain ⟨hth, hf⟩ := gd_some hf
  refine g_aload_n X (or_rv _) dX12_undo_0 rfl (lv_at hl 0 rfl) ?_
  refine g_gR X S foX12_61 dX12_undo_1 hf (fun v1 hf => ?_)
  obtain ⟨v2, hc, hf⟩ := ob_some hf
  refine g_ci S (runV (As := []) (rest := []) X S coX12_126 (by decide) (cX2_kept_m l hc) (tkX2_kept hc) rfl hl.1 (by decide) rfl ⟨Nat.zero_le _, Nat.zero_le _⟩ dX12_undo_4) (fun H locs S => ?_)
  refine lv_if_ne (tgt := 12) X.1 X.2.1 dX12_undo_7 (by decide) (fun c3 => ?_) (fun c3 => ?_)
  · replace hf := (if_neg c3).symm.trans hf
    refine g_aload_n X (or_rv _) dX12_undo_12 rfl (lv_at hl 0 rfl) ?_
    refine g_gR X S foX12_61 dX12_undo_13 hf (fun v4 hf => ?_)
    obtain ⟨h, hc, hf⟩ := ob_some hf
    refine g_cv S (runV (As := []) (rest := []) X S coX12_247 (by decide) (cX2_takeBack_m l hc) (tkX2_takeBack hc) rfl hl.1 (by decide) rfl ⟨Nat.zero_le _, Nat.zero_le _⟩ dX12_undo_16) (fun H locs S => ?_)
    refine g_aload_n X (or_rv _) dX12_undo_19 rfl (lv_at hl 0 rfl) ?_
    refine g_gR X S foX12_61 dX12_undo_20 hf (fun v6 hf => ?_)
    obtain ⟨v7, hc, hf⟩ := ob_some hf
    refine g_ci S (runV (As := []) (rest := []) X S coX12_126 (by decide) (cX2_kept_m l hc) (tkX2_kept hc) rfl hl.1 (by decide) rfl ⟨Nat.zero_le _, Nat.zero_le _⟩ dX12_undo_23) (fun H locs S => ?_)
    cases hf; exact g_ri X S hr hlk dX12_undo_26
  · replace hf := (if_pos c3).symm.trans hf
    refine lv_iconst (v := (-1)) X.1 X.2.1 dX12_undo_10 (by decide) ?_
    cases hf; exact g_ri X S hr hlk dX12_undo_11
def fX4_behind_10 (k10 : Nat → Int32 → Int32 → Hp → Option (Nat × Hp)) (x0 : Nat) (x2 : Int32) (x3 : Int32) (h : Hp) : Option (Nat × Hp) := if x2 ≤ x3 then ob (gR 4 x0 1 h) fun v2 => some (v2, h) else ob (gR 4 x0 1 h) fun v3 => ob (fX10_running v3 h) fun v4 => if v4 = 0 then ob (gR 4 x0 1 h) fun v6 => some (v6, h) else ob (gR 4 x0 0 h) fun v7 => ob (gR 4 x0 1 h) fun v8 => ob2 (fX9_step v7 v8 h) fun v9 h => lt (x3 + 1) fun z10 => k10 x0 x2 z10 h
theorem wfX4_behind_10 {k10 : Nat → Int32 → Int32 → Hp → Option (Nat × Hp)} {r9 : Nat} {h9 : Hp} (X : Cx p E A 13 R s m args c cX4_behind yX4_behind.cls 4) (hr : meth.sig.returnType = (some (.object "NibbleEngine$Row"))) (hlk : meth.locks = false) (hnm : meth.name = yX4_behind.name) (hk10 : ∀ (x0 : Nat) (x2 : Int32) (x3 : Int32) (h : Hp) (H : Heap) (locs : List Loc) (ls : Array Slot), lv_has ls 4 [(0, rv x0), (2, .int x2), (3, .int x3)] → St E A s h H locs → k10 x0 x2 x3 h = some (r9, h9) → W p l e R s m args below meth c H locs 0 0 (MQ below (Qq E A h9 (oR r9)) args s 0 0 A) (F0 m 10 ls [])) :
    ∀ (x0 : Nat) (x2 : Int32) (x3 : Int32) (h : Hp) (H : Heap) (locs : List Loc) (ls : Array Slot), lv_has ls 4 [(0, rv x0), (2, .int x2), (3, .int x3)] → St E A s h H locs → fX4_behind_10 k10 x0 x2 x3 h = some (r9, h9) → W p l e R s m args below meth c H locs 0 0 (MQ below (Qq E A h9 (oR r9)) args s 0 0 A) (F0 m 10 ls []) := by
  intro x0 x2 x3 h H locs ls hl S hf
  unfold fX4_behind_10 at hf
  refine lv_iload_n X.1 X.2.1 dX4_behind_10 rfl (lv_at hl 2 rfl) ?_
  refine lv_iload_n X.1 X.2.1 dX4_behind_11 rfl (lv_at hl 1 rfl) ?_
  refine lv_icmp_ge (tgt := 43) X.1 X.2.1 dX4_behind_12 (by decide) (fun c1 => ?_) (fun c1 => ?_)
  · replace hf := (if_pos c1).symm.trans hf
    refine g_aload_n X (or_rv _) dX4_behind_43 rfl (lv_at hl 0 rfl) ?_
    refine g_gR X S foX4_21 dX4_behind_44 hf (fun v2 hf => ?_)
    cases hf; exact g_rq X S hr (Or.inl ⟨_, rfl⟩) hlk dX4_behind_47
  · replace hf := (if_neg c1).symm.trans hf
    refine g_aload_n X (or_rv _) dX4_behind_15 rfl (lv_at hl 0 rfl) ?_
    refine g_gR X S foX4_21 dX4_behind_16 hf (fun v3 hf => ?_)
    obtain ⟨v4, hc, hf⟩ := ob_some hf
    refine g_ci S (runV (As := []) (rest := []) X S coX4_36 (by decide) (cX10_running_m l hc) (tkX10_running hc) rfl hl.1 (by decide) rfl ⟨Nat.zero_le _, Nat.zero_le _⟩ dX4_behind_19) (fun H locs S => ?_)
    refine lv_if_eq (tgt := 43) X.1 X.2.1 dX4_behind_22 (by decide) (fun c5 => ?_) (fun c5 => ?_)
    · replace hf := (if_pos c5).symm.trans hf
      refine g_aload_n X (or_rv _) dX4_behind_43 rfl (lv_at hl 0 rfl) ?_
      refine g_gR X S foX4_21 dX4_behind_44 hf (fun v6 hf => ?_)
      cases hf; exact g_rq X S hr (Or.inl ⟨_, rfl⟩) hlk dX4_behind_47
    · replace hf := (if_neg c5).symm.trans hf
      refine g_aload_n X (or_rv _) dX4_behind_25 rfl (lv_at hl 0 rfl) ?_
      refine g_gR X S foX4_12 dX4_behind_26 hf (fun v7 hf => ?_)
      refine g_aload_n X (or_rv _) dX4_behind_29 rfl (lv_at hl 0 rfl) ?_
      refine g_gR X S foX4_21 dX4_behind_30 hf (fun v8 hf => ?_)
      obtain ⟨v9, h, hc, hf⟩ := ob2_some hf
      refine g_ci S (runV (As := [rv v8]) (rest := []) X S coX4_40 (by decide) (cX9_step_m l hc) (tkX9_step hc) rfl hl.1 (by decide) rfl ⟨Nat.zero_le _, Nat.zero_le _⟩ dX4_behind_33) (fun H locs S => ?_)
      refine lv_pop X.1 X.2.1 dX4_behind_36 rfl ?_
      obtain ⟨z10, ez10, hf⟩ := lt_some hf
      refine lv_iinc (v := z10) (lv' := [(3, .int z10), (0, rv x0), (2, .int x2)]) X.1 X.2.1 dX4_behind_37 hl (k := 2) rfl (by rw [← ez10]; rfl) (by decide) rfl (fun ls hl => ?_)
      refine lv_goto (tgt := 10) X.1 X.2.1 dX4_behind_40 (by decide) ?_
      exact hk10 _ _ _ _ _ _ _ (lv_sub hl [1, 2, 0] rfl) S hf
theorem wfX4_behind_10_l {r9 : Nat} {h9 : Hp} (X : Cx p E A 13 R s m args c cX4_behind yX4_behind.cls 4) (hr : meth.sig.returnType = (some (.object "NibbleEngine$Row"))) (hlk : meth.locks = false) (hnm : meth.name = yX4_behind.name) :
    ∀ (n : Nat) (x0 : Nat) (x2 : Int32) (x3 : Int32) (h : Hp) (H : Heap) (locs : List Loc) (ls : Array Slot), lv_has ls 4 [(0, rv x0), (2, .int x2), (3, .int x3)] → St E A s h H locs → lp (fun _ _ _ _ => none) (fX4_behind_10) n x0 x2 x3 h = some (r9, h9) → W p l e R s m args below meth c H locs 0 0 (MQ below (Qq E A h9 (oR r9)) args s 0 0 A) (F0 m 10 ls []) := by
  intro n
  induction n with
  | zero =>
    intro x0 x2 x3 h H locs ls hl S hf
    exact nomatch hf
  | succ n ih =>
    intro x0 x2 x3 h H locs ls hl S hf
    exact wfX4_behind_10 X hr hlk hnm ih x0 x2 x3 h H locs ls hl S hf
def fX4_behind (a0 : Nat) (a1 : Nat) (a2 : Int32) (h : Hp) : Option (Nat × Hp) := gd 4 a0 h (ob (gR 4 a0 1 h) fun v1 => ob (fX10_become v1 a1 h) fun h => lp (fun _ _ _ _ => none) (fX4_behind_10) FU a0 a2 0 h)
theorem tkX4_behind {a0 : Nat} {a1 : Nat} {a2 : Int32} {h : Hp} {r9 : Nat × Hp} (e : fX4_behind a0 a1 a2 h = some r9) : hK h a0 = 4 := by
  unfold fX4_behind at e
  exact (gd_some e).1
theorem cX4_behind_m (l : Launch) {E : EE} {A : Nat → Prop} {a0 : Nat} {a1 : Nat} {a2 : Int32} {h : Hp} {r9 : Nat} {h9 : Hp} (hf : fX4_behind a0 a1 a2 h = some (r9, h9)) : Met l yX4_behind (wsM yX4_behind cX4_behind 4 (some (.object "NibbleEngine$Row"))) (rmm 13 0 0) (PcE E A h [rv a0, rv a1, .int a2]) (Qq E A h9 (oR r9)) 0 0 A := by
  refine met_of (by decide +kernel) (by simp [lg_sl, cat_rv, cat_wv, cat_sv, cat_i, cat_l, cat_a]) (fun p e s m args below meth c ls X hr hlk hnm S hl => ?_)
  have hl : lv_has ls 4 [(0, rv a0), (1, rv a1), (2, .int a2)] := by simpa [lv_args, cat_rv, cat_wv, cat_sv, cat_i, cat_l, cat_a] using hl
  generalize hH : s.heap = H at S ⊢
  generalize hlo : ([] : List Loc) = locs at S ⊢
  clear hH hlo
  unfold fX4_behind at hf
  obtain ⟨hth, hf⟩ := gd_some hf
  refine g_aload_n X (or_rv _) dX4_behind_0 rfl (lv_at hl 0 rfl) ?_
  refine g_gR X S foX4_21 dX4_behind_1 hf (fun v1 hf => ?_)
  refine g_aload_n X (or_rv _) dX4_behind_4 rfl (lv_at hl 1 rfl) ?_
  obtain ⟨h, hc, hf⟩ := ob_some hf
  refine g_cv S (runV (As := [rv a1]) (rest := []) X S coX4_32 (by decide) (cX10_become_m l hc) (tkX10_become hc) rfl hl.1 (by decide) rfl ⟨Nat.zero_le _, Nat.zero_le _⟩ dX4_behind_5) (fun H locs S => ?_)
  refine lv_iconst (v := 0) X.1 X.2.1 dX4_behind_8 (by decide) ?_
  refine lv_istore_n (i := 3) (lv' := [(3, .int 0), (0, rv a0), (1, rv a1), (2, .int a2)]) X.1 X.2.1 dX4_behind_9 rfl hl (by decide) rfl (fun ls hl => ?_)
  exact wfX4_behind_10_l X hr hlk hnm FU _ _ _ _ _ _ _ (lv_sub hl [1, 3, 0] rfl) S hf
def fX4_firstFault_10 (k10 : Nat → Int32 → Int32 → Hp → Option (Int32 × Hp)) (x0 : Nat) (x2 : Int32) (x3 : Int32) (h : Hp) : Option (Int32 × Hp) := if 100 < x3 then some ((-1), h) else ob (gR 4 x0 1 h) fun v2 => ob (fX10_running v2 h) fun v3 => if v3 = 0 then some ((-1), h) else ob (gR 4 x0 0 h) fun v5 => ob (gR 4 x0 1 h) fun v6 => ob2 (fX9_step v5 v6 h) fun v7 h => if v7 = x2 then some (x3, h) else lt (x3 + 1) fun z9 => k10 x0 x2 z9 h
theorem wfX4_firstFault_10 {k10 : Nat → Int32 → Int32 → Hp → Option (Int32 × Hp)} {r9 : Int32} {h9 : Hp} (X : Cx p E A 13 R s m args c cX4_firstFault yX4_firstFault.cls 4) (hr : meth.sig.returnType = (some .int)) (hlk : meth.locks = false) (hnm : meth.name = yX4_firstFault.name) (hk10 : ∀ (x0 : Nat) (x2 : Int32) (x3 : Int32) (h : Hp) (H : Heap) (locs : List Loc) (ls : Array Slot), lv_has ls 4 [(0, rv x0), (2, .int x2), (3, .int x3)] → St E A s h H locs → k10 x0 x2 x3 h = some (r9, h9) → W p l e R s m args below meth c H locs 0 0 (MQ below (Qi E A h9 r9) args s 0 0 A) (F0 m 10 ls [])) :
    ∀ (x0 : Nat) (x2 : Int32) (x3 : Int32) (h : Hp) (H : Heap) (locs : List Loc) (ls : Array Slot), lv_has ls 4 [(0, rv x0), (2, .int x2), (3, .int x3)] → St E A s h H locs → fX4_firstFault_10 k10 x0 x2 x3 h = some (r9, h9) → W p l e R s m args below meth c H locs 0 0 (MQ below (Qi E A h9 r9) args s 0 0 A) (F0 m 10 ls []) := by
  intro x0 x2 x3 h H locs ls hl S hf
  unfold fX4_firstFault_10 at hf
  refine lv_iload_n X.1 X.2.1 dX4_firstFault_10 rfl (lv_at hl 2 rfl) ?_
  refine lv_bipush (v := 100) X.1 X.2.1 dX4_firstFault_11 (by decide) ?_
  refine lv_icmp_gt (tgt := 49) X.1 X.2.1 dX4_firstFault_13 (by decide) (fun c1 => ?_) (fun c1 => ?_)
  · replace hf := (if_pos c1).symm.trans hf
    refine lv_iconst (v := (-1)) X.1 X.2.1 dX4_firstFault_49 (by decide) ?_
    cases hf; exact g_ri X S hr hlk dX4_firstFault_50
  · replace hf := (if_neg c1).symm.trans hf
    refine g_aload_n X (or_rv _) dX4_firstFault_16 rfl (lv_at hl 0 rfl) ?_
    refine g_gR X S foX4_21 dX4_firstFault_17 hf (fun v2 hf => ?_)
    obtain ⟨v3, hc, hf⟩ := ob_some hf
    refine g_ci S (runV (As := []) (rest := []) X S coX4_36 (by decide) (cX10_running_m l hc) (tkX10_running hc) rfl hl.1 (by decide) rfl ⟨Nat.zero_le _, Nat.zero_le _⟩ dX4_firstFault_20) (fun H locs S => ?_)
    refine lv_if_eq (tgt := 49) X.1 X.2.1 dX4_firstFault_23 (by decide) (fun c4 => ?_) (fun c4 => ?_)
    · replace hf := (if_pos c4).symm.trans hf
      refine lv_iconst (v := (-1)) X.1 X.2.1 dX4_firstFault_49 (by decide) ?_
      cases hf; exact g_ri X S hr hlk dX4_firstFault_50
    · replace hf := (if_neg c4).symm.trans hf
      refine g_aload_n X (or_rv _) dX4_firstFault_26 rfl (lv_at hl 0 rfl) ?_
      refine g_gR X S foX4_12 dX4_firstFault_27 hf (fun v5 hf => ?_)
      refine g_aload_n X (or_rv _) dX4_firstFault_30 rfl (lv_at hl 0 rfl) ?_
      refine g_gR X S foX4_21 dX4_firstFault_31 hf (fun v6 hf => ?_)
      obtain ⟨v7, h, hc, hf⟩ := ob2_some hf
      refine g_ci S (runV (As := [rv v6]) (rest := []) X S coX4_40 (by decide) (cX9_step_m l hc) (tkX9_step hc) rfl hl.1 (by decide) rfl ⟨Nat.zero_le _, Nat.zero_le _⟩ dX4_firstFault_34) (fun H locs S => ?_)
      refine lv_iload_n X.1 X.2.1 dX4_firstFault_37 rfl (lv_at hl 1 rfl) ?_
      refine lv_icmp_ne (tgt := 43) X.1 X.2.1 dX4_firstFault_38 (by decide) (fun c8 => ?_) (fun c8 => ?_)
      · replace hf := (if_neg c8).symm.trans hf
        obtain ⟨z9, ez9, hf⟩ := lt_some hf
        refine lv_iinc (v := z9) (lv' := [(3, .int z9), (0, rv x0), (2, .int x2)]) X.1 X.2.1 dX4_firstFault_43 hl (k := 2) rfl (by rw [← ez9]; rfl) (by decide) rfl (fun ls hl => ?_)
        refine lv_goto (tgt := 10) X.1 X.2.1 dX4_firstFault_46 (by decide) ?_
        exact hk10 _ _ _ _ _ _ _ (lv_sub hl [1, 2, 0] rfl) S hf
      · replace hf := (if_pos c8).symm.trans hf
        refine lv_iload_n X.1 X.2.1 dX4_firstFault_41 rfl (lv_at hl 2 rfl) ?_
        cases hf; exact g_ri X S hr hlk dX4_firstFault_42
theorem wfX4_firstFault_10_l {r9 : Int32} {h9 : Hp} (X : Cx p E A 13 R s m args c cX4_firstFault yX4_firstFault.cls 4) (hr : meth.sig.returnType = (some .int)) (hlk : meth.locks = false) (hnm : meth.name = yX4_firstFault.name) :
    ∀ (n : Nat) (x0 : Nat) (x2 : Int32) (x3 : Int32) (h : Hp) (H : Heap) (locs : List Loc) (ls : Array Slot), lv_has ls 4 [(0, rv x0), (2, .int x2), (3, .int x3)] → St E A s h H locs → lp (fun _ _ _ _ => none) (fX4_firstFault_10) n x0 x2 x3 h = some (r9, h9) → W p l e R s m args below meth c H locs 0 0 (MQ below (Qi E A h9 r9) args s 0 0 A) (F0 m 10 ls []) := by
  intro n
  induction n with
  | zero =>
    intro x0 x2 x3 h H locs ls hl S hf
    exact nomatch hf
  | succ n ih =>
    intro x0 x2 x3 h H locs ls hl S hf
    exact wfX4_firstFault_10 X hr hlk hnm ih x0 x2 x3 h H locs ls hl S hf
def fX4_firstFault (a0 : Nat) (a1 : Nat) (a2 : Int32) (h : Hp) : Option (Int32 × Hp) := gd 4 a0 h (ob (gR 4 a0 1 h) fun v1 => ob (fX10_become v1 a1 h) fun h => lp (fun _ _ _ _ => none) (fX4_firstFault_10) FU a0 a2 1 h)
theorem tkX4_firstFault {a0 : Nat} {a1 : Nat} {a2 : Int32} {h : Hp} {r9 : Int32 × Hp} (e : fX4_firstFault a0 a1 a2 h = some r9) : hK h a0 = 4 := by
  unfold fX4_firstFault at e
  exact (gd_some e).1
theorem cX4_firstFault_m (l : Launch) {E : EE} {A : Nat → Prop} {a0 : Nat} {a1 : Nat} {a2 : Int32} {h : Hp} {r9 : Int32} {h9 : Hp} (hf : fX4_firstFault a0 a1 a2 h = some (r9, h9)) : Met l yX4_firstFault (wsM yX4_firstFault cX4_firstFault 4 (some .int)) (rmm 13 0 0) (PcE E A h [rv a0, rv a1, .int a2]) (Qi E A h9 r9) 0 0 A := by
  refine met_of (by decide +kernel) (by simp [lg_sl, cat_rv, cat_wv, cat_sv, cat_i, cat_l, cat_a]) (fun p e s m args below meth c ls X hr hlk hnm S hl => ?_)
  have hl : lv_has ls 4 [(0, rv a0), (1, rv a1), (2, .int a2)] := by simpa [lv_args, cat_rv, cat_wv, cat_sv, cat_i, cat_l, cat_a] using hl
  generalize hH : s.heap = H at S ⊢
  generalize hlo : ([] : List Loc) = locs at S ⊢
  clear hH hlo
  unfold fX4_firstFault at hf
  obtain ⟨hth, hf⟩ := gd_some hf
  refine g_aload_n X (or_rv _) dX4_firstFault_0 rfl (lv_at hl 0 rfl) ?_
  refine g_gR X S foX4_21 dX4_firstFault_1 hf (fun v1 hf => ?_)
  refine g_aload_n X (or_rv _) dX4_firstFault_4 rfl (lv_at hl 1 rfl) ?_
  obtain ⟨h, hc, hf⟩ := ob_some hf
  refine g_cv S (runV (As := [rv a1]) (rest := []) X S coX4_32 (by decide) (cX10_become_m l hc) (tkX10_become hc) rfl hl.1 (by decide) rfl ⟨Nat.zero_le _, Nat.zero_le _⟩ dX4_firstFault_5) (fun H locs S => ?_)
  refine lv_iconst (v := 1) X.1 X.2.1 dX4_firstFault_8 (by decide) ?_
  refine lv_istore_n (i := 3) (lv' := [(3, .int 1), (0, rv a0), (1, rv a1), (2, .int a2)]) X.1 X.2.1 dX4_firstFault_9 rfl hl (by decide) rfl (fun ls hl => ?_)
  exact wfX4_firstFault_10_l X hr hlk hnm FU _ _ _ _ _ _ _ (lv_sub hl [1, 3, 0] rfl) S hf
def fX4_firstRest_10 (k10 : Nat → Int32 → Hp → Option (Int32 × Hp)) (x0 : Nat) (x2 : Int32) (h : Hp) : Option (Int32 × Hp) := if 100 < x2 then some ((-1), h) else ob (gR 4 x0 1 h) fun v2 => ob (fX10_running v2 h) fun v3 => if v3 = 0 then some (x2, h) else ob (gR 4 x0 0 h) fun v5 => ob (gR 4 x0 1 h) fun v6 => ob2 (fX9_step v5 v6 h) fun v7 h => lt (x2 + 1) fun z8 => k10 x0 z8 h
theorem wfX4_firstRest_10 {k10 : Nat → Int32 → Hp → Option (Int32 × Hp)} {r9 : Int32} {h9 : Hp} (X : Cx p E A 13 R s m args c cX4_firstRest yX4_firstRest.cls 3) (hr : meth.sig.returnType = (some .int)) (hlk : meth.locks = false) (hnm : meth.name = yX4_firstRest.name) (hk10 : ∀ (x0 : Nat) (x2 : Int32) (h : Hp) (H : Heap) (locs : List Loc) (ls : Array Slot), lv_has ls 3 [(0, rv x0), (2, .int x2)] → St E A s h H locs → k10 x0 x2 h = some (r9, h9) → W p l e R s m args below meth c H locs 0 0 (MQ below (Qi E A h9 r9) args s 0 0 A) (F0 m 10 ls [])) :
    ∀ (x0 : Nat) (x2 : Int32) (h : Hp) (H : Heap) (locs : List Loc) (ls : Array Slot), lv_has ls 3 [(0, rv x0), (2, .int x2)] → St E A s h H locs → fX4_firstRest_10 k10 x0 x2 h = some (r9, h9) → W p l e R s m args below meth c H locs 0 0 (MQ below (Qi E A h9 r9) args s 0 0 A) (F0 m 10 ls []) := by
  intro x0 x2 h H locs ls hl S hf
  unfold fX4_firstRest_10 at hf
  refine lv_iload_n X.1 X.2.1 dX4_firstRest_10 rfl (lv_at hl 1 rfl) ?_
  refine lv_bipush (v := 100) X.1 X.2.1 dX4_firstRest_11 (by decide) ?_
  refine lv_icmp_gt (tgt := 46) X.1 X.2.1 dX4_firstRest_13 (by decide) (fun c1 => ?_) (fun c1 => ?_)
  · replace hf := (if_pos c1).symm.trans hf
    refine lv_iconst (v := (-1)) X.1 X.2.1 dX4_firstRest_46 (by decide) ?_
    cases hf; exact g_ri X S hr hlk dX4_firstRest_47
  · replace hf := (if_neg c1).symm.trans hf
    refine g_aload_n X (or_rv _) dX4_firstRest_16 rfl (lv_at hl 0 rfl) ?_
    refine g_gR X S foX4_21 dX4_firstRest_17 hf (fun v2 hf => ?_)
    obtain ⟨v3, hc, hf⟩ := ob_some hf
    refine g_ci S (runV (As := []) (rest := []) X S coX4_36 (by decide) (cX10_running_m l hc) (tkX10_running hc) rfl hl.1 (by decide) rfl ⟨Nat.zero_le _, Nat.zero_le _⟩ dX4_firstRest_20) (fun H locs S => ?_)
    refine lv_if_ne (tgt := 28) X.1 X.2.1 dX4_firstRest_23 (by decide) (fun c4 => ?_) (fun c4 => ?_)
    · replace hf := (if_neg c4).symm.trans hf
      refine g_aload_n X (or_rv _) dX4_firstRest_28 rfl (lv_at hl 0 rfl) ?_
      refine g_gR X S foX4_12 dX4_firstRest_29 hf (fun v5 hf => ?_)
      refine g_aload_n X (or_rv _) dX4_firstRest_32 rfl (lv_at hl 0 rfl) ?_
      refine g_gR X S foX4_21 dX4_firstRest_33 hf (fun v6 hf => ?_)
      obtain ⟨v7, h, hc, hf⟩ := ob2_some hf
      refine g_ci S (runV (As := [rv v6]) (rest := []) X S coX4_40 (by decide) (cX9_step_m l hc) (tkX9_step hc) rfl hl.1 (by decide) rfl ⟨Nat.zero_le _, Nat.zero_le _⟩ dX4_firstRest_36) (fun H locs S => ?_)
      refine lv_pop X.1 X.2.1 dX4_firstRest_39 rfl ?_
      obtain ⟨z8, ez8, hf⟩ := lt_some hf
      refine lv_iinc (v := z8) (lv' := [(2, .int z8), (0, rv x0)]) X.1 X.2.1 dX4_firstRest_40 hl (k := 1) rfl (by rw [← ez8]; rfl) (by decide) rfl (fun ls hl => ?_)
      refine lv_goto (tgt := 10) X.1 X.2.1 dX4_firstRest_43 (by decide) ?_
      exact hk10 _ _ _ _ _ _ (lv_sub hl [1, 0] rfl) S hf
    · replace hf := (if_pos c4).symm.trans hf
      refine lv_iload_n X.1 X.2.1 dX4_firstRest_26 rfl (lv_at hl 1 rfl) ?_
      cases hf; exact g_ri X S hr hlk dX4_firstRest_27
theorem wfX4_firstRest_10_l {r9 : Int32} {h9 : Hp} (X : Cx p E A 13 R s m args c cX4_firstRest yX4_firstRest.cls 3) (hr : meth.sig.returnType = (some .int)) (hlk : meth.locks = false) (hnm : meth.name = yX4_firstRest.name) :
    ∀ (n : Nat) (x0 : Nat) (x2 : Int32) (h : Hp) (H : Heap) (locs : List Loc) (ls : Array Slot), lv_has ls 3 [(0, rv x0), (2, .int x2)] → St E A s h H locs → lp (fun _ _ _ => none) (fX4_firstRest_10) n x0 x2 h = some (r9, h9) → W p l e R s m args below meth c H locs 0 0 (MQ below (Qi E A h9 r9) args s 0 0 A) (F0 m 10 ls []) := by
  intro n
  induction n with
  | zero =>
    intro x0 x2 h H locs ls hl S hf
    exact nomatch hf
  | succ n ih =>
    intro x0 x2 h H locs ls hl S hf
    exact wfX4_firstRest_10 X hr hlk hnm ih x0 x2 h H locs ls hl S hf
def fX4_firstRest (a0 : Nat) (a1 : Nat) (h : Hp) : Option (Int32 × Hp) := gd 4 a0 h (ob (gR 4 a0 1 h) fun v1 => ob (fX10_become v1 a1 h) fun h => lp (fun _ _ _ => none) (fX4_firstRest_10) FU a0 0 h)
theorem tkX4_firstRest {a0 : Nat} {a1 : Nat} {h : Hp} {r9 : Int32 × Hp} (e : fX4_firstRest a0 a1 h = some r9) : hK h a0 = 4 := by
  unfold fX4_firstRest at e
  exact (gd_some e).1
theorem cX4_firstRest_m (l : Launch) {E : EE} {A : Nat → Prop} {a0 : Nat} {a1 : Nat} {h : Hp} {r9 : Int32} {h9 : Hp} (hf : fX4_firstRest a0 a1 h = some (r9, h9)) : Met l yX4_firstRest (wsM yX4_firstRest cX4_firstRest 3 (some .int)) (rmm 13 0 0) (PcE E A h [rv a0, rv a1]) (Qi E A h9 r9) 0 0 A := by
  refine met_of (by decide +kernel) (by simp [lg_sl, cat_rv, cat_wv, cat_sv, cat_i, cat_l, cat_a]) (fun p e s m args below meth c ls X hr hlk hnm S hl => ?_)
  have hl : lv_has ls 3 [(0, rv a0), (1, rv a1)] := by simpa [lv_args, cat_rv, cat_wv, cat_sv, cat_i, cat_l, cat_a] using hl
  generalize hH : s.heap = H at S ⊢
  generalize hlo : ([] : List Loc) = locs at S ⊢
  clear hH hlo
  unfold fX4_firstRest at hf
  obtain ⟨hth, hf⟩ := gd_some hf
  refine g_aload_n X (or_rv _) dX4_firstRest_0 rfl (lv_at hl 0 rfl) ?_
  refine g_gR X S foX4_21 dX4_firstRest_1 hf (fun v1 hf => ?_)
  refine g_aload_n X (or_rv _) dX4_firstRest_4 rfl (lv_at hl 1 rfl) ?_
  obtain ⟨h, hc, hf⟩ := ob_some hf
  refine g_cv S (runV (As := [rv a1]) (rest := []) X S coX4_32 (by decide) (cX10_become_m l hc) (tkX10_become hc) rfl hl.1 (by decide) rfl ⟨Nat.zero_le _, Nat.zero_le _⟩ dX4_firstRest_5) (fun H locs S => ?_)
  refine lv_iconst (v := 0) X.1 X.2.1 dX4_firstRest_8 (by decide) ?_
  refine lv_istore_n (i := 2) (lv' := [(2, .int 0), (0, rv a0), (1, rv a1)]) X.1 X.2.1 dX4_firstRest_9 rfl hl (by decide) (by simp [List.filter, cat_rv, cat_wv, cat_sv]) (fun ls hl => ?_)
  exact wfX4_firstRest_10_l X hr hlk hnm FU _ _ _ _ _ _ (lv_sub hl [1, 0] rfl) S hf
def fX12_halts (a0 : Nat) (h : Hp) : Option (Int32 × Hp) := gd 10 a0 h (ob (gR 10 a0 5 h) fun v1 => ob (gR 10 a0 10 h) fun v2 => ob (gR 2 v2 0 h) fun v3 => ob2 (fX4_firstRest v1 v3 h) fun v4 h => some (v4, h))
theorem tkX12_halts {a0 : Nat} {h : Hp} {r9 : Int32 × Hp} (e : fX12_halts a0 h = some r9) : hK h a0 = 10 := by
  unfold fX12_halts at e
  exact (gd_some e).1
theorem cX12_halts_m (l : Launch) {E : EE} {A : Nat → Prop} {a0 : Nat} {h : Hp} {r9 : Int32} {h9 : Hp} (hf : fX12_halts a0 h = some (r9, h9)) : Met l yX12_halts (wsM yX12_halts cX12_halts 1 (some .int)) (rmm 14 0 0) (PcE E A h [rv a0]) (Qi E A h9 r9) 0 0 A := by
  refine met_of (by decide +kernel) (by simp [lg_sl, cat_rv, cat_wv, cat_sv, cat_i, cat_l, cat_a]) (fun p e s m args below meth c ls X hr hlk hnm S hl => ?_)
  have hl : lv_has ls 1 [(0, rv a0)] := by simpa [lv_args, cat_rv, cat_wv, cat_sv, cat_i, cat_l, cat_a] using hl
  generalize hH : s.heap = H at S ⊢
  generalize hlo : ([] : List Loc) = locs at S ⊢
  clear hH hlo
  unfold fX12_halts at hf
  obtain ⟨hth, hf⟩ := gd_some hf
  refine g_aload_n X (or_rv _) dX12_halts_0 rfl (lv_at hl 0 rfl) ?_
  refine g_gR X S foX12_34 dX12_halts_1 hf (fun v1 hf => ?_)
  refine g_aload_n X (or_rv _) dX12_halts_4 rfl (lv_at hl 0 rfl) ?_
  refine g_gR X S foX12_61 dX12_halts_5 hf (fun v2 hf => ?_)
  refine g_gR X S foX12_107 dX12_halts_8 hf (fun v3 hf => ?_)
  obtain ⟨v4, h, hc, hf⟩ := ob2_some hf
  refine g_ci S (runV (As := [rv v3]) (rest := []) X S coX12_264 (by decide) (cX4_firstRest_m l hc) (tkX4_firstRest hc) rfl hl.1 (by decide) rfl ⟨Nat.zero_le _, Nat.zero_le _⟩ dX12_halts_11) (fun H locs S => ?_)
  cases hf; exact g_ri X S hr hlk dX12_halts_14
def fX4_firstChange_10 (k10 : Nat → Nat → Int32 → Int32 → Hp → Option (Int32 × Hp)) (x0 : Nat) (x1 : Nat) (x2 : Int32) (x3 : Int32) (h : Hp) : Option (Int32 × Hp) := if 100 < x3 then some ((-1), h) else ob (gR 4 x0 1 h) fun v2 => ob (fX10_running v2 h) fun v3 => if v3 = 0 then some ((-1), h) else ob (gR 4 x0 0 h) fun v5 => ob (gR 4 x0 1 h) fun v6 => ob2 (fX9_step v5 v6 h) fun v7 h => ob (gR 4 x0 1 h) fun v8 => ob (fX10_cell v8 x2 h) fun v9 => ob (fX10_cell x1 x2 h) fun v10 => if v9 = v10 then lt (x3 + 1) fun z12 => k10 x0 x1 x2 z12 h else some (x3, h)
theorem wfX4_firstChange_10 {k10 : Nat → Nat → Int32 → Int32 → Hp → Option (Int32 × Hp)} {r9 : Int32} {h9 : Hp} (X : Cx p E A 13 R s m args c cX4_firstChange yX4_firstChange.cls 4) (hr : meth.sig.returnType = (some .int)) (hlk : meth.locks = false) (hnm : meth.name = yX4_firstChange.name) (hk10 : ∀ (x0 : Nat) (x1 : Nat) (x2 : Int32) (x3 : Int32) (h : Hp) (H : Heap) (locs : List Loc) (ls : Array Slot), lv_has ls 4 [(0, rv x0), (1, rv x1), (2, .int x2), (3, .int x3)] → St E A s h H locs → k10 x0 x1 x2 x3 h = some (r9, h9) → W p l e R s m args below meth c H locs 0 0 (MQ below (Qi E A h9 r9) args s 0 0 A) (F0 m 10 ls [])) :
    ∀ (x0 : Nat) (x1 : Nat) (x2 : Int32) (x3 : Int32) (h : Hp) (H : Heap) (locs : List Loc) (ls : Array Slot), lv_has ls 4 [(0, rv x0), (1, rv x1), (2, .int x2), (3, .int x3)] → St E A s h H locs → fX4_firstChange_10 k10 x0 x1 x2 x3 h = some (r9, h9) → W p l e R s m args below meth c H locs 0 0 (MQ below (Qi E A h9 r9) args s 0 0 A) (F0 m 10 ls []) := by
  intro x0 x1 x2 x3 h H locs ls hl S hf
  unfold fX4_firstChange_10 at hf
  refine lv_iload_n X.1 X.2.1 dX4_firstChange_10 rfl (lv_at hl 3 rfl) ?_
  refine lv_bipush (v := 100) X.1 X.2.1 dX4_firstChange_11 (by decide) ?_
  refine lv_icmp_gt (tgt := 62) X.1 X.2.1 dX4_firstChange_13 (by decide) (fun c1 => ?_) (fun c1 => ?_)
  · replace hf := (if_pos c1).symm.trans hf
    refine lv_iconst (v := (-1)) X.1 X.2.1 dX4_firstChange_62 (by decide) ?_
    cases hf; exact g_ri X S hr hlk dX4_firstChange_63
  · replace hf := (if_neg c1).symm.trans hf
    refine g_aload_n X (or_rv _) dX4_firstChange_16 rfl (lv_at hl 0 rfl) ?_
    refine g_gR X S foX4_21 dX4_firstChange_17 hf (fun v2 hf => ?_)
    obtain ⟨v3, hc, hf⟩ := ob_some hf
    refine g_ci S (runV (As := []) (rest := []) X S coX4_36 (by decide) (cX10_running_m l hc) (tkX10_running hc) rfl hl.1 (by decide) rfl ⟨Nat.zero_le _, Nat.zero_le _⟩ dX4_firstChange_20) (fun H locs S => ?_)
    refine lv_if_eq (tgt := 62) X.1 X.2.1 dX4_firstChange_23 (by decide) (fun c4 => ?_) (fun c4 => ?_)
    · replace hf := (if_pos c4).symm.trans hf
      refine lv_iconst (v := (-1)) X.1 X.2.1 dX4_firstChange_62 (by decide) ?_
      cases hf; exact g_ri X S hr hlk dX4_firstChange_63
    · replace hf := (if_neg c4).symm.trans hf
      refine g_aload_n X (or_rv _) dX4_firstChange_26 rfl (lv_at hl 0 rfl) ?_
      refine g_gR X S foX4_12 dX4_firstChange_27 hf (fun v5 hf => ?_)
      refine g_aload_n X (or_rv _) dX4_firstChange_30 rfl (lv_at hl 0 rfl) ?_
      refine g_gR X S foX4_21 dX4_firstChange_31 hf (fun v6 hf => ?_)
      obtain ⟨v7, h, hc, hf⟩ := ob2_some hf
      refine g_ci S (runV (As := [rv v6]) (rest := []) X S coX4_40 (by decide) (cX9_step_m l hc) (tkX9_step hc) rfl hl.1 (by decide) rfl ⟨Nat.zero_le _, Nat.zero_le _⟩ dX4_firstChange_34) (fun H locs S => ?_)
      refine lv_pop X.1 X.2.1 dX4_firstChange_37 rfl ?_
      refine g_aload_n X (or_rv _) dX4_firstChange_38 rfl (lv_at hl 0 rfl) ?_
      refine g_gR X S foX4_21 dX4_firstChange_39 hf (fun v8 hf => ?_)
      refine lv_iload_n X.1 X.2.1 dX4_firstChange_42 rfl (lv_at hl 2 rfl) ?_
      obtain ⟨v9, hc, hf⟩ := ob_some hf
      refine g_ci S (runV (As := [.int x2]) (rest := []) X S coX4_44 (by decide) (cX10_cell_m l hc) (tkX10_cell hc) rfl hl.1 (by decide) rfl ⟨Nat.zero_le _, Nat.zero_le _⟩ dX4_firstChange_43) (fun H locs S => ?_)
      refine g_aload_n X (or_rv _) dX4_firstChange_46 rfl (lv_at hl 1 rfl) ?_
      refine lv_iload_n X.1 X.2.1 dX4_firstChange_47 rfl (lv_at hl 2 rfl) ?_
      obtain ⟨v10, hc, hf⟩ := ob_some hf
      refine g_ci S (runV (As := [.int x2]) (rest := [.int v9]) X S coX4_44 (by decide) (cX10_cell_m l hc) (tkX10_cell hc) rfl hl.1 (by simp [cat_rv, cat_wv, cat_sv, cat_i, cat_l, cat_a]) rfl ⟨Nat.zero_le _, Nat.zero_le _⟩ dX4_firstChange_48) (fun H locs S => ?_)
      refine lv_icmp_eq (tgt := 56) X.1 X.2.1 dX4_firstChange_51 (by decide) (fun c11 => ?_) (fun c11 => ?_)
      · replace hf := (if_pos c11).symm.trans hf
        obtain ⟨z12, ez12, hf⟩ := lt_some hf
        refine lv_iinc (v := z12) (lv' := [(3, .int z12), (0, rv x0), (1, rv x1), (2, .int x2)]) X.1 X.2.1 dX4_firstChange_56 hl (k := 3) rfl (by rw [← ez12]; rfl) (by decide) rfl (fun ls hl => ?_)
        refine lv_goto (tgt := 10) X.1 X.2.1 dX4_firstChange_59 (by decide) ?_
        exact hk10 _ _ _ _ _ _ _ _ (lv_sub hl [1, 2, 3, 0] rfl) S hf
      · replace hf := (if_neg c11).symm.trans hf
        refine lv_iload_n X.1 X.2.1 dX4_firstChange_54 rfl (lv_at hl 3 rfl) ?_
        cases hf; exact g_ri X S hr hlk dX4_firstChange_55
theorem wfX4_firstChange_10_l {r9 : Int32} {h9 : Hp} (X : Cx p E A 13 R s m args c cX4_firstChange yX4_firstChange.cls 4) (hr : meth.sig.returnType = (some .int)) (hlk : meth.locks = false) (hnm : meth.name = yX4_firstChange.name) :
    ∀ (n : Nat) (x0 : Nat) (x1 : Nat) (x2 : Int32) (x3 : Int32) (h : Hp) (H : Heap) (locs : List Loc) (ls : Array Slot), lv_has ls 4 [(0, rv x0), (1, rv x1), (2, .int x2), (3, .int x3)] → St E A s h H locs → lp (fun _ _ _ _ _ => none) (fX4_firstChange_10) n x0 x1 x2 x3 h = some (r9, h9) → W p l e R s m args below meth c H locs 0 0 (MQ below (Qi E A h9 r9) args s 0 0 A) (F0 m 10 ls []) := by
  intro n
  induction n with
  | zero =>
    intro x0 x1 x2 x3 h H locs ls hl S hf
    exact nomatch hf
  | succ n ih =>
    intro x0 x1 x2 x3 h H locs ls hl S hf
    exact wfX4_firstChange_10 X hr hlk hnm ih x0 x1 x2 x3 h H locs ls hl S hf
def fX4_firstChange (a0 : Nat) (a1 : Nat) (a2 : Int32) (h : Hp) : Option (Int32 × Hp) := gd 4 a0 h (ob (gR 4 a0 1 h) fun v1 => ob (fX10_become v1 a1 h) fun h => lp (fun _ _ _ _ _ => none) (fX4_firstChange_10) FU a0 a1 a2 1 h)
theorem tkX4_firstChange {a0 : Nat} {a1 : Nat} {a2 : Int32} {h : Hp} {r9 : Int32 × Hp} (e : fX4_firstChange a0 a1 a2 h = some r9) : hK h a0 = 4 := by
  unfold fX4_firstChange at e
  exact (gd_some e).1
theorem cX4_firstChange_m (l : Launch) {E : EE} {A : Nat → Prop} {a0 : Nat} {a1 : Nat} {a2 : Int32} {h : Hp} {r9 : Int32} {h9 : Hp} (hf : fX4_firstChange a0 a1 a2 h = some (r9, h9)) : Met l yX4_firstChange (wsM yX4_firstChange cX4_firstChange 4 (some .int)) (rmm 13 0 0) (PcE E A h [rv a0, rv a1, .int a2]) (Qi E A h9 r9) 0 0 A := by
  refine met_of (by decide +kernel) (by simp [lg_sl, cat_rv, cat_wv, cat_sv, cat_i, cat_l, cat_a]) (fun p e s m args below meth c ls X hr hlk hnm S hl => ?_)
  have hl : lv_has ls 4 [(0, rv a0), (1, rv a1), (2, .int a2)] := by simpa [lv_args, cat_rv, cat_wv, cat_sv, cat_i, cat_l, cat_a] using hl
  generalize hH : s.heap = H at S ⊢
  generalize hlo : ([] : List Loc) = locs at S ⊢
  clear hH hlo
  unfold fX4_firstChange at hf
  obtain ⟨hth, hf⟩ := gd_some hf
  refine g_aload_n X (or_rv _) dX4_firstChange_0 rfl (lv_at hl 0 rfl) ?_
  refine g_gR X S foX4_21 dX4_firstChange_1 hf (fun v1 hf => ?_)
  refine g_aload_n X (or_rv _) dX4_firstChange_4 rfl (lv_at hl 1 rfl) ?_
  obtain ⟨h, hc, hf⟩ := ob_some hf
  refine g_cv S (runV (As := [rv a1]) (rest := []) X S coX4_32 (by decide) (cX10_become_m l hc) (tkX10_become hc) rfl hl.1 (by decide) rfl ⟨Nat.zero_le _, Nat.zero_le _⟩ dX4_firstChange_5) (fun H locs S => ?_)
  refine lv_iconst (v := 1) X.1 X.2.1 dX4_firstChange_8 (by decide) ?_
  refine lv_istore_n (i := 3) (lv' := [(3, .int 1), (0, rv a0), (1, rv a1), (2, .int a2)]) X.1 X.2.1 dX4_firstChange_9 rfl hl (by decide) rfl (fun ls hl => ?_)
  exact wfX4_firstChange_10_l X hr hlk hnm FU _ _ _ _ _ _ _ _ (lv_sub hl [1, 2, 3, 0] rfl) S hf
def fX4_firstReturn_38 (k10 : Nat → Nat → Int32 → Hp → Option (Int32 × Hp)) (x0 : Nat) (x1 : Nat) (x2 : Int32) (h : Hp) : Option (Int32 × Hp) := ob (gR 4 x0 1 h) fun v1 => ob (fX10_alike v1 x1 276 (-1) h) fun v2 => if v2 = 0 then lt (x2 + 1) fun z4 => k10 x0 x1 z4 h else some (x2, h)
theorem wfX4_firstReturn_38 {k10 : Nat → Nat → Int32 → Hp → Option (Int32 × Hp)} {r9 : Int32} {h9 : Hp} (X : Cx p E A 13 R s m args c cX4_firstReturn yX4_firstReturn.cls 3) (hr : meth.sig.returnType = (some .int)) (hlk : meth.locks = false) (hnm : meth.name = yX4_firstReturn.name) (hk10 : ∀ (x0 : Nat) (x1 : Nat) (x2 : Int32) (h : Hp) (H : Heap) (locs : List Loc) (ls : Array Slot), lv_has ls 3 [(0, rv x0), (1, rv x1), (2, .int x2)] → St E A s h H locs → k10 x0 x1 x2 h = some (r9, h9) → W p l e R s m args below meth c H locs 0 0 (MQ below (Qi E A h9 r9) args s 0 0 A) (F0 m 10 ls [])) :
    ∀ (x0 : Nat) (x1 : Nat) (x2 : Int32) (h : Hp) (H : Heap) (locs : List Loc) (ls : Array Slot), lv_has ls 3 [(0, rv x0), (1, rv x1), (2, .int x2)] → St E A s h H locs → fX4_firstReturn_38 k10 x0 x1 x2 h = some (r9, h9) → W p l e R s m args below meth c H locs 0 0 (MQ below (Qi E A h9 r9) args s 0 0 A) (F0 m 38 ls []) := by
  intro x0 x1 x2 h H locs ls hl S hf
  unfold fX4_firstReturn_38 at hf
  refine g_aload_n X (or_rv _) dX4_firstReturn_38 rfl (lv_at hl 0 rfl) ?_
  refine g_gR X S foX4_21 dX4_firstReturn_39 hf (fun v1 hf => ?_)
  refine g_aload_n X (or_rv _) dX4_firstReturn_42 rfl (lv_at hl 1 rfl) ?_
  refine lv_sipush (v := 276) X.1 X.2.1 dX4_firstReturn_43 (by decide) ?_
  refine lv_iconst (v := (-1)) X.1 X.2.1 dX4_firstReturn_46 (by decide) ?_
  obtain ⟨v2, hc, hf⟩ := ob_some hf
  refine g_ci S (runV (As := [rv x1, .int 276, .int (-1)]) (rest := []) X S coX4_48 (by decide) (cX10_alike_m l hc) (tkX10_alike hc) rfl hl.1 (by decide) rfl ⟨Nat.zero_le _, Nat.zero_le _⟩ dX4_firstReturn_47) (fun H locs S => ?_)
  refine lv_if_eq (tgt := 55) X.1 X.2.1 dX4_firstReturn_50 (by decide) (fun c3 => ?_) (fun c3 => ?_)
  · replace hf := (if_pos c3).symm.trans hf
    obtain ⟨z4, ez4, hf⟩ := lt_some hf
    refine lv_iinc (v := z4) (lv' := [(2, .int z4), (0, rv x0), (1, rv x1)]) X.1 X.2.1 dX4_firstReturn_55 hl (k := 2) rfl (by rw [← ez4]; rfl) (by decide) (by simp [List.filter, cat_rv, cat_wv, cat_sv]) (fun ls hl => ?_)
    refine lv_goto (tgt := 10) X.1 X.2.1 dX4_firstReturn_58 (by decide) ?_
    exact hk10 _ _ _ _ _ _ _ (lv_sub hl [1, 2, 0] rfl) S hf
  · replace hf := (if_neg c3).symm.trans hf
    refine lv_iload_n X.1 X.2.1 dX4_firstReturn_53 rfl (lv_at hl 2 rfl) ?_
    cases hf; exact g_ri X S hr hlk dX4_firstReturn_54
def fX4_firstReturn_10 (k10 : Nat → Nat → Int32 → Hp → Option (Int32 × Hp)) (x0 : Nat) (x1 : Nat) (x2 : Int32) (h : Hp) : Option (Int32 × Hp) := if 100 < x2 then some ((-1), h) else ob (gR 4 x0 1 h) fun v2 => ob (fX10_running v2 h) fun v3 => if v3 = 0 then fX4_firstReturn_38 k10 x0 x1 x2 h else ob (gR 4 x0 0 h) fun v5 => ob (gR 4 x0 1 h) fun v6 => ob2 (fX9_step v5 v6 h) fun v7 h => fX4_firstReturn_38 k10 x0 x1 x2 h
theorem wfX4_firstReturn_10 {k10 : Nat → Nat → Int32 → Hp → Option (Int32 × Hp)} {r9 : Int32} {h9 : Hp} (X : Cx p E A 13 R s m args c cX4_firstReturn yX4_firstReturn.cls 3) (hr : meth.sig.returnType = (some .int)) (hlk : meth.locks = false) (hnm : meth.name = yX4_firstReturn.name) (hk10 : ∀ (x0 : Nat) (x1 : Nat) (x2 : Int32) (h : Hp) (H : Heap) (locs : List Loc) (ls : Array Slot), lv_has ls 3 [(0, rv x0), (1, rv x1), (2, .int x2)] → St E A s h H locs → k10 x0 x1 x2 h = some (r9, h9) → W p l e R s m args below meth c H locs 0 0 (MQ below (Qi E A h9 r9) args s 0 0 A) (F0 m 10 ls [])) :
    ∀ (x0 : Nat) (x1 : Nat) (x2 : Int32) (h : Hp) (H : Heap) (locs : List Loc) (ls : Array Slot), lv_has ls 3 [(0, rv x0), (1, rv x1), (2, .int x2)] → St E A s h H locs → fX4_firstReturn_10 k10 x0 x1 x2 h = some (r9, h9) → W p l e R s m args below meth c H locs 0 0 (MQ below (Qi E A h9 r9) args s 0 0 A) (F0 m 10 ls []) := by
  intro x0 x1 x2 h H locs ls hl S hf
  unfold fX4_firstReturn_10 at hf
  refine lv_iload_n X.1 X.2.1 dX4_firstReturn_10 rfl (lv_at hl 2 rfl) ?_
  refine lv_bipush (v := 100) X.1 X.2.1 dX4_firstReturn_11 (by decide) ?_
  refine lv_icmp_gt (tgt := 61) X.1 X.2.1 dX4_firstReturn_13 (by decide) (fun c1 => ?_) (fun c1 => ?_)
  · replace hf := (if_pos c1).symm.trans hf
    refine lv_iconst (v := (-1)) X.1 X.2.1 dX4_firstReturn_61 (by decide) ?_
    cases hf; exact g_ri X S hr hlk dX4_firstReturn_62
  · replace hf := (if_neg c1).symm.trans hf
    refine g_aload_n X (or_rv _) dX4_firstReturn_16 rfl (lv_at hl 0 rfl) ?_
    refine g_gR X S foX4_21 dX4_firstReturn_17 hf (fun v2 hf => ?_)
    obtain ⟨v3, hc, hf⟩ := ob_some hf
    refine g_ci S (runV (As := []) (rest := []) X S coX4_36 (by decide) (cX10_running_m l hc) (tkX10_running hc) rfl hl.1 (by decide) rfl ⟨Nat.zero_le _, Nat.zero_le _⟩ dX4_firstReturn_20) (fun H locs S => ?_)
    refine lv_if_eq (tgt := 38) X.1 X.2.1 dX4_firstReturn_23 (by decide) (fun c4 => ?_) (fun c4 => ?_)
    · replace hf := (if_pos c4).symm.trans hf
      exact wfX4_firstReturn_38 X hr hlk hnm hk10 _ _ _ _ _ _ _ hl S hf
    · replace hf := (if_neg c4).symm.trans hf
      refine g_aload_n X (or_rv _) dX4_firstReturn_26 rfl (lv_at hl 0 rfl) ?_
      refine g_gR X S foX4_12 dX4_firstReturn_27 hf (fun v5 hf => ?_)
      refine g_aload_n X (or_rv _) dX4_firstReturn_30 rfl (lv_at hl 0 rfl) ?_
      refine g_gR X S foX4_21 dX4_firstReturn_31 hf (fun v6 hf => ?_)
      obtain ⟨v7, h, hc, hf⟩ := ob2_some hf
      refine g_ci S (runV (As := [rv v6]) (rest := []) X S coX4_40 (by decide) (cX9_step_m l hc) (tkX9_step hc) rfl hl.1 (by decide) rfl ⟨Nat.zero_le _, Nat.zero_le _⟩ dX4_firstReturn_34) (fun H locs S => ?_)
      refine lv_pop X.1 X.2.1 dX4_firstReturn_37 rfl ?_
      exact wfX4_firstReturn_38 X hr hlk hnm hk10 _ _ _ _ _ _ _ hl S hf
theorem wfX4_firstReturn_10_l {r9 : Int32} {h9 : Hp} (X : Cx p E A 13 R s m args c cX4_firstReturn yX4_firstReturn.cls 3) (hr : meth.sig.returnType = (some .int)) (hlk : meth.locks = false) (hnm : meth.name = yX4_firstReturn.name) :
    ∀ (n : Nat) (x0 : Nat) (x1 : Nat) (x2 : Int32) (h : Hp) (H : Heap) (locs : List Loc) (ls : Array Slot), lv_has ls 3 [(0, rv x0), (1, rv x1), (2, .int x2)] → St E A s h H locs → lp (fun _ _ _ _ => none) (fX4_firstReturn_10) n x0 x1 x2 h = some (r9, h9) → W p l e R s m args below meth c H locs 0 0 (MQ below (Qi E A h9 r9) args s 0 0 A) (F0 m 10 ls []) := by
  intro n
  induction n with
  | zero =>
    intro x0 x1 x2 h H locs ls hl S hf
    exact nomatch hf
  | succ n ih =>
    intro x0 x1 x2 h H locs ls hl S hf
    exact wfX4_firstReturn_10 X hr hlk hnm ih x0 x1 x2 h H locs ls hl S hf
def fX4_firstReturn (a0 : Nat) (a1 : Nat) (h : Hp) : Option (Int32 × Hp) := gd 4 a0 h (ob (gR 4 a0 1 h) fun v1 => ob (fX10_become v1 a1 h) fun h => lp (fun _ _ _ _ => none) (fX4_firstReturn_10) FU a0 a1 1 h)
theorem tkX4_firstReturn {a0 : Nat} {a1 : Nat} {h : Hp} {r9 : Int32 × Hp} (e : fX4_firstReturn a0 a1 h = some r9) : hK h a0 = 4 := by
  unfold fX4_firstReturn at e
  exact (gd_some e).1
theorem cX4_firstReturn_m (l : Launch) {E : EE} {A : Nat → Prop} {a0 : Nat} {a1 : Nat} {h : Hp} {r9 : Int32} {h9 : Hp} (hf : fX4_firstReturn a0 a1 h = some (r9, h9)) : Met l yX4_firstReturn (wsM yX4_firstReturn cX4_firstReturn 3 (some .int)) (rmm 13 0 0) (PcE E A h [rv a0, rv a1]) (Qi E A h9 r9) 0 0 A := by
  refine met_of (by decide +kernel) (by simp [lg_sl, cat_rv, cat_wv, cat_sv, cat_i, cat_l, cat_a]) (fun p e s m args below meth c ls X hr hlk hnm S hl => ?_)
  have hl : lv_has ls 3 [(0, rv a0), (1, rv a1)] := by simpa [lv_args, cat_rv, cat_wv, cat_sv, cat_i, cat_l, cat_a] using hl
  generalize hH : s.heap = H at S ⊢
  generalize hlo : ([] : List Loc) = locs at S ⊢
  clear hH hlo
  unfold fX4_firstReturn at hf
  obtain ⟨hth, hf⟩ := gd_some hf
  refine g_aload_n X (or_rv _) dX4_firstReturn_0 rfl (lv_at hl 0 rfl) ?_
  refine g_gR X S foX4_21 dX4_firstReturn_1 hf (fun v1 hf => ?_)
  refine g_aload_n X (or_rv _) dX4_firstReturn_4 rfl (lv_at hl 1 rfl) ?_
  obtain ⟨h, hc, hf⟩ := ob_some hf
  refine g_cv S (runV (As := [rv a1]) (rest := []) X S coX4_32 (by decide) (cX10_become_m l hc) (tkX10_become hc) rfl hl.1 (by decide) rfl ⟨Nat.zero_le _, Nat.zero_le _⟩ dX4_firstReturn_5) (fun H locs S => ?_)
  refine lv_iconst (v := 1) X.1 X.2.1 dX4_firstReturn_8 (by decide) ?_
  refine lv_istore_n (i := 2) (lv' := [(2, .int 1), (0, rv a0), (1, rv a1)]) X.1 X.2.1 dX4_firstReturn_9 rfl hl (by decide) (by simp [List.filter, cat_rv, cat_wv, cat_sv]) (fun ls hl => ?_)
  exact wfX4_firstReturn_10_l X hr hlk hnm FU _ _ _ _ _ _ _ (lv_sub hl [1, 2, 0] rfl) S hf
def fX12_round (a0 : Nat) (h : Hp) : Option (Int32 × Hp) := gd 10 a0 h (ob (gR 10 a0 5 h) fun v1 => ob (gR 10 a0 10 h) fun v2 => ob (gR 2 v2 0 h) fun v3 => ob2 (fX4_firstReturn v1 v3 h) fun v4 h => some (v4, h))
theorem tkX12_round {a0 : Nat} {h : Hp} {r9 : Int32 × Hp} (e : fX12_round a0 h = some r9) : hK h a0 = 10 := by
  unfold fX12_round at e
  exact (gd_some e).1
theorem cX12_round_m (l : Launch) {E : EE} {A : Nat → Prop} {a0 : Nat} {h : Hp} {r9 : Int32} {h9 : Hp} (hf : fX12_round a0 h = some (r9, h9)) : Met l yX12_round (wsM yX12_round cX12_round 1 (some .int)) (rmm 14 0 0) (PcE E A h [rv a0]) (Qi E A h9 r9) 0 0 A := by
  refine met_of (by decide +kernel) (by simp [lg_sl, cat_rv, cat_wv, cat_sv, cat_i, cat_l, cat_a]) (fun p e s m args below meth c ls X hr hlk hnm S hl => ?_)
  have hl : lv_has ls 1 [(0, rv a0)] := by simpa [lv_args, cat_rv, cat_wv, cat_sv, cat_i, cat_l, cat_a] using hl
  generalize hH : s.heap = H at S ⊢
  generalize hlo : ([] : List Loc) = locs at S ⊢
  clear hH hlo
  unfold fX12_round at hf
  obtain ⟨hth, hf⟩ := gd_some hf
  refine g_aload_n X (or_rv _) dX12_round_0 rfl (lv_at hl 0 rfl) ?_
  refine g_gR X S foX12_34 dX12_round_1 hf (fun v1 hf => ?_)
  refine g_aload_n X (or_rv _) dX12_round_4 rfl (lv_at hl 0 rfl) ?_
  refine g_gR X S foX12_61 dX12_round_5 hf (fun v2 hf => ?_)
  refine g_gR X S foX12_107 dX12_round_8 hf (fun v3 hf => ?_)
  obtain ⟨v4, h, hc, hf⟩ := ob2_some hf
  refine g_ci S (runV (As := [rv v3]) (rest := []) X S coX12_270 (by decide) (cX4_firstReturn_m l hc) (tkX4_firstReturn hc) rfl hl.1 (by decide) rfl ⟨Nat.zero_le _, Nat.zero_le _⟩ dX12_round_11) (fun H locs S => ?_)
  cases hf; exact g_ri X S hr hlk dX12_round_14
def fX4_clearTold (a0 : Nat) (h : Hp) : Option (Hp) := gd 4 a0 h (ob (gR 4 a0 3 h) fun v1 => ob (qI v1 0 0 h) fun h => ob (gR 4 a0 3 h) fun v2 => ob (qI v2 1 0 h) fun h => ob (gR 4 a0 3 h) fun v3 => ob (qI v3 2 0 h) fun h => ob (gR 4 a0 3 h) fun v4 => ob (qI v4 3 (-1) h) fun h => some h)
theorem tkX4_clearTold {a0 : Nat} {h : Hp} {r9 : Hp} (e : fX4_clearTold a0 h = some r9) : hK h a0 = 4 := by
  unfold fX4_clearTold at e
  exact (gd_some e).1
theorem cX4_clearTold_m (l : Launch) {E : EE} {A : Nat → Prop} {a0 : Nat} {h : Hp} {h9 : Hp} (hf : fX4_clearTold a0 h = some h9) : Met l yX4_clearTold (wsM yX4_clearTold cX4_clearTold 1 none) (rmm 8 0 0) (PcE E A h [rv a0]) (Qv E A h9) 0 0 A := by
  refine met_of (by decide +kernel) (by simp [lg_sl, cat_rv, cat_wv, cat_sv, cat_i, cat_l, cat_a]) (fun p e s m args below meth c ls X hr hlk hnm S hl => ?_)
  have hl : lv_has ls 1 [(0, rv a0)] := by simpa [lv_args, cat_rv, cat_wv, cat_sv, cat_i, cat_l, cat_a] using hl
  generalize hH : s.heap = H at S ⊢
  generalize hlo : ([] : List Loc) = locs at S ⊢
  clear hH hlo
  unfold fX4_clearTold at hf
  obtain ⟨hth, hf⟩ := gd_some hf
  refine g_aload_n X (or_rv _) dX4_clearTold_0 rfl (lv_at hl 0 rfl) ?_
  refine g_gR X S foX4_28 dX4_clearTold_1 hf (fun v1 hf => ?_)
  refine lv_iconst (v := 0) X.1 X.2.1 dX4_clearTold_4 (by decide) ?_
  refine lv_iconst (v := 0) X.1 X.2.1 dX4_clearTold_5 (by decide) ?_
  refine g_qI X S dX4_clearTold_6 hf (fun h H locs hm hf S => ?_)
  refine g_aload_n X (or_rv _) dX4_clearTold_7 rfl (lv_at hl 0 rfl) ?_
  refine g_gR X S foX4_28 dX4_clearTold_8 hf (fun v2 hf => ?_)
  refine lv_iconst (v := 1) X.1 X.2.1 dX4_clearTold_11 (by decide) ?_
  refine lv_iconst (v := 0) X.1 X.2.1 dX4_clearTold_12 (by decide) ?_
  refine g_qI X S dX4_clearTold_13 hf (fun h H locs hm hf S => ?_)
  refine g_aload_n X (or_rv _) dX4_clearTold_14 rfl (lv_at hl 0 rfl) ?_
  refine g_gR X S foX4_28 dX4_clearTold_15 hf (fun v3 hf => ?_)
  refine lv_iconst (v := 2) X.1 X.2.1 dX4_clearTold_18 (by decide) ?_
  refine lv_iconst (v := 0) X.1 X.2.1 dX4_clearTold_19 (by decide) ?_
  refine g_qI X S dX4_clearTold_20 hf (fun h H locs hm hf S => ?_)
  refine g_aload_n X (or_rv _) dX4_clearTold_21 rfl (lv_at hl 0 rfl) ?_
  refine g_gR X S foX4_28 dX4_clearTold_22 hf (fun v4 hf => ?_)
  refine lv_iconst (v := 3) X.1 X.2.1 dX4_clearTold_25 (by decide) ?_
  refine lv_iconst (v := (-1)) X.1 X.2.1 dX4_clearTold_26 (by decide) ?_
  refine g_qI X S dX4_clearTold_27 hf (fun h H locs hm hf S => ?_)
  cases hf; exact g_rv X S hr hlk dX4_clearTold_28
def fX4_runToFault_5 (k5 : Nat → Nat → Int32 → Int32 → Int32 → Hp → Option (Int32 × Hp)) (x0 : Nat) (x1 : Nat) (x2 : Int32) (x3 : Int32) (x4 : Int32) (h : Hp) : Option (Int32 × Hp) := if x2 ≤ x4 then some (x3, h) else ob (fX10_running x1 h) fun v2 => if v2 = 0 then some (x3, h) else if x3 = 0 then ob (gR 4 x0 0 h) fun v5 => ob2 (fX9_step v5 x1 h) fun v6 h => lt (x4 + 1) fun z7 => k5 x0 x1 x2 v6 z7 h else some (x3, h)
theorem wfX4_runToFault_5 {k5 : Nat → Nat → Int32 → Int32 → Int32 → Hp → Option (Int32 × Hp)} {r9 : Int32} {h9 : Hp} (X : Cx p E A 13 R s m args c cX4_runToFault yX4_runToFault.cls 5) (hr : meth.sig.returnType = (some .int)) (hlk : meth.locks = false) (hnm : meth.name = yX4_runToFault.name) (hk5 : ∀ (x0 : Nat) (x1 : Nat) (x2 : Int32) (x3 : Int32) (x4 : Int32) (h : Hp) (H : Heap) (locs : List Loc) (ls : Array Slot), lv_has ls 5 [(0, rv x0), (1, rv x1), (2, .int x2), (3, .int x3), (4, .int x4)] → St E A s h H locs → k5 x0 x1 x2 x3 x4 h = some (r9, h9) → W p l e R s m args below meth c H locs 0 0 (MQ below (Qi E A h9 r9) args s 0 0 A) (F0 m 5 ls [])) :
    ∀ (x0 : Nat) (x1 : Nat) (x2 : Int32) (x3 : Int32) (x4 : Int32) (h : Hp) (H : Heap) (locs : List Loc) (ls : Array Slot), lv_has ls 5 [(0, rv x0), (1, rv x1), (2, .int x2), (3, .int x3), (4, .int x4)] → St E A s h H locs → fX4_runToFault_5 k5 x0 x1 x2 x3 x4 h = some (r9, h9) → W p l e R s m args below meth c H locs 0 0 (MQ below (Qi E A h9 r9) args s 0 0 A) (F0 m 5 ls []) := by
  intro x0 x1 x2 x3 x4 h H locs ls hl S hf
  unfold fX4_runToFault_5 at hf
  refine lv_iload X.1 X.2.1 dX4_runToFault_5 (lv_at hl 4 rfl) ?_
  refine lv_iload_n X.1 X.2.1 dX4_runToFault_7 rfl (lv_at hl 2 rfl) ?_
  refine lv_icmp_ge (tgt := 37) X.1 X.2.1 dX4_runToFault_8 (by decide) (fun c1 => ?_) (fun c1 => ?_)
  · replace hf := (if_pos c1).symm.trans hf
    refine lv_iload_n X.1 X.2.1 dX4_runToFault_37 rfl (lv_at hl 3 rfl) ?_
    cases hf; exact g_ri X S hr hlk dX4_runToFault_38
  · replace hf := (if_neg c1).symm.trans hf
    refine g_aload_n X (or_rv _) dX4_runToFault_11 rfl (lv_at hl 1 rfl) ?_
    obtain ⟨v2, hc, hf⟩ := ob_some hf
    refine g_ci S (runV (As := []) (rest := []) X S coX4_36 (by decide) (cX10_running_m l hc) (tkX10_running hc) rfl hl.1 (by decide) rfl ⟨Nat.zero_le _, Nat.zero_le _⟩ dX4_runToFault_12) (fun H locs S => ?_)
    refine lv_if_eq (tgt := 37) X.1 X.2.1 dX4_runToFault_15 (by decide) (fun c3 => ?_) (fun c3 => ?_)
    · replace hf := (if_pos c3).symm.trans hf
      refine lv_iload_n X.1 X.2.1 dX4_runToFault_37 rfl (lv_at hl 3 rfl) ?_
      cases hf; exact g_ri X S hr hlk dX4_runToFault_38
    · replace hf := (if_neg c3).symm.trans hf
      refine lv_iload_n X.1 X.2.1 dX4_runToFault_18 rfl (lv_at hl 3 rfl) ?_
      refine lv_if_ne (tgt := 37) X.1 X.2.1 dX4_runToFault_19 (by decide) (fun c4 => ?_) (fun c4 => ?_)
      · replace hf := (if_neg c4).symm.trans hf
        refine lv_iload_n X.1 X.2.1 dX4_runToFault_37 rfl (lv_at hl 3 rfl) ?_
        cases hf; exact g_ri X S hr hlk dX4_runToFault_38
      · replace hf := (if_pos c4).symm.trans hf
        refine g_aload_n X (or_rv _) dX4_runToFault_22 rfl (lv_at hl 0 rfl) ?_
        refine g_gR X S foX4_12 dX4_runToFault_23 hf (fun v5 hf => ?_)
        refine g_aload_n X (or_rv _) dX4_runToFault_26 rfl (lv_at hl 1 rfl) ?_
        obtain ⟨v6, h, hc, hf⟩ := ob2_some hf
        refine g_ci S (runV (As := [rv x1]) (rest := []) X S coX4_40 (by decide) (cX9_step_m l hc) (tkX9_step hc) rfl hl.1 (by decide) rfl ⟨Nat.zero_le _, Nat.zero_le _⟩ dX4_runToFault_27) (fun H locs S => ?_)
        refine lv_istore_n (i := 3) (lv' := [(3, .int v6), (0, rv x0), (1, rv x1), (2, .int x2), (4, .int x4)]) X.1 X.2.1 dX4_runToFault_30 rfl hl (by decide) rfl (fun ls hl => ?_)
        obtain ⟨z7, ez7, hf⟩ := lt_some hf
        refine lv_iinc (v := z7) (lv' := [(4, .int z7), (3, .int v6), (0, rv x0), (1, rv x1), (2, .int x2)]) X.1 X.2.1 dX4_runToFault_31 hl (k := 4) rfl (by rw [← ez7]; rfl) (by decide) rfl (fun ls hl => ?_)
        refine lv_goto (tgt := 5) X.1 X.2.1 dX4_runToFault_34 (by decide) ?_
        exact hk5 _ _ _ _ _ _ _ _ _ (lv_sub hl [2, 3, 4, 1, 0] rfl) S hf
theorem wfX4_runToFault_5_l {r9 : Int32} {h9 : Hp} (X : Cx p E A 13 R s m args c cX4_runToFault yX4_runToFault.cls 5) (hr : meth.sig.returnType = (some .int)) (hlk : meth.locks = false) (hnm : meth.name = yX4_runToFault.name) :
    ∀ (n : Nat) (x0 : Nat) (x1 : Nat) (x2 : Int32) (x3 : Int32) (x4 : Int32) (h : Hp) (H : Heap) (locs : List Loc) (ls : Array Slot), lv_has ls 5 [(0, rv x0), (1, rv x1), (2, .int x2), (3, .int x3), (4, .int x4)] → St E A s h H locs → lp (fun _ _ _ _ _ _ => none) (fX4_runToFault_5) n x0 x1 x2 x3 x4 h = some (r9, h9) → W p l e R s m args below meth c H locs 0 0 (MQ below (Qi E A h9 r9) args s 0 0 A) (F0 m 5 ls []) := by
  intro n
  induction n with
  | zero =>
    intro x0 x1 x2 x3 x4 h H locs ls hl S hf
    exact nomatch hf
  | succ n ih =>
    intro x0 x1 x2 x3 x4 h H locs ls hl S hf
    exact wfX4_runToFault_5 X hr hlk hnm ih x0 x1 x2 x3 x4 h H locs ls hl S hf
def fX4_runToFault (a0 : Nat) (a1 : Nat) (a2 : Int32) (h : Hp) : Option (Int32 × Hp) := gd 4 a0 h (lp (fun _ _ _ _ _ _ => none) (fX4_runToFault_5) FU a0 a1 a2 0 0 h)
theorem tkX4_runToFault {a0 : Nat} {a1 : Nat} {a2 : Int32} {h : Hp} {r9 : Int32 × Hp} (e : fX4_runToFault a0 a1 a2 h = some r9) : hK h a0 = 4 := by
  unfold fX4_runToFault at e
  exact (gd_some e).1
theorem cX4_runToFault_m (l : Launch) {E : EE} {A : Nat → Prop} {a0 : Nat} {a1 : Nat} {a2 : Int32} {h : Hp} {r9 : Int32} {h9 : Hp} (hf : fX4_runToFault a0 a1 a2 h = some (r9, h9)) : Met l yX4_runToFault (wsM yX4_runToFault cX4_runToFault 5 (some .int)) (rmm 13 0 0) (PcE E A h [rv a0, rv a1, .int a2]) (Qi E A h9 r9) 0 0 A := by
  refine met_of (by decide +kernel) (by simp [lg_sl, cat_rv, cat_wv, cat_sv, cat_i, cat_l, cat_a]) (fun p e s m args below meth c ls X hr hlk hnm S hl => ?_)
  have hl : lv_has ls 5 [(0, rv a0), (1, rv a1), (2, .int a2)] := by simpa [lv_args, cat_rv, cat_wv, cat_sv, cat_i, cat_l, cat_a] using hl
  generalize hH : s.heap = H at S ⊢
  generalize hlo : ([] : List Loc) = locs at S ⊢
  clear hH hlo
  unfold fX4_runToFault at hf
  obtain ⟨hth, hf⟩ := gd_some hf
  refine lv_iconst (v := 0) X.1 X.2.1 dX4_runToFault_0 (by decide) ?_
  refine lv_istore_n (i := 3) (lv' := [(3, .int 0), (0, rv a0), (1, rv a1), (2, .int a2)]) X.1 X.2.1 dX4_runToFault_1 rfl hl (by decide) rfl (fun ls hl => ?_)
  refine lv_iconst (v := 0) X.1 X.2.1 dX4_runToFault_2 (by decide) ?_
  refine lv_istore (lv' := [(4, .int 0), (3, .int 0), (0, rv a0), (1, rv a1), (2, .int a2)]) X.1 X.2.1 dX4_runToFault_3 hl (by decide) rfl (fun ls hl => ?_)
  exact wfX4_runToFault_5_l X hr hlk hnm FU _ _ _ _ _ _ _ _ _ (lv_sub hl [2, 3, 4, 1, 0] rfl) S hf
def fX4_verdict_10 (h : Hp) (k15 : Nat → Int32 → Int32 → Int32 → Int32 → Option (Int32)) (x0 : Nat) (x1 : Int32) (x2 : Int32) (x3 : Int32) : Option (Int32) := k15 x0 x1 x2 x3 1
theorem wfX4_verdict_10 {h : Hp} {k15 : Nat → Int32 → Int32 → Int32 → Int32 → Option (Int32)} {r9 : Int32} (X : Cx p E A 9 R s m args c cX4_verdict yX4_verdict.cls 5) (hr : meth.sig.returnType = (some .int)) (hlk : meth.locks = false) (hnm : meth.name = yX4_verdict.name) (hk15 : ∀ (x0 : Nat) (x1 : Int32) (x2 : Int32) (x3 : Int32) (y0 : Int32) (H : Heap) (locs : List Loc) (ls : Array Slot), lv_has ls 5 [(0, rv x0), (1, .int x1), (2, .int x2), (3, .int x3)] → St E A s h H locs → k15 x0 x1 x2 x3 y0 = some r9 → W p l e R s m args below meth c H locs 0 0 (MQ below (Qi E A h r9) args s 0 0 A) (F0 m 15 ls [.int y0])) :
    ∀ (x0 : Nat) (x1 : Int32) (x2 : Int32) (x3 : Int32) (H : Heap) (locs : List Loc) (ls : Array Slot), lv_has ls 5 [(0, rv x0), (1, .int x1), (2, .int x2), (3, .int x3)] → St E A s h H locs → fX4_verdict_10 h k15 x0 x1 x2 x3 = some r9 → W p l e R s m args below meth c H locs 0 0 (MQ below (Qi E A h r9) args s 0 0 A) (F0 m 10 ls []) := by
  intro x0 x1 x2 x3 H locs ls hl S hf
  unfold fX4_verdict_10 at hf
  refine lv_iconst (v := 1) X.1 X.2.1 dX4_verdict_10 (by decide) ?_
  refine lv_goto (tgt := 15) X.1 X.2.1 dX4_verdict_11 (by decide) ?_
  exact hk15 _ _ _ _ _ _ _ _ hl S hf
def fX4_verdict_56 (h : Hp) (x0 : Nat) (x1 : Int32) (x2 : Int32) (x3 : Int32) : Option (Int32) := if x2 = 0 then if x3 = 0 then some 2 else ob (gR 4 x0 1 h) fun v3 => ob (gR 4 x0 2 h) fun v4 => ob (fX10_alike v3 v4 266 (x1 >>> (1 &&& 31)) h) fun v5 => if v5 = 0 then some 2 else some 1 else some 2
theorem wfX4_verdict_56 {h : Hp} {r9 : Int32} (X : Cx p E A 9 R s m args c cX4_verdict yX4_verdict.cls 5) (hr : meth.sig.returnType = (some .int)) (hlk : meth.locks = false) (hnm : meth.name = yX4_verdict.name) :
    ∀ (x0 : Nat) (x1 : Int32) (x2 : Int32) (x3 : Int32) (H : Heap) (locs : List Loc) (ls : Array Slot), lv_has ls 5 [(0, rv x0), (1, .int x1), (2, .int x2), (3, .int x3)] → St E A s h H locs → fX4_verdict_56 h x0 x1 x2 x3 = some r9 → W p l e R s m args below meth c H locs 0 0 (MQ below (Qi E A h r9) args s 0 0 A) (F0 m 56 ls []) := by
  intro x0 x1 x2 x3 H locs ls hl S hf
  unfold fX4_verdict_56 at hf
  refine lv_iload_n X.1 X.2.1 dX4_verdict_56 rfl (lv_at hl 2 rfl) ?_
  refine lv_if_ne (tgt := 88) X.1 X.2.1 dX4_verdict_57 (by decide) (fun c1 => ?_) (fun c1 => ?_)
  · replace hf := (if_neg c1).symm.trans hf
    refine lv_iconst (v := 2) X.1 X.2.1 dX4_verdict_88 (by decide) ?_
    cases hf; exact g_ri X S hr hlk dX4_verdict_89
  · replace hf := (if_pos c1).symm.trans hf
    refine lv_iload_n X.1 X.2.1 dX4_verdict_60 rfl (lv_at hl 3 rfl) ?_
    refine lv_if_eq (tgt := 88) X.1 X.2.1 dX4_verdict_61 (by decide) (fun c2 => ?_) (fun c2 => ?_)
    · replace hf := (if_pos c2).symm.trans hf
      refine lv_iconst (v := 2) X.1 X.2.1 dX4_verdict_88 (by decide) ?_
      cases hf; exact g_ri X S hr hlk dX4_verdict_89
    · replace hf := (if_neg c2).symm.trans hf
      refine g_aload_n X (or_rv _) dX4_verdict_64 rfl (lv_at hl 0 rfl) ?_
      refine g_gR X S foX4_21 dX4_verdict_65 hf (fun v3 hf => ?_)
      refine g_aload_n X (or_rv _) dX4_verdict_68 rfl (lv_at hl 0 rfl) ?_
      refine g_gR X S foX4_25 dX4_verdict_69 hf (fun v4 hf => ?_)
      refine lv_sipush (v := 266) X.1 X.2.1 dX4_verdict_72 (by decide) ?_
      refine lv_iload_n X.1 X.2.1 dX4_verdict_75 rfl (lv_at hl 1 rfl) ?_
      refine lv_iconst (v := 1) X.1 X.2.1 dX4_verdict_76 (by decide) ?_
      refine lv_ishr X.1 X.2.1 dX4_verdict_77 ?_
      obtain ⟨v5, hc, hf⟩ := ob_some hf
      refine g_ci S (runV (As := [rv v4, .int 266, .int (x1 >>> (1 &&& 31))]) (rest := []) X S coX4_48 (by decide) (cX10_alike_m l hc) (tkX10_alike hc) rfl hl.1 (by decide) rfl ⟨Nat.zero_le _, Nat.zero_le _⟩ dX4_verdict_78) (fun H locs S => ?_)
      refine lv_if_eq (tgt := 88) X.1 X.2.1 dX4_verdict_81 (by decide) (fun c6 => ?_) (fun c6 => ?_)
      · replace hf := (if_pos c6).symm.trans hf
        refine lv_iconst (v := 2) X.1 X.2.1 dX4_verdict_88 (by decide) ?_
        cases hf; exact g_ri X S hr hlk dX4_verdict_89
      · replace hf := (if_neg c6).symm.trans hf
        refine lv_iconst (v := 1) X.1 X.2.1 dX4_verdict_84 (by decide) ?_
        refine lv_goto (tgt := 89) X.1 X.2.1 dX4_verdict_85 (by decide) ?_
        cases hf; exact g_ri X S hr hlk dX4_verdict_89
def fX4_verdict_15 (h : Hp) (x0 : Nat) (x1 : Int32) (x2 : Int32) (x3 : Int32) (y0 : Int32) : Option (Int32) := if y0 = 0 then fX4_verdict_56 h x0 x1 x2 x3 else ob (gR 4 x0 1 h) fun v2 => ob (fX10_cell v2 284 h) fun v3 => if v3 = (x1 >>> (1 &&& 31)) then ob (gR 4 x0 1 h) fun v5 => ob (fX10_cell v5 285 h) fun v6 => if v6 = (x1 &&& 1) then some 0 else fX4_verdict_56 h x0 x1 x2 x3 else fX4_verdict_56 h x0 x1 x2 x3
theorem wfX4_verdict_15 {h : Hp} {r9 : Int32} (X : Cx p E A 9 R s m args c cX4_verdict yX4_verdict.cls 5) (hr : meth.sig.returnType = (some .int)) (hlk : meth.locks = false) (hnm : meth.name = yX4_verdict.name) :
    ∀ (x0 : Nat) (x1 : Int32) (x2 : Int32) (x3 : Int32) (y0 : Int32) (H : Heap) (locs : List Loc) (ls : Array Slot), lv_has ls 5 [(0, rv x0), (1, .int x1), (2, .int x2), (3, .int x3)] → St E A s h H locs → fX4_verdict_15 h x0 x1 x2 x3 y0 = some r9 → W p l e R s m args below meth c H locs 0 0 (MQ below (Qi E A h r9) args s 0 0 A) (F0 m 15 ls [.int y0]) := by
  intro x0 x1 x2 x3 y0 H locs ls hl S hf
  unfold fX4_verdict_15 at hf
  refine lv_istore (lv' := [(4, .int y0), (0, rv x0), (1, .int x1), (2, .int x2), (3, .int x3)]) X.1 X.2.1 dX4_verdict_15 hl (by decide) rfl (fun ls hl => ?_)
  refine lv_iload X.1 X.2.1 dX4_verdict_17 (lv_at hl 0 rfl) ?_
  refine lv_if_eq (tgt := 56) X.1 X.2.1 dX4_verdict_19 (by decide) (fun c1 => ?_) (fun c1 => ?_)
  · replace hf := (if_pos c1).symm.trans hf
    exact wfX4_verdict_56 X hr hlk hnm _ _ _ _ _ _ _ (lv_sub hl [1, 2, 3, 4] rfl) S hf
  · replace hf := (if_neg c1).symm.trans hf
    refine g_aload_n X (or_rv _) dX4_verdict_22 rfl (lv_at hl 1 rfl) ?_
    refine g_gR X S foX4_21 dX4_verdict_23 hf (fun v2 hf => ?_)
    refine lv_sipush (v := 284) X.1 X.2.1 dX4_verdict_26 (by decide) ?_
    obtain ⟨v3, hc, hf⟩ := ob_some hf
    refine g_ci S (runV (As := [.int 284]) (rest := []) X S coX4_44 (by decide) (cX10_cell_m l hc) (tkX10_cell hc) rfl hl.1 (by decide) rfl ⟨Nat.zero_le _, Nat.zero_le _⟩ dX4_verdict_29) (fun H locs S => ?_)
    refine lv_iload_n X.1 X.2.1 dX4_verdict_32 rfl (lv_at hl 2 rfl) ?_
    refine lv_iconst (v := 1) X.1 X.2.1 dX4_verdict_33 (by decide) ?_
    refine lv_ishr X.1 X.2.1 dX4_verdict_34 ?_
    refine lv_icmp_ne (tgt := 56) X.1 X.2.1 dX4_verdict_35 (by decide) (fun c4 => ?_) (fun c4 => ?_)
    · replace hf := (if_neg c4).symm.trans hf
      exact wfX4_verdict_56 X hr hlk hnm _ _ _ _ _ _ _ (lv_sub hl [1, 2, 3, 4] rfl) S hf
    · replace hf := (if_pos c4).symm.trans hf
      refine g_aload_n X (or_rv _) dX4_verdict_38 rfl (lv_at hl 1 rfl) ?_
      refine g_gR X S foX4_21 dX4_verdict_39 hf (fun v5 hf => ?_)
      refine lv_sipush (v := 285) X.1 X.2.1 dX4_verdict_42 (by decide) ?_
      obtain ⟨v6, hc, hf⟩ := ob_some hf
      refine g_ci S (runV (As := [.int 285]) (rest := []) X S coX4_44 (by decide) (cX10_cell_m l hc) (tkX10_cell hc) rfl hl.1 (by decide) rfl ⟨Nat.zero_le _, Nat.zero_le _⟩ dX4_verdict_45) (fun H locs S => ?_)
      refine lv_iload_n X.1 X.2.1 dX4_verdict_48 rfl (lv_at hl 2 rfl) ?_
      refine lv_iconst (v := 1) X.1 X.2.1 dX4_verdict_49 (by decide) ?_
      refine lv_iand X.1 X.2.1 dX4_verdict_50 ?_
      refine lv_icmp_ne (tgt := 56) X.1 X.2.1 dX4_verdict_51 (by decide) (fun c7 => ?_) (fun c7 => ?_)
      · replace hf := (if_neg c7).symm.trans hf
        exact wfX4_verdict_56 X hr hlk hnm _ _ _ _ _ _ _ (lv_sub hl [1, 2, 3, 4] rfl) S hf
      · replace hf := (if_pos c7).symm.trans hf
        refine lv_iconst (v := 0) X.1 X.2.1 dX4_verdict_54 (by decide) ?_
        cases hf; exact g_ri X S hr hlk dX4_verdict_55
def fX4_verdict (a0 : Nat) (a1 : Int32) (a2 : Int32) (a3 : Int32) (h : Hp) : Option (Int32) := gd 4 a0 h (if a2 = 4 then fX4_verdict_10 h (fX4_verdict_15 h) a0 a1 a2 a3 else if a2 = 5 then fX4_verdict_10 h (fX4_verdict_15 h) a0 a1 a2 a3 else fX4_verdict_15 h a0 a1 a2 a3 0)
theorem tkX4_verdict {a0 : Nat} {a1 : Int32} {a2 : Int32} {a3 : Int32} {h : Hp} {r9 : Int32} (e : fX4_verdict a0 a1 a2 a3 h = some r9) : hK h a0 = 4 := by
  unfold fX4_verdict at e
  exact (gd_some e).1
theorem cX4_verdict_m (l : Launch) {E : EE} {A : Nat → Prop} {a0 : Nat} {a1 : Int32} {a2 : Int32} {a3 : Int32} {h : Hp} {r9 : Int32} (hf : fX4_verdict a0 a1 a2 a3 h = some r9) : Met l yX4_verdict (wsM yX4_verdict cX4_verdict 5 (some .int)) (rmm 9 0 0) (PcE E A h [rv a0, .int a1, .int a2, .int a3]) (Qi E A h r9) 0 0 A := by
  refine met_of (by decide +kernel) (by simp [lg_sl, cat_rv, cat_wv, cat_sv, cat_i, cat_l, cat_a]) (fun p e s m args below meth c ls X hr hlk hnm S hl => ?_)
  have hl : lv_has ls 5 [(0, rv a0), (1, .int a1), (2, .int a2), (3, .int a3)] := by simpa [lv_args, cat_rv, cat_wv, cat_sv, cat_i, cat_l, cat_a] using hl
  generalize hH : s.heap = H at S ⊢
  generalize hlo : ([] : List Loc) = locs at S ⊢
  clear hH hlo
  unfold fX4_verdict at hf
  obtain ⟨hth, hf⟩ := gd_some hf
  refine lv_iload_n X.1 X.2.1 dX4_verdict_0 rfl (lv_at hl 2 rfl) ?_
  refine lv_iconst (v := 4) X.1 X.2.1 dX4_verdict_1 (by decide) ?_
  refine lv_icmp_eq (tgt := 10) X.1 X.2.1 dX4_verdict_2 (by decide) (fun c1 => ?_) (fun c1 => ?_)
  · replace hf := (if_pos c1).symm.trans hf
    exact wfX4_verdict_10 X hr hlk hnm (wfX4_verdict_15 X hr hlk hnm) _ _ _ _ _ _ _ hl S hf
  · replace hf := (if_neg c1).symm.trans hf
    refine lv_iload_n X.1 X.2.1 dX4_verdict_5 rfl (lv_at hl 2 rfl) ?_
    refine lv_iconst (v := 5) X.1 X.2.1 dX4_verdict_6 (by decide) ?_
    refine lv_icmp_ne (tgt := 14) X.1 X.2.1 dX4_verdict_7 (by decide) (fun c2 => ?_) (fun c2 => ?_)
    · replace hf := (if_neg c2).symm.trans hf
      refine lv_iconst (v := 0) X.1 X.2.1 dX4_verdict_14 (by decide) ?_
      exact wfX4_verdict_15 X hr hlk hnm _ _ _ _ _ _ _ _ hl S hf
    · replace hf := (if_pos c2).symm.trans hf
      exact wfX4_verdict_10 X hr hlk hnm (wfX4_verdict_15 X hr hlk hnm) _ _ _ _ _ _ _ hl S hf
def fX4_judge (a0 : Nat) (a1 : Int32) (a2 : Int32) (a3 : Int32) (h : Hp) : Option (Hp) := gd 4 a0 h (ob (gR 4 a0 3 h) fun v1 => ob (aI v1 a3 h) fun v2 => ob (qI v1 a3 (v2 + 1) h) fun h => if a3 = 2 then ob (gR 4 a0 3 h) fun v4 => ob (aI v4 3 h) fun v5 => if v5 = (-1) then ob (gR 4 a0 3 h) fun v7 => ob (qI v7 3 ((100 * a1) + a2) h) fun h => some h else some h else some h)
theorem tkX4_judge {a0 : Nat} {a1 : Int32} {a2 : Int32} {a3 : Int32} {h : Hp} {r9 : Hp} (e : fX4_judge a0 a1 a2 a3 h = some r9) : hK h a0 = 4 := by
  unfold fX4_judge at e
  exact (gd_some e).1
theorem cX4_judge_m (l : Launch) {E : EE} {A : Nat → Prop} {a0 : Nat} {a1 : Int32} {a2 : Int32} {a3 : Int32} {h : Hp} {h9 : Hp} (hf : fX4_judge a0 a1 a2 a3 h = some h9) : Met l yX4_judge (wsM yX4_judge cX4_judge 4 none) (rmm 8 0 0) (PcE E A h [rv a0, .int a1, .int a2, .int a3]) (Qv E A h9) 0 0 A := by
  refine met_of (by decide +kernel) (by simp [lg_sl, cat_rv, cat_wv, cat_sv, cat_i, cat_l, cat_a]) (fun p e s m args below meth c ls X hr hlk hnm S hl => ?_)
  have hl : lv_has ls 4 [(0, rv a0), (1, .int a1), (2, .int a2), (3, .int a3)] := by simpa [lv_args, cat_rv, cat_wv, cat_sv, cat_i, cat_l, cat_a] using hl
  generalize hH : s.heap = H at S ⊢
  generalize hlo : ([] : List Loc) = locs at S ⊢
  clear hH hlo
  unfold fX4_judge at hf
  obtain ⟨hth, hf⟩ := gd_some hf
  refine g_aload_n X (or_rv _) dX4_judge_0 rfl (lv_at hl 0 rfl) ?_
  refine g_gR X S foX4_28 dX4_judge_1 hf (fun v1 hf => ?_)
  refine lv_iload_n X.1 X.2.1 dX4_judge_4 rfl (lv_at hl 3 rfl) ?_
  refine lv_dup2_11 X.1 X.2.1 dX4_judge_5 rfl (cat_rv _) ?_
  refine g_aI X S dX4_judge_6 hf (fun v2 hf => ?_)
  refine lv_iconst (v := 1) X.1 X.2.1 dX4_judge_7 (by decide) ?_
  refine lv_iadd X.1 X.2.1 dX4_judge_8 ?_
  refine g_qI X S dX4_judge_9 hf (fun h H locs hm hf S => ?_)
  refine lv_iload_n X.1 X.2.1 dX4_judge_10 rfl (lv_at hl 3 rfl) ?_
  refine lv_iconst (v := 2) X.1 X.2.1 dX4_judge_11 (by decide) ?_
  refine lv_icmp_ne (tgt := 37) X.1 X.2.1 dX4_judge_12 (by decide) (fun c3 => ?_) (fun c3 => ?_)
  · replace hf := (if_neg c3).symm.trans hf
    cases hf; exact g_rv X S hr hlk dX4_judge_37
  · replace hf := (if_pos c3).symm.trans hf
    refine g_aload_n X (or_rv _) dX4_judge_15 rfl (lv_at hl 0 rfl) ?_
    refine g_gR X S foX4_28 dX4_judge_16 hf (fun v4 hf => ?_)
    refine lv_iconst (v := 3) X.1 X.2.1 dX4_judge_19 (by decide) ?_
    refine g_aI X S dX4_judge_20 hf (fun v5 hf => ?_)
    refine lv_iconst (v := (-1)) X.1 X.2.1 dX4_judge_21 (by decide) ?_
    refine lv_icmp_ne (tgt := 37) X.1 X.2.1 dX4_judge_22 (by decide) (fun c6 => ?_) (fun c6 => ?_)
    · replace hf := (if_neg c6).symm.trans hf
      cases hf; exact g_rv X S hr hlk dX4_judge_37
    · replace hf := (if_pos c6).symm.trans hf
      refine g_aload_n X (or_rv _) dX4_judge_25 rfl (lv_at hl 0 rfl) ?_
      refine g_gR X S foX4_28 dX4_judge_26 hf (fun v7 hf => ?_)
      refine lv_iconst (v := 3) X.1 X.2.1 dX4_judge_29 (by decide) ?_
      refine lv_bipush (v := 100) X.1 X.2.1 dX4_judge_30 (by decide) ?_
      refine lv_iload_n X.1 X.2.1 dX4_judge_32 rfl (lv_at hl 1 rfl) ?_
      refine lv_imul X.1 X.2.1 dX4_judge_33 ?_
      refine lv_iload_n X.1 X.2.1 dX4_judge_34 rfl (lv_at hl 2 rfl) ?_
      refine lv_iadd X.1 X.2.1 dX4_judge_35 ?_
      refine g_qI X S dX4_judge_36 hf (fun h H locs hm hf S => ?_)
      cases hf; exact g_rv X S hr hlk dX4_judge_37
def fX4_told (a0 : Nat) (a1 : Int32) (h : Hp) : Option (Int32) := gd 4 a0 h (if a1 < 0 then some (-1) else ob (gR 4 a0 3 h) fun v2 => ob (aN 101 v2 h) fun v3 => if v3 ≤ a1 then some (-1) else ob (gR 4 a0 3 h) fun v5 => ob (aI v5 a1 h) fun v6 => some v6)
theorem tkX4_told {a0 : Nat} {a1 : Int32} {h : Hp} {r9 : Int32} (e : fX4_told a0 a1 h = some r9) : hK h a0 = 4 := by
  unfold fX4_told at e
  exact (gd_some e).1
theorem cX4_told_m (l : Launch) {E : EE} {A : Nat → Prop} {a0 : Nat} {a1 : Int32} {h : Hp} {r9 : Int32} (hf : fX4_told a0 a1 h = some r9) : Met l yX4_told (wsM yX4_told cX4_told 2 (some .int)) (rmm 8 0 0) (PcE E A h [rv a0, .int a1]) (Qi E A h r9) 0 0 A := by
  refine met_of (by decide +kernel) (by simp [lg_sl, cat_rv, cat_wv, cat_sv, cat_i, cat_l, cat_a]) (fun p e s m args below meth c ls X hr hlk hnm S hl => ?_)
  have hl : lv_has ls 2 [(0, rv a0), (1, .int a1)] := by simpa [lv_args, cat_rv, cat_wv, cat_sv, cat_i, cat_l, cat_a] using hl
  generalize hH : s.heap = H at S ⊢
  generalize hlo : ([] : List Loc) = locs at S ⊢
  clear hH hlo
  unfold fX4_told at hf
  obtain ⟨hth, hf⟩ := gd_some hf
  refine lv_iload_n X.1 X.2.1 dX4_told_0 rfl (lv_at hl 1 rfl) ?_
  refine lv_if_lt (tgt := 22) X.1 X.2.1 dX4_told_1 (by decide) (fun c1 => ?_) (fun c1 => ?_)
  · replace hf := (if_pos c1).symm.trans hf
    refine lv_iconst (v := (-1)) X.1 X.2.1 dX4_told_22 (by decide) ?_
    cases hf; exact g_ri X S hr hlk dX4_told_23
  · replace hf := (if_neg c1).symm.trans hf
    refine lv_iload_n X.1 X.2.1 dX4_told_4 rfl (lv_at hl 1 rfl) ?_
    refine g_aload_n X (or_rv _) dX4_told_5 rfl (lv_at hl 0 rfl) ?_
    refine g_gR X S foX4_28 dX4_told_6 hf (fun v2 hf => ?_)
    refine g_aN X S (by decide) dX4_told_9 hf (fun v3 hf => ?_)
    refine lv_icmp_ge (tgt := 22) X.1 X.2.1 dX4_told_10 (by decide) (fun c4 => ?_) (fun c4 => ?_)
    · replace hf := (if_pos c4).symm.trans hf
      refine lv_iconst (v := (-1)) X.1 X.2.1 dX4_told_22 (by decide) ?_
      cases hf; exact g_ri X S hr hlk dX4_told_23
    · replace hf := (if_neg c4).symm.trans hf
      refine g_aload_n X (or_rv _) dX4_told_13 rfl (lv_at hl 0 rfl) ?_
      refine g_gR X S foX4_28 dX4_told_14 hf (fun v5 hf => ?_)
      refine lv_iload_n X.1 X.2.1 dX4_told_17 rfl (lv_at hl 1 rfl) ?_
      refine g_aI X S dX4_told_18 hf (fun v6 hf => ?_)
      refine lv_goto (tgt := 23) X.1 X.2.1 dX4_told_19 (by decide) ?_
      cases hf; exact g_ri X S hr hlk dX4_told_23
def fX4_spoil_50 (k37 : Nat → Nat → Int32 → Int32 → Int32 → Int32 → Int32 → Int32 → Hp → Option (Int32 × Hp)) (k50 : Nat → Nat → Int32 → Int32 → Int32 → Int32 → Int32 → Int32 → Int32 → Hp → Option (Int32 × Hp)) (x0 : Nat) (x1 : Nat) (x2 : Int32) (x3 : Int32) (x4 : Int32) (x5 : Int32) (x6 : Int32) (x7 : Int32) (x8 : Int32) (h : Hp) : Option (Int32 × Hp) := if 16 ≤ x8 then lt (x7 + 1) fun z2 => k37 x0 x1 x2 x3 x4 x5 x6 z2 h else ob (fX10_half x1 x7 h) fun v3 => if x8 = v3 then lt (x8 + 1) fun z5 => k50 x0 x1 x2 x3 x4 x5 x6 x7 z5 h else ob (gR 4 x0 1 h) fun v6 => ob (fX10_become v6 x1 h) fun h => ob (gR 4 x0 1 h) fun v8 => ob (fX10_putHalf v8 x7 x8 h) fun h => ob (gR 4 x0 1 h) fun v10 => ob2 (fX4_runToFault x0 v10 x4 h) fun v11 h => ob (fX4_verdict x0 x7 v11 x6 h) fun v12 => ob (fX4_judge x0 x7 x8 v12 h) fun h => lt (x8 + 1) fun z14 => k50 x0 x1 x2 x3 x4 x5 x6 x7 z14 h
theorem wfX4_spoil_50 {k37 : Nat → Nat → Int32 → Int32 → Int32 → Int32 → Int32 → Int32 → Hp → Option (Int32 × Hp)} {k50 : Nat → Nat → Int32 → Int32 → Int32 → Int32 → Int32 → Int32 → Int32 → Hp → Option (Int32 × Hp)} {r9 : Int32} {h9 : Hp} (X : Cx p E A 14 R s m args c cX4_spoil yX4_spoil.cls 10) (hr : meth.sig.returnType = (some .int)) (hlk : meth.locks = false) (hnm : meth.name = yX4_spoil.name) (hk37 : ∀ (x0 : Nat) (x1 : Nat) (x2 : Int32) (x3 : Int32) (x4 : Int32) (x5 : Int32) (x6 : Int32) (x7 : Int32) (h : Hp) (H : Heap) (locs : List Loc) (ls : Array Slot), lv_has ls 10 [(0, rv x0), (1, rv x1), (2, .int x2), (3, .int x3), (4, .int x4), (5, .int x5), (6, .int x6), (7, .int x7)] → St E A s h H locs → k37 x0 x1 x2 x3 x4 x5 x6 x7 h = some (r9, h9) → W p l e R s m args below meth c H locs 0 0 (MQ below (Qi E A h9 r9) args s 0 0 A) (F0 m 37 ls [])) (hk50 : ∀ (x0 : Nat) (x1 : Nat) (x2 : Int32) (x3 : Int32) (x4 : Int32) (x5 : Int32) (x6 : Int32) (x7 : Int32) (x8 : Int32) (h : Hp) (H : Heap) (locs : List Loc) (ls : Array Slot), lv_has ls 10 [(0, rv x0), (1, rv x1), (2, .int x2), (3, .int x3), (4, .int x4), (5, .int x5), (6, .int x6), (7, .int x7), (8, .int x8)] → St E A s h H locs → k50 x0 x1 x2 x3 x4 x5 x6 x7 x8 h = some (r9, h9) → W p l e R s m args below meth c H locs 0 0 (MQ below (Qi E A h9 r9) args s 0 0 A) (F0 m 50 ls [])) :
    ∀ (x0 : Nat) (x1 : Nat) (x2 : Int32) (x3 : Int32) (x4 : Int32) (x5 : Int32) (x6 : Int32) (x7 : Int32) (x8 : Int32) (h : Hp) (H : Heap) (locs : List Loc) (ls : Array Slot), lv_has ls 10 [(0, rv x0), (1, rv x1), (2, .int x2), (3, .int x3), (4, .int x4), (5, .int x5), (6, .int x6), (7, .int x7), (8, .int x8)] → St E A s h H locs → fX4_spoil_50 k37 k50 x0 x1 x2 x3 x4 x5 x6 x7 x8 h = some (r9, h9) → W p l e R s m args below meth c H locs 0 0 (MQ below (Qi E A h9 r9) args s 0 0 A) (F0 m 50 ls []) := by
  intro x0 x1 x2 x3 x4 x5 x6 x7 x8 h H locs ls hl S hf
  unfold fX4_spoil_50 at hf
  refine lv_iload X.1 X.2.1 dX4_spoil_50 (lv_at hl 8 rfl) ?_
  refine lv_bipush (v := 16) X.1 X.2.1 dX4_spoil_52 (by decide) ?_
  refine lv_icmp_ge (tgt := 123) X.1 X.2.1 dX4_spoil_54 (by decide) (fun c1 => ?_) (fun c1 => ?_)
  · replace hf := (if_pos c1).symm.trans hf
    obtain ⟨z2, ez2, hf⟩ := lt_some hf
    refine lv_iinc (v := z2) (lv' := [(7, .int z2), (0, rv x0), (1, rv x1), (2, .int x2), (3, .int x3), (4, .int x4), (5, .int x5), (6, .int x6), (8, .int x8)]) X.1 X.2.1 dX4_spoil_123 hl (k := 7) rfl (by rw [← ez2]; rfl) (by decide) rfl (fun ls hl => ?_)
    refine lv_goto (tgt := 37) X.1 X.2.1 dX4_spoil_126 (by decide) ?_
    exact hk37 _ _ _ _ _ _ _ _ _ _ _ _ (lv_sub hl [1, 2, 3, 4, 5, 6, 7, 0] rfl) S hf
  · replace hf := (if_neg c1).symm.trans hf
    refine lv_iload X.1 X.2.1 dX4_spoil_57 (lv_at hl 8 rfl) ?_
    refine g_aload_n X (or_rv _) dX4_spoil_59 rfl (lv_at hl 1 rfl) ?_
    refine lv_iload X.1 X.2.1 dX4_spoil_60 (lv_at hl 7 rfl) ?_
    obtain ⟨v3, hc, hf⟩ := ob_some hf
    refine g_ci S (runV (As := [.int x7]) (rest := [.int x8]) X S coX4_59 (by decide) (cX10_half_m l hc) (tkX10_half hc) rfl hl.1 (by simp [cat_rv, cat_wv, cat_sv, cat_i, cat_l, cat_a]) rfl ⟨Nat.zero_le _, Nat.zero_le _⟩ dX4_spoil_62) (fun H locs S => ?_)
    refine lv_icmp_eq (tgt := 117) X.1 X.2.1 dX4_spoil_65 (by decide) (fun c4 => ?_) (fun c4 => ?_)
    · replace hf := (if_pos c4).symm.trans hf
      obtain ⟨z5, ez5, hf⟩ := lt_some hf
      refine lv_iinc (v := z5) (lv' := [(8, .int z5), (0, rv x0), (1, rv x1), (2, .int x2), (3, .int x3), (4, .int x4), (5, .int x5), (6, .int x6), (7, .int x7)]) X.1 X.2.1 dX4_spoil_117 hl (k := 8) rfl (by rw [← ez5]; rfl) (by decide) rfl (fun ls hl => ?_)
      refine lv_goto (tgt := 50) X.1 X.2.1 dX4_spoil_120 (by decide) ?_
      exact hk50 _ _ _ _ _ _ _ _ _ _ _ _ _ (lv_sub hl [1, 2, 3, 4, 5, 6, 7, 8, 0] rfl) S hf
    · replace hf := (if_neg c4).symm.trans hf
      refine g_aload_n X (or_rv _) dX4_spoil_68 rfl (lv_at hl 0 rfl) ?_
      refine g_gR X S foX4_21 dX4_spoil_69 hf (fun v6 hf => ?_)
      refine g_aload_n X (or_rv _) dX4_spoil_72 rfl (lv_at hl 1 rfl) ?_
      obtain ⟨h, hc, hf⟩ := ob_some hf
      refine g_cv S (runV (As := [rv x1]) (rest := []) X S coX4_32 (by decide) (cX10_become_m l hc) (tkX10_become hc) rfl hl.1 (by decide) rfl ⟨Nat.zero_le _, Nat.zero_le _⟩ dX4_spoil_73) (fun H locs S => ?_)
      refine g_aload_n X (or_rv _) dX4_spoil_76 rfl (lv_at hl 0 rfl) ?_
      refine g_gR X S foX4_21 dX4_spoil_77 hf (fun v8 hf => ?_)
      refine lv_iload X.1 X.2.1 dX4_spoil_80 (lv_at hl 7 rfl) ?_
      refine lv_iload X.1 X.2.1 dX4_spoil_82 (lv_at hl 8 rfl) ?_
      obtain ⟨h, hc, hf⟩ := ob_some hf
      refine g_cv S (runV (As := [.int x7, .int x8]) (rest := []) X S coX4_62 (by decide) (cX10_putHalf_m l hc) (tkX10_putHalf hc) rfl hl.1 (by decide) rfl ⟨Nat.zero_le _, Nat.zero_le _⟩ dX4_spoil_84) (fun H locs S => ?_)
      refine g_aload_n X (or_rv _) dX4_spoil_87 rfl (lv_at hl 0 rfl) ?_
      refine g_aload_n X (or_rv _) dX4_spoil_88 rfl (lv_at hl 0 rfl) ?_
      refine g_gR X S foX4_21 dX4_spoil_89 hf (fun v10 hf => ?_)
      refine lv_iload X.1 X.2.1 dX4_spoil_92 (lv_at hl 4 rfl) ?_
      obtain ⟨v11, h, hc, hf⟩ := ob2_some hf
      refine g_ci S (runV (As := [rv v10, .int x4]) (rest := []) X S coX4_55 (by decide) (cX4_runToFault_m l hc) (tkX4_runToFault hc) rfl hl.1 (by decide) rfl ⟨Nat.zero_le _, Nat.zero_le _⟩ dX4_spoil_94) (fun H locs S => ?_)
      refine lv_istore (lv' := [(9, .int v11), (0, rv x0), (1, rv x1), (2, .int x2), (3, .int x3), (4, .int x4), (5, .int x5), (6, .int x6), (7, .int x7), (8, .int x8)]) X.1 X.2.1 dX4_spoil_97 hl (by decide) rfl (fun ls hl => ?_)
      refine g_aload_n X (or_rv _) dX4_spoil_99 rfl (lv_at hl 1 rfl) ?_
      refine lv_iload X.1 X.2.1 dX4_spoil_100 (lv_at hl 8 rfl) ?_
      refine lv_iload X.1 X.2.1 dX4_spoil_102 (lv_at hl 9 rfl) ?_
      refine g_aload_n X (or_rv _) dX4_spoil_104 rfl (lv_at hl 1 rfl) ?_
      refine lv_iload X.1 X.2.1 dX4_spoil_105 (lv_at hl 8 rfl) ?_
      refine lv_iload X.1 X.2.1 dX4_spoil_107 (lv_at hl 0 rfl) ?_
      refine lv_iload X.1 X.2.1 dX4_spoil_109 (lv_at hl 7 rfl) ?_
      obtain ⟨v12, hc, hf⟩ := ob_some hf
      refine g_ci S (runV (As := [.int x7, .int v11, .int x6]) (rest := [.int x8, .int x7, rv x0]) X S coX4_66 (by decide) (cX4_verdict_m l hc) (tkX4_verdict hc) rfl hl.1 (by simp [cat_rv, cat_wv, cat_sv, cat_i, cat_l, cat_a]) rfl ⟨Nat.zero_le _, Nat.zero_le _⟩ dX4_spoil_111) (fun H locs S => ?_)
      obtain ⟨h, hc, hf⟩ := ob_some hf
      refine g_cv S (runV (As := [.int x7, .int x8, .int v12]) (rest := []) X S coX4_70 (by decide) (cX4_judge_m l hc) (tkX4_judge hc) rfl hl.1 (by decide) rfl ⟨Nat.zero_le _, Nat.zero_le _⟩ dX4_spoil_114) (fun H locs S => ?_)
      obtain ⟨z14, ez14, hf⟩ := lt_some hf
      refine lv_iinc (v := z14) (lv' := [(8, .int z14), (9, .int v11), (0, rv x0), (1, rv x1), (2, .int x2), (3, .int x3), (4, .int x4), (5, .int x5), (6, .int x6), (7, .int x7)]) X.1 X.2.1 dX4_spoil_117 hl (k := 9) rfl (by rw [← ez14]; rfl) (by decide) rfl (fun ls hl => ?_)
      refine lv_goto (tgt := 50) X.1 X.2.1 dX4_spoil_120 (by decide) ?_
      exact hk50 _ _ _ _ _ _ _ _ _ _ _ _ _ (lv_sub hl [2, 3, 4, 5, 6, 7, 8, 9, 0] rfl) S hf
theorem wfX4_spoil_50_l {k37 : Nat → Nat → Int32 → Int32 → Int32 → Int32 → Int32 → Int32 → Hp → Option (Int32 × Hp)} {r9 : Int32} {h9 : Hp} (X : Cx p E A 14 R s m args c cX4_spoil yX4_spoil.cls 10) (hr : meth.sig.returnType = (some .int)) (hlk : meth.locks = false) (hnm : meth.name = yX4_spoil.name) (hk37 : ∀ (x0 : Nat) (x1 : Nat) (x2 : Int32) (x3 : Int32) (x4 : Int32) (x5 : Int32) (x6 : Int32) (x7 : Int32) (h : Hp) (H : Heap) (locs : List Loc) (ls : Array Slot), lv_has ls 10 [(0, rv x0), (1, rv x1), (2, .int x2), (3, .int x3), (4, .int x4), (5, .int x5), (6, .int x6), (7, .int x7)] → St E A s h H locs → k37 x0 x1 x2 x3 x4 x5 x6 x7 h = some (r9, h9) → W p l e R s m args below meth c H locs 0 0 (MQ below (Qi E A h9 r9) args s 0 0 A) (F0 m 37 ls [])) :
    ∀ (n : Nat) (x0 : Nat) (x1 : Nat) (x2 : Int32) (x3 : Int32) (x4 : Int32) (x5 : Int32) (x6 : Int32) (x7 : Int32) (x8 : Int32) (h : Hp) (H : Heap) (locs : List Loc) (ls : Array Slot), lv_has ls 10 [(0, rv x0), (1, rv x1), (2, .int x2), (3, .int x3), (4, .int x4), (5, .int x5), (6, .int x6), (7, .int x7), (8, .int x8)] → St E A s h H locs → lp (fun _ _ _ _ _ _ _ _ _ _ => none) (fX4_spoil_50 k37) n x0 x1 x2 x3 x4 x5 x6 x7 x8 h = some (r9, h9) → W p l e R s m args below meth c H locs 0 0 (MQ below (Qi E A h9 r9) args s 0 0 A) (F0 m 50 ls []) := by
  intro n
  induction n with
  | zero =>
    intro x0 x1 x2 x3 x4 x5 x6 x7 x8 h H locs ls hl S hf
    exact nomatch hf
  | succ n ih =>
    intro x0 x1 x2 x3 x4 x5 x6 x7 x8 h H locs ls hl S hf
    exact wfX4_spoil_50 X hr hlk hnm hk37 ih x0 x1 x2 x3 x4 x5 x6 x7 x8 h H locs ls hl S hf
def fX4_spoil_37 (k37 : Nat → Nat → Int32 → Int32 → Int32 → Int32 → Int32 → Int32 → Hp → Option (Int32 × Hp)) (x0 : Nat) (x1 : Nat) (x2 : Int32) (x3 : Int32) (x4 : Int32) (x5 : Int32) (x6 : Int32) (x7 : Int32) (h : Hp) : Option (Int32 × Hp) := if (2 * (x2 + x3)) ≤ x7 then ob (fX4_told x0 x5 h) fun v2 => some (v2, h) else lp (fun _ _ _ _ _ _ _ _ _ _ => none) (fX4_spoil_50 k37) FU x0 x1 x2 x3 x4 x5 x6 x7 0 h
theorem wfX4_spoil_37 {k37 : Nat → Nat → Int32 → Int32 → Int32 → Int32 → Int32 → Int32 → Hp → Option (Int32 × Hp)} {r9 : Int32} {h9 : Hp} (X : Cx p E A 14 R s m args c cX4_spoil yX4_spoil.cls 10) (hr : meth.sig.returnType = (some .int)) (hlk : meth.locks = false) (hnm : meth.name = yX4_spoil.name) (hk37 : ∀ (x0 : Nat) (x1 : Nat) (x2 : Int32) (x3 : Int32) (x4 : Int32) (x5 : Int32) (x6 : Int32) (x7 : Int32) (h : Hp) (H : Heap) (locs : List Loc) (ls : Array Slot), lv_has ls 10 [(0, rv x0), (1, rv x1), (2, .int x2), (3, .int x3), (4, .int x4), (5, .int x5), (6, .int x6), (7, .int x7)] → St E A s h H locs → k37 x0 x1 x2 x3 x4 x5 x6 x7 h = some (r9, h9) → W p l e R s m args below meth c H locs 0 0 (MQ below (Qi E A h9 r9) args s 0 0 A) (F0 m 37 ls [])) :
    ∀ (x0 : Nat) (x1 : Nat) (x2 : Int32) (x3 : Int32) (x4 : Int32) (x5 : Int32) (x6 : Int32) (x7 : Int32) (h : Hp) (H : Heap) (locs : List Loc) (ls : Array Slot), lv_has ls 10 [(0, rv x0), (1, rv x1), (2, .int x2), (3, .int x3), (4, .int x4), (5, .int x5), (6, .int x6), (7, .int x7)] → St E A s h H locs → fX4_spoil_37 k37 x0 x1 x2 x3 x4 x5 x6 x7 h = some (r9, h9) → W p l e R s m args below meth c H locs 0 0 (MQ below (Qi E A h9 r9) args s 0 0 A) (F0 m 37 ls []) := by
  intro x0 x1 x2 x3 x4 x5 x6 x7 h H locs ls hl S hf
  unfold fX4_spoil_37 at hf
  refine lv_iload X.1 X.2.1 dX4_spoil_37 (lv_at hl 7 rfl) ?_
  refine lv_iconst (v := 2) X.1 X.2.1 dX4_spoil_39 (by decide) ?_
  refine lv_iload_n X.1 X.2.1 dX4_spoil_40 rfl (lv_at hl 2 rfl) ?_
  refine lv_iload_n X.1 X.2.1 dX4_spoil_41 rfl (lv_at hl 3 rfl) ?_
  refine lv_iadd X.1 X.2.1 dX4_spoil_42 ?_
  refine lv_imul X.1 X.2.1 dX4_spoil_43 ?_
  refine lv_icmp_ge (tgt := 129) X.1 X.2.1 dX4_spoil_44 (by decide) (fun c1 => ?_) (fun c1 => ?_)
  · replace hf := (if_pos c1).symm.trans hf
    refine g_aload_n X (or_rv _) dX4_spoil_129 rfl (lv_at hl 0 rfl) ?_
    refine lv_iload X.1 X.2.1 dX4_spoil_130 (lv_at hl 5 rfl) ?_
    obtain ⟨v2, hc, hf⟩ := ob_some hf
    refine g_ci S (runV (As := [.int x5]) (rest := []) X S coX4_74 (by decide) (cX4_told_m l hc) (tkX4_told hc) rfl hl.1 (by decide) rfl ⟨Nat.zero_le _, Nat.zero_le _⟩ dX4_spoil_132) (fun H locs S => ?_)
    cases hf; exact g_ri X S hr hlk dX4_spoil_135
  · replace hf := (if_neg c1).symm.trans hf
    refine lv_iconst (v := 0) X.1 X.2.1 dX4_spoil_47 (by decide) ?_
    refine lv_istore (lv' := [(8, .int 0), (0, rv x0), (1, rv x1), (2, .int x2), (3, .int x3), (4, .int x4), (5, .int x5), (6, .int x6), (7, .int x7)]) X.1 X.2.1 dX4_spoil_48 hl (by decide) rfl (fun ls hl => ?_)
    exact wfX4_spoil_50_l X hr hlk hnm hk37 FU _ _ _ _ _ _ _ _ _ _ _ _ _ (lv_sub hl [1, 2, 3, 4, 5, 6, 7, 8, 0] rfl) S hf
theorem wfX4_spoil_37_l {r9 : Int32} {h9 : Hp} (X : Cx p E A 14 R s m args c cX4_spoil yX4_spoil.cls 10) (hr : meth.sig.returnType = (some .int)) (hlk : meth.locks = false) (hnm : meth.name = yX4_spoil.name) :
    ∀ (n : Nat) (x0 : Nat) (x1 : Nat) (x2 : Int32) (x3 : Int32) (x4 : Int32) (x5 : Int32) (x6 : Int32) (x7 : Int32) (h : Hp) (H : Heap) (locs : List Loc) (ls : Array Slot), lv_has ls 10 [(0, rv x0), (1, rv x1), (2, .int x2), (3, .int x3), (4, .int x4), (5, .int x5), (6, .int x6), (7, .int x7)] → St E A s h H locs → lp (fun _ _ _ _ _ _ _ _ _ => none) (fX4_spoil_37) n x0 x1 x2 x3 x4 x5 x6 x7 h = some (r9, h9) → W p l e R s m args below meth c H locs 0 0 (MQ below (Qi E A h9 r9) args s 0 0 A) (F0 m 37 ls []) := by
  intro n
  induction n with
  | zero =>
    intro x0 x1 x2 x3 x4 x5 x6 x7 h H locs ls hl S hf
    exact nomatch hf
  | succ n ih =>
    intro x0 x1 x2 x3 x4 x5 x6 x7 h H locs ls hl S hf
    exact wfX4_spoil_37 X hr hlk hnm ih x0 x1 x2 x3 x4 x5 x6 x7 h H locs ls hl S hf
def fX4_spoil (a0 : Nat) (a1 : Nat) (a2 : Int32) (a3 : Int32) (a4 : Int32) (a5 : Int32) (h : Hp) : Option (Int32 × Hp) := gd 4 a0 h (ob (fX4_clearTold a0 h) fun h => ob (gR 4 a0 2 h) fun v2 => ob (fX10_become v2 a1 h) fun h => ob (gR 4 a0 2 h) fun v4 => ob2 (fX4_runToFault a0 v4 a4 h) fun v5 h => if v5 = 0 then lt (2 * a2) fun z8 => lp (fun _ _ _ _ _ _ _ _ _ => none) (fX4_spoil_37) FU a0 a1 a2 a3 a4 a5 1 z8 h else lt (2 * a2) fun z7 => lp (fun _ _ _ _ _ _ _ _ _ => none) (fX4_spoil_37) FU a0 a1 a2 a3 a4 a5 0 z7 h)
theorem tkX4_spoil {a0 : Nat} {a1 : Nat} {a2 : Int32} {a3 : Int32} {a4 : Int32} {a5 : Int32} {h : Hp} {r9 : Int32 × Hp} (e : fX4_spoil a0 a1 a2 a3 a4 a5 h = some r9) : hK h a0 = 4 := by
  unfold fX4_spoil at e
  exact (gd_some e).1
theorem cX4_spoil_m (l : Launch) {E : EE} {A : Nat → Prop} {a0 : Nat} {a1 : Nat} {a2 : Int32} {a3 : Int32} {a4 : Int32} {a5 : Int32} {h : Hp} {r9 : Int32} {h9 : Hp} (hf : fX4_spoil a0 a1 a2 a3 a4 a5 h = some (r9, h9)) : Met l yX4_spoil (wsM yX4_spoil cX4_spoil 10 (some .int)) (rmm 14 0 0) (PcE E A h [rv a0, rv a1, .int a2, .int a3, .int a4, .int a5]) (Qi E A h9 r9) 0 0 A := by
  refine met_of (by decide +kernel) (by simp [lg_sl, cat_rv, cat_wv, cat_sv, cat_i, cat_l, cat_a]) (fun p e s m args below meth c ls X hr hlk hnm S hl => ?_)
  have hl : lv_has ls 10 [(0, rv a0), (1, rv a1), (2, .int a2), (3, .int a3), (4, .int a4), (5, .int a5)] := by simpa [lv_args, cat_rv, cat_wv, cat_sv, cat_i, cat_l, cat_a] using hl
  generalize hH : s.heap = H at S ⊢
  generalize hlo : ([] : List Loc) = locs at S ⊢
  clear hH hlo
  unfold fX4_spoil at hf
  obtain ⟨hth, hf⟩ := gd_some hf
  refine g_aload_n X (or_rv _) dX4_spoil_0 rfl (lv_at hl 0 rfl) ?_
  obtain ⟨h, hc, hf⟩ := ob_some hf
  refine g_cv S (runV (As := []) (rest := []) X S coX4_52 (by decide) (cX4_clearTold_m l hc) (tkX4_clearTold hc) rfl hl.1 (by decide) rfl ⟨Nat.zero_le _, Nat.zero_le _⟩ dX4_spoil_1) (fun H locs S => ?_)
  refine g_aload_n X (or_rv _) dX4_spoil_4 rfl (lv_at hl 0 rfl) ?_
  refine g_gR X S foX4_25 dX4_spoil_5 hf (fun v2 hf => ?_)
  refine g_aload_n X (or_rv _) dX4_spoil_8 rfl (lv_at hl 1 rfl) ?_
  obtain ⟨h, hc, hf⟩ := ob_some hf
  refine g_cv S (runV (As := [rv a1]) (rest := []) X S coX4_32 (by decide) (cX10_become_m l hc) (tkX10_become hc) rfl hl.1 (by decide) rfl ⟨Nat.zero_le _, Nat.zero_le _⟩ dX4_spoil_9) (fun H locs S => ?_)
  refine g_aload_n X (or_rv _) dX4_spoil_12 rfl (lv_at hl 0 rfl) ?_
  refine g_aload_n X (or_rv _) dX4_spoil_13 rfl (lv_at hl 0 rfl) ?_
  refine g_gR X S foX4_25 dX4_spoil_14 hf (fun v4 hf => ?_)
  refine lv_iload X.1 X.2.1 dX4_spoil_17 (lv_at hl 4 rfl) ?_
  obtain ⟨v5, h, hc, hf⟩ := ob2_some hf
  refine g_ci S (runV (As := [rv v4, .int a4]) (rest := []) X S coX4_55 (by decide) (cX4_runToFault_m l hc) (tkX4_runToFault hc) rfl hl.1 (by decide) rfl ⟨Nat.zero_le _, Nat.zero_le _⟩ dX4_spoil_19) (fun H locs S => ?_)
  refine lv_if_ne (tgt := 29) X.1 X.2.1 dX4_spoil_22 (by decide) (fun c6 => ?_) (fun c6 => ?_)
  · replace hf := (if_neg c6).symm.trans hf
    refine lv_iconst (v := 0) X.1 X.2.1 dX4_spoil_29 (by decide) ?_
    refine lv_istore (lv' := [(6, .int 0), (0, rv a0), (1, rv a1), (2, .int a2), (3, .int a3), (4, .int a4), (5, .int a5)]) X.1 X.2.1 dX4_spoil_30 hl (by decide) rfl (fun ls hl => ?_)
    refine lv_iconst (v := 2) X.1 X.2.1 dX4_spoil_32 (by decide) ?_
    refine lv_iload_n X.1 X.2.1 dX4_spoil_33 rfl (lv_at hl 3 rfl) ?_
    refine lv_imul X.1 X.2.1 dX4_spoil_34 ?_
    refine g_lti hf (fun z7 hf => ?_)
    refine lv_istore (lv' := [(7, .int z7), (6, .int 0), (0, rv a0), (1, rv a1), (2, .int a2), (3, .int a3), (4, .int a4), (5, .int a5)]) X.1 X.2.1 dX4_spoil_35 hl (by decide) rfl (fun ls hl => ?_)
    exact wfX4_spoil_37_l X hr hlk hnm FU _ _ _ _ _ _ _ _ _ _ _ _ (lv_sub hl [2, 3, 4, 5, 6, 7, 1, 0] rfl) S hf
  · replace hf := (if_pos c6).symm.trans hf
    refine lv_iconst (v := 1) X.1 X.2.1 dX4_spoil_25 (by decide) ?_
    refine lv_goto (tgt := 30) X.1 X.2.1 dX4_spoil_26 (by decide) ?_
    refine lv_istore (lv' := [(6, .int 1), (0, rv a0), (1, rv a1), (2, .int a2), (3, .int a3), (4, .int a4), (5, .int a5)]) X.1 X.2.1 dX4_spoil_30 hl (by decide) rfl (fun ls hl => ?_)
    refine lv_iconst (v := 2) X.1 X.2.1 dX4_spoil_32 (by decide) ?_
    refine lv_iload_n X.1 X.2.1 dX4_spoil_33 rfl (lv_at hl 3 rfl) ?_
    refine lv_imul X.1 X.2.1 dX4_spoil_34 ?_
    refine g_lti hf (fun z8 hf => ?_)
    refine lv_istore (lv' := [(7, .int z8), (6, .int 1), (0, rv a0), (1, rv a1), (2, .int a2), (3, .int a3), (4, .int a4), (5, .int a5)]) X.1 X.2.1 dX4_spoil_35 hl (by decide) rfl (fun ls hl => ?_)
    exact wfX4_spoil_37_l X hr hlk hnm FU _ _ _ _ _ _ _ _ _ _ _ _ (lv_sub hl [2, 3, 4, 5, 6, 7, 1, 0] rfl) S hf
def fX2_write (a0 : Nat) (a1 : Int32) (a2 : Int32) (a3 : Int32) (h : Hp) : Option (Hp) := gd 2 a0 h (ob (gI 2 a0 5 h) fun v1 => if 8 ≤ v1 then some h else ob (gR 2 a0 4 h) fun v3 => ob (gI 2 a0 5 h) fun v4 => ob (qI v3 (3 * v4) a1 h) fun h => ob (gR 2 a0 4 h) fun v5 => ob (gI 2 a0 5 h) fun v6 => ob (qI v5 ((3 * v6) + 1) a2 h) fun h => ob (gR 2 a0 4 h) fun v7 => ob (gI 2 a0 5 h) fun v8 => ob (qI v7 ((3 * v8) + 2) a3 h) fun h => ob (gI 2 a0 5 h) fun v9 => ob (pI 2 a0 5 (v9 + 1) h) fun h => some h)
theorem tkX2_write {a0 : Nat} {a1 : Int32} {a2 : Int32} {a3 : Int32} {h : Hp} {r9 : Hp} (e : fX2_write a0 a1 a2 a3 h = some r9) : hK h a0 = 2 := by
  unfold fX2_write at e
  exact (gd_some e).1
theorem cX2_write_m (l : Launch) {E : EE} {A : Nat → Prop} {a0 : Nat} {a1 : Int32} {a2 : Int32} {a3 : Int32} {h : Hp} {h9 : Hp} (hf : fX2_write a0 a1 a2 a3 h = some h9) : Met l yX2_write (wsM yX2_write cX2_write 4 none) (rmm 8 0 0) (PcE E A h [rv a0, .int a1, .int a2, .int a3]) (Qv E A h9) 0 0 A := by
  refine met_of (by decide +kernel) (by simp [lg_sl, cat_rv, cat_wv, cat_sv, cat_i, cat_l, cat_a]) (fun p e s m args below meth c ls X hr hlk hnm S hl => ?_)
  have hl : lv_has ls 4 [(0, rv a0), (1, .int a1), (2, .int a2), (3, .int a3)] := by simpa [lv_args, cat_rv, cat_wv, cat_sv, cat_i, cat_l, cat_a] using hl
  generalize hH : s.heap = H at S ⊢
  generalize hlo : ([] : List Loc) = locs at S ⊢
  clear hH hlo
  unfold fX2_write at hf
  obtain ⟨hth, hf⟩ := gd_some hf
  refine g_aload_n X (or_rv _) dX2_write_0 rfl (lv_at hl 0 rfl) ?_
  refine g_gI X S foX2_33 rfl dX2_write_1 hf (fun v1 hf => ?_)
  refine lv_bipush (v := 8) X.1 X.2.1 dX2_write_4 (by decide) ?_
  refine lv_icmp_ge (tgt := 59) X.1 X.2.1 dX2_write_6 (by decide) (fun c2 => ?_) (fun c2 => ?_)
  · replace hf := (if_pos c2).symm.trans hf
    cases hf; exact g_rv X S hr hlk dX2_write_59
  · replace hf := (if_neg c2).symm.trans hf
    refine g_aload_n X (or_rv _) dX2_write_9 rfl (lv_at hl 0 rfl) ?_
    refine g_gR X S foX2_22 dX2_write_10 hf (fun v3 hf => ?_)
    refine lv_iconst (v := 3) X.1 X.2.1 dX2_write_13 (by decide) ?_
    refine g_aload_n X (or_rv _) dX2_write_14 rfl (lv_at hl 0 rfl) ?_
    refine g_gI X S foX2_33 rfl dX2_write_15 hf (fun v4 hf => ?_)
    refine lv_imul X.1 X.2.1 dX2_write_18 ?_
    refine lv_iload_n X.1 X.2.1 dX2_write_19 rfl (lv_at hl 1 rfl) ?_
    refine g_qI X S dX2_write_20 hf (fun h H locs hm hf S => ?_)
    refine g_aload_n X (or_rv _) dX2_write_21 rfl (lv_at hl 0 rfl) ?_
    refine g_gR X S foX2_22 dX2_write_22 hf (fun v5 hf => ?_)
    refine lv_iconst (v := 3) X.1 X.2.1 dX2_write_25 (by decide) ?_
    refine g_aload_n X (or_rv _) dX2_write_26 rfl (lv_at hl 0 rfl) ?_
    refine g_gI X S foX2_33 rfl dX2_write_27 hf (fun v6 hf => ?_)
    refine lv_imul X.1 X.2.1 dX2_write_30 ?_
    refine lv_iconst (v := 1) X.1 X.2.1 dX2_write_31 (by decide) ?_
    refine lv_iadd X.1 X.2.1 dX2_write_32 ?_
    refine lv_iload_n X.1 X.2.1 dX2_write_33 rfl (lv_at hl 2 rfl) ?_
    refine g_qI X S dX2_write_34 hf (fun h H locs hm hf S => ?_)
    refine g_aload_n X (or_rv _) dX2_write_35 rfl (lv_at hl 0 rfl) ?_
    refine g_gR X S foX2_22 dX2_write_36 hf (fun v7 hf => ?_)
    refine lv_iconst (v := 3) X.1 X.2.1 dX2_write_39 (by decide) ?_
    refine g_aload_n X (or_rv _) dX2_write_40 rfl (lv_at hl 0 rfl) ?_
    refine g_gI X S foX2_33 rfl dX2_write_41 hf (fun v8 hf => ?_)
    refine lv_imul X.1 X.2.1 dX2_write_44 ?_
    refine lv_iconst (v := 2) X.1 X.2.1 dX2_write_45 (by decide) ?_
    refine lv_iadd X.1 X.2.1 dX2_write_46 ?_
    refine lv_iload_n X.1 X.2.1 dX2_write_47 rfl (lv_at hl 3 rfl) ?_
    refine g_qI X S dX2_write_48 hf (fun h H locs hm hf S => ?_)
    refine g_aload_n X (or_rv _) dX2_write_49 rfl (lv_at hl 0 rfl) ?_
    refine lv_dup X.1 X.2.1 dX2_write_50 (cat_rv _) ?_
    refine g_gI X S foX2_33 rfl dX2_write_51 hf (fun v9 hf => ?_)
    refine lv_iconst (v := 1) X.1 X.2.1 dX2_write_54 (by decide) ?_
    refine lv_iadd X.1 X.2.1 dX2_write_55 ?_
    refine g_pI X S fpX2_33 (Or.inl rfl) dX2_write_56 hf (fun h H locs hm hf S => ?_)
    cases hf; exact g_rv X S hr hlk dX2_write_59
def fX12_note_36 (x0 : Nat) (h : Hp) : Option (Int32 × Hp) := ob (gR 10 x0 10 h) fun v1 => ob (fX2_refuse v1 2 h) fun h => some ((-1), h)
theorem wfX12_note_36 {r9 : Int32} {h9 : Hp} (X : Cx p E A 9 R s m args c cX12_note yX12_note.cls 4) (hr : meth.sig.returnType = (some .int)) (hlk : meth.locks = false) (hnm : meth.name = yX12_note.name) :
    ∀ (x0 : Nat) (h : Hp) (H : Heap) (locs : List Loc) (ls : Array Slot), lv_has ls 4 [(0, rv x0)] → St E A s h H locs → fX12_note_36 x0 h = some (r9, h9) → W p l e R s m args below meth c H locs 0 0 (MQ below (Qi E A h9 r9) args s 0 0 A) (F0 m 36 ls []) := by
  intro x0 h H locs ls hl S hf
  unfold fX12_note_36 at hf
  refine g_aload_n X (or_rv _) dX12_note_36 rfl (lv_at hl 0 rfl) ?_
  refine g_gR X S foX12_61 dX12_note_37 hf (fun v1 hf => ?_)
  refine lv_iconst (v := 2) X.1 X.2.1 dX12_note_40 (by decide) ?_
  obtain ⟨h, hc, hf⟩ := ob_some hf
  refine g_cv S (runV (As := [.int 2]) (rest := []) X S coX12_86 (by decide) (cX2_refuse_m l hc) (tkX2_refuse hc) rfl hl.1 (by decide) rfl ⟨Nat.zero_le _, Nat.zero_le _⟩ dX12_note_41) (fun H locs S => ?_)
  refine lv_iconst (v := (-1)) X.1 X.2.1 dX12_note_44 (by decide) ?_
  cases hf; exact g_ri X S hr hlk dX12_note_45
def fX12_note (a0 : Nat) (a1 : Int32) (a2 : Int32) (a3 : Int32) (h : Hp) : Option (Int32 × Hp) := gd 10 a0 h (ob (gR 10 a0 10 h) fun v1 => ob (fX2_noted v1 h) fun v2 => if 8 ≤ v2 then fX12_note_36 a0 h else if a1 < 0 then fX12_note_36 a0 h else if 60 < a1 then fX12_note_36 a0 h else ob (fX10_isPlace a2) fun v6 => if v6 = 0 then fX12_note_36 a0 h else ob (fX10_isByte a3) fun v8 => if v8 = 0 then fX12_note_36 a0 h else ob (gR 10 a0 10 h) fun v10 => ob (fX2_write v10 a1 a2 a3 h) fun h => ob (gR 10 a0 10 h) fun v12 => ob (fX2_noted v12 h) fun v13 => some (v13, h))
theorem tkX12_note {a0 : Nat} {a1 : Int32} {a2 : Int32} {a3 : Int32} {h : Hp} {r9 : Int32 × Hp} (e : fX12_note a0 a1 a2 a3 h = some r9) : hK h a0 = 10 := by
  unfold fX12_note at e
  exact (gd_some e).1
theorem cX12_note_m (l : Launch) {E : EE} {A : Nat → Prop} {a0 : Nat} {a1 : Int32} {a2 : Int32} {a3 : Int32} {h : Hp} {r9 : Int32} {h9 : Hp} (hf : fX12_note a0 a1 a2 a3 h = some (r9, h9)) : Met l yX12_note (wsM yX12_note cX12_note 4 (some .int)) (rmm 9 0 0) (PcE E A h [rv a0, .int a1, .int a2, .int a3]) (Qi E A h9 r9) 0 0 A := by
  refine met_of (by decide +kernel) (by simp [lg_sl, cat_rv, cat_wv, cat_sv, cat_i, cat_l, cat_a]) (fun p e s m args below meth c ls X hr hlk hnm S hl => ?_)
  have hl : lv_has ls 4 [(0, rv a0), (1, .int a1), (2, .int a2), (3, .int a3)] := by simpa [lv_args, cat_rv, cat_wv, cat_sv, cat_i, cat_l, cat_a] using hl
  generalize hH : s.heap = H at S ⊢
  generalize hlo : ([] : List Loc) = locs at S ⊢
  clear hH hlo
  unfold fX12_note at hf
  obtain ⟨hth, hf⟩ := gd_some hf
  refine g_aload_n X (or_rv _) dX12_note_0 rfl (lv_at hl 0 rfl) ?_
  refine g_gR X S foX12_61 dX12_note_1 hf (fun v1 hf => ?_)
  obtain ⟨v2, hc, hf⟩ := ob_some hf
  refine g_ci S (runV (As := []) (rest := []) X S coX12_129 (by decide) (cX2_noted_m l hc) (tkX2_noted hc) rfl hl.1 (by decide) rfl ⟨Nat.zero_le _, Nat.zero_le _⟩ dX12_note_4) (fun H locs S => ?_)
  refine lv_bipush (v := 8) X.1 X.2.1 dX12_note_7 (by decide) ?_
  refine lv_icmp_ge (tgt := 36) X.1 X.2.1 dX12_note_9 (by decide) (fun c3 => ?_) (fun c3 => ?_)
  · replace hf := (if_pos c3).symm.trans hf
    exact wfX12_note_36 X hr hlk hnm _ _ _ _ _ (lv_sub hl [0] rfl) S hf
  · replace hf := (if_neg c3).symm.trans hf
    refine lv_iload_n X.1 X.2.1 dX12_note_12 rfl (lv_at hl 1 rfl) ?_
    refine lv_if_lt (tgt := 36) X.1 X.2.1 dX12_note_13 (by decide) (fun c4 => ?_) (fun c4 => ?_)
    · replace hf := (if_pos c4).symm.trans hf
      exact wfX12_note_36 X hr hlk hnm _ _ _ _ _ (lv_sub hl [0] rfl) S hf
    · replace hf := (if_neg c4).symm.trans hf
      refine lv_iload_n X.1 X.2.1 dX12_note_16 rfl (lv_at hl 1 rfl) ?_
      refine lv_bipush (v := 60) X.1 X.2.1 dX12_note_17 (by decide) ?_
      refine lv_icmp_gt (tgt := 36) X.1 X.2.1 dX12_note_19 (by decide) (fun c5 => ?_) (fun c5 => ?_)
      · replace hf := (if_pos c5).symm.trans hf
        exact wfX12_note_36 X hr hlk hnm _ _ _ _ _ (lv_sub hl [0] rfl) S hf
      · replace hf := (if_neg c5).symm.trans hf
        refine lv_iload_n X.1 X.2.1 dX12_note_22 rfl (lv_at hl 2 rfl) ?_
        obtain ⟨v6, hc, hf⟩ := ob_some hf
        refine g_ci S (runS (As := [.int a2]) (rest := []) X S coX12_232 (by decide) (cX10_isPlace_m l hc) rfl hl.1 (by decide) rfl ⟨Nat.zero_le _, Nat.zero_le _⟩ dX12_note_23) (fun H locs S => ?_)
        refine lv_if_eq (tgt := 36) X.1 X.2.1 dX12_note_26 (by decide) (fun c7 => ?_) (fun c7 => ?_)
        · replace hf := (if_pos c7).symm.trans hf
          exact wfX12_note_36 X hr hlk hnm _ _ _ _ _ (lv_sub hl [0] rfl) S hf
        · replace hf := (if_neg c7).symm.trans hf
          refine lv_iload_n X.1 X.2.1 dX12_note_29 rfl (lv_at hl 3 rfl) ?_
          obtain ⟨v8, hc, hf⟩ := ob_some hf
          refine g_ci S (runS (As := [.int a3]) (rest := []) X S coX12_236 (by decide) (cX10_isByte_m l hc) rfl hl.1 (by decide) rfl ⟨Nat.zero_le _, Nat.zero_le _⟩ dX12_note_30) (fun H locs S => ?_)
          refine lv_if_ne (tgt := 46) X.1 X.2.1 dX12_note_33 (by decide) (fun c9 => ?_) (fun c9 => ?_)
          · replace hf := (if_neg c9).symm.trans hf
            refine g_aload_n X (or_rv _) dX12_note_46 rfl (lv_at hl 0 rfl) ?_
            refine g_gR X S foX12_61 dX12_note_47 hf (fun v10 hf => ?_)
            refine lv_iload_n X.1 X.2.1 dX12_note_50 rfl (lv_at hl 1 rfl) ?_
            refine lv_iload_n X.1 X.2.1 dX12_note_51 rfl (lv_at hl 2 rfl) ?_
            refine lv_iload_n X.1 X.2.1 dX12_note_52 rfl (lv_at hl 3 rfl) ?_
            obtain ⟨h, hc, hf⟩ := ob_some hf
            refine g_cv S (runV (As := [.int a1, .int a2, .int a3]) (rest := []) X S coX12_279 (by decide) (cX2_write_m l hc) (tkX2_write hc) rfl hl.1 (by decide) rfl ⟨Nat.zero_le _, Nat.zero_le _⟩ dX12_note_53) (fun H locs S => ?_)
            refine g_aload_n X (or_rv _) dX12_note_56 rfl (lv_at hl 0 rfl) ?_
            refine g_gR X S foX12_61 dX12_note_57 hf (fun v12 hf => ?_)
            obtain ⟨v13, hc, hf⟩ := ob_some hf
            refine g_ci S (runV (As := []) (rest := []) X S coX12_129 (by decide) (cX2_noted_m l hc) (tkX2_noted hc) rfl hl.1 (by decide) rfl ⟨Nat.zero_le _, Nat.zero_le _⟩ dX12_note_60) (fun H locs S => ?_)
            cases hf; exact g_ri X S hr hlk dX12_note_63
          · replace hf := (if_pos c9).symm.trans hf
            exact wfX12_note_36 X hr hlk hnm _ _ _ _ _ (lv_sub hl [0] rfl) S hf
def fX2_latestNote_4 (h : Hp) (k4 : Nat → Int32 → Int32 → Option (Int32)) (x0 : Nat) (x1 : Int32) (x2 : Int32) : Option (Int32) := ob (gI 2 x0 5 h) fun v1 => if v1 ≤ x2 then some x1 else ob (gR 2 x0 4 h) fun v3 => ob (aI v3 (3 * x2) h) fun v4 => lt (imax x1 v4) fun z5 => lt (x2 + 1) fun z6 => k4 x0 z5 z6
theorem wfX2_latestNote_4 {h : Hp} {k4 : Nat → Int32 → Int32 → Option (Int32)} {r9 : Int32} (X : Cx p E A 8 R s m args c cX2_latestNote yX2_latestNote.cls 3) (hr : meth.sig.returnType = (some .int)) (hlk : meth.locks = false) (hnm : meth.name = yX2_latestNote.name) (hk4 : ∀ (x0 : Nat) (x1 : Int32) (x2 : Int32) (H : Heap) (locs : List Loc) (ls : Array Slot), lv_has ls 3 [(0, rv x0), (1, .int x1), (2, .int x2)] → St E A s h H locs → k4 x0 x1 x2 = some r9 → W p l e R s m args below meth c H locs 0 0 (MQ below (Qi E A h r9) args s 0 0 A) (F0 m 4 ls [])) :
    ∀ (x0 : Nat) (x1 : Int32) (x2 : Int32) (H : Heap) (locs : List Loc) (ls : Array Slot), lv_has ls 3 [(0, rv x0), (1, .int x1), (2, .int x2)] → St E A s h H locs → fX2_latestNote_4 h k4 x0 x1 x2 = some r9 → W p l e R s m args below meth c H locs 0 0 (MQ below (Qi E A h r9) args s 0 0 A) (F0 m 4 ls []) := by
  intro x0 x1 x2 H locs ls hl S hf
  unfold fX2_latestNote_4 at hf
  refine lv_iload_n X.1 X.2.1 dX2_latestNote_4 rfl (lv_at hl 2 rfl) ?_
  refine g_aload_n X (or_rv _) dX2_latestNote_5 rfl (lv_at hl 0 rfl) ?_
  refine g_gI X S foX2_33 rfl dX2_latestNote_6 hf (fun v1 hf => ?_)
  refine lv_icmp_ge (tgt := 31) X.1 X.2.1 dX2_latestNote_9 (by decide) (fun c2 => ?_) (fun c2 => ?_)
  · replace hf := (if_pos c2).symm.trans hf
    refine lv_iload_n X.1 X.2.1 dX2_latestNote_31 rfl (lv_at hl 1 rfl) ?_
    cases hf; exact g_ri X S hr hlk dX2_latestNote_32
  · replace hf := (if_neg c2).symm.trans hf
    refine lv_iload_n X.1 X.2.1 dX2_latestNote_12 rfl (lv_at hl 1 rfl) ?_
    refine g_aload_n X (or_rv _) dX2_latestNote_13 rfl (lv_at hl 0 rfl) ?_
    refine g_gR X S foX2_22 dX2_latestNote_14 hf (fun v3 hf => ?_)
    refine lv_iconst (v := 3) X.1 X.2.1 dX2_latestNote_17 (by decide) ?_
    refine lv_iload_n X.1 X.2.1 dX2_latestNote_18 rfl (lv_at hl 2 rfl) ?_
    refine lv_imul X.1 X.2.1 dX2_latestNote_19 ?_
    refine g_aI X S dX2_latestNote_20 hf (fun v4 hf => ?_)
    refine g_max (rest := []) X hl.1 (by decide) (by decide) mlX2_47 u_max_s u_math u_max_c (Nat.zero_le _) (Nat.zero_le _) dX2_latestNote_21 ?_
    refine g_lti hf (fun z5 hf => ?_)
    refine lv_istore_n (i := 1) (lv' := [(1, .int z5), (0, rv x0), (2, .int x2)]) X.1 X.2.1 dX2_latestNote_24 rfl hl (by decide) (by simp [List.filter, cat_rv, cat_wv, cat_sv]) (fun ls hl => ?_)
    obtain ⟨z6, ez6, hf⟩ := lt_some hf
    refine lv_iinc (v := z6) (lv' := [(2, .int z6), (1, .int z5), (0, rv x0)]) X.1 X.2.1 dX2_latestNote_25 hl (k := 2) rfl (by rw [← ez6]; rfl) (by decide) rfl (fun ls hl => ?_)
    refine lv_goto (tgt := 4) X.1 X.2.1 dX2_latestNote_28 (by decide) ?_
    exact hk4 _ _ _ _ _ _ (lv_sub hl [2, 1, 0] rfl) S hf
theorem wfX2_latestNote_4_l {h : Hp} {r9 : Int32} (X : Cx p E A 8 R s m args c cX2_latestNote yX2_latestNote.cls 3) (hr : meth.sig.returnType = (some .int)) (hlk : meth.locks = false) (hnm : meth.name = yX2_latestNote.name) :
    ∀ (n : Nat) (x0 : Nat) (x1 : Int32) (x2 : Int32) (H : Heap) (locs : List Loc) (ls : Array Slot), lv_has ls 3 [(0, rv x0), (1, .int x1), (2, .int x2)] → St E A s h H locs → lp (fun _ _ _ => none) (fX2_latestNote_4 h) n x0 x1 x2 = some r9 → W p l e R s m args below meth c H locs 0 0 (MQ below (Qi E A h r9) args s 0 0 A) (F0 m 4 ls []) := by
  intro n
  induction n with
  | zero =>
    intro x0 x1 x2 H locs ls hl S hf
    exact nomatch hf
  | succ n ih =>
    intro x0 x1 x2 H locs ls hl S hf
    exact wfX2_latestNote_4 X hr hlk hnm ih x0 x1 x2 H locs ls hl S hf
def fX2_latestNote (a0 : Nat) (h : Hp) : Option (Int32) := gd 2 a0 h (lp (fun _ _ _ => none) (fX2_latestNote_4 h) FU a0 (-1) 0)
theorem tkX2_latestNote {a0 : Nat} {h : Hp} {r9 : Int32} (e : fX2_latestNote a0 h = some r9) : hK h a0 = 2 := by
  unfold fX2_latestNote at e
  exact (gd_some e).1
theorem cX2_latestNote_m (l : Launch) {E : EE} {A : Nat → Prop} {a0 : Nat} {h : Hp} {r9 : Int32} (hf : fX2_latestNote a0 h = some r9) : Met l yX2_latestNote (wsM yX2_latestNote cX2_latestNote 3 (some .int)) (rmm 8 0 0) (PcE E A h [rv a0]) (Qi E A h r9) 0 0 A := by
  refine met_of (by decide +kernel) (by simp [lg_sl, cat_rv, cat_wv, cat_sv, cat_i, cat_l, cat_a]) (fun p e s m args below meth c ls X hr hlk hnm S hl => ?_)
  have hl : lv_has ls 3 [(0, rv a0)] := by simpa [lv_args, cat_rv, cat_wv, cat_sv, cat_i, cat_l, cat_a] using hl
  generalize hH : s.heap = H at S ⊢
  generalize hlo : ([] : List Loc) = locs at S ⊢
  clear hH hlo
  unfold fX2_latestNote at hf
  obtain ⟨hth, hf⟩ := gd_some hf
  refine lv_iconst (v := (-1)) X.1 X.2.1 dX2_latestNote_0 (by decide) ?_
  refine lv_istore_n (i := 1) (lv' := [(1, .int (-1)), (0, rv a0)]) X.1 X.2.1 dX2_latestNote_1 rfl hl (by decide) (by simp [List.filter, cat_rv, cat_wv, cat_sv]) (fun ls hl => ?_)
  refine lv_iconst (v := 0) X.1 X.2.1 dX2_latestNote_2 (by decide) ?_
  refine lv_istore_n (i := 2) (lv' := [(2, .int 0), (1, .int (-1)), (0, rv a0)]) X.1 X.2.1 dX2_latestNote_3 rfl hl (by decide) rfl (fun ls hl => ?_)
  exact wfX2_latestNote_4_l X hr hlk hnm FU _ _ _ _ _ _ (lv_sub hl [2, 1, 0] rfl) S hf
def fX2_bears_2 (h : Hp) (k2 : Nat → Nat → Int32 → Int32 → Option (Int32)) (x0 : Nat) (x1 : Nat) (x2 : Int32) (x3 : Int32) : Option (Int32) := ob (gI 2 x0 5 h) fun v1 => if v1 ≤ x3 then some 1 else ob (gR 2 x0 4 h) fun v3 => ob (aI v3 (3 * x3) h) fun v4 => if v4 = x2 then ob (gR 2 x0 4 h) fun v7 => ob (aI v7 ((3 * x3) + 1) h) fun v8 => ob (fX10_cell x1 v8 h) fun v9 => ob (gR 2 x0 4 h) fun v10 => ob (aI v10 ((3 * x3) + 2) h) fun v11 => if v9 = v11 then lt (x3 + 1) fun z13 => k2 x0 x1 x2 z13 else some 0 else lt (x3 + 1) fun z6 => k2 x0 x1 x2 z6
theorem wfX2_bears_2 {h : Hp} {k2 : Nat → Nat → Int32 → Int32 → Option (Int32)} {r9 : Int32} (X : Cx p E A 9 R s m args c cX2_bears yX2_bears.cls 4) (hr : meth.sig.returnType = (some .boolean)) (hlk : meth.locks = false) (hnm : meth.name = yX2_bears.name) (hk2 : ∀ (x0 : Nat) (x1 : Nat) (x2 : Int32) (x3 : Int32) (H : Heap) (locs : List Loc) (ls : Array Slot), lv_has ls 4 [(0, rv x0), (1, rv x1), (2, .int x2), (3, .int x3)] → St E A s h H locs → k2 x0 x1 x2 x3 = some r9 → W p l e R s m args below meth c H locs 0 0 (MQ below (Qi E A h r9) args s 0 0 A) (F0 m 2 ls [])) :
    ∀ (x0 : Nat) (x1 : Nat) (x2 : Int32) (x3 : Int32) (H : Heap) (locs : List Loc) (ls : Array Slot), lv_has ls 4 [(0, rv x0), (1, rv x1), (2, .int x2), (3, .int x3)] → St E A s h H locs → fX2_bears_2 h k2 x0 x1 x2 x3 = some r9 → W p l e R s m args below meth c H locs 0 0 (MQ below (Qi E A h r9) args s 0 0 A) (F0 m 2 ls []) := by
  intro x0 x1 x2 x3 H locs ls hl S hf
  unfold fX2_bears_2 at hf
  refine lv_iload_n X.1 X.2.1 dX2_bears_2 rfl (lv_at hl 3 rfl) ?_
  refine g_aload_n X (or_rv _) dX2_bears_3 rfl (lv_at hl 0 rfl) ?_
  refine g_gI X S foX2_33 rfl dX2_bears_4 hf (fun v1 hf => ?_)
  refine lv_icmp_ge (tgt := 57) X.1 X.2.1 dX2_bears_7 (by decide) (fun c2 => ?_) (fun c2 => ?_)
  · replace hf := (if_pos c2).symm.trans hf
    refine lv_iconst (v := 1) X.1 X.2.1 dX2_bears_57 (by decide) ?_
    cases hf; exact g_rz X S hr hlk (by decide) dX2_bears_58
  · replace hf := (if_neg c2).symm.trans hf
    refine g_aload_n X (or_rv _) dX2_bears_10 rfl (lv_at hl 0 rfl) ?_
    refine g_gR X S foX2_22 dX2_bears_11 hf (fun v3 hf => ?_)
    refine lv_iconst (v := 3) X.1 X.2.1 dX2_bears_14 (by decide) ?_
    refine lv_iload_n X.1 X.2.1 dX2_bears_15 rfl (lv_at hl 3 rfl) ?_
    refine lv_imul X.1 X.2.1 dX2_bears_16 ?_
    refine g_aI X S dX2_bears_17 hf (fun v4 hf => ?_)
    refine lv_iload_n X.1 X.2.1 dX2_bears_18 rfl (lv_at hl 2 rfl) ?_
    refine lv_icmp_ne (tgt := 51) X.1 X.2.1 dX2_bears_19 (by decide) (fun c5 => ?_) (fun c5 => ?_)
    · replace hf := (if_neg c5).symm.trans hf
      obtain ⟨z6, ez6, hf⟩ := lt_some hf
      refine lv_iinc (v := z6) (lv' := [(3, .int z6), (0, rv x0), (1, rv x1), (2, .int x2)]) X.1 X.2.1 dX2_bears_51 hl (k := 3) rfl (by rw [← ez6]; rfl) (by decide) rfl (fun ls hl => ?_)
      refine lv_goto (tgt := 2) X.1 X.2.1 dX2_bears_54 (by decide) ?_
      exact hk2 _ _ _ _ _ _ _ (lv_sub hl [1, 2, 3, 0] rfl) S hf
    · replace hf := (if_pos c5).symm.trans hf
      refine g_aload_n X (or_rv _) dX2_bears_22 rfl (lv_at hl 1 rfl) ?_
      refine g_aload_n X (or_rv _) dX2_bears_23 rfl (lv_at hl 0 rfl) ?_
      refine g_gR X S foX2_22 dX2_bears_24 hf (fun v7 hf => ?_)
      refine lv_iconst (v := 3) X.1 X.2.1 dX2_bears_27 (by decide) ?_
      refine lv_iload_n X.1 X.2.1 dX2_bears_28 rfl (lv_at hl 3 rfl) ?_
      refine lv_imul X.1 X.2.1 dX2_bears_29 ?_
      refine lv_iconst (v := 1) X.1 X.2.1 dX2_bears_30 (by decide) ?_
      refine lv_iadd X.1 X.2.1 dX2_bears_31 ?_
      refine g_aI X S dX2_bears_32 hf (fun v8 hf => ?_)
      obtain ⟨v9, hc, hf⟩ := ob_some hf
      refine g_ci S (runV (As := [.int v8]) (rest := []) X S coX2_53 (by decide) (cX10_cell_m l hc) (tkX10_cell hc) rfl hl.1 (by decide) rfl ⟨Nat.zero_le _, Nat.zero_le _⟩ dX2_bears_33) (fun H locs S => ?_)
      refine g_aload_n X (or_rv _) dX2_bears_36 rfl (lv_at hl 0 rfl) ?_
      refine g_gR X S foX2_22 dX2_bears_37 hf (fun v10 hf => ?_)
      refine lv_iconst (v := 3) X.1 X.2.1 dX2_bears_40 (by decide) ?_
      refine lv_iload_n X.1 X.2.1 dX2_bears_41 rfl (lv_at hl 3 rfl) ?_
      refine lv_imul X.1 X.2.1 dX2_bears_42 ?_
      refine lv_iconst (v := 2) X.1 X.2.1 dX2_bears_43 (by decide) ?_
      refine lv_iadd X.1 X.2.1 dX2_bears_44 ?_
      refine g_aI X S dX2_bears_45 hf (fun v11 hf => ?_)
      refine lv_icmp_eq (tgt := 51) X.1 X.2.1 dX2_bears_46 (by decide) (fun c12 => ?_) (fun c12 => ?_)
      · replace hf := (if_pos c12).symm.trans hf
        obtain ⟨z13, ez13, hf⟩ := lt_some hf
        refine lv_iinc (v := z13) (lv' := [(3, .int z13), (0, rv x0), (1, rv x1), (2, .int x2)]) X.1 X.2.1 dX2_bears_51 hl (k := 3) rfl (by rw [← ez13]; rfl) (by decide) rfl (fun ls hl => ?_)
        refine lv_goto (tgt := 2) X.1 X.2.1 dX2_bears_54 (by decide) ?_
        exact hk2 _ _ _ _ _ _ _ (lv_sub hl [1, 2, 3, 0] rfl) S hf
      · replace hf := (if_neg c12).symm.trans hf
        refine lv_iconst (v := 0) X.1 X.2.1 dX2_bears_49 (by decide) ?_
        cases hf; exact g_rz X S hr hlk (by decide) dX2_bears_50
theorem wfX2_bears_2_l {h : Hp} {r9 : Int32} (X : Cx p E A 9 R s m args c cX2_bears yX2_bears.cls 4) (hr : meth.sig.returnType = (some .boolean)) (hlk : meth.locks = false) (hnm : meth.name = yX2_bears.name) :
    ∀ (n : Nat) (x0 : Nat) (x1 : Nat) (x2 : Int32) (x3 : Int32) (H : Heap) (locs : List Loc) (ls : Array Slot), lv_has ls 4 [(0, rv x0), (1, rv x1), (2, .int x2), (3, .int x3)] → St E A s h H locs → lp (fun _ _ _ _ => none) (fX2_bears_2 h) n x0 x1 x2 x3 = some r9 → W p l e R s m args below meth c H locs 0 0 (MQ below (Qi E A h r9) args s 0 0 A) (F0 m 2 ls []) := by
  intro n
  induction n with
  | zero =>
    intro x0 x1 x2 x3 H locs ls hl S hf
    exact nomatch hf
  | succ n ih =>
    intro x0 x1 x2 x3 H locs ls hl S hf
    exact wfX2_bears_2 X hr hlk hnm ih x0 x1 x2 x3 H locs ls hl S hf
def fX2_bears (a0 : Nat) (a1 : Nat) (a2 : Int32) (h : Hp) : Option (Int32) := gd 2 a0 h (lp (fun _ _ _ _ => none) (fX2_bears_2 h) FU a0 a1 a2 0)
theorem tkX2_bears {a0 : Nat} {a1 : Nat} {a2 : Int32} {h : Hp} {r9 : Int32} (e : fX2_bears a0 a1 a2 h = some r9) : hK h a0 = 2 := by
  unfold fX2_bears at e
  exact (gd_some e).1
theorem cX2_bears_m (l : Launch) {E : EE} {A : Nat → Prop} {a0 : Nat} {a1 : Nat} {a2 : Int32} {h : Hp} {r9 : Int32} (hf : fX2_bears a0 a1 a2 h = some r9) : Met l yX2_bears (wsM yX2_bears cX2_bears 4 (some .boolean)) (rmm 9 0 0) (PcE E A h [rv a0, rv a1, .int a2]) (Qi E A h r9) 0 0 A := by
  refine met_of (by decide +kernel) (by simp [lg_sl, cat_rv, cat_wv, cat_sv, cat_i, cat_l, cat_a]) (fun p e s m args below meth c ls X hr hlk hnm S hl => ?_)
  have hl : lv_has ls 4 [(0, rv a0), (1, rv a1), (2, .int a2)] := by simpa [lv_args, cat_rv, cat_wv, cat_sv, cat_i, cat_l, cat_a] using hl
  generalize hH : s.heap = H at S ⊢
  generalize hlo : ([] : List Loc) = locs at S ⊢
  clear hH hlo
  unfold fX2_bears at hf
  obtain ⟨hth, hf⟩ := gd_some hf
  refine lv_iconst (v := 0) X.1 X.2.1 dX2_bears_0 (by decide) ?_
  refine lv_istore_n (i := 3) (lv' := [(3, .int 0), (0, rv a0), (1, rv a1), (2, .int a2)]) X.1 X.2.1 dX2_bears_1 rfl hl (by decide) rfl (fun ls hl => ?_)
  exact wfX2_bears_2_l X hr hlk hnm FU _ _ _ _ _ _ _ (lv_sub hl [1, 2, 3, 0] rfl) S hf
def fX4_bears_10 (k10 : Nat → Nat → Int32 → Int32 → Int32 → Hp → Option (Int32 × Hp)) (x0 : Nat) (x1 : Nat) (x2 : Int32) (x3 : Int32) (x4 : Int32) (h : Hp) : Option (Int32 × Hp) := if x3 < x4 then some (1, h) else if 60 < x4 then some (1, h) else ob (gR 4 x0 1 h) fun v3 => ob (fX2_bears x1 v3 x4 h) fun v4 => if v4 = 0 then some (0, h) else if x2 = 0 then lt (x4 + 1) fun z7 => k10 x0 x1 x2 x3 z7 h else if x3 ≤ x4 then lt (x4 + 1) fun z9 => k10 x0 x1 x2 x3 z9 h else ob (gR 4 x0 1 h) fun v10 => ob (fX10_running v10 h) fun v11 => if v11 = 0 then lt (x4 + 1) fun z13 => k10 x0 x1 x2 x3 z13 h else ob (gR 4 x0 0 h) fun v14 => ob (gR 4 x0 1 h) fun v15 => ob2 (fX9_step v14 v15 h) fun v16 h => if v16 = 0 then lt (x4 + 1) fun z19 => k10 x0 x1 1 x3 z19 h else lt (x4 + 1) fun z18 => k10 x0 x1 0 x3 z18 h
theorem wfX4_bears_10 {k10 : Nat → Nat → Int32 → Int32 → Int32 → Hp → Option (Int32 × Hp)} {r9 : Int32} {h9 : Hp} (X : Cx p E A 13 R s m args c cX4_bears yX4_bears.cls 5) (hr : meth.sig.returnType = (some .boolean)) (hlk : meth.locks = false) (hnm : meth.name = yX4_bears.name) (hk10 : ∀ (x0 : Nat) (x1 : Nat) (x2 : Int32) (x3 : Int32) (x4 : Int32) (h : Hp) (H : Heap) (locs : List Loc) (ls : Array Slot), lv_has ls 5 [(0, rv x0), (1, rv x1), (2, .int x2), (3, .int x3), (4, .int x4)] → St E A s h H locs → k10 x0 x1 x2 x3 x4 h = some (r9, h9) → W p l e R s m args below meth c H locs 0 0 (MQ below (Qi E A h9 r9) args s 0 0 A) (F0 m 10 ls [])) :
    ∀ (x0 : Nat) (x1 : Nat) (x2 : Int32) (x3 : Int32) (x4 : Int32) (h : Hp) (H : Heap) (locs : List Loc) (ls : Array Slot), lv_has ls 5 [(0, rv x0), (1, rv x1), (2, .int x2), (3, .int x3), (4, .int x4)] → St E A s h H locs → fX4_bears_10 k10 x0 x1 x2 x3 x4 h = some (r9, h9) → W p l e R s m args below meth c H locs 0 0 (MQ below (Qi E A h9 r9) args s 0 0 A) (F0 m 10 ls []) := by
  intro x0 x1 x2 x3 x4 h H locs ls hl S hf
  unfold fX4_bears_10 at hf
  refine lv_iload X.1 X.2.1 dX4_bears_10 (lv_at hl 4 rfl) ?_
  refine lv_iload_n X.1 X.2.1 dX4_bears_12 rfl (lv_at hl 3 rfl) ?_
  refine lv_icmp_gt (tgt := 84) X.1 X.2.1 dX4_bears_13 (by decide) (fun c1 => ?_) (fun c1 => ?_)
  · replace hf := (if_pos c1).symm.trans hf
    refine lv_iconst (v := 1) X.1 X.2.1 dX4_bears_84 (by decide) ?_
    cases hf; exact g_rz X S hr hlk (by decide) dX4_bears_85
  · replace hf := (if_neg c1).symm.trans hf
    refine lv_iload X.1 X.2.1 dX4_bears_16 (lv_at hl 4 rfl) ?_
    refine lv_bipush (v := 60) X.1 X.2.1 dX4_bears_18 (by decide) ?_
    refine lv_icmp_gt (tgt := 84) X.1 X.2.1 dX4_bears_20 (by decide) (fun c2 => ?_) (fun c2 => ?_)
    · replace hf := (if_pos c2).symm.trans hf
      refine lv_iconst (v := 1) X.1 X.2.1 dX4_bears_84 (by decide) ?_
      cases hf; exact g_rz X S hr hlk (by decide) dX4_bears_85
    · replace hf := (if_neg c2).symm.trans hf
      refine g_aload_n X (or_rv _) dX4_bears_23 rfl (lv_at hl 1 rfl) ?_
      refine g_aload_n X (or_rv _) dX4_bears_24 rfl (lv_at hl 0 rfl) ?_
      refine g_gR X S foX4_21 dX4_bears_25 hf (fun v3 hf => ?_)
      refine lv_iload X.1 X.2.1 dX4_bears_28 (lv_at hl 4 rfl) ?_
      obtain ⟨v4, hc, hf⟩ := ob_some hf
      refine g_ci S (runV (As := [rv v3, .int x4]) (rest := []) X S coX4_89 (by decide) (cX2_bears_m l hc) (tkX2_bears hc) rfl hl.1 (by decide) rfl ⟨Nat.zero_le _, Nat.zero_le _⟩ dX4_bears_30) (fun H locs S => ?_)
      refine lv_if_ne (tgt := 38) X.1 X.2.1 dX4_bears_33 (by decide) (fun c5 => ?_) (fun c5 => ?_)
      · replace hf := (if_neg c5).symm.trans hf
        refine lv_iload_n X.1 X.2.1 dX4_bears_38 rfl (lv_at hl 2 rfl) ?_
        refine lv_if_eq (tgt := 78) X.1 X.2.1 dX4_bears_39 (by decide) (fun c6 => ?_) (fun c6 => ?_)
        · replace hf := (if_pos c6).symm.trans hf
          obtain ⟨z7, ez7, hf⟩ := lt_some hf
          refine lv_iinc (v := z7) (lv' := [(4, .int z7), (0, rv x0), (1, rv x1), (2, .int x2), (3, .int x3)]) X.1 X.2.1 dX4_bears_78 hl (k := 4) rfl (by rw [← ez7]; rfl) (by decide) rfl (fun ls hl => ?_)
          refine lv_goto (tgt := 10) X.1 X.2.1 dX4_bears_81 (by decide) ?_
          exact hk10 _ _ _ _ _ _ _ _ _ (lv_sub hl [1, 2, 3, 4, 0] rfl) S hf
        · replace hf := (if_neg c6).symm.trans hf
          refine lv_iload X.1 X.2.1 dX4_bears_42 (lv_at hl 4 rfl) ?_
          refine lv_iload_n X.1 X.2.1 dX4_bears_44 rfl (lv_at hl 3 rfl) ?_
          refine lv_icmp_ge (tgt := 78) X.1 X.2.1 dX4_bears_45 (by decide) (fun c8 => ?_) (fun c8 => ?_)
          · replace hf := (if_pos c8).symm.trans hf
            obtain ⟨z9, ez9, hf⟩ := lt_some hf
            refine lv_iinc (v := z9) (lv' := [(4, .int z9), (0, rv x0), (1, rv x1), (2, .int x2), (3, .int x3)]) X.1 X.2.1 dX4_bears_78 hl (k := 4) rfl (by rw [← ez9]; rfl) (by decide) rfl (fun ls hl => ?_)
            refine lv_goto (tgt := 10) X.1 X.2.1 dX4_bears_81 (by decide) ?_
            exact hk10 _ _ _ _ _ _ _ _ _ (lv_sub hl [1, 2, 3, 4, 0] rfl) S hf
          · replace hf := (if_neg c8).symm.trans hf
            refine g_aload_n X (or_rv _) dX4_bears_48 rfl (lv_at hl 0 rfl) ?_
            refine g_gR X S foX4_21 dX4_bears_49 hf (fun v10 hf => ?_)
            obtain ⟨v11, hc, hf⟩ := ob_some hf
            refine g_ci S (runV (As := []) (rest := []) X S coX4_36 (by decide) (cX10_running_m l hc) (tkX10_running hc) rfl hl.1 (by decide) rfl ⟨Nat.zero_le _, Nat.zero_le _⟩ dX4_bears_52) (fun H locs S => ?_)
            refine lv_if_eq (tgt := 78) X.1 X.2.1 dX4_bears_55 (by decide) (fun c12 => ?_) (fun c12 => ?_)
            · replace hf := (if_pos c12).symm.trans hf
              obtain ⟨z13, ez13, hf⟩ := lt_some hf
              refine lv_iinc (v := z13) (lv' := [(4, .int z13), (0, rv x0), (1, rv x1), (2, .int x2), (3, .int x3)]) X.1 X.2.1 dX4_bears_78 hl (k := 4) rfl (by rw [← ez13]; rfl) (by decide) rfl (fun ls hl => ?_)
              refine lv_goto (tgt := 10) X.1 X.2.1 dX4_bears_81 (by decide) ?_
              exact hk10 _ _ _ _ _ _ _ _ _ (lv_sub hl [1, 2, 3, 4, 0] rfl) S hf
            · replace hf := (if_neg c12).symm.trans hf
              refine g_aload_n X (or_rv _) dX4_bears_58 rfl (lv_at hl 0 rfl) ?_
              refine g_gR X S foX4_12 dX4_bears_59 hf (fun v14 hf => ?_)
              refine g_aload_n X (or_rv _) dX4_bears_62 rfl (lv_at hl 0 rfl) ?_
              refine g_gR X S foX4_21 dX4_bears_63 hf (fun v15 hf => ?_)
              obtain ⟨v16, h, hc, hf⟩ := ob2_some hf
              refine g_ci S (runV (As := [rv v15]) (rest := []) X S coX4_40 (by decide) (cX9_step_m l hc) (tkX9_step hc) rfl hl.1 (by decide) rfl ⟨Nat.zero_le _, Nat.zero_le _⟩ dX4_bears_66) (fun H locs S => ?_)
              refine lv_if_ne (tgt := 76) X.1 X.2.1 dX4_bears_69 (by decide) (fun c17 => ?_) (fun c17 => ?_)
              · replace hf := (if_neg c17).symm.trans hf
                refine lv_iconst (v := 0) X.1 X.2.1 dX4_bears_76 (by decide) ?_
                refine lv_istore_n (i := 2) (lv' := [(2, .int 0), (0, rv x0), (1, rv x1), (3, .int x3), (4, .int x4)]) X.1 X.2.1 dX4_bears_77 rfl hl (by decide) (by simp [List.filter, cat_rv, cat_wv, cat_sv]) (fun ls hl => ?_)
                obtain ⟨z18, ez18, hf⟩ := lt_some hf
                refine lv_iinc (v := z18) (lv' := [(4, .int z18), (2, .int 0), (0, rv x0), (1, rv x1), (3, .int x3)]) X.1 X.2.1 dX4_bears_78 hl (k := 4) rfl (by rw [← ez18]; rfl) (by decide) rfl (fun ls hl => ?_)
                refine lv_goto (tgt := 10) X.1 X.2.1 dX4_bears_81 (by decide) ?_
                exact hk10 _ _ _ _ _ _ _ _ _ (lv_sub hl [2, 3, 1, 4, 0] rfl) S hf
              · replace hf := (if_pos c17).symm.trans hf
                refine lv_iconst (v := 1) X.1 X.2.1 dX4_bears_72 (by decide) ?_
                refine lv_goto (tgt := 77) X.1 X.2.1 dX4_bears_73 (by decide) ?_
                refine lv_istore_n (i := 2) (lv' := [(2, .int 1), (0, rv x0), (1, rv x1), (3, .int x3), (4, .int x4)]) X.1 X.2.1 dX4_bears_77 rfl hl (by decide) (by simp [List.filter, cat_rv, cat_wv, cat_sv]) (fun ls hl => ?_)
                obtain ⟨z19, ez19, hf⟩ := lt_some hf
                refine lv_iinc (v := z19) (lv' := [(4, .int z19), (2, .int 1), (0, rv x0), (1, rv x1), (3, .int x3)]) X.1 X.2.1 dX4_bears_78 hl (k := 4) rfl (by rw [← ez19]; rfl) (by decide) rfl (fun ls hl => ?_)
                refine lv_goto (tgt := 10) X.1 X.2.1 dX4_bears_81 (by decide) ?_
                exact hk10 _ _ _ _ _ _ _ _ _ (lv_sub hl [2, 3, 1, 4, 0] rfl) S hf
      · replace hf := (if_pos c5).symm.trans hf
        refine lv_iconst (v := 0) X.1 X.2.1 dX4_bears_36 (by decide) ?_
        cases hf; exact g_rz X S hr hlk (by decide) dX4_bears_37
theorem wfX4_bears_10_l {r9 : Int32} {h9 : Hp} (X : Cx p E A 13 R s m args c cX4_bears yX4_bears.cls 5) (hr : meth.sig.returnType = (some .boolean)) (hlk : meth.locks = false) (hnm : meth.name = yX4_bears.name) :
    ∀ (n : Nat) (x0 : Nat) (x1 : Nat) (x2 : Int32) (x3 : Int32) (x4 : Int32) (h : Hp) (H : Heap) (locs : List Loc) (ls : Array Slot), lv_has ls 5 [(0, rv x0), (1, rv x1), (2, .int x2), (3, .int x3), (4, .int x4)] → St E A s h H locs → lp (fun _ _ _ _ _ _ => none) (fX4_bears_10) n x0 x1 x2 x3 x4 h = some (r9, h9) → W p l e R s m args below meth c H locs 0 0 (MQ below (Qi E A h9 r9) args s 0 0 A) (F0 m 10 ls []) := by
  intro n
  induction n with
  | zero =>
    intro x0 x1 x2 x3 x4 h H locs ls hl S hf
    exact nomatch hf
  | succ n ih =>
    intro x0 x1 x2 x3 x4 h H locs ls hl S hf
    exact wfX4_bears_10 X hr hlk hnm ih x0 x1 x2 x3 x4 h H locs ls hl S hf
def fX4_bears (a0 : Nat) (a1 : Nat) (h : Hp) : Option (Int32 × Hp) := gd 4 a0 h (ob (fX2_latestNote a1 h) fun v1 => lp (fun _ _ _ _ _ _ => none) (fX4_bears_10) FU a0 a1 1 v1 0 h)
theorem tkX4_bears {a0 : Nat} {a1 : Nat} {h : Hp} {r9 : Int32 × Hp} (e : fX4_bears a0 a1 h = some r9) : hK h a0 = 4 := by
  unfold fX4_bears at e
  exact (gd_some e).1
theorem cX4_bears_m (l : Launch) {E : EE} {A : Nat → Prop} {a0 : Nat} {a1 : Nat} {h : Hp} {r9 : Int32} {h9 : Hp} (hf : fX4_bears a0 a1 h = some (r9, h9)) : Met l yX4_bears (wsM yX4_bears cX4_bears 5 (some .boolean)) (rmm 13 0 0) (PcE E A h [rv a0, rv a1]) (Qi E A h9 r9) 0 0 A := by
  refine met_of (by decide +kernel) (by simp [lg_sl, cat_rv, cat_wv, cat_sv, cat_i, cat_l, cat_a]) (fun p e s m args below meth c ls X hr hlk hnm S hl => ?_)
  have hl : lv_has ls 5 [(0, rv a0), (1, rv a1)] := by simpa [lv_args, cat_rv, cat_wv, cat_sv, cat_i, cat_l, cat_a] using hl
  generalize hH : s.heap = H at S ⊢
  generalize hlo : ([] : List Loc) = locs at S ⊢
  clear hH hlo
  unfold fX4_bears at hf
  obtain ⟨hth, hf⟩ := gd_some hf
  refine lv_iconst (v := 1) X.1 X.2.1 dX4_bears_0 (by decide) ?_
  refine lv_istore_n (i := 2) (lv' := [(2, .int 1), (0, rv a0), (1, rv a1)]) X.1 X.2.1 dX4_bears_1 rfl hl (by decide) (by simp [List.filter, cat_rv, cat_wv, cat_sv]) (fun ls hl => ?_)
  refine g_aload_n X (or_rv _) dX4_bears_2 rfl (lv_at hl 2 rfl) ?_
  obtain ⟨v1, hc, hf⟩ := ob_some hf
  refine g_ci S (runV (As := []) (rest := []) X S coX4_85 (by decide) (cX2_latestNote_m l hc) (tkX2_latestNote hc) rfl hl.1 (by decide) rfl ⟨Nat.zero_le _, Nat.zero_le _⟩ dX4_bears_3) (fun H locs S => ?_)
  refine lv_istore_n (i := 3) (lv' := [(3, .int v1), (2, .int 1), (0, rv a0), (1, rv a1)]) X.1 X.2.1 dX4_bears_6 rfl hl (by decide) rfl (fun ls hl => ?_)
  refine lv_iconst (v := 0) X.1 X.2.1 dX4_bears_7 (by decide) ?_
  refine lv_istore (lv' := [(4, .int 0), (3, .int v1), (2, .int 1), (0, rv a0), (1, rv a1)]) X.1 X.2.1 dX4_bears_8 hl (by decide) rfl (fun ls hl => ?_)
  exact wfX4_bears_10_l X hr hlk hnm FU _ _ _ _ _ _ _ _ _ (lv_sub hl [3, 4, 2, 1, 0] rfl) S hf
def fX4_blame_124 (k35 : Nat → Nat → Int32 → Int32 → Int32 → Nat → Int32 → Int32 → Hp → Option (Int32 × Hp)) (x0 : Nat) (x1 : Nat) (x2 : Int32) (x3 : Int32) (x4 : Int32) (x5 : Nat) (x6 : Int32) (x7 : Int32) (y0 : Int32) (y1 : Int32) (y2 : Nat) (h : Hp) : Option (Int32 × Hp) := ob (qI y2 y1 y0 h) fun h => lt (x7 + 1) fun z1 => k35 x0 x1 x2 x3 x4 x5 x6 z1 h
theorem wfX4_blame_124 {k35 : Nat → Nat → Int32 → Int32 → Int32 → Nat → Int32 → Int32 → Hp → Option (Int32 × Hp)} {r9 : Int32} {h9 : Hp} (X : Cx p E A 14 R s m args c cX4_blame yX4_blame.cls 8) (hr : meth.sig.returnType = (some .int)) (hlk : meth.locks = false) (hnm : meth.name = yX4_blame.name) (hk35 : ∀ (x0 : Nat) (x1 : Nat) (x2 : Int32) (x3 : Int32) (x4 : Int32) (x5 : Nat) (x6 : Int32) (x7 : Int32) (h : Hp) (H : Heap) (locs : List Loc) (ls : Array Slot), lv_has ls 8 [(0, rv x0), (1, rv x1), (2, .int x2), (3, .int x3), (4, .int x4), (5, rv x5), (6, .int x6), (7, .int x7)] → St E A s h H locs → k35 x0 x1 x2 x3 x4 x5 x6 x7 h = some (r9, h9) → W p l e R s m args below meth c H locs 0 0 (MQ below (Qi E A h9 r9) args s 0 0 A) (F0 m 35 ls [])) :
    ∀ (x0 : Nat) (x1 : Nat) (x2 : Int32) (x3 : Int32) (x4 : Int32) (x5 : Nat) (x6 : Int32) (x7 : Int32) (y0 : Int32) (y1 : Int32) (y2 : Nat) (h : Hp) (H : Heap) (locs : List Loc) (ls : Array Slot), lv_has ls 8 [(0, rv x0), (1, rv x1), (2, .int x2), (3, .int x3), (4, .int x4), (5, rv x5), (6, .int x6), (7, .int x7)] → St E A s h H locs → fX4_blame_124 k35 x0 x1 x2 x3 x4 x5 x6 x7 y0 y1 y2 h = some (r9, h9) → W p l e R s m args below meth c H locs 0 0 (MQ below (Qi E A h9 r9) args s 0 0 A) (F0 m 124 ls [.int y0, .int y1, rv y2]) := by
  intro x0 x1 x2 x3 x4 x5 x6 x7 y0 y1 y2 h H locs ls hl S hf
  unfold fX4_blame_124 at hf
  refine g_qI X S dX4_blame_124 hf (fun h H locs hm hf S => ?_)
  obtain ⟨z1, ez1, hf⟩ := lt_some hf
  refine lv_iinc (v := z1) (lv' := [(7, .int z1), (0, rv x0), (1, rv x1), (2, .int x2), (3, .int x3), (4, .int x4), (5, rv x5), (6, .int x6)]) X.1 X.2.1 dX4_blame_125 hl (k := 7) rfl (by rw [← ez1]; rfl) (by decide) rfl (fun ls hl => ?_)
  refine lv_goto (tgt := 35) X.1 X.2.1 dX4_blame_128 (by decide) ?_
  exact hk35 _ _ _ _ _ _ _ _ _ _ _ _ (lv_sub hl [1, 2, 3, 4, 5, 6, 7, 0] rfl) S hf
def fX4_blame_35 (k22 : Nat → Nat → Int32 → Int32 → Int32 → Nat → Int32 → Hp → Option (Int32 × Hp)) (k35 : Nat → Nat → Int32 → Int32 → Int32 → Nat → Int32 → Int32 → Hp → Option (Int32 × Hp)) (x0 : Nat) (x1 : Nat) (x2 : Int32) (x3 : Int32) (x4 : Int32) (x5 : Nat) (x6 : Int32) (x7 : Int32) (h : Hp) : Option (Int32 × Hp) := if 16 ≤ x7 then lt (x6 + 1) fun z2 => k22 x0 x1 x2 x3 x4 x5 z2 h else ob (gR 4 x0 1 h) fun v3 => ob (fX10_become v3 x5 h) fun h => ob (gR 4 x0 1 h) fun v5 => ob (fX10_putHalf v5 x6 x7 h) fun h => ob (fX10_half x5 x6 h) fun v7 => if x7 = v7 then lt (x7 + 1) fun z9 => k35 x0 x1 x2 x3 x4 x5 x6 z9 h else ob2 (fX4_bears x0 x1 h) fun v10 h => if v10 = 0 then lt (x7 + 1) fun z12 => k35 x0 x1 x2 x3 x4 x5 x6 z12 h else ob (gR 4 x0 3 h) fun v13 => ob (aI v13 0 h) fun v14 => ob (qI v13 0 (v14 + 1) h) fun h => ob (gR 4 x0 3 h) fun v15 => ob (gR 4 x0 3 h) fun v16 => ob (aI v16 1 h) fun v17 => if v17 = (-1) then fX4_blame_124 k35 x0 x1 x2 x3 x4 x5 x6 x7 ((100 * x6) + x7) 1 v15 h else ob (gR 4 x0 3 h) fun v19 => ob (aI v19 1 h) fun v20 => fX4_blame_124 k35 x0 x1 x2 x3 x4 x5 x6 x7 v20 1 v15 h
theorem wfX4_blame_35 {k22 : Nat → Nat → Int32 → Int32 → Int32 → Nat → Int32 → Hp → Option (Int32 × Hp)} {k35 : Nat → Nat → Int32 → Int32 → Int32 → Nat → Int32 → Int32 → Hp → Option (Int32 × Hp)} {r9 : Int32} {h9 : Hp} (X : Cx p E A 14 R s m args c cX4_blame yX4_blame.cls 8) (hr : meth.sig.returnType = (some .int)) (hlk : meth.locks = false) (hnm : meth.name = yX4_blame.name) (hk22 : ∀ (x0 : Nat) (x1 : Nat) (x2 : Int32) (x3 : Int32) (x4 : Int32) (x5 : Nat) (x6 : Int32) (h : Hp) (H : Heap) (locs : List Loc) (ls : Array Slot), lv_has ls 8 [(0, rv x0), (1, rv x1), (2, .int x2), (3, .int x3), (4, .int x4), (5, rv x5), (6, .int x6)] → St E A s h H locs → k22 x0 x1 x2 x3 x4 x5 x6 h = some (r9, h9) → W p l e R s m args below meth c H locs 0 0 (MQ below (Qi E A h9 r9) args s 0 0 A) (F0 m 22 ls [])) (hk35 : ∀ (x0 : Nat) (x1 : Nat) (x2 : Int32) (x3 : Int32) (x4 : Int32) (x5 : Nat) (x6 : Int32) (x7 : Int32) (h : Hp) (H : Heap) (locs : List Loc) (ls : Array Slot), lv_has ls 8 [(0, rv x0), (1, rv x1), (2, .int x2), (3, .int x3), (4, .int x4), (5, rv x5), (6, .int x6), (7, .int x7)] → St E A s h H locs → k35 x0 x1 x2 x3 x4 x5 x6 x7 h = some (r9, h9) → W p l e R s m args below meth c H locs 0 0 (MQ below (Qi E A h9 r9) args s 0 0 A) (F0 m 35 ls [])) :
    ∀ (x0 : Nat) (x1 : Nat) (x2 : Int32) (x3 : Int32) (x4 : Int32) (x5 : Nat) (x6 : Int32) (x7 : Int32) (h : Hp) (H : Heap) (locs : List Loc) (ls : Array Slot), lv_has ls 8 [(0, rv x0), (1, rv x1), (2, .int x2), (3, .int x3), (4, .int x4), (5, rv x5), (6, .int x6), (7, .int x7)] → St E A s h H locs → fX4_blame_35 k22 k35 x0 x1 x2 x3 x4 x5 x6 x7 h = some (r9, h9) → W p l e R s m args below meth c H locs 0 0 (MQ below (Qi E A h9 r9) args s 0 0 A) (F0 m 35 ls []) := by
  intro x0 x1 x2 x3 x4 x5 x6 x7 h H locs ls hl S hf
  unfold fX4_blame_35 at hf
  refine lv_iload X.1 X.2.1 dX4_blame_35 (lv_at hl 7 rfl) ?_
  refine lv_bipush (v := 16) X.1 X.2.1 dX4_blame_37 (by decide) ?_
  refine lv_icmp_ge (tgt := 131) X.1 X.2.1 dX4_blame_39 (by decide) (fun c1 => ?_) (fun c1 => ?_)
  · replace hf := (if_pos c1).symm.trans hf
    obtain ⟨z2, ez2, hf⟩ := lt_some hf
    refine lv_iinc (v := z2) (lv' := [(6, .int z2), (0, rv x0), (1, rv x1), (2, .int x2), (3, .int x3), (4, .int x4), (5, rv x5), (7, .int x7)]) X.1 X.2.1 dX4_blame_131 hl (k := 6) rfl (by rw [← ez2]; rfl) (by decide) (by simp [List.filter, cat_rv, cat_wv, cat_sv]) (fun ls hl => ?_)
    refine lv_goto (tgt := 22) X.1 X.2.1 dX4_blame_134 (by decide) ?_
    exact hk22 _ _ _ _ _ _ _ _ _ _ _ (lv_sub hl [1, 2, 3, 4, 5, 6, 0] rfl) S hf
  · replace hf := (if_neg c1).symm.trans hf
    refine g_aload_n X (or_rv _) dX4_blame_42 rfl (lv_at hl 0 rfl) ?_
    refine g_gR X S foX4_21 dX4_blame_43 hf (fun v3 hf => ?_)
    refine g_aload X (or_rv _) dX4_blame_46 (lv_at hl 5 rfl) ?_
    obtain ⟨h, hc, hf⟩ := ob_some hf
    refine g_cv S (runV (As := [rv x5]) (rest := []) X S coX4_32 (by decide) (cX10_become_m l hc) (tkX10_become hc) rfl hl.1 (by decide) rfl ⟨Nat.zero_le _, Nat.zero_le _⟩ dX4_blame_48) (fun H locs S => ?_)
    refine g_aload_n X (or_rv _) dX4_blame_51 rfl (lv_at hl 0 rfl) ?_
    refine g_gR X S foX4_21 dX4_blame_52 hf (fun v5 hf => ?_)
    refine lv_iload X.1 X.2.1 dX4_blame_55 (lv_at hl 6 rfl) ?_
    refine lv_iload X.1 X.2.1 dX4_blame_57 (lv_at hl 7 rfl) ?_
    obtain ⟨h, hc, hf⟩ := ob_some hf
    refine g_cv S (runV (As := [.int x6, .int x7]) (rest := []) X S coX4_62 (by decide) (cX10_putHalf_m l hc) (tkX10_putHalf hc) rfl hl.1 (by decide) rfl ⟨Nat.zero_le _, Nat.zero_le _⟩ dX4_blame_59) (fun H locs S => ?_)
    refine lv_iload X.1 X.2.1 dX4_blame_62 (lv_at hl 7 rfl) ?_
    refine g_aload X (or_rv _) dX4_blame_64 (lv_at hl 5 rfl) ?_
    refine lv_iload X.1 X.2.1 dX4_blame_66 (lv_at hl 6 rfl) ?_
    obtain ⟨v7, hc, hf⟩ := ob_some hf
    refine g_ci S (runV (As := [.int x6]) (rest := [.int x7]) X S coX4_59 (by decide) (cX10_half_m l hc) (tkX10_half hc) rfl hl.1 (by simp [cat_rv, cat_wv, cat_sv, cat_i, cat_l, cat_a]) rfl ⟨Nat.zero_le _, Nat.zero_le _⟩ dX4_blame_68) (fun H locs S => ?_)
    refine lv_icmp_eq (tgt := 125) X.1 X.2.1 dX4_blame_71 (by decide) (fun c8 => ?_) (fun c8 => ?_)
    · replace hf := (if_pos c8).symm.trans hf
      obtain ⟨z9, ez9, hf⟩ := lt_some hf
      refine lv_iinc (v := z9) (lv' := [(7, .int z9), (0, rv x0), (1, rv x1), (2, .int x2), (3, .int x3), (4, .int x4), (5, rv x5), (6, .int x6)]) X.1 X.2.1 dX4_blame_125 hl (k := 7) rfl (by rw [← ez9]; rfl) (by decide) rfl (fun ls hl => ?_)
      refine lv_goto (tgt := 35) X.1 X.2.1 dX4_blame_128 (by decide) ?_
      exact hk35 _ _ _ _ _ _ _ _ _ _ _ _ (lv_sub hl [1, 2, 3, 4, 5, 6, 7, 0] rfl) S hf
    · replace hf := (if_neg c8).symm.trans hf
      refine g_aload_n X (or_rv _) dX4_blame_74 rfl (lv_at hl 0 rfl) ?_
      refine g_aload_n X (or_rv _) dX4_blame_75 rfl (lv_at hl 1 rfl) ?_
      obtain ⟨v10, h, hc, hf⟩ := ob2_some hf
      refine g_ci S (runV (As := [rv x1]) (rest := []) X S coX4_81 (by decide) (cX4_bears_m l hc) (tkX4_bears hc) rfl hl.1 (by decide) rfl ⟨Nat.zero_le _, Nat.zero_le _⟩ dX4_blame_76) (fun H locs S => ?_)
      refine lv_if_eq (tgt := 125) X.1 X.2.1 dX4_blame_79 (by decide) (fun c11 => ?_) (fun c11 => ?_)
      · replace hf := (if_pos c11).symm.trans hf
        obtain ⟨z12, ez12, hf⟩ := lt_some hf
        refine lv_iinc (v := z12) (lv' := [(7, .int z12), (0, rv x0), (1, rv x1), (2, .int x2), (3, .int x3), (4, .int x4), (5, rv x5), (6, .int x6)]) X.1 X.2.1 dX4_blame_125 hl (k := 7) rfl (by rw [← ez12]; rfl) (by decide) rfl (fun ls hl => ?_)
        refine lv_goto (tgt := 35) X.1 X.2.1 dX4_blame_128 (by decide) ?_
        exact hk35 _ _ _ _ _ _ _ _ _ _ _ _ (lv_sub hl [1, 2, 3, 4, 5, 6, 7, 0] rfl) S hf
      · replace hf := (if_neg c11).symm.trans hf
        refine g_aload_n X (or_rv _) dX4_blame_82 rfl (lv_at hl 0 rfl) ?_
        refine g_gR X S foX4_28 dX4_blame_83 hf (fun v13 hf => ?_)
        refine lv_iconst (v := 0) X.1 X.2.1 dX4_blame_86 (by decide) ?_
        refine lv_dup2_11 X.1 X.2.1 dX4_blame_87 rfl (cat_rv _) ?_
        refine g_aI X S dX4_blame_88 hf (fun v14 hf => ?_)
        refine lv_iconst (v := 1) X.1 X.2.1 dX4_blame_89 (by decide) ?_
        refine lv_iadd X.1 X.2.1 dX4_blame_90 ?_
        refine g_qI X S dX4_blame_91 hf (fun h H locs hm hf S => ?_)
        refine g_aload_n X (or_rv _) dX4_blame_92 rfl (lv_at hl 0 rfl) ?_
        refine g_gR X S foX4_28 dX4_blame_93 hf (fun v15 hf => ?_)
        refine lv_iconst (v := 1) X.1 X.2.1 dX4_blame_96 (by decide) ?_
        refine g_aload_n X (or_rv _) dX4_blame_97 rfl (lv_at hl 0 rfl) ?_
        refine g_gR X S foX4_28 dX4_blame_98 hf (fun v16 hf => ?_)
        refine lv_iconst (v := 1) X.1 X.2.1 dX4_blame_101 (by decide) ?_
        refine g_aI X S dX4_blame_102 hf (fun v17 hf => ?_)
        refine lv_iconst (v := (-1)) X.1 X.2.1 dX4_blame_103 (by decide) ?_
        refine lv_icmp_ne (tgt := 118) X.1 X.2.1 dX4_blame_104 (by decide) (fun c18 => ?_) (fun c18 => ?_)
        · replace hf := (if_neg c18).symm.trans hf
          refine g_aload_n X (or_rv _) dX4_blame_118 rfl (lv_at hl 0 rfl) ?_
          refine g_gR X S foX4_28 dX4_blame_119 hf (fun v19 hf => ?_)
          refine lv_iconst (v := 1) X.1 X.2.1 dX4_blame_122 (by decide) ?_
          refine g_aI X S dX4_blame_123 hf (fun v20 hf => ?_)
          exact wfX4_blame_124 X hr hlk hnm hk35 _ _ _ _ _ _ _ _ _ _ _ _ _ _ _ hl S hf
        · replace hf := (if_pos c18).symm.trans hf
          refine lv_bipush (v := 100) X.1 X.2.1 dX4_blame_107 (by decide) ?_
          refine lv_iload X.1 X.2.1 dX4_blame_109 (lv_at hl 6 rfl) ?_
          refine lv_imul X.1 X.2.1 dX4_blame_111 ?_
          refine lv_iload X.1 X.2.1 dX4_blame_112 (lv_at hl 7 rfl) ?_
          refine lv_iadd X.1 X.2.1 dX4_blame_114 ?_
          refine lv_goto (tgt := 124) X.1 X.2.1 dX4_blame_115 (by decide) ?_
          exact wfX4_blame_124 X hr hlk hnm hk35 _ _ _ _ _ _ _ _ _ _ _ _ _ _ _ hl S hf
theorem wfX4_blame_35_l {k22 : Nat → Nat → Int32 → Int32 → Int32 → Nat → Int32 → Hp → Option (Int32 × Hp)} {r9 : Int32} {h9 : Hp} (X : Cx p E A 14 R s m args c cX4_blame yX4_blame.cls 8) (hr : meth.sig.returnType = (some .int)) (hlk : meth.locks = false) (hnm : meth.name = yX4_blame.name) (hk22 : ∀ (x0 : Nat) (x1 : Nat) (x2 : Int32) (x3 : Int32) (x4 : Int32) (x5 : Nat) (x6 : Int32) (h : Hp) (H : Heap) (locs : List Loc) (ls : Array Slot), lv_has ls 8 [(0, rv x0), (1, rv x1), (2, .int x2), (3, .int x3), (4, .int x4), (5, rv x5), (6, .int x6)] → St E A s h H locs → k22 x0 x1 x2 x3 x4 x5 x6 h = some (r9, h9) → W p l e R s m args below meth c H locs 0 0 (MQ below (Qi E A h9 r9) args s 0 0 A) (F0 m 22 ls [])) :
    ∀ (n : Nat) (x0 : Nat) (x1 : Nat) (x2 : Int32) (x3 : Int32) (x4 : Int32) (x5 : Nat) (x6 : Int32) (x7 : Int32) (h : Hp) (H : Heap) (locs : List Loc) (ls : Array Slot), lv_has ls 8 [(0, rv x0), (1, rv x1), (2, .int x2), (3, .int x3), (4, .int x4), (5, rv x5), (6, .int x6), (7, .int x7)] → St E A s h H locs → lp (fun _ _ _ _ _ _ _ _ _ => none) (fX4_blame_35 k22) n x0 x1 x2 x3 x4 x5 x6 x7 h = some (r9, h9) → W p l e R s m args below meth c H locs 0 0 (MQ below (Qi E A h9 r9) args s 0 0 A) (F0 m 35 ls []) := by
  intro n
  induction n with
  | zero =>
    intro x0 x1 x2 x3 x4 x5 x6 x7 h H locs ls hl S hf
    exact nomatch hf
  | succ n ih =>
    intro x0 x1 x2 x3 x4 x5 x6 x7 h H locs ls hl S hf
    exact wfX4_blame_35 X hr hlk hnm hk22 ih x0 x1 x2 x3 x4 x5 x6 x7 h H locs ls hl S hf
def fX4_blame_164 (x0 : Nat) (x4 : Int32) (y0 : Int32) (y1 : Int32) (y2 : Nat) (h : Hp) : Option (Int32 × Hp) := ob (qI y2 y1 y0 h) fun h => ob (fX4_told x0 x4 h) fun v1 => some (v1, h)
theorem wfX4_blame_164 {r9 : Int32} {h9 : Hp} (X : Cx p E A 14 R s m args c cX4_blame yX4_blame.cls 8) (hr : meth.sig.returnType = (some .int)) (hlk : meth.locks = false) (hnm : meth.name = yX4_blame.name) :
    ∀ (x0 : Nat) (x4 : Int32) (y0 : Int32) (y1 : Int32) (y2 : Nat) (h : Hp) (H : Heap) (locs : List Loc) (ls : Array Slot), lv_has ls 8 [(0, rv x0), (4, .int x4)] → St E A s h H locs → fX4_blame_164 x0 x4 y0 y1 y2 h = some (r9, h9) → W p l e R s m args below meth c H locs 0 0 (MQ below (Qi E A h9 r9) args s 0 0 A) (F0 m 164 ls [.int y0, .int y1, rv y2]) := by
  intro x0 x4 y0 y1 y2 h H locs ls hl S hf
  unfold fX4_blame_164 at hf
  refine g_qI X S dX4_blame_164 hf (fun h H locs hm hf S => ?_)
  refine g_aload_n X (or_rv _) dX4_blame_165 rfl (lv_at hl 0 rfl) ?_
  refine lv_iload X.1 X.2.1 dX4_blame_166 (lv_at hl 1 rfl) ?_
  obtain ⟨v1, hc, hf⟩ := ob_some hf
  refine g_ci S (runV (As := [.int x4]) (rest := []) X S coX4_74 (by decide) (cX4_told_m l hc) (tkX4_told hc) rfl hl.1 (by decide) rfl ⟨Nat.zero_le _, Nat.zero_le _⟩ dX4_blame_168) (fun H locs S => ?_)
  cases hf; exact g_ri X S hr hlk dX4_blame_171
def fX4_blame_22 (k22 : Nat → Nat → Int32 → Int32 → Int32 → Nat → Int32 → Hp → Option (Int32 × Hp)) (x0 : Nat) (x1 : Nat) (x2 : Int32) (x3 : Int32) (x4 : Int32) (x5 : Nat) (x6 : Int32) (h : Hp) : Option (Int32 × Hp) := if (2 * (x2 + x3)) ≤ x6 then ob (gR 4 x0 1 h) fun v2 => ob (fX10_become v2 x5 h) fun h => ob (gR 4 x0 3 h) fun v4 => ob2 (fX4_bears x0 x1 h) fun v5 h => if v5 = 0 then fX4_blame_164 x0 x4 0 2 v4 h else fX4_blame_164 x0 x4 1 2 v4 h else lp (fun _ _ _ _ _ _ _ _ _ => none) (fX4_blame_35 k22) FU x0 x1 x2 x3 x4 x5 x6 0 h
theorem wfX4_blame_22 {k22 : Nat → Nat → Int32 → Int32 → Int32 → Nat → Int32 → Hp → Option (Int32 × Hp)} {r9 : Int32} {h9 : Hp} (X : Cx p E A 14 R s m args c cX4_blame yX4_blame.cls 8) (hr : meth.sig.returnType = (some .int)) (hlk : meth.locks = false) (hnm : meth.name = yX4_blame.name) (hk22 : ∀ (x0 : Nat) (x1 : Nat) (x2 : Int32) (x3 : Int32) (x4 : Int32) (x5 : Nat) (x6 : Int32) (h : Hp) (H : Heap) (locs : List Loc) (ls : Array Slot), lv_has ls 8 [(0, rv x0), (1, rv x1), (2, .int x2), (3, .int x3), (4, .int x4), (5, rv x5), (6, .int x6)] → St E A s h H locs → k22 x0 x1 x2 x3 x4 x5 x6 h = some (r9, h9) → W p l e R s m args below meth c H locs 0 0 (MQ below (Qi E A h9 r9) args s 0 0 A) (F0 m 22 ls [])) :
    ∀ (x0 : Nat) (x1 : Nat) (x2 : Int32) (x3 : Int32) (x4 : Int32) (x5 : Nat) (x6 : Int32) (h : Hp) (H : Heap) (locs : List Loc) (ls : Array Slot), lv_has ls 8 [(0, rv x0), (1, rv x1), (2, .int x2), (3, .int x3), (4, .int x4), (5, rv x5), (6, .int x6)] → St E A s h H locs → fX4_blame_22 k22 x0 x1 x2 x3 x4 x5 x6 h = some (r9, h9) → W p l e R s m args below meth c H locs 0 0 (MQ below (Qi E A h9 r9) args s 0 0 A) (F0 m 22 ls []) := by
  intro x0 x1 x2 x3 x4 x5 x6 h H locs ls hl S hf
  unfold fX4_blame_22 at hf
  refine lv_iload X.1 X.2.1 dX4_blame_22 (lv_at hl 6 rfl) ?_
  refine lv_iconst (v := 2) X.1 X.2.1 dX4_blame_24 (by decide) ?_
  refine lv_iload_n X.1 X.2.1 dX4_blame_25 rfl (lv_at hl 2 rfl) ?_
  refine lv_iload_n X.1 X.2.1 dX4_blame_26 rfl (lv_at hl 3 rfl) ?_
  refine lv_iadd X.1 X.2.1 dX4_blame_27 ?_
  refine lv_imul X.1 X.2.1 dX4_blame_28 ?_
  refine lv_icmp_ge (tgt := 137) X.1 X.2.1 dX4_blame_29 (by decide) (fun c1 => ?_) (fun c1 => ?_)
  · replace hf := (if_pos c1).symm.trans hf
    refine g_aload_n X (or_rv _) dX4_blame_137 rfl (lv_at hl 0 rfl) ?_
    refine g_gR X S foX4_21 dX4_blame_138 hf (fun v2 hf => ?_)
    refine g_aload X (or_rv _) dX4_blame_141 (lv_at hl 5 rfl) ?_
    obtain ⟨h, hc, hf⟩ := ob_some hf
    refine g_cv S (runV (As := [rv x5]) (rest := []) X S coX4_32 (by decide) (cX10_become_m l hc) (tkX10_become hc) rfl hl.1 (by decide) rfl ⟨Nat.zero_le _, Nat.zero_le _⟩ dX4_blame_143) (fun H locs S => ?_)
    refine g_aload_n X (or_rv _) dX4_blame_146 rfl (lv_at hl 0 rfl) ?_
    refine g_gR X S foX4_28 dX4_blame_147 hf (fun v4 hf => ?_)
    refine lv_iconst (v := 2) X.1 X.2.1 dX4_blame_150 (by decide) ?_
    refine g_aload_n X (or_rv _) dX4_blame_151 rfl (lv_at hl 0 rfl) ?_
    refine g_aload_n X (or_rv _) dX4_blame_152 rfl (lv_at hl 1 rfl) ?_
    obtain ⟨v5, h, hc, hf⟩ := ob2_some hf
    refine g_ci S (runV (As := [rv x1]) (rest := [.int 2, rv v4]) X S coX4_81 (by decide) (cX4_bears_m l hc) (tkX4_bears hc) rfl hl.1 (by simp [cat_rv, cat_wv, cat_sv, cat_i, cat_l, cat_a]) rfl ⟨Nat.zero_le _, Nat.zero_le _⟩ dX4_blame_153) (fun H locs S => ?_)
    refine lv_if_eq (tgt := 163) X.1 X.2.1 dX4_blame_156 (by decide) (fun c6 => ?_) (fun c6 => ?_)
    · replace hf := (if_pos c6).symm.trans hf
      refine lv_iconst (v := 0) X.1 X.2.1 dX4_blame_163 (by decide) ?_
      exact wfX4_blame_164 X hr hlk hnm _ _ _ _ _ _ _ _ _ (lv_sub hl [0, 4] rfl) S hf
    · replace hf := (if_neg c6).symm.trans hf
      refine lv_iconst (v := 1) X.1 X.2.1 dX4_blame_159 (by decide) ?_
      refine lv_goto (tgt := 164) X.1 X.2.1 dX4_blame_160 (by decide) ?_
      exact wfX4_blame_164 X hr hlk hnm _ _ _ _ _ _ _ _ _ (lv_sub hl [0, 4] rfl) S hf
  · replace hf := (if_neg c1).symm.trans hf
    refine lv_iconst (v := 0) X.1 X.2.1 dX4_blame_32 (by decide) ?_
    refine lv_istore (lv' := [(7, .int 0), (0, rv x0), (1, rv x1), (2, .int x2), (3, .int x3), (4, .int x4), (5, rv x5), (6, .int x6)]) X.1 X.2.1 dX4_blame_33 hl (by decide) rfl (fun ls hl => ?_)
    exact wfX4_blame_35_l X hr hlk hnm hk22 FU _ _ _ _ _ _ _ _ _ _ _ _ (lv_sub hl [1, 2, 3, 4, 5, 6, 7, 0] rfl) S hf
theorem wfX4_blame_22_l {r9 : Int32} {h9 : Hp} (X : Cx p E A 14 R s m args c cX4_blame yX4_blame.cls 8) (hr : meth.sig.returnType = (some .int)) (hlk : meth.locks = false) (hnm : meth.name = yX4_blame.name) :
    ∀ (n : Nat) (x0 : Nat) (x1 : Nat) (x2 : Int32) (x3 : Int32) (x4 : Int32) (x5 : Nat) (x6 : Int32) (h : Hp) (H : Heap) (locs : List Loc) (ls : Array Slot), lv_has ls 8 [(0, rv x0), (1, rv x1), (2, .int x2), (3, .int x3), (4, .int x4), (5, rv x5), (6, .int x6)] → St E A s h H locs → lp (fun _ _ _ _ _ _ _ _ => none) (fX4_blame_22) n x0 x1 x2 x3 x4 x5 x6 h = some (r9, h9) → W p l e R s m args below meth c H locs 0 0 (MQ below (Qi E A h9 r9) args s 0 0 A) (F0 m 22 ls []) := by
  intro n
  induction n with
  | zero =>
    intro x0 x1 x2 x3 x4 x5 x6 h H locs ls hl S hf
    exact nomatch hf
  | succ n ih =>
    intro x0 x1 x2 x3 x4 x5 x6 h H locs ls hl S hf
    exact wfX4_blame_22 X hr hlk hnm ih x0 x1 x2 x3 x4 x5 x6 h H locs ls hl S hf
def fX4_blame (a0 : Nat) (a1 : Nat) (a2 : Int32) (a3 : Int32) (a4 : Int32) (h : Hp) : Option (Int32 × Hp) := gd 4 a0 h (ob (fX4_clearTold a0 h) fun h => ob (gR 4 a0 3 h) fun v2 => ob (qI v2 1 (-1) h) fun h => ob (gR 2 a1 0 h) fun v3 => lt (2 * a2) fun z4 => lp (fun _ _ _ _ _ _ _ _ => none) (fX4_blame_22) FU a0 a1 a2 a3 a4 v3 z4 h)
theorem tkX4_blame {a0 : Nat} {a1 : Nat} {a2 : Int32} {a3 : Int32} {a4 : Int32} {h : Hp} {r9 : Int32 × Hp} (e : fX4_blame a0 a1 a2 a3 a4 h = some r9) : hK h a0 = 4 := by
  unfold fX4_blame at e
  exact (gd_some e).1
theorem cX4_blame_m (l : Launch) {E : EE} {A : Nat → Prop} {a0 : Nat} {a1 : Nat} {a2 : Int32} {a3 : Int32} {a4 : Int32} {h : Hp} {r9 : Int32} {h9 : Hp} (hf : fX4_blame a0 a1 a2 a3 a4 h = some (r9, h9)) : Met l yX4_blame (wsM yX4_blame cX4_blame 8 (some .int)) (rmm 14 0 0) (PcE E A h [rv a0, rv a1, .int a2, .int a3, .int a4]) (Qi E A h9 r9) 0 0 A := by
  refine met_of (by decide +kernel) (by simp [lg_sl, cat_rv, cat_wv, cat_sv, cat_i, cat_l, cat_a]) (fun p e s m args below meth c ls X hr hlk hnm S hl => ?_)
  have hl : lv_has ls 8 [(0, rv a0), (1, rv a1), (2, .int a2), (3, .int a3), (4, .int a4)] := by simpa [lv_args, cat_rv, cat_wv, cat_sv, cat_i, cat_l, cat_a] using hl
  generalize hH : s.heap = H at S ⊢
  generalize hlo : ([] : List Loc) = locs at S ⊢
  clear hH hlo
  unfold fX4_blame at hf
  obtain ⟨hth, hf⟩ := gd_some hf
  refine g_aload_n X (or_rv _) dX4_blame_0 rfl (lv_at hl 0 rfl) ?_
  obtain ⟨h, hc, hf⟩ := ob_some hf
  refine g_cv S (runV (As := []) (rest := []) X S coX4_52 (by decide) (cX4_clearTold_m l hc) (tkX4_clearTold hc) rfl hl.1 (by decide) rfl ⟨Nat.zero_le _, Nat.zero_le _⟩ dX4_blame_1) (fun H locs S => ?_)
  refine g_aload_n X (or_rv _) dX4_blame_4 rfl (lv_at hl 0 rfl) ?_
  refine g_gR X S foX4_28 dX4_blame_5 hf (fun v2 hf => ?_)
  refine lv_iconst (v := 1) X.1 X.2.1 dX4_blame_8 (by decide) ?_
  refine lv_iconst (v := (-1)) X.1 X.2.1 dX4_blame_9 (by decide) ?_
  refine g_qI X S dX4_blame_10 hf (fun h H locs hm hf S => ?_)
  refine g_aload_n X (or_rv _) dX4_blame_11 rfl (lv_at hl 1 rfl) ?_
  refine g_gR X S foX4_76 dX4_blame_12 hf (fun v3 hf => ?_)
  refine g_astore (lv' := [(5, rv v3), (0, rv a0), (1, rv a1), (2, .int a2), (3, .int a3), (4, .int a4)]) X (or_rv _) dX4_blame_15 hl (by decide) rfl (fun ls hl => ?_)
  refine lv_iconst (v := 2) X.1 X.2.1 dX4_blame_17 (by decide) ?_
  refine lv_iload_n X.1 X.2.1 dX4_blame_18 rfl (lv_at hl 3 rfl) ?_
  refine lv_imul X.1 X.2.1 dX4_blame_19 ?_
  refine g_lti hf (fun z4 hf => ?_)
  refine lv_istore (lv' := [(6, .int z4), (5, rv v3), (0, rv a0), (1, rv a1), (2, .int a2), (3, .int a3), (4, .int a4)]) X.1 X.2.1 dX4_blame_20 hl (by decide) (by simp [List.filter, cat_rv, cat_wv, cat_sv]) (fun ls hl => ?_)
  exact wfX4_blame_22_l X hr hlk hnm FU _ _ _ _ _ _ _ _ _ _ _ (lv_sub hl [2, 3, 4, 5, 6, 1, 0] rfl) S hf
def fX2_wipe (a0 : Nat) (h : Hp) : Option (Hp) := gd 2 a0 h (ob (pI 2 a0 5 0 h) fun h => some h)
theorem tkX2_wipe {a0 : Nat} {h : Hp} {r9 : Hp} (e : fX2_wipe a0 h = some r9) : hK h a0 = 2 := by
  unfold fX2_wipe at e
  exact (gd_some e).1
theorem cX2_wipe_m (l : Launch) {E : EE} {A : Nat → Prop} {a0 : Nat} {h : Hp} {h9 : Hp} (hf : fX2_wipe a0 h = some h9) : Met l yX2_wipe (wsM yX2_wipe cX2_wipe 1 none) (rmm 8 0 0) (PcE E A h [rv a0]) (Qv E A h9) 0 0 A := by
  refine met_of (by decide +kernel) (by simp [lg_sl, cat_rv, cat_wv, cat_sv, cat_i, cat_l, cat_a]) (fun p e s m args below meth c ls X hr hlk hnm S hl => ?_)
  have hl : lv_has ls 1 [(0, rv a0)] := by simpa [lv_args, cat_rv, cat_wv, cat_sv, cat_i, cat_l, cat_a] using hl
  generalize hH : s.heap = H at S ⊢
  generalize hlo : ([] : List Loc) = locs at S ⊢
  clear hH hlo
  unfold fX2_wipe at hf
  obtain ⟨hth, hf⟩ := gd_some hf
  refine g_aload_n X (or_rv _) dX2_wipe_0 rfl (lv_at hl 0 rfl) ?_
  refine lv_iconst (v := 0) X.1 X.2.1 dX2_wipe_1 (by decide) ?_
  refine g_pI X S fpX2_33 (Or.inl rfl) dX2_wipe_2 hf (fun h H locs hm hf S => ?_)
  cases hf; exact g_rv X S hr hlk dX2_wipe_5
def fX12_forget (a0 : Nat) (h : Hp) : Option (Hp) := gd 10 a0 h (ob (gR 10 a0 10 h) fun v1 => ob (fX2_wipe v1 h) fun h => some h)
theorem tkX12_forget {a0 : Nat} {h : Hp} {r9 : Hp} (e : fX12_forget a0 h = some r9) : hK h a0 = 10 := by
  unfold fX12_forget at e
  exact (gd_some e).1
theorem cX12_forget_m (l : Launch) {E : EE} {A : Nat → Prop} {a0 : Nat} {h : Hp} {h9 : Hp} (hf : fX12_forget a0 h = some h9) : Met l yX12_forget (wsM yX12_forget cX12_forget 1 none) (rmm 9 0 0) (PcE E A h [rv a0]) (Qv E A h9) 0 0 A := by
  refine met_of (by decide +kernel) (by simp [lg_sl, cat_rv, cat_wv, cat_sv, cat_i, cat_l, cat_a]) (fun p e s m args below meth c ls X hr hlk hnm S hl => ?_)
  have hl : lv_has ls 1 [(0, rv a0)] := by simpa [lv_args, cat_rv, cat_wv, cat_sv, cat_i, cat_l, cat_a] using hl
  generalize hH : s.heap = H at S ⊢
  generalize hlo : ([] : List Loc) = locs at S ⊢
  clear hH hlo
  unfold fX12_forget at hf
  obtain ⟨hth, hf⟩ := gd_some hf
  refine g_aload_n X (or_rv _) dX12_forget_0 rfl (lv_at hl 0 rfl) ?_
  refine g_gR X S foX12_61 dX12_forget_1 hf (fun v1 hf => ?_)
  obtain ⟨h, hc, hf⟩ := ob_some hf
  refine g_cv S (runV (As := []) (rest := []) X S coX12_286 (by decide) (cX2_wipe_m l hc) (tkX2_wipe hc) rfl hl.1 (by decide) rfl ⟨Nat.zero_le _, Nat.zero_le _⟩ dX12_forget_4) (fun H locs S => ?_)
  cases hf; exact g_rv X S hr hlk dX12_forget_7
def fX4_draw (a0 : Nat) (a1 : Int32) (h : Hp) : Option (Int32 × Hp) := gd 4 a0 h (ob (gI 4 a0 4 h) fun v1 => ob (pI 4 a0 4 ((v1 * 1103515245) + 12345) h) fun h => if a1 ≤ 0 then some (0, h) else ob (gI 4 a0 4 h) fun v3 => nz (a1 = 0) (some ((irm ((ius v3 16) &&& 32767) a1), h)))
theorem tkX4_draw {a0 : Nat} {a1 : Int32} {h : Hp} {r9 : Int32 × Hp} (e : fX4_draw a0 a1 h = some r9) : hK h a0 = 4 := by
  unfold fX4_draw at e
  exact (gd_some e).1
theorem cX4_draw_m (l : Launch) {E : EE} {A : Nat → Prop} {a0 : Nat} {a1 : Int32} {h : Hp} {r9 : Int32} {h9 : Hp} (hf : fX4_draw a0 a1 h = some (r9, h9)) : Met l yX4_draw (wsM yX4_draw cX4_draw 2 (some .int)) (rmm 8 0 0) (PcE E A h [rv a0, .int a1]) (Qi E A h9 r9) 0 0 A := by
  refine met_of (by decide +kernel) (by simp [lg_sl, cat_rv, cat_wv, cat_sv, cat_i, cat_l, cat_a]) (fun p e s m args below meth c ls X hr hlk hnm S hl => ?_)
  have hl : lv_has ls 2 [(0, rv a0), (1, .int a1)] := by simpa [lv_args, cat_rv, cat_wv, cat_sv, cat_i, cat_l, cat_a] using hl
  generalize hH : s.heap = H at S ⊢
  generalize hlo : ([] : List Loc) = locs at S ⊢
  clear hH hlo
  unfold fX4_draw at hf
  obtain ⟨hth, hf⟩ := gd_some hf
  refine g_aload_n X (or_rv _) dX4_draw_0 rfl (lv_at hl 0 rfl) ?_
  refine g_aload_n X (or_rv _) dX4_draw_1 rfl (lv_at hl 0 rfl) ?_
  refine g_gI X S foX4_92 rfl dX4_draw_2 hf (fun v1 hf => ?_)
  refine lv_ldc X.1 X.2.1 X.2.2.2.1 (X.2.2.1 _ kuX4_111) dX4_draw_5 ?_
  refine lv_imul X.1 X.2.1 dX4_draw_7 ?_
  refine lv_sipush (v := 12345) X.1 X.2.1 dX4_draw_8 (by decide) ?_
  refine lv_iadd X.1 X.2.1 dX4_draw_11 ?_
  refine g_pI X S fpX4_92 (Or.inl rfl) dX4_draw_12 hf (fun h H locs hm hf S => ?_)
  refine lv_iload_n X.1 X.2.1 dX4_draw_15 rfl (lv_at hl 1 rfl) ?_
  refine lv_if_le (tgt := 35) X.1 X.2.1 dX4_draw_16 (by decide) (fun c2 => ?_) (fun c2 => ?_)
  · replace hf := (if_pos c2).symm.trans hf
    refine lv_iconst (v := 0) X.1 X.2.1 dX4_draw_35 (by decide) ?_
    cases hf; exact g_ri X S hr hlk dX4_draw_36
  · replace hf := (if_neg c2).symm.trans hf
    refine g_aload_n X (or_rv _) dX4_draw_19 rfl (lv_at hl 0 rfl) ?_
    refine g_gI X S foX4_92 rfl dX4_draw_20 hf (fun v3 hf => ?_)
    refine lv_bipush (v := 16) X.1 X.2.1 dX4_draw_23 (by decide) ?_
    refine lv_iushr (v := ius v3 16) X.1 X.2.1 dX4_draw_25 rfl ?_
    refine lv_sipush (v := 32767) X.1 X.2.1 dX4_draw_26 (by decide) ?_
    refine lv_iand X.1 X.2.1 dX4_draw_29 ?_
    refine lv_iload_n X.1 X.2.1 dX4_draw_30 rfl (lv_at hl 1 rfl) ?_
    obtain ⟨c4, hf⟩ := nz_some hf
    refine g_irem X c4 dX4_draw_31 ?_
    refine lv_goto (tgt := 36) X.1 X.2.1 dX4_draw_32 (by decide) ?_
    cases hf; exact g_ri X S hr hlk dX4_draw_36
def fX4_happen (a0 : Nat) (h : Hp) : Option (Hp) := gd 4 a0 h (ob2 (fX4_draw a0 3 h) fun v1 h => if v1 = 0 then ob2 (fX4_draw a0 256 h) fun v12 h => ob2 (fX4_draw a0 256 h) fun v13 h => ob (gR 4 a0 1 h) fun v14 => ob (fX10_put v14 v12 v13 h) fun h => some h else if v1 = 1 then ob (gR 4 a0 1 h) fun v4 => ob (fX10_running v4 h) fun v5 => if v5 = 0 then ob (gR 4 a0 0 h) fun v7 => ob (gR 4 a0 1 h) fun v8 => ob (fX9_restart v7 v8 h) fun h => ob (gR 4 a0 3 h) fun v10 => ob (aI v10 1 h) fun v11 => ob (qI v10 1 (v11 + 1) h) fun h => some h else some h else some h)
theorem tkX4_happen {a0 : Nat} {h : Hp} {r9 : Hp} (e : fX4_happen a0 h = some r9) : hK h a0 = 4 := by
  unfold fX4_happen at e
  exact (gd_some e).1
theorem cX4_happen_m (l : Launch) {E : EE} {A : Nat → Prop} {a0 : Nat} {h : Hp} {h9 : Hp} (hf : fX4_happen a0 h = some h9) : Met l yX4_happen (wsM yX4_happen cX4_happen 4 none) (rmm 12 0 0) (PcE E A h [rv a0]) (Qv E A h9) 0 0 A := by
  refine met_of (by decide +kernel) (by simp [lg_sl, cat_rv, cat_wv, cat_sv, cat_i, cat_l, cat_a]) (fun p e s m args below meth c ls X hr hlk hnm S hl => ?_)
  have hl : lv_has ls 4 [(0, rv a0)] := by simpa [lv_args, cat_rv, cat_wv, cat_sv, cat_i, cat_l, cat_a] using hl
  generalize hH : s.heap = H at S ⊢
  generalize hlo : ([] : List Loc) = locs at S ⊢
  clear hH hlo
  unfold fX4_happen at hf
  obtain ⟨hth, hf⟩ := gd_some hf
  refine g_aload_n X (or_rv _) dX4_happen_0 rfl (lv_at hl 0 rfl) ?_
  refine lv_iconst (v := 3) X.1 X.2.1 dX4_happen_1 (by decide) ?_
  obtain ⟨v1, h, hc, hf⟩ := ob2_some hf
  refine g_ci S (runV (As := [.int 3]) (rest := []) X S coX4_102 (by decide) (cX4_draw_m l hc) (tkX4_draw hc) rfl hl.1 (by decide) rfl ⟨Nat.zero_le _, Nat.zero_le _⟩ dX4_happen_2) (fun H locs S => ?_)
  refine lv_istore_n (i := 1) (lv' := [(1, .int v1), (0, rv a0)]) X.1 X.2.1 dX4_happen_5 rfl hl (by decide) (by simp [List.filter, cat_rv, cat_wv, cat_sv]) (fun ls hl => ?_)
  refine lv_iload_n X.1 X.2.1 dX4_happen_6 rfl (lv_at hl 0 rfl) ?_
  refine lv_if_ne (tgt := 38) X.1 X.2.1 dX4_happen_7 (by decide) (fun c2 => ?_) (fun c2 => ?_)
  · replace hf := (if_neg c2).symm.trans hf
    refine lv_iload_n X.1 X.2.1 dX4_happen_38 rfl (lv_at hl 0 rfl) ?_
    refine lv_iconst (v := 1) X.1 X.2.1 dX4_happen_39 (by decide) ?_
    refine lv_icmp_ne (tgt := 74) X.1 X.2.1 dX4_happen_40 (by decide) (fun c3 => ?_) (fun c3 => ?_)
    · replace hf := (if_neg c3).symm.trans hf
      cases hf; exact g_rv X S hr hlk dX4_happen_74
    · replace hf := (if_pos c3).symm.trans hf
      refine g_aload_n X (or_rv _) dX4_happen_43 rfl (lv_at hl 1 rfl) ?_
      refine g_gR X S foX4_21 dX4_happen_44 hf (fun v4 hf => ?_)
      obtain ⟨v5, hc, hf⟩ := ob_some hf
      refine g_ci S (runV (As := []) (rest := []) X S coX4_36 (by decide) (cX10_running_m l hc) (tkX10_running hc) rfl hl.1 (by decide) rfl ⟨Nat.zero_le _, Nat.zero_le _⟩ dX4_happen_47) (fun H locs S => ?_)
      refine lv_if_ne (tgt := 74) X.1 X.2.1 dX4_happen_50 (by decide) (fun c6 => ?_) (fun c6 => ?_)
      · replace hf := (if_neg c6).symm.trans hf
        cases hf; exact g_rv X S hr hlk dX4_happen_74
      · replace hf := (if_pos c6).symm.trans hf
        refine g_aload_n X (or_rv _) dX4_happen_53 rfl (lv_at hl 1 rfl) ?_
        refine g_gR X S foX4_12 dX4_happen_54 hf (fun v7 hf => ?_)
        refine g_aload_n X (or_rv _) dX4_happen_57 rfl (lv_at hl 1 rfl) ?_
        refine g_gR X S foX4_21 dX4_happen_58 hf (fun v8 hf => ?_)
        obtain ⟨h, hc, hf⟩ := ob_some hf
        refine g_cv S (runV (As := [rv v8]) (rest := []) X S coX4_108 (by decide) (cX9_restart_m l hc) (tkX9_restart hc) rfl hl.1 (by decide) rfl ⟨Nat.zero_le _, Nat.zero_le _⟩ dX4_happen_61) (fun H locs S => ?_)
        refine g_aload_n X (or_rv _) dX4_happen_64 rfl (lv_at hl 1 rfl) ?_
        refine g_gR X S foX4_28 dX4_happen_65 hf (fun v10 hf => ?_)
        refine lv_iconst (v := 1) X.1 X.2.1 dX4_happen_68 (by decide) ?_
        refine lv_dup2_11 X.1 X.2.1 dX4_happen_69 rfl (cat_rv _) ?_
        refine g_aI X S dX4_happen_70 hf (fun v11 hf => ?_)
        refine lv_iconst (v := 1) X.1 X.2.1 dX4_happen_71 (by decide) ?_
        refine lv_iadd X.1 X.2.1 dX4_happen_72 ?_
        refine g_qI X S dX4_happen_73 hf (fun h H locs hm hf S => ?_)
        cases hf; exact g_rv X S hr hlk dX4_happen_74
  · replace hf := (if_pos c2).symm.trans hf
    refine g_aload_n X (or_rv _) dX4_happen_10 rfl (lv_at hl 1 rfl) ?_
    refine lv_sipush (v := 256) X.1 X.2.1 dX4_happen_11 (by decide) ?_
    obtain ⟨v12, h, hc, hf⟩ := ob2_some hf
    refine g_ci S (runV (As := [.int 256]) (rest := []) X S coX4_102 (by decide) (cX4_draw_m l hc) (tkX4_draw hc) rfl hl.1 (by decide) rfl ⟨Nat.zero_le _, Nat.zero_le _⟩ dX4_happen_14) (fun H locs S => ?_)
    refine lv_istore_n (i := 2) (lv' := [(2, .int v12), (1, .int v1), (0, rv a0)]) X.1 X.2.1 dX4_happen_17 rfl hl (by decide) rfl (fun ls hl => ?_)
    refine g_aload_n X (or_rv _) dX4_happen_18 rfl (lv_at hl 2 rfl) ?_
    refine lv_sipush (v := 256) X.1 X.2.1 dX4_happen_19 (by decide) ?_
    obtain ⟨v13, h, hc, hf⟩ := ob2_some hf
    refine g_ci S (runV (As := [.int 256]) (rest := []) X S coX4_102 (by decide) (cX4_draw_m l hc) (tkX4_draw hc) rfl hl.1 (by decide) rfl ⟨Nat.zero_le _, Nat.zero_le _⟩ dX4_happen_22) (fun H locs S => ?_)
    refine lv_istore_n (i := 3) (lv' := [(3, .int v13), (2, .int v12), (1, .int v1), (0, rv a0)]) X.1 X.2.1 dX4_happen_25 rfl hl (by decide) rfl (fun ls hl => ?_)
    refine g_aload_n X (or_rv _) dX4_happen_26 rfl (lv_at hl 3 rfl) ?_
    refine g_gR X S foX4_21 dX4_happen_27 hf (fun v14 hf => ?_)
    refine lv_iload_n X.1 X.2.1 dX4_happen_30 rfl (lv_at hl 1 rfl) ?_
    refine lv_iload_n X.1 X.2.1 dX4_happen_31 rfl (lv_at hl 0 rfl) ?_
    obtain ⟨h, hc, hf⟩ := ob_some hf
    refine g_cv S (runV (As := [.int v12, .int v13]) (rest := []) X S coX4_105 (by decide) (cX10_put_m l hc) (tkX10_put hc) rfl hl.1 (by decide) rfl ⟨Nat.zero_le _, Nat.zero_le _⟩ dX4_happen_32) (fun H locs S => ?_)
    refine lv_goto (tgt := 74) X.1 X.2.1 dX4_happen_35 (by decide) ?_
    cases hf; exact g_rv X S hr hlk dX4_happen_74
def fX4_age_33 (k20 : Nat → Nat → Int32 → Int32 → Int32 → Hp → Option (Int32 × Hp)) (k33 : Nat → Nat → Int32 → Int32 → Int32 → Int32 → Hp → Option (Int32 × Hp)) (x0 : Nat) (x1 : Nat) (x3 : Int32) (x4 : Int32) (x5 : Int32) (x6 : Int32) (h : Hp) : Option (Int32 × Hp) := if 5 ≤ x6 then lt (x5 + 1) fun z2 => k20 x0 x1 x3 x4 z2 h else ob (gR 4 x0 1 h) fun v3 => ob (fX10_running v3 h) fun v4 => if v4 = 0 then lt (x5 + 1) fun z6 => k20 x0 x1 x3 x4 z6 h else ob (gR 4 x0 0 h) fun v7 => ob (gR 4 x0 1 h) fun v8 => ob2 (fX9_step v7 v8 h) fun v9 h => if v9 = 0 then lt (x6 + 1) fun z11 => k33 x0 x1 x3 x4 x5 z11 h else ob (gR 4 x0 3 h) fun v12 => ob (aI v12 0 h) fun v13 => ob (qI v12 0 (v13 + 1) h) fun h => lt (x6 + 1) fun z14 => k33 x0 x1 x3 x4 x5 z14 h
theorem wfX4_age_33 {k20 : Nat → Nat → Int32 → Int32 → Int32 → Hp → Option (Int32 × Hp)} {k33 : Nat → Nat → Int32 → Int32 → Int32 → Int32 → Hp → Option (Int32 × Hp)} {r9 : Int32} {h9 : Hp} (X : Cx p E A 13 R s m args c cX4_age yX4_age.cls 7) (hr : meth.sig.returnType = (some .int)) (hlk : meth.locks = false) (hnm : meth.name = yX4_age.name) (hk20 : ∀ (x0 : Nat) (x1 : Nat) (x3 : Int32) (x4 : Int32) (x5 : Int32) (h : Hp) (H : Heap) (locs : List Loc) (ls : Array Slot), lv_has ls 7 [(0, rv x0), (1, rv x1), (3, .int x3), (4, .int x4), (5, .int x5)] → St E A s h H locs → k20 x0 x1 x3 x4 x5 h = some (r9, h9) → W p l e R s m args below meth c H locs 0 0 (MQ below (Qi E A h9 r9) args s 0 0 A) (F0 m 20 ls [])) (hk33 : ∀ (x0 : Nat) (x1 : Nat) (x3 : Int32) (x4 : Int32) (x5 : Int32) (x6 : Int32) (h : Hp) (H : Heap) (locs : List Loc) (ls : Array Slot), lv_has ls 7 [(0, rv x0), (1, rv x1), (3, .int x3), (4, .int x4), (5, .int x5), (6, .int x6)] → St E A s h H locs → k33 x0 x1 x3 x4 x5 x6 h = some (r9, h9) → W p l e R s m args below meth c H locs 0 0 (MQ below (Qi E A h9 r9) args s 0 0 A) (F0 m 33 ls [])) :
    ∀ (x0 : Nat) (x1 : Nat) (x3 : Int32) (x4 : Int32) (x5 : Int32) (x6 : Int32) (h : Hp) (H : Heap) (locs : List Loc) (ls : Array Slot), lv_has ls 7 [(0, rv x0), (1, rv x1), (3, .int x3), (4, .int x4), (5, .int x5), (6, .int x6)] → St E A s h H locs → fX4_age_33 k20 k33 x0 x1 x3 x4 x5 x6 h = some (r9, h9) → W p l e R s m args below meth c H locs 0 0 (MQ below (Qi E A h9 r9) args s 0 0 A) (F0 m 33 ls []) := by
  intro x0 x1 x3 x4 x5 x6 h H locs ls hl S hf
  unfold fX4_age_33 at hf
  refine lv_iload X.1 X.2.1 dX4_age_33 (lv_at hl 5 rfl) ?_
  refine lv_iconst (v := 5) X.1 X.2.1 dX4_age_35 (by decide) ?_
  refine lv_icmp_ge (tgt := 79) X.1 X.2.1 dX4_age_36 (by decide) (fun c1 => ?_) (fun c1 => ?_)
  · replace hf := (if_pos c1).symm.trans hf
    obtain ⟨z2, ez2, hf⟩ := lt_some hf
    refine lv_iinc (v := z2) (lv' := [(5, .int z2), (0, rv x0), (1, rv x1), (3, .int x3), (4, .int x4), (6, .int x6)]) X.1 X.2.1 dX4_age_79 hl (k := 4) rfl (by rw [← ez2]; rfl) (by decide) rfl (fun ls hl => ?_)
    refine lv_goto (tgt := 20) X.1 X.2.1 dX4_age_82 (by decide) ?_
    exact hk20 _ _ _ _ _ _ _ _ _ (lv_sub hl [1, 2, 3, 4, 0] rfl) S hf
  · replace hf := (if_neg c1).symm.trans hf
    refine g_aload_n X (or_rv _) dX4_age_39 rfl (lv_at hl 0 rfl) ?_
    refine g_gR X S foX4_21 dX4_age_40 hf (fun v3 hf => ?_)
    obtain ⟨v4, hc, hf⟩ := ob_some hf
    refine g_ci S (runV (As := []) (rest := []) X S coX4_36 (by decide) (cX10_running_m l hc) (tkX10_running hc) rfl hl.1 (by decide) rfl ⟨Nat.zero_le _, Nat.zero_le _⟩ dX4_age_43) (fun H locs S => ?_)
    refine lv_if_eq (tgt := 79) X.1 X.2.1 dX4_age_46 (by decide) (fun c5 => ?_) (fun c5 => ?_)
    · replace hf := (if_pos c5).symm.trans hf
      obtain ⟨z6, ez6, hf⟩ := lt_some hf
      refine lv_iinc (v := z6) (lv' := [(5, .int z6), (0, rv x0), (1, rv x1), (3, .int x3), (4, .int x4), (6, .int x6)]) X.1 X.2.1 dX4_age_79 hl (k := 4) rfl (by rw [← ez6]; rfl) (by decide) rfl (fun ls hl => ?_)
      refine lv_goto (tgt := 20) X.1 X.2.1 dX4_age_82 (by decide) ?_
      exact hk20 _ _ _ _ _ _ _ _ _ (lv_sub hl [1, 2, 3, 4, 0] rfl) S hf
    · replace hf := (if_neg c5).symm.trans hf
      refine g_aload_n X (or_rv _) dX4_age_49 rfl (lv_at hl 0 rfl) ?_
      refine g_gR X S foX4_12 dX4_age_50 hf (fun v7 hf => ?_)
      refine g_aload_n X (or_rv _) dX4_age_53 rfl (lv_at hl 0 rfl) ?_
      refine g_gR X S foX4_21 dX4_age_54 hf (fun v8 hf => ?_)
      obtain ⟨v9, h, hc, hf⟩ := ob2_some hf
      refine g_ci S (runV (As := [rv v8]) (rest := []) X S coX4_40 (by decide) (cX9_step_m l hc) (tkX9_step hc) rfl hl.1 (by decide) rfl ⟨Nat.zero_le _, Nat.zero_le _⟩ dX4_age_57) (fun H locs S => ?_)
      refine lv_if_eq (tgt := 73) X.1 X.2.1 dX4_age_60 (by decide) (fun c10 => ?_) (fun c10 => ?_)
      · replace hf := (if_pos c10).symm.trans hf
        obtain ⟨z11, ez11, hf⟩ := lt_some hf
        refine lv_iinc (v := z11) (lv' := [(6, .int z11), (0, rv x0), (1, rv x1), (3, .int x3), (4, .int x4), (5, .int x5)]) X.1 X.2.1 dX4_age_73 hl (k := 5) rfl (by rw [← ez11]; rfl) (by decide) rfl (fun ls hl => ?_)
        refine lv_goto (tgt := 33) X.1 X.2.1 dX4_age_76 (by decide) ?_
        exact hk33 _ _ _ _ _ _ _ _ _ _ (lv_sub hl [1, 2, 3, 4, 5, 0] rfl) S hf
      · replace hf := (if_neg c10).symm.trans hf
        refine g_aload_n X (or_rv _) dX4_age_63 rfl (lv_at hl 0 rfl) ?_
        refine g_gR X S foX4_28 dX4_age_64 hf (fun v12 hf => ?_)
        refine lv_iconst (v := 0) X.1 X.2.1 dX4_age_67 (by decide) ?_
        refine lv_dup2_11 X.1 X.2.1 dX4_age_68 rfl (cat_rv _) ?_
        refine g_aI X S dX4_age_69 hf (fun v13 hf => ?_)
        refine lv_iconst (v := 1) X.1 X.2.1 dX4_age_70 (by decide) ?_
        refine lv_iadd X.1 X.2.1 dX4_age_71 ?_
        refine g_qI X S dX4_age_72 hf (fun h H locs hm hf S => ?_)
        obtain ⟨z14, ez14, hf⟩ := lt_some hf
        refine lv_iinc (v := z14) (lv' := [(6, .int z14), (0, rv x0), (1, rv x1), (3, .int x3), (4, .int x4), (5, .int x5)]) X.1 X.2.1 dX4_age_73 hl (k := 5) rfl (by rw [← ez14]; rfl) (by decide) rfl (fun ls hl => ?_)
        refine lv_goto (tgt := 33) X.1 X.2.1 dX4_age_76 (by decide) ?_
        exact hk33 _ _ _ _ _ _ _ _ _ _ (lv_sub hl [1, 2, 3, 4, 5, 0] rfl) S hf
theorem wfX4_age_33_l {k20 : Nat → Nat → Int32 → Int32 → Int32 → Hp → Option (Int32 × Hp)} {r9 : Int32} {h9 : Hp} (X : Cx p E A 13 R s m args c cX4_age yX4_age.cls 7) (hr : meth.sig.returnType = (some .int)) (hlk : meth.locks = false) (hnm : meth.name = yX4_age.name) (hk20 : ∀ (x0 : Nat) (x1 : Nat) (x3 : Int32) (x4 : Int32) (x5 : Int32) (h : Hp) (H : Heap) (locs : List Loc) (ls : Array Slot), lv_has ls 7 [(0, rv x0), (1, rv x1), (3, .int x3), (4, .int x4), (5, .int x5)] → St E A s h H locs → k20 x0 x1 x3 x4 x5 h = some (r9, h9) → W p l e R s m args below meth c H locs 0 0 (MQ below (Qi E A h9 r9) args s 0 0 A) (F0 m 20 ls [])) :
    ∀ (n : Nat) (x0 : Nat) (x1 : Nat) (x3 : Int32) (x4 : Int32) (x5 : Int32) (x6 : Int32) (h : Hp) (H : Heap) (locs : List Loc) (ls : Array Slot), lv_has ls 7 [(0, rv x0), (1, rv x1), (3, .int x3), (4, .int x4), (5, .int x5), (6, .int x6)] → St E A s h H locs → lp (fun _ _ _ _ _ _ _ => none) (fX4_age_33 k20) n x0 x1 x3 x4 x5 x6 h = some (r9, h9) → W p l e R s m args below meth c H locs 0 0 (MQ below (Qi E A h9 r9) args s 0 0 A) (F0 m 33 ls []) := by
  intro n
  induction n with
  | zero =>
    intro x0 x1 x3 x4 x5 x6 h H locs ls hl S hf
    exact nomatch hf
  | succ n ih =>
    intro x0 x1 x3 x4 x5 x6 h H locs ls hl S hf
    exact wfX4_age_33 X hr hlk hnm hk20 ih x0 x1 x3 x4 x5 x6 h H locs ls hl S hf
def fX4_age_20 (k20 : Nat → Nat → Int32 → Int32 → Int32 → Hp → Option (Int32 × Hp)) (x0 : Nat) (x1 : Nat) (x3 : Int32) (x4 : Int32) (x5 : Int32) (h : Hp) : Option (Int32 × Hp) := if x3 ≤ x5 then ob (gR 4 x0 3 h) fun v2 => ob (gR 4 x0 1 h) fun v3 => ob (fX10_unlike v3 x1 h) fun v4 => ob (qI v2 2 v4 h) fun h => ob (fX4_told x0 x4 h) fun v5 => some (v5, h) else ob (fX4_happen x0 h) fun h => lp (fun _ _ _ _ _ _ _ => none) (fX4_age_33 k20) FU x0 x1 x3 x4 x5 0 h
theorem wfX4_age_20 {k20 : Nat → Nat → Int32 → Int32 → Int32 → Hp → Option (Int32 × Hp)} {r9 : Int32} {h9 : Hp} (X : Cx p E A 13 R s m args c cX4_age yX4_age.cls 7) (hr : meth.sig.returnType = (some .int)) (hlk : meth.locks = false) (hnm : meth.name = yX4_age.name) (hk20 : ∀ (x0 : Nat) (x1 : Nat) (x3 : Int32) (x4 : Int32) (x5 : Int32) (h : Hp) (H : Heap) (locs : List Loc) (ls : Array Slot), lv_has ls 7 [(0, rv x0), (1, rv x1), (3, .int x3), (4, .int x4), (5, .int x5)] → St E A s h H locs → k20 x0 x1 x3 x4 x5 h = some (r9, h9) → W p l e R s m args below meth c H locs 0 0 (MQ below (Qi E A h9 r9) args s 0 0 A) (F0 m 20 ls [])) :
    ∀ (x0 : Nat) (x1 : Nat) (x3 : Int32) (x4 : Int32) (x5 : Int32) (h : Hp) (H : Heap) (locs : List Loc) (ls : Array Slot), lv_has ls 7 [(0, rv x0), (1, rv x1), (3, .int x3), (4, .int x4), (5, .int x5)] → St E A s h H locs → fX4_age_20 k20 x0 x1 x3 x4 x5 h = some (r9, h9) → W p l e R s m args below meth c H locs 0 0 (MQ below (Qi E A h9 r9) args s 0 0 A) (F0 m 20 ls []) := by
  intro x0 x1 x3 x4 x5 h H locs ls hl S hf
  unfold fX4_age_20 at hf
  refine lv_iload X.1 X.2.1 dX4_age_20 (lv_at hl 4 rfl) ?_
  refine lv_iload_n X.1 X.2.1 dX4_age_22 rfl (lv_at hl 2 rfl) ?_
  refine lv_icmp_ge (tgt := 85) X.1 X.2.1 dX4_age_23 (by decide) (fun c1 => ?_) (fun c1 => ?_)
  · replace hf := (if_pos c1).symm.trans hf
    refine g_aload_n X (or_rv _) dX4_age_85 rfl (lv_at hl 0 rfl) ?_
    refine g_gR X S foX4_28 dX4_age_86 hf (fun v2 hf => ?_)
    refine lv_iconst (v := 2) X.1 X.2.1 dX4_age_89 (by decide) ?_
    refine g_aload_n X (or_rv _) dX4_age_90 rfl (lv_at hl 0 rfl) ?_
    refine g_gR X S foX4_21 dX4_age_91 hf (fun v3 hf => ?_)
    refine g_aload_n X (or_rv _) dX4_age_94 rfl (lv_at hl 1 rfl) ?_
    obtain ⟨v4, hc, hf⟩ := ob_some hf
    refine g_ci S (runV (As := [rv x1]) (rest := [.int 2, rv v2]) X S coX4_99 (by decide) (cX10_unlike_m l hc) (tkX10_unlike hc) rfl hl.1 (by simp [cat_rv, cat_wv, cat_sv, cat_i, cat_l, cat_a]) rfl ⟨Nat.zero_le _, Nat.zero_le _⟩ dX4_age_95) (fun H locs S => ?_)
    refine g_qI X S dX4_age_98 hf (fun h H locs hm hf S => ?_)
    refine g_aload_n X (or_rv _) dX4_age_99 rfl (lv_at hl 0 rfl) ?_
    refine lv_iload X.1 X.2.1 dX4_age_100 (lv_at hl 3 rfl) ?_
    obtain ⟨v5, hc, hf⟩ := ob_some hf
    refine g_ci S (runV (As := [.int x4]) (rest := []) X S coX4_74 (by decide) (cX4_told_m l hc) (tkX4_told hc) rfl hl.1 (by decide) rfl ⟨Nat.zero_le _, Nat.zero_le _⟩ dX4_age_102) (fun H locs S => ?_)
    cases hf; exact g_ri X S hr hlk dX4_age_105
  · replace hf := (if_neg c1).symm.trans hf
    refine g_aload_n X (or_rv _) dX4_age_26 rfl (lv_at hl 0 rfl) ?_
    obtain ⟨h, hc, hf⟩ := ob_some hf
    refine g_cv S (runV (As := []) (rest := []) X S coX4_96 (by decide) (cX4_happen_m l hc) (tkX4_happen hc) rfl hl.1 (by decide) rfl ⟨Nat.zero_le _, Nat.zero_le _⟩ dX4_age_27) (fun H locs S => ?_)
    refine lv_iconst (v := 0) X.1 X.2.1 dX4_age_30 (by decide) ?_
    refine lv_istore (lv' := [(6, .int 0), (0, rv x0), (1, rv x1), (3, .int x3), (4, .int x4), (5, .int x5)]) X.1 X.2.1 dX4_age_31 hl (by decide) rfl (fun ls hl => ?_)
    exact wfX4_age_33_l X hr hlk hnm hk20 FU _ _ _ _ _ _ _ _ _ _ (lv_sub hl [1, 2, 3, 4, 5, 0] rfl) S hf
theorem wfX4_age_20_l {r9 : Int32} {h9 : Hp} (X : Cx p E A 13 R s m args c cX4_age yX4_age.cls 7) (hr : meth.sig.returnType = (some .int)) (hlk : meth.locks = false) (hnm : meth.name = yX4_age.name) :
    ∀ (n : Nat) (x0 : Nat) (x1 : Nat) (x3 : Int32) (x4 : Int32) (x5 : Int32) (h : Hp) (H : Heap) (locs : List Loc) (ls : Array Slot), lv_has ls 7 [(0, rv x0), (1, rv x1), (3, .int x3), (4, .int x4), (5, .int x5)] → St E A s h H locs → lp (fun _ _ _ _ _ _ => none) (fX4_age_20) n x0 x1 x3 x4 x5 h = some (r9, h9) → W p l e R s m args below meth c H locs 0 0 (MQ below (Qi E A h9 r9) args s 0 0 A) (F0 m 20 ls []) := by
  intro n
  induction n with
  | zero =>
    intro x0 x1 x3 x4 x5 h H locs ls hl S hf
    exact nomatch hf
  | succ n ih =>
    intro x0 x1 x3 x4 x5 h H locs ls hl S hf
    exact wfX4_age_20 X hr hlk hnm ih x0 x1 x3 x4 x5 h H locs ls hl S hf
def fX4_age (a0 : Nat) (a1 : Nat) (a2 : Int32) (a3 : Int32) (a4 : Int32) (h : Hp) : Option (Int32 × Hp) := gd 4 a0 h (ob (fX4_clearTold a0 h) fun h => ob (gR 4 a0 1 h) fun v2 => ob (fX10_become v2 a1 h) fun h => ob (pI 4 a0 4 a2 h) fun h => lp (fun _ _ _ _ _ _ => none) (fX4_age_20) FU a0 a1 a3 a4 0 h)
theorem tkX4_age {a0 : Nat} {a1 : Nat} {a2 : Int32} {a3 : Int32} {a4 : Int32} {h : Hp} {r9 : Int32 × Hp} (e : fX4_age a0 a1 a2 a3 a4 h = some r9) : hK h a0 = 4 := by
  unfold fX4_age at e
  exact (gd_some e).1
theorem cX4_age_m (l : Launch) {E : EE} {A : Nat → Prop} {a0 : Nat} {a1 : Nat} {a2 : Int32} {a3 : Int32} {a4 : Int32} {h : Hp} {r9 : Int32} {h9 : Hp} (hf : fX4_age a0 a1 a2 a3 a4 h = some (r9, h9)) : Met l yX4_age (wsM yX4_age cX4_age 7 (some .int)) (rmm 13 0 0) (PcE E A h [rv a0, rv a1, .int a2, .int a3, .int a4]) (Qi E A h9 r9) 0 0 A := by
  refine met_of (by decide +kernel) (by simp [lg_sl, cat_rv, cat_wv, cat_sv, cat_i, cat_l, cat_a]) (fun p e s m args below meth c ls X hr hlk hnm S hl => ?_)
  have hl : lv_has ls 7 [(0, rv a0), (1, rv a1), (2, .int a2), (3, .int a3), (4, .int a4)] := by simpa [lv_args, cat_rv, cat_wv, cat_sv, cat_i, cat_l, cat_a] using hl
  generalize hH : s.heap = H at S ⊢
  generalize hlo : ([] : List Loc) = locs at S ⊢
  clear hH hlo
  unfold fX4_age at hf
  obtain ⟨hth, hf⟩ := gd_some hf
  refine g_aload_n X (or_rv _) dX4_age_0 rfl (lv_at hl 0 rfl) ?_
  obtain ⟨h, hc, hf⟩ := ob_some hf
  refine g_cv S (runV (As := []) (rest := []) X S coX4_52 (by decide) (cX4_clearTold_m l hc) (tkX4_clearTold hc) rfl hl.1 (by decide) rfl ⟨Nat.zero_le _, Nat.zero_le _⟩ dX4_age_1) (fun H locs S => ?_)
  refine g_aload_n X (or_rv _) dX4_age_4 rfl (lv_at hl 0 rfl) ?_
  refine g_gR X S foX4_21 dX4_age_5 hf (fun v2 hf => ?_)
  refine g_aload_n X (or_rv _) dX4_age_8 rfl (lv_at hl 1 rfl) ?_
  obtain ⟨h, hc, hf⟩ := ob_some hf
  refine g_cv S (runV (As := [rv a1]) (rest := []) X S coX4_32 (by decide) (cX10_become_m l hc) (tkX10_become hc) rfl hl.1 (by decide) rfl ⟨Nat.zero_le _, Nat.zero_le _⟩ dX4_age_9) (fun H locs S => ?_)
  refine g_aload_n X (or_rv _) dX4_age_12 rfl (lv_at hl 0 rfl) ?_
  refine lv_iload_n X.1 X.2.1 dX4_age_13 rfl (lv_at hl 2 rfl) ?_
  refine g_pI X S fpX4_92 (Or.inl rfl) dX4_age_14 hf (fun h H locs hm hf S => ?_)
  refine lv_iconst (v := 0) X.1 X.2.1 dX4_age_17 (by decide) ?_
  refine lv_istore (lv' := [(5, .int 0), (0, rv a0), (1, rv a1), (2, .int a2), (3, .int a3), (4, .int a4)]) X.1 X.2.1 dX4_age_18 hl (by decide) rfl (fun ls hl => ?_)
  exact wfX4_age_20_l X hr hlk hnm FU _ _ _ _ _ _ _ _ _ (lv_sub hl [1, 2, 4, 5, 0] rfl) S hf
end GM
