section RUH
variable {c : MC} {m : Nat} {f r : Nat → Int} {s t : SI2} {n : Nat} {tx : Nat → Int}
/-- what the reading of operands may write -/
def OpW (k : Nat) (s s' : SI2) : Prop := (∀ j, j < 6 ∨ 17 < j ∨ (10 < j ∧ j < 16) → s' j = s j) ∧ (∀ j i, j ≤ 8 → i ≠ 2 * (60 + k) → i ≠ 2 * (60 + k) + 1 → s' j i = s j i) ∧ (∀ j i, 9 ≤ j → j ≤ 10 → i ≠ 60 + k → s' j i = s j i) ∧ ∀ j i, 16 ≤ j → i ≠ k → s' j i = s j i
/-- what stands behind it: the fields, by the operation -/
def HoS (o k : Nat) (F : Nat → Int) (s' : SI2) : Prop :=
  (o ≤ 18 → s' 6 (2 * (60 + k)) = F 1 ∧ s' 7 (2 * (60 + k)) = F 2) ∧ (o ≤ 13 → s' 6 (2 * (60 + k) + 1) = F 4 ∧ s' 7 (2 * (60 + k) + 1) = F 5) ∧ (o ≤ 15 → s' 8 (2 * (60 + k)) = F 3) ∧ (o ≤ 8 → s' 8 (2 * (60 + k) + 1) = F 6) ∧ (o = 14 → s' 9 (60 + k) = F 8 ∧ s' 10 (60 + k) = F 9) ∧ (16 ≤ o → o ≤ 20 → s' 9 (60 + k) = F 7) ∧ (o = 19 → s' 10 (60 + k) = F 8) ∧ (o = 21 ∨ o = 22 → s' 9 (60 + k) = F 8)
/-- the wanted name -/
def WnS (tx : Nat → Int) (n k : Nat) (v q : Int) (s' : SI2) : Prop := (v = 0 ∧ s' 17 k = 0) ∨ ∃ p l : Nat, s' 16 k = p ∧ s' 17 k = l ∧ nmT tx n p l v ∧ q = p
def FOO (o : Nat) (F : Nat → Int) (v : Int) : Prop :=
  ((o ≤ 18 → 0 ≤ F 1 ∧ F 1 ≤ 255 ∧ -1 ≤ F 2 ∧ F 2 ≤ 7) ∧ (18 < o → F 1 = 0 ∧ F 2 = -1)) ∧ ((o ≤ 13 → 0 ≤ F 4 ∧ F 4 ≤ 255 ∧ -1 ≤ F 5 ∧ F 5 ≤ 7) ∧ (13 < o → F 4 = 0 ∧ F 5 = -1)) ∧
  ((o ≤ 8 → 1 ≤ F 3 ∧ F 3 ≤ 16 ∧ 1 ≤ F 6 ∧ F 6 ≤ 16) ∧ (9 ≤ o → o ≤ 13 → 1 ≤ F 3 ∧ F 3 ≤ 64) ∧ (9 ≤ o → o ≤ 11 → F 6 = F 3) ∧ (11 < o → F 6 = 0)) ∧ ((14 ≤ o → o ≤ 15 → 1 ≤ F 3 ∧ F 3 ≤ 16) ∧ (16 ≤ o → o ≤ 17 → F 3 = 8) ∧ (17 < o → F 3 = 0)) ∧
  ((o = 14 → -32 ≤ F 8 ∧ F 8 ≤ 31 ∧ 0 ≤ F 9 ∧ F 9 ≤ 9) ∧ (o ≠ 14 → F 9 = 0) ∧ (16 ≤ o → o ≤ 20 → 0 ≤ F 7 ∧ F 7 ≤ 7) ∧ (o < 16 → F 7 = 0) ∧ (20 < o → F 7 = 0)) ∧ ((o = 19 → -9999 ≤ F 8 ∧ F 8 ≤ 9999) ∧ (o = 21 → 0 ≤ F 8 ∧ F 8 ≤ 15) ∧ (o = 22 → 1 ≤ F 8 ∧ F 8 ≤ 8) ∧ (o < 14 → F 8 = 0) ∧ (14 < o → o < 19 → F 8 = 0) ∧ (o = 20 → F 8 = 0) ∧ (22 < o → F 8 = 0)) ∧
  F 10 = -1 ∧ (o = 20 ∨ o = 21 → v ≠ 0)
theorem FOO_of {o : Nat} {F : Nat → Int} {v z1 z2 z3 z4 z5 z6 z7 z8 z9 : Int} (h : V10 F z1 z2 z3 z4 z5 z6 z7 z8 z9) (G : Nat → Int) (hG : V10 G z1 z2 z3 z4 z5 z6 z7 z8 z9) (g : FOO o G v) : FOO o F v := by
  obtain ⟨h1, h2, h3, h4, h5, h6, h7, h8, h9, h10⟩ := h
  obtain ⟨g1, g2, g3, g4, g5, g6, g7, g8, g9, g10⟩ := hG
  unfold FOO at g ⊢
  rw [g1, g2, g3, g4, g5, g6, g7, g8, g9, g10] at g
  ((try rw [h1]); (try rw [h2]); (try rw [h3]); (try rw [h4]); (try rw [h5]); (try rw [h6]); (try rw [h7]); (try rw [h8]); (try rw [h9]); (try rw [h10]))
  exact g
theorem nmT_ne {p l : Nat} {v : Int} (h : nmT tx n p l v) : v ≠ 0 := by have := nmT_r h; omega
/-- the operands of every operation -/
def OPR (c : MC) (m : Nat) (f r : Nat → Int) (s t : SI2) (tx : Nat → Int) (n o k : Nat) (x : MD) : Prop :=
  ∃ f' s' M, fX13_readOperands m (jI (o : Int)) (MS c m f r s t) = some (MS c m f' r s' t) ∧ SmR f' tx n M ∧ FrP f f' ∧ OpW k s s' ∧ msg tx n M 59 = msg tx n (prF tx n o x).1 59 ∧ ∀ T, msg tx n M 59 = .inr T → HoS o k (prF tx n o x).2.1 s' ∧ WnS tx n k (prF tx n o x).2.2.1 (prF tx n o x).2.2.2 s' ∧ FOO o (prF tx n o x).2.1 (prF tx n o x).2.2.1
theorem s_op2 {x : MD} {k o : Nat} (hm : Mo c m) (ht : TxR s tx n) (h : SmR f tx n x) (h14 : f 14 = (k : Int)) (hk : k < 60) (ho : o ≤ 8) (h17 : s 17 k = 0) : OPR c m f r s t tx n o k x := by
  obtain ⟨f', s', e1, e2, e3, e4, e5, y1, y2, y3, y4, y5, y6⟩ := s_opr2 (r := r) (t := t) hm ht h h14 hk ho
  obtain ⟨p1, p2⟩ := prF_2 (tx := tx) (n := n) (x := x) ho
  refine ⟨f', s', _, e1, e2, e3, ⟨fun j hj => e4 j (by omega), fun j i _ a b => e5 j i a b, fun j i a _ _ => by rw [e4 j (by omega)], fun j i a _ => by rw [e4 j (by omega)]⟩, by rw [p1], fun T hT => ?_⟩
  obtain ⟨T1, h1⟩ := msg_live hT
  obtain ⟨⟨v1, v2, v3, v4, v5, v6, v7, v8, v9, v10⟩, w⟩ := p2 T1 (p1.trans h1)
  obtain ⟨r2, T2, h2⟩ := fdM_r h1
  obtain ⟨r1, -⟩ := fdM_r h2
  refine ⟨?_, Or.inl ⟨w, by rw [e4 17 (by omega)]; exact h17⟩, ?_⟩
  · unfold HoS
    ((try rw [v1]); (try rw [v2]); (try rw [v3]); (try rw [v4]); (try rw [v5]); (try rw [v6]))
    exact ⟨fun _ => ⟨y1, y2⟩, fun _ => ⟨y4, y5⟩, fun _ => y3, fun _ => y6, fun _ => by omega, fun _ _ => by omega, fun _ => by omega, fun _ => by omega⟩
  · unfold FOO
    ((try rw [v1]); (try rw [v2]); (try rw [v3]); (try rw [v4]); (try rw [v5]); (try rw [v6]); (try rw [v7]); (try rw [v8]); (try rw [v9]); (try rw [v10]); rw [w])
    omega
theorem s_op9 {x : MD} {k o : Nat} (hm : Mo c m) (ht : TxR s tx n) (h : SmR f tx n x) (h14 : f 14 = (k : Int)) (hk : k < 60) (h9 : 9 ≤ o) (ho : o ≤ 13) (h17 : s 17 k = 0) : OPR c m f r s t tx n o k x := by
  obtain ⟨f', s', e1, e2, e3, e4, e5, y1, y2, y3, y4, y5, y6⟩ := s_opr9 (r := r) (t := t) hm ht h h14 hk h9 ho
  obtain ⟨z6, p1, p2, hz⟩ : ∃ z6 : Int, (prF tx n o x).1 = (adM tx n (fdM tx n x 64).1).1 ∧ (∀ T, (prF tx n o x).1 = .inr T → V10 (prF tx n o x).2.1 (fdM tx n x 64).2.1 (fdM tx n x 64).2.2.1 (fdM tx n x 64).2.2.2 (adM tx n (fdM tx n x 64).1).2.1 (adM tx n (fdM tx n x 64).1).2.2 z6 0 0 0 ∧ (prF tx n o x).2.2.1 = 0) ∧ (o ≤ 11 → z6 = (fdM tx n x 64).2.2.2) ∧ (11 < o → z6 = 0) := by
    by_cases q : o ≤ 11
    · obtain ⟨p1, p2⟩ := prF_9 (tx := tx) (n := n) (x := x) h9 q
      exact ⟨_, p1, p2, fun _ => rfl, fun z => by omega⟩
    · obtain ⟨p1, p2⟩ := prF_12 (tx := tx) (n := n) (x := x) (o := o) (by omega) ho
      exact ⟨_, p1, p2, fun z => by omega, fun _ => rfl⟩
  obtain ⟨hz1, hz2⟩ := hz
  refine ⟨f', s', _, e1, e2, e3, ⟨fun j hj => e4 j (by omega), fun j i _ a b => e5 j i a b, fun j i a _ _ => by rw [e4 j (by omega)], fun j i a _ => by rw [e4 j (by omega)]⟩, by rw [p1], fun T hT => ?_⟩
  obtain ⟨T1, h1⟩ := msg_live hT
  obtain ⟨⟨v1, v2, v3, v4, v5, v6, v7, v8, v9, v10⟩, w⟩ := p2 T1 (p1.trans h1)
  obtain ⟨r2, T2, h2⟩ := adM_r h1
  obtain ⟨r1, -⟩ := fdM_r h2
  refine ⟨?_, Or.inl ⟨w, by rw [e4 17 (by omega)]; exact h17⟩, ?_⟩
  · unfold HoS
    ((try rw [v1]); (try rw [v2]); (try rw [v3]); (try rw [v4]); (try rw [v5]))
    exact ⟨fun _ => ⟨y1, y2⟩, fun _ => ⟨y4, y5⟩, fun _ => y3, fun _ => by omega, fun _ => by omega, fun _ _ => by omega, fun _ => by omega, fun _ => by omega⟩
  · unfold FOO
    ((try rw [v1]); (try rw [v2]); (try rw [v3]); (try rw [v4]); (try rw [v5]); (try rw [v6]); (try rw [v7]); (try rw [v8]); (try rw [v9]); (try rw [v10]); rw [w])
    omega
theorem s_op14 {x : MD} {k : Nat} (hm : Mo c m) (ht : TxR s tx n) (h : SmR f tx n x) (h14 : f 14 = (k : Int)) (hk : k < 60) (h17 : s 17 k = 0) : OPR c m f r s t tx n 14 k x := by
  obtain ⟨f', s', e1, e2, e3, e4, e5, e6, y1, y2, y3, y4, y5⟩ := s_opr14 (r := r) (t := t) hm ht h h14 hk
  obtain ⟨p1, p2⟩ := prF_14 (tx := tx) (n := n) (x := x)
  refine ⟨f', s', _, e1, e2, e3, ⟨fun j hj => e4 j (by omega), fun j i hj a _ => e6 j i (by omega) a, fun j i a _ b => e5 j i (by omega) b, fun j i a _ => by rw [e4 j (by omega)]⟩, by rw [p1], fun T hT => ?_⟩
  obtain ⟨T1, h1⟩ := msg_live hT
  obtain ⟨⟨v1, v2, v3, v4, v5, v6, v7, v8, v9, v10⟩, w⟩ := p2 T1 (p1.trans h1)
  have r3 := numR_r h1
  obtain ⟨T2, h2⟩ := numR_live h1
  obtain ⟨r2, T3, h3⟩ := sgM_r h2 (by omega) (by omega)
  obtain ⟨r1, -⟩ := fdM_r h3
  refine ⟨?_, Or.inl ⟨w, by rw [e4 17 (by omega)]; exact h17⟩, ?_⟩
  · unfold HoS
    ((try rw [v1]); (try rw [v2]); (try rw [v3]); (try rw [v8]); (try rw [v9]))
    exact ⟨fun _ => ⟨y1, y2⟩, fun _ => by omega, fun _ => y3, fun _ => by omega, fun _ => ⟨y4, y5⟩, fun _ _ => by omega, fun _ => by omega, fun _ => by omega⟩
  · unfold FOO
    ((try rw [v1]); (try rw [v2]); (try rw [v3]); (try rw [v4]); (try rw [v5]); (try rw [v6]); (try rw [v7]); (try rw [v8]); (try rw [v9]); (try rw [v10]); rw [w])
    omega
theorem s_op15 {x : MD} {k : Nat} (hm : Mo c m) (ht : TxR s tx n) (h : SmR f tx n x) (h14 : f 14 = (k : Int)) (hk : k < 60) (h17 : s 17 k = 0) : OPR c m f r s t tx n 15 k x := by
  obtain ⟨f', s', e1, e2, e3, e4, y1, y2, y3⟩ := s_opr15 (r := r) (t := t) hm ht h h14 hk
  obtain ⟨p1, p2⟩ := prF_15 (tx := tx) (n := n) (x := x)
  refine ⟨f', s', _, e1, e2, e3, ⟨fun j hj => e4.1 j (by omega), fun j i hj a _ => e4.2 j i a, fun j i a _ b => by rw [e4.1 j (by omega)], fun j i a _ => by rw [e4.1 j (by omega)]⟩, by rw [p1], fun T hT => ?_⟩
  obtain ⟨T1, h1⟩ := msg_live hT
  obtain ⟨⟨v1, v2, v3, v4, v5, v6, v7, v8, v9, v10⟩, w⟩ := p2 T1 (p1.trans h1)
  obtain ⟨r1, -⟩ := fdM_r h1
  refine ⟨?_, Or.inl ⟨w, by rw [e4.1 17 (by omega)]; exact h17⟩, ?_⟩
  · unfold HoS
    ((try rw [v1]); (try rw [v2]); (try rw [v3]))
    exact ⟨fun _ => ⟨y1, y2⟩, fun _ => by omega, fun _ => y3, fun _ => by omega, fun _ => by omega, fun _ _ => by omega, fun _ => by omega, fun _ => by omega⟩
  · unfold FOO
    ((try rw [v1]); (try rw [v2]); (try rw [v3]); (try rw [v4]); (try rw [v5]); (try rw [v6]); (try rw [v7]); (try rw [v8]); (try rw [v9]); (try rw [v10]); rw [w])
    omega
theorem s_op16 {x : MD} {k o : Nat} (hm : Mo c m) (ht : TxR s tx n) (h : SmR f tx n x) (h14 : f 14 = (k : Int)) (hk : k < 60) (h16 : 16 ≤ o) (ho : o ≤ 18) (h17 : s 17 k = 0) : OPR c m f r s t tx n o k x := by
  obtain ⟨f', s', e1, e2, e3, e4, e5, e6, y1, y2, y3, y4⟩ := s_opr16 (r := r) (t := t) hm ht h h14 hk h16 ho
  obtain ⟨z3, p1, p2, hz1, hz2⟩ : ∃ z3 : Int, (prF tx n o x).1 = (adM tx n (rgM tx n x).1).1 ∧ (∀ T, (prF tx n o x).1 = .inr T → V10 (prF tx n o x).2.1 (adM tx n (rgM tx n x).1).2.1 (adM tx n (rgM tx n x).1).2.2 z3 0 (-1) 0 (rgM tx n x).2 0 0 ∧ (prF tx n o x).2.2.1 = 0) ∧ (o ≤ 17 → z3 = 8) ∧ (17 < o → z3 = 0) := by
    by_cases q : o ≤ 17
    · obtain ⟨p1, p2⟩ := prF_16 (tx := tx) (n := n) (x := x) (o := o) (by omega)
      exact ⟨_, p1, p2, fun _ => rfl, fun z => by omega⟩
    · have : o = 18 := by omega
      subst this
      obtain ⟨p1, p2⟩ := prF_18 (tx := tx) (n := n) (x := x)
      exact ⟨_, p1, p2, fun z => by omega, fun _ => rfl⟩
  refine ⟨f', s', _, e1, e2, e3, ⟨fun j hj => e4 j (by omega), fun j i hj a _ => e6 j i (by omega) a, fun j i a b d => ?_, fun j i a _ => by rw [e4 j (by omega)]⟩, by rw [p1], fun T hT => ?_⟩
  · by_cases q : j = 9
    · rw [q]; exact e5 i d
    · rw [e4 j (by omega)]
  obtain ⟨T1, h1⟩ := msg_live hT
  obtain ⟨⟨v1, v2, v3, v4, v5, v6, v7, v8, v9, v10⟩, w⟩ := p2 T1 (p1.trans h1)
  obtain ⟨r2, T2, h2⟩ := adM_r h1
  obtain ⟨r1, -⟩ := rgM_r h2
  refine ⟨?_, Or.inl ⟨w, by rw [e4 17 (by omega)]; exact h17⟩, ?_⟩
  · unfold HoS
    ((try rw [v1]); (try rw [v2]); (try rw [v7]))
    exact ⟨fun _ => ⟨y2, y3⟩, fun _ => by omega, fun _ => by omega, fun _ => by omega, fun _ => by omega, fun _ _ => y1, fun _ => by omega, fun _ => by omega⟩
  · unfold FOO
    ((try rw [v1]); (try rw [v2]); (try rw [v3]); (try rw [v4]); (try rw [v5]); (try rw [v6]); (try rw [v7]); (try rw [v8]); (try rw [v9]); (try rw [v10]); rw [w])
    omega
theorem s_op19 {x : MD} {k : Nat} (hm : Mo c m) (ht : TxR s tx n) (h : SmR f tx n x) (h14 : f 14 = (k : Int)) (hk : k < 60) (h17 : s 17 k = 0) : OPR c m f r s t tx n 19 k x := by
  obtain ⟨f', s', e1, e2, e3, e4, y1, y2⟩ := s_opr19 (r := r) (t := t) hm ht h h14 hk
  obtain ⟨p1, p2⟩ := prF_19 (tx := tx) (n := n) (x := x)
  refine ⟨f', s', _, e1, e2, e3, ⟨fun j hj => e4.1 j (by omega), fun j i hj a _ => by rw [e4.1 j (by omega)], fun j i a _ b => e4.2 j i b, fun j i a _ => by rw [e4.1 j (by omega)]⟩, by rw [p1], fun T hT => ?_⟩
  obtain ⟨T1, h1⟩ := msg_live hT
  obtain ⟨⟨v1, v2, v3, v4, v5, v6, v7, v8, v9, v10⟩, w⟩ := p2 T1 (p1.trans h1)
  obtain ⟨r2, T2, h2⟩ := sgM_r h1 (by omega) (by omega)
  obtain ⟨r1, -⟩ := rgM_r h2
  refine ⟨?_, Or.inl ⟨w, by rw [e4.1 17 (by omega)]; exact h17⟩, ?_⟩
  · unfold HoS
    rw [v7, v8]
    exact ⟨fun _ => by omega, fun _ => by omega, fun _ => by omega, fun _ => by omega, fun _ => by omega, fun _ _ => y1, fun _ => y2, fun _ => by omega⟩
  · unfold FOO
    ((try rw [v1]); (try rw [v2]); (try rw [v3]); (try rw [v4]); (try rw [v5]); (try rw [v6]); (try rw [v7]); (try rw [v8]); (try rw [v9]); (try rw [v10]); rw [w])
    omega
theorem s_op20 {x : MD} {k o : Nat} (hm : Mo c m) (ht : TxR s tx n) (h : SmR f tx n x) (h14 : f 14 = (k : Int)) (hk : k < 60) (ho : o = 20 ∨ o = 21) (h17 : s 17 k = 0) : OPR c m f r s t tx n o k x := by
  obtain ⟨y, hy⟩ : ∃ y, y = if o = 20 then rgM tx n x else numR tx n x 0 15 := ⟨_, rfl⟩
  obtain ⟨f', s', e1, e2, e3, e4, e5, e6, y1, y2⟩ := s_opr20 (r := r) (t := t) hm ht h h14 hk ho hy
  obtain ⟨z7, z8, p1, p2, z⟩ : ∃ z7 z8 : Int, (prF tx n o x).1 = (tgM tx n y.1).1 ∧ (∀ T, (prF tx n o x).1 = .inr T → V10 (prF tx n o x).2.1 0 (-1) 0 0 (-1) 0 z7 z8 0 ∧ (prF tx n o x).2.2.1 = (tgM tx n y.1).2 ∧ ∃ T0, y.1 = .inr T0 ∧ (prF tx n o x).2.2.2 = (T0.2.1 : Nat)) ∧ (o = 20 → z7 = y.2 ∧ z8 = 0 ∧ ∀ T, y.1 = .inr T → 0 ≤ y.2 ∧ y.2 ≤ 7) ∧ (o = 21 → z7 = 0 ∧ z8 = y.2 ∧ ∀ T, y.1 = .inr T → 0 ≤ y.2 ∧ y.2 ≤ 15) := by
    rcases ho with rfl | rfl
    · have hy : y = rgM tx n x := hy
      obtain ⟨p1, p2⟩ := prF_20 (tx := tx) (n := n) (x := x)
      rw [← hy] at p1 p2
      exact ⟨_, _, p1, p2, fun _ => ⟨rfl, rfl, fun T h => by rw [hy] at h ⊢; exact (rgM_r h).1⟩, fun z => by omega⟩
    · have hy : y = numR tx n x 0 15 := hy
      obtain ⟨p1, p2⟩ := prF_21 (tx := tx) (n := n) (x := x)
      rw [← hy] at p1 p2
      exact ⟨_, _, p1, p2, fun z => by omega, fun _ => ⟨rfl, rfl, fun T h => by rw [hy] at h ⊢; exact numR_r h⟩⟩
  obtain ⟨z20, z21⟩ := z
  refine ⟨f', s', _, e1, e2, e3, ⟨fun j hj => e4 j (by omega) (by omega) (by omega), fun j i hj a _ => by rw [e4 j (by omega) (by omega) (by omega)], fun j i a b d => ?_, fun j i a b => ?_⟩, by rw [p1], fun T hT => ?_⟩
  · by_cases q : j = 9
    · rw [q]; exact e5 i d
    · rw [e4 j (by omega) (by omega) (by omega)]
  · by_cases q : j = 16
    · rw [q]; exact (e6 i b).1
    · by_cases q2 : j = 17
      · rw [q2]; exact (e6 i b).2
      · rw [e4 j (by omega) (by omega) (by omega)]
  obtain ⟨T1, h1⟩ := msg_live hT
  obtain ⟨⟨v1, v2, v3, v4, v5, v6, v7, v8, v9, v10⟩, w1, T0, w2, w3⟩ := p2 T1 (p1.trans h1)
  have vne : (tgM tx n y.1).2 ≠ 0 ∧ WnS tx n k (prF tx n o x).2.2.1 (prF tx n o x).2.2.2 s' := by
    rcases y2 with ⟨-, -, -, e0, a⟩ | ⟨p, l, a, b, d, e⟩
    · rw [h1] at a; exact absurd a (by simp)
    · exact ⟨nmT_ne d, Or.inr ⟨p, l, a, b, by rw [w1]; exact d, by rw [w3, e T0 w2]⟩⟩
  clear y2
  refine ⟨?_, vne.2, ?_⟩
  · clear vne
    unfold HoS
    rw [v7, v8]
    refine ⟨fun _ => by omega, fun _ => by omega, fun _ => by omega, fun _ => by omega, fun _ => by omega, fun _ _ => ?_, fun _ => by omega, fun _ => ?_⟩
    · rw [y1]; exact (z20 (by omega)).1.symm
    · rw [y1]; exact (z21 (by omega)).2.1.symm
  · unfold FOO
    ((try rw [v1]); (try rw [v2]); (try rw [v3]); (try rw [v4]); (try rw [v5]); (try rw [v6]); (try rw [v7]); (try rw [v8]); (try rw [v9]); (try rw [v10]); (try rw [w1]))
    have vn := vne.1
    rcases ho with q | q
    · obtain ⟨a, b, d⟩ := z20 q
      have d := d T0 w2
      clear z20 z21 p2 e4 e5 e6 e2 vne
      omega
    · obtain ⟨a, b, d⟩ := z21 q
      have d := d T0 w2
      clear z20 z21 p2 e4 e5 e6 e2 vne
      omega
theorem s_op22 {x : MD} {k : Nat} (hm : Mo c m) (ht : TxR s tx n) (h : SmR f tx n x) (h14 : f 14 = (k : Int)) (hk : k < 60) (h17 : s 17 k = 0) : OPR c m f r s t tx n 22 k x := by
  obtain ⟨f', s', e1, e2, e3, e4, e5, e6, y1, y2⟩ := s_opr22 (r := r) (t := t) hm ht h h14 hk
  obtain ⟨p1, p2⟩ := prF_22 (tx := tx) (n := n) (x := x)
  refine ⟨f', s', _, e1, e2, e3, ⟨fun j hj => e4 j (by omega) (by omega) (by omega), fun j i hj a _ => by rw [e4 j (by omega) (by omega) (by omega)], fun j i a b d => ?_, fun j i a b => ?_⟩, p1.symm, fun T hT => ?_⟩
  · by_cases q : j = 9
    · rw [q]; exact e5 i d
    · rw [e4 j (by omega) (by omega) (by omega)]
  · by_cases q : j = 16
    · rw [q]; exact (e6 i b).1
    · by_cases q2 : j = 17
      · rw [q2]; exact (e6 i b).2
      · rw [e4 j (by omega) (by omega) (by omega)]
  obtain ⟨⟨v1, v2, v3, v4, v5, v6, v7, v8, v9, v10⟩, w1, w2, T0, w3⟩ := p2 T (p1.trans hT)
  have r1 := numR_r w3
  refine ⟨?_, ?_, ?_⟩
  · clear y2 w2
    unfold HoS
    rw [v8]
    exact ⟨fun _ => by omega, fun _ => by omega, fun _ => by omega, fun _ => by omega, fun _ => by omega, fun _ _ => by omega, fun _ => by omega, fun _ => y1⟩
  · rcases y2 with ⟨a, b, d⟩ | ⟨p, l, a, b, d, e⟩
    · exact Or.inl ⟨w1.trans a, by rw [d]; exact h17⟩
    · obtain ⟨T2, g1, g2⟩ := w2 (nmT_ne d)
      exact Or.inr ⟨p, l, a, b, by rw [w1]; exact d, by rw [g2, e T2 g1]⟩
  · unfold FOO
    ((try rw [v1]); (try rw [v2]); (try rw [v3]); (try rw [v4]); (try rw [v5]); (try rw [v6]); (try rw [v7]); (try rw [v8]); (try rw [v9]); (try rw [v10]))
    clear w2 y2 p2 e4 e5 e6 e2
    omega
theorem s_op23 {x : MD} {k o : Nat} (hm : Mo c m) (h : SmR f tx n x) (h14 : f 14 = (k : Int)) (ho : o = 23 ∨ o = 24) (h17 : s 17 k = 0) : OPR c m f r s t tx n o k x := by
  have e1 := s_opr23 (r := r) (s := s) (t := t) hm h14 ho
  have p1 := prF_23 (tx := tx) (n := n) (x := x) ho
  refine ⟨f, s, x, e1, h, FrP_rf f, ⟨fun _ _ => rfl, fun _ _ _ _ _ => rfl, fun _ _ _ _ _ => rfl, fun _ _ _ _ => rfl⟩, by rw [p1], fun T hT => ?_⟩
  rw [p1]
  refine ⟨?_, Or.inl ⟨rfl, h17⟩, ?_⟩
  · exact ⟨fun _ => by omega, fun _ => by omega, fun _ => by omega, fun _ => by omega, fun _ => by omega, fun _ _ => by omega, fun _ => by omega, fun _ => by omega⟩
  · have d : dfl 1 = 0 ∧ dfl 2 = -1 ∧ dfl 3 = 0 ∧ dfl 4 = 0 ∧ dfl 5 = -1 ∧ dfl 6 = 0 ∧ dfl 7 = 0 ∧ dfl 8 = 0 ∧ dfl 9 = 0 ∧ dfl 10 = -1 := ⟨rfl, rfl, rfl, rfl, rfl, rfl, rfl, rfl, rfl, rfl⟩
    obtain ⟨d1, d2, d3, d4, d5, d6, d7, d8, d9, d10⟩ := d
    show FOO o dfl 0
    unfold FOO
    ((try rw [d1]); (try rw [d2]); (try rw [d3]); (try rw [d4]); (try rw [d5]); (try rw [d6]); (try rw [d7]); (try rw [d8]); (try rw [d9]); (try rw [d10]))
    omega
theorem s_oper {x : MD} {k o : Nat} (hm : Mo c m) (ht : TxR s tx n) (h : SmR f tx n x) (h14 : f 14 = (k : Int)) (hk : k < 60) (ho : o ≤ 24) (h17 : s 17 k = 0) : OPR c m f r s t tx n o k x := by
  by_cases c1 : o ≤ 8
  · exact s_op2 hm ht h h14 hk c1 h17
  by_cases c2 : o ≤ 13
  · exact s_op9 hm ht h h14 hk (by omega) c2 h17
  by_cases c3 : o = 14
  · rw [c3]; exact s_op14 hm ht h h14 hk h17
  by_cases c4 : o = 15
  · rw [c4]; exact s_op15 hm ht h h14 hk h17
  by_cases c5 : o ≤ 18
  · exact s_op16 hm ht h h14 hk (by omega) c5 h17
  by_cases c6 : o = 19
  · rw [c6]; exact s_op19 hm ht h h14 hk h17
  by_cases c7 : o ≤ 21
  · exact s_op20 hm ht h h14 hk (by omega) h17
  by_cases c8 : o = 22
  · rw [c8]; exact s_op22 hm ht h h14 hk h17
  exact s_op23 hm h h14 (by omega) h17
end RUH
