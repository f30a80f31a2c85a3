section RUM
variable {c : MC} {m : Nat} {f r : Nat → Int} {s t : SI2} {n : Nat} {tx : Nat → Int}
/-- fields that no line's reading writes -/
def FrQ (f f' : Nat → Int) : Prop := ∀ j, (j < 14 ∨ j = 15 ∨ j = 16 ∨ 24 < j ∨ j = 18) → f' j = f j
theorem FrQ_P {f' : Nat → Int} (h : FrP f f') : FrQ f f' := fun j hj => h j (by omega)
theorem FrQ_tr {f1 f2 : Nat → Int} (h : FrQ f f1) (h' : FrQ f1 f2) : FrQ f f2 := fun j hj => (h' j hj).trans (h j hj)
/-- what the reading of a text may write of the arrays -/
def RdW (s s' : SI2) : Prop := (∀ j, j < 5 ∨ 17 < j ∨ j = 13 → s' j = s j) ∧ (∀ j i, (j = 5 ∨ (9 ≤ j ∧ j ≤ 11)) → i < 60 → s' j i = s j i) ∧ (∀ j i, 6 ≤ j → j ≤ 8 → i < 120 → s' j i = s j i) ∧ ∀ i, i < 256 → s' 12 i = s 12 i
theorem RdW_rf (s : SI2) : RdW s s := ⟨fun _ _ => rfl, fun _ _ _ _ => rfl, fun _ _ _ _ _ => rfl, fun _ _ => rfl⟩
theorem RdW_tr {s1 s2 : SI2} (h : RdW s s1) (h' : RdW s1 s2) : RdW s s2 := ⟨fun j hj => (h'.1 j hj).trans (h.1 j hj), fun j i a b => (h'.2.1 j i a b).trans (h.2.1 j i a b), fun j i a b d => (h'.2.2.1 j i a b d).trans (h.2.2.1 j i a b d), fun i hi => (h'.2.2.2 i hi).trans (h.2.2.2 i hi)⟩
theorem RdW_tx {s' : SI2} (h : RdW s s') (ht : TxR s tx n) : TxR s' tx n := ⟨ht.1, fun j hj => by rw [h.1 13 (by omega)]; exact ht.2 j hj⟩
theorem RdW_12 {s' : SI2} (h : Lw12 s s') : RdW s s' := ⟨fun j hj => h.1 j (by omega), fun j i a _ => by rw [h.1 j (by omega)], fun j i a b _ => by rw [h.1 j (by omega)], h.2⟩
theorem RdW_op {k : Nat} {s' : SI2} (h : OpW k s s') : RdW s s' := by
  obtain ⟨h1, h2, h3, h4⟩ := h
  refine ⟨fun j hj => h1 j (by omega), fun j i a b => ?_, fun j i a b d => h2 j i b (by omega) (by omega), fun i _ => by rw [h1 12 (by omega)]⟩
  by_cases q : j = 9 ∨ j = 10
  · exact h3 j i (by omega) (by omega) (by omega)
  · rw [h1 j (by omega)]
theorem HoS_fr {o i : Nat} {F : Nat → Int} {s' : SI2} (h : HoS o i F s) (h1 : ∀ j, 6 ≤ j → j ≤ 8 → s' j (2 * (60 + i)) = s j (2 * (60 + i)) ∧ s' j (2 * (60 + i) + 1) = s j (2 * (60 + i) + 1)) (h2 : ∀ j, 9 ≤ j → j ≤ 10 → s' j (60 + i) = s j (60 + i)) : HoS o i F s' := by
  unfold HoS
  rw [(h1 6 (by omega) (by omega)).1, (h1 6 (by omega) (by omega)).2, (h1 7 (by omega) (by omega)).1, (h1 7 (by omega) (by omega)).2, (h1 8 (by omega) (by omega)).1, (h1 8 (by omega) (by omega)).2, h2 9 (by omega) (by omega), h2 10 (by omega) (by omega)]
  exact h
theorem WnS_fr {i : Nat} {v q : Int} {s' : SI2} (h : WnS tx n i v q s) (h1 : s' 16 i = s 16 i) (h2 : s' 17 i = s 17 i) : WnS tx n i v q s' := by
  unfold WnS
  rw [h1, h2]
  exact h
/-- what is read so far, as the reference holds it -/
def RdO (s : SI2) (tx : Nat → Int) (n : Nat) (l : LNS) : Prop := ∀ i, i < l.1 → s 5 (60 + i) = (l.2.1 i : Nat) ∧ l.2.1 i ≤ 24 ∧ HoS (l.2.1 i) i (l.2.2.1 i) s ∧ WnS tx n i (l.2.2.2.2.1 i) (l.2.2.2.2.2 i) s ∧ FOO (l.2.1 i) (l.2.2.1 i) (l.2.2.2.2.1 i)
def RdS (f : Nat → Int) (s : SI2) (tx : Nat → Int) (n : Nat) (l : LNS) (Q : Nat → Int) : Prop := NmR f s tx n l.1 l.2.2.2.1 ∧ RdO s tx n l ∧ LdR s Q
theorem RdO_fr {l : LNS} {s' : SI2} (h : RdO s tx n l) (h0 : ∀ i, i < l.1 → s' 5 (60 + i) = s 5 (60 + i)) (h1 : ∀ i, i < l.1 → ∀ j, 6 ≤ j → j ≤ 8 → s' j (2 * (60 + i)) = s j (2 * (60 + i)) ∧ s' j (2 * (60 + i) + 1) = s j (2 * (60 + i) + 1)) (h2 : ∀ i, i < l.1 → ∀ j, 9 ≤ j → j ≤ 10 → s' j (60 + i) = s j (60 + i)) (h3 : ∀ i, i < l.1 → s' 16 i = s 16 i ∧ s' 17 i = s 17 i) : RdO s' tx n l := by
  intro i hi
  obtain ⟨a1, a2, a3, a4, a5⟩ := h i hi
  exact ⟨(h0 i hi).trans a1, a2, HoS_fr a3 (h1 i hi) (h2 i hi), WnS_fr a4 (h3 i hi).1 (h3 i hi).2, a5⟩
theorem wh1 (x : MD) : fnd (fun i => isWM tx x (i + 4)) 0 25 = (match x with | .inl _ => -1 | .inr T => if 5 ≤ wrd tx T then ((wrd tx T - 5 : Nat) : Int) else -1) := by
  cases x with
  | inl e => exact fnd_no (fun _ _ _ => rfl)
  | inr T =>
    have e : ∀ i, i < 25 → isWM tx (.inr T) (i + 4) = (wrd tx T == i + 4 + 1) := fun i hi => isW_wrd (by omega)
    have w := wrd_r tx T
    show _ = if 5 ≤ wrd tx T then ((wrd tx T - 5 : Nat) : Int) else -1
    by_cases q : 5 ≤ wrd tx T
    · rw [if_pos q]
      refine fnd_is (by omega) (by omega) ?_ (fun j _ hj => ?_)
      · show isWM tx (.inr T) (wrd tx T - 5 + 4) = true
        rw [e _ (by omega)]
        simp
        omega
      · show isWM tx (.inr T) (j + 4) = false
        rw [e _ (by omega)]
        simp
        omega
    · rw [if_neg q]
      refine fnd_no (fun j _ hj => ?_)
      show isWM tx (.inr T) (j + 4) = false
      rw [e _ (by omega)]
      simp
      omega
theorem SmR_14 {x : MD} {z : Int} (h : SmR f tx n x) : SmR (va_up f 14 z) tx n x := by
  cases x with
  | inl e =>
    obtain ⟨h1, h2, h3, h4, h5⟩ := h
    exact ⟨by rw [va_up_ne _ _ (by omega)]; exact h1, by rw [va_up_ne _ _ (by omega)]; exact h2, h3, h4, by rw [va_up_ne _ _ (by omega)]; exact h5⟩
  | inr T =>
    obtain ⟨h1, h2, h3, h4, h5, h6, h7, h8⟩ := h
    exact ⟨by rw [va_up_ne _ _ (by omega)]; exact h1, by rw [va_up_ne _ _ (by omega)]; exact h2, by rw [va_up_ne _ _ (by omega)]; exact h3, by rw [va_up_ne _ _ (by omega)]; exact h4, by rw [va_up_ne _ _ (by omega)]; exact h5, by rw [va_up_ne _ _ (by omega)]; exact h6, h7, fun q => by rw [va_up_ne _ _ (by omega)]; exact h8 q⟩
/-- an instruction behind its label -/
def rdX (tx : Nat → Int) (n : Nat) (x : MD) (z : Int) (l : LNS) : MD × LNS := match x with
  | .inl e => (.inl e, l)
  | .inr T => rdI tx n T z l
theorem s_ri36 {x : MD} {l : LNS} {z : Int} {Q : Nat → Int} (hm : Mo c m) (ht : TxR s tx n) (h : SmR f tx n x) (hN : NmR f s tx n l.1 l.2.2.2.1) (hO : RdO s tx n l) (hQ : LdR s Q) (h17 : s 17 l.1 = 0) (hz : ∀ T, x = .inr T → (z = 0 ∧ s 15 l.1 = 0) ∨ ∃ p q : Nat, s 14 l.1 = p ∧ s 15 l.1 = q ∧ nmT tx n p q z) :
    ∃ f' s' M, fX13_readInstruction_36 m (MS c m f r s t) = some (MS c m f' r s' t) ∧ SmR f' tx n M ∧ FrQ f f' ∧ RdW s s' ∧ msg tx n M 59 = msg tx n (rdX tx n x z l).1 59 ∧ ∀ T', msg tx n M 59 = .inr T' → RdS f' s' tx n (rdX tx n x z l).2 Q := by
  have w1 := s_which1 (r := r) (t := t) (x := x) hm ht h
  rw [wh1] at w1
  unfold fX13_readInstruction_36
  ((try rw [s_R0 hm]); rw [o_ob]; (try rw [w1]); rw [o_ob])
  have dead : ∀ (F : Nat → Int) (e : Int × Int) (y : Int32), SmR F tx n (.inl e) → fX13_readInstruction_62 m y (MS c m F r s t) = some (MS c m F r s t) ∧ fX13_readInstruction_83 m y (MS c m F r s t) = some (MS c m F r s t) := by
    intro F e y hF
    have ne := SmR_f hF
    have e2 : fX13_readInstruction_83 m y (MS c m F r s t) = some (MS c m F r s t) := by
      unfold fX13_readInstruction_83
      ((try rw [s_gI hm]); rw [o_ob, if_neg ne])
    refine ⟨?_, e2⟩
    unfold fX13_readInstruction_62
    ((try rw [s_gI hm]); rw [o_ob, if_neg ne])
    exact e2
  cases x with
  | inl e =>
    have ne := SmR_f h
    ((try rw [s_gI hm]); rw [o_ob, if_neg ne])
    exact ⟨f, s, _, (dead f e _ h).1, h, fun _ _ => rfl, RdW_rf s, rfl, fun T' h' => absurd h' (by simp [msg])⟩
  | inr T =>
    have hL : LvR f tx n T := h
    have hz := hz T rfl
    have w29 := wrd_r tx T
    obtain ⟨n14, k60, hn⟩ := id hN
    obtain ⟨k, hk⟩ : ∃ k, k = l.1 := ⟨_, rfl⟩
    rw [← hk] at n14 k60 h17 hz
    have a1 := hL.1
    ((try rw [s_gI hm]); rw [o_ob]; (try rw [a1]); rw [if_pos (show jI 0 = 0 from rfl)])
    have eX : rdX tx n (.inr T) z l = rdI tx n T z l := rfl
    rw [eX]
    by_cases g : 5 ≤ wrd tx T
    rotate_left
    · obtain ⟨f1, y1, y2, y3⟩ := s_wrong0 (r := r) (s := s) (t := t) (k := 1) hm hL (by omega) (by omega)
      have e1 : rdI tx n T z l = (.inl (1, (T.2.1 : Nat)), l) := by unfold rdI; rw [if_pos (by omega)]
      show ∃ f' s' M, (if jI (if 5 ≤ wrd tx T then ((wrd tx T - 5 : Nat) : Int) else -1) = -1 then _ else _) = _ ∧ _
      (rw [if_neg g, if_pos (by rfl)]; (try rw [show (1 : Int32) = jI 1 from rfl]); (try rw [y1]); rw [o_ob]; (try rw [e1]))
      exact ⟨f1, s, _, (dead f1 _ _ y2).1, y2, FrQ_P y3, RdW_rf s, rfl, fun T' h' => absurd h' (by simp [msg])⟩
    show ∃ f' s' M, (if jI (if 5 ≤ wrd tx T then ((wrd tx T - 5 : Nat) : Int) else -1) = -1 then _ else fX13_readInstruction_62 m (jI (if 5 ≤ wrd tx T then ((wrd tx T - 5 : Nat) : Int) else -1)) _) = _ ∧ _
    rw [if_pos g, if_neg (by rw [show (-1 : Int32) = jI (-1) from rfl, jI_eq (by omega) (by omega) (by omega) (by omega)]; omega)]
    obtain ⟨o, ho⟩ : ∃ o, o = wrd tx T - 5 := ⟨_, rfl⟩
    rw [← ho]
    unfold fX13_readInstruction_62
    ((try rw [s_gI hm]); rw [o_ob]; (try rw [a1]); rw [if_pos (show jI 0 = 0 from rfl)]; (try rw [s_gI hm]); rw [o_ob]; (try rw [n14]))
    by_cases c60 : k = 60
    · obtain ⟨f1, y1, y2, y3⟩ := s_wrong0 (r := r) (s := s) (t := t) (k := 2) hm hL (by omega) (by omega)
      have e1 : rdI tx n T z l = (.inl (2, (T.2.1 : Nat)), l) := by unfold rdI; rw [if_neg (by omega), if_pos (by rw [← hk]; exact c60)]
      (rw [if_pos (by rw [c60]; rfl)]; (try rw [show (2 : Int32) = jI 2 from rfl]); (try rw [y1]); rw [o_ob]; (try rw [e1]))
      exact ⟨f1, s, _, (dead f1 _ _ y2).2, y2, FrQ_P y3, RdW_rf s, rfl, fun T' h' => absurd h' (by simp [msg])⟩
    rw [if_neg (by rw [show (60 : Int32) = jI 60 from rfl, jI_eq (by omega) (by omega) (by omega) (by omega)]; omega)]
    obtain ⟨f1, y1, y2, y3⟩ := s_step (r := r) (t := t) hm ht hL
    obtain ⟨s2, hs2⟩ : ∃ s2 : SI2, s2 = va_up s 5 (va_up (s 5) (60 + k) (o : Int)) := ⟨_, rfl⟩
    have u2 : ∀ j, j ≠ 5 → s2 j = s j := fun j hj => by rw [hs2, va_up_ne _ _ hj]
    have u5 : ∀ i, i ≠ 60 + k → s2 5 i = s 5 i := fun i hi => by ((try rw [hs2]); (try rw [va_up_self]); (try rw [va_up_ne _ _ hi]))
    have v5 : s2 5 (60 + k) = (o : Int) := by ((try rw [hs2]); (try rw [va_up_self]); (try rw [va_up_self]))
    have ht2 : TxR s2 tx n := ⟨ht.1, fun j hj => by rw [u2 13 (by omega)]; exact ht.2 j hj⟩
    have g14 : f1 14 = (k : Int) := (y3 14 (by omega)).trans n14
    have y2' : SmR f1 tx n (.inr (tok tx n T.2.2)) := y2
    obtain ⟨f3, s3, M, x1, x2, x3, x4, x5, x6⟩ := s_oper (r := r) (t := t) (s := s2) (o := o) hm ht2 y2' g14 (by omega) (by omega) (by rw [u2 17 (by omega)]; exact h17)
    have h14 : f3 14 = (k : Int) := (x3 14 (by omega)).trans g14
    have e1 : rdI tx n T z l = ((prF tx n o (.inr (tok tx n T.2.2))).1, (k + 1, va_up l.2.1 k o, va_up l.2.2.1 k (prF tx n o (.inr (tok tx n T.2.2))).2.1, va_up l.2.2.2.1 k z, va_up l.2.2.2.2.1 k (prF tx n o (.inr (tok tx n T.2.2))).2.2.1, va_up l.2.2.2.2.2 k (prF tx n o (.inr (tok tx n T.2.2))).2.2.2)) := by
      unfold rdI
      (rw [if_neg (by omega), if_neg (by omega)]; (try rw [← ho]); (try rw [← hk]))
      unfold prF
      rw [show o + 5 = wrd tx T by omega]
    unfold fX13_readInstruction_83
    ((try rw [s_gI hm]); rw [o_ob]; (try rw [a1]); rw [if_pos (show jI 0 = 0 from rfl)]; (try rw [y1]); rw [o_ob]; (try rw [s_R5 hm]); rw [o_ob]; (try rw [s_gI hm]); rw [o_ob]; (try rw [g14]); (try rw [show (60 : Int32) = jI 60 from rfl]); (try rw [jI_add]); rw [s_q5 hm (by omega) (by omega), o_ob]; (try rw [show ((60 : Int) + (k : Int)).toNat = 60 + k by omega]); (try rw [← hs2]); (try rw [x1]); rw [o_ob]; (try rw [s_gI hm]); rw [o_ob]; (try rw [h14]); (try rw [show (1 : Int32) = jI 1 from rfl]); (try rw [jI_add]); rw [s_pI hm, o_ob]; (try rw [e1]))
    obtain ⟨b1, b2', b3, b4⟩ := x4
    refine ⟨va_up f3 14 ((k : Int) + 1), s3, M, rfl, SmR_14 x2, fun j hj => ?_, ?_, x5, fun T' hT' => ?_⟩
    · rw [va_up_ne _ _ (by omega), x3 j (by omega)]
      exact y3 j (by omega)
    · have r1 : RdW s s2 := ⟨fun j hj => u2 j (by omega), fun j i a b => by
        by_cases q : j = 5
        · rw [q]; exact u5 i (by omega)
        · rw [u2 j q], fun j i a b _ => by rw [u2 j (by omega)], fun i _ => by rw [u2 12 (by omega)]⟩
      exact RdW_tr r1 (RdW_op (k := k) ⟨b1, b2', b3, b4⟩)
    · obtain ⟨z1, z2, z3⟩ := x6 T' hT'
      have s14 : s3 14 = s 14 := (b1 14 (by omega)).trans (u2 14 (by omega))
      have s15 : s3 15 = s 15 := (b1 15 (by omega)).trans (u2 15 (by omega))
      refine ⟨⟨va_up_self _ _ _, by show k + 1 ≤ 60; omega, fun i hi => ?_⟩, fun i hi => ?_, ?_⟩
      · have hi : i < k + 1 := hi
        show (va_up l.2.2.2.1 k z i = 0 ∧ s3 15 i = 0) ∨ ∃ p q : Nat, s3 14 i = p ∧ s3 15 i = q ∧ nmT tx n p q (va_up l.2.2.2.1 k z i)
        rw [s14, s15]
        by_cases q : i = k
        · rw [q, va_up_self]; exact hz
        · rw [va_up_ne _ _ q]; exact hn i (by omega)
      · have hi : i < k + 1 := hi
        show s3 5 (60 + i) = ((va_up l.2.1 k o i : Nat) : Int) ∧ va_up l.2.1 k o i ≤ 24 ∧ HoS (va_up l.2.1 k o i) i (va_up l.2.2.1 k (prF tx n o (.inr (tok tx n T.2.2))).2.1 i) s3 ∧ WnS tx n i (va_up l.2.2.2.2.1 k (prF tx n o (.inr (tok tx n T.2.2))).2.2.1 i) (va_up l.2.2.2.2.2 k (prF tx n o (.inr (tok tx n T.2.2))).2.2.2 i) s3 ∧ FOO (va_up l.2.1 k o i) (va_up l.2.2.1 k (prF tx n o (.inr (tok tx n T.2.2))).2.1 i) (va_up l.2.2.2.2.1 k (prF tx n o (.inr (tok tx n T.2.2))).2.2.1 i)
        rw [b1 5 (by omega)]
        by_cases q : i = k
        · (rw [q]; (try rw [va_up_self]); (try rw [va_up_self]); (try rw [va_up_self]); (try rw [va_up_self]))
          exact ⟨v5, by omega, z1, z2, z3⟩
        · ((try rw [va_up_ne _ _ q]); (try rw [va_up_ne _ _ q]); (try rw [va_up_ne _ _ q]); (try rw [va_up_ne _ _ q]); rw [u5 _ (by omega)])
          obtain ⟨d1, d2, d3, d4, d5⟩ := hO i (by omega)
          refine ⟨d1, d2, HoS_fr d3 (fun j j1 j2 => ⟨?_, ?_⟩) (fun j j1 j2 => ?_), WnS_fr d4 ?_ ?_, d5⟩
          · rw [b2' j _ j2 (by omega) (by omega), u2 j (by omega)]
          · rw [b2' j _ j2 (by omega) (by omega), u2 j (by omega)]
          · rw [b3 j _ j1 j2 (by omega), u2 j (by omega)]
          · rw [b4 16 i (by omega) q, u2 16 (by omega)]
          · rw [b4 17 i (by omega) q, u2 17 (by omega)]
      · refine ⟨hQ.1, fun j hj => ?_⟩
        rw [b1 12 (by omega), u2 12 (by omega)]
        exact hQ.2 j hj
end RUM
