section RUE
variable {c : MC} {m : Nat} {f r : Nat → Int} {s t : SI2} {n : Nat} {tx : Nat → Int}
/-- a name, unless the line ends -/
def gdM (tx : Nat → Int) (n : Nat) (x : MD) : MD × Int := if (psM tx n x 59).2 = true then (x, 0) else tgM tx n x
theorem s_opr22 {x : MD} {k : Nat} (hm : Mo c m) (ht : TxR s tx n) (h : SmR f tx n x) (h14 : f 14 = (k : Int)) (hk : k < 60) : ∃ f' s', fX13_readOperands m (jI 22) (MS c m f r s t) = some (MS c m f' r s' t) ∧ SmR f' tx n (gdM tx n (numR tx n x 1 8).1).1 ∧ FrP f f' ∧ (∀ j, j ≠ 9 → j ≠ 16 → j ≠ 17 → s' j = s j) ∧ (∀ i, i ≠ 60 + k → s' 9 i = s 9 i) ∧ (∀ i, i ≠ k → s' 16 i = s 16 i ∧ s' 17 i = s 17 i) ∧ s' 9 (60 + k) = (numR tx n x 1 8).2 ∧ ((gdM tx n (numR tx n x 1 8).1).2 = 0 ∧ s' 16 = s 16 ∧ s' 17 = s 17 ∨ ∃ p l : Nat, s' 16 k = p ∧ s' 17 k = l ∧ nmT tx n p l (gdM tx n (numR tx n x 1 8).1).2 ∧ ∀ T, (numR tx n x 1 8).1 = .inr T → p = T.2.1) := by
  obtain ⟨f1, a1, a2, a3⟩ := s_num (r := r) (t := t) (lo := 1) (hi := 8) hm ht h (by omega) (by omega) (by omega) (by omega)
  obtain ⟨y, hy⟩ : ∃ y, y = numR tx n x 1 8 := ⟨_, rfl⟩
  rw [← hy] at a1 a2 ⊢
  have g14 : f1 14 = (k : Int) := (a3 14 (by omega)).trans h14
  obtain ⟨s1, hs1⟩ : ∃ s1 : SI2, s1 = va_up s 9 (va_up (s 9) (60 + k) y.2) := ⟨_, rfl⟩
  have q1 : WrF 9 10 (60 + k) s s1 := by rw [hs1]; exact WrF_up (by omega) (by omega)
  have ht1 := WrF_tx q1 ht (by omega)
  have im := s_isMarkedM (r := r) (t := t) (k := 59) hm ht1 a2 (by omega) (by omega)
  have u9 : s1 9 (60 + k) = y.2 := by rw [hs1]; exact up2_at _ _ _ _
  have un : ∀ j, j ≠ 9 → j ≠ 16 → j ≠ 17 → s1 j = s j := fun j a _ _ => by rw [hs1, va_up_ne _ _ a]
  have u9n : ∀ i, i ≠ 60 + k → s1 9 i = s 9 i := fun i hi => q1.2 9 i hi
  have z16 : s1 16 = s 16 := q1.1 16 (by omega)
  have z17 : s1 17 = s 17 := q1.1 17 (by omega)
  unfold fX13_readOperands fX13_readJump fX13_readJump_60
  (rw [s_gd _ hm]; (try rw [s_gI hm]); rw [o_ob]; (try rw [h14]); rw [o_lt, if_pos (by decide), if_pos (by decide), if_neg (by decide), if_neg (by decide), if_pos (by decide), if_neg (by decide), s_gd _ hm, if_neg (by decide), if_neg (by decide), if_pos (by decide)]; (try rw [s_R9 hm]); rw [o_ob]; (try rw [show (1 : Int32) = jI 1 from rfl]); (try rw [show (8 : Int32) = jI 8 from rfl]); (try rw [a1]); rw [o_ob2]; (try rw [show (60 : Int32) = jI 60 from rfl]); (try rw [jI_add]); rw [s_q9 hm (by omega) (by omega), o_ob]; (try rw [show ((60 : Int) + (k : Int)).toNat = 60 + k by omega]); (try rw [← hs1]); rw [if_neg (by decide), if_neg (by decide), if_pos (by decide)]; (try rw [s_gI hm]); rw [o_ob])
  unfold gdM
  cases e : y.1 with
  | inl z =>
    rw [e] at a2
    have ne := SmR_f a2
    have x2 : (psM tx n (.inl z) 59).2 = false := rfl
    (rw [if_neg ne, o_ob]; (try rw [x2]); rw [if_neg (show ¬ false = true by decide)])
    exact ⟨f1, s1, rfl, a2, a3, un, u9n, fun i _ => by rw [z16, z17]; exact ⟨rfl, rfl⟩, u9, Or.inl ⟨rfl, z16, z17⟩⟩
  | inr T =>
    rw [e] at a2 im
    have a23 : f1 23 = 0 := a2.1
    ((try rw [a23]); rw [if_pos (by rfl)]; (try rw [show (59 : Int32) = jI 59 from rfl]); rw [im, o_ob])
    cases g : (psM tx n (.inr T) 59).2 with
    | true =>
      rw [if_neg (show ¬ jI (b2 true) = 0 by decide), o_ob, if_pos rfl]
      exact ⟨f1, s1, rfl, a2, a3, un, u9n, fun i _ => by rw [z16, z17]; exact ⟨rfl, rfl⟩, u9, Or.inl ⟨rfl, z16, z17⟩⟩
    | false =>
      obtain ⟨f2, s2, e1, e2, e3, e4, e5, e6⟩ := s_target (r := r) (t := t) hm ht1 a2 g14 (by omega)
      have e9 : s2 9 = s1 9 := e4 9 (by omega) (by omega)
      unfold fX13_readJump_94
      (rw [if_pos (by rfl)]; (try rw [e1]); rw [o_ob, o_ob, if_neg (show ¬ false = true by decide)])
      refine ⟨f2, s2, rfl, e2, FrP_tr a3 e3, fun j a b d => (e4 j b d).trans (un j a b d), fun i hi => by rw [e9]; exact u9n i hi, fun i hi => by rw [← z16, ← z17]; exact e5 i hi, by rw [e9]; exact u9, ?_⟩
      rcases e6 with ⟨a, b, -⟩ | b
      · exact Or.inl ⟨a, by rw [b]; exact z16, by rw [b]; exact z17⟩
      · exact Or.inr b
theorem s_opr23 {o : Nat} (hm : Mo c m) {k : Nat} (h14 : f 14 = (k : Int)) (ho : o = 23 ∨ o = 24) : fX13_readOperands m (jI (o : Int)) (MS c m f r s t) = some (MS c m f r s t) := by
  unfold fX13_readOperands fX13_readJump fX13_readJump_60
  rcases ho with rfl | rfl
  · (rw [s_gd _ hm]; (try rw [s_gI hm]); rw [o_ob]; (try rw [h14]); rw [o_lt, if_pos (by decide), if_pos (by decide), if_neg (by decide), if_neg (by decide), if_pos (by decide), if_neg (by decide), s_gd _ hm, if_neg (by decide), if_neg (by decide), if_neg (by decide), if_neg (by decide), if_neg (by decide), if_neg (by decide), o_ob])
  · (rw [s_gd _ hm]; (try rw [s_gI hm]); rw [o_ob]; (try rw [h14]); rw [o_lt, if_pos (by decide), if_pos (by decide), if_neg (by decide), if_neg (by decide), if_pos (by decide), if_neg (by decide), s_gd _ hm, if_neg (by decide), if_neg (by decide), if_neg (by decide), if_neg (by decide), if_neg (by decide), if_neg (by decide), o_ob])
end RUE
