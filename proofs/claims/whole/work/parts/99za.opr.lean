section RUA
variable {c : MC} {m : Nat} {f r : Nat → Int} {s t : SI2} {n : Nat} {tx : Nat → Int}
/-- the operands of an operation on a field and an address -/
theorem s_opr9 {x : MD} {k o : Nat} (hm : Mo c m) (ht : TxR s tx n) (h : SmR f tx n x) (h14 : f 14 = (k : Int)) (hk : k < 60) (ho : 9 ≤ o) (ho2 : o ≤ 13) : ∃ f' s', fX13_readOperands m (jI (o : Int)) (MS c m f r s t) = some (MS c m f' r s' t) ∧ SmR f' tx n (adM tx n (fdM tx n x 64).1).1 ∧ FrP f f' ∧ (∀ j, j < 6 ∨ 8 < j → s' j = s j) ∧ (∀ j i, i ≠ 2 * (60 + k) → i ≠ 2 * (60 + k) + 1 → s' j i = s j i) ∧
    s' 6 (2 * (60 + k)) = (fdM tx n x 64).2.1 ∧ s' 7 (2 * (60 + k)) = (fdM tx n x 64).2.2.1 ∧ s' 8 (2 * (60 + k)) = (fdM tx n x 64).2.2.2 ∧
    s' 6 (2 * (60 + k) + 1) = (adM tx n (fdM tx n x 64).1).2.1 ∧ s' 7 (2 * (60 + k) + 1) = (adM tx n (fdM tx n x 64).1).2.2 ∧ s' 8 (2 * (60 + k) + 1) = 0 := by
  obtain ⟨f1, s1, a1, a2, a3, w1, u6, u7, u8⟩ := s_field (r := r) (t := t) (a := 0) (hi := 64) hm ht h h14 hk (by omega) (by omega) (by omega)
  have g14 : f1 14 = (k : Int) := (a3 14 (by omega)).trans h14
  have ht1 := WrF_tx w1 ht (by omega)
  obtain ⟨f2, s2, b1, b2', b3, w2, y6, y7, y8⟩ := s_address (r := r) (t := t) (a := 1) hm ht1 a2 g14 hk (by omega)
  have a1 : fX13_readField m (jI 0) (jI 64) (MS c m f r s t) = _ := a1
  have b1 : fX13_readAddress m (jI 1) (MS c m f1 r s1 t) = _ := b1
  unfold fX13_readOperands
  (rw [s_gd _ hm]; (try rw [s_gI hm]); rw [o_ob]; (try rw [h14]); rw [o_lt, if_pos (by first | ((simp (disch := omega) only [jI_lit, jI_neg, jI_add, jI_sub, jI_mul, jI_lt, jI_le, jI_eq, jL_lit, jL_lt, jL_le, jL_eq]) <;> omega) | omega), if_neg (by first | ((simp (disch := omega) only [jI_lit, jI_neg, jI_add, jI_sub, jI_mul, jI_lt, jI_le, jI_eq, jL_lit, jL_lt, jL_le, jL_eq]) <;> omega) | omega)]; (try rw [show (0 : Int32) = jI 0 from rfl]); (try rw [show (64 : Int32) = jI 64 from rfl]); (try rw [a1]); rw [o_ob]; (try rw [show (1 : Int32) = jI 1 from rfl]); (try rw [b1]); rw [o_ob])
  have k0 : ∀ j, s2 j (2 * (60 + k)) = s1 j (2 * (60 + k)) := fun j => w2.2 j _ (by omega)
  refine ⟨f2, s2, rfl, b2', FrP_tr a3 b3, fun j hj => (w2.1 j hj).trans (w1.1 j hj), fun j i h1 h2 => (w2.2 j i h2).trans (w1.2 j i (by omega)), ?_, ?_, ?_, y6, y7, y8⟩
  · rw [k0]; exact u6
  · rw [k0]; exact u7
  · rw [k0]; exact u8
/-- the operand of an operation on one field -/
theorem s_opr15 {x : MD} {k : Nat} (hm : Mo c m) (ht : TxR s tx n) (h : SmR f tx n x) (h14 : f 14 = (k : Int)) (hk : k < 60) : ∃ f' s', fX13_readOperands m (jI 15) (MS c m f r s t) = some (MS c m f' r s' t) ∧ SmR f' tx n (fdM tx n x 16).1 ∧ FrP f f' ∧ WrF 6 8 (2 * (60 + k)) s s' ∧ s' 6 (2 * (60 + k)) = (fdM tx n x 16).2.1 ∧ s' 7 (2 * (60 + k)) = (fdM tx n x 16).2.2.1 ∧ s' 8 (2 * (60 + k)) = (fdM tx n x 16).2.2.2 := by
  obtain ⟨f1, s1, a1, a2, a3, w1, u6, u7, u8⟩ := s_field (r := r) (t := t) (a := 0) (hi := 16) hm ht h h14 hk (by omega) (by omega) (by omega)
  have a1 : fX13_readField m (jI 0) (jI 16) (MS c m f r s t) = _ := a1
  unfold fX13_readOperands
  (rw [s_gd _ hm]; (try rw [s_gI hm]); rw [o_ob]; (try rw [h14]); rw [o_lt, if_pos (by decide), if_pos (by decide), if_neg (by decide), if_pos (by decide)]; (try rw [show (0 : Int32) = jI 0 from rfl]); (try rw [show (16 : Int32) = jI 16 from rfl]); (try rw [a1]); rw [o_ob])
  exact ⟨f1, s1, rfl, a2, a3, w1, u6, u7, u8⟩
end RUA
