section RUC
variable {c : MC} {m : Nat} {f r : Nat → Int} {s t : SI2} {n : Nat} {tx : Nat → Int}
/-- the operands of a shift: a field, how far, a rounding digit -/
theorem s_opr14 {x : MD} {k : Nat} (hm : Mo c m) (ht : TxR s tx n) (h : SmR f tx n x) (h14 : f 14 = (k : Int)) (hk : k < 60) : ∃ f' s', fX13_readOperands m (jI 14) (MS c m f r s t) = some (MS c m f' r s' t) ∧ SmR f' tx n (numR tx n (sgM tx n (fdM tx n x 16).1 31 32).1 0 9).1 ∧ FrP f f' ∧ (∀ j, j < 6 ∨ 10 < j → s' j = s j) ∧ (∀ j i, 8 < j → i ≠ 60 + k → s' j i = s j i) ∧ (∀ j i, j < 9 → i ≠ 2 * (60 + k) → s' j i = s j i) ∧
    s' 6 (2 * (60 + k)) = (fdM tx n x 16).2.1 ∧ s' 7 (2 * (60 + k)) = (fdM tx n x 16).2.2.1 ∧ s' 8 (2 * (60 + k)) = (fdM tx n x 16).2.2.2 ∧ s' 9 (60 + k) = (sgM tx n (fdM tx n x 16).1 31 32).2 ∧ s' 10 (60 + k) = (numR tx n (sgM tx n (fdM tx n x 16).1 31 32).1 0 9).2 := by
  obtain ⟨f1, s1, a1, a2, a3, w1, u6, u7, u8⟩ := s_field (r := r) (t := t) (a := 0) (hi := 16) hm ht h h14 hk (by omega) (by omega) (by omega)
  have a1 : fX13_readField m (jI 0) (jI 16) (MS c m f r s t) = _ := a1
  have ht1 := WrF_tx w1 ht (by omega)
  obtain ⟨f2, b1, b2', b3⟩ := s_passes (r := r) (t := t) (k := 45) hm ht1 a2 (by omega) (by omega)
  have fin : ∀ (F : Nat → Int) (v : Int) (y : MD), SmR F tx n y → FrP f F → y = (sgM tx n (fdM tx n x 16).1 31 32).1 → v = (sgM tx n (fdM tx n x 16).1 31 32).2 → ∃ f' s', fX13_readOperands_107 m (jI (60 + (k : Int))) (jI v) (jI (60 + (k : Int))) (m + 9) (MS c m F r s1 t) = some (MS c m f' r s' t) ∧ SmR f' tx n (numR tx n (sgM tx n (fdM tx n x 16).1 31 32).1 0 9).1 ∧ FrP f f' ∧ (∀ j, j < 6 ∨ 10 < j → s' j = s j) ∧ (∀ j i, 8 < j → i ≠ 60 + k → s' j i = s j i) ∧ (∀ j i, j < 9 → i ≠ 2 * (60 + k) → s' j i = s j i) ∧
      s' 6 (2 * (60 + k)) = (fdM tx n x 16).2.1 ∧ s' 7 (2 * (60 + k)) = (fdM tx n x 16).2.2.1 ∧ s' 8 (2 * (60 + k)) = (fdM tx n x 16).2.2.2 ∧ s' 9 (60 + k) = (sgM tx n (fdM tx n x 16).1 31 32).2 ∧ s' 10 (60 + k) = (numR tx n (sgM tx n (fdM tx n x 16).1 31 32).1 0 9).2 := by
    intro F v y hF frF hy hv
    obtain ⟨s2, hs2⟩ : ∃ s2 : SI2, s2 = va_up s1 9 (va_up (s1 9) (60 + k) v) := ⟨_, rfl⟩
    have q2 : WrF 9 10 (60 + k) s1 s2 := by rw [hs2]; exact WrF_up (by omega) (by omega)
    have ht2 := WrF_tx q2 ht1 (by omega)
    obtain ⟨f3, c1, c2, c3⟩ := s_num (r := r) (t := t) (lo := 0) (hi := 9) hm ht2 hF (by omega) (by omega) (by omega) (by omega)
    rw [hy] at c1 c2
    obtain ⟨s3, hs3⟩ : ∃ s3 : SI2, s3 = va_up s2 10 (va_up (s2 10) (60 + k) (numR tx n (sgM tx n (fdM tx n x 16).1 31 32).1 0 9).2) := ⟨_, rfl⟩
    have q3 : WrF 9 10 (60 + k) s2 s3 := by rw [hs3]; exact WrF_up (by omega) (by omega)
    have q23 := WrF_tr q2 q3
    unfold fX13_readOperands_107
    (rw [s_q9 hm (by omega) (by omega), o_ob]; (try rw [show ((60 : Int) + (k : Int)).toNat = 60 + k by omega]); (try rw [← hs2]); (try rw [s_R10 hm]); rw [o_ob]; (try rw [show (0 : Int32) = jI 0 from rfl]); (try rw [show (9 : Int32) = jI 9 from rfl]); (try rw [c1]); rw [o_ob2, s_q10 hm (by omega) (by omega), o_ob]; (try rw [show ((60 : Int) + (k : Int)).toNat = 60 + k by omega]); (try rw [← hs3]))
    have lo : ∀ j, j < 9 → s3 j = s1 j := fun j hj => q23.1 j (by omega)
    refine ⟨f3, s3, rfl, c2, FrP_tr frF c3, fun j hj => (q23.1 j (by omega)).trans (w1.1 j (by omega)), fun j i h1 h2 => (q23.2 j i h2).trans (by rw [w1.1 j (by omega)]), fun j i h1 h2 => by rw [lo j h1]; exact w1.2 j i h2, by rw [lo 6 (by omega)]; exact u6, by rw [lo 7 (by omega)]; exact u7, by rw [lo 8 (by omega)]; exact u8, ?_, ?_⟩
    · ((try rw [hs3]); rw [up2_ne (by omega)]; (try rw [hs2]); (try rw [← hv])); exact up2_at _ _ _ _
    · rw [hs3]; exact up2_at _ _ _ _
  unfold fX13_readOperands fX13_readOperands_85
  (rw [s_gd _ hm]; (try rw [s_gI hm]); rw [o_ob]; (try rw [h14]); rw [o_lt, if_pos (by decide), if_pos (by decide), if_pos (by decide)]; (try rw [show (0 : Int32) = jI 0 from rfl]); (try rw [show (16 : Int32) = jI 16 from rfl]); (try rw [a1]); rw [o_ob]; (try rw [show (45 : Int32) = jI 45 from rfl]); (try rw [b1]); rw [o_ob2]; (try rw [show (60 : Int32) = jI 60 from rfl]); (try rw [jI_add]))
  have sg : sgM tx n (fdM tx n x 16).1 31 32 = if (psM tx n (fdM tx n x 16).1 45).2 = true then ((numR tx n (psM tx n (fdM tx n x 16).1 45).1 0 32).1, -(numR tx n (psM tx n (fdM tx n x 16).1 45).1 0 32).2) else numR tx n (psM tx n (fdM tx n x 16).1 45).1 0 31 := rfl
  cases g : (psM tx n (fdM tx n x 16).1 45).2 with
  | false =>
    rw [g, if_neg (show ¬ false = true by decide)] at sg
    obtain ⟨f3, c1, c2, c3⟩ := s_num (r := r) (t := t) (lo := 0) (hi := 31) hm ht1 b2' (by omega) (by omega) (by omega) (by omega)
    (rw [if_pos (by rfl)]; (try rw [show (31 : Int32) = jI 31 from rfl]); (try rw [c1]); rw [o_ob2]; (try rw [s_R9 hm]); rw [o_ob, if_pos (by rfl)])
    exact fin f3 _ _ c2 (FrP_tr a3 (FrP_tr b3 c3)) (by rw [sg]) (by rw [sg])
  | true =>
    rw [g, if_pos rfl] at sg
    obtain ⟨f3, c1, c2, c3⟩ := s_num (r := r) (t := t) (lo := 0) (hi := 32) hm ht1 b2' (by omega) (by omega) (by omega) (by omega)
    (rw [if_neg (show ¬ jI (b2 true) = jI 0 by decide)]; (try rw [show (32 : Int32) = jI 32 from rfl]); (try rw [c1]); rw [o_ob2]; (try rw [s_R9 hm]); rw [o_ob, if_neg (show ¬ jI (b2 true) = jI 0 by decide)]; (try rw [jI_neg]))
    exact fin f3 _ _ c2 (FrP_tr a3 (FrP_tr b3 c3)) (by rw [sg]) (by rw [sg])
end RUC
