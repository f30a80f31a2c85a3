section RUB
variable {c : MC} {m : Nat} {f r : Nat → Int} {s t : SI2} {n : Nat} {tx : Nat → Int}
/-- a register -/
def rgM (tx : Nat → Int) (n : Nat) (x : MD) : MD × Int := numR tx n (msg tx n x 37) 0 7
theorem TxR_9 {i v : Int} {k : Nat} {j : Nat} (ht : TxR s tx n) (hj : j ≠ 13) : TxR (va_up s j (va_up (s j) k v)) tx n := ⟨ht.1, fun y hy => by rw [va_up_ne _ _ (Ne.symm hj)]; exact ht.2 y hy⟩
/-- the operands of an operation on a register and an address -/
theorem s_opr16 {x : MD} {k o : Nat} (hm : Mo c m) (ht : TxR s tx n) (h : SmR f tx n x) (h14 : f 14 = (k : Int)) (hk : k < 60) (ho : 16 ≤ o) (ho2 : o ≤ 18) : ∃ f' s', fX13_readOperands m (jI (o : Int)) (MS c m f r s t) = some (MS c m f' r s' t) ∧ SmR f' tx n (adM tx n (rgM tx n x).1).1 ∧ FrP f f' ∧ (∀ j, j < 6 ∨ 9 < j → s' j = s j) ∧ (∀ i, i ≠ 60 + k → s' 9 i = s 9 i) ∧ (∀ j i, j < 9 → i ≠ 2 * (60 + k) → s' j i = s j i) ∧
    s' 9 (60 + k) = (rgM tx n x).2 ∧ s' 6 (2 * (60 + k)) = (adM tx n (rgM tx n x).1).2.1 ∧ s' 7 (2 * (60 + k)) = (adM tx n (rgM tx n x).1).2.2 ∧ s' 8 (2 * (60 + k)) = 0 := by
  obtain ⟨f1, a1, a2, a3⟩ := s_register (r := r) (t := t) hm ht h
  have g14 : f1 14 = (k : Int) := (a3 14 (by omega)).trans h14
  obtain ⟨s1, hs1⟩ : ∃ s1 : SI2, s1 = va_up s 9 (va_up (s 9) (60 + k) (rgM tx n x).2) := ⟨_, rfl⟩
  have ht1 : TxR s1 tx n := by rw [hs1]; exact TxR_9 (i := 0) ht (by omega)
  have a2 : SmR f1 tx n (rgM tx n x).1 := a2
  have a1 : fX13_readRegister m (MS c m f r s t) = some (jI (rgM tx n x).2, MS c m f1 r s t) := a1
  obtain ⟨f2, s2, b1, b2', b3, w2, y6, y7, y8⟩ := s_address (r := r) (t := t) (a := 0) hm ht1 a2 g14 hk (by omega)
  have b1 : fX13_readAddress m (jI 0) (MS c m f1 r s1 t) = _ := b1
  unfold fX13_readOperands
  (rw [s_gd _ hm]; (try rw [s_gI hm]); rw [o_ob]; (try rw [h14]); rw [o_lt, if_pos (by first | ((simp (disch := omega) only [jI_lit, jI_neg, jI_add, jI_sub, jI_mul, jI_lt, jI_le, jI_eq, jL_lit, jL_lt, jL_le, jL_eq]) <;> omega) | omega), if_pos (by first | ((simp (disch := omega) only [jI_lit, jI_neg, jI_add, jI_sub, jI_mul, jI_lt, jI_le, jI_eq, jL_lit, jL_lt, jL_le, jL_eq]) <;> omega) | omega), if_neg (by first | ((simp (disch := omega) only [jI_lit, jI_neg, jI_add, jI_sub, jI_mul, jI_lt, jI_le, jI_eq, jL_lit, jL_lt, jL_le, jL_eq]) <;> omega) | omega), if_neg (by first | ((simp (disch := omega) only [jI_lit, jI_neg, jI_add, jI_sub, jI_mul, jI_lt, jI_le, jI_eq, jL_lit, jL_lt, jL_le, jL_eq]) <;> omega) | omega), if_neg (by first | ((simp (disch := omega) only [jI_lit, jI_neg, jI_add, jI_sub, jI_mul, jI_lt, jI_le, jI_eq, jL_lit, jL_lt, jL_le, jL_eq]) <;> omega) | omega)]; (try rw [s_R9 hm]); rw [o_ob]; (try rw [a1]); rw [o_ob2]; (try rw [show (60 : Int32) = jI 60 from rfl]); (try rw [jI_add]); rw [s_q9 hm (by omega) (by omega), o_ob]; (try rw [show ((60 : Int) + (k : Int)).toNat = 60 + k by omega]); (try rw [← hs1]); (try rw [show (0 : Int32) = jI 0 from rfl]); (try rw [b1]); rw [o_ob])
  have e9 : s2 9 = s1 9 := w2.1 9 (by omega)
  refine ⟨f2, s2, rfl, b2', FrP_tr a3 b3, fun j hj => ?_, fun i hi => ?_, fun j i hj hi => ?_, ?_, y6, y7, y8⟩
  · (rw [w2.1 j (by omega)]; (try rw [hs1]); (try rw [va_up_ne _ _ (by omega)]))
  · ((try rw [e9]); (try rw [hs1]); (try rw [va_up_self]); (try rw [va_up_ne _ _ hi]))
  · (rw [w2.2 j i hi]; (try rw [hs1]); (try rw [va_up_ne _ _ (by omega)]))
  · rw [e9, hs1]; exact up2_at _ _ _ _
/-- a number that a '-' may stand ahead of -/
def sgM (tx : Nat → Int) (n : Nat) (x : MD) (hi hi2 : Int) : MD × Int :=
  if (psM tx n x 45).2 = true then ((numR tx n (psM tx n x 45).1 0 hi2).1, -(numR tx n (psM tx n x 45).1 0 hi2).2) else numR tx n (psM tx n x 45).1 0 hi
/-- the operands of an operation on a register and a number -/
theorem s_opr19 {x : MD} {k : Nat} (hm : Mo c m) (ht : TxR s tx n) (h : SmR f tx n x) (h14 : f 14 = (k : Int)) (hk : k < 60) : ∃ f' s', fX13_readOperands m (jI 19) (MS c m f r s t) = some (MS c m f' r s' t) ∧ SmR f' tx n (sgM tx n (rgM tx n x).1 9999 9999).1 ∧ FrP f f' ∧ WrF 9 10 (60 + k) s s' ∧ s' 9 (60 + k) = (rgM tx n x).2 ∧ s' 10 (60 + k) = (sgM tx n (rgM tx n x).1 9999 9999).2 := by
  obtain ⟨f1, a1, a2, a3⟩ := s_register (r := r) (t := t) hm ht h
  obtain ⟨s1, hs1⟩ : ∃ s1 : SI2, s1 = va_up s 9 (va_up (s 9) (60 + k) (rgM tx n x).2) := ⟨_, rfl⟩
  have q1 : WrF 9 10 (60 + k) s s1 := by rw [hs1]; exact WrF_up (by omega) (by omega)
  have ht1 := WrF_tx q1 ht (by omega)
  have a2 : SmR f1 tx n (rgM tx n x).1 := a2
  have a1 : fX13_readRegister m (MS c m f r s t) = some (jI (rgM tx n x).2, MS c m f1 r s t) := a1
  obtain ⟨f2, b1, b2', b3⟩ := s_passes (r := r) (t := t) (k := 45) hm ht1 a2 (by omega) (by omega)
  obtain ⟨f3, c1, c2, c3⟩ := s_num (r := r) (t := t) (lo := 0) (hi := 9999) hm ht1 b2' (by omega) (by omega) (by omega) (by omega)
  obtain ⟨v, hv⟩ : ∃ v, v = (sgM tx n (rgM tx n x).1 9999 9999).2 := ⟨_, rfl⟩
  obtain ⟨s2, hs2⟩ : ∃ s2 : SI2, s2 = va_up s1 10 (va_up (s1 10) (60 + k) v) := ⟨_, rfl⟩
  have q2 : WrF 9 10 (60 + k) s1 s2 := by rw [hs2]; exact WrF_up (by omega) (by omega)
  have fr := FrP_tr a3 (FrP_tr b3 c3)
  have v9 : s2 9 (60 + k) = (rgM tx n x).2 := by ((try rw [hs2]); rw [up2_ne (by omega)]; (try rw [hs1])); exact up2_at _ _ _ _
  have v10 : s2 10 (60 + k) = v := by rw [hs2]; exact up2_at _ _ _ _
  have fin : fX13_readOperands_214 (jI v) (jI (60 + (k : Int))) (m + 10) (MS c m f3 r s1 t) = some (MS c m f3 r s2 t) := by
    unfold fX13_readOperands_214
    (rw [s_q10 hm (by omega) (by omega), o_ob]; (try rw [show ((60 : Int) + (k : Int)).toNat = 60 + k by omega]); (try rw [← hs2]))
  unfold fX13_readOperands
  (rw [s_gd _ hm]; (try rw [s_gI hm]); rw [o_ob]; (try rw [h14]); rw [o_lt, if_pos (by decide), if_pos (by decide), if_neg (by decide), if_neg (by decide), if_pos (by decide), if_pos (by decide)]; (try rw [s_R9 hm]); rw [o_ob]; (try rw [a1]); rw [o_ob2]; (try rw [show (60 : Int32) = jI 60 from rfl]); (try rw [jI_add]); rw [s_q9 hm (by omega) (by omega), o_ob]; (try rw [show ((60 : Int) + (k : Int)).toNat = 60 + k by omega]); (try rw [← hs1]); (try rw [show (45 : Int32) = jI 45 from rfl]); (try rw [b1]); rw [o_ob2]; (try rw [show (0 : Int32) = jI 0 from rfl]); (try rw [show (9999 : Int32) = jI 9999 from rfl]); (try rw [c1]); rw [o_ob2]; (try rw [s_R10 hm]); rw [o_ob])
  rw [← hv]
  unfold sgM at hv ⊢
  cases g : (psM tx n (rgM tx n x).1 45).2 with
  | false =>
    rw [g, if_neg (show ¬ false = true by decide)] at hv
    (rw [if_neg (show ¬ false = true by decide), if_pos (by rfl)]; (try rw [← hv]))
    exact ⟨f3, s2, fin, c2, fr, WrF_tr q1 q2, v9, v10⟩
  | true =>
    rw [g, if_pos rfl] at hv
    have hv : v = -(numR tx n (psM tx n (rgM tx n x).1 45).1 0 9999).2 := hv
    have ev : -jI (numR tx n (psM tx n (rgM tx n x).1 45).1 0 9999).2 = jI v := by rw [jI_neg, hv]
    rw [if_pos rfl, if_neg (show ¬ jI (b2 true) = jI 0 by decide), ev]
    exact ⟨f3, s2, fin, c2, fr, WrF_tr q1 q2, v9, v10⟩
end RUB
