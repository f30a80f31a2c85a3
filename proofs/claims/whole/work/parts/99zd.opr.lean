section RUD
variable {c : MC} {m : Nat} {f r : Nat → Int} {s t : SI2} {n : Nat} {tx : Nat → Int}
/-- a register or a number, and a name: what an operation that jumps reads -/
theorem s_jmp {x : MD} {k : Nat} {v : Int} (hm : Mo c m) (ht : TxR s tx n) (h : SmR f tx n x) (h14 : f 14 = (k : Int)) (hk : k < 60) : ∃ f' s', (ob (qI (m + 9) (jI (60 + (k : Int))) (jI v) (MS c m f r s t)) fun h => fX13_readJump_94 m h) = some (MS c m f' r s' t) ∧ SmR f' tx n (tgM tx n x).1 ∧ FrP f f' ∧ (∀ j, j ≠ 9 → j ≠ 16 → j ≠ 17 → s' j = s j) ∧ (∀ i, i ≠ 60 + k → s' 9 i = s 9 i) ∧ (∀ i, i ≠ k → s' 16 i = s 16 i ∧ s' 17 i = s 17 i) ∧ s' 9 (60 + k) = v ∧ (((tgM tx n x).2 = 0 ∧ s' 16 = s 16 ∧ s' 17 = s 17 ∧ ∃ e, (tgM tx n x).1 = .inl e) ∨ ∃ p l : Nat, s' 16 k = p ∧ s' 17 k = l ∧ nmT tx n p l (tgM tx n x).2 ∧ ∀ T, x = .inr T → p = T.2.1) := by
  obtain ⟨s1, hs1⟩ : ∃ s1 : SI2, s1 = va_up s 9 (va_up (s 9) (60 + k) v) := ⟨_, rfl⟩
  have q1 : WrF 9 10 (60 + k) s s1 := by rw [hs1]; exact WrF_up (by omega) (by omega)
  have ht1 := WrF_tx q1 ht (by omega)
  obtain ⟨f2, s2, e1, e2, e3, e4, e5, e6⟩ := s_target (r := r) (t := t) hm ht1 h h14 (by omega)
  have e9 : s2 9 = s1 9 := e4 9 (by omega) (by omega)
  have z16 : s1 16 = s 16 := q1.1 16 (by omega)
  have z17 : s1 17 = s 17 := q1.1 17 (by omega)
  (rw [s_q9 hm (by omega) (by omega), o_ob]; (try rw [show ((60 : Int) + (k : Int)).toNat = 60 + k by omega]); (try rw [← hs1]))
  unfold fX13_readJump_94
  rw [e1, o_ob]
  refine ⟨f2, s2, rfl, e2, e3, fun j a b d => ?_, fun i hi => ?_, fun i hi => ?_, ?_, ?_⟩
  · (rw [e4 j b d]; (try rw [hs1]); (try rw [va_up_ne _ _ a]))
  · ((try rw [e9]); (try rw [hs1]); (try rw [va_up_self]); (try rw [va_up_ne _ _ hi]))
  · rw [← z16, ← z17]; exact e5 i hi
  · rw [e9, hs1]; exact up2_at _ _ _ _
  · rcases e6 with ⟨a, b, d⟩ | b
    · exact Or.inl ⟨a, by rw [b]; exact z16, by rw [b]; exact z17, d⟩
    · exact Or.inr b
theorem s_opr20 {x : MD} {k o : Nat} (hm : Mo c m) (ht : TxR s tx n) (h : SmR f tx n x) (h14 : f 14 = (k : Int)) (hk : k < 60) (ho : o = 20 ∨ o = 21) {y : MD × Int} (hy : y = if o = 20 then rgM tx n x else numR tx n x 0 15) : ∃ f' s', fX13_readOperands m (jI (o : Int)) (MS c m f r s t) = some (MS c m f' r s' t) ∧ SmR f' tx n (tgM tx n y.1).1 ∧ FrP f f' ∧ (∀ j, j ≠ 9 → j ≠ 16 → j ≠ 17 → s' j = s j) ∧ (∀ i, i ≠ 60 + k → s' 9 i = s 9 i) ∧ (∀ i, i ≠ k → s' 16 i = s 16 i ∧ s' 17 i = s 17 i) ∧ s' 9 (60 + k) = y.2 ∧ (((tgM tx n y.1).2 = 0 ∧ s' 16 = s 16 ∧ s' 17 = s 17 ∧ ∃ e, (tgM tx n y.1).1 = .inl e) ∨ ∃ p l : Nat, s' 16 k = p ∧ s' 17 k = l ∧ nmT tx n p l (tgM tx n y.1).2 ∧ ∀ T, y.1 = .inr T → p = T.2.1) := by
  have last : ∀ {G : Nat → Int} (F : Option Hp), FrP f G → (∃ f' s', F = some (MS c m f' r s' t) ∧ SmR f' tx n (tgM tx n y.1).1 ∧ FrP G f' ∧ (∀ j, j ≠ 9 → j ≠ 16 → j ≠ 17 → s' j = s j) ∧ (∀ i, i ≠ 60 + k → s' 9 i = s 9 i) ∧ (∀ i, i ≠ k → s' 16 i = s 16 i ∧ s' 17 i = s 17 i) ∧ s' 9 (60 + k) = y.2 ∧ (((tgM tx n y.1).2 = 0 ∧ s' 16 = s 16 ∧ s' 17 = s 17 ∧ ∃ e, (tgM tx n y.1).1 = .inl e) ∨ ∃ p l : Nat, s' 16 k = p ∧ s' 17 k = l ∧ nmT tx n p l (tgM tx n y.1).2 ∧ ∀ T, y.1 = .inr T → p = T.2.1)) → ∃ f' s', (ob F fun h => some h) = some (MS c m f' r s' t) ∧ SmR f' tx n (tgM tx n y.1).1 ∧ FrP f f' ∧ (∀ j, j ≠ 9 → j ≠ 16 → j ≠ 17 → s' j = s j) ∧ (∀ i, i ≠ 60 + k → s' 9 i = s 9 i) ∧ (∀ i, i ≠ k → s' 16 i = s 16 i ∧ s' 17 i = s 17 i) ∧ s' 9 (60 + k) = y.2 ∧ (((tgM tx n y.1).2 = 0 ∧ s' 16 = s 16 ∧ s' 17 = s 17 ∧ ∃ e, (tgM tx n y.1).1 = .inl e) ∨ ∃ p l : Nat, s' 16 k = p ∧ s' 17 k = l ∧ nmT tx n p l (tgM tx n y.1).2 ∧ ∀ T, y.1 = .inr T → p = T.2.1) := by
    intro G F fr ⟨f', s', e, p1, p2, p3⟩
    exact ⟨f', s', by rw [e, o_ob], p1, FrP_tr fr p2, p3⟩
  unfold fX13_readOperands fX13_readJump fX13_readJump_60
  rcases ho with rfl | rfl
  · rw [if_pos rfl] at hy
    obtain ⟨f1, a1, a2, a3⟩ := s_register (r := r) (t := t) hm ht h
    have a2 : SmR f1 tx n (rgM tx n x).1 := a2
    have a1 : fX13_readRegister m (MS c m f r s t) = some (jI (rgM tx n x).2, MS c m f1 r s t) := a1
    rw [← hy] at a1 a2
    have g14 : f1 14 = (k : Int) := (a3 14 (by omega)).trans h14
    have j := s_jmp (r := r) (t := t) (v := y.2) hm ht a2 g14 hk
    (rw [s_gd _ hm]; (try rw [s_gI hm]); rw [o_ob]; (try rw [h14]); rw [o_lt, if_pos (by decide), if_pos (by decide), if_neg (by decide), if_neg (by decide), if_pos (by decide), if_neg (by decide), s_gd _ hm, if_pos (by decide)]; (try rw [s_R9 hm]); rw [o_ob]; (try rw [a1]); rw [o_ob2]; (try rw [show (60 : Int32) = jI 60 from rfl]); (try rw [jI_add]))
    refine last _ a3 ?_
    exact j
  · rw [if_neg (by decide)] at hy
    obtain ⟨f1, a1, a2, a3⟩ := s_num (r := r) (t := t) (lo := 0) (hi := 15) hm ht h (by omega) (by omega) (by omega) (by omega)
    rw [← hy] at a1 a2
    have g14 : f1 14 = (k : Int) := (a3 14 (by omega)).trans h14
    have j := s_jmp (r := r) (t := t) (v := y.2) hm ht a2 g14 hk
    (rw [s_gd _ hm]; (try rw [s_gI hm]); rw [o_ob]; (try rw [h14]); rw [o_lt, if_pos (by decide), if_pos (by decide), if_neg (by decide), if_neg (by decide), if_pos (by decide), if_neg (by decide), s_gd _ hm, if_neg (by decide), if_pos (by decide)]; (try rw [s_R9 hm]); rw [o_ob]; (try rw [show (0 : Int32) = jI 0 from rfl]); (try rw [show (15 : Int32) = jI 15 from rfl]); (try rw [a1]); rw [o_ob2]; (try rw [show (60 : Int32) = jI 60 from rfl]); (try rw [jI_add]))
    refine last _ a3 ?_
    exact j
end RUD
