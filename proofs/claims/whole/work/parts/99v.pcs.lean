section RTP
variable {c : MC} {m : Nat} {f r : Nat → Int} {s t : SI2} {n : Nat} {tx : Nat → Int}
theorem SmR_f {e : Int × Int} (h : SmR f tx n (.inl e)) : ¬ jI (f 23) = 0 := by
  obtain ⟨e1, e2, e3, e4, -⟩ := h
  ((try rw [e1]); (try rw [show (0 : Int32) = jI 0 from rfl]); rw [jI_eq (by omega) (by omega) (by omega) (by omega)])
  omega
/-- a sign that may stand here -/
def psM (tx : Nat → Int) (n : Nat) (x : MD) (k : Int) : MD × Bool := match x with
  | .inl e => (.inl e, false)
  | .inr T => (.inr (mps tx n T k), T.1 == 4 && tx T.2.1 == k)
theorem s_isMarkedM {x : MD} {k : Int} (hm : Mo c m) (ht : TxR s tx n) (h : SmR f tx n x) (k1 : 0 ≤ k) (k2 : k < 256) : fX13_isMarked m (jI k) (MS c m f r s t) = some (jI (b2 (psM tx n x k).2)) := by
  cases x with
  | inl e =>
    have ne := SmR_f h
    unfold fX13_isMarked
    (rw [s_gd _ hm]; (try rw [s_gI hm]); rw [o_ob, if_neg ne])
    rfl
  | inr T => exact s_isMarked hm ht h k1 k2
theorem s_passes {x : MD} {k : Int} (hm : Mo c m) (ht : TxR s tx n) (h : SmR f tx n x) (k1 : 0 ≤ k) (k2 : k < 256) : ∃ f', fX13_passes m (jI k) (MS c m f r s t) = some (jI (b2 (psM tx n x k).2), MS c m f' r s t) ∧ SmR f' tx n (psM tx n x k).1 ∧ FrP f f' := by
  have e1 := s_isMarkedM (r := r) (t := t) hm ht h k1 k2
  unfold fX13_passes
  (rw [s_gd _ hm]; (try rw [e1]); rw [o_ob])
  cases x with
  | inl e =>
    have e2 : (psM tx n (.inl e) k) = (.inl e, false) := rfl
    rw [e2, if_pos (by rfl), o_rz _ (b2_01 false)]
    exact ⟨f, rfl, h, FrP_rf f⟩
  | inr T =>
    have e2 : (psM tx n (.inr T) k) = (.inr (mps tx n T k), T.1 == 4 && tx T.2.1 == k) := rfl
    have hL : LvR f tx n T := h
    rw [e2]
    unfold mps
    cases q : (T.1 == 4 && tx T.2.1 == k) with
    | false =>
      rw [if_pos (by rfl), o_rz _ (b2_01 false), if_neg (by decide)]
      exact ⟨f, rfl, hL, FrP_rf f⟩
    | true =>
      obtain ⟨f', w1, w2, w3⟩ := s_step (r := r) (t := t) hm ht hL
      (rw [if_neg (show ¬ jI (b2 true) = 0 by decide)]; (try rw [w1]); rw [o_ob, o_rz _ (b2_01 true), if_pos rfl])
      exact ⟨f', rfl, w2, w3⟩
theorem s_register {x : MD} (hm : Mo c m) (ht : TxR s tx n) (h : SmR f tx n x) : ∃ f', fX13_readRegister m (MS c m f r s t) = some (jI (numR tx n (msg tx n x 37) 0 7).2, MS c m f' r s t) ∧ SmR f' tx n (numR tx n (msg tx n x 37) 0 7).1 ∧ FrP f f' := by
  obtain ⟨f1, a1, a2, a3⟩ := s_mark (r := r) (t := t) (k := 37) hm ht h (by omega) (by omega)
  obtain ⟨f2, b1, b2', b3⟩ := s_num (r := r) (t := t) (lo := 0) (hi := 7) hm ht a2 (by omega) (by omega) (by omega) (by omega)
  unfold fX13_readRegister
  (rw [s_gd _ hm]; (try rw [show (37 : Int32) = jI 37 from rfl]); (try rw [a1]); rw [o_ob]; (try rw [show (0 : Int32) = jI 0 from rfl]); (try rw [show (7 : Int32) = jI 7 from rfl]); (try rw [b1]); rw [o_ob2])
  exact ⟨f2, rfl, b2', FrP_tr a3 b3⟩
theorem s_nameHf {e : Int × Int} (hm : Mo c m) (h : SmR f tx n (.inl e)) : fX13_nameHere m (MS c m f r s t) = some (jI 0, (MS c m f r s t)) := by
  have ne := SmR_f h
  unfold fX13_nameHere
  (rw [s_gd _ hm]; (try rw [s_gI hm]); rw [o_ob, if_neg ne])
  rfl
/-- the name that an instruction wants: where it stands, and how the reading goes on -/
def tgM (tx : Nat → Int) (n : Nat) (x : MD) : MD × Int := match x with
  | .inl e => (.inl e, 0)
  | .inr T => match mnm tx T with
    | .inl e => (.inl e, 0)
    | .inr z => (.inr (tok tx n T.2.2), z)
theorem s_target {x : MD} {k : Nat} (hm : Mo c m) (ht : TxR s tx n) (h : SmR f tx n x) (h14 : f 14 = (k : Int)) (hk : k ≤ 60) : ∃ f' s', fX13_readTarget m (MS c m f r s t) = some (MS c m f' r s' t) ∧ SmR f' tx n (tgM tx n x).1 ∧ FrP f f' ∧ (∀ j, j ≠ 16 → j ≠ 17 → s' j = s j) ∧ (∀ i, i ≠ k → s' 16 i = s 16 i ∧ s' 17 i = s 17 i) ∧ (((tgM tx n x).2 = 0 ∧ s' = s ∧ ∃ e, (tgM tx n x).1 = .inl e) ∨ ∃ p l : Nat, s' 16 k = p ∧ s' 17 k = l ∧ nmT tx n p l (tgM tx n x).2 ∧ ∀ T, x = .inr T → p = T.2.1) := by
  unfold fX13_readTarget
  rw [s_gd _ hm]
  cases x with
  | inl e =>
    have e2 : tgM tx n (.inl e) = (.inl e, 0) := rfl
    rw [s_nameHf hm h, o_ob2, if_pos (by rfl), e2]
    exact ⟨f, s, rfl, h, FrP_rf f, fun _ _ _ => rfl, fun _ _ => ⟨rfl, rfl⟩, Or.inl ⟨rfl, rfl, e, rfl⟩⟩
  | inr T =>
    have hL : LvR f tx n T := h
    obtain ⟨nh0, nh1⟩ := s_nameH (r := r) (t := t) hm ht hL
    cases em : mnm tx T with
    | inl e =>
      obtain ⟨f', e1, e2, e3⟩ := nh0 e em
      have et : tgM tx n (.inr T) = (.inl e, 0) := by simp only [tgM, em]
      ((try rw [e1]); rw [o_ob2, if_pos (by rfl), et])
      exact ⟨f', s, rfl, e2, e3, fun _ _ _ => rfl, fun _ _ => ⟨rfl, rfl⟩, Or.inl ⟨rfl, rfl, e, rfl⟩⟩
    | inr v =>
      obtain ⟨e1, hv⟩ := nh1 v em
      have et : tgM tx n (.inr T) = (.inr (tok tx n T.2.2), v) := by simp only [tgM, em]
      obtain ⟨a1, a2, a3, a4, a5, a6, a7, a8⟩ := id hL
      have tr := TOK_r a7
      have el : jI (T.2.2 : Int) - jI (T.2.1 : Int) = jI ((T.2.2 - T.2.1 : Nat) : Int) := by rw [jI_sub]; congr 1; omega
      obtain ⟨s', hs'⟩ : ∃ s' : SI2, s' = va_up (va_up s 16 (va_up (s 16) k (T.2.1 : Int))) 17 (va_up ((va_up s 16 (va_up (s 16) k (T.2.1 : Int))) 17) k ((T.2.2 - T.2.1 : Nat) : Int)) := ⟨_, rfl⟩
      have sn : ∀ j, j ≠ 16 → j ≠ 17 → s' j = s j := fun j x y => by (rw [hs']; (try rw [va_up_ne _ _ y]); (try rw [va_up_ne _ _ x]))
      have ht' : TxR s' tx n := ⟨ht.1, fun j hj => by rw [sn 13 (by omega) (by omega)]; exact ht.2 j hj⟩
      obtain ⟨f1, w1, w2, w3⟩ := s_step (r := r) (t := t) hm ht' hL
      ((try rw [e1]); rw [o_ob2, if_neg (by decide)]; (try rw [s_R28 hm]); rw [o_ob]; (try rw [s_gI hm]); rw [o_ob]; (try rw [h14]); (try rw [s_gI hm]); rw [o_ob]; (try rw [a3]); rw [s_q16 hm (by omega) (by omega), o_ob]; (try rw [s_R29 hm]); rw [o_ob]; (try rw [s_gI hm]); rw [o_ob]; (try rw [h14]); (try rw [s_gI hm]); rw [o_ob]; (try rw [a4]); (try rw [s_gI hm]); rw [o_ob]; (try rw [a3]); rw [el, s_q17 hm (by omega) (by omega), o_ob, Int.toNat_natCast, ← hs']; (try rw [w1]); rw [o_ob, et])
      refine ⟨f1, s', rfl, w2, w3, sn, fun i hi => ⟨?_, ?_⟩, Or.inr ⟨T.2.1, T.2.2 - T.2.1, ?_, ?_, hv, fun T' hT' => by rw [Sum.inr.inj hT']⟩⟩
      · (rw [hs']; (try rw [va_up_ne _ _ (show (16 : Nat) ≠ 17 by omega)]); (try rw [va_up_self]); (try rw [va_up_ne _ _ hi]))
      · (rw [hs']; (try rw [va_up_self]); (try rw [va_up_ne _ _ hi]); (try rw [va_up_ne _ _ (show (17 : Nat) ≠ 16 by omega)]))
      · (rw [hs']; (try rw [va_up_ne _ _ (show (16 : Nat) ≠ 17 by omega)]); (try rw [va_up_self]); (try rw [va_up_self]))
      · (rw [hs']; (try rw [va_up_self]); (try rw [va_up_self]))
end RTP
