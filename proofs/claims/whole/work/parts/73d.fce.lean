section FCD
variable {K : Nat → Nat} {I : Nat → Nat → Int32} {R : Nat → Nat → Nat} {L : Nat → Nat → Int64} {N : Nat → Nat} {w : Nat × Nat × Nat × Nat} {X U C Z : Nat}
variable {b many k m n pc pu : Nat} {P : PG} {r nt cr t : Nat → Int} {A : Nat → Nat → Int} {fp : Int} {im : Option DS}
/-- an answer, the engine holding what it held -/
def SCo (K : Nat → Nat) (N : Nat → Nat) (w : Nat × Nat × Nat × Nat) (X b many : Nat) (P : PG) (r : Nat → Int) (k : Nat) (A : Nat → Nat → Int) (m : Nat) (nt cr : Nat → Int) (n : Nat) (t : Nat → Int) (fp : Int) (im : Option DS) (pc pu : Nat) {α : Type} (v : α) (res : Option (α × Hp)) : Prop :=
  ∃ I' R' L', res = some (v, (K, I', R', L', N, w)) ∧ RC K I' R' N X b many P r k A m nt cr n t fp im pc pu
theorem RC_fore (h : RC K I R N X b many P r k A m nt cr n t fp im pc pu) : ∃ l, Gd K I R N (b + 14) l many P ∧ Fs K R N (b + 13) (b + 14) (b + 35) (b + 37) (b + 39) ∧ Ld I l P ∧ Zr I (b + 35) ∧ Zr I (b + 37) ∧ (l = b + 2 ∨ l = b + 29) ∧ Dn K I R N (b + 53) (b + 57) nt m ∧ R b 5 = b + 13 := by
  obtain ⟨l, sl, i, sh, pm, ⟨o, g, -, -, -, dk, dn, rf⟩, ok, tp, hi, z1, z2, -⟩ := h
  refine ⟨l, pm.1, sh.2.2.2.2.2.2.2.2.2.2.2.2.1, pm.2.1, z1, z2, ?_, dn, sh.2.2.2.2.1⟩
  have := sh.2.2.2.2.2.2.2.2.2.2.2.1
  omega
theorem RC_PI {I' : Nat → Nat → Int32} {R' : Nat → Nat → Nat} {u : Nat → Int} (h : RC K I R N X b many P r k A m nt cr n t fp im pc pu) (hp : PI (b + 14) (b + 35) I R I' R' u) : RC K I' R' N X b many P r k A m nt cr n t fp im pc pu := by
  obtain ⟨l, -, -, -, z1, z2, -⟩ := RC_fore h
  obtain ⟨⟨g, p1⟩, p2, p3⟩ := hp
  have e38 : I' (b + 37 + 1) = I (b + 37 + 1) := p2 _ (by omega) (by omega)
  exact RC_scr h (fun y hy => p2 y (by unfold sc at hy; omega) (fun e => hy (by unfold sc; omega))) p3 (Zr_of p1) (fun j hj => by rw [e38]; exact z2 j hj)
theorem e_nWh {a mx : Int} (kb : K b = 10) (a1 : -2147483648 ≤ a) (a2 : a < 2147483648) (m1 : 0 ≤ mx) (m2 : mx ≤ 3) : fX12_needWhat b (jI a) (jI mx) (K, I, R, L, N, w) = some (if 0 ≤ a ∧ a ≤ mx then .inr () else .inl 1) := by
  unfold fX12_needWhat fX12_needWhat_9
  rw [o_gd _ kb]
  by_cases c : 0 ≤ a ∧ a ≤ mx
  · rw [if_pos c]
    ((repeat (first | (with_reducible apply q_gd; · (first | assumption | omega)) | (with_reducible apply q_ob; · (first | with_reducible rfl | ((simp (disch := omega) only [jI_lit, jI_neg, jI_add, jI_sub, jI_mul, o_gI, o_gR, o_pI, o_pZ0, o_pZ1, o_pZb, o_pR, o_aI, o_qI, o_aN, tn, va_up_self, va_up_ne, upup, jI_shr1, jI_shr4, jI_shr0, jI_and1, jI_and15, jI_join, jI_240, jI_hi, jF_at, jF_up, jI_max, jI_min, b2_t, b2_f, Bool.not_true, Bool.not_false, eq_self, true_or, or_true]) <;> with_reducible rfl))) | (with_reducible apply q_ob2; · (first | with_reducible rfl | ((simp (disch := omega) only [jI_lit, jI_neg, jI_add, jI_sub, jI_mul, o_gI, o_gR, o_pI, o_pZ0, o_pZ1, o_pZb, o_pR, o_aI, o_qI, o_aN, tn, va_up_self, va_up_ne, upup, jI_shr1, jI_shr4, jI_shr0, jI_and1, jI_and15, jI_join, jI_240, jI_hi, jF_at, jF_up, jI_max, jI_min, b2_t, b2_f, Bool.not_true, Bool.not_false, eq_self, true_or, or_true]) <;> with_reducible rfl))) | (with_reducible apply q_lt; · (first | with_reducible rfl | ((simp (disch := omega) only [jI_lit, jI_neg, jI_add, jI_sub, jI_mul, o_gI, o_gR, o_pI, o_pZ0, o_pZ1, o_pZb, o_pR, o_aI, o_qI, o_aN, tn, va_up_self, va_up_ne, upup, jI_shr1, jI_shr4, jI_shr0, jI_and1, jI_and15, jI_join, jI_240, jI_hi, jF_at, jF_up, jI_max, jI_min, b2_t, b2_f, Bool.not_true, Bool.not_false, eq_self, true_or, or_true]) <;> with_reducible rfl))) | (with_reducible apply q_ifp; · (first | ((simp (disch := omega) only [jI_lit, jI_neg, jI_add, jI_sub, jI_mul, jI_lt, jI_le, jI_eq, va_up_self, va_up_ne, jI_shr1, jI_shr4, jI_shr0, jI_and1, jI_and15, jF_at, tn, b2_t, b2_f, cmp_ge, cmp_gt, cmp_le, cmp_lt, cmp_eq, jL_lit, jL_lt, jL_le, jL_eq]) <;> omega) | omega)) | (with_reducible apply q_ifn; · (first | ((simp (disch := omega) only [jI_lit, jI_neg, jI_add, jI_sub, jI_mul, jI_lt, jI_le, jI_eq, va_up_self, va_up_ne, jI_shr1, jI_shr4, jI_shr0, jI_and1, jI_and15, jF_at, tn, b2_t, b2_f, cmp_ge, cmp_gt, cmp_le, cmp_lt, cmp_eq, jL_lit, jL_lt, jL_le, jL_eq]) <;> omega) | omega)) | (with_reducible apply q_obk; · (first | with_reducible rfl | ((simp (disch := omega) only [jI_lit, jI_neg, jI_add, jI_sub, jI_mul, o_gI, o_gR, o_pI, o_pZ0, o_pZ1, o_pZb, o_pR, o_aI, o_qI, o_aN, tn, va_up_self, va_up_ne, upup, jI_shr1, jI_shr4, jI_shr0, jI_and1, jI_and15, jI_join, jI_240, jI_hi, jF_at, jF_up, jI_max, jI_min, b2_t, b2_f, Bool.not_true, Bool.not_false, eq_self, true_or, or_true]) <;> with_reducible rfl))) | (with_reducible apply q_nz; · (first | ((simp (disch := omega) only [jI_lit, jI_neg, jI_add, jI_sub, jI_mul, jI_lt, jI_le, jI_eq, va_up_self, va_up_ne, jI_shr1, jI_shr4, jI_shr0, jI_and1, jI_and15, jF_at, tn, b2_t, b2_f, cmp_ge, cmp_gt, cmp_le, cmp_lt, cmp_eq, jL_lit, jL_lt, jL_le, jL_eq]) <;> omega) | omega)) | (with_reducible apply q_rz; · (first | exact b2_01 _ | decide)))) <;> (first | with_reducible rfl | ((simp (disch := omega) only [jI_lit, jI_neg, jI_add, jI_sub, jI_mul, o_gI, o_gR, o_pI, o_pZ0, o_pZ1, o_pZb, o_pR, o_aI, o_qI, o_aN, tn, va_up_self, va_up_ne, upup, jI_shr1, jI_shr4, jI_shr0, jI_and1, jI_and15, jI_join, jI_240, jI_hi, jF_at, jF_up, jI_max, jI_min, b2_t, b2_f, Bool.not_true, Bool.not_false, eq_self, true_or, or_true]) <;> with_reducible rfl) | rfl))
  · rw [if_neg c]
    by_cases c2 : a < 0
    · ((repeat (first | (with_reducible apply q_gd; · (first | assumption | omega)) | (with_reducible apply q_ob; · (first | with_reducible rfl | ((simp (disch := omega) only [jI_lit, jI_neg, jI_add, jI_sub, jI_mul, o_gI, o_gR, o_pI, o_pZ0, o_pZ1, o_pZb, o_pR, o_aI, o_qI, o_aN, tn, va_up_self, va_up_ne, upup, jI_shr1, jI_shr4, jI_shr0, jI_and1, jI_and15, jI_join, jI_240, jI_hi, jF_at, jF_up, jI_max, jI_min, b2_t, b2_f, Bool.not_true, Bool.not_false, eq_self, true_or, or_true]) <;> with_reducible rfl))) | (with_reducible apply q_ob2; · (first | with_reducible rfl | ((simp (disch := omega) only [jI_lit, jI_neg, jI_add, jI_sub, jI_mul, o_gI, o_gR, o_pI, o_pZ0, o_pZ1, o_pZb, o_pR, o_aI, o_qI, o_aN, tn, va_up_self, va_up_ne, upup, jI_shr1, jI_shr4, jI_shr0, jI_and1, jI_and15, jI_join, jI_240, jI_hi, jF_at, jF_up, jI_max, jI_min, b2_t, b2_f, Bool.not_true, Bool.not_false, eq_self, true_or, or_true]) <;> with_reducible rfl))) | (with_reducible apply q_lt; · (first | with_reducible rfl | ((simp (disch := omega) only [jI_lit, jI_neg, jI_add, jI_sub, jI_mul, o_gI, o_gR, o_pI, o_pZ0, o_pZ1, o_pZb, o_pR, o_aI, o_qI, o_aN, tn, va_up_self, va_up_ne, upup, jI_shr1, jI_shr4, jI_shr0, jI_and1, jI_and15, jI_join, jI_240, jI_hi, jF_at, jF_up, jI_max, jI_min, b2_t, b2_f, Bool.not_true, Bool.not_false, eq_self, true_or, or_true]) <;> with_reducible rfl))) | (with_reducible apply q_ifp; · (first | ((simp (disch := omega) only [jI_lit, jI_neg, jI_add, jI_sub, jI_mul, jI_lt, jI_le, jI_eq, va_up_self, va_up_ne, jI_shr1, jI_shr4, jI_shr0, jI_and1, jI_and15, jF_at, tn, b2_t, b2_f, cmp_ge, cmp_gt, cmp_le, cmp_lt, cmp_eq, jL_lit, jL_lt, jL_le, jL_eq]) <;> omega) | omega)) | (with_reducible apply q_ifn; · (first | ((simp (disch := omega) only [jI_lit, jI_neg, jI_add, jI_sub, jI_mul, jI_lt, jI_le, jI_eq, va_up_self, va_up_ne, jI_shr1, jI_shr4, jI_shr0, jI_and1, jI_and15, jF_at, tn, b2_t, b2_f, cmp_ge, cmp_gt, cmp_le, cmp_lt, cmp_eq, jL_lit, jL_lt, jL_le, jL_eq]) <;> omega) | omega)) | (with_reducible apply q_obk; · (first | with_reducible rfl | ((simp (disch := omega) only [jI_lit, jI_neg, jI_add, jI_sub, jI_mul, o_gI, o_gR, o_pI, o_pZ0, o_pZ1, o_pZb, o_pR, o_aI, o_qI, o_aN, tn, va_up_self, va_up_ne, upup, jI_shr1, jI_shr4, jI_shr0, jI_and1, jI_and15, jI_join, jI_240, jI_hi, jF_at, jF_up, jI_max, jI_min, b2_t, b2_f, Bool.not_true, Bool.not_false, eq_self, true_or, or_true]) <;> with_reducible rfl))) | (with_reducible apply q_nz; · (first | ((simp (disch := omega) only [jI_lit, jI_neg, jI_add, jI_sub, jI_mul, jI_lt, jI_le, jI_eq, va_up_self, va_up_ne, jI_shr1, jI_shr4, jI_shr0, jI_and1, jI_and15, jF_at, tn, b2_t, b2_f, cmp_ge, cmp_gt, cmp_le, cmp_lt, cmp_eq, jL_lit, jL_lt, jL_le, jL_eq]) <;> omega) | omega)) | (with_reducible apply q_rz; · (first | exact b2_01 _ | decide)))) <;> (first | with_reducible rfl | ((simp (disch := omega) only [jI_lit, jI_neg, jI_add, jI_sub, jI_mul, o_gI, o_gR, o_pI, o_pZ0, o_pZ1, o_pZb, o_pR, o_aI, o_qI, o_aN, tn, va_up_self, va_up_ne, upup, jI_shr1, jI_shr4, jI_shr0, jI_and1, jI_and15, jI_join, jI_240, jI_hi, jF_at, jF_up, jI_max, jI_min, b2_t, b2_f, Bool.not_true, Bool.not_false, eq_self, true_or, or_true]) <;> with_reducible rfl) | rfl))
    · ((repeat (first | (with_reducible apply q_gd; · (first | assumption | omega)) | (with_reducible apply q_ob; · (first | with_reducible rfl | ((simp (disch := omega) only [jI_lit, jI_neg, jI_add, jI_sub, jI_mul, o_gI, o_gR, o_pI, o_pZ0, o_pZ1, o_pZb, o_pR, o_aI, o_qI, o_aN, tn, va_up_self, va_up_ne, upup, jI_shr1, jI_shr4, jI_shr0, jI_and1, jI_and15, jI_join, jI_240, jI_hi, jF_at, jF_up, jI_max, jI_min, b2_t, b2_f, Bool.not_true, Bool.not_false, eq_self, true_or, or_true]) <;> with_reducible rfl))) | (with_reducible apply q_ob2; · (first | with_reducible rfl | ((simp (disch := omega) only [jI_lit, jI_neg, jI_add, jI_sub, jI_mul, o_gI, o_gR, o_pI, o_pZ0, o_pZ1, o_pZb, o_pR, o_aI, o_qI, o_aN, tn, va_up_self, va_up_ne, upup, jI_shr1, jI_shr4, jI_shr0, jI_and1, jI_and15, jI_join, jI_240, jI_hi, jF_at, jF_up, jI_max, jI_min, b2_t, b2_f, Bool.not_true, Bool.not_false, eq_self, true_or, or_true]) <;> with_reducible rfl))) | (with_reducible apply q_lt; · (first | with_reducible rfl | ((simp (disch := omega) only [jI_lit, jI_neg, jI_add, jI_sub, jI_mul, o_gI, o_gR, o_pI, o_pZ0, o_pZ1, o_pZb, o_pR, o_aI, o_qI, o_aN, tn, va_up_self, va_up_ne, upup, jI_shr1, jI_shr4, jI_shr0, jI_and1, jI_and15, jI_join, jI_240, jI_hi, jF_at, jF_up, jI_max, jI_min, b2_t, b2_f, Bool.not_true, Bool.not_false, eq_self, true_or, or_true]) <;> with_reducible rfl))) | (with_reducible apply q_ifp; · (first | ((simp (disch := omega) only [jI_lit, jI_neg, jI_add, jI_sub, jI_mul, jI_lt, jI_le, jI_eq, va_up_self, va_up_ne, jI_shr1, jI_shr4, jI_shr0, jI_and1, jI_and15, jF_at, tn, b2_t, b2_f, cmp_ge, cmp_gt, cmp_le, cmp_lt, cmp_eq, jL_lit, jL_lt, jL_le, jL_eq]) <;> omega) | omega)) | (with_reducible apply q_ifn; · (first | ((simp (disch := omega) only [jI_lit, jI_neg, jI_add, jI_sub, jI_mul, jI_lt, jI_le, jI_eq, va_up_self, va_up_ne, jI_shr1, jI_shr4, jI_shr0, jI_and1, jI_and15, jF_at, tn, b2_t, b2_f, cmp_ge, cmp_gt, cmp_le, cmp_lt, cmp_eq, jL_lit, jL_lt, jL_le, jL_eq]) <;> omega) | omega)) | (with_reducible apply q_obk; · (first | with_reducible rfl | ((simp (disch := omega) only [jI_lit, jI_neg, jI_add, jI_sub, jI_mul, o_gI, o_gR, o_pI, o_pZ0, o_pZ1, o_pZb, o_pR, o_aI, o_qI, o_aN, tn, va_up_self, va_up_ne, upup, jI_shr1, jI_shr4, jI_shr0, jI_and1, jI_and15, jI_join, jI_240, jI_hi, jF_at, jF_up, jI_max, jI_min, b2_t, b2_f, Bool.not_true, Bool.not_false, eq_self, true_or, or_true]) <;> with_reducible rfl))) | (with_reducible apply q_nz; · (first | ((simp (disch := omega) only [jI_lit, jI_neg, jI_add, jI_sub, jI_mul, jI_lt, jI_le, jI_eq, va_up_self, va_up_ne, jI_shr1, jI_shr4, jI_shr0, jI_and1, jI_and15, jF_at, tn, b2_t, b2_f, cmp_ge, cmp_gt, cmp_le, cmp_lt, cmp_eq, jL_lit, jL_lt, jL_le, jL_eq]) <;> omega) | omega)) | (with_reducible apply q_rz; · (first | exact b2_01 _ | decide)))) <;> (first | with_reducible rfl | ((simp (disch := omega) only [jI_lit, jI_neg, jI_add, jI_sub, jI_mul, o_gI, o_gR, o_pI, o_pZ0, o_pZ1, o_pZb, o_pR, o_aI, o_qI, o_aN, tn, va_up_self, va_up_ne, upup, jI_shr1, jI_shr4, jI_shr0, jI_and1, jI_and15, jI_join, jI_240, jI_hi, jF_at, jF_up, jI_max, jI_min, b2_t, b2_f, Bool.not_true, Bool.not_false, eq_self, true_or, or_true]) <;> with_reducible rfl) | rfl))
theorem e_nSt {a : Int} (kb : K b = 10) (a1 : -2147483648 ≤ a) (a2 : a < 2147483648) : fX12_needSteps b (jI a) (K, I, R, L, N, w) = some (if 0 ≤ a ∧ a ≤ 100 then .inr () else .inl 2) := by
  unfold fX12_needSteps fX12_needSteps_10
  rw [o_gd _ kb]
  by_cases c : 0 ≤ a ∧ a ≤ 100
  · rw [if_pos c]
    ((repeat (first | (with_reducible apply q_gd; · (first | assumption | omega)) | (with_reducible apply q_ob; · (first | with_reducible rfl | ((simp (disch := omega) only [jI_lit, jI_neg, jI_add, jI_sub, jI_mul, o_gI, o_gR, o_pI, o_pZ0, o_pZ1, o_pZb, o_pR, o_aI, o_qI, o_aN, tn, va_up_self, va_up_ne, upup, jI_shr1, jI_shr4, jI_shr0, jI_and1, jI_and15, jI_join, jI_240, jI_hi, jF_at, jF_up, jI_max, jI_min, b2_t, b2_f, Bool.not_true, Bool.not_false, eq_self, true_or, or_true]) <;> with_reducible rfl))) | (with_reducible apply q_ob2; · (first | with_reducible rfl | ((simp (disch := omega) only [jI_lit, jI_neg, jI_add, jI_sub, jI_mul, o_gI, o_gR, o_pI, o_pZ0, o_pZ1, o_pZb, o_pR, o_aI, o_qI, o_aN, tn, va_up_self, va_up_ne, upup, jI_shr1, jI_shr4, jI_shr0, jI_and1, jI_and15, jI_join, jI_240, jI_hi, jF_at, jF_up, jI_max, jI_min, b2_t, b2_f, Bool.not_true, Bool.not_false, eq_self, true_or, or_true]) <;> with_reducible rfl))) | (with_reducible apply q_lt; · (first | with_reducible rfl | ((simp (disch := omega) only [jI_lit, jI_neg, jI_add, jI_sub, jI_mul, o_gI, o_gR, o_pI, o_pZ0, o_pZ1, o_pZb, o_pR, o_aI, o_qI, o_aN, tn, va_up_self, va_up_ne, upup, jI_shr1, jI_shr4, jI_shr0, jI_and1, jI_and15, jI_join, jI_240, jI_hi, jF_at, jF_up, jI_max, jI_min, b2_t, b2_f, Bool.not_true, Bool.not_false, eq_self, true_or, or_true]) <;> with_reducible rfl))) | (with_reducible apply q_ifp; · (first | ((simp (disch := omega) only [jI_lit, jI_neg, jI_add, jI_sub, jI_mul, jI_lt, jI_le, jI_eq, va_up_self, va_up_ne, jI_shr1, jI_shr4, jI_shr0, jI_and1, jI_and15, jF_at, tn, b2_t, b2_f, cmp_ge, cmp_gt, cmp_le, cmp_lt, cmp_eq, jL_lit, jL_lt, jL_le, jL_eq]) <;> omega) | omega)) | (with_reducible apply q_ifn; · (first | ((simp (disch := omega) only [jI_lit, jI_neg, jI_add, jI_sub, jI_mul, jI_lt, jI_le, jI_eq, va_up_self, va_up_ne, jI_shr1, jI_shr4, jI_shr0, jI_and1, jI_and15, jF_at, tn, b2_t, b2_f, cmp_ge, cmp_gt, cmp_le, cmp_lt, cmp_eq, jL_lit, jL_lt, jL_le, jL_eq]) <;> omega) | omega)) | (with_reducible apply q_obk; · (first | with_reducible rfl | ((simp (disch := omega) only [jI_lit, jI_neg, jI_add, jI_sub, jI_mul, o_gI, o_gR, o_pI, o_pZ0, o_pZ1, o_pZb, o_pR, o_aI, o_qI, o_aN, tn, va_up_self, va_up_ne, upup, jI_shr1, jI_shr4, jI_shr0, jI_and1, jI_and15, jI_join, jI_240, jI_hi, jF_at, jF_up, jI_max, jI_min, b2_t, b2_f, Bool.not_true, Bool.not_false, eq_self, true_or, or_true]) <;> with_reducible rfl))) | (with_reducible apply q_nz; · (first | ((simp (disch := omega) only [jI_lit, jI_neg, jI_add, jI_sub, jI_mul, jI_lt, jI_le, jI_eq, va_up_self, va_up_ne, jI_shr1, jI_shr4, jI_shr0, jI_and1, jI_and15, jF_at, tn, b2_t, b2_f, cmp_ge, cmp_gt, cmp_le, cmp_lt, cmp_eq, jL_lit, jL_lt, jL_le, jL_eq]) <;> omega) | omega)) | (with_reducible apply q_rz; · (first | exact b2_01 _ | decide)))) <;> (first | with_reducible rfl | ((simp (disch := omega) only [jI_lit, jI_neg, jI_add, jI_sub, jI_mul, o_gI, o_gR, o_pI, o_pZ0, o_pZ1, o_pZb, o_pR, o_aI, o_qI, o_aN, tn, va_up_self, va_up_ne, upup, jI_shr1, jI_shr4, jI_shr0, jI_and1, jI_and15, jI_join, jI_240, jI_hi, jF_at, jF_up, jI_max, jI_min, b2_t, b2_f, Bool.not_true, Bool.not_false, eq_self, true_or, or_true]) <;> with_reducible rfl) | rfl))
  · rw [if_neg c]
    by_cases c2 : a < 0
    · ((repeat (first | (with_reducible apply q_gd; · (first | assumption | omega)) | (with_reducible apply q_ob; · (first | with_reducible rfl | ((simp (disch := omega) only [jI_lit, jI_neg, jI_add, jI_sub, jI_mul, o_gI, o_gR, o_pI, o_pZ0, o_pZ1, o_pZb, o_pR, o_aI, o_qI, o_aN, tn, va_up_self, va_up_ne, upup, jI_shr1, jI_shr4, jI_shr0, jI_and1, jI_and15, jI_join, jI_240, jI_hi, jF_at, jF_up, jI_max, jI_min, b2_t, b2_f, Bool.not_true, Bool.not_false, eq_self, true_or, or_true]) <;> with_reducible rfl))) | (with_reducible apply q_ob2; · (first | with_reducible rfl | ((simp (disch := omega) only [jI_lit, jI_neg, jI_add, jI_sub, jI_mul, o_gI, o_gR, o_pI, o_pZ0, o_pZ1, o_pZb, o_pR, o_aI, o_qI, o_aN, tn, va_up_self, va_up_ne, upup, jI_shr1, jI_shr4, jI_shr0, jI_and1, jI_and15, jI_join, jI_240, jI_hi, jF_at, jF_up, jI_max, jI_min, b2_t, b2_f, Bool.not_true, Bool.not_false, eq_self, true_or, or_true]) <;> with_reducible rfl))) | (with_reducible apply q_lt; · (first | with_reducible rfl | ((simp (disch := omega) only [jI_lit, jI_neg, jI_add, jI_sub, jI_mul, o_gI, o_gR, o_pI, o_pZ0, o_pZ1, o_pZb, o_pR, o_aI, o_qI, o_aN, tn, va_up_self, va_up_ne, upup, jI_shr1, jI_shr4, jI_shr0, jI_and1, jI_and15, jI_join, jI_240, jI_hi, jF_at, jF_up, jI_max, jI_min, b2_t, b2_f, Bool.not_true, Bool.not_false, eq_self, true_or, or_true]) <;> with_reducible rfl))) | (with_reducible apply q_ifp; · (first | ((simp (disch := omega) only [jI_lit, jI_neg, jI_add, jI_sub, jI_mul, jI_lt, jI_le, jI_eq, va_up_self, va_up_ne, jI_shr1, jI_shr4, jI_shr0, jI_and1, jI_and15, jF_at, tn, b2_t, b2_f, cmp_ge, cmp_gt, cmp_le, cmp_lt, cmp_eq, jL_lit, jL_lt, jL_le, jL_eq]) <;> omega) | omega)) | (with_reducible apply q_ifn; · (first | ((simp (disch := omega) only [jI_lit, jI_neg, jI_add, jI_sub, jI_mul, jI_lt, jI_le, jI_eq, va_up_self, va_up_ne, jI_shr1, jI_shr4, jI_shr0, jI_and1, jI_and15, jF_at, tn, b2_t, b2_f, cmp_ge, cmp_gt, cmp_le, cmp_lt, cmp_eq, jL_lit, jL_lt, jL_le, jL_eq]) <;> omega) | omega)) | (with_reducible apply q_obk; · (first | with_reducible rfl | ((simp (disch := omega) only [jI_lit, jI_neg, jI_add, jI_sub, jI_mul, o_gI, o_gR, o_pI, o_pZ0, o_pZ1, o_pZb, o_pR, o_aI, o_qI, o_aN, tn, va_up_self, va_up_ne, upup, jI_shr1, jI_shr4, jI_shr0, jI_and1, jI_and15, jI_join, jI_240, jI_hi, jF_at, jF_up, jI_max, jI_min, b2_t, b2_f, Bool.not_true, Bool.not_false, eq_self, true_or, or_true]) <;> with_reducible rfl))) | (with_reducible apply q_nz; · (first | ((simp (disch := omega) only [jI_lit, jI_neg, jI_add, jI_sub, jI_mul, jI_lt, jI_le, jI_eq, va_up_self, va_up_ne, jI_shr1, jI_shr4, jI_shr0, jI_and1, jI_and15, jF_at, tn, b2_t, b2_f, cmp_ge, cmp_gt, cmp_le, cmp_lt, cmp_eq, jL_lit, jL_lt, jL_le, jL_eq]) <;> omega) | omega)) | (with_reducible apply q_rz; · (first | exact b2_01 _ | decide)))) <;> (first | with_reducible rfl | ((simp (disch := omega) only [jI_lit, jI_neg, jI_add, jI_sub, jI_mul, o_gI, o_gR, o_pI, o_pZ0, o_pZ1, o_pZb, o_pR, o_aI, o_qI, o_aN, tn, va_up_self, va_up_ne, upup, jI_shr1, jI_shr4, jI_shr0, jI_and1, jI_and15, jI_join, jI_240, jI_hi, jF_at, jF_up, jI_max, jI_min, b2_t, b2_f, Bool.not_true, Bool.not_false, eq_self, true_or, or_true]) <;> with_reducible rfl) | rfl))
    · ((repeat (first | (with_reducible apply q_gd; · (first | assumption | omega)) | (with_reducible apply q_ob; · (first | with_reducible rfl | ((simp (disch := omega) only [jI_lit, jI_neg, jI_add, jI_sub, jI_mul, o_gI, o_gR, o_pI, o_pZ0, o_pZ1, o_pZb, o_pR, o_aI, o_qI, o_aN, tn, va_up_self, va_up_ne, upup, jI_shr1, jI_shr4, jI_shr0, jI_and1, jI_and15, jI_join, jI_240, jI_hi, jF_at, jF_up, jI_max, jI_min, b2_t, b2_f, Bool.not_true, Bool.not_false, eq_self, true_or, or_true]) <;> with_reducible rfl))) | (with_reducible apply q_ob2; · (first | with_reducible rfl | ((simp (disch := omega) only [jI_lit, jI_neg, jI_add, jI_sub, jI_mul, o_gI, o_gR, o_pI, o_pZ0, o_pZ1, o_pZb, o_pR, o_aI, o_qI, o_aN, tn, va_up_self, va_up_ne, upup, jI_shr1, jI_shr4, jI_shr0, jI_and1, jI_and15, jI_join, jI_240, jI_hi, jF_at, jF_up, jI_max, jI_min, b2_t, b2_f, Bool.not_true, Bool.not_false, eq_self, true_or, or_true]) <;> with_reducible rfl))) | (with_reducible apply q_lt; · (first | with_reducible rfl | ((simp (disch := omega) only [jI_lit, jI_neg, jI_add, jI_sub, jI_mul, o_gI, o_gR, o_pI, o_pZ0, o_pZ1, o_pZb, o_pR, o_aI, o_qI, o_aN, tn, va_up_self, va_up_ne, upup, jI_shr1, jI_shr4, jI_shr0, jI_and1, jI_and15, jI_join, jI_240, jI_hi, jF_at, jF_up, jI_max, jI_min, b2_t, b2_f, Bool.not_true, Bool.not_false, eq_self, true_or, or_true]) <;> with_reducible rfl))) | (with_reducible apply q_ifp; · (first | ((simp (disch := omega) only [jI_lit, jI_neg, jI_add, jI_sub, jI_mul, jI_lt, jI_le, jI_eq, va_up_self, va_up_ne, jI_shr1, jI_shr4, jI_shr0, jI_and1, jI_and15, jF_at, tn, b2_t, b2_f, cmp_ge, cmp_gt, cmp_le, cmp_lt, cmp_eq, jL_lit, jL_lt, jL_le, jL_eq]) <;> omega) | omega)) | (with_reducible apply q_ifn; · (first | ((simp (disch := omega) only [jI_lit, jI_neg, jI_add, jI_sub, jI_mul, jI_lt, jI_le, jI_eq, va_up_self, va_up_ne, jI_shr1, jI_shr4, jI_shr0, jI_and1, jI_and15, jF_at, tn, b2_t, b2_f, cmp_ge, cmp_gt, cmp_le, cmp_lt, cmp_eq, jL_lit, jL_lt, jL_le, jL_eq]) <;> omega) | omega)) | (with_reducible apply q_obk; · (first | with_reducible rfl | ((simp (disch := omega) only [jI_lit, jI_neg, jI_add, jI_sub, jI_mul, o_gI, o_gR, o_pI, o_pZ0, o_pZ1, o_pZb, o_pR, o_aI, o_qI, o_aN, tn, va_up_self, va_up_ne, upup, jI_shr1, jI_shr4, jI_shr0, jI_and1, jI_and15, jI_join, jI_240, jI_hi, jF_at, jF_up, jI_max, jI_min, b2_t, b2_f, Bool.not_true, Bool.not_false, eq_self, true_or, or_true]) <;> with_reducible rfl))) | (with_reducible apply q_nz; · (first | ((simp (disch := omega) only [jI_lit, jI_neg, jI_add, jI_sub, jI_mul, jI_lt, jI_le, jI_eq, va_up_self, va_up_ne, jI_shr1, jI_shr4, jI_shr0, jI_and1, jI_and15, jF_at, tn, b2_t, b2_f, cmp_ge, cmp_gt, cmp_le, cmp_lt, cmp_eq, jL_lit, jL_lt, jL_le, jL_eq]) <;> omega) | omega)) | (with_reducible apply q_rz; · (first | exact b2_01 _ | decide)))) <;> (first | with_reducible rfl | ((simp (disch := omega) only [jI_lit, jI_neg, jI_add, jI_sub, jI_mul, o_gI, o_gR, o_pI, o_pZ0, o_pZ1, o_pZb, o_pR, o_aI, o_qI, o_aN, tn, va_up_self, va_up_ne, upup, jI_shr1, jI_shr4, jI_shr0, jI_and1, jI_and15, jI_join, jI_240, jI_hi, jF_at, jF_up, jI_max, jI_min, b2_t, b2_f, Bool.not_true, Bool.not_false, eq_self, true_or, or_true]) <;> with_reducible rfl) | rfl))
theorem e_isFd {a l : Int} (a1 : -2147483648 ≤ a) (a2 : a < 2147483648) (l1 : 1 ≤ l) (l2 : l ≤ 64) : fX10_isField (jI a) (jI l) = some (if 0 ≤ a ∧ a + l ≤ 256 then jI 1 else jI 0) := by
  unfold fX10_isField
  by_cases c : 0 ≤ a ∧ a + l ≤ 256
  · rw [if_pos c]
    ((repeat (first | (with_reducible apply q_gd; · (first | assumption | omega)) | (with_reducible apply q_ob; · (first | with_reducible rfl | ((simp (disch := omega) only [jI_lit, jI_neg, jI_add, jI_sub, jI_mul, o_gI, o_gR, o_pI, o_pZ0, o_pZ1, o_pZb, o_pR, o_aI, o_qI, o_aN, tn, va_up_self, va_up_ne, upup, jI_shr1, jI_shr4, jI_shr0, jI_and1, jI_and15, jI_join, jI_240, jI_hi, jF_at, jF_up, jI_max, jI_min, b2_t, b2_f, Bool.not_true, Bool.not_false, eq_self, true_or, or_true]) <;> with_reducible rfl))) | (with_reducible apply q_ob2; · (first | with_reducible rfl | ((simp (disch := omega) only [jI_lit, jI_neg, jI_add, jI_sub, jI_mul, o_gI, o_gR, o_pI, o_pZ0, o_pZ1, o_pZb, o_pR, o_aI, o_qI, o_aN, tn, va_up_self, va_up_ne, upup, jI_shr1, jI_shr4, jI_shr0, jI_and1, jI_and15, jI_join, jI_240, jI_hi, jF_at, jF_up, jI_max, jI_min, b2_t, b2_f, Bool.not_true, Bool.not_false, eq_self, true_or, or_true]) <;> with_reducible rfl))) | (with_reducible apply q_lt; · (first | with_reducible rfl | ((simp (disch := omega) only [jI_lit, jI_neg, jI_add, jI_sub, jI_mul, o_gI, o_gR, o_pI, o_pZ0, o_pZ1, o_pZb, o_pR, o_aI, o_qI, o_aN, tn, va_up_self, va_up_ne, upup, jI_shr1, jI_shr4, jI_shr0, jI_and1, jI_and15, jI_join, jI_240, jI_hi, jF_at, jF_up, jI_max, jI_min, b2_t, b2_f, Bool.not_true, Bool.not_false, eq_self, true_or, or_true]) <;> with_reducible rfl))) | (with_reducible apply q_ifp; · (first | ((simp (disch := omega) only [jI_lit, jI_neg, jI_add, jI_sub, jI_mul, jI_lt, jI_le, jI_eq, va_up_self, va_up_ne, jI_shr1, jI_shr4, jI_shr0, jI_and1, jI_and15, jF_at, tn, b2_t, b2_f, cmp_ge, cmp_gt, cmp_le, cmp_lt, cmp_eq, jL_lit, jL_lt, jL_le, jL_eq]) <;> omega) | omega)) | (with_reducible apply q_ifn; · (first | ((simp (disch := omega) only [jI_lit, jI_neg, jI_add, jI_sub, jI_mul, jI_lt, jI_le, jI_eq, va_up_self, va_up_ne, jI_shr1, jI_shr4, jI_shr0, jI_and1, jI_and15, jF_at, tn, b2_t, b2_f, cmp_ge, cmp_gt, cmp_le, cmp_lt, cmp_eq, jL_lit, jL_lt, jL_le, jL_eq]) <;> omega) | omega)) | (with_reducible apply q_obk; · (first | with_reducible rfl | ((simp (disch := omega) only [jI_lit, jI_neg, jI_add, jI_sub, jI_mul, o_gI, o_gR, o_pI, o_pZ0, o_pZ1, o_pZb, o_pR, o_aI, o_qI, o_aN, tn, va_up_self, va_up_ne, upup, jI_shr1, jI_shr4, jI_shr0, jI_and1, jI_and15, jI_join, jI_240, jI_hi, jF_at, jF_up, jI_max, jI_min, b2_t, b2_f, Bool.not_true, Bool.not_false, eq_self, true_or, or_true]) <;> with_reducible rfl))) | (with_reducible apply q_nz; · (first | ((simp (disch := omega) only [jI_lit, jI_neg, jI_add, jI_sub, jI_mul, jI_lt, jI_le, jI_eq, va_up_self, va_up_ne, jI_shr1, jI_shr4, jI_shr0, jI_and1, jI_and15, jF_at, tn, b2_t, b2_f, cmp_ge, cmp_gt, cmp_le, cmp_lt, cmp_eq, jL_lit, jL_lt, jL_le, jL_eq]) <;> omega) | omega)) | (with_reducible apply q_rz; · (first | exact b2_01 _ | decide)))) <;> (first | with_reducible rfl | ((simp (disch := omega) only [jI_lit, jI_neg, jI_add, jI_sub, jI_mul, o_gI, o_gR, o_pI, o_pZ0, o_pZ1, o_pZb, o_pR, o_aI, o_qI, o_aN, tn, va_up_self, va_up_ne, upup, jI_shr1, jI_shr4, jI_shr0, jI_and1, jI_and15, jI_join, jI_240, jI_hi, jF_at, jF_up, jI_max, jI_min, b2_t, b2_f, Bool.not_true, Bool.not_false, eq_self, true_or, or_true]) <;> with_reducible rfl) | rfl))
  · rw [if_neg c]
    by_cases c2 : a < 0
    · ((repeat (first | (with_reducible apply q_gd; · (first | assumption | omega)) | (with_reducible apply q_ob; · (first | with_reducible rfl | ((simp (disch := omega) only [jI_lit, jI_neg, jI_add, jI_sub, jI_mul, o_gI, o_gR, o_pI, o_pZ0, o_pZ1, o_pZb, o_pR, o_aI, o_qI, o_aN, tn, va_up_self, va_up_ne, upup, jI_shr1, jI_shr4, jI_shr0, jI_and1, jI_and15, jI_join, jI_240, jI_hi, jF_at, jF_up, jI_max, jI_min, b2_t, b2_f, Bool.not_true, Bool.not_false, eq_self, true_or, or_true]) <;> with_reducible rfl))) | (with_reducible apply q_ob2; · (first | with_reducible rfl | ((simp (disch := omega) only [jI_lit, jI_neg, jI_add, jI_sub, jI_mul, o_gI, o_gR, o_pI, o_pZ0, o_pZ1, o_pZb, o_pR, o_aI, o_qI, o_aN, tn, va_up_self, va_up_ne, upup, jI_shr1, jI_shr4, jI_shr0, jI_and1, jI_and15, jI_join, jI_240, jI_hi, jF_at, jF_up, jI_max, jI_min, b2_t, b2_f, Bool.not_true, Bool.not_false, eq_self, true_or, or_true]) <;> with_reducible rfl))) | (with_reducible apply q_lt; · (first | with_reducible rfl | ((simp (disch := omega) only [jI_lit, jI_neg, jI_add, jI_sub, jI_mul, o_gI, o_gR, o_pI, o_pZ0, o_pZ1, o_pZb, o_pR, o_aI, o_qI, o_aN, tn, va_up_self, va_up_ne, upup, jI_shr1, jI_shr4, jI_shr0, jI_and1, jI_and15, jI_join, jI_240, jI_hi, jF_at, jF_up, jI_max, jI_min, b2_t, b2_f, Bool.not_true, Bool.not_false, eq_self, true_or, or_true]) <;> with_reducible rfl))) | (with_reducible apply q_ifp; · (first | ((simp (disch := omega) only [jI_lit, jI_neg, jI_add, jI_sub, jI_mul, jI_lt, jI_le, jI_eq, va_up_self, va_up_ne, jI_shr1, jI_shr4, jI_shr0, jI_and1, jI_and15, jF_at, tn, b2_t, b2_f, cmp_ge, cmp_gt, cmp_le, cmp_lt, cmp_eq, jL_lit, jL_lt, jL_le, jL_eq]) <;> omega) | omega)) | (with_reducible apply q_ifn; · (first | ((simp (disch := omega) only [jI_lit, jI_neg, jI_add, jI_sub, jI_mul, jI_lt, jI_le, jI_eq, va_up_self, va_up_ne, jI_shr1, jI_shr4, jI_shr0, jI_and1, jI_and15, jF_at, tn, b2_t, b2_f, cmp_ge, cmp_gt, cmp_le, cmp_lt, cmp_eq, jL_lit, jL_lt, jL_le, jL_eq]) <;> omega) | omega)) | (with_reducible apply q_obk; · (first | with_reducible rfl | ((simp (disch := omega) only [jI_lit, jI_neg, jI_add, jI_sub, jI_mul, o_gI, o_gR, o_pI, o_pZ0, o_pZ1, o_pZb, o_pR, o_aI, o_qI, o_aN, tn, va_up_self, va_up_ne, upup, jI_shr1, jI_shr4, jI_shr0, jI_and1, jI_and15, jI_join, jI_240, jI_hi, jF_at, jF_up, jI_max, jI_min, b2_t, b2_f, Bool.not_true, Bool.not_false, eq_self, true_or, or_true]) <;> with_reducible rfl))) | (with_reducible apply q_nz; · (first | ((simp (disch := omega) only [jI_lit, jI_neg, jI_add, jI_sub, jI_mul, jI_lt, jI_le, jI_eq, va_up_self, va_up_ne, jI_shr1, jI_shr4, jI_shr0, jI_and1, jI_and15, jF_at, tn, b2_t, b2_f, cmp_ge, cmp_gt, cmp_le, cmp_lt, cmp_eq, jL_lit, jL_lt, jL_le, jL_eq]) <;> omega) | omega)) | (with_reducible apply q_rz; · (first | exact b2_01 _ | decide)))) <;> (first | with_reducible rfl | ((simp (disch := omega) only [jI_lit, jI_neg, jI_add, jI_sub, jI_mul, o_gI, o_gR, o_pI, o_pZ0, o_pZ1, o_pZb, o_pR, o_aI, o_qI, o_aN, tn, va_up_self, va_up_ne, upup, jI_shr1, jI_shr4, jI_shr0, jI_and1, jI_and15, jI_join, jI_240, jI_hi, jF_at, jF_up, jI_max, jI_min, b2_t, b2_f, Bool.not_true, Bool.not_false, eq_self, true_or, or_true]) <;> with_reducible rfl) | rfl))
    · ((repeat (first | (with_reducible apply q_gd; · (first | assumption | omega)) | (with_reducible apply q_ob; · (first | with_reducible rfl | ((simp (disch := omega) only [jI_lit, jI_neg, jI_add, jI_sub, jI_mul, o_gI, o_gR, o_pI, o_pZ0, o_pZ1, o_pZb, o_pR, o_aI, o_qI, o_aN, tn, va_up_self, va_up_ne, upup, jI_shr1, jI_shr4, jI_shr0, jI_and1, jI_and15, jI_join, jI_240, jI_hi, jF_at, jF_up, jI_max, jI_min, b2_t, b2_f, Bool.not_true, Bool.not_false, eq_self, true_or, or_true]) <;> with_reducible rfl))) | (with_reducible apply q_ob2; · (first | with_reducible rfl | ((simp (disch := omega) only [jI_lit, jI_neg, jI_add, jI_sub, jI_mul, o_gI, o_gR, o_pI, o_pZ0, o_pZ1, o_pZb, o_pR, o_aI, o_qI, o_aN, tn, va_up_self, va_up_ne, upup, jI_shr1, jI_shr4, jI_shr0, jI_and1, jI_and15, jI_join, jI_240, jI_hi, jF_at, jF_up, jI_max, jI_min, b2_t, b2_f, Bool.not_true, Bool.not_false, eq_self, true_or, or_true]) <;> with_reducible rfl))) | (with_reducible apply q_lt; · (first | with_reducible rfl | ((simp (disch := omega) only [jI_lit, jI_neg, jI_add, jI_sub, jI_mul, o_gI, o_gR, o_pI, o_pZ0, o_pZ1, o_pZb, o_pR, o_aI, o_qI, o_aN, tn, va_up_self, va_up_ne, upup, jI_shr1, jI_shr4, jI_shr0, jI_and1, jI_and15, jI_join, jI_240, jI_hi, jF_at, jF_up, jI_max, jI_min, b2_t, b2_f, Bool.not_true, Bool.not_false, eq_self, true_or, or_true]) <;> with_reducible rfl))) | (with_reducible apply q_ifp; · (first | ((simp (disch := omega) only [jI_lit, jI_neg, jI_add, jI_sub, jI_mul, jI_lt, jI_le, jI_eq, va_up_self, va_up_ne, jI_shr1, jI_shr4, jI_shr0, jI_and1, jI_and15, jF_at, tn, b2_t, b2_f, cmp_ge, cmp_gt, cmp_le, cmp_lt, cmp_eq, jL_lit, jL_lt, jL_le, jL_eq]) <;> omega) | omega)) | (with_reducible apply q_ifn; · (first | ((simp (disch := omega) only [jI_lit, jI_neg, jI_add, jI_sub, jI_mul, jI_lt, jI_le, jI_eq, va_up_self, va_up_ne, jI_shr1, jI_shr4, jI_shr0, jI_and1, jI_and15, jF_at, tn, b2_t, b2_f, cmp_ge, cmp_gt, cmp_le, cmp_lt, cmp_eq, jL_lit, jL_lt, jL_le, jL_eq]) <;> omega) | omega)) | (with_reducible apply q_obk; · (first | with_reducible rfl | ((simp (disch := omega) only [jI_lit, jI_neg, jI_add, jI_sub, jI_mul, o_gI, o_gR, o_pI, o_pZ0, o_pZ1, o_pZb, o_pR, o_aI, o_qI, o_aN, tn, va_up_self, va_up_ne, upup, jI_shr1, jI_shr4, jI_shr0, jI_and1, jI_and15, jI_join, jI_240, jI_hi, jF_at, jF_up, jI_max, jI_min, b2_t, b2_f, Bool.not_true, Bool.not_false, eq_self, true_or, or_true]) <;> with_reducible rfl))) | (with_reducible apply q_nz; · (first | ((simp (disch := omega) only [jI_lit, jI_neg, jI_add, jI_sub, jI_mul, jI_lt, jI_le, jI_eq, va_up_self, va_up_ne, jI_shr1, jI_shr4, jI_shr0, jI_and1, jI_and15, jF_at, tn, b2_t, b2_f, cmp_ge, cmp_gt, cmp_le, cmp_lt, cmp_eq, jL_lit, jL_lt, jL_le, jL_eq]) <;> omega) | omega)) | (with_reducible apply q_rz; · (first | exact b2_01 _ | decide)))) <;> (first | with_reducible rfl | ((simp (disch := omega) only [jI_lit, jI_neg, jI_add, jI_sub, jI_mul, o_gI, o_gR, o_pI, o_pZ0, o_pZ1, o_pZb, o_pR, o_aI, o_qI, o_aN, tn, va_up_self, va_up_ne, upup, jI_shr1, jI_shr4, jI_shr0, jI_and1, jI_and15, jI_join, jI_240, jI_hi, jF_at, jF_up, jI_max, jI_min, b2_t, b2_f, Bool.not_true, Bool.not_false, eq_self, true_or, or_true]) <;> with_reducible rfl) | rfl))
theorem e_nFd {a l mx : Int} (kb : K b = 10) (a1 : -2147483648 ≤ a) (a2 : a < 2147483648) (l1 : -2147483648 ≤ l) (l2 : l < 2147483648) (m1 : 0 ≤ mx) (m2 : mx ≤ 64) : fX12_needField b (jI a) (jI l) (jI mx) (K, I, R, L, N, w) = some (if 1 ≤ l ∧ l ≤ mx ∧ 0 ≤ a ∧ a + l ≤ 256 then .inr () else .inl 2) := by
  unfold fX12_needField fX12_needField_18
  rw [o_gd _ kb]
  by_cases c0 : l < 1
  · have c : ¬ (1 ≤ l ∧ l ≤ mx ∧ 0 ≤ a ∧ a + l ≤ 256) := by omega
    have x1 : jI l < 1 := by simp (disch := omega) only [jI_lit, jI_neg, jI_add, jI_sub, jI_mul, jI_lt, jI_le, jI_eq, va_up_self, va_up_ne, jI_shr1, jI_shr4, jI_shr0, jI_and1, jI_and15, jF_at, tn, b2_t, b2_f, cmp_ge, cmp_gt, cmp_le, cmp_lt, cmp_eq, jL_lit, jL_lt, jL_le, jL_eq]; omega
    rw [if_neg c, if_pos x1]
  have x1 : ¬ (jI l < 1) := by simp (disch := omega) only [jI_lit, jI_neg, jI_add, jI_sub, jI_mul, jI_lt, jI_le, jI_eq, va_up_self, va_up_ne, jI_shr1, jI_shr4, jI_shr0, jI_and1, jI_and15, jF_at, tn, b2_t, b2_f, cmp_ge, cmp_gt, cmp_le, cmp_lt, cmp_eq, jL_lit, jL_lt, jL_le, jL_eq]; omega
  rw [if_neg x1]
  by_cases c1 : mx < l
  · have c : ¬ (1 ≤ l ∧ l ≤ mx ∧ 0 ≤ a ∧ a + l ≤ 256) := by omega
    have x2 : jI mx < jI l := by simp (disch := omega) only [jI_lit, jI_neg, jI_add, jI_sub, jI_mul, jI_lt, jI_le, jI_eq, va_up_self, va_up_ne, jI_shr1, jI_shr4, jI_shr0, jI_and1, jI_and15, jF_at, tn, b2_t, b2_f, cmp_ge, cmp_gt, cmp_le, cmp_lt, cmp_eq, jL_lit, jL_lt, jL_le, jL_eq]; omega
    rw [if_neg c, if_pos x2]
  have x2 : ¬ (jI mx < jI l) := by simp (disch := omega) only [jI_lit, jI_neg, jI_add, jI_sub, jI_mul, jI_lt, jI_le, jI_eq, va_up_self, va_up_ne, jI_shr1, jI_shr4, jI_shr0, jI_and1, jI_and15, jF_at, tn, b2_t, b2_f, cmp_ge, cmp_gt, cmp_le, cmp_lt, cmp_eq, jL_lit, jL_lt, jL_le, jL_eq]; omega
  rw [if_neg x2, e_isFd a1 a2 (by omega) (by omega), o_ob]
  by_cases c2 : 0 ≤ a ∧ a + l ≤ 256
  · have c : (1 ≤ l ∧ l ≤ mx ∧ 0 ≤ a ∧ a + l ≤ 256) := by omega
    rw [if_pos c2, if_pos c, if_neg (by decide)]
  · have c : ¬ (1 ≤ l ∧ l ≤ mx ∧ 0 ≤ a ∧ a + l ≤ 256) := by omega
    rw [if_neg c2, if_neg c, if_pos (by decide)]
theorem y_Faults {a : Int} (h : RC K I R N X b many P r k A m nt cr n t fp im pc pu) (a1 : -2147483648 ≤ a) (a2 : a < 2147483648) : SCo K N w X b many P r k A m nt cr n t fp im pc pu (if 1 ≤ a ∧ a < 9 then (.inr (jI (up1 (fnd (qFlt P many r a) 0 100))) : Nat ⊕ Int32) else .inl 1) (fX12_faults b (jI a) (K, I, R, L, N, w)) := by
  obtain ⟨kb, r10, kd, rd, hr, ⟨g, hI⟩, ok⟩ := RC_now h
  obtain ⟨l, gd, fs, -, z1, -, -, -, r5⟩ := RC_fore h
  have e := e_nKd (I := I) (R := R) (L := L) (N := N) (w := w) kb a1 a2
  unfold fX12_faults
  rw [o_gd _ kb, e]
  by_cases c : 1 ≤ a ∧ a < 9
  · obtain ⟨I', R', u, e1, hp⟩ := e_firstFault (L := L) (w := w) (kd := a) gd fs hr hI z1 ok (by omega) c.1 (by omega)
    rw [if_pos c, if_pos c, o_oer, o_gR kb, o_ob, r5, o_gR kb, o_ob, r10, o_gR kd, o_ob, rd, e1, o_ob2]
    exact ⟨I', R', L, rfl, RC_PI h hp⟩
  · rw [if_neg c, if_neg c, o_oei]
    exact ⟨I, R, L, rfl, h⟩
theorem y_Halts (h : RC K I R N X b many P r k A m nt cr n t fp im pc pu) : SCo K N w X b many P r k A m nt cr n t fp im pc pu (jI (fnd (qRst P many r) 0 101)) (fX12_halts b (K, I, R, L, N, w)) := by
  obtain ⟨kb, r10, kd, rd, hr, ⟨g, hI⟩, ok⟩ := RC_now h
  obtain ⟨l, gd, fs, -, z1, -, -, -, r5⟩ := RC_fore h
  obtain ⟨I', R', u, e1, hp⟩ := e_firstRest (L := L) (w := w) gd fs hr hI z1 ok (by omega)
  unfold fX12_halts
  rw [o_gd _ kb, o_gR kb, o_ob, r5, o_gR kb, o_ob, r10, o_gR kd, o_ob, rd, e1, o_ob2]
  exact ⟨I', R', L, rfl, RC_PI h hp⟩
theorem y_Changes {a : Int} (h : RC K I R N X b many P r k A m nt cr n t fp im pc pu) (a1 : -2147483648 ≤ a) (a2 : a < 2147483648) : SCo K N w X b many P r k A m nt cr n t fp im pc pu (if 0 ≤ a ∧ a < 256 then (.inr (jI (up1 (fnd (qChg P many r a.toNat) 0 100))) : Nat ⊕ Int32) else .inl 1) (fX12_changes b (jI a) (K, I, R, L, N, w)) := by
  obtain ⟨kb, r10, kd, rd, hr, ⟨g, hI⟩, ok⟩ := RC_now h
  obtain ⟨l, gd, fs, -, z1, -, -, -, r5⟩ := RC_fore h
  have e := e_nPl (I := I) (R := R) (L := L) (N := N) (w := w) kb a1 a2
  unfold fX12_changes
  rw [o_gd _ kb, e]
  by_cases c : 0 ≤ a ∧ a < 256
  · obtain ⟨I', R', u, e1, hp⟩ := e_firstChange (L := L) (w := w) (pl := a.toNat) gd fs ⟨hr, by omega⟩ (by omega) hI z1 ok (by omega) (by omega)
    rw [show ((a.toNat : Nat) : Int) = a by omega] at e1
    rw [if_pos c, if_pos c, o_oer, o_gR kb, o_ob, r5, o_gR kb, o_ob, r10, o_gR kd, o_ob, rd, e1, o_ob2]
    exact ⟨I', R', L, rfl, RC_PI h hp⟩
  · rw [if_neg c, if_neg c, o_oei]
    exact ⟨I, R, L, rfl, h⟩
theorem y_Round (h : RC K I R N X b many P r k A m nt cr n t fp im pc pu) : SCo K N w X b many P r k A m nt cr n t fp im pc pu (jI (up1 (fnd (qRet P many r) 0 100))) (fX12_round b (K, I, R, L, N, w)) := by
  obtain ⟨kb, r10, kd, rd, hr, ⟨g, hI⟩, ok⟩ := RC_now h
  obtain ⟨l, gd, fs, -, z1, -, -, -, r5⟩ := RC_fore h
  obtain ⟨I', R', u, e1, hp⟩ := e_firstReturn (L := L) (w := w) gd fs ⟨hr, by omega⟩ (by omega) hI z1 ok (by omega)
  unfold fX12_round
  rw [o_gd _ kb, o_gR kb, o_ob, r5, o_gR kb, o_ob, r10, o_gR kd, o_ob, rd, e1, o_ob2]
  exact ⟨I', R', L, rfl, RC_PI h hp⟩
theorem e_bhd {a : Int} (h : RC K I R N X b many P r k A m nt cr n t fp im pc pu) (c1 : 0 ≤ a) (c2 : a ≤ 100) : ∃ I' R' g', fX4_behind (b + 13) (b + 54) (jI a) (K, I, R, L, N, w) = some (b + 35, (K, I', R', L, N, w)) ∧ RC K I' R' N X b many P r k A m nt cr n t fp im pc pu ∧ Rw K R' N (b + 35) ∧ I' (b + 35 + 1) = jF (cls (stpN P many a.toNat r) g') := by
  obtain ⟨kb, r10, kd, rd, hr, ⟨g, hI⟩, ok⟩ := RC_now h
  obtain ⟨l, gd, fs, -, z1, -, -, -, r5⟩ := RC_fore h
  obtain ⟨I', R', e1, hp⟩ := e_behind (L := L) (w := w) (n := a.toNat) gd fs hr hI z1 ok (by omega) (by omega)
  rw [show ((a.toNat : Nat) : Int) = a by omega] at e1
  obtain ⟨⟨g', p1⟩, p2, p3⟩ := id hp
  exact ⟨I', R', g', e1, RC_PI h hp, (Ro_fr gd fs.2.2.2.2.2.1 p3).1, p1⟩
theorem y_Then {s a : Int} (h : RC K I R N X b many P r k A m nt cr n t fp im pc pu) (s1 : -2147483648 ≤ s) (s2 : s < 2147483648) (a1 : -2147483648 ≤ a) (a2 : a < 2147483648) : SCo K N w X b many P r k A m nt cr n t fp im pc pu (if 0 ≤ a ∧ a < 256 then (if 0 ≤ s ∧ s ≤ 100 then (.inr (jI (stpN P many s.toNat r a.toNat)) : Nat ⊕ Int32) else .inl 2) else .inl 1) (fX12_then b (jI s) (jI a) (K, I, R, L, N, w)) := by
  obtain ⟨kb, r10, kd, rd, -⟩ := RC_now h
  obtain ⟨l, -, -, -, -, -, -, -, r5⟩ := RC_fore h
  have e := e_nPl (I := I) (R := R) (L := L) (N := N) (w := w) kb a1 a2
  have e2 := e_nSt (I := I) (R := R) (L := L) (N := N) (w := w) kb s1 s2
  unfold fX12_then
  rw [o_gd _ kb, e, e2]
  by_cases c : 0 ≤ a ∧ a < 256
  · by_cases d : 0 ≤ s ∧ s ≤ 100
    · obtain ⟨I', R', g', e1, h', hr', hI'⟩ := e_bhd (L := L) (w := w) h d.1 d.2
      rw [if_pos c, if_pos c, if_pos d, if_pos d, o_oer, o_oer, o_gR kb, o_ob, r5, o_gR kb, o_ob, r10, o_gR kd, o_ob, rd, e1, o_ob2, e_cell hr' c.1 (by omega), o_ob, hI', jF_at, cls_lo (by omega) (by omega)]
      exact ⟨I', R', L, rfl, h'⟩
    · rw [if_pos c, if_pos c, if_neg d, if_neg d, o_oer, o_oei]
      exact ⟨I, R, L, rfl, h⟩
  · rw [if_neg c, if_neg c, o_oei]
    exact ⟨I, R, L, rfl, h⟩
theorem y_Holds {s a : Int} (h : RC K I R N X b many P r k A m nt cr n t fp im pc pu) (s1 : -2147483648 ≤ s) (s2 : s < 2147483648) (a1 : -2147483648 ≤ a) (a2 : a < 2147483648) : SCo K N w X b many P r k A m nt cr n t fp im pc pu (if 0 ≤ a ∧ a < 8 then (if 0 ≤ s ∧ s ≤ 100 then (.inr (jI (stpN P many s.toNat r (256 + a.toNat))) : Nat ⊕ Int32) else .inl 2) else .inl 1) (fX12_holds b (jI s) (jI a) (K, I, R, L, N, w)) := by
  obtain ⟨kb, r10, kd, rd, -⟩ := RC_now h
  obtain ⟨l, -, -, -, -, -, -, -, r5⟩ := RC_fore h
  have e := e_nRg (I := I) (R := R) (L := L) (N := N) (w := w) kb a1 a2
  have e2 := e_nSt (I := I) (R := R) (L := L) (N := N) (w := w) kb s1 s2
  unfold fX12_holds
  rw [o_gd _ kb, e, e2]
  by_cases c : 0 ≤ a ∧ a < 8
  · have ea : (256 : Int32) + jI a = jI (256 + a) := by simp (disch := omega) only [jI_lit, jI_neg, jI_add, jI_sub, jI_mul, o_gI, o_gR, o_pI, o_pZ0, o_pZ1, o_pZb, o_pR, o_aI, o_qI, o_aN, tn, va_up_self, va_up_ne, upup, jI_shr1, jI_shr4, jI_shr0, jI_and1, jI_and15, jI_join, jI_240, jI_hi, jF_at, jF_up, jI_max, jI_min, b2_t, b2_f, Bool.not_true, Bool.not_false, eq_self, true_or, or_true]
    have en : (256 + a).toNat = 256 + a.toNat := by omega
    by_cases d : 0 ≤ s ∧ s ≤ 100
    · obtain ⟨I', R', g', e1, h', hr', hI'⟩ := e_bhd (L := L) (w := w) h d.1 d.2
      rw [if_pos c, if_pos c, if_pos d, if_pos d, o_oer, o_oer, o_gR kb, o_ob, r5, o_gR kb, o_ob, r10, o_gR kd, o_ob, rd, e1, o_ob2, ea, e_cell hr' (by omega) (by omega), o_ob, hI', jF_at, en, cls_lo (by omega) (by omega)]
      exact ⟨I', R', L, rfl, h'⟩
    · rw [if_pos c, if_pos c, if_neg d, if_neg d, o_oer, o_oei]
      exact ⟨I, R, L, rfl, h⟩
  · rw [if_neg c, if_neg c, o_oei]
    exact ⟨I, R, L, rfl, h⟩
/-- where and how a run stands -/
def whr (u : Nat → Int) (a : Int) : Int := if a = 0 then u 265 else if a = 1 then u 264 else if a = 2 then u 276 else u 278
theorem y_Where {s a : Int} (h : RC K I R N X b many P r k A m nt cr n t fp im pc pu) (s1 : -2147483648 ≤ s) (s2 : s < 2147483648) (a1 : -2147483648 ≤ a) (a2 : a < 2147483648) : SCo K N w X b many P r k A m nt cr n t fp im pc pu (if 0 ≤ a ∧ a ≤ 3 then (if 0 ≤ s ∧ s ≤ 100 then (.inr (jI (whr (stpN P many s.toNat r) a)) : Nat ⊕ Int32) else .inl 2) else .inl 1) (fX12_where b (jI s) (jI a) (K, I, R, L, N, w)) := by
  obtain ⟨kb, r10, kd, rd, -⟩ := RC_now h
  obtain ⟨l, -, -, -, -, -, -, -, r5⟩ := RC_fore h
  have e := e_nWh (I := I) (R := R) (L := L) (N := N) (w := w) (mx := 3) kb a1 a2 (by omega) (by omega)
  have e2 := e_nSt (I := I) (R := R) (L := L) (N := N) (w := w) kb s1 s2
  unfold fX12_where
  rw [o_gd _ kb, show (3 : Int32) = jI 3 from rfl, e, e2]
  by_cases c : 0 ≤ a ∧ a ≤ 3
  · by_cases d : 0 ≤ s ∧ s ≤ 100
    · obtain ⟨I', R', g', e1, h', hr', hI'⟩ := e_bhd (L := L) (w := w) h d.1 d.2
      rw [if_pos c, if_pos c, if_pos d, if_pos d, o_oer, o_oer, o_gR kb, o_ob, r5, o_gR kb, o_ob, r10, o_gR kd, o_ob, rd, e1, o_ob2]
      clear e e2 e1
      refine ⟨I', R', L, ?_, h'⟩
      unfold whr
      by_cases x0 : a = 0
      · rw [if_pos (show jI a = 0 by rw [x0]; rfl), if_pos x0, show (265 : Int32) = jI 265 from rfl, e_cell hr' (by omega) (by omega), o_ob, hI', jF_at, cls_lo (by omega) (by omega)]
        rfl
      rw [if_neg (show ¬ jI a = 0 by rw [show (0 : Int32) = jI 0 from rfl, jIe a1 a2 (by omega) (by omega)]; exact x0), if_neg x0]
      by_cases x1 : a = 1
      · rw [if_pos (show jI a = 1 by rw [x1]; rfl), if_pos x1, show (264 : Int32) = jI 264 from rfl, e_cell hr' (by omega) (by omega), o_ob, hI', jF_at, cls_lo (by omega) (by omega)]
        rfl
      rw [if_neg (show ¬ jI a = 1 by rw [show (1 : Int32) = jI 1 from rfl, jIe a1 a2 (by omega) (by omega)]; exact x1), if_neg x1]
      by_cases x2 : a = 2
      · rw [if_pos (show jI a = 2 by rw [x2]; rfl), if_pos x2, show (267 : Int32) = jI 267 from rfl, e_cell hr' (by omega) (by omega), o_ob, hI', jF_at, show (267 : Int).toNat = 267 from rfl, cls_st]
      rw [if_neg (show ¬ jI a = 2 by rw [show (2 : Int32) = jI 2 from rfl, jIe a1 a2 (by omega) (by omega)]; exact x2), if_neg x2, show (277 : Int32) = jI 277 from rfl, e_cell hr' (by omega) (by omega), o_ob, hI', jF_at, cls_tm (by omega) (by omega)]
      rfl
    · rw [if_pos c, if_pos c, if_neg d, if_neg d, o_oer, o_oei]
      exact ⟨I, R, L, rfl, h⟩
  · rw [if_neg c, if_neg c, o_oei]
    exact ⟨I, R, L, rfl, h⟩
theorem y_Spoilt {p l s a : Int} (h : RC K I R N X b many P r k A m nt cr n t fp im pc pu) (p1 : -2147483648 ≤ p) (p2 : p < 2147483648) (l1 : -2147483648 ≤ l) (l2 : l < 2147483648) (s1 : -2147483648 ≤ s) (s2 : s < 2147483648) (a1 : -2147483648 ≤ a) (a2 : a < 2147483648) : SCo K N w X b many P r k A m nt cr n t fp im pc pu (if 0 ≤ a ∧ a ≤ 3 then (if 1 ≤ l ∧ l ≤ 3 ∧ 0 ≤ p ∧ p + l ≤ 256 then (if 1 ≤ s ∧ s ≤ 60 then (.inr (jI (spl P many r s.toNat p.toNat l.toNat a)) : Nat ⊕ Int32) else .inl 2) else .inl 2) else .inl 1) (fX12_spoilt b (jI p) (jI l) (jI s) (jI a) (K, I, R, L, N, w)) := by
  obtain ⟨kb, r10, kd, rd, hr, ⟨g, hI⟩, ok⟩ := RC_now h
  obtain ⟨ll, gd, fs, -, z1, z2, hl, -, r5⟩ := RC_fore h
  have e := e_nWh (I := I) (R := R) (L := L) (N := N) (w := w) (mx := 3) kb a1 a2 (by omega) (by omega)
  have e2 := e_nFd (I := I) (R := R) (L := L) (N := N) (w := w) (mx := 3) kb p1 p2 l1 l2 (by omega) (by omega)
  unfold fX12_spoilt fX12_spoilt_25
  rw [o_gd _ kb, show (3 : Int32) = jI 3 from rfl, e, e2]
  by_cases c : 0 ≤ a ∧ a ≤ 3
  · by_cases d : 1 ≤ l ∧ l ≤ 3 ∧ 0 ≤ p ∧ p + l ≤ 256
    · rw [if_pos c, if_pos c, if_pos d, if_pos d, o_oer, o_oer]
      by_cases f : 1 ≤ s ∧ s ≤ 60
      · obtain ⟨I', R', e1, f1, f2, f3, f4⟩ := e_spoil (L := L) (w := w) (n := s.toNat) (pl := p.toNat) (ln := l.toNat) gd fs ⟨hr, by omega⟩ (by omega) (by omega) (by omega) hI z1 z2 ok (by omega) (by omega) (by omega) c.1 c.2
        rw [show ((p.toNat : Nat) : Int) = p by omega, show ((l.toNat : Nat) : Int) = l by omega, show ((s.toNat : Nat) : Int) = s by omega] at e1
        have x1 : ¬ (jI s < 1) := by simp (disch := omega) only [jI_lit, jI_neg, jI_add, jI_sub, jI_mul, jI_lt, jI_le, jI_eq, va_up_self, va_up_ne, jI_shr1, jI_shr4, jI_shr0, jI_and1, jI_and15, jF_at, tn, b2_t, b2_f, cmp_ge, cmp_gt, cmp_le, cmp_lt, cmp_eq, jL_lit, jL_lt, jL_le, jL_eq]; omega
        have x2 : jI s ≤ 60 := by simp (disch := omega) only [jI_lit, jI_neg, jI_add, jI_sub, jI_mul, jI_lt, jI_le, jI_eq, va_up_self, va_up_ne, jI_shr1, jI_shr4, jI_shr0, jI_and1, jI_and15, jF_at, tn, b2_t, b2_f, cmp_ge, cmp_gt, cmp_le, cmp_lt, cmp_eq, jL_lit, jL_lt, jL_le, jL_eq]; omega
        rw [if_pos f, if_neg x1, if_pos x2, o_gR kb, o_ob, r5, o_gR kb, o_ob, r10, o_gR kd, o_ob, rd, e1, o_ob2]
        refine ⟨I', R', L, rfl, RC_scr h (fun y hy => f1 y ?_ ?_ ?_ ?_) f2 f3 f4⟩
        · unfold sc at hy; omega
        · unfold sc at hy; omega
        · unfold sc at hy; omega
        · unfold sc at hy; omega
      · rw [if_neg f]
        refine ⟨I, R, L, ?_, h⟩
        by_cases x : s < 1
        · have x1 : (jI s < 1) := by simp (disch := omega) only [jI_lit, jI_neg, jI_add, jI_sub, jI_mul, jI_lt, jI_le, jI_eq, va_up_self, va_up_ne, jI_shr1, jI_shr4, jI_shr0, jI_and1, jI_and15, jF_at, tn, b2_t, b2_f, cmp_ge, cmp_gt, cmp_le, cmp_lt, cmp_eq, jL_lit, jL_lt, jL_le, jL_eq]; omega
          rw [if_pos x1]
        · have x1 : ¬ (jI s < 1) := by simp (disch := omega) only [jI_lit, jI_neg, jI_add, jI_sub, jI_mul, jI_lt, jI_le, jI_eq, va_up_self, va_up_ne, jI_shr1, jI_shr4, jI_shr0, jI_and1, jI_and15, jF_at, tn, b2_t, b2_f, cmp_ge, cmp_gt, cmp_le, cmp_lt, cmp_eq, jL_lit, jL_lt, jL_le, jL_eq]; omega
          have x2 : ¬ (jI s ≤ 60) := by simp (disch := omega) only [jI_lit, jI_neg, jI_add, jI_sub, jI_mul, jI_lt, jI_le, jI_eq, va_up_self, va_up_ne, jI_shr1, jI_shr4, jI_shr0, jI_and1, jI_and15, jF_at, tn, b2_t, b2_f, cmp_ge, cmp_gt, cmp_le, cmp_lt, cmp_eq, jL_lit, jL_lt, jL_le, jL_eq]; omega
          rw [if_neg x1, if_neg x2]
    · rw [if_pos c, if_pos c, if_neg d, if_neg d, o_oer, o_oei]
      exact ⟨I, R, L, rfl, h⟩
  · rw [if_neg c, if_neg c, o_oei]
    exact ⟨I, R, L, rfl, h⟩
theorem y_Blamed {p l a : Int} (h : RC K I R N X b many P r k A m nt cr n t fp im pc pu) (p1 : -2147483648 ≤ p) (p2 : p < 2147483648) (l1 : -2147483648 ≤ l) (l2 : l < 2147483648) (a1 : -2147483648 ≤ a) (a2 : a < 2147483648) : SCo K N w X b many P r k A m nt cr n t fp im pc pu (if 0 ≤ a ∧ a ≤ 2 then (if 1 ≤ l ∧ l ≤ 3 ∧ 0 ≤ p ∧ p + l ≤ 256 then (.inr (jI (blm P many nt m r p.toNat l.toNat a)) : Nat ⊕ Int32) else .inl 2) else .inl 1) (fX12_blamed b (jI p) (jI l) (jI a) (K, I, R, L, N, w)) := by
  obtain ⟨kb, r10, kd, rd, hr, ⟨g, hI⟩, ok⟩ := RC_now h
  obtain ⟨ll, gd, fs, -, z1, z2, hl, dn, r5⟩ := RC_fore h
  have e := e_nWh (I := I) (R := R) (L := L) (N := N) (w := w) (mx := 2) kb a1 a2 (by omega) (by omega)
  have e2 := e_nFd (I := I) (R := R) (L := L) (N := N) (w := w) (mx := 3) kb p1 p2 l1 l2 (by omega) (by omega)
  unfold fX12_blamed
  rw [o_gd _ kb, show (2 : Int32) = jI 2 from rfl, show (3 : Int32) = jI 3 from rfl, e, e2]
  by_cases c : 0 ≤ a ∧ a ≤ 2
  · by_cases d : 1 ≤ l ∧ l ≤ 3 ∧ 0 ≤ p ∧ p + l ≤ 256
    · obtain ⟨I', R', e1, f1, f2, f3⟩ := e_blm (L := L) (w := w) (pl := p.toNat) (ln := l.toNat) gd fs ⟨hr, by omega⟩ (by omega) (by omega) hI z1 dn rd (by omega) (by omega) (by omega) (by omega) ok (by omega) (by omega) c.1 c.2
      rw [show ((p.toNat : Nat) : Int) = p by omega, show ((l.toNat : Nat) : Int) = l by omega] at e1
      rw [if_pos c, if_pos c, if_pos d, if_pos d, o_oer, o_oer, o_gR kb, o_ob, r5, o_gR kb, o_ob, r10, e1, o_ob2]
      have e38 : I' (b + 37 + 1) = I (b + 37 + 1) := f1 _ (by omega) (by omega) (by omega)
      refine ⟨I', R', L, rfl, RC_scr h (fun y hy => f1 y ?_ ?_ ?_) f2 f3 (fun j hj => by rw [e38]; exact z2 j hj)⟩
      · unfold sc at hy; omega
      · unfold sc at hy; omega
      · unfold sc at hy; omega
    · rw [if_pos c, if_pos c, if_neg d, if_neg d, o_oer, o_oei]
      exact ⟨I, R, L, rfl, h⟩
  · rw [if_neg c, if_neg c, o_oei]
    exact ⟨I, R, L, rfl, h⟩
theorem y_Years {sd y a : Int} (h : RC K I R N X b many P r k A m nt cr n t fp im pc pu) (y1 : -2147483648 ≤ y) (y2 : y < 2147483648) (a1 : -2147483648 ≤ a) (a2 : a < 2147483648) : SCo K N w X b many P r k A m nt cr n t fp im pc pu (if 0 ≤ a ∧ a ≤ 2 then (if 0 ≤ y ∧ y ≤ 20 then (.inr (jI (agd P many r sd y.toNat a)) : Nat ⊕ Int32) else .inl 2) else .inl 1) (fX12_years b (jI sd) (jI y) (jI a) (K, I, R, L, N, w)) := by
  obtain ⟨kb, r10, kd, rd, hr, ⟨g, hI⟩, ok⟩ := RC_now h
  obtain ⟨ll, gd, fs, ld, z1, z2, hl, dn, r5⟩ := RC_fore h
  have e := e_nWh (I := I) (R := R) (L := L) (N := N) (w := w) (mx := 2) kb a1 a2 (by omega) (by omega)
  unfold fX12_years fX12_years_16
  rw [o_gd _ kb, show (2 : Int32) = jI 2 from rfl, e]
  by_cases c : 0 ≤ a ∧ a ≤ 2
  · rw [if_pos c, if_pos c, o_oer]
    by_cases f : 0 ≤ y ∧ y ≤ 20
    · obtain ⟨I', R', e1, f1, f2, f3⟩ := e_age (L := L) (w := w) (yn := y.toNat) (sd := sd) gd fs ⟨hr, by omega⟩ (by omega) (by omega) hI z1 ld (by omega) (by omega) (by omega) ok (by omega) (by omega) c.1 c.2
      rw [show ((y.toNat : Nat) : Int) = y by omega] at e1
      have x1 : ¬ (jI y < 0) := by simp (disch := omega) only [jI_lit, jI_neg, jI_add, jI_sub, jI_mul, jI_lt, jI_le, jI_eq, va_up_self, va_up_ne, jI_shr1, jI_shr4, jI_shr0, jI_and1, jI_and15, jF_at, tn, b2_t, b2_f, cmp_ge, cmp_gt, cmp_le, cmp_lt, cmp_eq, jL_lit, jL_lt, jL_le, jL_eq]; omega
      have x2 : jI y ≤ 20 := by simp (disch := omega) only [jI_lit, jI_neg, jI_add, jI_sub, jI_mul, jI_lt, jI_le, jI_eq, va_up_self, va_up_ne, jI_shr1, jI_shr4, jI_shr0, jI_and1, jI_and15, jF_at, tn, b2_t, b2_f, cmp_ge, cmp_gt, cmp_le, cmp_lt, cmp_eq, jL_lit, jL_lt, jL_le, jL_eq]; omega
      rw [if_pos f, if_neg x1, if_pos x2, o_gR kb, o_ob, r5, o_gR kb, o_ob, r10, o_gR kd, o_ob, rd, e1, o_ob2]
      have e38 : I' (b + 37 + 1) = I (b + 37 + 1) := f1 _ (by omega) (by omega) (by omega) (by omega)
      refine ⟨I', R', L, rfl, RC_scr h (fun y hy => f1 y ?_ ?_ ?_ ?_) f2 f3 (fun j hj => by rw [e38]; exact z2 j hj)⟩
      · unfold sc at hy; omega
      · unfold sc at hy; omega
      · unfold sc at hy; omega
      · unfold sc at hy; omega
    · rw [if_neg f]
      refine ⟨I, R, L, ?_, h⟩
      by_cases x : y < 0
      · have x1 : (jI y < 0) := by simp (disch := omega) only [jI_lit, jI_neg, jI_add, jI_sub, jI_mul, jI_lt, jI_le, jI_eq, va_up_self, va_up_ne, jI_shr1, jI_shr4, jI_shr0, jI_and1, jI_and15, jF_at, tn, b2_t, b2_f, cmp_ge, cmp_gt, cmp_le, cmp_lt, cmp_eq, jL_lit, jL_lt, jL_le, jL_eq]; omega
        rw [if_pos x1]
      · have x1 : ¬ (jI y < 0) := by simp (disch := omega) only [jI_lit, jI_neg, jI_add, jI_sub, jI_mul, jI_lt, jI_le, jI_eq, va_up_self, va_up_ne, jI_shr1, jI_shr4, jI_shr0, jI_and1, jI_and15, jF_at, tn, b2_t, b2_f, cmp_ge, cmp_gt, cmp_le, cmp_lt, cmp_eq, jL_lit, jL_lt, jL_le, jL_eq]; omega
        have x2 : ¬ (jI y ≤ 20) := by simp (disch := omega) only [jI_lit, jI_neg, jI_add, jI_sub, jI_mul, jI_lt, jI_le, jI_eq, va_up_self, va_up_ne, jI_shr1, jI_shr4, jI_shr0, jI_and1, jI_and15, jF_at, tn, b2_t, b2_f, cmp_ge, cmp_gt, cmp_le, cmp_lt, cmp_eq, jL_lit, jL_lt, jL_le, jL_eq]; omega
        rw [if_neg x1, if_neg x2]
  · rw [if_neg c, if_neg c, o_oei]
    exact ⟨I, R, L, rfl, h⟩
end FCD
