section DK
variable {K : Nat → Nat} {I : Nat → Nat → Int32} {R : Nat → Nat → Nat} {L : Nat → Nat → Int64} {N : Nat → Nat} {w : Nat × Nat × Nat × Nat} {X U C Z : Nat} {Xo Ko : Nat}
/-- a desk's refusals -/
def Rfs (K : Nat → Nat) (I : Nat → Nat → Int32) (R : Nat → Nat → Nat) (N : Nat → Nat) (d rf : Nat) (cr : Nat → Int) : Prop := K d = 2 ∧ R d 6 = rf ∧ K rf = 101 ∧ N rf = 3 ∧ ∀ j, j < 3 → I rf j = jI (cr j)
theorem e_refuse {d rf wh : Nat} {cr : Nat → Int} (h : Rfs K I R N d rf cr) (hw : wh < 3) : fX2_refuse d (jI (wh : Int)) (K, I, R, L, N, w) = some (K, va_up I rf (va_up (I rf) wh (jI (cr wh + 1))), R, L, N, w) := by
  obtain ⟨k2, r6, k1, n1, hc⟩ := h
  have hv := hc wh hw
  have e1 : ((wh : Int)).toNat = wh := by omega
  clear hc
  unfold fX2_refuse
  ((repeat (first | (with_reducible apply q_gd; · (first | assumption | omega)) | (with_reducible apply q_ob; · (first | with_reducible rfl | ((simp (disch := omega) only [jI_lit, jI_neg, jI_add, jI_sub, jI_mul, o_gI, o_gR, o_pI, o_pZ0, o_pZ1, o_pZb, o_pR, o_aI, o_qI, o_aN, tn, va_up_self, va_up_ne, upup, jI_shr1, jI_shr4, jI_shr0, jI_and1, jI_and15, jI_join, jI_240, jI_hi, jF_at, jF_up, jI_max, jI_min, b2_t, b2_f, Bool.not_true, Bool.not_false, eq_self, true_or, or_true, r6, n1, e1, hv]) <;> with_reducible rfl))) | (with_reducible apply q_ob2; · (first | with_reducible rfl | ((simp (disch := omega) only [jI_lit, jI_neg, jI_add, jI_sub, jI_mul, o_gI, o_gR, o_pI, o_pZ0, o_pZ1, o_pZb, o_pR, o_aI, o_qI, o_aN, tn, va_up_self, va_up_ne, upup, jI_shr1, jI_shr4, jI_shr0, jI_and1, jI_and15, jI_join, jI_240, jI_hi, jF_at, jF_up, jI_max, jI_min, b2_t, b2_f, Bool.not_true, Bool.not_false, eq_self, true_or, or_true, r6, n1, e1, hv]) <;> with_reducible rfl))) | (with_reducible apply q_lt; · (first | with_reducible rfl | ((simp (disch := omega) only [jI_lit, jI_neg, jI_add, jI_sub, jI_mul, o_gI, o_gR, o_pI, o_pZ0, o_pZ1, o_pZb, o_pR, o_aI, o_qI, o_aN, tn, va_up_self, va_up_ne, upup, jI_shr1, jI_shr4, jI_shr0, jI_and1, jI_and15, jI_join, jI_240, jI_hi, jF_at, jF_up, jI_max, jI_min, b2_t, b2_f, Bool.not_true, Bool.not_false, eq_self, true_or, or_true, r6, n1, e1, hv]) <;> with_reducible rfl))) | (with_reducible apply q_ifp; · (first | ((simp (disch := omega) only [jI_lit, jI_neg, jI_add, jI_sub, jI_mul, jI_lt, jI_le, jI_eq, va_up_self, va_up_ne, jI_shr1, jI_shr4, jI_shr0, jI_and1, jI_and15, jF_at, tn, b2_t, b2_f, cmp_ge, cmp_gt, cmp_le, cmp_lt, cmp_eq, jL_lit, jL_lt, jL_le, jL_eq, r6, n1, e1, hv]) <;> omega) | omega)) | (with_reducible apply q_ifn; · (first | ((simp (disch := omega) only [jI_lit, jI_neg, jI_add, jI_sub, jI_mul, jI_lt, jI_le, jI_eq, va_up_self, va_up_ne, jI_shr1, jI_shr4, jI_shr0, jI_and1, jI_and15, jF_at, tn, b2_t, b2_f, cmp_ge, cmp_gt, cmp_le, cmp_lt, cmp_eq, jL_lit, jL_lt, jL_le, jL_eq, r6, n1, e1, hv]) <;> omega) | omega)) | (with_reducible apply q_obk; · (first | with_reducible rfl | ((simp (disch := omega) only [jI_lit, jI_neg, jI_add, jI_sub, jI_mul, o_gI, o_gR, o_pI, o_pZ0, o_pZ1, o_pZb, o_pR, o_aI, o_qI, o_aN, tn, va_up_self, va_up_ne, upup, jI_shr1, jI_shr4, jI_shr0, jI_and1, jI_and15, jI_join, jI_240, jI_hi, jF_at, jF_up, jI_max, jI_min, b2_t, b2_f, Bool.not_true, Bool.not_false, eq_self, true_or, or_true, r6, n1, e1, hv]) <;> with_reducible rfl))) | (with_reducible apply q_nz; · (first | ((simp (disch := omega) only [jI_lit, jI_neg, jI_add, jI_sub, jI_mul, jI_lt, jI_le, jI_eq, va_up_self, va_up_ne, jI_shr1, jI_shr4, jI_shr0, jI_and1, jI_and15, jF_at, tn, b2_t, b2_f, cmp_ge, cmp_gt, cmp_le, cmp_lt, cmp_eq, jL_lit, jL_lt, jL_le, jL_eq, r6, n1, e1, hv]) <;> omega) | omega)) | (with_reducible apply q_rz; · (first | exact b2_01 _ | decide)))) <;> (first | with_reducible rfl | ((simp (disch := omega) only [jI_lit, jI_neg, jI_add, jI_sub, jI_mul, o_gI, o_gR, o_pI, o_pZ0, o_pZ1, o_pZb, o_pR, o_aI, o_qI, o_aN, tn, va_up_self, va_up_ne, upup, jI_shr1, jI_shr4, jI_shr0, jI_and1, jI_and15, jI_join, jI_240, jI_hi, jF_at, jF_up, jI_max, jI_min, b2_t, b2_f, Bool.not_true, Bool.not_false, eq_self, true_or, or_true, r6, n1, e1, hv]) <;> with_reducible rfl) | rfl))
theorem e_refused {d rf wh : Nat} {cr : Nat → Int} (h : Rfs K I R N d rf cr) (hw : wh < 3) : fX2_refused d (jI (wh : Int)) (K, I, R, L, N, w) = some (jI (cr wh)) := by
  obtain ⟨k2, r6, k1, n1, hc⟩ := h
  have hv := hc wh hw
  have e1 : ((wh : Int)).toNat = wh := by omega
  clear hc
  unfold fX2_refused
  ((repeat (first | (with_reducible apply q_gd; · (first | assumption | omega)) | (with_reducible apply q_ob; · (first | with_reducible rfl | ((simp (disch := omega) only [jI_lit, jI_neg, jI_add, jI_sub, jI_mul, o_gI, o_gR, o_pI, o_pZ0, o_pZ1, o_pZb, o_pR, o_aI, o_qI, o_aN, tn, va_up_self, va_up_ne, upup, jI_shr1, jI_shr4, jI_shr0, jI_and1, jI_and15, jI_join, jI_240, jI_hi, jF_at, jF_up, jI_max, jI_min, b2_t, b2_f, Bool.not_true, Bool.not_false, eq_self, true_or, or_true, r6, n1, e1, hv]) <;> with_reducible rfl))) | (with_reducible apply q_ob2; · (first | with_reducible rfl | ((simp (disch := omega) only [jI_lit, jI_neg, jI_add, jI_sub, jI_mul, o_gI, o_gR, o_pI, o_pZ0, o_pZ1, o_pZb, o_pR, o_aI, o_qI, o_aN, tn, va_up_self, va_up_ne, upup, jI_shr1, jI_shr4, jI_shr0, jI_and1, jI_and15, jI_join, jI_240, jI_hi, jF_at, jF_up, jI_max, jI_min, b2_t, b2_f, Bool.not_true, Bool.not_false, eq_self, true_or, or_true, r6, n1, e1, hv]) <;> with_reducible rfl))) | (with_reducible apply q_lt; · (first | with_reducible rfl | ((simp (disch := omega) only [jI_lit, jI_neg, jI_add, jI_sub, jI_mul, o_gI, o_gR, o_pI, o_pZ0, o_pZ1, o_pZb, o_pR, o_aI, o_qI, o_aN, tn, va_up_self, va_up_ne, upup, jI_shr1, jI_shr4, jI_shr0, jI_and1, jI_and15, jI_join, jI_240, jI_hi, jF_at, jF_up, jI_max, jI_min, b2_t, b2_f, Bool.not_true, Bool.not_false, eq_self, true_or, or_true, r6, n1, e1, hv]) <;> with_reducible rfl))) | (with_reducible apply q_ifp; · (first | ((simp (disch := omega) only [jI_lit, jI_neg, jI_add, jI_sub, jI_mul, jI_lt, jI_le, jI_eq, va_up_self, va_up_ne, jI_shr1, jI_shr4, jI_shr0, jI_and1, jI_and15, jF_at, tn, b2_t, b2_f, cmp_ge, cmp_gt, cmp_le, cmp_lt, cmp_eq, jL_lit, jL_lt, jL_le, jL_eq, r6, n1, e1, hv]) <;> omega) | omega)) | (with_reducible apply q_ifn; · (first | ((simp (disch := omega) only [jI_lit, jI_neg, jI_add, jI_sub, jI_mul, jI_lt, jI_le, jI_eq, va_up_self, va_up_ne, jI_shr1, jI_shr4, jI_shr0, jI_and1, jI_and15, jF_at, tn, b2_t, b2_f, cmp_ge, cmp_gt, cmp_le, cmp_lt, cmp_eq, jL_lit, jL_lt, jL_le, jL_eq, r6, n1, e1, hv]) <;> omega) | omega)) | (with_reducible apply q_obk; · (first | with_reducible rfl | ((simp (disch := omega) only [jI_lit, jI_neg, jI_add, jI_sub, jI_mul, o_gI, o_gR, o_pI, o_pZ0, o_pZ1, o_pZb, o_pR, o_aI, o_qI, o_aN, tn, va_up_self, va_up_ne, upup, jI_shr1, jI_shr4, jI_shr0, jI_and1, jI_and15, jI_join, jI_240, jI_hi, jF_at, jF_up, jI_max, jI_min, b2_t, b2_f, Bool.not_true, Bool.not_false, eq_self, true_or, or_true, r6, n1, e1, hv]) <;> with_reducible rfl))) | (with_reducible apply q_nz; · (first | ((simp (disch := omega) only [jI_lit, jI_neg, jI_add, jI_sub, jI_mul, jI_lt, jI_le, jI_eq, va_up_self, va_up_ne, jI_shr1, jI_shr4, jI_shr0, jI_and1, jI_and15, jF_at, tn, b2_t, b2_f, cmp_ge, cmp_gt, cmp_le, cmp_lt, cmp_eq, jL_lit, jL_lt, jL_le, jL_eq, r6, n1, e1, hv]) <;> omega) | omega)) | (with_reducible apply q_rz; · (first | exact b2_01 _ | decide)))) <;> (first | with_reducible rfl | ((simp (disch := omega) only [jI_lit, jI_neg, jI_add, jI_sub, jI_mul, o_gI, o_gR, o_pI, o_pZ0, o_pZ1, o_pZb, o_pR, o_aI, o_qI, o_aN, tn, va_up_self, va_up_ne, upup, jI_shr1, jI_shr4, jI_shr0, jI_and1, jI_and15, jI_join, jI_240, jI_hi, jF_at, jF_up, jI_max, jI_min, b2_t, b2_f, Bool.not_true, Bool.not_false, eq_self, true_or, or_true, r6, n1, e1, hv]) <;> with_reducible rfl) | rfl))
theorem e_write {d na m : Nat} {nt : Nat → Int} {a b c : Int} (h : Dn K I R N d na nt m) (hm : m < 8) (a1 : 0 ≤ a) (a2 : a ≤ 60) (b1 : 0 ≤ b) (b2' : b < 256) (c1 : 0 ≤ c) (c2 : c < 256) :
    ∃ I', fX2_write d (jI a) (jI b) (jI c) (K, I, R, L, N, w) = some (K, I', R, L, N, w) ∧ Dn K I' R N d na (va_up (va_up (va_up nt (3 * m) a) (3 * m + 1) b) (3 * m + 2) c) (m + 1) ∧ (∀ y, y ≠ d → y ≠ na → I' y = I y) ∧ (∀ j, j ≠ 5 → I' d j = I d j) := by
  obtain ⟨k2, r4, k1, n1, i5, hnt, hok⟩ := h
  have nda : d ≠ na := fun e => by rw [e, k1] at k2; omega
  obtain ⟨F, hF⟩ : ∃ F, F = va_up (va_up (va_up (I na) (3 * m) (jI a)) (3 * m + 1) (jI b)) (3 * m + 2) (jI c) := ⟨_, rfl⟩
  refine ⟨va_up (va_up I na F) d (va_up (I d) 5 (jI ((m + 1 : Nat) : Int))), ?_, ⟨k2, r4, k1, n1, by rw [va_up_self, va_up_self], fun j hj => ?_, by omega, fun i hi => ?_⟩, fun y y1 y2 => by rw [va_up_ne _ _ y1, va_up_ne _ _ y2], fun j hj => by rw [va_up_self, va_up_ne _ _ hj]⟩
  · have e1 : (3 * (m : Int)).toNat = 3 * m := by omega
    have e2 : (3 * (m : Int) + 1).toNat = 3 * m + 1 := by omega
    have e3 : (3 * (m : Int) + 2).toNat = 3 * m + 2 := by omega
    have e4 : (m : Int) + 1 = ((m + 1 : Nat) : Int) := by omega
    rw [hF]
    clear hnt hok hF
    unfold fX2_write
    ((repeat (first | (with_reducible apply q_gd; · (first | assumption | omega)) | (with_reducible apply q_ob; · (first | with_reducible rfl | ((simp (disch := omega) only [jI_lit, jI_neg, jI_add, jI_sub, jI_mul, o_gI, o_gR, o_pI, o_pZ0, o_pZ1, o_pZb, o_pR, o_aI, o_qI, o_aN, tn, va_up_self, va_up_ne, upup, jI_shr1, jI_shr4, jI_shr0, jI_and1, jI_and15, jI_join, jI_240, jI_hi, jF_at, jF_up, jI_max, jI_min, b2_t, b2_f, Bool.not_true, Bool.not_false, eq_self, true_or, or_true, i5, r4, n1, e1, e2, e3, e4]) <;> with_reducible rfl))) | (with_reducible apply q_ob2; · (first | with_reducible rfl | ((simp (disch := omega) only [jI_lit, jI_neg, jI_add, jI_sub, jI_mul, o_gI, o_gR, o_pI, o_pZ0, o_pZ1, o_pZb, o_pR, o_aI, o_qI, o_aN, tn, va_up_self, va_up_ne, upup, jI_shr1, jI_shr4, jI_shr0, jI_and1, jI_and15, jI_join, jI_240, jI_hi, jF_at, jF_up, jI_max, jI_min, b2_t, b2_f, Bool.not_true, Bool.not_false, eq_self, true_or, or_true, i5, r4, n1, e1, e2, e3, e4]) <;> with_reducible rfl))) | (with_reducible apply q_lt; · (first | with_reducible rfl | ((simp (disch := omega) only [jI_lit, jI_neg, jI_add, jI_sub, jI_mul, o_gI, o_gR, o_pI, o_pZ0, o_pZ1, o_pZb, o_pR, o_aI, o_qI, o_aN, tn, va_up_self, va_up_ne, upup, jI_shr1, jI_shr4, jI_shr0, jI_and1, jI_and15, jI_join, jI_240, jI_hi, jF_at, jF_up, jI_max, jI_min, b2_t, b2_f, Bool.not_true, Bool.not_false, eq_self, true_or, or_true, i5, r4, n1, e1, e2, e3, e4]) <;> with_reducible rfl))) | (with_reducible apply q_ifp; · (first | ((simp (disch := omega) only [jI_lit, jI_neg, jI_add, jI_sub, jI_mul, jI_lt, jI_le, jI_eq, va_up_self, va_up_ne, jI_shr1, jI_shr4, jI_shr0, jI_and1, jI_and15, jF_at, tn, b2_t, b2_f, cmp_ge, cmp_gt, cmp_le, cmp_lt, cmp_eq, jL_lit, jL_lt, jL_le, jL_eq, i5, r4, n1, e1, e2, e3, e4]) <;> omega) | omega)) | (with_reducible apply q_ifn; · (first | ((simp (disch := omega) only [jI_lit, jI_neg, jI_add, jI_sub, jI_mul, jI_lt, jI_le, jI_eq, va_up_self, va_up_ne, jI_shr1, jI_shr4, jI_shr0, jI_and1, jI_and15, jF_at, tn, b2_t, b2_f, cmp_ge, cmp_gt, cmp_le, cmp_lt, cmp_eq, jL_lit, jL_lt, jL_le, jL_eq, i5, r4, n1, e1, e2, e3, e4]) <;> omega) | omega)) | (with_reducible apply q_obk; · (first | with_reducible rfl | ((simp (disch := omega) only [jI_lit, jI_neg, jI_add, jI_sub, jI_mul, o_gI, o_gR, o_pI, o_pZ0, o_pZ1, o_pZb, o_pR, o_aI, o_qI, o_aN, tn, va_up_self, va_up_ne, upup, jI_shr1, jI_shr4, jI_shr0, jI_and1, jI_and15, jI_join, jI_240, jI_hi, jF_at, jF_up, jI_max, jI_min, b2_t, b2_f, Bool.not_true, Bool.not_false, eq_self, true_or, or_true, i5, r4, n1, e1, e2, e3, e4]) <;> with_reducible rfl))) | (with_reducible apply q_nz; · (first | ((simp (disch := omega) only [jI_lit, jI_neg, jI_add, jI_sub, jI_mul, jI_lt, jI_le, jI_eq, va_up_self, va_up_ne, jI_shr1, jI_shr4, jI_shr0, jI_and1, jI_and15, jF_at, tn, b2_t, b2_f, cmp_ge, cmp_gt, cmp_le, cmp_lt, cmp_eq, jL_lit, jL_lt, jL_le, jL_eq, i5, r4, n1, e1, e2, e3, e4]) <;> omega) | omega)) | (with_reducible apply q_rz; · (first | exact b2_01 _ | decide)))) <;> (first | with_reducible rfl | ((simp (disch := omega) only [jI_lit, jI_neg, jI_add, jI_sub, jI_mul, o_gI, o_gR, o_pI, o_pZ0, o_pZ1, o_pZb, o_pR, o_aI, o_qI, o_aN, tn, va_up_self, va_up_ne, upup, jI_shr1, jI_shr4, jI_shr0, jI_and1, jI_and15, jI_join, jI_240, jI_hi, jF_at, jF_up, jI_max, jI_min, b2_t, b2_f, Bool.not_true, Bool.not_false, eq_self, true_or, or_true, i5, r4, n1, e1, e2, e3, e4]) <;> with_reducible rfl) | rfl))
  · rw [va_up_ne _ _ (Ne.symm nda), va_up_self, hF]
    unfold va_up
    by_cases h2 : j = 3 * m + 2
    · rw [if_pos h2, if_pos h2]
    · rw [if_neg h2, if_neg h2]
      by_cases h1 : j = 3 * m + 1
      · rw [if_pos h1, if_pos h1]
      · rw [if_neg h1, if_neg h1]
        by_cases h0 : j = 3 * m
        · rw [if_pos h0, if_pos h0]
        · rw [if_neg h0, if_neg h0]; exact hnt j hj
  · by_cases ci : i = m
    · subst ci
      rw [va_up_ne _ _ (show 3 * i ≠ 3 * i + 2 by omega), va_up_ne _ _ (show 3 * i ≠ 3 * i + 1 by omega), va_up_self, va_up_ne _ _ (show 3 * i + 1 ≠ 3 * i + 2 by omega), va_up_self, va_up_self]
      exact ⟨⟨a1, a2⟩, ⟨b1, b2'⟩, ⟨c1, c2⟩⟩
    · have := hok.2 i (by omega)
      rw [va_up_ne _ _ (show 3 * i ≠ 3 * m + 2 by omega), va_up_ne _ _ (show 3 * i ≠ 3 * m + 1 by omega), va_up_ne _ _ (show 3 * i ≠ 3 * m by omega), va_up_ne _ _ (show 3 * i + 1 ≠ 3 * m + 2 by omega), va_up_ne _ _ (show 3 * i + 1 ≠ 3 * m + 1 by omega), va_up_ne _ _ (show 3 * i + 1 ≠ 3 * m by omega), va_up_ne _ _ (show 3 * i + 2 ≠ 3 * m + 2 by omega), va_up_ne _ _ (show 3 * i + 2 ≠ 3 * m + 1 by omega), va_up_ne _ _ (show 3 * i + 2 ≠ 3 * m by omega)]
      exact this
theorem e_wipe {d : Nat} (k2 : K d = 2) : fX2_wipe d (K, I, R, L, N, w) = some (K, va_up I d (va_up (I d) 5 (jI 0)), R, L, N, w) := by
  unfold fX2_wipe
  ((repeat (first | (with_reducible apply q_gd; · (first | assumption | omega)) | (with_reducible apply q_ob; · (first | with_reducible rfl | ((simp (disch := omega) only [jI_lit, jI_neg, jI_add, jI_sub, jI_mul, o_gI, o_gR, o_pI, o_pZ0, o_pZ1, o_pZb, o_pR, o_aI, o_qI, o_aN, tn, va_up_self, va_up_ne, upup, jI_shr1, jI_shr4, jI_shr0, jI_and1, jI_and15, jI_join, jI_240, jI_hi, jF_at, jF_up, jI_max, jI_min, b2_t, b2_f, Bool.not_true, Bool.not_false, eq_self, true_or, or_true]) <;> with_reducible rfl))) | (with_reducible apply q_ob2; · (first | with_reducible rfl | ((simp (disch := omega) only [jI_lit, jI_neg, jI_add, jI_sub, jI_mul, o_gI, o_gR, o_pI, o_pZ0, o_pZ1, o_pZb, o_pR, o_aI, o_qI, o_aN, tn, va_up_self, va_up_ne, upup, jI_shr1, jI_shr4, jI_shr0, jI_and1, jI_and15, jI_join, jI_240, jI_hi, jF_at, jF_up, jI_max, jI_min, b2_t, b2_f, Bool.not_true, Bool.not_false, eq_self, true_or, or_true]) <;> with_reducible rfl))) | (with_reducible apply q_lt; · (first | with_reducible rfl | ((simp (disch := omega) only [jI_lit, jI_neg, jI_add, jI_sub, jI_mul, o_gI, o_gR, o_pI, o_pZ0, o_pZ1, o_pZb, o_pR, o_aI, o_qI, o_aN, tn, va_up_self, va_up_ne, upup, jI_shr1, jI_shr4, jI_shr0, jI_and1, jI_and15, jI_join, jI_240, jI_hi, jF_at, jF_up, jI_max, jI_min, b2_t, b2_f, Bool.not_true, Bool.not_false, eq_self, true_or, or_true]) <;> with_reducible rfl))) | (with_reducible apply q_ifp; · (first | ((simp (disch := omega) only [jI_lit, jI_neg, jI_add, jI_sub, jI_mul, jI_lt, jI_le, jI_eq, va_up_self, va_up_ne, jI_shr1, jI_shr4, jI_shr0, jI_and1, jI_and15, jF_at, tn, b2_t, b2_f, cmp_ge, cmp_gt, cmp_le, cmp_lt, cmp_eq, jL_lit, jL_lt, jL_le, jL_eq]) <;> omega) | omega)) | (with_reducible apply q_ifn; · (first | ((simp (disch := omega) only [jI_lit, jI_neg, jI_add, jI_sub, jI_mul, jI_lt, jI_le, jI_eq, va_up_self, va_up_ne, jI_shr1, jI_shr4, jI_shr0, jI_and1, jI_and15, jF_at, tn, b2_t, b2_f, cmp_ge, cmp_gt, cmp_le, cmp_lt, cmp_eq, jL_lit, jL_lt, jL_le, jL_eq]) <;> omega) | omega)) | (with_reducible apply q_obk; · (first | with_reducible rfl | ((simp (disch := omega) only [jI_lit, jI_neg, jI_add, jI_sub, jI_mul, o_gI, o_gR, o_pI, o_pZ0, o_pZ1, o_pZb, o_pR, o_aI, o_qI, o_aN, tn, va_up_self, va_up_ne, upup, jI_shr1, jI_shr4, jI_shr0, jI_and1, jI_and15, jI_join, jI_240, jI_hi, jF_at, jF_up, jI_max, jI_min, b2_t, b2_f, Bool.not_true, Bool.not_false, eq_self, true_or, or_true]) <;> with_reducible rfl))) | (with_reducible apply q_nz; · (first | ((simp (disch := omega) only [jI_lit, jI_neg, jI_add, jI_sub, jI_mul, jI_lt, jI_le, jI_eq, va_up_self, va_up_ne, jI_shr1, jI_shr4, jI_shr0, jI_and1, jI_and15, jF_at, tn, b2_t, b2_f, cmp_ge, cmp_gt, cmp_le, cmp_lt, cmp_eq, jL_lit, jL_lt, jL_le, jL_eq]) <;> omega) | omega)) | (with_reducible apply q_rz; · (first | exact b2_01 _ | decide)))) <;> (first | with_reducible rfl | ((simp (disch := omega) only [jI_lit, jI_neg, jI_add, jI_sub, jI_mul, o_gI, o_gR, o_pI, o_pZ0, o_pZ1, o_pZb, o_pR, o_aI, o_qI, o_aN, tn, va_up_self, va_up_ne, upup, jI_shr1, jI_shr4, jI_shr0, jI_and1, jI_and15, jI_join, jI_240, jI_hi, jF_at, jF_up, jI_max, jI_min, b2_t, b2_f, Bool.not_true, Bool.not_false, eq_self, true_or, or_true]) <;> with_reducible rfl) | rfl))
theorem e_kept {d k : Nat} (k2 : K d = 2) (h : I d 3 = jI (k : Int)) : fX2_kept d (K, I, R, L, N, w) = some (jI (k : Int)) := by
  unfold fX2_kept
  ((repeat (first | (with_reducible apply q_gd; · (first | assumption | omega)) | (with_reducible apply q_ob; · (first | with_reducible rfl | ((simp (disch := omega) only [jI_lit, jI_neg, jI_add, jI_sub, jI_mul, o_gI, o_gR, o_pI, o_pZ0, o_pZ1, o_pZb, o_pR, o_aI, o_qI, o_aN, tn, va_up_self, va_up_ne, upup, jI_shr1, jI_shr4, jI_shr0, jI_and1, jI_and15, jI_join, jI_240, jI_hi, jF_at, jF_up, jI_max, jI_min, b2_t, b2_f, Bool.not_true, Bool.not_false, eq_self, true_or, or_true, h]) <;> with_reducible rfl))) | (with_reducible apply q_ob2; · (first | with_reducible rfl | ((simp (disch := omega) only [jI_lit, jI_neg, jI_add, jI_sub, jI_mul, o_gI, o_gR, o_pI, o_pZ0, o_pZ1, o_pZb, o_pR, o_aI, o_qI, o_aN, tn, va_up_self, va_up_ne, upup, jI_shr1, jI_shr4, jI_shr0, jI_and1, jI_and15, jI_join, jI_240, jI_hi, jF_at, jF_up, jI_max, jI_min, b2_t, b2_f, Bool.not_true, Bool.not_false, eq_self, true_or, or_true, h]) <;> with_reducible rfl))) | (with_reducible apply q_lt; · (first | with_reducible rfl | ((simp (disch := omega) only [jI_lit, jI_neg, jI_add, jI_sub, jI_mul, o_gI, o_gR, o_pI, o_pZ0, o_pZ1, o_pZb, o_pR, o_aI, o_qI, o_aN, tn, va_up_self, va_up_ne, upup, jI_shr1, jI_shr4, jI_shr0, jI_and1, jI_and15, jI_join, jI_240, jI_hi, jF_at, jF_up, jI_max, jI_min, b2_t, b2_f, Bool.not_true, Bool.not_false, eq_self, true_or, or_true, h]) <;> with_reducible rfl))) | (with_reducible apply q_ifp; · (first | ((simp (disch := omega) only [jI_lit, jI_neg, jI_add, jI_sub, jI_mul, jI_lt, jI_le, jI_eq, va_up_self, va_up_ne, jI_shr1, jI_shr4, jI_shr0, jI_and1, jI_and15, jF_at, tn, b2_t, b2_f, cmp_ge, cmp_gt, cmp_le, cmp_lt, cmp_eq, jL_lit, jL_lt, jL_le, jL_eq, h]) <;> omega) | omega)) | (with_reducible apply q_ifn; · (first | ((simp (disch := omega) only [jI_lit, jI_neg, jI_add, jI_sub, jI_mul, jI_lt, jI_le, jI_eq, va_up_self, va_up_ne, jI_shr1, jI_shr4, jI_shr0, jI_and1, jI_and15, jF_at, tn, b2_t, b2_f, cmp_ge, cmp_gt, cmp_le, cmp_lt, cmp_eq, jL_lit, jL_lt, jL_le, jL_eq, h]) <;> omega) | omega)) | (with_reducible apply q_obk; · (first | with_reducible rfl | ((simp (disch := omega) only [jI_lit, jI_neg, jI_add, jI_sub, jI_mul, o_gI, o_gR, o_pI, o_pZ0, o_pZ1, o_pZb, o_pR, o_aI, o_qI, o_aN, tn, va_up_self, va_up_ne, upup, jI_shr1, jI_shr4, jI_shr0, jI_and1, jI_and15, jI_join, jI_240, jI_hi, jF_at, jF_up, jI_max, jI_min, b2_t, b2_f, Bool.not_true, Bool.not_false, eq_self, true_or, or_true, h]) <;> with_reducible rfl))) | (with_reducible apply q_nz; · (first | ((simp (disch := omega) only [jI_lit, jI_neg, jI_add, jI_sub, jI_mul, jI_lt, jI_le, jI_eq, va_up_self, va_up_ne, jI_shr1, jI_shr4, jI_shr0, jI_and1, jI_and15, jF_at, tn, b2_t, b2_f, cmp_ge, cmp_gt, cmp_le, cmp_lt, cmp_eq, jL_lit, jL_lt, jL_le, jL_eq, h]) <;> omega) | omega)) | (with_reducible apply q_rz; · (first | exact b2_01 _ | decide)))) <;> (first | with_reducible rfl | ((simp (disch := omega) only [jI_lit, jI_neg, jI_add, jI_sub, jI_mul, o_gI, o_gR, o_pI, o_pZ0, o_pZ1, o_pZb, o_pR, o_aI, o_qI, o_aN, tn, va_up_self, va_up_ne, upup, jI_shr1, jI_shr4, jI_shr0, jI_and1, jI_and15, jI_join, jI_240, jI_hi, jF_at, jF_up, jI_max, jI_min, b2_t, b2_f, Bool.not_true, Bool.not_false, eq_self, true_or, or_true, h]) <;> with_reducible rfl) | rfl))
theorem e_noted {d k : Nat} (k2 : K d = 2) (h : I d 5 = jI (k : Int)) : fX2_noted d (K, I, R, L, N, w) = some (jI (k : Int)) := by
  unfold fX2_noted
  ((repeat (first | (with_reducible apply q_gd; · (first | assumption | omega)) | (with_reducible apply q_ob; · (first | with_reducible rfl | ((simp (disch := omega) only [jI_lit, jI_neg, jI_add, jI_sub, jI_mul, o_gI, o_gR, o_pI, o_pZ0, o_pZ1, o_pZb, o_pR, o_aI, o_qI, o_aN, tn, va_up_self, va_up_ne, upup, jI_shr1, jI_shr4, jI_shr0, jI_and1, jI_and15, jI_join, jI_240, jI_hi, jF_at, jF_up, jI_max, jI_min, b2_t, b2_f, Bool.not_true, Bool.not_false, eq_self, true_or, or_true, h]) <;> with_reducible rfl))) | (with_reducible apply q_ob2; · (first | with_reducible rfl | ((simp (disch := omega) only [jI_lit, jI_neg, jI_add, jI_sub, jI_mul, o_gI, o_gR, o_pI, o_pZ0, o_pZ1, o_pZb, o_pR, o_aI, o_qI, o_aN, tn, va_up_self, va_up_ne, upup, jI_shr1, jI_shr4, jI_shr0, jI_and1, jI_and15, jI_join, jI_240, jI_hi, jF_at, jF_up, jI_max, jI_min, b2_t, b2_f, Bool.not_true, Bool.not_false, eq_self, true_or, or_true, h]) <;> with_reducible rfl))) | (with_reducible apply q_lt; · (first | with_reducible rfl | ((simp (disch := omega) only [jI_lit, jI_neg, jI_add, jI_sub, jI_mul, o_gI, o_gR, o_pI, o_pZ0, o_pZ1, o_pZb, o_pR, o_aI, o_qI, o_aN, tn, va_up_self, va_up_ne, upup, jI_shr1, jI_shr4, jI_shr0, jI_and1, jI_and15, jI_join, jI_240, jI_hi, jF_at, jF_up, jI_max, jI_min, b2_t, b2_f, Bool.not_true, Bool.not_false, eq_self, true_or, or_true, h]) <;> with_reducible rfl))) | (with_reducible apply q_ifp; · (first | ((simp (disch := omega) only [jI_lit, jI_neg, jI_add, jI_sub, jI_mul, jI_lt, jI_le, jI_eq, va_up_self, va_up_ne, jI_shr1, jI_shr4, jI_shr0, jI_and1, jI_and15, jF_at, tn, b2_t, b2_f, cmp_ge, cmp_gt, cmp_le, cmp_lt, cmp_eq, jL_lit, jL_lt, jL_le, jL_eq, h]) <;> omega) | omega)) | (with_reducible apply q_ifn; · (first | ((simp (disch := omega) only [jI_lit, jI_neg, jI_add, jI_sub, jI_mul, jI_lt, jI_le, jI_eq, va_up_self, va_up_ne, jI_shr1, jI_shr4, jI_shr0, jI_and1, jI_and15, jF_at, tn, b2_t, b2_f, cmp_ge, cmp_gt, cmp_le, cmp_lt, cmp_eq, jL_lit, jL_lt, jL_le, jL_eq, h]) <;> omega) | omega)) | (with_reducible apply q_obk; · (first | with_reducible rfl | ((simp (disch := omega) only [jI_lit, jI_neg, jI_add, jI_sub, jI_mul, o_gI, o_gR, o_pI, o_pZ0, o_pZ1, o_pZb, o_pR, o_aI, o_qI, o_aN, tn, va_up_self, va_up_ne, upup, jI_shr1, jI_shr4, jI_shr0, jI_and1, jI_and15, jI_join, jI_240, jI_hi, jF_at, jF_up, jI_max, jI_min, b2_t, b2_f, Bool.not_true, Bool.not_false, eq_self, true_or, or_true, h]) <;> with_reducible rfl))) | (with_reducible apply q_nz; · (first | ((simp (disch := omega) only [jI_lit, jI_neg, jI_add, jI_sub, jI_mul, jI_lt, jI_le, jI_eq, va_up_self, va_up_ne, jI_shr1, jI_shr4, jI_shr0, jI_and1, jI_and15, jF_at, tn, b2_t, b2_f, cmp_ge, cmp_gt, cmp_le, cmp_lt, cmp_eq, jL_lit, jL_lt, jL_le, jL_eq, h]) <;> omega) | omega)) | (with_reducible apply q_rz; · (first | exact b2_01 _ | decide)))) <;> (first | with_reducible rfl | ((simp (disch := omega) only [jI_lit, jI_neg, jI_add, jI_sub, jI_mul, o_gI, o_gR, o_pI, o_pZ0, o_pZ1, o_pZb, o_pR, o_aI, o_qI, o_aN, tn, va_up_self, va_up_ne, upup, jI_shr1, jI_shr4, jI_shr0, jI_and1, jI_and15, jI_join, jI_240, jI_hi, jF_at, jF_up, jI_max, jI_min, b2_t, b2_f, Bool.not_true, Bool.not_false, eq_self, true_or, or_true, h]) <;> with_reducible rfl) | rfl))
theorem e_drenew {d nw l many : Nat} {P : PG} (k2 : K d = 2) (hd0 : R d 0 = nw) (hr : Rw K R N nw) (hz : Zr I nw) (k6 : K l = 6) (r1 : R l 1 = l + 2) (kl2 : K (l + 2) = 101) (n2 : N (l + 2) = 256) (i2 : I l 2 = jI (many : Int)) (hm : many ≤ 60) (hl : ∀ j, j < 256 → I (l + 2) j = jI (P 7 j)) (hla : l + 2 ≠ nw + 1) :
    ∃ I', fX2_renew d l (K, I, R, L, N, w) = some (K, I', R, L, N, w) ∧ I' (nw + 1) = jF (cls (bgn P many emp) (fun _ => 0)) ∧ I' d 2 = jI 0 ∧ I' d 3 = jI 0 ∧ I' d 5 = jI 0 ∧ (∀ y, y ≠ d → y ≠ nw + 1 → I' y = I y) ∧ (∀ j, j ≠ 2 → j ≠ 3 → j ≠ 5 → I' d j = I d j) := by
  have kq := hr.2.2.1
  have nd : d ≠ nw + 1 := fun e => by rw [e, kq] at k2; omega
  have er := e_rnew (L := L) (w := w) (P := P) hr hz k6 r1 kl2 n2 i2 hm hl hla (fun e => by rw [e, kq] at k6; omega)
  refine ⟨va_up (va_up I (nw + 1) (jF (cls (bgn P many emp) (fun _ => 0)))) d (va_up (va_up (va_up (I d) 2 (jI 0)) 3 (jI 0)) 5 (jI 0)), ?_, ?_, ?_, ?_, ?_, fun y y1 y2 => by rw [va_up_ne _ _ y1, va_up_ne _ _ y2], fun j j1 j2 j3 => by rw [va_up_self, va_up_ne _ _ j3, va_up_ne _ _ j2, va_up_ne _ _ j1]⟩
  · clear hl hz hr
    unfold fX2_renew
    ((repeat (first | (with_reducible apply q_gd; · (first | assumption | omega)) | (with_reducible apply q_ob; · (first | with_reducible rfl | ((simp (disch := omega) only [jI_lit, jI_neg, jI_add, jI_sub, jI_mul, o_gI, o_gR, o_pI, o_pZ0, o_pZ1, o_pZb, o_pR, o_aI, o_qI, o_aN, tn, va_up_self, va_up_ne, upup, jI_shr1, jI_shr4, jI_shr0, jI_and1, jI_and15, jI_join, jI_240, jI_hi, jF_at, jF_up, jI_max, jI_min, b2_t, b2_f, Bool.not_true, Bool.not_false, eq_self, true_or, or_true, hd0, er]) <;> with_reducible rfl))) | (with_reducible apply q_ob2; · (first | with_reducible rfl | ((simp (disch := omega) only [jI_lit, jI_neg, jI_add, jI_sub, jI_mul, o_gI, o_gR, o_pI, o_pZ0, o_pZ1, o_pZb, o_pR, o_aI, o_qI, o_aN, tn, va_up_self, va_up_ne, upup, jI_shr1, jI_shr4, jI_shr0, jI_and1, jI_and15, jI_join, jI_240, jI_hi, jF_at, jF_up, jI_max, jI_min, b2_t, b2_f, Bool.not_true, Bool.not_false, eq_self, true_or, or_true, hd0, er]) <;> with_reducible rfl))) | (with_reducible apply q_lt; · (first | with_reducible rfl | ((simp (disch := omega) only [jI_lit, jI_neg, jI_add, jI_sub, jI_mul, o_gI, o_gR, o_pI, o_pZ0, o_pZ1, o_pZb, o_pR, o_aI, o_qI, o_aN, tn, va_up_self, va_up_ne, upup, jI_shr1, jI_shr4, jI_shr0, jI_and1, jI_and15, jI_join, jI_240, jI_hi, jF_at, jF_up, jI_max, jI_min, b2_t, b2_f, Bool.not_true, Bool.not_false, eq_self, true_or, or_true, hd0, er]) <;> with_reducible rfl))) | (with_reducible apply q_ifp; · (first | ((simp (disch := omega) only [jI_lit, jI_neg, jI_add, jI_sub, jI_mul, jI_lt, jI_le, jI_eq, va_up_self, va_up_ne, jI_shr1, jI_shr4, jI_shr0, jI_and1, jI_and15, jF_at, tn, b2_t, b2_f, cmp_ge, cmp_gt, cmp_le, cmp_lt, cmp_eq, jL_lit, jL_lt, jL_le, jL_eq, hd0, er]) <;> omega) | omega)) | (with_reducible apply q_ifn; · (first | ((simp (disch := omega) only [jI_lit, jI_neg, jI_add, jI_sub, jI_mul, jI_lt, jI_le, jI_eq, va_up_self, va_up_ne, jI_shr1, jI_shr4, jI_shr0, jI_and1, jI_and15, jF_at, tn, b2_t, b2_f, cmp_ge, cmp_gt, cmp_le, cmp_lt, cmp_eq, jL_lit, jL_lt, jL_le, jL_eq, hd0, er]) <;> omega) | omega)) | (with_reducible apply q_obk; · (first | with_reducible rfl | ((simp (disch := omega) only [jI_lit, jI_neg, jI_add, jI_sub, jI_mul, o_gI, o_gR, o_pI, o_pZ0, o_pZ1, o_pZb, o_pR, o_aI, o_qI, o_aN, tn, va_up_self, va_up_ne, upup, jI_shr1, jI_shr4, jI_shr0, jI_and1, jI_and15, jI_join, jI_240, jI_hi, jF_at, jF_up, jI_max, jI_min, b2_t, b2_f, Bool.not_true, Bool.not_false, eq_self, true_or, or_true, hd0, er]) <;> with_reducible rfl))) | (with_reducible apply q_nz; · (first | ((simp (disch := omega) only [jI_lit, jI_neg, jI_add, jI_sub, jI_mul, jI_lt, jI_le, jI_eq, va_up_self, va_up_ne, jI_shr1, jI_shr4, jI_shr0, jI_and1, jI_and15, jF_at, tn, b2_t, b2_f, cmp_ge, cmp_gt, cmp_le, cmp_lt, cmp_eq, jL_lit, jL_lt, jL_le, jL_eq, hd0, er]) <;> omega) | omega)) | (with_reducible apply q_rz; · (first | exact b2_01 _ | decide)))) <;> (first | with_reducible rfl | ((simp (disch := omega) only [jI_lit, jI_neg, jI_add, jI_sub, jI_mul, o_gI, o_gR, o_pI, o_pZ0, o_pZ1, o_pZb, o_pR, o_aI, o_qI, o_aN, tn, va_up_self, va_up_ne, upup, jI_shr1, jI_shr4, jI_shr0, jI_and1, jI_and15, jI_join, jI_240, jI_hi, jF_at, jF_up, jI_max, jI_min, b2_t, b2_f, Bool.not_true, Bool.not_false, eq_self, true_or, or_true, hd0, er]) <;> with_reducible rfl) | rfl))
  · rw [va_up_ne _ _ (Ne.symm nd), va_up_self]
  · rw [va_up_self, va_up_ne _ _ (by omega), va_up_ne _ _ (by omega), va_up_self]
  · rw [va_up_self, va_up_ne _ _ (by omega), va_up_self]
  · rw [va_up_self, va_up_self]
/-- a desk is as it was behind another's calls -/
theorem Dk_FD {bad : Nat → Prop} {d ar o k d2 ar2 o2 k2 X' U' : Nat} {A A2 : Nat → Nat → Int} {K' : Nat → Nat} {I' : Nat → Nat → Int32} {R' : Nat → Nat → Nat} {L' : Nat → Nat → Int64} {N' : Nat → Nat} (h : Dk K I R N X bad d ar o k A) (h2 : Dk K I R N X bad d2 ar2 o2 k2 A2) (hF : FD X K I R L N U d ar K' I' R' L' N' X' U') (hdis : ∀ a b, a < 40 → b < 40 → R ar a ≠ 0 → R ar a ≠ R ar2 b) (nd : d2 ≠ d) (nar : ar2 ≠ ar) (hd2 : d2 < X) (har2 : ar2 < X) :
    Dk K' I' R' N' X' bad d2 ar2 o2 k2 A2 ∧ (∀ a b, a < 40 → b < 40 → R' ar a ≠ 0 → R' ar a ≠ R' ar2 b) ∧ nul R' ar2 = nul R ar2 := by
  obtain ⟨a1, a2, a3, a4, a5, a6, a7, a8, a9, a10, a11, a12⟩ := hF
  obtain ⟨⟨kd, r1, k103, n40, -⟩, hrow, -⟩ := h
  obtain ⟨⟨kd2, r12, k1032, n402, i2, i3, ho, hk⟩, hrow2, hinj2, hact2⟩ := h2
  have eR : R' ar2 = R ar2 := a5 ar2 har2 nar
  have nda : d2 ≠ ar := fun e => by rw [e, k103] at kd2; omega
  have ncell : ∀ s, s < 40 → R ar s ≠ 0 → d2 ≠ R ar s + 1 := fun s hs c e => by
    have := (hrow s hs c).1.2.2.1
    rw [← e, kd2] at this; omega
  have eI : I' d2 = I d2 := a6 d2 hd2 nd ncell
  have ecell : ∀ b, b < 40 → R ar2 b ≠ 0 → I' (R ar2 b + 1) = I (R ar2 b + 1) := fun b hb c => by
    obtain ⟨b1, b2, b3, b4, b5⟩ := hrow2 b hb c
    have kb := b1.2.2.1
    refine a6 _ b5 (fun e => by rw [e, kd] at kb; omega) (fun s hs cs e => ?_)
    exact hdis s b hs hb cs (by omega)
  refine ⟨⟨⟨by rw [a2 d2 hd2]; exact kd2, by rw [a5 d2 hd2 nda]; exact r12, by rw [a2 ar2 har2]; exact k1032, by rw [a3 ar2 har2]; exact n402, by rw [eI]; exact i2, by rw [eI]; exact i3, ho, hk⟩, fun s hs c => ?_, fun s s' hs hs' hne c => ?_, fun i hi => ?_⟩, fun a b ha hb c => ?_, by unfold nul; rw [eR]⟩
  · rw [eR] at c ⊢
    obtain ⟨b1, b2, b3, b4, b5⟩ := hrow2 s hs c
    have kb := b1.1
    refine ⟨⟨by rw [a2 _ (by omega)]; exact b1.1, by rw [a5 _ (by omega) (fun e => by rw [e, k103] at kb; omega)]; exact b1.2.1, by rw [a2 _ (by omega)]; exact b1.2.2.1, by rw [a3 _ (by omega)]; exact b1.2.2.2⟩, fun j hj => by rw [ecell s hs c]; exact b2 j hj, b3, b4, by omega⟩
  · rw [eR] at c ⊢; exact hinj2 s s' hs hs' hne c
  · rw [eR]
    obtain ⟨c1, g, c2⟩ := hact2 i hi
    exact ⟨c1, g, by rw [ecell _ (by omega) c1]; exact c2⟩
  · rw [eR]
    by_cases cz : R ar a = 0
    · rcases a9 a ha cz with e | e
      · exact absurd e c
      · by_cases cb : R ar2 b = 0
        · rw [cb]; exact c
        · have := (hrow2 b hb cb).2.2.2.2; omega
    · rw [a8 a ha cz]; exact hdis a b ha hb cz
theorem ext_id (A : Nat → Nat → Int) (k : Nat) : ext A k (A k) = A := by
  funext i
  unfold ext
  split
  · rename_i h; rw [h]
  · rfl
/-- a heap with its counters -/
abbrev HH : Type := (Nat → Nat) × (Nat → Nat → Int32) × (Nat → Nat → Nat) × (Nat → Nat → Int64) × (Nat → Nat) × Nat × Nat
def hh (C Z : Nat) (s : HH) : Hp := (s.1, s.2.1, s.2.2.1, s.2.2.2.1, s.2.2.2.2.1, (s.2.2.2.2.2.1, s.2.2.2.2.2.2, C, Z))
theorem e_dbecome {bad : Nat → Prop} {d ar o k nw na rf d2 ar2 o2 k2 nw2 na2 rf2 m2 : Nat} {A A2 : Nat → Nat → Int} {v gv v2 gv2 : Nat → Int} {nt2 cr2 : Nat → Int} (h : Dk K I R N X bad d ar o k A) (h2 : Dk K I R N X bad d2 ar2 o2 k2 A2) (hdis : ∀ a b, a < 40 → b < 40 → R ar a ≠ 0 → R ar a ≠ R ar2 b) (nd : d2 ≠ d) (nar : ar2 ≠ ar)
    (hd0 : R d 0 = nw) (hr : Rw K R N nw) (hI : I (nw + 1) = jF (cls v gv)) (hd4 : R d 4 = na) (kna : K na = 101) (nna : N na = 24) (hd6 : R d 6 = rf) (krf : K rf = 101) (nrf : N rf = 3)
    (hd02 : R d2 0 = nw2) (hr2 : Rw K R N nw2) (hI2 : I (nw2 + 1) = jF (cls v2 gv2)) (hn2 : Dn K I R N d2 na2 nt2 m2) (hf2 : Rfs K I R N d2 rf2 cr2)
    (b1 : bad (nw + 1)) (b2' : bad na) (b3 : bad rf) (b4 : bad (nw2 + 1)) (b5 : bad na2) (b6 : bad rf2) (ne1 : nw + 1 ≠ na) (ne2 : nw + 1 ≠ rf) (ne3 : na ≠ rf) (ne4 : nw2 + 1 ≠ nw + 1) (ne5 : na2 ≠ nw + 1) (ne6 : rf2 ≠ nw + 1) (ne7 : na2 ≠ na) (ne8 : rf2 ≠ rf) (ne9 : rf2 ≠ na)
    (hX : d < X ∧ ar < X ∧ d2 < X ∧ ar2 < X ∧ nw + 1 < X ∧ na < X ∧ rf < X ∧ nw2 + 1 < X ∧ na2 < X ∧ rf2 < X) (h0 : 0 < X) (hK0 : TP Xo Ko K X) (hb : ∀ y, X ≤ y → ¬ bad y) (r1 : X + 2 * nul R ar ≤ C) (r2 : U + 412 * nul R ar ≤ Z) (hXC : X ≤ C) (hUZ : U ≤ Z) :
    ∃ K' I' R' L' N' X' U', fX2_become d d2 (K, I, R, L, N, (X, U, C, Z)) = some (K', I', R', L', N', (X', U', C, Z)) ∧ Dk K' I' R' N' X' bad d ar 0 k2 A2 ∧ Dk K' I' R' N' X' bad d2 ar2 o2 k2 A2 ∧ (∀ a b, a < 40 → b < 40 → R' ar a ≠ 0 → R' ar a ≠ R' ar2 b) ∧ nul R' ar2 = nul R ar2 ∧ X' + 2 * nul R' ar = X + 2 * nul R ar ∧ U' + 412 * nul R' ar = U + 412 * nul R ar ∧
      (∃ g, I' (nw + 1) = jF (cls v2 g)) ∧ Dn K' I' R' N' d na nt2 m2 ∧ Rfs K' I' R' N' d rf cr2 ∧ X ≤ X' ∧ X' ≤ C ∧ U' ≤ Z ∧ TP Xo Ko K' X' ∧ okA (K, I, R, L, N, (X, U, C, Z)) (K', I', R', L', N', (X', U', C, Z)) ∧
      (∀ y, y < X → K' y = K y) ∧ (∀ y, y < X → N' y = N y) ∧ (∀ y, y < X → L' y = L y) ∧ (∀ y, y < X → y ≠ ar → R' y = R y) ∧ (∀ y, y < X → bad y ∨ K y ≠ 101 → y ≠ d → y ≠ nw + 1 → y ≠ na → y ≠ rf → I' y = I y) := by
  obtain ⟨x1, x2, x3, x4, x5, x6, x7, x8, x9, x10⟩ := hX
  have hk0 := h.1
  have hk20 := h2.1
  have kd := hk0.1
  have kd2 := hk20.1
  have kar := hk0.2.2.1
  have kar2 := hk20.2.2.1
  have krow := hr.2.2.1
  have krow2 := hr2.2.2.1
  have ndn : d ≠ nw + 1 := fun e => by rw [e, krow] at kd; omega
  have nd2n : d2 ≠ nw + 1 := fun e => by rw [e, krow] at kd2; omega
  have nda : d ≠ na := fun e => by rw [e, kna] at kd; omega
  have ndf : d ≠ rf := fun e => by rw [e, krf] at kd; omega
  have ndar : d ≠ ar := fun e => by rw [e, kar] at kd; omega
  have nd2ar : d2 ≠ ar := fun e => by rw [e, kar] at kd2; omega
  have eb := e_cpR (L := L) (w := (X, U, C, Z)) hr hr2 hI2 (Zr_of hI)
  obtain ⟨I1, hI1⟩ : ∃ I1, I1 = va_up (va_up I (nw + 1) (jF (cls v2 gv2))) d (va_up (va_up (I d) 2 (jI ((0 : Nat) : Int))) 3 (jI ((0 : Nat) : Int))) := ⟨_, rfl⟩
  have I1n : ∀ y, y ≠ d → y ≠ nw + 1 → I1 y = I y := fun y y1 y2 => by rw [hI1, va_up_ne _ _ y1, va_up_ne _ _ y2]
  have I1nw : I1 (nw + 1) = jF (cls v2 gv2) := by rw [hI1, va_up_ne _ _ (Ne.symm ndn), va_up_self]
  have D1 : Dk K I1 R N X bad d ar 0 0 A2 := Dk_set h (by rw [hI1, va_up_self, va_up_ne _ _ (by omega), va_up_self]) (by rw [hI1, va_up_self, va_up_self]) (fun y hy hyb => I1n y (fun e => by rw [e, kd] at hy; omega) (fun e => hyb (by rw [e]; exact b1))) (by omega) (by omega) (fun i hi => by omega)
  have D2 : Dk K I1 R N X bad d2 ar2 o2 k2 A2 := Dk_I h2 (by rw [I1n d2 nd nd2n]) (by rw [I1n d2 nd nd2n]) (fun y hy hyb => I1n y (fun e => by rw [e, kd] at hy; omega) (fun e => hyb (by rw [e]; exact b1)))
  have badI : ∀ {K' I' R' L' N' X' U'}, FD X K I1 R L N U d ar K' I' R' L' N' X' U' → ∀ y, y < X → bad y ∨ K y ≠ 101 → y ≠ d → I' y = I1 y := by
    intro K' I' R' L' N' X' U' hF y hy hyb hyd
    refine hF.2.2.2.2.2.1 y hy hyd (fun s hs c e => ?_)
    obtain ⟨c1, c2, c3, c4, c5⟩ := h.2.1 s hs c
    rcases hyb with q | q
    · exact c4 (by rw [← e]; exact q)
    · exact q (by rw [e]; exact c1.2.2.1)
  have key := lp_sr (z := fun _ _ _ _ => none) (S := fX2_become_23) (β := Hp) (σ := HH) (fun kk i s => kk d d2 (jI (i : Int)) (hh C Z s)) k2
    (fun i s => Dk s.1 s.2.1 s.2.2.1 s.2.2.2.2.1 s.2.2.2.2.2.1 bad d ar 0 i A2 ∧ FD X K I1 R L N U d ar s.1 s.2.1 s.2.2.1 s.2.2.2.1 s.2.2.2.2.1 s.2.2.2.2.2.1 s.2.2.2.2.2.2 ∧ TP Xo Ko s.1 s.2.2.2.2.2.1 ∧ s.2.2.2.2.2.1 ≤ C ∧ s.2.2.2.2.2.2 ≤ Z)
    (fun res => ∃ K' I2 R' L' N' X' U' I', res = some (K', I', R', L', N', (X', U', C, Z)) ∧ Dk K' I2 R' N' X' bad d ar 0 k2 A2 ∧ FD X K I1 R L N U d ar K' I2 R' L' N' X' U' ∧ TP Xo Ko K' X' ∧ X' ≤ C ∧ U' ≤ Z ∧ I' = va_up (va_up (va_up I2 na (va_cpy (I2 na2) (I2 na) 0 0 24)) d (va_up (I2 d) 5 (jI (m2 : Int)))) rf (va_cpy (I2 rf2) (I2 rf) 0 0 3)) ?_ ?_ FU 0 (K, I1, R, L, N, X, U) (by omega) (FU_lt (by omega)) ⟨D1, FD_rf, hK0, hXC, hUZ⟩
  · obtain ⟨K', I2, R', L', N', X', U', I', e1, e2, e3, e4, e5, e6, hI'⟩ := key
    obtain ⟨f1, f2, f3⟩ := Dk_FD D1 D2 e3 hdis nd nar x3 x4
    have hF := e3
    obtain ⟨a1, a2, a3, a4, a5, a6, a7, a8, a9, a10, a11, a12⟩ := hF
    have kd' : K' d = 2 := by rw [a2 d x1]; exact kd
    have I'n : ∀ y, y ≠ d → y ≠ na → y ≠ rf → I' y = I2 y := fun y y1 y2 y3 => by rw [hI', va_up_ne _ _ y3, va_up_ne _ _ y1, va_up_ne _ _ y2]
    have nt2' : ∀ j, j < 24 → I2 na2 j = jI (nt2 j) := fun j hj => by
      have kq := hn2.2.2.1
      rw [badI e3 na2 x9 (Or.inl b5) (fun e => by rw [e, kd] at kq; omega), I1n na2 (fun e => by rw [e, kd] at kq; omega) ne5]
      exact hn2.2.2.2.2.2.1 j hj
    have cr2' : ∀ j, j < 3 → I2 rf2 j = jI (cr2 j) := fun j hj => by
      have kq := hf2.2.2.1
      rw [badI e3 rf2 x10 (Or.inl b6) (fun e => by rw [e, kd] at kq; omega), I1n rf2 (fun e => by rw [e, kd] at kq; omega) ne6]
      exact hf2.2.2.2.2 j hj
    have Idn : ∀ j, j ≠ 5 → I' d j = I2 d j := fun j hj => by rw [hI', va_up_ne _ _ ndf, va_up_self, va_up_ne _ _ hj]
    refine ⟨K', I', R', L', N', X', U', ?_, ?_, ?_, f2, f3, a10, a11, ⟨gv2, ?_⟩, ⟨kd', by rw [a5 d x1 ndar]; exact hd4, by rw [a2 na x6]; exact kna, by rw [a3 na x6]; exact nna, ?_, fun j hj => ?_, hn2.2.2.2.2.2.2⟩, ⟨kd', by rw [a5 d x1 ndar]; exact hd6, by rw [a2 rf x7]; exact krf, by rw [a3 rf x7]; exact nrf, fun j hj => ?_⟩, a1, e5, e6, e4, okA_tp hK0 h0 a1 a12 e5 e6 e4, a2, a3, a4, a5, fun y hy hyb y1 y2 y3 y4 => ?_⟩
    · rw [← e1]
      show fX2_become d d2 (K, I, R, L, N, (X, U, C, Z)) = lp (fun _ _ _ _ => none) fX2_become_23 FU d d2 (jI ((0 : Nat) : Int)) (K, I1, R, L, N, (X, U, C, Z))
      have ez : ((0 : Nat) : Int) = 0 := rfl
      rw [hI1, ez]
      clear e1 e2 e3 e4 e5 e6 hI' f1 f2 f3 a1 a2 a3 a4 a5 a6 a7 a8 a9 a10 a11 a12 nt2' cr2' I'n Idn hb hK0 D1 D2 I1n I1nw hI1 h h2 hdis hI hI2 hn2 hf2 badI
      unfold fX2_become
      rw [o_gd _ kd, o_gR kd, o_ob, hd0, o_gR kd2, o_ob, hd02, eb, o_obkt, o_pI kd, o_ob, o_pI kd, o_ob, va_up_ne _ _ ndn, upup, va_up_self]
      rfl
    · exact Dk_I e2 (Idn 2 (by omega)) (Idn 3 (by omega)) (fun y hy hyb => I'n y (fun e => by rw [e, kd'] at hy; omega) (fun e => hyb (by rw [e]; exact b2')) (fun e => hyb (by rw [e]; exact b3)))
    · have q : I' d2 = I2 d2 := I'n d2 nd (fun e => by rw [e, kna] at kd2; omega) (fun e => by rw [e, krf] at kd2; omega)
      exact Dk_I f1 (by rw [q]) (by rw [q]) (fun y hy hyb => I'n y (fun e => by rw [e, kd'] at hy; omega) (fun e => hyb (by rw [e]; exact b2')) (fun e => hyb (by rw [e]; exact b3)))
    · rw [I'n _ (Ne.symm ndn) ne1 ne2, badI e3 _ x5 (Or.inl b1) (Ne.symm ndn)]; exact I1nw
    · rw [hI', va_up_ne _ _ ndf, va_up_self, va_up_self]
    · rw [hI', va_up_ne _ _ ne3, va_up_ne _ _ (Ne.symm nda), va_up_self]
      unfold va_cpy
      rw [if_pos (by omega)]
      show I2 na2 (0 + (j - 0)) = _
      rw [show 0 + (j - 0) = j by omega]
      exact nt2' j hj
    · rw [hI', va_up_self]
      unfold va_cpy
      rw [if_pos (by omega)]
      show I2 rf2 (0 + (j - 0)) = _
      rw [show 0 + (j - 0) = j by omega]
      exact cr2' j hj
    · rw [I'n y y1 y3 y4, badI e3 y hy hyb y1, I1n y y1 y2]
  · intro i s hi hs kk
    right
    obtain ⟨K3, I3, R3, L3, N3, X3, U3⟩ := s
    obtain ⟨g1, g2, g3, g4, g5⟩ := hs
    have g1 : Dk K3 I3 R3 N3 X3 bad d ar 0 i A2 := g1
    have g2 : FD X K I1 R L N U d ar K3 I3 R3 L3 N3 X3 U3 := g2
    have g3 : TP Xo Ko K3 X3 := g3
    have g4 : X3 ≤ C := g4
    have g5 : U3 ≤ Z := g5
    obtain ⟨f1, f2, f3⟩ := Dk_FD D1 D2 g2 hdis nd nar x3 x4
    obtain ⟨c1, g, c2⟩ := f1.2.2.2 i hi
    obtain ⟨q, hq⟩ : ∃ q, q = R3 ar2 ((o2 + i) % 40) := ⟨_, rfl⟩
    have hqr := f1.2.1 ((o2 + i) % 40) (by omega) c1
    rw [← hq] at c1 c2 hqr
    have hF := g2
    obtain ⟨a1, a2, a3, a4, a5, a6, a7, a8, a9, a10, a11, a12⟩ := hF
    obtain ⟨K4, I4, I5, R4, L4, N4, X4, U4, ek, e3, kd4, hI5, hD, hF4, p1, p2, p3, p4, okK⟩ := e_push (L := L3) (U := U3) (C := C) (Z := Z) g1 (by have := h2.1.2.2.2.2.2.2.2; omega) hqr.1 hqr.2.2.2.2 c2 (fun s hs e => by
      by_cases cz : R3 ar s = 0
      · exact c1 (by rw [e, cz])
      · exact f2 s _ hs (by omega) cz (e.symm.trans hq)) (by omega) (by omega) (by omega) g3 (fun y hy => hb y (by omega)) (by omega) (by omega) g4 g5
    rw [ext_id] at hD
    refine ⟨(K4, I5, R4, L4, N4, X4, U4), ⟨hD, FD_tr g2 hF4, p1, p2, p3⟩, ?_⟩
    show fX2_become_23 kk d d2 (jI (i : Int)) (K3, I3, R3, L3, N3, (X3, U3, C, Z)) = kk d d2 (jI ((i + 1 : Nat) : Int)) (K4, I5, R4, L4, N4, (X4, U4, C, Z))
    have kd23 := f1.1.1
    have i3' := f1.1.2.2.2.2.2.1
    have i2' := f1.1.2.2.2.2.1
    have r12 := f1.1.2.1
    have k1032 := f1.1.2.2.1
    have n402 := f1.1.2.2.2.1
    have hk2 := f1.1.2.2.2.2.2.2.2
    have ho2 := f1.1.2.2.2.2.2.2.1
    have ei : (i : Int) + 1 = ((i + 1 : Nat) : Int) := by omega
    have ez : (0 + i : Nat) = i := by omega
    rw [ez] at ek
    have er : irm (jI ((o2 : Int) + (i : Int))) (jI 40) = jI ((((o2 + i) % 40 : Nat)) : Int) := by rw [jI_rem (by omega) (by omega) (by omega) (by omega)]; congr 1
    have es : (((((o2 + i) % 40 : Nat)) : Int)).toNat = (o2 + i) % 40 := by omega
    have c0 : ¬ (jI (k2 : Int) ≤ jI (i : Int)) := by rw [jI_le (by omega) (by omega) (by omega) (by omega)]; omega
    unfold fX2_become_23
    rw [o_gI kd23, o_ob, i3', if_neg c0, o_gR kd23, o_ob, r12, o_gI kd23, o_ob, i2', jI_add, show (40 : Int32) = jI 40 from rfl, er, o_aR k1032 (by omega) (by omega) (by omega), o_ob, es, ← hq, if_neg c1, ek, o_oba okK, o_gI kd4, o_ob, e3, show (1 : Int32) = jI 1 from rfl, jI_add, ei, o_pI kd4, o_ob, ← hI5, o_lt]
  · intro s hs kk
    obtain ⟨K3, I3, R3, L3, N3, X3, U3⟩ := s
    obtain ⟨g1, g2, g3, g4, g5⟩ := hs
    have g1 : Dk K3 I3 R3 N3 X3 bad d ar 0 k2 A2 := g1
    have g2 : FD X K I1 R L N U d ar K3 I3 R3 L3 N3 X3 U3 := g2
    obtain ⟨f1, f2, f3⟩ := Dk_FD D1 D2 g2 hdis nd nar x3 x4
    refine ⟨K3, I3, R3, L3, N3, X3, U3, _, ?_, g1, g2, g3, g4, g5, rfl⟩
    show fX2_become_23 kk d d2 (jI (k2 : Int)) (K3, I3, R3, L3, N3, (X3, U3, C, Z)) = _
    obtain ⟨a1, a2, a3, a4, a5, a6, a7, a8, a9, a10, a11, a12⟩ := id g2
    have kd23 := f1.1.1
    have kd3 := g1.1.1
    have i3' := f1.1.2.2.2.2.2.1
    have hk2 := f1.1.2.2.2.2.2.2.2
    have e4 : R3 d 4 = na := by rw [a5 d x1 ndar]; exact hd4
    have e6 : R3 d 6 = rf := by rw [a5 d x1 ndar]; exact hd6
    have e42 : R3 d2 4 = na2 := by rw [a5 d2 x3 nd2ar]; exact hn2.2.1
    have e62 : R3 d2 6 = rf2 := by rw [a5 d2 x3 nd2ar]; exact hf2.2.1
    have kn : K3 na = 101 := by rw [a2 na x6]; exact kna
    have kn2 : K3 na2 = 101 := by rw [a2 na2 x9]; exact hn2.2.2.1
    have kf : K3 rf = 101 := by rw [a2 rf x7]; exact krf
    have kf2 : K3 rf2 = 101 := by rw [a2 rf2 x10]; exact hf2.2.2.1
    have nn : N3 na = 24 := by rw [a3 na x6]; exact nna
    have nn2 : N3 na2 = 24 := by rw [a3 na2 x9]; exact hn2.2.2.2.1
    have nf : N3 rf = 3 := by rw [a3 rf x7]; exact nrf
    have nf2 : N3 rf2 = 3 := by rw [a3 rf2 x10]; exact hf2.2.2.2.1
    have nd2na : d2 ≠ na := fun e => by rw [e, kna] at kd2; omega
    have i5 : (va_up I3 na (va_cpy (I3 na2) (I3 na) 0 0 24)) d2 5 = jI (m2 : Int) := by
      rw [va_up_ne _ _ nd2na, badI g2 d2 x3 (Or.inr (by rw [kd2]; decide)) nd, I1n d2 nd nd2n]
      exact hn2.2.2.2.2.1
    have q1 : va_up I3 na (va_cpy (I3 na2) (I3 na) 0 0 24) d = I3 d := va_up_ne _ _ nda
    have nrfd : rf ≠ d := Ne.symm ndf
    have q2 : va_up (va_up I3 na (va_cpy (I3 na2) (I3 na) 0 0 24)) d (va_up (I3 d) 5 (jI (m2 : Int))) rf = I3 rf := by rw [va_up_ne _ _ nrfd, va_up_ne _ _ (Ne.symm ne3)]
    have kf2' := hf2.2.2.1
    have q3 : va_up (va_up I3 na (va_cpy (I3 na2) (I3 na) 0 0 24)) d (va_up (I3 d) 5 (jI (m2 : Int))) rf2 = I3 rf2 := by rw [va_up_ne _ _ (fun e => by rw [e, kd] at kf2'; omega), va_up_ne _ _ ne9]
    unfold fX2_become_23
    have c0 : jI (k2 : Int) ≤ jI (k2 : Int) := by rw [jI_le (by omega) (by omega) (by omega) (by omega)]; omega
    have ecp1 : cpA na2 0 na 0 (jI ((24 : Nat) : Int)) (K3, I3, R3, L3, N3, (X3, U3, C, Z)) = some (K3, va_up I3 na (va_cpy (I3 na2) (I3 na) 0 0 24), R3, L3, N3, (X3, U3, C, Z)) :=
      o_cpA (i := 0) (j := 0) (n := ((24 : Nat) : Int)) kn2 kn (by omega) (by omega) (by omega) (by omega) (by omega) (by omega) (by omega) (by omega)
    have ecp2 : ∀ J : Nat → Nat → Int32, cpA rf2 0 rf 0 (jI ((3 : Nat) : Int)) (K3, J, R3, L3, N3, (X3, U3, C, Z)) = some (K3, va_up J rf (va_cpy (J rf2) (J rf) 0 0 3), R3, L3, N3, (X3, U3, C, Z)) := fun J =>
      o_cpA (i := 0) (j := 0) (n := ((3 : Nat) : Int)) kf2 kf (by omega) (by omega) (by omega) (by omega) (by omega) (by omega) (by omega) (by omega)
    rw [o_gI kd23, o_ob, i3', if_pos c0, o_gR kd23, o_ob, e42, o_gR kd3, o_ob, e4, o_ob, o_aN kn, o_ob, nn, ecp1, o_ob, o_gI kd23, o_ob, i5, o_pI kd3, o_ob, q1, o_gR kd23, o_ob, e62, o_gR kd3, o_ob, e6, o_ob, o_aN kf, o_ob, nf, ecp2, o_ob, q2, q3]
end DK
