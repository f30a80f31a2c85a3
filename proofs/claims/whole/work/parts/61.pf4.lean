section PF4
variable {K : Nat → Nat} {I : Nat → Nat → Int32} {R : Nat → Nat → Nat} {L : Nat → Nat → Int64} {N : Nat → Nat} {w : Nat × Nat × Nat × Nat}
theorem o_lit6 {a : Nat} {v : Int32} : qI a 6 v (K, I, R, L, N, w) = qI a (jI 6) v (K, I, R, L, N, w) := rfl
theorem o_lit7 {a : Nat} {v : Int32} : qI a 7 v (K, I, R, L, N, w) = qI a (jI 7) v (K, I, R, L, N, w) := rfl
theorem o_lit8 {a : Nat} {v : Int32} : qI a 8 v (K, I, R, L, N, w) = qI a (jI 8) v (K, I, R, L, N, w) := rfl
theorem edS_mark {c u : Nat → Int} {p n : Nat} {src src' waits mark : Int} {seen any : Bool} (hp : p + n ≤ 256) (h : edS c p src n = .inr (u, src', waits, seen, any, mark)) : mark = -1 ∨ (0 ≤ mark ∧ mark < 256) := by
  have : ∀ j, j ≤ n → ∀ t, edS c p src j = .inr t → t.2.2.2.2.2 = -1 ∨ (0 ≤ t.2.2.2.2.2 ∧ t.2.2.2.2.2 < 256) := by
    intro j
    induction j with
    | zero => intro _ t h; cases h; exact Or.inl rfl
    | succ j ih =>
      intro hj t h
      rw [edS_s] at h
      cases hS : edS c p src j with
      | inl a => rw [hS] at h; exact nomatch h
      | inr s =>
        rw [hS] at h
        have i1 := ih (by omega) s hS
        have h' : edB (c p) (p + j) s = .inr t := h
        obtain ⟨r, src', waits, seen, any, mark⟩ := s
        by_cases c1 : r (p + j) = 32 ∨ r (p + j) = 33
        · have e : edB (c p) (p + j) (r, src', waits, seen, any, mark) = match edD r src' waits with
            | .inl (c', x) => .inl (c', x, r)
            | .inr (d, above, src'', waits') =>
              .inr (va_up r (p + j) (if d = 0 ∧ seen = false then c p else 240 + d), src'', waits', !above && (seen || d != 0 || r (p + j) == 33), any || d != 0, if d ≠ 0 ∧ seen = false then ((p + j : Nat) : Int) else mark) := by
            unfold edB
            exact if_pos c1
          rw [e] at h'
          cases hD : edD r src' waits with
          | inl a => rw [hD] at h'; exact nomatch h'
          | inr a =>
            obtain ⟨d, above, src'', waits'⟩ := a
            rw [hD] at h'
            cases h'
            have i1' : mark = -1 ∨ (0 ≤ mark ∧ mark < 256) := i1
            show (if d ≠ 0 ∧ seen = false then ((p + j : Nat) : Int) else mark) = -1 ∨ (0 ≤ (if d ≠ 0 ∧ seen = false then ((p + j : Nat) : Int) else mark) ∧ (if d ≠ 0 ∧ seen = false then ((p + j : Nat) : Int) else mark) < 256)
            by_cases q : d ≠ 0 ∧ seen = false
            · rw [if_pos q]; omega
            · rw [if_neg q]; exact i1'
        · by_cases c2 : r (p + j) = 34
          · have e : edB (c p) (p + j) (r, src', waits, seen, any, mark) = .inr (va_up r (p + j) (c p), src', waits, false, false, mark) := by
              unfold edB
              exact (if_neg c1).trans (if_pos c2)
            rw [e] at h'
            cases h'
            exact i1
          · have e : edB (c p) (p + j) (r, src', waits, seen, any, mark) = .inr ((if seen then r else va_up r (p + j) (c p)), src', waits, seen, any, mark) := by
              unfold edB
              exact (if_neg c1).trans (if_neg c2)
            rw [e] at h'
            cases h'
            exact i1
  exact this n (Nat.le_refl _) _ h
theorem fin6_cs {r : Nat → Int} {p n v u : Nat} {s t : Bool} : fin6 r p n (csum s t v u).1 (csum s t v u).2 = fin6 r p n (ssum s t v u).1 (ssum s t v u).2 ∧ ccK (csum s t v u).1 (csum s t v u).2 = ccK (ssum s t v u).1 (ssum s t v u).2 := by
  unfold csum ssum
  by_cases h : s = t
  · rw [if_pos h, if_pos h]; exact ⟨rfl, rfl⟩
  · rw [if_neg h, if_neg h]
    by_cases h2 : v < u
    · rw [if_pos h2, if_neg (show ¬ u ≤ v by omega)]; exact ⟨rfl, rfl⟩
    · rw [if_neg h2, if_pos (show u ≤ v by omega)]
      by_cases h3 : v - u = 0
      · constructor
        · unfold fin6 ccK; simp [h3]
        · unfold ccK; simp [h3]
      · have : decide (v - u ≠ 0) = true := by simpa using h3
        simp only [this, Bool.and_true]
        exact ⟨trivial, trivial⟩
theorem e_looked {e : Nat} (k : K e = 3) : fX3_looked e (K, I, R, L, N, w) = some (I e 7) := by unfold fX3_looked; rw [o_gd _ k, o_gI k, o_ob]
theorem e_heldE {e : Nat} (k : K e = 3) : fX3_held e (K, I, R, L, N, w) = some (I e 8) := by unfold fX3_held; rw [o_gd _ k, o_gI k, o_ob]
theorem e_marked {e : Nat} (k : K e = 3) : fX3_marked e (K, I, R, L, N, w) = some (I e 13) := by unfold fX3_marked; rw [o_gd _ k, o_gI k, o_ob]
theorem e_cond {e : Nat} {any seen : Bool} (k : K e = 3) (h1 : I e 12 = jI (b2 any)) (h2 : I e 11 = jI (b2 seen)) : fX3_condition e (K, I, R, L, N, w) = some (jI (if any then (if seen then 1 else 2) else 0)) := by
  unfold fX3_condition
  cases any with
  | false => ((repeat (first | (with_reducible apply q_gd; · (first | assumption | omega)) | (with_reducible apply q_ob; · (first | with_reducible rfl | ((simp (disch := omega) only [jI_lit, jI_neg, jI_add, jI_sub, jI_mul, o_gI, o_gR, o_pI, o_pZ0, o_pZ1, o_pZb, o_pR, o_aI, o_qI, o_aN, tn, va_up_self, va_up_ne, upup, jI_shr1, jI_shr4, jI_shr0, jI_and1, jI_and15, jI_join, jI_240, jI_hi, jF_at, jF_up, jI_max, jI_min, b2_t, b2_f, Bool.not_true, Bool.not_false, eq_self, true_or, or_true, h1, h2]) <;> with_reducible rfl))) | (with_reducible apply q_ob2; · (first | with_reducible rfl | ((simp (disch := omega) only [jI_lit, jI_neg, jI_add, jI_sub, jI_mul, o_gI, o_gR, o_pI, o_pZ0, o_pZ1, o_pZb, o_pR, o_aI, o_qI, o_aN, tn, va_up_self, va_up_ne, upup, jI_shr1, jI_shr4, jI_shr0, jI_and1, jI_and15, jI_join, jI_240, jI_hi, jF_at, jF_up, jI_max, jI_min, b2_t, b2_f, Bool.not_true, Bool.not_false, eq_self, true_or, or_true, h1, h2]) <;> with_reducible rfl))) | (with_reducible apply q_lt; · (first | with_reducible rfl | ((simp (disch := omega) only [jI_lit, jI_neg, jI_add, jI_sub, jI_mul, o_gI, o_gR, o_pI, o_pZ0, o_pZ1, o_pZb, o_pR, o_aI, o_qI, o_aN, tn, va_up_self, va_up_ne, upup, jI_shr1, jI_shr4, jI_shr0, jI_and1, jI_and15, jI_join, jI_240, jI_hi, jF_at, jF_up, jI_max, jI_min, b2_t, b2_f, Bool.not_true, Bool.not_false, eq_self, true_or, or_true, h1, h2]) <;> with_reducible rfl))) | (with_reducible apply q_ifp; · ((simp (disch := omega) only [jI_lit, jI_neg, jI_add, jI_sub, jI_mul, jI_lt, jI_le, jI_eq, va_up_self, va_up_ne, jI_shr1, jI_shr4, jI_shr0, jI_and1, jI_and15, jF_at, tn, b2_t, b2_f, cmp_ge, cmp_gt, cmp_le, cmp_lt, cmp_eq, jL_lit, jL_lt, jL_le, jL_eq, h1, h2]) <;> omega)) | (with_reducible apply q_ifn; · ((simp (disch := omega) only [jI_lit, jI_neg, jI_add, jI_sub, jI_mul, jI_lt, jI_le, jI_eq, va_up_self, va_up_ne, jI_shr1, jI_shr4, jI_shr0, jI_and1, jI_and15, jF_at, tn, b2_t, b2_f, cmp_ge, cmp_gt, cmp_le, cmp_lt, cmp_eq, jL_lit, jL_lt, jL_le, jL_eq, h1, h2]) <;> omega)) | (with_reducible apply q_obk; · (first | with_reducible rfl | ((simp (disch := omega) only [jI_lit, jI_neg, jI_add, jI_sub, jI_mul, o_gI, o_gR, o_pI, o_pZ0, o_pZ1, o_pZb, o_pR, o_aI, o_qI, o_aN, tn, va_up_self, va_up_ne, upup, jI_shr1, jI_shr4, jI_shr0, jI_and1, jI_and15, jI_join, jI_240, jI_hi, jF_at, jF_up, jI_max, jI_min, b2_t, b2_f, Bool.not_true, Bool.not_false, eq_self, true_or, or_true, h1, h2]) <;> with_reducible rfl))) | (with_reducible apply q_nz; · ((simp (disch := omega) only [jI_lit, jI_neg, jI_add, jI_sub, jI_mul, jI_lt, jI_le, jI_eq, va_up_self, va_up_ne, jI_shr1, jI_shr4, jI_shr0, jI_and1, jI_and15, jF_at, tn, b2_t, b2_f, cmp_ge, cmp_gt, cmp_le, cmp_lt, cmp_eq, jL_lit, jL_lt, jL_le, jL_eq, h1, h2]) <;> omega)) | (with_reducible apply q_rz; · (first | exact b2_01 _ | decide)))) <;> (first | with_reducible rfl | ((simp (disch := omega) only [jI_lit, jI_neg, jI_add, jI_sub, jI_mul, o_gI, o_gR, o_pI, o_pZ0, o_pZ1, o_pZb, o_pR, o_aI, o_qI, o_aN, tn, va_up_self, va_up_ne, upup, jI_shr1, jI_shr4, jI_shr0, jI_and1, jI_and15, jI_join, jI_240, jI_hi, jF_at, jF_up, jI_max, jI_min, b2_t, b2_f, Bool.not_true, Bool.not_false, eq_self, true_or, or_true, h1, h2]) <;> with_reducible rfl) | rfl))
  | true =>
    cases seen with
    | false => ((repeat (first | (with_reducible apply q_gd; · (first | assumption | omega)) | (with_reducible apply q_ob; · (first | with_reducible rfl | ((simp (disch := omega) only [jI_lit, jI_neg, jI_add, jI_sub, jI_mul, o_gI, o_gR, o_pI, o_pZ0, o_pZ1, o_pZb, o_pR, o_aI, o_qI, o_aN, tn, va_up_self, va_up_ne, upup, jI_shr1, jI_shr4, jI_shr0, jI_and1, jI_and15, jI_join, jI_240, jI_hi, jF_at, jF_up, jI_max, jI_min, b2_t, b2_f, Bool.not_true, Bool.not_false, eq_self, true_or, or_true, h1, h2]) <;> with_reducible rfl))) | (with_reducible apply q_ob2; · (first | with_reducible rfl | ((simp (disch := omega) only [jI_lit, jI_neg, jI_add, jI_sub, jI_mul, o_gI, o_gR, o_pI, o_pZ0, o_pZ1, o_pZb, o_pR, o_aI, o_qI, o_aN, tn, va_up_self, va_up_ne, upup, jI_shr1, jI_shr4, jI_shr0, jI_and1, jI_and15, jI_join, jI_240, jI_hi, jF_at, jF_up, jI_max, jI_min, b2_t, b2_f, Bool.not_true, Bool.not_false, eq_self, true_or, or_true, h1, h2]) <;> with_reducible rfl))) | (with_reducible apply q_lt; · (first | with_reducible rfl | ((simp (disch := omega) only [jI_lit, jI_neg, jI_add, jI_sub, jI_mul, o_gI, o_gR, o_pI, o_pZ0, o_pZ1, o_pZb, o_pR, o_aI, o_qI, o_aN, tn, va_up_self, va_up_ne, upup, jI_shr1, jI_shr4, jI_shr0, jI_and1, jI_and15, jI_join, jI_240, jI_hi, jF_at, jF_up, jI_max, jI_min, b2_t, b2_f, Bool.not_true, Bool.not_false, eq_self, true_or, or_true, h1, h2]) <;> with_reducible rfl))) | (with_reducible apply q_ifp; · ((simp (disch := omega) only [jI_lit, jI_neg, jI_add, jI_sub, jI_mul, jI_lt, jI_le, jI_eq, va_up_self, va_up_ne, jI_shr1, jI_shr4, jI_shr0, jI_and1, jI_and15, jF_at, tn, b2_t, b2_f, cmp_ge, cmp_gt, cmp_le, cmp_lt, cmp_eq, jL_lit, jL_lt, jL_le, jL_eq, h1, h2]) <;> omega)) | (with_reducible apply q_ifn; · ((simp (disch := omega) only [jI_lit, jI_neg, jI_add, jI_sub, jI_mul, jI_lt, jI_le, jI_eq, va_up_self, va_up_ne, jI_shr1, jI_shr4, jI_shr0, jI_and1, jI_and15, jF_at, tn, b2_t, b2_f, cmp_ge, cmp_gt, cmp_le, cmp_lt, cmp_eq, jL_lit, jL_lt, jL_le, jL_eq, h1, h2]) <;> omega)) | (with_reducible apply q_obk; · (first | with_reducible rfl | ((simp (disch := omega) only [jI_lit, jI_neg, jI_add, jI_sub, jI_mul, o_gI, o_gR, o_pI, o_pZ0, o_pZ1, o_pZb, o_pR, o_aI, o_qI, o_aN, tn, va_up_self, va_up_ne, upup, jI_shr1, jI_shr4, jI_shr0, jI_and1, jI_and15, jI_join, jI_240, jI_hi, jF_at, jF_up, jI_max, jI_min, b2_t, b2_f, Bool.not_true, Bool.not_false, eq_self, true_or, or_true, h1, h2]) <;> with_reducible rfl))) | (with_reducible apply q_nz; · ((simp (disch := omega) only [jI_lit, jI_neg, jI_add, jI_sub, jI_mul, jI_lt, jI_le, jI_eq, va_up_self, va_up_ne, jI_shr1, jI_shr4, jI_shr0, jI_and1, jI_and15, jF_at, tn, b2_t, b2_f, cmp_ge, cmp_gt, cmp_le, cmp_lt, cmp_eq, jL_lit, jL_lt, jL_le, jL_eq, h1, h2]) <;> omega)) | (with_reducible apply q_rz; · (first | exact b2_01 _ | decide)))) <;> (first | with_reducible rfl | ((simp (disch := omega) only [jI_lit, jI_neg, jI_add, jI_sub, jI_mul, o_gI, o_gR, o_pI, o_pZ0, o_pZ1, o_pZb, o_pR, o_aI, o_qI, o_aN, tn, va_up_self, va_up_ne, upup, jI_shr1, jI_shr4, jI_shr0, jI_and1, jI_and15, jI_join, jI_240, jI_hi, jF_at, jF_up, jI_max, jI_min, b2_t, b2_f, Bool.not_true, Bool.not_false, eq_self, true_or, or_true, h1, h2]) <;> with_reducible rfl) | rfl))
    | true => ((repeat (first | (with_reducible apply q_gd; · (first | assumption | omega)) | (with_reducible apply q_ob; · (first | with_reducible rfl | ((simp (disch := omega) only [jI_lit, jI_neg, jI_add, jI_sub, jI_mul, o_gI, o_gR, o_pI, o_pZ0, o_pZ1, o_pZb, o_pR, o_aI, o_qI, o_aN, tn, va_up_self, va_up_ne, upup, jI_shr1, jI_shr4, jI_shr0, jI_and1, jI_and15, jI_join, jI_240, jI_hi, jF_at, jF_up, jI_max, jI_min, b2_t, b2_f, Bool.not_true, Bool.not_false, eq_self, true_or, or_true, h1, h2]) <;> with_reducible rfl))) | (with_reducible apply q_ob2; · (first | with_reducible rfl | ((simp (disch := omega) only [jI_lit, jI_neg, jI_add, jI_sub, jI_mul, o_gI, o_gR, o_pI, o_pZ0, o_pZ1, o_pZb, o_pR, o_aI, o_qI, o_aN, tn, va_up_self, va_up_ne, upup, jI_shr1, jI_shr4, jI_shr0, jI_and1, jI_and15, jI_join, jI_240, jI_hi, jF_at, jF_up, jI_max, jI_min, b2_t, b2_f, Bool.not_true, Bool.not_false, eq_self, true_or, or_true, h1, h2]) <;> with_reducible rfl))) | (with_reducible apply q_lt; · (first | with_reducible rfl | ((simp (disch := omega) only [jI_lit, jI_neg, jI_add, jI_sub, jI_mul, o_gI, o_gR, o_pI, o_pZ0, o_pZ1, o_pZb, o_pR, o_aI, o_qI, o_aN, tn, va_up_self, va_up_ne, upup, jI_shr1, jI_shr4, jI_shr0, jI_and1, jI_and15, jI_join, jI_240, jI_hi, jF_at, jF_up, jI_max, jI_min, b2_t, b2_f, Bool.not_true, Bool.not_false, eq_self, true_or, or_true, h1, h2]) <;> with_reducible rfl))) | (with_reducible apply q_ifp; · ((simp (disch := omega) only [jI_lit, jI_neg, jI_add, jI_sub, jI_mul, jI_lt, jI_le, jI_eq, va_up_self, va_up_ne, jI_shr1, jI_shr4, jI_shr0, jI_and1, jI_and15, jF_at, tn, b2_t, b2_f, cmp_ge, cmp_gt, cmp_le, cmp_lt, cmp_eq, jL_lit, jL_lt, jL_le, jL_eq, h1, h2]) <;> omega)) | (with_reducible apply q_ifn; · ((simp (disch := omega) only [jI_lit, jI_neg, jI_add, jI_sub, jI_mul, jI_lt, jI_le, jI_eq, va_up_self, va_up_ne, jI_shr1, jI_shr4, jI_shr0, jI_and1, jI_and15, jF_at, tn, b2_t, b2_f, cmp_ge, cmp_gt, cmp_le, cmp_lt, cmp_eq, jL_lit, jL_lt, jL_le, jL_eq, h1, h2]) <;> omega)) | (with_reducible apply q_obk; · (first | with_reducible rfl | ((simp (disch := omega) only [jI_lit, jI_neg, jI_add, jI_sub, jI_mul, o_gI, o_gR, o_pI, o_pZ0, o_pZ1, o_pZb, o_pR, o_aI, o_qI, o_aN, tn, va_up_self, va_up_ne, upup, jI_shr1, jI_shr4, jI_shr0, jI_and1, jI_and15, jI_join, jI_240, jI_hi, jF_at, jF_up, jI_max, jI_min, b2_t, b2_f, Bool.not_true, Bool.not_false, eq_self, true_or, or_true, h1, h2]) <;> with_reducible rfl))) | (with_reducible apply q_nz; · ((simp (disch := omega) only [jI_lit, jI_neg, jI_add, jI_sub, jI_mul, jI_lt, jI_le, jI_eq, va_up_self, va_up_ne, jI_shr1, jI_shr4, jI_shr0, jI_and1, jI_and15, jF_at, tn, b2_t, b2_f, cmp_ge, cmp_gt, cmp_le, cmp_lt, cmp_eq, jL_lit, jL_lt, jL_le, jL_eq, h1, h2]) <;> omega)) | (with_reducible apply q_rz; · (first | exact b2_01 _ | decide)))) <;> (first | with_reducible rfl | ((simp (disch := omega) only [jI_lit, jI_neg, jI_add, jI_sub, jI_mul, o_gI, o_gR, o_pI, o_pZ0, o_pZ1, o_pZb, o_pR, o_aI, o_qI, o_aN, tn, va_up_self, va_up_ne, upup, jI_shr1, jI_shr4, jI_shr0, jI_and1, jI_and15, jI_join, jI_240, jI_hi, jF_at, jF_up, jI_max, jI_min, b2_t, b2_f, Bool.not_true, Bool.not_false, eq_self, true_or, or_true, h1, h2]) <;> with_reducible rfl) | rfl))
theorem edS_inl {c : Nat → Int} (hb : Byt c) {p : Nat} {src : Int} (hp : p < 256) {cc sx : Int} {u : Nat → Int} : ∀ j, edS c p src j = .inl (cc, sx, u) → Byt u ∧ (cc = 4 → 0 ≤ sx ∧ sx ≤ 255) := by
  have inv : ∀ j t, edS c p src j = .inr t → Byt t.1 ∧ -1 ≤ t.2.2.1 ∧ t.2.2.1 < 10 := by
    intro j
    induction j with
    | zero => intro t h; cases h; exact ⟨hb, by show (-1 : Int) ≤ -1; omega, by show (-1 : Int) < 10; omega⟩
    | succ j ih =>
      intro t h
      rw [edS_s] at h
      cases hS : edS c p src j with
      | inl a => rw [hS] at h; exact nomatch h
      | inr s =>
        rw [hS] at h
        obtain ⟨i1, i2, i3⟩ := ih s hS
        have h' : edB (c p) (p + j) s = .inr t := h
        refine ⟨(edB_row i1 (hb p hp).1 (hb p hp).2 i2 i3 h').1, ?_⟩
        obtain ⟨r, src', waits, seen, any, mark⟩ := s
        by_cases c1 : r (p + j) = 32 ∨ r (p + j) = 33
        · have e : edB (c p) (p + j) (r, src', waits, seen, any, mark) = match edD r src' waits with
            | .inl (c', x) => .inl (c', x, r)
            | .inr (d, above, src'', waits') =>
              .inr (va_up r (p + j) (if d = 0 ∧ seen = false then c p else 240 + d), src'', waits', !above && (seen || d != 0 || r (p + j) == 33), any || d != 0, if d ≠ 0 ∧ seen = false then ((p + j : Nat) : Int) else mark) := by
            unfold edB
            exact if_pos c1
          rw [e] at h'
          cases hD : edD r src' waits with
          | inl a => rw [hD] at h'; exact nomatch h'
          | inr a =>
            obtain ⟨d, above, src'', waits'⟩ := a
            rw [hD] at h'
            cases h'
            unfold edD at hD
            by_cases a1 : waits ≠ -1
            · rw [if_pos a1] at hD; cases hD; exact ⟨by show (-1 : Int) ≤ -1; omega, by show (-1 : Int) < 10; omega⟩
            · rw [if_neg a1] at hD
              by_cases a2 : src' < 0 ∨ 255 < src'
              · rw [if_pos a2] at hD; exact nomatch hD
              · rw [if_neg a2] at hD
                by_cases a3 : 9 < r src'.toNat / 16
                · rw [if_pos a3] at hD; exact nomatch hD
                · rw [if_neg a3] at hD
                  cases hD
                  have i9 : 0 ≤ r src'.toNat ∧ r src'.toNat < 256 := i1 src'.toNat (by omega)
                  show (-1 : Int) ≤ (if r src'.toNat % 16 < 10 then r src'.toNat % 16 else -1) ∧ (if r src'.toNat % 16 < 10 then r src'.toNat % 16 else -1) < 10
                  split <;> omega
        · by_cases c2 : r (p + j) = 34
          · have e : edB (c p) (p + j) (r, src', waits, seen, any, mark) = .inr (va_up r (p + j) (c p), src', waits, false, false, mark) := by
              unfold edB
              exact (if_neg c1).trans (if_pos c2)
            rw [e] at h'
            cases h'
            exact ⟨i2, i3⟩
          · have e : edB (c p) (p + j) (r, src', waits, seen, any, mark) = .inr ((if seen then r else va_up r (p + j) (c p)), src', waits, seen, any, mark) := by
              unfold edB
              exact (if_neg c1).trans (if_neg c2)
            rw [e] at h'
            cases h'
            exact ⟨i2, i3⟩
  intro j
  induction j with
  | zero => intro h; exact nomatch h
  | succ j ih =>
    intro h
    rw [edS_s] at h
    cases hS : edS c p src j with
    | inl a => rw [hS] at h; exact ih (hS.trans h)
    | inr s =>
      rw [hS] at h
      have h' : edB (c p) (p + j) s = .inl (cc, sx, u) := h
      have i1 := (inv j s hS).1
      obtain ⟨r, src', waits, seen, any, mark⟩ := s
      by_cases c1 : r (p + j) = 32 ∨ r (p + j) = 33
      · have e : edB (c p) (p + j) (r, src', waits, seen, any, mark) = match edD r src' waits with
          | .inl (c', x) => .inl (c', x, r)
          | .inr (d, above, src'', waits') =>
            .inr (va_up r (p + j) (if d = 0 ∧ seen = false then c p else 240 + d), src'', waits', !above && (seen || d != 0 || r (p + j) == 33), any || d != 0, if d ≠ 0 ∧ seen = false then ((p + j : Nat) : Int) else mark) := by
          unfold edB
          exact if_pos c1
        rw [e] at h'
        cases hD : edD r src' waits with
        | inl a =>
          obtain ⟨c', x'⟩ := a
          rw [hD] at h'
          cases h'
          refine ⟨i1, fun h4 => ?_⟩
          subst h4
          unfold edD at hD
          by_cases a1 : waits ≠ -1
          · rw [if_pos a1] at hD; exact nomatch hD
          · rw [if_neg a1] at hD
            by_cases a2 : src' < 0 ∨ 255 < src'
            · rw [if_pos a2] at hD; cases hD
            · rw [if_neg a2] at hD
              by_cases a3 : 9 < u src'.toNat / 16
              · rw [if_pos a3] at hD; cases hD; omega
              · rw [if_neg a3] at hD; exact nomatch hD
        | inr a => rw [hD] at h'; exact nomatch h'
      · by_cases c2 : r (p + j) = 34
        · have e : edB (c p) (p + j) (r, src', waits, seen, any, mark) = .inr (va_up r (p + j) (c p), src', waits, false, false, mark) := by
            unfold edB
            exact (if_neg c1).trans (if_pos c2)
          rw [e] at h'
          exact nomatch h'
        · have e : edB (c p) (p + j) (r, src', waits, seen, any, mark) = .inr ((if seen then r else va_up r (p + j) (c p)), src', waits, seen, any, mark) := by
            unfold edB
            exact (if_neg c1).trans (if_neg c2)
          rw [e] at h'
          exact nomatch h'
theorem flp_test {r : Nat → Int} {p n : Nat} (hn : 1 ≤ n) : (flp r p n ≠ -1 ∧ flp r p n ≠ ((2 * (p + n) - 1 : Nat) : Int)) ↔ fnd (fun h => 9 < hf r h) (2 * p) (2 * n - 1) ≠ -1 := by
  constructor
  · intro ⟨h1, h2⟩ h3
    obtain ⟨m, a1, a2, a3, a4, a5⟩ := fnd_some h1
    have a3' : flp r p n = (m : Int) := a3
    have h4 := fnd_none h3 m a1 (by omega)
    simp at h4 a4
    have e : (m == 2 * (p + n) - 1) = false := by simp; omega
    rw [e] at a4
    simp at a4
    omega
  · intro h
    obtain ⟨m, a1, a2, a3, a4, a5⟩ := fnd_some h
    simp at a4
    have q : ((decide (9 < hf r m)) != (m == 2 * (p + n) - 1)) = true := by
      have e : (m == 2 * (p + n) - 1) = false := by simp; omega
      rw [e]; simpa using a4
    have h1 : flp r p n ≠ -1 := by
      intro h1
      have := fnd_none h1 m a1 (by omega)
      rw [q] at this
      exact nomatch this
    refine ⟨h1, fun h2 => ?_⟩
    obtain ⟨m', b1, b2, b3, b4, b5⟩ := fnd_some h1
    have b3' : flp r p n = (m' : Int) := b3
    have : m < m' := by omega
    have := b5 m a1 this
    rw [q] at this
    exact nomatch this
theorem on_all : ∀ n : Fin 16, ∀ c : Fin 4, jI ((n.val : Nat) : Int) &&& (jI 8 >>> (jI ((c.val : Nat) : Int) &&& jI 31)) = jI (if n.val / 2 ^ (3 - c.val) % 2 = 1 then 2 ^ (3 - c.val) else 0) := by decide +kernel
theorem jI_on {n c : Int} (h1 : 0 ≤ n) (h2 : n ≤ 15) (h3 : 0 ≤ c) (h4 : c ≤ 3) : jI n &&& (jI 8 >>> (jI c &&& jI 31)) = jI (if n.toNat / 2 ^ (3 - c.toNat) % 2 = 1 then 2 ^ (3 - c.toNat) else 0) := by
  obtain ⟨x, rfl⟩ := Int.eq_ofNat_of_zero_le h1
  obtain ⟨y, rfl⟩ := Int.eq_ofNat_of_zero_le h3
  exact on_all ⟨x, by omega⟩ ⟨y, by omega⟩
theorem pc_up {p v : Nat} (pc : Pc K R N p) : Pc K (va_up R (p + 7) (va_up (R (p + 7)) 4 v)) N p := by
  obtain ⟨k8, r0, r1, r2, r3, r4, k14, n14, d1, d2, d3, ed⟩ := pc
  have hp : ∀ j, va_up R (p + 7) (va_up (R (p + 7)) 4 v) p j = R p j := fun j => by rw [va_up_ne _ _ (by omega)]
  exact ⟨k8, by rw [hp]; exact r0, by rw [hp]; exact r1, by rw [hp]; exact r2, by rw [hp]; exact r3, by rw [hp]; exact r4, k14, n14, Dc_upR d1 (by omega), Dc_upR d2 (by omega), Dc_upR d3 (by omega), Ed_4 ed⟩
/-- the class's edit and mark -/
theorem e_perfEd {p x a : Nat} {o A nn B cc cd : Int} {M M9 : Nat → Nat → Int32} {R1 : Nat → Nat → Nat} {mk : Bool} (k8 : K p = 8) (ka : K a = 5) (k7 : K (p + 7) = 3) (ho : o = if mk then 13 else 12) (ra : R a 0 = o.toNat + 5) (w1 : wdO (o.toNat + 5) = some (jI (o + 4))) (w2 : smI (jI (o + 4)) = some (jI (smT o))) (h7 : R p 7 = a) (i3a : I a 3 = jI nn) (i6 : I a 6 = jI 0) (r3 : R p 3 = p + 7) (h6 : R p 6 = x) (h8 : I p 8 = jI A) (h9 : I p 9 = jI B) (hA : 0 ≤ A ∧ A ≤ 256) (hn : 0 ≤ nn ∧ nn ≤ 256) (hB : -2147483648 ≤ B ∧ B ≤ 2147483647)
    (e1 : fX3_edit (p + 7) x (jI A) (jI nn) (jI B) (K, I, R, L, N, w) = some (jI cc, (K, M, R1, L, N, w))) (b4 : fX9_edited p (jI cc) (jI (b2 mk)) (K, M, R1, L, N, w) = some (jI cd, (K, M9, R1, L, N, w))) : fX9_perform p (K, I, R, L, N, w) = some (jI cd, (K, M9, R1, L, N, w)) := by
  unfold fX9_perform
  cases mk with
  | false =>
    have hs : smT o = 14 := by rw [ho]; rfl
    rw [b2_f] at b4
    ((repeat (first | (with_reducible apply q_gd; · (first | assumption | omega)) | (with_reducible apply q_ob; · (first | with_reducible rfl | ((simp (disch := omega) only [jI_lit, jI_neg, jI_add, jI_sub, jI_mul, o_gI, o_gR, o_pI, o_pZ0, o_pZ1, o_pZb, o_pR, o_aI, o_qI, o_aN, tn, va_up_self, va_up_ne, upup, jI_shr1, jI_shr4, jI_shr0, jI_and1, jI_and15, jI_join, jI_240, jI_hi, jF_at, jF_up, jI_max, jI_min, b2_t, b2_f, Bool.not_true, Bool.not_false, eq_self, true_or, or_true, h7, i3a, i6, ra, w1, w2, hs, r3, h6, h8, h9, e1, b4]) <;> with_reducible rfl))) | (with_reducible apply q_ob2; · (first | with_reducible rfl | ((simp (disch := omega) only [jI_lit, jI_neg, jI_add, jI_sub, jI_mul, o_gI, o_gR, o_pI, o_pZ0, o_pZ1, o_pZb, o_pR, o_aI, o_qI, o_aN, tn, va_up_self, va_up_ne, upup, jI_shr1, jI_shr4, jI_shr0, jI_and1, jI_and15, jI_join, jI_240, jI_hi, jF_at, jF_up, jI_max, jI_min, b2_t, b2_f, Bool.not_true, Bool.not_false, eq_self, true_or, or_true, h7, i3a, i6, ra, w1, w2, hs, r3, h6, h8, h9, e1, b4]) <;> with_reducible rfl))) | (with_reducible apply q_lt; · (first | with_reducible rfl | ((simp (disch := omega) only [jI_lit, jI_neg, jI_add, jI_sub, jI_mul, o_gI, o_gR, o_pI, o_pZ0, o_pZ1, o_pZb, o_pR, o_aI, o_qI, o_aN, tn, va_up_self, va_up_ne, upup, jI_shr1, jI_shr4, jI_shr0, jI_and1, jI_and15, jI_join, jI_240, jI_hi, jF_at, jF_up, jI_max, jI_min, b2_t, b2_f, Bool.not_true, Bool.not_false, eq_self, true_or, or_true, h7, i3a, i6, ra, w1, w2, hs, r3, h6, h8, h9, e1, b4]) <;> with_reducible rfl))) | (with_reducible apply q_ifp; · ((simp (disch := omega) only [jI_lit, jI_neg, jI_add, jI_sub, jI_mul, jI_lt, jI_le, jI_eq, va_up_self, va_up_ne, jI_shr1, jI_shr4, jI_shr0, jI_and1, jI_and15, jF_at, tn, b2_t, b2_f, cmp_ge, cmp_gt, cmp_le, cmp_lt, cmp_eq, jL_lit, jL_lt, jL_le, jL_eq, h7, i3a, i6, ra, w1, w2, hs, r3, h6, h8, h9, e1, b4]) <;> omega)) | (with_reducible apply q_ifn; · ((simp (disch := omega) only [jI_lit, jI_neg, jI_add, jI_sub, jI_mul, jI_lt, jI_le, jI_eq, va_up_self, va_up_ne, jI_shr1, jI_shr4, jI_shr0, jI_and1, jI_and15, jF_at, tn, b2_t, b2_f, cmp_ge, cmp_gt, cmp_le, cmp_lt, cmp_eq, jL_lit, jL_lt, jL_le, jL_eq, h7, i3a, i6, ra, w1, w2, hs, r3, h6, h8, h9, e1, b4]) <;> omega)) | (with_reducible apply q_obk; · (first | with_reducible rfl | ((simp (disch := omega) only [jI_lit, jI_neg, jI_add, jI_sub, jI_mul, o_gI, o_gR, o_pI, o_pZ0, o_pZ1, o_pZb, o_pR, o_aI, o_qI, o_aN, tn, va_up_self, va_up_ne, upup, jI_shr1, jI_shr4, jI_shr0, jI_and1, jI_and15, jI_join, jI_240, jI_hi, jF_at, jF_up, jI_max, jI_min, b2_t, b2_f, Bool.not_true, Bool.not_false, eq_self, true_or, or_true, h7, i3a, i6, ra, w1, w2, hs, r3, h6, h8, h9, e1, b4]) <;> with_reducible rfl))) | (with_reducible apply q_nz; · ((simp (disch := omega) only [jI_lit, jI_neg, jI_add, jI_sub, jI_mul, jI_lt, jI_le, jI_eq, va_up_self, va_up_ne, jI_shr1, jI_shr4, jI_shr0, jI_and1, jI_and15, jF_at, tn, b2_t, b2_f, cmp_ge, cmp_gt, cmp_le, cmp_lt, cmp_eq, jL_lit, jL_lt, jL_le, jL_eq, h7, i3a, i6, ra, w1, w2, hs, r3, h6, h8, h9, e1, b4]) <;> omega)) | (with_reducible apply q_rz; · (first | exact b2_01 _ | decide)))) <;> (first | with_reducible rfl | ((simp (disch := omega) only [jI_lit, jI_neg, jI_add, jI_sub, jI_mul, o_gI, o_gR, o_pI, o_pZ0, o_pZ1, o_pZb, o_pR, o_aI, o_qI, o_aN, tn, va_up_self, va_up_ne, upup, jI_shr1, jI_shr4, jI_shr0, jI_and1, jI_and15, jI_join, jI_240, jI_hi, jF_at, jF_up, jI_max, jI_min, b2_t, b2_f, Bool.not_true, Bool.not_false, eq_self, true_or, or_true, h7, i3a, i6, ra, w1, w2, hs, r3, h6, h8, h9, e1, b4]) <;> with_reducible rfl) | rfl))
  | true =>
    have hs : smT o = 15 := by rw [ho]; rfl
    rw [b2_t] at b4
    ((repeat (first | (with_reducible apply q_gd; · (first | assumption | omega)) | (with_reducible apply q_ob; · (first | with_reducible rfl | ((simp (disch := omega) only [jI_lit, jI_neg, jI_add, jI_sub, jI_mul, o_gI, o_gR, o_pI, o_pZ0, o_pZ1, o_pZb, o_pR, o_aI, o_qI, o_aN, tn, va_up_self, va_up_ne, upup, jI_shr1, jI_shr4, jI_shr0, jI_and1, jI_and15, jI_join, jI_240, jI_hi, jF_at, jF_up, jI_max, jI_min, b2_t, b2_f, Bool.not_true, Bool.not_false, eq_self, true_or, or_true, h7, i3a, i6, ra, w1, w2, hs, r3, h6, h8, h9, e1, b4]) <;> with_reducible rfl))) | (with_reducible apply q_ob2; · (first | with_reducible rfl | ((simp (disch := omega) only [jI_lit, jI_neg, jI_add, jI_sub, jI_mul, o_gI, o_gR, o_pI, o_pZ0, o_pZ1, o_pZb, o_pR, o_aI, o_qI, o_aN, tn, va_up_self, va_up_ne, upup, jI_shr1, jI_shr4, jI_shr0, jI_and1, jI_and15, jI_join, jI_240, jI_hi, jF_at, jF_up, jI_max, jI_min, b2_t, b2_f, Bool.not_true, Bool.not_false, eq_self, true_or, or_true, h7, i3a, i6, ra, w1, w2, hs, r3, h6, h8, h9, e1, b4]) <;> with_reducible rfl))) | (with_reducible apply q_lt; · (first | with_reducible rfl | ((simp (disch := omega) only [jI_lit, jI_neg, jI_add, jI_sub, jI_mul, o_gI, o_gR, o_pI, o_pZ0, o_pZ1, o_pZb, o_pR, o_aI, o_qI, o_aN, tn, va_up_self, va_up_ne, upup, jI_shr1, jI_shr4, jI_shr0, jI_and1, jI_and15, jI_join, jI_240, jI_hi, jF_at, jF_up, jI_max, jI_min, b2_t, b2_f, Bool.not_true, Bool.not_false, eq_self, true_or, or_true, h7, i3a, i6, ra, w1, w2, hs, r3, h6, h8, h9, e1, b4]) <;> with_reducible rfl))) | (with_reducible apply q_ifp; · ((simp (disch := omega) only [jI_lit, jI_neg, jI_add, jI_sub, jI_mul, jI_lt, jI_le, jI_eq, va_up_self, va_up_ne, jI_shr1, jI_shr4, jI_shr0, jI_and1, jI_and15, jF_at, tn, b2_t, b2_f, cmp_ge, cmp_gt, cmp_le, cmp_lt, cmp_eq, jL_lit, jL_lt, jL_le, jL_eq, h7, i3a, i6, ra, w1, w2, hs, r3, h6, h8, h9, e1, b4]) <;> omega)) | (with_reducible apply q_ifn; · ((simp (disch := omega) only [jI_lit, jI_neg, jI_add, jI_sub, jI_mul, jI_lt, jI_le, jI_eq, va_up_self, va_up_ne, jI_shr1, jI_shr4, jI_shr0, jI_and1, jI_and15, jF_at, tn, b2_t, b2_f, cmp_ge, cmp_gt, cmp_le, cmp_lt, cmp_eq, jL_lit, jL_lt, jL_le, jL_eq, h7, i3a, i6, ra, w1, w2, hs, r3, h6, h8, h9, e1, b4]) <;> omega)) | (with_reducible apply q_obk; · (first | with_reducible rfl | ((simp (disch := omega) only [jI_lit, jI_neg, jI_add, jI_sub, jI_mul, o_gI, o_gR, o_pI, o_pZ0, o_pZ1, o_pZb, o_pR, o_aI, o_qI, o_aN, tn, va_up_self, va_up_ne, upup, jI_shr1, jI_shr4, jI_shr0, jI_and1, jI_and15, jI_join, jI_240, jI_hi, jF_at, jF_up, jI_max, jI_min, b2_t, b2_f, Bool.not_true, Bool.not_false, eq_self, true_or, or_true, h7, i3a, i6, ra, w1, w2, hs, r3, h6, h8, h9, e1, b4]) <;> with_reducible rfl))) | (with_reducible apply q_nz; · ((simp (disch := omega) only [jI_lit, jI_neg, jI_add, jI_sub, jI_mul, jI_lt, jI_le, jI_eq, va_up_self, va_up_ne, jI_shr1, jI_shr4, jI_shr0, jI_and1, jI_and15, jF_at, tn, b2_t, b2_f, cmp_ge, cmp_gt, cmp_le, cmp_lt, cmp_eq, jL_lit, jL_lt, jL_le, jL_eq, h7, i3a, i6, ra, w1, w2, hs, r3, h6, h8, h9, e1, b4]) <;> omega)) | (with_reducible apply q_rz; · (first | exact b2_01 _ | decide)))) <;> (first | with_reducible rfl | ((simp (disch := omega) only [jI_lit, jI_neg, jI_add, jI_sub, jI_mul, o_gI, o_gR, o_pI, o_pZ0, o_pZ1, o_pZb, o_pR, o_aI, o_qI, o_aN, tn, va_up_self, va_up_ne, upup, jI_shr1, jI_shr4, jI_shr0, jI_and1, jI_and15, jI_join, jI_240, jI_hi, jF_at, jF_up, jI_max, jI_min, b2_t, b2_f, Bool.not_true, Bool.not_false, eq_self, true_or, or_true, h7, i3a, i6, ra, w1, w2, hs, r3, h6, h8, h9, e1, b4]) <;> with_reducible rfl) | rfl))
set_option maxHeartbeats 4000000 in
theorem e_pfEdit {p x a k many : Nat} {P : PG} {r g : Nat → Int} {mk : Bool} (h : CTX K I R N p x a P r g k many) (ho : P 0 k = if mk then 13 else 12) :
    PO K I R L N w p x g (fX9_perform p (K, I, R, L, N, w)) (prf P r k) (if P 0 k = 24 then 1 else 0) (r 273 = -1) := by
  obtain ⟨fA, fB, px, w1, w2, ra⟩ := CTX_px h
  have ho2 : P 0 k = 12 ∨ P 0 k = 13 := by rw [ho]; cases mk <;> simp
  obtain ⟨eA, eN, hA, hn1⟩ := fA (by omega)
  obtain ⟨pc, h6, h7, ins, pg, hr, hI, hb, hg, h264, h8, h9, h10, h12, h13, hx, ha, hax, ck⟩ := h
  have lr := ln_r pg
  have br := opB_r P r k
  rw [clA_op (by omega), eA] at h8
  obtain ⟨ka, ra', i1, i2, i3, i4, i5, i6, -⟩ := ins
  have i3' : I a 3 = jI ((lnA P k).toNat : Int) := by rw [i3, ← eN]
  have pc' := pc
  obtain ⟨k8, r0, r1, r2, r3, r4, k14, n14, d1, d2, d3, ed⟩ := pc
  have k7 := ed.1
  have lB : lnB P k = 0 := by omega
  rw [lB] at i6
  have ee := e_edit (L := L) (w := w) (src := opB P r k) ed hr hI (cls_byt hb) (by omega) (by omega) (by omega) hA (by omega) hn1 br.1 br.2
  rw [edS_cls hA hn1 _ (Nat.le_refl _)] at ee
  have pe := prf_eq P r k
  rw [if_neg (by omega), if_neg (by omega), if_neg (by omega), if_neg (by omega), if_neg (by omega), if_neg (by omega), if_neg (by omega), if_neg (by omega), if_neg (by omega), if_pos ho2] at pe
  rw [if_neg (show ¬ P 0 k = 24 by omega)]
  obtain ⟨R1, hR1⟩ : ∃ R1, R1 = va_up R (p + 7) (va_up (R (p + 7)) 4 x) := ⟨_, rfl⟩
  have hRp : R1 p = R p := by rw [hR1, va_up_ne _ _ (by omega)]
  have hRa : R1 a = R a := by rw [hR1, va_up_ne _ _ (by omega)]
  have pc1 : Pc K R1 N p := by rw [hR1]; exact pc_up pc'
  have hr1 : Rw K R1 N x := by rw [hR1]; exact Rw_upR hr (by omega)
  rw [← hR1] at ee
  have fR1 : ∀ y, y ≠ p + 7 → R1 y = R y := fun y hy => by rw [hR1, va_up_ne _ _ hy]
  have fR2 : ∀ j, j ≠ 4 → R1 (p + 7) j = R (p + 7) j := fun j hj => by rw [hR1, va_up_self, va_up_ne _ _ hj]
  have i3a := i3'
  cases hS : edS r (opA P r k).toNat (opB P r k) (lnA P k).toNat with
  | inl b =>
    obtain ⟨cc, sx, u⟩ := b
    rw [hS] at ee pe
    obtain ⟨f, sv, e1, e2, e3, e4⟩ := ee.1 cc sx (cls u g) rfl
    have hu := edS_inl hb (by omega) _ hS
    rw [pe]
    change PO K I R L N w p x g (fX9_perform p (K, I, R, L, N, w)) (r, some (cc, 1, sx, 1, (if cc = 4 then 2 * sx else -1), if cc = 4 then u sx.toNat / 16 else 0), (k : Int) + 1) 0 (r 273 = -1)
    clear ee pe
    obtain ⟨M, hM⟩ : ∃ M, M = va_up (va_up I (p + 7 + 1) sv) (p + 7) f := ⟨_, rfl⟩
    have hMy : ∀ y, y ≠ p + 7 → y ≠ p + 8 → M y = I y := fun y h1 h2 => by rw [hM, va_up_ne _ _ h1, va_up_ne _ _ h2]
    have hM7 : M (p + 7) = f := by rw [hM, va_up_self]
    rw [← hM] at e1
    have hMp := hMy p (by omega) (by omega)
    have hMa := hMy a (by omega) (by omega)
    obtain ⟨M2, hM2⟩ : ∃ M2, M2 = va_up M p (va_up (I p) 9 (jI sx)) := ⟨_, rfl⟩
    have hM2y : ∀ y, y ≠ p → M2 y = M y := fun y h1 => by rw [hM2, va_up_ne _ _ h1]
    have hM2p : M2 p = va_up (I p) 9 (jI sx) := by rw [hM2, va_up_self]
    -- the half, if it is told
    obtain ⟨s1, b1, bb2⟩ : ∃ s1, fX9_blameHalf p (jI (2 * sx)) (f 8 >>> (jI 4 &&& jI 31)) (K, M2, R1, L, N, w) = some (K, va_up M2 (p + 14) s1, R1, L, N, w) ∧ (cc = 4 → s1 = rsh (I (p + 14)) (2 * sx) (u sx.toNat / 16)) := by
      by_cases c4 : cc = 4
      · obtain ⟨s0, s9⟩ := hu.2 c4
        have hus := hu.1 sx.toNat (by omega)
        rw [e3 c4, cls_lo (by omega) (by omega), jI_shr4 (by omega) (by omega)]
        have := e_blameHalf (I := M2) (L := L) (w := w) (v := u sx.toNat / 16) pc1 (h := 2 * sx) (by omega) (by omega)
        rw [hM2y _ (by omega), hMy _ (by omega) (by omega)] at this
        exact ⟨_, this, fun _ => rfl⟩
      · refine ⟨va_up (va_up (va_up (M2 (p + 14)) 6 (jI (2 * sx) >>> (jI 1 &&& jI 31))) 7 (jI (2 * sx) &&& jI 1)) 8 (f 8 >>> (jI 4 &&& jI 31)), ?_, fun q => absurd q c4⟩
        obtain ⟨-, -, -, -, -, r4', -⟩ := pc1
        unfold fX9_blameHalf
        rw [o_gd _ k8, o_gR k8, o_ob, r4', o_lit6, o_qI k14 (by omega) (by omega) (by omega), o_ob, o_gR k8, o_ob, r4', o_lit7, o_qI k14 (by omega) (by omega) (by omega), o_ob, o_gR k8, o_ob, r4', o_lit8, o_qI k14 (by omega) (by omega) (by omega), o_ob]
        simp only [va_up_self, upup]
        rfl
    obtain ⟨M3, hM3⟩ : ∃ M3, M3 = va_up M2 (p + 14) s1 := ⟨_, rfl⟩
    have hM3y : ∀ y, y ≠ p + 14 → M3 y = M2 y := fun y h1 => by rw [hM3, va_up_ne _ _ h1]
    have hM3s : M3 (p + 14) = s1 := by rw [hM3, va_up_self]
    rw [← hM3] at b1
    have b3 := e_blame1 (I := M3) (L := L) (w := w) (c := cc) (A := sx) (n := 0) pc1 (by rw [hRp]; exact h7) ka (by rw [hM3y _ (by omega), hM2p, va_up_self]) (by rw [hM3y _ (by omega), hM2y _ (by omega), hMa]; exact i6) (by omega)
    rw [hM3s] at b3
    have c0 : ¬ cc = 0 := by omega
    have b4 : fX9_edited p (jI cc) (jI (b2 mk)) (K, M, R1, L, N, w) = some (jI cc, (K, va_up M3 (p + 14) (va_up (rsn s1 1 sx 0) 5 (jI 1)), R1, L, N, w)) := by
      have r3' : R1 p 3 = p + 7 := by rw [hRp]; exact r3
      have r4' : R1 p 4 = p + 14 := by rw [hRp]; exact r4
      have l1 := e_looked (I := M) (R := R1) (L := L) (N := N) (w := w) k7
      rw [hM7, e2] at l1
      have l2 := e_heldE (I := M2) (R := R1) (L := L) (N := N) (w := w) k7
      rw [hM2y _ (by omega), hM7] at l2
      have hpI : pI 8 p 9 (jI sx) (K, M, R1, L, N, w) = some (K, M2, R1, L, N, w) := by rw [o_pI k8, hMp, ← hM2]
      have hg9 : M2 p 9 = jI sx := by rw [hM2p, va_up_self]
      clear hM hM2 hM3 e1
      unfold fX9_edited
      ((repeat (first | (with_reducible apply q_gd; · (first | assumption | omega)) | (with_reducible apply q_ob; · (first | with_reducible rfl | ((simp (disch := omega) only [jI_lit, jI_neg, jI_add, jI_sub, jI_mul, o_gI, o_gR, o_pI, o_pZ0, o_pZ1, o_pZb, o_pR, o_aI, o_qI, o_aN, tn, va_up_self, va_up_ne, upup, jI_shr1, jI_shr4, jI_shr0, jI_and1, jI_and15, jI_join, jI_240, jI_hi, jF_at, jF_up, jI_max, jI_min, b2_t, b2_f, Bool.not_true, Bool.not_false, eq_self, true_or, or_true, r3', r4', l1, hpI, hg9, l2, b1, b3]) <;> with_reducible rfl))) | (with_reducible apply q_ob2; · (first | with_reducible rfl | ((simp (disch := omega) only [jI_lit, jI_neg, jI_add, jI_sub, jI_mul, o_gI, o_gR, o_pI, o_pZ0, o_pZ1, o_pZb, o_pR, o_aI, o_qI, o_aN, tn, va_up_self, va_up_ne, upup, jI_shr1, jI_shr4, jI_shr0, jI_and1, jI_and15, jI_join, jI_240, jI_hi, jF_at, jF_up, jI_max, jI_min, b2_t, b2_f, Bool.not_true, Bool.not_false, eq_self, true_or, or_true, r3', r4', l1, hpI, hg9, l2, b1, b3]) <;> with_reducible rfl))) | (with_reducible apply q_lt; · (first | with_reducible rfl | ((simp (disch := omega) only [jI_lit, jI_neg, jI_add, jI_sub, jI_mul, o_gI, o_gR, o_pI, o_pZ0, o_pZ1, o_pZb, o_pR, o_aI, o_qI, o_aN, tn, va_up_self, va_up_ne, upup, jI_shr1, jI_shr4, jI_shr0, jI_and1, jI_and15, jI_join, jI_240, jI_hi, jF_at, jF_up, jI_max, jI_min, b2_t, b2_f, Bool.not_true, Bool.not_false, eq_self, true_or, or_true, r3', r4', l1, hpI, hg9, l2, b1, b3]) <;> with_reducible rfl))) | (with_reducible apply q_ifp; · ((simp (disch := omega) only [jI_lit, jI_neg, jI_add, jI_sub, jI_mul, jI_lt, jI_le, jI_eq, va_up_self, va_up_ne, jI_shr1, jI_shr4, jI_shr0, jI_and1, jI_and15, jF_at, tn, b2_t, b2_f, cmp_ge, cmp_gt, cmp_le, cmp_lt, cmp_eq, jL_lit, jL_lt, jL_le, jL_eq, r3', r4', l1, hpI, hg9, l2, b1, b3]) <;> omega)) | (with_reducible apply q_ifn; · ((simp (disch := omega) only [jI_lit, jI_neg, jI_add, jI_sub, jI_mul, jI_lt, jI_le, jI_eq, va_up_self, va_up_ne, jI_shr1, jI_shr4, jI_shr0, jI_and1, jI_and15, jF_at, tn, b2_t, b2_f, cmp_ge, cmp_gt, cmp_le, cmp_lt, cmp_eq, jL_lit, jL_lt, jL_le, jL_eq, r3', r4', l1, hpI, hg9, l2, b1, b3]) <;> omega)) | (with_reducible apply q_obk; · (first | with_reducible rfl | ((simp (disch := omega) only [jI_lit, jI_neg, jI_add, jI_sub, jI_mul, o_gI, o_gR, o_pI, o_pZ0, o_pZ1, o_pZb, o_pR, o_aI, o_qI, o_aN, tn, va_up_self, va_up_ne, upup, jI_shr1, jI_shr4, jI_shr0, jI_and1, jI_and15, jI_join, jI_240, jI_hi, jF_at, jF_up, jI_max, jI_min, b2_t, b2_f, Bool.not_true, Bool.not_false, eq_self, true_or, or_true, r3', r4', l1, hpI, hg9, l2, b1, b3]) <;> with_reducible rfl))) | (with_reducible apply q_nz; · ((simp (disch := omega) only [jI_lit, jI_neg, jI_add, jI_sub, jI_mul, jI_lt, jI_le, jI_eq, va_up_self, va_up_ne, jI_shr1, jI_shr4, jI_shr0, jI_and1, jI_and15, jF_at, tn, b2_t, b2_f, cmp_ge, cmp_gt, cmp_le, cmp_lt, cmp_eq, jL_lit, jL_lt, jL_le, jL_eq, r3', r4', l1, hpI, hg9, l2, b1, b3]) <;> omega)) | (with_reducible apply q_rz; · (first | exact b2_01 _ | decide)))) <;> (first | with_reducible rfl | ((simp (disch := omega) only [jI_lit, jI_neg, jI_add, jI_sub, jI_mul, o_gI, o_gR, o_pI, o_pZ0, o_pZ1, o_pZb, o_pR, o_aI, o_qI, o_aN, tn, va_up_self, va_up_ne, upup, jI_shr1, jI_shr4, jI_shr0, jI_and1, jI_and15, jI_join, jI_240, jI_hi, jF_at, jF_up, jI_max, jI_min, b2_t, b2_f, Bool.not_true, Bool.not_false, eq_self, true_or, or_true, r3', r4', l1, hpI, hg9, l2, b1, b3]) <;> with_reducible rfl) | rfl))
    refine ⟨va_up M3 (p + 14) (va_up (rsn s1 1 sx 0) 5 (jI 1)), R1, cc, ?_, ?_, ?_, ?_, ?_, fR1, fR2, (fun q => nomatch q), ?_⟩
    · obtain ⟨v1, -⟩ := wd_o pg.1.1 pg.1.2
      exact e_perfEd k8 ka k7 ho ra v1 w2 h7 i3a i6 r3 h6 h8 h9 (by omega) (by omega) (by omega) e1 b4
    · rw [va_up_ne _ _ (by omega), hM3y _ (by omega), hM2y _ (by omega), hMy _ (by omega) (by omega)]; exact hI
    · rw [va_up_ne _ _ (by omega), hM3y _ (by omega), hM2p, va_up_ne _ _ (by omega)]; exact h12
    · rw [va_up_ne _ _ (by omega), hM3y _ (by omega), hM2p, va_up_ne _ _ (by omega)]; exact h13
    · intro y hy hy2
      rw [va_up_ne _ _ (by omega), hM3y _ (by omega), hM2y _ (by omega), hMy _ (by omega) (by omega)]
    · intro F hF
      cases hF
      refine ⟨rfl, ?_⟩
      rw [va_up_self]
      unfold rsn
      refine ⟨?_, ?_, va_up_self _ _ _, fun hh => ?_⟩
      · simp (disch := omega) only [va_up_ne, va_up_self]
      · simp (disch := omega) only [va_up_ne, va_up_self]
      · have c4 : cc = 4 := by
          apply Decidable.byContradiction
          intro hc
          exact hh (if_neg hc)
        rw [bb2 c4]
        unfold rsh
        simp only [if_pos c4]
        refine ⟨?_, ?_, ?_⟩
        all_goals simp (disch := omega) only [va_up_ne, va_up_self]
  | inr s' =>
    obtain ⟨u, src', waits, seen, any, mark⟩ := s'
    rw [hS] at ee pe
    obtain ⟨f, sv, e1, e2⟩ := ee.2 (cls u g, src', waits, seen, any, mark) rfl
    rw [pe]
    change PO K I R L N w p x g (fX9_perform p (K, I, R, L, N, w)) ((if P 0 k = 13 ∧ mark ≠ -1 then va_up (va_up u 264 (if any then (if seen then 1 else 2) else 0)) 257 mark else va_up u 264 (if any then (if seen then 1 else 2) else 0)), none, (k : Int) + 1) 0 (r 273 = -1)
    clear ee pe
    obtain ⟨g5, g6, gw, g11, g12, g13, -⟩ := e2
    simp only [] at g11 g12 g13
    obtain ⟨M, hM⟩ : ∃ M, M = va_up (va_up (va_up I (p + 7 + 1) sv) (p + 7) f) (x + 1) (jF (cls u g)) := ⟨_, rfl⟩
    have hMy : ∀ y, y ≠ p + 7 → y ≠ p + 8 → y ≠ x + 1 → M y = I y := fun y h1 h2 h3 => by rw [hM, va_up_ne _ _ h3, va_up_ne _ _ h1, va_up_ne _ _ h2]
    have hM7 : M (p + 7) = f := by rw [hM, va_up_ne _ _ (by omega), va_up_self]
    have hMx : M (x + 1) = jF (cls u g) := by rw [hM, va_up_self]
    have e1' : fX3_edit (p + 7) x (jI ((opA P r k).toNat : Int)) (jI ((lnA P k).toNat : Int)) (jI (opB P r k)) (K, I, R, L, N, w) = some (jI 0, (K, M, R1, L, N, w)) := by rw [hM]; exact e1
    have hMp := hMy p (by omega) (by omega) (by omega)
    have ec := e_cond (I := M) (R := R1) (L := L) (N := N) (w := w) (any := any) (seen := seen) k7 (by rw [hM7]; exact g12) (by rw [hM7]; exact g11)
    obtain ⟨cv, hcv⟩ : ∃ cv : Int, cv = (if any then (if seen then 1 else 2) else 0) := ⟨_, rfl⟩
    rw [← hcv] at ec ⊢
    have r3' : R1 p 3 = p + 7 := by rw [hRp]; exact r3
    have h6' : R1 p 6 = x := by rw [hRp]; exact h6
    have ep : fX10_put x (jI 264) (jI cv) (K, M, R1, L, N, w) = some (K, va_up M (x + 1) (jF (cls (va_up u 264 cv) g)), R1, L, N, w) := by
      rw [e_put hr1 (by omega) (by omega), hMx, tn, jF_up, cls_up_lo (by omega) (by omega)]
    obtain ⟨M2, hM2⟩ : ∃ M2, M2 = va_up M (x + 1) (jF (cls (va_up u 264 cv) g)) := ⟨_, rfl⟩
    have hM2y : ∀ y, y ≠ x + 1 → M2 y = M y := fun y h1 => by rw [hM2, va_up_ne _ _ h1]
    have hM2x : M2 (x + 1) = jF (cls (va_up u 264 cv) g) := by rw [hM2, va_up_self]
    rw [← hM2] at ep
    have hm2 := e_marked (I := M2) (R := R1) (L := L) (N := N) (w := w) k7
    rw [hM2y _ (by omega), hM7, g13] at hm2
    have ep2 : fX10_put x (jI 257) (jI mark) (K, M2, R1, L, N, w) = some (K, va_up M2 (x + 1) (jF (cls (va_up (va_up u 264 cv) 257 mark) g)), R1, L, N, w) := by
      rw [e_put hr1 (by omega) (by omega), hM2x, tn, jF_up, cls_up_lo (by omega) (by omega)]
    have hmk : mark = -1 ∨ (0 ≤ mark ∧ mark < 256) := edS_mark (by omega) hS
    obtain ⟨w1, -⟩ := wd_o pg.1.1 pg.1.2
    have fin : ∀ M9 : Nat → Nat → Int32, (∀ y, y ≠ x + 1 → M9 y = M y) → M9 (x + 1) = jF (cls (if P 0 k = 13 ∧ mark ≠ -1 then va_up (va_up u 264 cv) 257 mark else va_up u 264 cv) g) → fX9_perform p (K, I, R, L, N, w) = some (jI 0, (K, M9, R1, L, N, w)) → PO K I R L N w p x g (fX9_perform p (K, I, R, L, N, w)) ((if P 0 k = 13 ∧ mark ≠ -1 then va_up (va_up u 264 cv) 257 mark else va_up u 264 cv), none, (k : Int) + 1) 0 (r 273 = -1) := by
      intro M9 q1 q2 q3
      refine ⟨M9, R1, 0, q3, q2, ?_, ?_, ?_, fR1, fR2, fun _ => Or.inl rfl, (fun _ q => nomatch q)⟩
      · rw [q1 _ (by omega), hMp]; exact h12
      · rw [q1 _ (by omega), hMp]; exact h13
      · intro y hy hy2
        rw [q1 y hy2, hMy y (by omega) (by omega) hy2]
    have perf : ∀ M9 : Nat → Nat → Int32, fX9_edited p (jI 0) (jI (b2 mk)) (K, M, R1, L, N, w) = some (jI 0, (K, M9, R1, L, N, w)) → fX9_perform p (K, I, R, L, N, w) = some (jI 0, (K, M9, R1, L, N, w)) := by
      intro M9 b4
      exact e_perfEd k8 ka k7 ho ra w1 w2 h7 i3a i6 r3 h6 h8 h9 (by omega) (by omega) (by omega) e1' b4
    cases mk with
    | false =>
      have n13 : ¬ (P 0 k = 13 ∧ mark ≠ -1) := fun q => by rw [ho] at q; exact absurd q.1 (by decide)
      refine fin M2 hM2y (by rw [if_neg n13]; exact hM2x) (perf M2 ?_)
      clear hM hM2 fin perf n13 e1 ep2 hm2 gw lr ck
      unfold fX9_edited
      ((repeat (first | (with_reducible apply q_gd; · (first | assumption | omega)) | (with_reducible apply q_ob; · (first | with_reducible rfl | ((simp (disch := omega) only [jI_lit, jI_neg, jI_add, jI_sub, jI_mul, o_gI, o_gR, o_pI, o_pZ0, o_pZ1, o_pZb, o_pR, o_aI, o_qI, o_aN, tn, va_up_self, va_up_ne, upup, jI_shr1, jI_shr4, jI_shr0, jI_and1, jI_and15, jI_join, jI_240, jI_hi, jF_at, jF_up, jI_max, jI_min, b2_t, b2_f, Bool.not_true, Bool.not_false, eq_self, true_or, or_true, r3', h6', ec, ep]) <;> with_reducible rfl))) | (with_reducible apply q_ob2; · (first | with_reducible rfl | ((simp (disch := omega) only [jI_lit, jI_neg, jI_add, jI_sub, jI_mul, o_gI, o_gR, o_pI, o_pZ0, o_pZ1, o_pZb, o_pR, o_aI, o_qI, o_aN, tn, va_up_self, va_up_ne, upup, jI_shr1, jI_shr4, jI_shr0, jI_and1, jI_and15, jI_join, jI_240, jI_hi, jF_at, jF_up, jI_max, jI_min, b2_t, b2_f, Bool.not_true, Bool.not_false, eq_self, true_or, or_true, r3', h6', ec, ep]) <;> with_reducible rfl))) | (with_reducible apply q_lt; · (first | with_reducible rfl | ((simp (disch := omega) only [jI_lit, jI_neg, jI_add, jI_sub, jI_mul, o_gI, o_gR, o_pI, o_pZ0, o_pZ1, o_pZb, o_pR, o_aI, o_qI, o_aN, tn, va_up_self, va_up_ne, upup, jI_shr1, jI_shr4, jI_shr0, jI_and1, jI_and15, jI_join, jI_240, jI_hi, jF_at, jF_up, jI_max, jI_min, b2_t, b2_f, Bool.not_true, Bool.not_false, eq_self, true_or, or_true, r3', h6', ec, ep]) <;> with_reducible rfl))) | (with_reducible apply q_ifp; · ((simp (disch := omega) only [jI_lit, jI_neg, jI_add, jI_sub, jI_mul, jI_lt, jI_le, jI_eq, va_up_self, va_up_ne, jI_shr1, jI_shr4, jI_shr0, jI_and1, jI_and15, jF_at, tn, b2_t, b2_f, cmp_ge, cmp_gt, cmp_le, cmp_lt, cmp_eq, jL_lit, jL_lt, jL_le, jL_eq, r3', h6', ec, ep]) <;> omega)) | (with_reducible apply q_ifn; · ((simp (disch := omega) only [jI_lit, jI_neg, jI_add, jI_sub, jI_mul, jI_lt, jI_le, jI_eq, va_up_self, va_up_ne, jI_shr1, jI_shr4, jI_shr0, jI_and1, jI_and15, jF_at, tn, b2_t, b2_f, cmp_ge, cmp_gt, cmp_le, cmp_lt, cmp_eq, jL_lit, jL_lt, jL_le, jL_eq, r3', h6', ec, ep]) <;> omega)) | (with_reducible apply q_obk; · (first | with_reducible rfl | ((simp (disch := omega) only [jI_lit, jI_neg, jI_add, jI_sub, jI_mul, o_gI, o_gR, o_pI, o_pZ0, o_pZ1, o_pZb, o_pR, o_aI, o_qI, o_aN, tn, va_up_self, va_up_ne, upup, jI_shr1, jI_shr4, jI_shr0, jI_and1, jI_and15, jI_join, jI_240, jI_hi, jF_at, jF_up, jI_max, jI_min, b2_t, b2_f, Bool.not_true, Bool.not_false, eq_self, true_or, or_true, r3', h6', ec, ep]) <;> with_reducible rfl))) | (with_reducible apply q_nz; · ((simp (disch := omega) only [jI_lit, jI_neg, jI_add, jI_sub, jI_mul, jI_lt, jI_le, jI_eq, va_up_self, va_up_ne, jI_shr1, jI_shr4, jI_shr0, jI_and1, jI_and15, jF_at, tn, b2_t, b2_f, cmp_ge, cmp_gt, cmp_le, cmp_lt, cmp_eq, jL_lit, jL_lt, jL_le, jL_eq, r3', h6', ec, ep]) <;> omega)) | (with_reducible apply q_rz; · (first | exact b2_01 _ | decide)))) <;> (first | with_reducible rfl | ((simp (disch := omega) only [jI_lit, jI_neg, jI_add, jI_sub, jI_mul, o_gI, o_gR, o_pI, o_pZ0, o_pZ1, o_pZb, o_pR, o_aI, o_qI, o_aN, tn, va_up_self, va_up_ne, upup, jI_shr1, jI_shr4, jI_shr0, jI_and1, jI_and15, jI_join, jI_240, jI_hi, jF_at, jF_up, jI_max, jI_min, b2_t, b2_f, Bool.not_true, Bool.not_false, eq_self, true_or, or_true, r3', h6', ec, ep]) <;> with_reducible rfl) | rfl))
    | true =>
      by_cases c1 : mark = -1
      · have n13 : ¬ (P 0 k = 13 ∧ mark ≠ -1) := fun q => q.2 c1
        refine fin M2 hM2y (by rw [if_neg n13]; exact hM2x) (perf M2 ?_)
        clear hM hM2 fin perf n13 e1 ep2 gw lr ck
        unfold fX9_edited
        ((repeat (first | (with_reducible apply q_gd; · (first | assumption | omega)) | (with_reducible apply q_ob; · (first | with_reducible rfl | ((simp (disch := omega) only [jI_lit, jI_neg, jI_add, jI_sub, jI_mul, o_gI, o_gR, o_pI, o_pZ0, o_pZ1, o_pZb, o_pR, o_aI, o_qI, o_aN, tn, va_up_self, va_up_ne, upup, jI_shr1, jI_shr4, jI_shr0, jI_and1, jI_and15, jI_join, jI_240, jI_hi, jF_at, jF_up, jI_max, jI_min, b2_t, b2_f, Bool.not_true, Bool.not_false, eq_self, true_or, or_true, r3', h6', ec, ep, hm2, c1]) <;> with_reducible rfl))) | (with_reducible apply q_ob2; · (first | with_reducible rfl | ((simp (disch := omega) only [jI_lit, jI_neg, jI_add, jI_sub, jI_mul, o_gI, o_gR, o_pI, o_pZ0, o_pZ1, o_pZb, o_pR, o_aI, o_qI, o_aN, tn, va_up_self, va_up_ne, upup, jI_shr1, jI_shr4, jI_shr0, jI_and1, jI_and15, jI_join, jI_240, jI_hi, jF_at, jF_up, jI_max, jI_min, b2_t, b2_f, Bool.not_true, Bool.not_false, eq_self, true_or, or_true, r3', h6', ec, ep, hm2, c1]) <;> with_reducible rfl))) | (with_reducible apply q_lt; · (first | with_reducible rfl | ((simp (disch := omega) only [jI_lit, jI_neg, jI_add, jI_sub, jI_mul, o_gI, o_gR, o_pI, o_pZ0, o_pZ1, o_pZb, o_pR, o_aI, o_qI, o_aN, tn, va_up_self, va_up_ne, upup, jI_shr1, jI_shr4, jI_shr0, jI_and1, jI_and15, jI_join, jI_240, jI_hi, jF_at, jF_up, jI_max, jI_min, b2_t, b2_f, Bool.not_true, Bool.not_false, eq_self, true_or, or_true, r3', h6', ec, ep, hm2, c1]) <;> with_reducible rfl))) | (with_reducible apply q_ifp; · ((simp (disch := omega) only [jI_lit, jI_neg, jI_add, jI_sub, jI_mul, jI_lt, jI_le, jI_eq, va_up_self, va_up_ne, jI_shr1, jI_shr4, jI_shr0, jI_and1, jI_and15, jF_at, tn, b2_t, b2_f, cmp_ge, cmp_gt, cmp_le, cmp_lt, cmp_eq, jL_lit, jL_lt, jL_le, jL_eq, r3', h6', ec, ep, hm2, c1]) <;> omega)) | (with_reducible apply q_ifn; · ((simp (disch := omega) only [jI_lit, jI_neg, jI_add, jI_sub, jI_mul, jI_lt, jI_le, jI_eq, va_up_self, va_up_ne, jI_shr1, jI_shr4, jI_shr0, jI_and1, jI_and15, jF_at, tn, b2_t, b2_f, cmp_ge, cmp_gt, cmp_le, cmp_lt, cmp_eq, jL_lit, jL_lt, jL_le, jL_eq, r3', h6', ec, ep, hm2, c1]) <;> omega)) | (with_reducible apply q_obk; · (first | with_reducible rfl | ((simp (disch := omega) only [jI_lit, jI_neg, jI_add, jI_sub, jI_mul, o_gI, o_gR, o_pI, o_pZ0, o_pZ1, o_pZb, o_pR, o_aI, o_qI, o_aN, tn, va_up_self, va_up_ne, upup, jI_shr1, jI_shr4, jI_shr0, jI_and1, jI_and15, jI_join, jI_240, jI_hi, jF_at, jF_up, jI_max, jI_min, b2_t, b2_f, Bool.not_true, Bool.not_false, eq_self, true_or, or_true, r3', h6', ec, ep, hm2, c1]) <;> with_reducible rfl))) | (with_reducible apply q_nz; · ((simp (disch := omega) only [jI_lit, jI_neg, jI_add, jI_sub, jI_mul, jI_lt, jI_le, jI_eq, va_up_self, va_up_ne, jI_shr1, jI_shr4, jI_shr0, jI_and1, jI_and15, jF_at, tn, b2_t, b2_f, cmp_ge, cmp_gt, cmp_le, cmp_lt, cmp_eq, jL_lit, jL_lt, jL_le, jL_eq, r3', h6', ec, ep, hm2, c1]) <;> omega)) | (with_reducible apply q_rz; · (first | exact b2_01 _ | decide)))) <;> (first | with_reducible rfl | ((simp (disch := omega) only [jI_lit, jI_neg, jI_add, jI_sub, jI_mul, o_gI, o_gR, o_pI, o_pZ0, o_pZ1, o_pZb, o_pR, o_aI, o_qI, o_aN, tn, va_up_self, va_up_ne, upup, jI_shr1, jI_shr4, jI_shr0, jI_and1, jI_and15, jI_join, jI_240, jI_hi, jF_at, jF_up, jI_max, jI_min, b2_t, b2_f, Bool.not_true, Bool.not_false, eq_self, true_or, or_true, r3', h6', ec, ep, hm2, c1]) <;> with_reducible rfl) | rfl))
      · have n13 : (P 0 k = 13 ∧ mark ≠ -1) := ⟨by rw [ho]; rfl, c1⟩
        refine fin (va_up M2 (x + 1) (jF (cls (va_up (va_up u 264 cv) 257 mark) g))) (fun y hy => by rw [va_up_ne _ _ hy, hM2y _ hy]) (by rw [if_pos n13, va_up_self]) (perf _ ?_)
        clear hM hM2 fin perf n13 e1 gw lr ck
        unfold fX9_edited
        ((repeat (first | (with_reducible apply q_gd; · (first | assumption | omega)) | (with_reducible apply q_ob; · (first | with_reducible rfl | ((simp (disch := omega) only [jI_lit, jI_neg, jI_add, jI_sub, jI_mul, o_gI, o_gR, o_pI, o_pZ0, o_pZ1, o_pZb, o_pR, o_aI, o_qI, o_aN, tn, va_up_self, va_up_ne, upup, jI_shr1, jI_shr4, jI_shr0, jI_and1, jI_and15, jI_join, jI_240, jI_hi, jF_at, jF_up, jI_max, jI_min, b2_t, b2_f, Bool.not_true, Bool.not_false, eq_self, true_or, or_true, r3', h6', ec, ep, hm2, ep2]) <;> with_reducible rfl))) | (with_reducible apply q_ob2; · (first | with_reducible rfl | ((simp (disch := omega) only [jI_lit, jI_neg, jI_add, jI_sub, jI_mul, o_gI, o_gR, o_pI, o_pZ0, o_pZ1, o_pZb, o_pR, o_aI, o_qI, o_aN, tn, va_up_self, va_up_ne, upup, jI_shr1, jI_shr4, jI_shr0, jI_and1, jI_and15, jI_join, jI_240, jI_hi, jF_at, jF_up, jI_max, jI_min, b2_t, b2_f, Bool.not_true, Bool.not_false, eq_self, true_or, or_true, r3', h6', ec, ep, hm2, ep2]) <;> with_reducible rfl))) | (with_reducible apply q_lt; · (first | with_reducible rfl | ((simp (disch := omega) only [jI_lit, jI_neg, jI_add, jI_sub, jI_mul, o_gI, o_gR, o_pI, o_pZ0, o_pZ1, o_pZb, o_pR, o_aI, o_qI, o_aN, tn, va_up_self, va_up_ne, upup, jI_shr1, jI_shr4, jI_shr0, jI_and1, jI_and15, jI_join, jI_240, jI_hi, jF_at, jF_up, jI_max, jI_min, b2_t, b2_f, Bool.not_true, Bool.not_false, eq_self, true_or, or_true, r3', h6', ec, ep, hm2, ep2]) <;> with_reducible rfl))) | (with_reducible apply q_ifp; · ((simp (disch := omega) only [jI_lit, jI_neg, jI_add, jI_sub, jI_mul, jI_lt, jI_le, jI_eq, va_up_self, va_up_ne, jI_shr1, jI_shr4, jI_shr0, jI_and1, jI_and15, jF_at, tn, b2_t, b2_f, cmp_ge, cmp_gt, cmp_le, cmp_lt, cmp_eq, jL_lit, jL_lt, jL_le, jL_eq, r3', h6', ec, ep, hm2, ep2]) <;> omega)) | (with_reducible apply q_ifn; · ((simp (disch := omega) only [jI_lit, jI_neg, jI_add, jI_sub, jI_mul, jI_lt, jI_le, jI_eq, va_up_self, va_up_ne, jI_shr1, jI_shr4, jI_shr0, jI_and1, jI_and15, jF_at, tn, b2_t, b2_f, cmp_ge, cmp_gt, cmp_le, cmp_lt, cmp_eq, jL_lit, jL_lt, jL_le, jL_eq, r3', h6', ec, ep, hm2, ep2]) <;> omega)) | (with_reducible apply q_obk; · (first | with_reducible rfl | ((simp (disch := omega) only [jI_lit, jI_neg, jI_add, jI_sub, jI_mul, o_gI, o_gR, o_pI, o_pZ0, o_pZ1, o_pZb, o_pR, o_aI, o_qI, o_aN, tn, va_up_self, va_up_ne, upup, jI_shr1, jI_shr4, jI_shr0, jI_and1, jI_and15, jI_join, jI_240, jI_hi, jF_at, jF_up, jI_max, jI_min, b2_t, b2_f, Bool.not_true, Bool.not_false, eq_self, true_or, or_true, r3', h6', ec, ep, hm2, ep2]) <;> with_reducible rfl))) | (with_reducible apply q_nz; · ((simp (disch := omega) only [jI_lit, jI_neg, jI_add, jI_sub, jI_mul, jI_lt, jI_le, jI_eq, va_up_self, va_up_ne, jI_shr1, jI_shr4, jI_shr0, jI_and1, jI_and15, jF_at, tn, b2_t, b2_f, cmp_ge, cmp_gt, cmp_le, cmp_lt, cmp_eq, jL_lit, jL_lt, jL_le, jL_eq, r3', h6', ec, ep, hm2, ep2]) <;> omega)) | (with_reducible apply q_rz; · (first | exact b2_01 _ | decide)))) <;> (first | with_reducible rfl | ((simp (disch := omega) only [jI_lit, jI_neg, jI_add, jI_sub, jI_mul, o_gI, o_gR, o_pI, o_pZ0, o_pZ1, o_pZb, o_pR, o_aI, o_qI, o_aN, tn, va_up_self, va_up_ne, upup, jI_shr1, jI_shr4, jI_shr0, jI_and1, jI_and15, jI_join, jI_240, jI_hi, jF_at, jF_up, jI_max, jI_min, b2_t, b2_f, Bool.not_true, Bool.not_false, eq_self, true_or, or_true, r3', h6', ec, ep, hm2, ep2]) <;> with_reducible rfl) | rfl))
end PF4
