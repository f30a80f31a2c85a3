section ED4
variable {K : Nat → Nat} {I : Nat → Nat → Int32} {R : Nat → Nat → Nat} {L : Nat → Nat → Int64} {N : Nat → Nat} {w : Nat × Nat × Nat × Nat}
theorem edS_s (r : Nat → Int) (p : Nat) (src : Int) (j : Nat) : edS r p src (j + 1) = match edS r p src j with
    | .inl x => .inl x
    | .inr s => edB (r p) (p + j) s := rfl
theorem edS_stay {r : Nat → Int} {p : Nat} {src : Int} {a : Int × Int × (Nat → Int)} {i : Nat} (h : edS r p src i = .inl a) : ∀ d, edS r p src (i + d) = .inl a
  | 0 => h
  | d + 1 => by
    show edS r p src ((i + d) + 1) = _
    rw [edS_s, edS_stay h d]
theorem edD_r {r : Nat → Int} (hb : Byt r) {src waits d src' waits' : Int} {above : Bool} (h1 : -1 ≤ waits) (h2 : waits < 10) (h : edD r src waits = .inr (d, above, src', waits')) : 0 ≤ d ∧ d < 10 := by
  unfold edD at h
  by_cases a : waits = -1
  · rw [if_neg (fun x => x a)] at h
    by_cases b : src < 0 ∨ 255 < src
    · rw [if_pos b] at h; exact nomatch h
    · rw [if_neg b] at h
      have := hb src.toNat (by omega)
      by_cases c : 9 < r src.toNat / 16
      · rw [if_pos c] at h; exact nomatch h
      · rw [if_neg c] at h
        cases h
        omega
  · rw [if_pos a] at h
    cases h
    omega
theorem edB_row {fill : Int} {k : Nat} {s s' : ES} (hb : Byt s.1) (hf1 : 0 ≤ fill) (hf2 : fill < 256) (h1 : -1 ≤ s.2.2.1) (h2 : s.2.2.1 < 10) (h : edB fill k s = .inr s') : Byt s'.1 ∧ ∀ j, j ≠ k → s'.1 j = s.1 j := by
  obtain ⟨r, src, waits, seen, any, mark⟩ := s
  have hbf := Byt_up hb k hf1 hf2
  by_cases c1 : r k = 32 ∨ r k = 33
  · have e : edB fill k (r, src, waits, seen, any, mark) = match edD r src waits with
      | .inl (c, x) => .inl (c, x, r)
      | .inr (d, above, src', waits') =>
        .inr (va_up r k (if d = 0 ∧ seen = false then fill else 240 + d), src', waits', !above && (seen || d != 0 || r k == 33), any || d != 0, if d ≠ 0 ∧ seen = false then (k : Int) else mark) := by
      unfold edB
      exact if_pos c1
    rw [e] at h
    cases hD : edD r src waits with
    | inl a => rw [hD] at h; exact nomatch h
    | inr a =>
      obtain ⟨d, above, src', waits'⟩ := a
      rw [hD] at h
      cases h
      have hd := edD_r hb h1 h2 hD
      refine ⟨?_, fun j hj => va_up_ne _ _ hj⟩
      show Byt (va_up r k (if d = 0 ∧ seen = false then fill else 240 + d))
      split
      · exact hbf
      · exact Byt_up hb _ (by omega) (by omega)
  · by_cases c2 : r k = 34
    · have e : edB fill k (r, src, waits, seen, any, mark) = .inr (va_up r k fill, src, waits, false, false, mark) := by
        unfold edB
        exact (if_neg c1).trans (if_pos c2)
      rw [e] at h
      cases h
      exact ⟨hbf, fun j hj => va_up_ne _ _ hj⟩
    · have e : edB fill k (r, src, waits, seen, any, mark) = .inr ((if seen then r else va_up r k fill), src, waits, seen, any, mark) := by
        unfold edB
        exact (if_neg c1).trans (if_neg c2)
      rw [e] at h
      cases h
      cases seen
      · exact ⟨hbf, fun j hj => va_up_ne _ _ hj⟩
      · exact ⟨hb, fun j _ => rfl⟩
theorem Rw_upR {a b : Nat} {f : Nat → Nat} (h : Rw K R N a) (hab : a ≠ b) : Rw K (va_up R b f) N a := by
  obtain ⟨h1, h2, h3, h4⟩ := h
  exact ⟨h1, by rw [va_up_ne _ _ hab]; exact h2, h3, h4⟩
theorem Dc_upR {a b : Nat} {f : Nat → Nat} (h : Dc K R N a) (hab : a ≠ b) : Dc K (va_up R b f) N a := by
  obtain ⟨h1, h2, h3, h4⟩ := h
  exact ⟨h1, by rw [va_up_ne _ _ hab]; exact h2, h3, h4⟩
theorem Ed_upR {a b : Nat} {f : Nat → Nat} (h : Ed K R N a) (hab : a ≠ b) : Ed K (va_up R b f) N a := by
  obtain ⟨h1, h2, h3, h4, h5, h6⟩ := h
  refine ⟨h1, ?_, ?_, ?_, ?_, h6⟩
  all_goals rw [va_up_ne _ _ hab]
  · exact h2
  · exact h3
  · exact h4
  · exact h5
theorem Ed_4 {a v : Nat} (h : Ed K R N a) : Ed K (va_up R a (va_up (R a) 4 v)) N a := by
  obtain ⟨h1, h2, h3, h4, h5, h6⟩ := h
  refine ⟨h1, ?_, ?_, ?_, ?_, h6⟩
  all_goals rw [va_up_self, va_up_ne _ _ (by omega)]
  · exact h2
  · exact h3
  · exact h4
  · exact h5
/-- a row as it was on so many of its places -/
def mixr (c r : Nat → Int) (p i : Nat) : Nat → Int := fun k => if p ≤ k ∧ k < p + i then c k else r k
theorem mixr_s (c r : Nat → Int) (p i : Nat) : va_up (mixr c r p i) (p + i) (c (p + i)) = mixr c r p (i + 1) := by
  funext k
  by_cases h : k = p + i
  · subst h
    rw [va_up_self]
    unfold mixr
    rw [if_pos (by omega)]
  · rw [va_up_ne _ _ h]
    unfold mixr
    by_cases q : p ≤ k ∧ k < p + i
    · rw [if_pos q, if_pos (by omega)]
    · rw [if_neg q, if_neg (by omega)]
theorem e_restore {e x p n : Nat} {c r : Nat → Int} {cc : Int} {sv f : Nat → Int32} (ed : Ed K R N e) (rx : R e 4 = x) (hr : Rw K R N x) (hx : x + 1 ≠ e) (hx2 : x + 1 ≠ e + 1) (hp : p + n ≤ 256) (hn : n ≤ 64) (hsv : ∀ k, k < n → sv k = jI (c (p + k))) (h6 : f 6 = jI cc) (hcc : cc = 1 ∨ cc = 4) (hfr : ∀ k, k < p ∨ p + n ≤ k → r k = c k) :
    lp (fun _ _ _ _ _ => none) (fX3_edit_123) FU e (jI (p : Int)) (jI (n : Int)) (jI 0) (K, va_up (va_up (va_up I (e + 1) sv) e f) (x + 1) (jF r), R, L, N, w) = some (jI cc, (K, va_up (va_up (va_up I (e + 1) sv) e f) (x + 1) (jF c), R, L, N, w)) := by
  obtain ⟨k3, r0, r1, r2, r3, k1, n1, k2, n2, k4, n4, k5, n5⟩ := ed
  have key := lp_up (z := fun _ _ _ _ _ => none) (S := fX3_edit_123) (β := Int32 × Hp) (fun k (i : Nat) => k e (jI (p : Int)) (jI (n : Int)) (jI (i : Int)) (K, va_up (va_up (va_up I (e + 1) sv) e f) (x + 1) (jF (mixr c r p i)), R, L, N, w))
    (E := some (jI cc, (K, va_up (va_up (va_up I (e + 1) sv) e f) (x + 1) (jF c), R, L, N, w))) (M := n) ?_ ?_ FU 0 (by omega) (FU_lt (by omega))
  · rw [show mixr c r p 0 = r by funext k; unfold mixr; rw [if_neg (by omega)]] at key
    exact key
  · intro i hi k
    have e1 : ((i : Int)).toNat = i := by omega
    have e2 : (i : Int) + 1 = ((i + 1 : Nat) : Int) := by omega
    have e3 : ((p : Int) + i).toNat = p + i := by omega
    have es := hsv i hi
    have ep : ∀ J : Nat → Nat → Int32, J (x + 1) = jF (mixr c r p i) → fX10_put x (jI ((p : Int) + i)) (jI (c (p + i))) (K, J, R, L, N, w) = some (K, va_up J (x + 1) (jF (mixr c r p (i + 1))), R, L, N, w) := fun J hJ => by
      rw [e_put hr (by omega) (by omega), hJ, e3, jF_up, mixr_s]
    have ep2 := ep (va_up (va_up (va_up I (e + 1) sv) e f) (x + 1) (jF (mixr c r p i))) (va_up_self _ _ _)
    rw [upup] at ep2
    unfold fX3_edit_123
    ((repeat (first | (with_reducible apply q_gd; · (first | assumption | omega)) | (with_reducible apply q_ob; · (first | with_reducible rfl | ((simp (disch := omega) only [jI_lit, jI_neg, jI_add, jI_sub, jI_mul, o_gI, o_gR, o_pI, o_pZ0, o_pZ1, o_pZb, o_pR, o_aI, o_qI, o_aN, tn, va_up_self, va_up_ne, upup, jI_shr1, jI_shr4, jI_shr0, jI_and1, jI_and15, jI_join, jI_240, jI_hi, jF_at, jF_up, jI_max, jI_min, b2_t, b2_f, Bool.not_true, Bool.not_false, eq_self, true_or, or_true, rx, h6, r0, e1, e2, es, ep2]) <;> with_reducible rfl))) | (with_reducible apply q_ob2; · (first | with_reducible rfl | ((simp (disch := omega) only [jI_lit, jI_neg, jI_add, jI_sub, jI_mul, o_gI, o_gR, o_pI, o_pZ0, o_pZ1, o_pZb, o_pR, o_aI, o_qI, o_aN, tn, va_up_self, va_up_ne, upup, jI_shr1, jI_shr4, jI_shr0, jI_and1, jI_and15, jI_join, jI_240, jI_hi, jF_at, jF_up, jI_max, jI_min, b2_t, b2_f, Bool.not_true, Bool.not_false, eq_self, true_or, or_true, rx, h6, r0, e1, e2, es, ep2]) <;> with_reducible rfl))) | (with_reducible apply q_lt; · (first | with_reducible rfl | ((simp (disch := omega) only [jI_lit, jI_neg, jI_add, jI_sub, jI_mul, o_gI, o_gR, o_pI, o_pZ0, o_pZ1, o_pZb, o_pR, o_aI, o_qI, o_aN, tn, va_up_self, va_up_ne, upup, jI_shr1, jI_shr4, jI_shr0, jI_and1, jI_and15, jI_join, jI_240, jI_hi, jF_at, jF_up, jI_max, jI_min, b2_t, b2_f, Bool.not_true, Bool.not_false, eq_self, true_or, or_true, rx, h6, r0, e1, e2, es, ep2]) <;> with_reducible rfl))) | (with_reducible apply q_ifp; · ((simp (disch := omega) only [jI_lit, jI_neg, jI_add, jI_sub, jI_mul, jI_lt, jI_le, jI_eq, va_up_self, va_up_ne, jI_shr1, jI_shr4, jI_shr0, jI_and1, jI_and15, jF_at, tn, b2_t, b2_f, cmp_ge, cmp_gt, cmp_le, cmp_lt, cmp_eq, jL_lit, jL_lt, jL_le, jL_eq, rx, h6, r0, e1, e2, es, ep2]) <;> omega)) | (with_reducible apply q_ifn; · ((simp (disch := omega) only [jI_lit, jI_neg, jI_add, jI_sub, jI_mul, jI_lt, jI_le, jI_eq, va_up_self, va_up_ne, jI_shr1, jI_shr4, jI_shr0, jI_and1, jI_and15, jF_at, tn, b2_t, b2_f, cmp_ge, cmp_gt, cmp_le, cmp_lt, cmp_eq, jL_lit, jL_lt, jL_le, jL_eq, rx, h6, r0, e1, e2, es, ep2]) <;> omega)) | (with_reducible apply q_obk; · (first | with_reducible rfl | ((simp (disch := omega) only [jI_lit, jI_neg, jI_add, jI_sub, jI_mul, o_gI, o_gR, o_pI, o_pZ0, o_pZ1, o_pZb, o_pR, o_aI, o_qI, o_aN, tn, va_up_self, va_up_ne, upup, jI_shr1, jI_shr4, jI_shr0, jI_and1, jI_and15, jI_join, jI_240, jI_hi, jF_at, jF_up, jI_max, jI_min, b2_t, b2_f, Bool.not_true, Bool.not_false, eq_self, true_or, or_true, rx, h6, r0, e1, e2, es, ep2]) <;> with_reducible rfl))) | (with_reducible apply q_nz; · ((simp (disch := omega) only [jI_lit, jI_neg, jI_add, jI_sub, jI_mul, jI_lt, jI_le, jI_eq, va_up_self, va_up_ne, jI_shr1, jI_shr4, jI_shr0, jI_and1, jI_and15, jF_at, tn, b2_t, b2_f, cmp_ge, cmp_gt, cmp_le, cmp_lt, cmp_eq, jL_lit, jL_lt, jL_le, jL_eq, rx, h6, r0, e1, e2, es, ep2]) <;> omega)) | (with_reducible apply q_rz; · (first | exact b2_01 _ | decide)))) <;> (first | with_reducible rfl | ((simp (disch := omega) only [jI_lit, jI_neg, jI_add, jI_sub, jI_mul, o_gI, o_gR, o_pI, o_pZ0, o_pZ1, o_pZb, o_pR, o_aI, o_qI, o_aN, tn, va_up_self, va_up_ne, upup, jI_shr1, jI_shr4, jI_shr0, jI_and1, jI_and15, jI_join, jI_240, jI_hi, jF_at, jF_up, jI_max, jI_min, b2_t, b2_f, Bool.not_true, Bool.not_false, eq_self, true_or, or_true, rx, h6, r0, e1, e2, es, ep2]) <;> with_reducible rfl) | rfl))
  · intro k
    rw [show mixr c r p n = c by
      funext k; unfold mixr
      by_cases q : p ≤ k ∧ k < p + n
      · rw [if_pos q]
      · rw [if_neg q]; exact hfr k (by omega)]
    unfold fX3_edit_123
    ((repeat (first | (with_reducible apply q_gd; · (first | assumption | omega)) | (with_reducible apply q_ob; · (first | with_reducible rfl | ((simp (disch := omega) only [jI_lit, jI_neg, jI_add, jI_sub, jI_mul, o_gI, o_gR, o_pI, o_pZ0, o_pZ1, o_pZb, o_pR, o_aI, o_qI, o_aN, tn, va_up_self, va_up_ne, upup, jI_shr1, jI_shr4, jI_shr0, jI_and1, jI_and15, jI_join, jI_240, jI_hi, jF_at, jF_up, jI_max, jI_min, b2_t, b2_f, Bool.not_true, Bool.not_false, eq_self, true_or, or_true, h6]) <;> with_reducible rfl))) | (with_reducible apply q_ob2; · (first | with_reducible rfl | ((simp (disch := omega) only [jI_lit, jI_neg, jI_add, jI_sub, jI_mul, o_gI, o_gR, o_pI, o_pZ0, o_pZ1, o_pZb, o_pR, o_aI, o_qI, o_aN, tn, va_up_self, va_up_ne, upup, jI_shr1, jI_shr4, jI_shr0, jI_and1, jI_and15, jI_join, jI_240, jI_hi, jF_at, jF_up, jI_max, jI_min, b2_t, b2_f, Bool.not_true, Bool.not_false, eq_self, true_or, or_true, h6]) <;> with_reducible rfl))) | (with_reducible apply q_lt; · (first | with_reducible rfl | ((simp (disch := omega) only [jI_lit, jI_neg, jI_add, jI_sub, jI_mul, o_gI, o_gR, o_pI, o_pZ0, o_pZ1, o_pZb, o_pR, o_aI, o_qI, o_aN, tn, va_up_self, va_up_ne, upup, jI_shr1, jI_shr4, jI_shr0, jI_and1, jI_and15, jI_join, jI_240, jI_hi, jF_at, jF_up, jI_max, jI_min, b2_t, b2_f, Bool.not_true, Bool.not_false, eq_self, true_or, or_true, h6]) <;> with_reducible rfl))) | (with_reducible apply q_ifp; · ((simp (disch := omega) only [jI_lit, jI_neg, jI_add, jI_sub, jI_mul, jI_lt, jI_le, jI_eq, va_up_self, va_up_ne, jI_shr1, jI_shr4, jI_shr0, jI_and1, jI_and15, jF_at, tn, b2_t, b2_f, cmp_ge, cmp_gt, cmp_le, cmp_lt, cmp_eq, jL_lit, jL_lt, jL_le, jL_eq, h6]) <;> omega)) | (with_reducible apply q_ifn; · ((simp (disch := omega) only [jI_lit, jI_neg, jI_add, jI_sub, jI_mul, jI_lt, jI_le, jI_eq, va_up_self, va_up_ne, jI_shr1, jI_shr4, jI_shr0, jI_and1, jI_and15, jF_at, tn, b2_t, b2_f, cmp_ge, cmp_gt, cmp_le, cmp_lt, cmp_eq, jL_lit, jL_lt, jL_le, jL_eq, h6]) <;> omega)) | (with_reducible apply q_obk; · (first | with_reducible rfl | ((simp (disch := omega) only [jI_lit, jI_neg, jI_add, jI_sub, jI_mul, o_gI, o_gR, o_pI, o_pZ0, o_pZ1, o_pZb, o_pR, o_aI, o_qI, o_aN, tn, va_up_self, va_up_ne, upup, jI_shr1, jI_shr4, jI_shr0, jI_and1, jI_and15, jI_join, jI_240, jI_hi, jF_at, jF_up, jI_max, jI_min, b2_t, b2_f, Bool.not_true, Bool.not_false, eq_self, true_or, or_true, h6]) <;> with_reducible rfl))) | (with_reducible apply q_nz; · ((simp (disch := omega) only [jI_lit, jI_neg, jI_add, jI_sub, jI_mul, jI_lt, jI_le, jI_eq, va_up_self, va_up_ne, jI_shr1, jI_shr4, jI_shr0, jI_and1, jI_and15, jF_at, tn, b2_t, b2_f, cmp_ge, cmp_gt, cmp_le, cmp_lt, cmp_eq, jL_lit, jL_lt, jL_le, jL_eq, h6]) <;> omega)) | (with_reducible apply q_rz; · (first | exact b2_01 _ | decide)))) <;> (first | with_reducible rfl | ((simp (disch := omega) only [jI_lit, jI_neg, jI_add, jI_sub, jI_mul, o_gI, o_gR, o_pI, o_pZ0, o_pZ1, o_pZb, o_pR, o_aI, o_qI, o_aN, tn, va_up_self, va_up_ne, upup, jI_shr1, jI_shr4, jI_shr0, jI_and1, jI_and15, jI_join, jI_240, jI_hi, jF_at, jF_up, jI_max, jI_min, b2_t, b2_f, Bool.not_true, Bool.not_false, eq_self, true_or, or_true, h6]) <;> with_reducible rfl) | rfl))
theorem e_edit {e x p n : Nat} {c : Nat → Int} {src : Int} (ed : Ed K R N e) (hr : Rw K R N x) (hI : I (x + 1) = jF c) (hb : Byt c) (hx : x + 1 ≠ e) (hx2 : x + 1 ≠ e + 1) (hx3 : x ≠ e) (hp : p + n ≤ 256) (hn : n ≤ 64) (hn1 : 1 ≤ n) (s1 : -2147483648 ≤ src) (s2 : src < 2147483648) :
    (∀ cc sx u, edS c p src n = .inl (cc, sx, u) → ∃ f sv, fX3_edit e x (jI (p : Int)) (jI (n : Int)) (jI src) (K, I, R, L, N, w) = some (jI cc, (K, va_up (va_up I (e + 1) sv) e f, va_up R e (va_up (R e) 4 x), L, N, w)) ∧ f 7 = jI sx ∧ (cc = 4 → f 8 = jI (u sx.toNat)) ∧ (cc = 1 ∨ cc = 4)) ∧
    (∀ s', edS c p src n = .inr s' → ∃ f sv, fX3_edit e x (jI (p : Int)) (jI (n : Int)) (jI src) (K, I, R, L, N, w) = some (jI 0, (K, va_up (va_up (va_up I (e + 1) sv) e f) (x + 1) (jF s'.1), va_up R e (va_up (R e) 4 x), L, N, w)) ∧ EF f (c p) s') := by
  obtain ⟨R1, hR1⟩ : ∃ R1, R1 = va_up R e (va_up (R e) 4 x) := ⟨_, rfl⟩
  have ed1 : Ed K R1 N e := by rw [hR1]; exact Ed_4 ed
  have hr1 : Rw K R1 N x := by rw [hR1]; exact Rw_upR hr hx3
  have rx : R1 e 4 = x := by rw [hR1, va_up_self, va_up_self]
  have k3 := ed.1
  have ed2 := ed1
  obtain ⟨-, r0, -, -, -, k1, n1, -⟩ := ed2
  have hcp := hb p (by omega)
  -- the start
  obtain ⟨f0, g0, g1⟩ : ∃ f0 : Nat → Int32, EF f0 (c p) (c, src, -1, false, false, -1) ∧ fX3_edit e x (jI (p : Int)) (jI (n : Int)) (jI src) (K, I, R, L, N, w) = lp (fun _ _ _ _ _ => none) (fX3_edit_53) FU e (jI (p : Int)) (jI (n : Int)) (jI 0) (K, va_up I e f0, R1, L, N, w) := by
    refine ⟨va_up (va_up (va_up (va_up (va_up (va_up (va_up (I e) 5 (jI (c p))) 6 (jI 0)) 7 (jI (src - 1))) 9 (jI 0)) 11 (jI 0)) 12 (jI 0)) 13 (jI (-1)), ?_, ?_⟩
    · refine ⟨?_, ?_, ⟨?_, ?_, (show (-1 : Int) ≤ -1 by omega), (show (-1 : Int) < 10 by omega), fun h => absurd rfl h⟩, ?_, ?_, ?_, s1, s2⟩
      all_goals simp (disch := omega) only [va_up_self, va_up_ne]
      all_goals rfl
    · have ec : fX10_cell x (jI (p : Int)) (K, I, R1, L, N, w) = some (jI (c p)) := by rw [e_cell hr1 (by omega) (by omega), hI, show ((p : Int)).toNat = p by omega]; rfl
      have hpR : pR 3 e 4 x (K, I, R, L, N, w) = some (K, I, R1, L, N, w) := by rw [o_pR k3, hR1]
      unfold fX3_edit
      ((repeat (first | (with_reducible apply q_gd; · (first | assumption | omega)) | (with_reducible apply q_ob; · (first | with_reducible rfl | ((simp (disch := omega) only [jI_lit, jI_neg, jI_add, jI_sub, jI_mul, o_gI, o_gR, o_pI, o_pZ0, o_pZ1, o_pZb, o_pR, o_aI, o_qI, o_aN, tn, va_up_self, va_up_ne, upup, jI_shr1, jI_shr4, jI_shr0, jI_and1, jI_and15, jI_join, jI_240, jI_hi, jF_at, jF_up, jI_max, jI_min, b2_t, b2_f, Bool.not_true, Bool.not_false, eq_self, true_or, or_true, hpR, rx, ec]) <;> with_reducible rfl))) | (with_reducible apply q_ob2; · (first | with_reducible rfl | ((simp (disch := omega) only [jI_lit, jI_neg, jI_add, jI_sub, jI_mul, o_gI, o_gR, o_pI, o_pZ0, o_pZ1, o_pZb, o_pR, o_aI, o_qI, o_aN, tn, va_up_self, va_up_ne, upup, jI_shr1, jI_shr4, jI_shr0, jI_and1, jI_and15, jI_join, jI_240, jI_hi, jF_at, jF_up, jI_max, jI_min, b2_t, b2_f, Bool.not_true, Bool.not_false, eq_self, true_or, or_true, hpR, rx, ec]) <;> with_reducible rfl))) | (with_reducible apply q_lt; · (first | with_reducible rfl | ((simp (disch := omega) only [jI_lit, jI_neg, jI_add, jI_sub, jI_mul, o_gI, o_gR, o_pI, o_pZ0, o_pZ1, o_pZb, o_pR, o_aI, o_qI, o_aN, tn, va_up_self, va_up_ne, upup, jI_shr1, jI_shr4, jI_shr0, jI_and1, jI_and15, jI_join, jI_240, jI_hi, jF_at, jF_up, jI_max, jI_min, b2_t, b2_f, Bool.not_true, Bool.not_false, eq_self, true_or, or_true, hpR, rx, ec]) <;> with_reducible rfl))) | (with_reducible apply q_ifp; · ((simp (disch := omega) only [jI_lit, jI_neg, jI_add, jI_sub, jI_mul, jI_lt, jI_le, jI_eq, va_up_self, va_up_ne, jI_shr1, jI_shr4, jI_shr0, jI_and1, jI_and15, jF_at, tn, b2_t, b2_f, cmp_ge, cmp_gt, cmp_le, cmp_lt, cmp_eq, jL_lit, jL_lt, jL_le, jL_eq, hpR, rx, ec]) <;> omega)) | (with_reducible apply q_ifn; · ((simp (disch := omega) only [jI_lit, jI_neg, jI_add, jI_sub, jI_mul, jI_lt, jI_le, jI_eq, va_up_self, va_up_ne, jI_shr1, jI_shr4, jI_shr0, jI_and1, jI_and15, jF_at, tn, b2_t, b2_f, cmp_ge, cmp_gt, cmp_le, cmp_lt, cmp_eq, jL_lit, jL_lt, jL_le, jL_eq, hpR, rx, ec]) <;> omega)) | (with_reducible apply q_obk; · (first | with_reducible rfl | ((simp (disch := omega) only [jI_lit, jI_neg, jI_add, jI_sub, jI_mul, o_gI, o_gR, o_pI, o_pZ0, o_pZ1, o_pZb, o_pR, o_aI, o_qI, o_aN, tn, va_up_self, va_up_ne, upup, jI_shr1, jI_shr4, jI_shr0, jI_and1, jI_and15, jI_join, jI_240, jI_hi, jF_at, jF_up, jI_max, jI_min, b2_t, b2_f, Bool.not_true, Bool.not_false, eq_self, true_or, or_true, hpR, rx, ec]) <;> with_reducible rfl))) | (with_reducible apply q_nz; · ((simp (disch := omega) only [jI_lit, jI_neg, jI_add, jI_sub, jI_mul, jI_lt, jI_le, jI_eq, va_up_self, va_up_ne, jI_shr1, jI_shr4, jI_shr0, jI_and1, jI_and15, jF_at, tn, b2_t, b2_f, cmp_ge, cmp_gt, cmp_le, cmp_lt, cmp_eq, jL_lit, jL_lt, jL_le, jL_eq, hpR, rx, ec]) <;> omega)) | (with_reducible apply q_rz; · (first | exact b2_01 _ | decide)))) <;> (first | with_reducible rfl | ((simp (disch := omega) only [jI_lit, jI_neg, jI_add, jI_sub, jI_mul, o_gI, o_gR, o_pI, o_pZ0, o_pZ1, o_pZb, o_pR, o_aI, o_qI, o_aN, tn, va_up_self, va_up_ne, upup, jI_shr1, jI_shr4, jI_shr0, jI_and1, jI_and15, jI_join, jI_240, jI_hi, jF_at, jF_up, jI_max, jI_min, b2_t, b2_f, Bool.not_true, Bool.not_false, eq_self, true_or, or_true, hpR, rx, ec]) <;> with_reducible rfl) | rfl))
  rw [g1]
  have hJr : ∀ sv f r, va_up (va_up (va_up I (e + 1) sv) e f) (x + 1) (jF r) (x + 1) = jF r := fun _ _ _ => va_up_self _ _ _
  -- what is saved
  obtain ⟨sv, hsv, g2⟩ : ∃ sv : Nat → Int32, (∀ k, k < n → sv k = jI (c (p + k))) ∧ lp (fun _ _ _ _ _ => none) (fX3_edit_53) FU e (jI (p : Int)) (jI (n : Int)) (jI 0) (K, va_up I e f0, R1, L, N, w) = lp (fun _ _ _ _ _ => none) (fX3_edit_93) FU e (jI (p : Int)) (jI (n : Int)) (jI 0) (K, va_up (va_up I (e + 1) sv) e f0, R1, L, N, w) := by
    refine ⟨fun k => if k < n then jI (c (p + k)) else I (e + 1) k, fun k hk => if_pos hk, ?_⟩
    have key := lp_up (z := fun _ _ _ _ _ => none) (S := fX3_edit_53) (β := Int32 × Hp) (fun k (i : Nat) => k e (jI (p : Int)) (jI (n : Int)) (jI (i : Int)) (K, va_up (va_up I (e + 1) (fun k => if k < i then jI (c (p + k)) else I (e + 1) k)) e f0, R1, L, N, w))
      (E := lp (fun _ _ _ _ _ => none) (fX3_edit_93) FU e (jI (p : Int)) (jI (n : Int)) (jI 0) (K, va_up (va_up I (e + 1) (fun k => if k < n then jI (c (p + k)) else I (e + 1) k)) e f0, R1, L, N, w)) (M := n) ?_ ?_ FU 0 (by omega) (FU_lt (by omega))
    · rw [up_0 (fun k => jI (c (p + k))) (I (e + 1)), up_id] at key
      exact key
    · intro i hi k
      have e1 : ((i : Int)).toNat = i := by omega
      have e2 : (i : Int) + 1 = ((i + 1 : Nat) : Int) := by omega
      have e3 : ((p : Int) + i).toNat = p + i := by omega
      have ec : ∀ J : Nat → Nat → Int32, J (x + 1) = I (x + 1) → fX10_cell x (jI ((p : Int) + i)) (K, J, R1, L, N, w) = some (jI (c (p + i))) := fun J hJ => by rw [e_cell hr1 (by omega) (by omega), hJ, hI, e3]; rfl
      have ec2 := ec (va_up (va_up I (e + 1) (fun k => if k < i then jI (c (p + k)) else I (e + 1) k)) e f0) (by rw [va_up_ne _ _ hx, va_up_ne _ _ hx2])
      have hs : va_up (va_up (va_up I (e + 1) (fun k => if k < i then jI (c (p + k)) else I (e + 1) k)) e f0) (e + 1) (va_up (fun k => if k < i then jI (c (p + k)) else I (e + 1) k) i (jI (c (p + i)))) = va_up (va_up I (e + 1) (fun k => if k < i + 1 then jI (c (p + k)) else I (e + 1) k)) e f0 := by
        rw [up_lt (fun k => jI (c (p + k))) (I (e + 1)) i, ← up_sw _ _ _ (show e + 1 ≠ e by omega), upup]
      unfold fX3_edit_53
      ((repeat (first | (with_reducible apply q_gd; · (first | assumption | omega)) | (with_reducible apply q_ob; · (first | with_reducible rfl | ((simp (disch := omega) only [jI_lit, jI_neg, jI_add, jI_sub, jI_mul, o_gI, o_gR, o_pI, o_pZ0, o_pZ1, o_pZb, o_pR, o_aI, o_qI, o_aN, tn, va_up_self, va_up_ne, upup, jI_shr1, jI_shr4, jI_shr0, jI_and1, jI_and15, jI_join, jI_240, jI_hi, jF_at, jF_up, jI_max, jI_min, b2_t, b2_f, Bool.not_true, Bool.not_false, eq_self, true_or, or_true, rx, r0, e1, e2, ec2, hs]) <;> with_reducible rfl))) | (with_reducible apply q_ob2; · (first | with_reducible rfl | ((simp (disch := omega) only [jI_lit, jI_neg, jI_add, jI_sub, jI_mul, o_gI, o_gR, o_pI, o_pZ0, o_pZ1, o_pZb, o_pR, o_aI, o_qI, o_aN, tn, va_up_self, va_up_ne, upup, jI_shr1, jI_shr4, jI_shr0, jI_and1, jI_and15, jI_join, jI_240, jI_hi, jF_at, jF_up, jI_max, jI_min, b2_t, b2_f, Bool.not_true, Bool.not_false, eq_self, true_or, or_true, rx, r0, e1, e2, ec2, hs]) <;> with_reducible rfl))) | (with_reducible apply q_lt; · (first | with_reducible rfl | ((simp (disch := omega) only [jI_lit, jI_neg, jI_add, jI_sub, jI_mul, o_gI, o_gR, o_pI, o_pZ0, o_pZ1, o_pZb, o_pR, o_aI, o_qI, o_aN, tn, va_up_self, va_up_ne, upup, jI_shr1, jI_shr4, jI_shr0, jI_and1, jI_and15, jI_join, jI_240, jI_hi, jF_at, jF_up, jI_max, jI_min, b2_t, b2_f, Bool.not_true, Bool.not_false, eq_self, true_or, or_true, rx, r0, e1, e2, ec2, hs]) <;> with_reducible rfl))) | (with_reducible apply q_ifp; · ((simp (disch := omega) only [jI_lit, jI_neg, jI_add, jI_sub, jI_mul, jI_lt, jI_le, jI_eq, va_up_self, va_up_ne, jI_shr1, jI_shr4, jI_shr0, jI_and1, jI_and15, jF_at, tn, b2_t, b2_f, cmp_ge, cmp_gt, cmp_le, cmp_lt, cmp_eq, jL_lit, jL_lt, jL_le, jL_eq, rx, r0, e1, e2, ec2, hs]) <;> omega)) | (with_reducible apply q_ifn; · ((simp (disch := omega) only [jI_lit, jI_neg, jI_add, jI_sub, jI_mul, jI_lt, jI_le, jI_eq, va_up_self, va_up_ne, jI_shr1, jI_shr4, jI_shr0, jI_and1, jI_and15, jF_at, tn, b2_t, b2_f, cmp_ge, cmp_gt, cmp_le, cmp_lt, cmp_eq, jL_lit, jL_lt, jL_le, jL_eq, rx, r0, e1, e2, ec2, hs]) <;> omega)) | (with_reducible apply q_obk; · (first | with_reducible rfl | ((simp (disch := omega) only [jI_lit, jI_neg, jI_add, jI_sub, jI_mul, o_gI, o_gR, o_pI, o_pZ0, o_pZ1, o_pZb, o_pR, o_aI, o_qI, o_aN, tn, va_up_self, va_up_ne, upup, jI_shr1, jI_shr4, jI_shr0, jI_and1, jI_and15, jI_join, jI_240, jI_hi, jF_at, jF_up, jI_max, jI_min, b2_t, b2_f, Bool.not_true, Bool.not_false, eq_self, true_or, or_true, rx, r0, e1, e2, ec2, hs]) <;> with_reducible rfl))) | (with_reducible apply q_nz; · ((simp (disch := omega) only [jI_lit, jI_neg, jI_add, jI_sub, jI_mul, jI_lt, jI_le, jI_eq, va_up_self, va_up_ne, jI_shr1, jI_shr4, jI_shr0, jI_and1, jI_and15, jF_at, tn, b2_t, b2_f, cmp_ge, cmp_gt, cmp_le, cmp_lt, cmp_eq, jL_lit, jL_lt, jL_le, jL_eq, rx, r0, e1, e2, ec2, hs]) <;> omega)) | (with_reducible apply q_rz; · (first | exact b2_01 _ | decide)))) <;> (first | with_reducible rfl | ((simp (disch := omega) only [jI_lit, jI_neg, jI_add, jI_sub, jI_mul, o_gI, o_gR, o_pI, o_pZ0, o_pZ1, o_pZb, o_pR, o_aI, o_qI, o_aN, tn, va_up_self, va_up_ne, upup, jI_shr1, jI_shr4, jI_shr0, jI_and1, jI_and15, jI_join, jI_240, jI_hi, jF_at, jF_up, jI_max, jI_min, b2_t, b2_f, Bool.not_true, Bool.not_false, eq_self, true_or, or_true, rx, r0, e1, e2, ec2, hs]) <;> with_reducible rfl) | rfl))
    · intro k
      unfold fX3_edit_53
      ((repeat (first | (with_reducible apply q_gd; · (first | assumption | omega)) | (with_reducible apply q_ob; · (first | with_reducible rfl | ((simp (disch := omega) only [jI_lit, jI_neg, jI_add, jI_sub, jI_mul, o_gI, o_gR, o_pI, o_pZ0, o_pZ1, o_pZb, o_pR, o_aI, o_qI, o_aN, tn, va_up_self, va_up_ne, upup, jI_shr1, jI_shr4, jI_shr0, jI_and1, jI_and15, jI_join, jI_240, jI_hi, jF_at, jF_up, jI_max, jI_min, b2_t, b2_f, Bool.not_true, Bool.not_false, eq_self, true_or, or_true]) <;> with_reducible rfl))) | (with_reducible apply q_ob2; · (first | with_reducible rfl | ((simp (disch := omega) only [jI_lit, jI_neg, jI_add, jI_sub, jI_mul, o_gI, o_gR, o_pI, o_pZ0, o_pZ1, o_pZb, o_pR, o_aI, o_qI, o_aN, tn, va_up_self, va_up_ne, upup, jI_shr1, jI_shr4, jI_shr0, jI_and1, jI_and15, jI_join, jI_240, jI_hi, jF_at, jF_up, jI_max, jI_min, b2_t, b2_f, Bool.not_true, Bool.not_false, eq_self, true_or, or_true]) <;> with_reducible rfl))) | (with_reducible apply q_lt; · (first | with_reducible rfl | ((simp (disch := omega) only [jI_lit, jI_neg, jI_add, jI_sub, jI_mul, o_gI, o_gR, o_pI, o_pZ0, o_pZ1, o_pZb, o_pR, o_aI, o_qI, o_aN, tn, va_up_self, va_up_ne, upup, jI_shr1, jI_shr4, jI_shr0, jI_and1, jI_and15, jI_join, jI_240, jI_hi, jF_at, jF_up, jI_max, jI_min, b2_t, b2_f, Bool.not_true, Bool.not_false, eq_self, true_or, or_true]) <;> with_reducible rfl))) | (with_reducible apply q_ifp; · ((simp (disch := omega) only [jI_lit, jI_neg, jI_add, jI_sub, jI_mul, jI_lt, jI_le, jI_eq, va_up_self, va_up_ne, jI_shr1, jI_shr4, jI_shr0, jI_and1, jI_and15, jF_at, tn, b2_t, b2_f, cmp_ge, cmp_gt, cmp_le, cmp_lt, cmp_eq, jL_lit, jL_lt, jL_le, jL_eq]) <;> omega)) | (with_reducible apply q_ifn; · ((simp (disch := omega) only [jI_lit, jI_neg, jI_add, jI_sub, jI_mul, jI_lt, jI_le, jI_eq, va_up_self, va_up_ne, jI_shr1, jI_shr4, jI_shr0, jI_and1, jI_and15, jF_at, tn, b2_t, b2_f, cmp_ge, cmp_gt, cmp_le, cmp_lt, cmp_eq, jL_lit, jL_lt, jL_le, jL_eq]) <;> omega)) | (with_reducible apply q_obk; · (first | with_reducible rfl | ((simp (disch := omega) only [jI_lit, jI_neg, jI_add, jI_sub, jI_mul, o_gI, o_gR, o_pI, o_pZ0, o_pZ1, o_pZb, o_pR, o_aI, o_qI, o_aN, tn, va_up_self, va_up_ne, upup, jI_shr1, jI_shr4, jI_shr0, jI_and1, jI_and15, jI_join, jI_240, jI_hi, jF_at, jF_up, jI_max, jI_min, b2_t, b2_f, Bool.not_true, Bool.not_false, eq_self, true_or, or_true]) <;> with_reducible rfl))) | (with_reducible apply q_nz; · ((simp (disch := omega) only [jI_lit, jI_neg, jI_add, jI_sub, jI_mul, jI_lt, jI_le, jI_eq, va_up_self, va_up_ne, jI_shr1, jI_shr4, jI_shr0, jI_and1, jI_and15, jF_at, tn, b2_t, b2_f, cmp_ge, cmp_gt, cmp_le, cmp_lt, cmp_eq, jL_lit, jL_lt, jL_le, jL_eq]) <;> omega)) | (with_reducible apply q_rz; · (first | exact b2_01 _ | decide)))) <;> (first | with_reducible rfl | ((simp (disch := omega) only [jI_lit, jI_neg, jI_add, jI_sub, jI_mul, o_gI, o_gR, o_pI, o_pZ0, o_pZ1, o_pZb, o_pR, o_aI, o_qI, o_aN, tn, va_up_self, va_up_ne, upup, jI_shr1, jI_shr4, jI_shr0, jI_and1, jI_and15, jI_join, jI_240, jI_hi, jF_at, jF_up, jI_max, jI_min, b2_t, b2_f, Bool.not_true, Bool.not_false, eq_self, true_or, or_true]) <;> with_reducible rfl) | rfl))
  rw [g2]
  -- the editing
  have main := lp_w (z := fun _ _ _ _ _ => none) (S := fX3_edit_93) (β := Int32 × Hp) (σ := Nat × (Nat → Int32) × (Nat → Int)) (ev := fun k s => k e (jI (p : Int)) (jI (n : Int)) (jI (s.1 : Int)) (K, va_up (va_up (va_up I (e + 1) sv) e s.2.1) (x + 1) (jF s.2.2), R1, L, N, w))
    (Inv := fun s => s.1 ≤ n ∧ (∀ k, k < p ∨ p + n ≤ k → s.2.2 k = c k) ∧ (∀ t, edS c p src s.1 = .inr t → s.2.2 = t.1 ∧ EF s.2.1 (c p) t ∧ Byt s.2.2) ∧ (∀ cc sx u, edS c p src s.1 = .inl (cc, sx, u) → s.2.1 6 = jI cc ∧ s.2.1 7 = jI sx ∧ (cc = 4 → s.2.1 8 = jI (u sx.toNat)) ∧ (cc = 1 ∨ cc = 4)))
    (M := fun s => n - s.1) (Q := fun s => s.1 = n ∨ ∃ a, edS c p src s.1 = .inl a) (E := fun s => lp (fun _ _ _ _ _ => none) (fX3_edit_123) FU e (jI (p : Int)) (jI (n : Int)) (jI 0) (K, va_up (va_up (va_up I (e + 1) sv) e s.2.1) (x + 1) (jF s.2.2), R1, L, N, w)) ?_ FU (0, f0, c)
    ⟨by omega, fun _ _ => rfl, fun t h => by cases h; exact ⟨rfl, g0, hb⟩, (fun _ _ _ h => nomatch h)⟩ (FU_lt (by show n - 0 < _; omega))
  · obtain ⟨⟨i, f, r⟩, ⟨i1, i2, i3, i4⟩, q, ev⟩ := main
    simp only [] at i1 i2 i3 i4 q ev
    rw [show va_up (va_up (va_up I (e + 1) sv) e f0) (x + 1) (jF c) = va_up (va_up I (e + 1) sv) e f0 by
      rw [← hI, ← show va_up (va_up I (e + 1) sv) e f0 (x + 1) = I (x + 1) by rw [va_up_ne _ _ hx, va_up_ne _ _ hx2], up_id]] at ev
    have ev' : lp (fun _ _ _ _ _ => none) (fX3_edit_93) FU e (jI (p : Int)) (jI (n : Int)) (jI 0) (K, va_up (va_up I (e + 1) sv) e f0, R1, L, N, w) = lp (fun _ _ _ _ _ => none) (fX3_edit_123) FU e (jI (p : Int)) (jI (n : Int)) (jI 0) (K, va_up (va_up (va_up I (e + 1) sv) e f) (x + 1) (jF r), R1, L, N, w) := ev
    rw [ev']
    have hin : ∀ a, edS c p src n = .inl a → edS c p src i = .inl a := by
      intro a ha
      rcases q with q | ⟨b, hb'⟩
      · rw [q]; exact ha
      · have := edS_stay hb' (n - i)
        rw [show i + (n - i) = n by omega] at this
        rw [hb', ← this, ha]
    have hir : ∀ t, edS c p src n = .inr t → edS c p src i = .inr t := by
      intro t ht
      rcases q with q | ⟨b, hb'⟩
      · rw [q]; exact ht
      · have := edS_stay hb' (n - i)
        rw [show i + (n - i) = n by omega, ht] at this
        exact nomatch this
    constructor
    · intro cc sx u h
      obtain ⟨j1, j2, j3, j4⟩ := i4 _ _ _ (hin _ h)
      refine ⟨f, sv, ?_, j2, j3, j4⟩
      rw [e_restore ed1 rx hr1 hx hx2 hp hn hsv j1 j4 i2, ← hR1]
      congr 3
      rw [← hI, ← show va_up (va_up I (e + 1) sv) e f (x + 1) = I (x + 1) by rw [va_up_ne _ _ hx, va_up_ne _ _ hx2], up_id]
    · intro s' h
      obtain ⟨j1, j2, j3⟩ := i3 _ (hir _ h)
      refine ⟨f, sv, ?_, j2⟩
      rw [← hR1, ← j1]
      have j6 := j2.2.1
      show fX3_edit_123 (lp (fun _ _ _ _ _ => none) (fX3_edit_123) 1099511627775) e (jI (p : Int)) (jI (n : Int)) (jI 0) (K, va_up (va_up (va_up I (e + 1) sv) e f) (x + 1) (jF r), R1, L, N, w) = _
      unfold fX3_edit_123
      ((repeat (first | (with_reducible apply q_gd; · (first | assumption | omega)) | (with_reducible apply q_ob; · (first | with_reducible rfl | ((simp (disch := omega) only [jI_lit, jI_neg, jI_add, jI_sub, jI_mul, o_gI, o_gR, o_pI, o_pZ0, o_pZ1, o_pZb, o_pR, o_aI, o_qI, o_aN, tn, va_up_self, va_up_ne, upup, jI_shr1, jI_shr4, jI_shr0, jI_and1, jI_and15, jI_join, jI_240, jI_hi, jF_at, jF_up, jI_max, jI_min, b2_t, b2_f, Bool.not_true, Bool.not_false, eq_self, true_or, or_true, j6]) <;> with_reducible rfl))) | (with_reducible apply q_ob2; · (first | with_reducible rfl | ((simp (disch := omega) only [jI_lit, jI_neg, jI_add, jI_sub, jI_mul, o_gI, o_gR, o_pI, o_pZ0, o_pZ1, o_pZb, o_pR, o_aI, o_qI, o_aN, tn, va_up_self, va_up_ne, upup, jI_shr1, jI_shr4, jI_shr0, jI_and1, jI_and15, jI_join, jI_240, jI_hi, jF_at, jF_up, jI_max, jI_min, b2_t, b2_f, Bool.not_true, Bool.not_false, eq_self, true_or, or_true, j6]) <;> with_reducible rfl))) | (with_reducible apply q_lt; · (first | with_reducible rfl | ((simp (disch := omega) only [jI_lit, jI_neg, jI_add, jI_sub, jI_mul, o_gI, o_gR, o_pI, o_pZ0, o_pZ1, o_pZb, o_pR, o_aI, o_qI, o_aN, tn, va_up_self, va_up_ne, upup, jI_shr1, jI_shr4, jI_shr0, jI_and1, jI_and15, jI_join, jI_240, jI_hi, jF_at, jF_up, jI_max, jI_min, b2_t, b2_f, Bool.not_true, Bool.not_false, eq_self, true_or, or_true, j6]) <;> with_reducible rfl))) | (with_reducible apply q_ifp; · ((simp (disch := omega) only [jI_lit, jI_neg, jI_add, jI_sub, jI_mul, jI_lt, jI_le, jI_eq, va_up_self, va_up_ne, jI_shr1, jI_shr4, jI_shr0, jI_and1, jI_and15, jF_at, tn, b2_t, b2_f, cmp_ge, cmp_gt, cmp_le, cmp_lt, cmp_eq, jL_lit, jL_lt, jL_le, jL_eq, j6]) <;> omega)) | (with_reducible apply q_ifn; · ((simp (disch := omega) only [jI_lit, jI_neg, jI_add, jI_sub, jI_mul, jI_lt, jI_le, jI_eq, va_up_self, va_up_ne, jI_shr1, jI_shr4, jI_shr0, jI_and1, jI_and15, jF_at, tn, b2_t, b2_f, cmp_ge, cmp_gt, cmp_le, cmp_lt, cmp_eq, jL_lit, jL_lt, jL_le, jL_eq, j6]) <;> omega)) | (with_reducible apply q_obk; · (first | with_reducible rfl | ((simp (disch := omega) only [jI_lit, jI_neg, jI_add, jI_sub, jI_mul, o_gI, o_gR, o_pI, o_pZ0, o_pZ1, o_pZb, o_pR, o_aI, o_qI, o_aN, tn, va_up_self, va_up_ne, upup, jI_shr1, jI_shr4, jI_shr0, jI_and1, jI_and15, jI_join, jI_240, jI_hi, jF_at, jF_up, jI_max, jI_min, b2_t, b2_f, Bool.not_true, Bool.not_false, eq_self, true_or, or_true, j6]) <;> with_reducible rfl))) | (with_reducible apply q_nz; · ((simp (disch := omega) only [jI_lit, jI_neg, jI_add, jI_sub, jI_mul, jI_lt, jI_le, jI_eq, va_up_self, va_up_ne, jI_shr1, jI_shr4, jI_shr0, jI_and1, jI_and15, jF_at, tn, b2_t, b2_f, cmp_ge, cmp_gt, cmp_le, cmp_lt, cmp_eq, jL_lit, jL_lt, jL_le, jL_eq, j6]) <;> omega)) | (with_reducible apply q_rz; · (first | exact b2_01 _ | decide)))) <;> (first | with_reducible rfl | ((simp (disch := omega) only [jI_lit, jI_neg, jI_add, jI_sub, jI_mul, o_gI, o_gR, o_pI, o_pZ0, o_pZ1, o_pZb, o_pR, o_aI, o_qI, o_aN, tn, va_up_self, va_up_ne, upup, jI_shr1, jI_shr4, jI_shr0, jI_and1, jI_and15, jI_join, jI_240, jI_hi, jF_at, jF_up, jI_max, jI_min, b2_t, b2_f, Bool.not_true, Bool.not_false, eq_self, true_or, or_true, j6]) <;> with_reducible rfl) | rfl))
  · rintro ⟨i, f, r⟩ ⟨i1, i2, i3, i4⟩
    simp only [] at i1 i2 i3 i4 ⊢
    by_cases hin : i = n
    · left
      refine ⟨Or.inl hin, fun k => ?_⟩
      subst hin
      unfold fX3_edit_93
      ((repeat (first | (with_reducible apply q_gd; · (first | assumption | omega)) | (with_reducible apply q_ob; · (first | with_reducible rfl | ((simp (disch := omega) only [jI_lit, jI_neg, jI_add, jI_sub, jI_mul, o_gI, o_gR, o_pI, o_pZ0, o_pZ1, o_pZb, o_pR, o_aI, o_qI, o_aN, tn, va_up_self, va_up_ne, upup, jI_shr1, jI_shr4, jI_shr0, jI_and1, jI_and15, jI_join, jI_240, jI_hi, jF_at, jF_up, jI_max, jI_min, b2_t, b2_f, Bool.not_true, Bool.not_false, eq_self, true_or, or_true]) <;> with_reducible rfl))) | (with_reducible apply q_ob2; · (first | with_reducible rfl | ((simp (disch := omega) only [jI_lit, jI_neg, jI_add, jI_sub, jI_mul, o_gI, o_gR, o_pI, o_pZ0, o_pZ1, o_pZb, o_pR, o_aI, o_qI, o_aN, tn, va_up_self, va_up_ne, upup, jI_shr1, jI_shr4, jI_shr0, jI_and1, jI_and15, jI_join, jI_240, jI_hi, jF_at, jF_up, jI_max, jI_min, b2_t, b2_f, Bool.not_true, Bool.not_false, eq_self, true_or, or_true]) <;> with_reducible rfl))) | (with_reducible apply q_lt; · (first | with_reducible rfl | ((simp (disch := omega) only [jI_lit, jI_neg, jI_add, jI_sub, jI_mul, o_gI, o_gR, o_pI, o_pZ0, o_pZ1, o_pZb, o_pR, o_aI, o_qI, o_aN, tn, va_up_self, va_up_ne, upup, jI_shr1, jI_shr4, jI_shr0, jI_and1, jI_and15, jI_join, jI_240, jI_hi, jF_at, jF_up, jI_max, jI_min, b2_t, b2_f, Bool.not_true, Bool.not_false, eq_self, true_or, or_true]) <;> with_reducible rfl))) | (with_reducible apply q_ifp; · ((simp (disch := omega) only [jI_lit, jI_neg, jI_add, jI_sub, jI_mul, jI_lt, jI_le, jI_eq, va_up_self, va_up_ne, jI_shr1, jI_shr4, jI_shr0, jI_and1, jI_and15, jF_at, tn, b2_t, b2_f, cmp_ge, cmp_gt, cmp_le, cmp_lt, cmp_eq, jL_lit, jL_lt, jL_le, jL_eq]) <;> omega)) | (with_reducible apply q_ifn; · ((simp (disch := omega) only [jI_lit, jI_neg, jI_add, jI_sub, jI_mul, jI_lt, jI_le, jI_eq, va_up_self, va_up_ne, jI_shr1, jI_shr4, jI_shr0, jI_and1, jI_and15, jF_at, tn, b2_t, b2_f, cmp_ge, cmp_gt, cmp_le, cmp_lt, cmp_eq, jL_lit, jL_lt, jL_le, jL_eq]) <;> omega)) | (with_reducible apply q_obk; · (first | with_reducible rfl | ((simp (disch := omega) only [jI_lit, jI_neg, jI_add, jI_sub, jI_mul, o_gI, o_gR, o_pI, o_pZ0, o_pZ1, o_pZb, o_pR, o_aI, o_qI, o_aN, tn, va_up_self, va_up_ne, upup, jI_shr1, jI_shr4, jI_shr0, jI_and1, jI_and15, jI_join, jI_240, jI_hi, jF_at, jF_up, jI_max, jI_min, b2_t, b2_f, Bool.not_true, Bool.not_false, eq_self, true_or, or_true]) <;> with_reducible rfl))) | (with_reducible apply q_nz; · ((simp (disch := omega) only [jI_lit, jI_neg, jI_add, jI_sub, jI_mul, jI_lt, jI_le, jI_eq, va_up_self, va_up_ne, jI_shr1, jI_shr4, jI_shr0, jI_and1, jI_and15, jF_at, tn, b2_t, b2_f, cmp_ge, cmp_gt, cmp_le, cmp_lt, cmp_eq, jL_lit, jL_lt, jL_le, jL_eq]) <;> omega)) | (with_reducible apply q_rz; · (first | exact b2_01 _ | decide)))) <;> (first | with_reducible rfl | ((simp (disch := omega) only [jI_lit, jI_neg, jI_add, jI_sub, jI_mul, o_gI, o_gR, o_pI, o_pZ0, o_pZ1, o_pZb, o_pR, o_aI, o_qI, o_aN, tn, va_up_self, va_up_ne, upup, jI_shr1, jI_shr4, jI_shr0, jI_and1, jI_and15, jI_join, jI_240, jI_hi, jF_at, jF_up, jI_max, jI_min, b2_t, b2_f, Bool.not_true, Bool.not_false, eq_self, true_or, or_true]) <;> with_reducible rfl) | rfl))
    · cases hS : edS c p src i with
      | inl a =>
        left
        obtain ⟨cc, sx, u⟩ := a
        obtain ⟨j1, j2, j3, j4⟩ := i4 _ _ _ hS
        refine ⟨Or.inr ⟨_, rfl⟩, fun k => ?_⟩
        unfold fX3_edit_93
        ((repeat (first | (with_reducible apply q_gd; · (first | assumption | omega)) | (with_reducible apply q_ob; · (first | with_reducible rfl | ((simp (disch := omega) only [jI_lit, jI_neg, jI_add, jI_sub, jI_mul, o_gI, o_gR, o_pI, o_pZ0, o_pZ1, o_pZb, o_pR, o_aI, o_qI, o_aN, tn, va_up_self, va_up_ne, upup, jI_shr1, jI_shr4, jI_shr0, jI_and1, jI_and15, jI_join, jI_240, jI_hi, jF_at, jF_up, jI_max, jI_min, b2_t, b2_f, Bool.not_true, Bool.not_false, eq_self, true_or, or_true, j1]) <;> with_reducible rfl))) | (with_reducible apply q_ob2; · (first | with_reducible rfl | ((simp (disch := omega) only [jI_lit, jI_neg, jI_add, jI_sub, jI_mul, o_gI, o_gR, o_pI, o_pZ0, o_pZ1, o_pZb, o_pR, o_aI, o_qI, o_aN, tn, va_up_self, va_up_ne, upup, jI_shr1, jI_shr4, jI_shr0, jI_and1, jI_and15, jI_join, jI_240, jI_hi, jF_at, jF_up, jI_max, jI_min, b2_t, b2_f, Bool.not_true, Bool.not_false, eq_self, true_or, or_true, j1]) <;> with_reducible rfl))) | (with_reducible apply q_lt; · (first | with_reducible rfl | ((simp (disch := omega) only [jI_lit, jI_neg, jI_add, jI_sub, jI_mul, o_gI, o_gR, o_pI, o_pZ0, o_pZ1, o_pZb, o_pR, o_aI, o_qI, o_aN, tn, va_up_self, va_up_ne, upup, jI_shr1, jI_shr4, jI_shr0, jI_and1, jI_and15, jI_join, jI_240, jI_hi, jF_at, jF_up, jI_max, jI_min, b2_t, b2_f, Bool.not_true, Bool.not_false, eq_self, true_or, or_true, j1]) <;> with_reducible rfl))) | (with_reducible apply q_ifp; · ((simp (disch := omega) only [jI_lit, jI_neg, jI_add, jI_sub, jI_mul, jI_lt, jI_le, jI_eq, va_up_self, va_up_ne, jI_shr1, jI_shr4, jI_shr0, jI_and1, jI_and15, jF_at, tn, b2_t, b2_f, cmp_ge, cmp_gt, cmp_le, cmp_lt, cmp_eq, jL_lit, jL_lt, jL_le, jL_eq, j1]) <;> omega)) | (with_reducible apply q_ifn; · ((simp (disch := omega) only [jI_lit, jI_neg, jI_add, jI_sub, jI_mul, jI_lt, jI_le, jI_eq, va_up_self, va_up_ne, jI_shr1, jI_shr4, jI_shr0, jI_and1, jI_and15, jF_at, tn, b2_t, b2_f, cmp_ge, cmp_gt, cmp_le, cmp_lt, cmp_eq, jL_lit, jL_lt, jL_le, jL_eq, j1]) <;> omega)) | (with_reducible apply q_obk; · (first | with_reducible rfl | ((simp (disch := omega) only [jI_lit, jI_neg, jI_add, jI_sub, jI_mul, o_gI, o_gR, o_pI, o_pZ0, o_pZ1, o_pZb, o_pR, o_aI, o_qI, o_aN, tn, va_up_self, va_up_ne, upup, jI_shr1, jI_shr4, jI_shr0, jI_and1, jI_and15, jI_join, jI_240, jI_hi, jF_at, jF_up, jI_max, jI_min, b2_t, b2_f, Bool.not_true, Bool.not_false, eq_self, true_or, or_true, j1]) <;> with_reducible rfl))) | (with_reducible apply q_nz; · ((simp (disch := omega) only [jI_lit, jI_neg, jI_add, jI_sub, jI_mul, jI_lt, jI_le, jI_eq, va_up_self, va_up_ne, jI_shr1, jI_shr4, jI_shr0, jI_and1, jI_and15, jF_at, tn, b2_t, b2_f, cmp_ge, cmp_gt, cmp_le, cmp_lt, cmp_eq, jL_lit, jL_lt, jL_le, jL_eq, j1]) <;> omega)) | (with_reducible apply q_rz; · (first | exact b2_01 _ | decide)))) <;> (first | with_reducible rfl | ((simp (disch := omega) only [jI_lit, jI_neg, jI_add, jI_sub, jI_mul, o_gI, o_gR, o_pI, o_pZ0, o_pZ1, o_pZb, o_pR, o_aI, o_qI, o_aN, tn, va_up_self, va_up_ne, upup, jI_shr1, jI_shr4, jI_shr0, jI_and1, jI_and15, jI_join, jI_240, jI_hi, jF_at, jF_up, jI_max, jI_min, b2_t, b2_f, Bool.not_true, Bool.not_false, eq_self, true_or, or_true, j1]) <;> with_reducible rfl) | rfl))
      | inr t =>
        right
        obtain ⟨j1, j2, j3⟩ := i3 _ hS
        have j6 := j2.2.1
        have j7 := j2.2.2.1
        obtain ⟨tr, tsrc, twaits, tseen, tany, tmark⟩ := t
        simp only [] at j1 j2
        subst j1
        have eb := e_editByte (I := va_up (va_up (va_up I (e + 1) sv) e f) (x + 1) (jF r)) (L := L) (w := w) (k := p + i) (fill := c p) (src := tsrc) (waits := twaits) (seen := tseen) (any := tany) (mark := tmark) ed1 rx hr1 (va_up_self _ _ _) j3 hx (by omega) (by rw [va_up_ne _ _ (Ne.symm hx), va_up_self]; exact j2)
        have hmem : ∀ (g : Nat → Int32) (u : Nat → Int), va_up (va_up (va_up (va_up (va_up I (e + 1) sv) e f) (x + 1) (jF r)) e g) (x + 1) (jF u) = va_up (va_up (va_up I (e + 1) sv) e g) (x + 1) (jF u) := fun g u => by
          rw [up_sw _ _ _ hx, upup, upup]
        simp only [hmem] at eb
        have e2 : (i : Int) + 1 = ((i + 1 : Nat) : Int) := by omega
        have ecs : (p : Int) + (i : Int) = ((p + i : Nat) : Int) := by omega
        cases hB : edB (c p) (p + i) (r, tsrc, twaits, tseen, tany, tmark) with
        | inl a =>
          obtain ⟨cc, sx, u⟩ := a
          obtain ⟨g, v, b1, b2, b3, b4, b5, b6⟩ := eb.1 _ _ _ hB
          have hS2 : edS c p src (i + 1) = .inl (cc, sx, u) := by rw [edS_s, hS]; exact hB
          refine ⟨(i + 1, g, va_up r (p + i) v), ⟨?_, ?_, ?_, ?_⟩, ?_, fun k => ?_⟩
          · show i + 1 ≤ n; omega
          · intro k hk
            show va_up r (p + i) v k = c k
            rw [va_up_ne _ _ (by omega)]
            exact i2 k hk
          · intro t ht; rw [hS2] at ht; exact nomatch ht
          · intro cc' sx' u' h
            rw [hS2] at h
            cases h
            exact ⟨b3, b4, fun h => by rw [b2]; exact b5 h, b6⟩
          · show n - (i + 1) < n - i; omega
          · show fX3_edit_93 k e (jI (p : Int)) (jI (n : Int)) (jI (i : Int)) _ = k e (jI (p : Int)) (jI (n : Int)) (jI ((i + 1 : Nat) : Int)) _
            unfold fX3_edit_93
            ((repeat (first | (with_reducible apply q_gd; · (first | assumption | omega)) | (with_reducible apply q_ob; · (first | with_reducible rfl | ((simp (disch := omega) only [jI_lit, jI_neg, jI_add, jI_sub, jI_mul, o_gI, o_gR, o_pI, o_pZ0, o_pZ1, o_pZb, o_pR, o_aI, o_qI, o_aN, tn, va_up_self, va_up_ne, upup, jI_shr1, jI_shr4, jI_shr0, jI_and1, jI_and15, jI_join, jI_240, jI_hi, jF_at, jF_up, jI_max, jI_min, b2_t, b2_f, Bool.not_true, Bool.not_false, eq_self, true_or, or_true, j6, ecs, b1, e2]) <;> with_reducible rfl))) | (with_reducible apply q_ob2; · (first | with_reducible rfl | ((simp (disch := omega) only [jI_lit, jI_neg, jI_add, jI_sub, jI_mul, o_gI, o_gR, o_pI, o_pZ0, o_pZ1, o_pZb, o_pR, o_aI, o_qI, o_aN, tn, va_up_self, va_up_ne, upup, jI_shr1, jI_shr4, jI_shr0, jI_and1, jI_and15, jI_join, jI_240, jI_hi, jF_at, jF_up, jI_max, jI_min, b2_t, b2_f, Bool.not_true, Bool.not_false, eq_self, true_or, or_true, j6, ecs, b1, e2]) <;> with_reducible rfl))) | (with_reducible apply q_lt; · (first | with_reducible rfl | ((simp (disch := omega) only [jI_lit, jI_neg, jI_add, jI_sub, jI_mul, o_gI, o_gR, o_pI, o_pZ0, o_pZ1, o_pZb, o_pR, o_aI, o_qI, o_aN, tn, va_up_self, va_up_ne, upup, jI_shr1, jI_shr4, jI_shr0, jI_and1, jI_and15, jI_join, jI_240, jI_hi, jF_at, jF_up, jI_max, jI_min, b2_t, b2_f, Bool.not_true, Bool.not_false, eq_self, true_or, or_true, j6, ecs, b1, e2]) <;> with_reducible rfl))) | (with_reducible apply q_ifp; · ((simp (disch := omega) only [jI_lit, jI_neg, jI_add, jI_sub, jI_mul, jI_lt, jI_le, jI_eq, va_up_self, va_up_ne, jI_shr1, jI_shr4, jI_shr0, jI_and1, jI_and15, jF_at, tn, b2_t, b2_f, cmp_ge, cmp_gt, cmp_le, cmp_lt, cmp_eq, jL_lit, jL_lt, jL_le, jL_eq, j6, ecs, b1, e2]) <;> omega)) | (with_reducible apply q_ifn; · ((simp (disch := omega) only [jI_lit, jI_neg, jI_add, jI_sub, jI_mul, jI_lt, jI_le, jI_eq, va_up_self, va_up_ne, jI_shr1, jI_shr4, jI_shr0, jI_and1, jI_and15, jF_at, tn, b2_t, b2_f, cmp_ge, cmp_gt, cmp_le, cmp_lt, cmp_eq, jL_lit, jL_lt, jL_le, jL_eq, j6, ecs, b1, e2]) <;> omega)) | (with_reducible apply q_obk; · (first | with_reducible rfl | ((simp (disch := omega) only [jI_lit, jI_neg, jI_add, jI_sub, jI_mul, o_gI, o_gR, o_pI, o_pZ0, o_pZ1, o_pZb, o_pR, o_aI, o_qI, o_aN, tn, va_up_self, va_up_ne, upup, jI_shr1, jI_shr4, jI_shr0, jI_and1, jI_and15, jI_join, jI_240, jI_hi, jF_at, jF_up, jI_max, jI_min, b2_t, b2_f, Bool.not_true, Bool.not_false, eq_self, true_or, or_true, j6, ecs, b1, e2]) <;> with_reducible rfl))) | (with_reducible apply q_nz; · ((simp (disch := omega) only [jI_lit, jI_neg, jI_add, jI_sub, jI_mul, jI_lt, jI_le, jI_eq, va_up_self, va_up_ne, jI_shr1, jI_shr4, jI_shr0, jI_and1, jI_and15, jF_at, tn, b2_t, b2_f, cmp_ge, cmp_gt, cmp_le, cmp_lt, cmp_eq, jL_lit, jL_lt, jL_le, jL_eq, j6, ecs, b1, e2]) <;> omega)) | (with_reducible apply q_rz; · (first | exact b2_01 _ | decide)))) <;> (first | with_reducible rfl | ((simp (disch := omega) only [jI_lit, jI_neg, jI_add, jI_sub, jI_mul, o_gI, o_gR, o_pI, o_pZ0, o_pZ1, o_pZb, o_pR, o_aI, o_qI, o_aN, tn, va_up_self, va_up_ne, upup, jI_shr1, jI_shr4, jI_shr0, jI_and1, jI_and15, jI_join, jI_240, jI_hi, jF_at, jF_up, jI_max, jI_min, b2_t, b2_f, Bool.not_true, Bool.not_false, eq_self, true_or, or_true, j6, ecs, b1, e2]) <;> with_reducible rfl) | rfl))
        | inr s' =>
          obtain ⟨g, b1, b2⟩ := eb.2 _ hB
          have hS2 : edS c p src (i + 1) = .inr s' := by rw [edS_s, hS]; exact hB
          have hrow := edB_row (s := (r, tsrc, twaits, tseen, tany, tmark)) j3 hcp.1 hcp.2 j7.2.2.1 j7.2.2.2.1 hB
          refine ⟨(i + 1, g, s'.1), ⟨?_, ?_, ?_, ?_⟩, ?_, fun k => ?_⟩
          · show i + 1 ≤ n; omega
          · intro k hk
            show s'.1 k = c k
            rw [hrow.2 k (by omega)]
            exact i2 k hk
          · intro t ht
            rw [hS2] at ht
            cases ht
            exact ⟨rfl, b2, hrow.1⟩
          · intro cc' sx' u' h; rw [hS2] at h; exact nomatch h
          · show n - (i + 1) < n - i; omega
          · show fX3_edit_93 k e (jI (p : Int)) (jI (n : Int)) (jI (i : Int)) _ = k e (jI (p : Int)) (jI (n : Int)) (jI ((i + 1 : Nat) : Int)) _
            unfold fX3_edit_93
            ((repeat (first | (with_reducible apply q_gd; · (first | assumption | omega)) | (with_reducible apply q_ob; · (first | with_reducible rfl | ((simp (disch := omega) only [jI_lit, jI_neg, jI_add, jI_sub, jI_mul, o_gI, o_gR, o_pI, o_pZ0, o_pZ1, o_pZb, o_pR, o_aI, o_qI, o_aN, tn, va_up_self, va_up_ne, upup, jI_shr1, jI_shr4, jI_shr0, jI_and1, jI_and15, jI_join, jI_240, jI_hi, jF_at, jF_up, jI_max, jI_min, b2_t, b2_f, Bool.not_true, Bool.not_false, eq_self, true_or, or_true, j6, ecs, b1, e2]) <;> with_reducible rfl))) | (with_reducible apply q_ob2; · (first | with_reducible rfl | ((simp (disch := omega) only [jI_lit, jI_neg, jI_add, jI_sub, jI_mul, o_gI, o_gR, o_pI, o_pZ0, o_pZ1, o_pZb, o_pR, o_aI, o_qI, o_aN, tn, va_up_self, va_up_ne, upup, jI_shr1, jI_shr4, jI_shr0, jI_and1, jI_and15, jI_join, jI_240, jI_hi, jF_at, jF_up, jI_max, jI_min, b2_t, b2_f, Bool.not_true, Bool.not_false, eq_self, true_or, or_true, j6, ecs, b1, e2]) <;> with_reducible rfl))) | (with_reducible apply q_lt; · (first | with_reducible rfl | ((simp (disch := omega) only [jI_lit, jI_neg, jI_add, jI_sub, jI_mul, o_gI, o_gR, o_pI, o_pZ0, o_pZ1, o_pZb, o_pR, o_aI, o_qI, o_aN, tn, va_up_self, va_up_ne, upup, jI_shr1, jI_shr4, jI_shr0, jI_and1, jI_and15, jI_join, jI_240, jI_hi, jF_at, jF_up, jI_max, jI_min, b2_t, b2_f, Bool.not_true, Bool.not_false, eq_self, true_or, or_true, j6, ecs, b1, e2]) <;> with_reducible rfl))) | (with_reducible apply q_ifp; · ((simp (disch := omega) only [jI_lit, jI_neg, jI_add, jI_sub, jI_mul, jI_lt, jI_le, jI_eq, va_up_self, va_up_ne, jI_shr1, jI_shr4, jI_shr0, jI_and1, jI_and15, jF_at, tn, b2_t, b2_f, cmp_ge, cmp_gt, cmp_le, cmp_lt, cmp_eq, jL_lit, jL_lt, jL_le, jL_eq, j6, ecs, b1, e2]) <;> omega)) | (with_reducible apply q_ifn; · ((simp (disch := omega) only [jI_lit, jI_neg, jI_add, jI_sub, jI_mul, jI_lt, jI_le, jI_eq, va_up_self, va_up_ne, jI_shr1, jI_shr4, jI_shr0, jI_and1, jI_and15, jF_at, tn, b2_t, b2_f, cmp_ge, cmp_gt, cmp_le, cmp_lt, cmp_eq, jL_lit, jL_lt, jL_le, jL_eq, j6, ecs, b1, e2]) <;> omega)) | (with_reducible apply q_obk; · (first | with_reducible rfl | ((simp (disch := omega) only [jI_lit, jI_neg, jI_add, jI_sub, jI_mul, o_gI, o_gR, o_pI, o_pZ0, o_pZ1, o_pZb, o_pR, o_aI, o_qI, o_aN, tn, va_up_self, va_up_ne, upup, jI_shr1, jI_shr4, jI_shr0, jI_and1, jI_and15, jI_join, jI_240, jI_hi, jF_at, jF_up, jI_max, jI_min, b2_t, b2_f, Bool.not_true, Bool.not_false, eq_self, true_or, or_true, j6, ecs, b1, e2]) <;> with_reducible rfl))) | (with_reducible apply q_nz; · ((simp (disch := omega) only [jI_lit, jI_neg, jI_add, jI_sub, jI_mul, jI_lt, jI_le, jI_eq, va_up_self, va_up_ne, jI_shr1, jI_shr4, jI_shr0, jI_and1, jI_and15, jF_at, tn, b2_t, b2_f, cmp_ge, cmp_gt, cmp_le, cmp_lt, cmp_eq, jL_lit, jL_lt, jL_le, jL_eq, j6, ecs, b1, e2]) <;> omega)) | (with_reducible apply q_rz; · (first | exact b2_01 _ | decide)))) <;> (first | with_reducible rfl | ((simp (disch := omega) only [jI_lit, jI_neg, jI_add, jI_sub, jI_mul, o_gI, o_gR, o_pI, o_pZ0, o_pZ1, o_pZb, o_pR, o_aI, o_qI, o_aN, tn, va_up_self, va_up_ne, upup, jI_shr1, jI_shr4, jI_shr0, jI_and1, jI_and15, jI_join, jI_240, jI_hi, jF_at, jF_up, jI_max, jI_min, b2_t, b2_f, Bool.not_true, Bool.not_false, eq_self, true_or, or_true, j6, ecs, b1, e2]) <;> with_reducible rfl) | rfl))
end ED4
