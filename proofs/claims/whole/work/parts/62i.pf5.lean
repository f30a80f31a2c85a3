section PF5
variable {K : Nat → Nat} {I : Nat → Nat → Int32} {R : Nat → Nat → Nat} {L : Nat → Nat → Int64} {N : Nat → Nat} {w : Nat × Nat × Nat × Nat}
theorem out5 {x p : Nat} (h : x + 1 < p ∨ p + 15 ≤ x) : (x + 1 < p + 5 ∨ p + 7 ≤ x + 1) ∧ x ≠ p + 5 ∧ x + 1 ≠ p + 5 := by omega
theorem e_plDec {p x a : Nat} {o z sg A nn q c : Int} {J J2 : Nat → Nat → Int32} (k8 : K p = 8) (ka : K a = 5) (h7 : R p 7 = a) (ra : R a 0 = o.toNat + 5) (w1 : wdO (o.toNat + 5) = some (jI (o + 4))) (w2 : smI (jI (o + 4)) = some (jI 17)) (h6 : R p 6 = x) (r2 : R p 2 = p + 5) (i3 : I a 3 = jI nn) (i7 : I a 7 = jI q) (h8 : I p 8 = jI A) (eq4 : 256 + q = c) (hc : fX10_cell x (jI c) (K, I, R, L, N, w) = some (jI z)) (el : Int32.toInt64 (jI z) = jL z) (etn : fX1_takeNumber (p + 5) (jL z) (K, I, R, L, N, w) = some (K, J, R, L, N, w)) (hJp : J p = I p) (hJa : J a = I a) (es : fX1_sign (p + 5) (K, J, R, L, N, w) = some (jI sg)) (ep : fX1_put (p + 5) x (jI A) (jI nn) (jI sg) (K, J, R, L, N, w) = some (K, J2, R, L, N, w)) : fX9_performPlain p (K, I, R, L, N, w) = some (jI 0, (K, J2, R, L, N, w)) := by
  unfold fX9_performPlain
  ((repeat (first | (with_reducible apply q_gd; · (first | assumption | omega)) | (with_reducible apply q_ob; · (first | with_reducible rfl | ((simp (disch := omega) only [jI_lit, jI_neg, jI_add, jI_sub, jI_mul, o_gI, o_gR, o_pI, o_pZ0, o_pZ1, o_pZb, o_pR, o_aI, o_qI, o_aN, tn, va_up_self, va_up_ne, upup, jI_shr1, jI_shr4, jI_shr0, jI_and1, jI_and15, jI_join, jI_240, jI_hi, jF_at, jF_up, jI_max, jI_min, b2_t, b2_f, Bool.not_true, Bool.not_false, eq_self, true_or, or_true, h7, i3, i7, ra, w1, w2, h6, h8, eq4, hc, r2, el, etn, es, ep, hJp, hJa]) <;> with_reducible rfl))) | (with_reducible apply q_ob2; · (first | with_reducible rfl | ((simp (disch := omega) only [jI_lit, jI_neg, jI_add, jI_sub, jI_mul, o_gI, o_gR, o_pI, o_pZ0, o_pZ1, o_pZb, o_pR, o_aI, o_qI, o_aN, tn, va_up_self, va_up_ne, upup, jI_shr1, jI_shr4, jI_shr0, jI_and1, jI_and15, jI_join, jI_240, jI_hi, jF_at, jF_up, jI_max, jI_min, b2_t, b2_f, Bool.not_true, Bool.not_false, eq_self, true_or, or_true, h7, i3, i7, ra, w1, w2, h6, h8, eq4, hc, r2, el, etn, es, ep, hJp, hJa]) <;> with_reducible rfl))) | (with_reducible apply q_lt; · (first | with_reducible rfl | ((simp (disch := omega) only [jI_lit, jI_neg, jI_add, jI_sub, jI_mul, o_gI, o_gR, o_pI, o_pZ0, o_pZ1, o_pZb, o_pR, o_aI, o_qI, o_aN, tn, va_up_self, va_up_ne, upup, jI_shr1, jI_shr4, jI_shr0, jI_and1, jI_and15, jI_join, jI_240, jI_hi, jF_at, jF_up, jI_max, jI_min, b2_t, b2_f, Bool.not_true, Bool.not_false, eq_self, true_or, or_true, h7, i3, i7, ra, w1, w2, h6, h8, eq4, hc, r2, el, etn, es, ep, hJp, hJa]) <;> with_reducible rfl))) | (with_reducible apply q_ifp; · ((simp (disch := omega) only [jI_lit, jI_neg, jI_add, jI_sub, jI_mul, jI_lt, jI_le, jI_eq, va_up_self, va_up_ne, jI_shr1, jI_shr4, jI_shr0, jI_and1, jI_and15, jF_at, tn, b2_t, b2_f, cmp_ge, cmp_gt, cmp_le, cmp_lt, cmp_eq, jL_lit, jL_lt, jL_le, jL_eq, h7, i3, i7, ra, w1, w2, h6, h8, eq4, hc, r2, el, etn, es, ep, hJp, hJa]) <;> omega)) | (with_reducible apply q_ifn; · ((simp (disch := omega) only [jI_lit, jI_neg, jI_add, jI_sub, jI_mul, jI_lt, jI_le, jI_eq, va_up_self, va_up_ne, jI_shr1, jI_shr4, jI_shr0, jI_and1, jI_and15, jF_at, tn, b2_t, b2_f, cmp_ge, cmp_gt, cmp_le, cmp_lt, cmp_eq, jL_lit, jL_lt, jL_le, jL_eq, h7, i3, i7, ra, w1, w2, h6, h8, eq4, hc, r2, el, etn, es, ep, hJp, hJa]) <;> omega)) | (with_reducible apply q_obk; · (first | with_reducible rfl | ((simp (disch := omega) only [jI_lit, jI_neg, jI_add, jI_sub, jI_mul, o_gI, o_gR, o_pI, o_pZ0, o_pZ1, o_pZb, o_pR, o_aI, o_qI, o_aN, tn, va_up_self, va_up_ne, upup, jI_shr1, jI_shr4, jI_shr0, jI_and1, jI_and15, jI_join, jI_240, jI_hi, jF_at, jF_up, jI_max, jI_min, b2_t, b2_f, Bool.not_true, Bool.not_false, eq_self, true_or, or_true, h7, i3, i7, ra, w1, w2, h6, h8, eq4, hc, r2, el, etn, es, ep, hJp, hJa]) <;> with_reducible rfl))) | (with_reducible apply q_nz; · ((simp (disch := omega) only [jI_lit, jI_neg, jI_add, jI_sub, jI_mul, jI_lt, jI_le, jI_eq, va_up_self, va_up_ne, jI_shr1, jI_shr4, jI_shr0, jI_and1, jI_and15, jF_at, tn, b2_t, b2_f, cmp_ge, cmp_gt, cmp_le, cmp_lt, cmp_eq, jL_lit, jL_lt, jL_le, jL_eq, h7, i3, i7, ra, w1, w2, h6, h8, eq4, hc, r2, el, etn, es, ep, hJp, hJa]) <;> omega)) | (with_reducible apply q_rz; · (first | exact b2_01 _ | decide)))) <;> (first | with_reducible rfl | ((simp (disch := omega) only [jI_lit, jI_neg, jI_add, jI_sub, jI_mul, o_gI, o_gR, o_pI, o_pZ0, o_pZ1, o_pZb, o_pR, o_aI, o_qI, o_aN, tn, va_up_self, va_up_ne, upup, jI_shr1, jI_shr4, jI_shr0, jI_and1, jI_and15, jI_join, jI_240, jI_hi, jF_at, jF_up, jI_max, jI_min, b2_t, b2_f, Bool.not_true, Bool.not_false, eq_self, true_or, or_true, h7, i3, i7, ra, w1, w2, h6, h8, eq4, hc, r2, el, etn, es, ep, hJp, hJa]) <;> with_reducible rfl) | rfl))
theorem na_r {z : Int} (h1 : -2147483648 ≤ z) (h2 : z < 2147483648) : z.natAbs < 10 ^ 64 := by
  have : z.natAbs < 100000000000 := by omega
  exact Nat.lt_trans this (by decide +kernel)
theorem tn_r {z : Int} (h1 : -2147483648 ≤ z) (h2 : z < 2147483648) : -9000000000000000000 ≤ z ∧ z < 9000000000000000000 := by omega
theorem sg_r {z : Int} {s : Int} (h : s = if z < 0 then 13 else 12) : 0 ≤ s ∧ s < 16 := by split at h <;> omega
theorem sg_e {z : Int} : (if decide (z < 0) = true ∧ z.natAbs ≠ 0 then (13 : Int) else 12) = (if z < 0 then 13 else 12) := by
  by_cases q : z < 0
  · rw [if_pos ⟨by simpa using q, by omega⟩, if_pos q]
  · rw [if_neg (fun x => q (by simpa using x.1)), if_neg q]
theorem out6 {x p : Nat} (h : x + 1 < p ∨ p + 15 ≤ x) : p ≠ x + 1 := by omega
theorem out7 {y p : Nat} (h : y < p ∨ p + 15 ≤ y) : y < p + 5 ∨ p + 7 ≤ y := by omega
set_option maxHeartbeats 4000000 in
theorem e_pfDec {p x a k many : Nat} {P : PG} {r g : Nat → Int} (h : CTX K I R N p x a P r g k many) (ho : P 0 k = 17) :
    PO K I R L N w p x g (fX9_perform p (K, I, R, L, N, w)) (prf P r k) (if P 0 k = 24 then 1 else 0) (r 273 = -1) := by
  obtain ⟨fA, fB, px, w1, w2, ra⟩ := CTX_px h
  have h' := h
  obtain ⟨pc, h6, h7, ins, pg, hr, hI, hb, hg, h264, h8, h9, h10, h12, h13, hx, ha, hax, ck⟩ := h'
  have k8 := pc.1
  have lr := ln_r pg
  obtain ⟨n1, n2, n3, n4, n5⟩ := chk_none ck
  have pe := prf_eq P r k
  rw [if_neg (by omega), if_neg (by omega), if_neg (by omega), if_neg (by omega), if_neg (by omega), if_neg (by omega), if_neg (by omega), if_neg (by omega), if_neg (by omega), if_neg (by omega), if_neg (by omega), if_neg (by omega), if_neg (by omega), if_pos ho] at pe
  rw [pe, if_neg (show ¬ P 0 k = 24 by omega)]
  obtain ⟨eA, eN, hA, hn1⟩ := fA (by omega)
  rw [clA_op (by omega), eA] at h8
  obtain ⟨ka, ra', i1, i2, i3, i4, i5, i6, i7, i8, i9, i10⟩ := ins
  rw [eN] at i3
  obtain ⟨w1', -⟩ := wd_o pg.1.1 pg.1.2
  have hcel : ∀ t : Nat, t < 276 → t ≠ 267 → fX10_cell x (jI (t : Int)) (K, I, R, L, N, w) = some (jI (r t)) := fun t q1 q2 => by
    rw [e_cell hr (by omega) (by omega), hI, jF_at, cls_lo (by omega) (by omega)]; rfl
  have hput : ∀ (t : Nat) (v : Int), t < 276 → t ≠ 267 → fX10_put x (jI (t : Int)) (jI v) (K, I, R, L, N, w) = some (K, va_up I (x + 1) (jF (cls (va_up r t v) g)), R, L, N, w) := fun t v q1 q2 => by
    rw [e_put hr (by omega) (by omega), hI, jF_up, show ((t : Int)).toNat = t by omega, cls_up_lo q1 q2]
  have hq := pg.2.2.2.2.2.2.2.1 (by omega) (by omega)
  rw [if_pos (by omega)] at i7
  have eq4 : (256 : Int) + P 4 k = ((256 + (P 4 k).toNat : Nat) : Int) := by omega
  have hc := hcel (256 + (P 4 k).toNat) (by omega) (by omega)
  obtain ⟨k8, r0, r1, r2, r3, r4, k14, n14, d1, d2, d3, ed⟩ := pc
  clear n1 n2 n3 n4 n5 fA fB lr ck pe
  have hz := hg (256 + (P 4 k).toNat)
  obtain ⟨z, hzz⟩ : ∃ z, z = r (256 + (P 4 k).toNat) := ⟨_, rfl⟩
  rw [← hzz] at hz hc ⊢
  have etn := e_takeNumber (I := I) (L := L) (w := w) (z := z) d3 (tn_r hz.1 hz.2).1 (tn_r hz.1 hz.2).2
  obtain ⟨J, eJ⟩ : ∃ J, J = dset I (p + 5) z.natAbs (decide (z < 0)) := ⟨_, rfl⟩
  have hJ : ∀ y, y < p + 5 ∨ p + 7 ≤ y → J y = I y := fun y hy => by rw [eJ, dset_ne _ _ _ _ (by omega) (by omega)]
  have hJx : J (x + 1) = jF (cls r g) := by rw [hJ _ (out5 hx).1]; exact hI
  have dv : DV J (p + 5) z.natAbs (decide (z < 0)) := by rw [eJ]; exact DV_dset _ _ _ _
  rw [← eJ] at etn
  have es := e_sign (I := J) (L := L) (w := w) d3 dv (na_r hz.1 hz.2)
  rw [sg_e] at es
  obtain ⟨sg, hsg⟩ : ∃ sg : Int, sg = (if z < 0 then 13 else 12) := ⟨_, rfl⟩
  obtain ⟨s1, s2⟩ := sg_r hsg
  rw [← hsg] at es ⊢
  have l8 : lnA P k = 8 := by unfold lnA; rw [if_pos (Or.inr ho)]
  have ep := e_dputw (I := J) (L := L) (w := w) (c := cls r g) (v := z.natAbs) (p := (opA P r k).toNat) (n := (lnA P k).toNat) (s := sg) d3 hr dv.1 hJx (out5 hx).2.1 hA (by rw [l8]; decide) s1 s2 (out5 hx).2.2
  rw [sto_cls hA] at ep
  have el : Int32.toInt64 (jI z) = jL z := jI_long hz.1 hz.2
  have hs : smT (P 0 k) = 17 := by rw [ho]; rfl
  have hJp := hJ p (Or.inl (by omega))
  have hJa := hJ a (out7 ha)
  refine PO_row h (J := va_up J (x + 1) (jF (cls (sto r (opA P r k).toNat (lnA P k).toNat z.natAbs sg) g))) (fun y hy hy2 => by rw [va_up_ne _ _ hy2, hJ y (out7 hy)]) (by rw [va_up_ne _ _ (out6 hx), hJp]; exact h12) (by rw [va_up_ne _ _ (out6 hx), hJp]; exact h13) (va_up_self _ _ _) ?_
  rw [hs] at w2
  exact e_perfPl k8 ka h7 ra w1 w2 (Or.inr ⟨by decide, by decide⟩) (e_plDec k8 ka h7 ra w1 w2 h6 r2 i3 i7 h8 eq4 hc el etn hJp hJa es ep)
end PF5
