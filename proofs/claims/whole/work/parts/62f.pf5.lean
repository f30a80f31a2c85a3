section PF5
variable {K : Nat → Nat} {I : Nat → Nat → Int32} {R : Nat → Nat → Nat} {L : Nat → Nat → Int64} {N : Nat → Nat} {w : Nat × Nat × Nat × Nat}
set_option maxHeartbeats 4000000 in
theorem e_pfCopy {p x a k many : Nat} {P : PG} {r g : Nat → Int} (h : CTX K I R N p x a P r g k many) (ho : P 0 k = 9) :
    PO K I R L N w p x g (fX9_perform p (K, I, R, L, N, w)) (prf P r k) (if P 0 k = 24 then 1 else 0) (r 273 = -1) := by
  obtain ⟨fA, fB, px, w1, w2, ra⟩ := CTX_px h
  have h' := h
  obtain ⟨pc, h6, h7, ins, pg, hr, hI, hb, hg, h264, h8, h9, h10, h12, h13, hx, ha, hax, ck⟩ := h'
  have k8 := pc.1
  have lr := ln_r pg
  obtain ⟨n1, n2, n3, n4, n5⟩ := chk_none ck
  have pe := prf_eq P r k
  rw [if_neg (by omega), if_neg (by omega), if_neg (by omega), if_neg (by omega), if_neg (by omega), if_neg (by omega), if_neg (by omega), if_neg (by omega), if_pos (Or.inl ho)] at pe
  rw [pe, if_neg (show ¬ P 0 k = 24 by omega)]
  obtain ⟨eA, eN, hA, hn1⟩ := fA (by omega)
  rw [clA_op (by omega), eA] at h8
  obtain ⟨eB, eM, hB, hm1⟩ := fB (by omega)
  rw [eB] at h9
  obtain ⟨ka, ra', i1, i2, i3, i4, i5, i6, i7, i8, i9, i10⟩ := ins
  rw [eN] at i3
  have lm : lnB P k = lnA P k := by unfold lnB; rw [if_neg (by omega), if_pos (by omega)]
  have ep := e_copy 0 (L := L) (w := w) hr hI (cls_byt hb) hA (q := (opB P r k).toNat) (by omega)
  rw [cpS_cls 0 hA (by omega) _ (Nat.le_refl _), show cpM 0 = 255 from rfl] at ep
  rw [show (P 0 k - 9).toNat = 0 by omega]
  have hs : smT (P 0 k) = 9 := by rw [ho]; rfl
  refine PO_row h (J := va_up I (x + 1) (jF (cls (cpS 0 r (opA P r k).toNat (opB P r k).toNat (lnA P k).toNat) g))) (fun y _ hy => va_up_ne _ _ hy) (by rw [va_up_ne _ _ (by omega)]; exact h12) (by rw [va_up_ne _ _ (by omega)]; exact h13) (va_up_self _ _ _) ?_
  clear pe h px fA fB n1 n2 n3 n4 n5 lr ck pg hg hb
  unfold fX9_perform
  ((repeat (first | (with_reducible apply q_gd; · (first | assumption | omega)) | (with_reducible apply q_ob; · (first | with_reducible rfl | ((simp (disch := omega) only [jI_lit, jI_neg, jI_add, jI_sub, jI_mul, o_gI, o_gR, o_pI, o_pZ0, o_pZ1, o_pZb, o_pR, o_aI, o_qI, o_aN, tn, va_up_self, va_up_ne, upup, jI_shr1, jI_shr4, jI_shr0, jI_and1, jI_and15, jI_join, jI_240, jI_hi, jF_at, jF_up, jI_max, jI_min, b2_t, b2_f, Bool.not_true, Bool.not_false, eq_self, true_or, or_true, h7, i3, i6, ra, w1, w2, hs, h6, h8, h9, ep]) <;> with_reducible rfl))) | (with_reducible apply q_ob2; · (first | with_reducible rfl | ((simp (disch := omega) only [jI_lit, jI_neg, jI_add, jI_sub, jI_mul, o_gI, o_gR, o_pI, o_pZ0, o_pZ1, o_pZb, o_pR, o_aI, o_qI, o_aN, tn, va_up_self, va_up_ne, upup, jI_shr1, jI_shr4, jI_shr0, jI_and1, jI_and15, jI_join, jI_240, jI_hi, jF_at, jF_up, jI_max, jI_min, b2_t, b2_f, Bool.not_true, Bool.not_false, eq_self, true_or, or_true, h7, i3, i6, ra, w1, w2, hs, h6, h8, h9, ep]) <;> with_reducible rfl))) | (with_reducible apply q_lt; · (first | with_reducible rfl | ((simp (disch := omega) only [jI_lit, jI_neg, jI_add, jI_sub, jI_mul, o_gI, o_gR, o_pI, o_pZ0, o_pZ1, o_pZb, o_pR, o_aI, o_qI, o_aN, tn, va_up_self, va_up_ne, upup, jI_shr1, jI_shr4, jI_shr0, jI_and1, jI_and15, jI_join, jI_240, jI_hi, jF_at, jF_up, jI_max, jI_min, b2_t, b2_f, Bool.not_true, Bool.not_false, eq_self, true_or, or_true, h7, i3, i6, ra, w1, w2, hs, h6, h8, h9, ep]) <;> with_reducible rfl))) | (with_reducible apply q_ifp; · ((simp (disch := omega) only [jI_lit, jI_neg, jI_add, jI_sub, jI_mul, jI_lt, jI_le, jI_eq, va_up_self, va_up_ne, jI_shr1, jI_shr4, jI_shr0, jI_and1, jI_and15, jF_at, tn, b2_t, b2_f, cmp_ge, cmp_gt, cmp_le, cmp_lt, cmp_eq, jL_lit, jL_lt, jL_le, jL_eq, h7, i3, i6, ra, w1, w2, hs, h6, h8, h9, ep]) <;> omega)) | (with_reducible apply q_ifn; · ((simp (disch := omega) only [jI_lit, jI_neg, jI_add, jI_sub, jI_mul, jI_lt, jI_le, jI_eq, va_up_self, va_up_ne, jI_shr1, jI_shr4, jI_shr0, jI_and1, jI_and15, jF_at, tn, b2_t, b2_f, cmp_ge, cmp_gt, cmp_le, cmp_lt, cmp_eq, jL_lit, jL_lt, jL_le, jL_eq, h7, i3, i6, ra, w1, w2, hs, h6, h8, h9, ep]) <;> omega)) | (with_reducible apply q_obk; · (first | with_reducible rfl | ((simp (disch := omega) only [jI_lit, jI_neg, jI_add, jI_sub, jI_mul, o_gI, o_gR, o_pI, o_pZ0, o_pZ1, o_pZb, o_pR, o_aI, o_qI, o_aN, tn, va_up_self, va_up_ne, upup, jI_shr1, jI_shr4, jI_shr0, jI_and1, jI_and15, jI_join, jI_240, jI_hi, jF_at, jF_up, jI_max, jI_min, b2_t, b2_f, Bool.not_true, Bool.not_false, eq_self, true_or, or_true, h7, i3, i6, ra, w1, w2, hs, h6, h8, h9, ep]) <;> with_reducible rfl))) | (with_reducible apply q_nz; · ((simp (disch := omega) only [jI_lit, jI_neg, jI_add, jI_sub, jI_mul, jI_lt, jI_le, jI_eq, va_up_self, va_up_ne, jI_shr1, jI_shr4, jI_shr0, jI_and1, jI_and15, jF_at, tn, b2_t, b2_f, cmp_ge, cmp_gt, cmp_le, cmp_lt, cmp_eq, jL_lit, jL_lt, jL_le, jL_eq, h7, i3, i6, ra, w1, w2, hs, h6, h8, h9, ep]) <;> omega)) | (with_reducible apply q_rz; · (first | exact b2_01 _ | decide)))) <;> (first | with_reducible rfl | ((simp (disch := omega) only [jI_lit, jI_neg, jI_add, jI_sub, jI_mul, o_gI, o_gR, o_pI, o_pZ0, o_pZ1, o_pZb, o_pR, o_aI, o_qI, o_aN, tn, va_up_self, va_up_ne, upup, jI_shr1, jI_shr4, jI_shr0, jI_and1, jI_and15, jI_join, jI_240, jI_hi, jF_at, jF_up, jI_max, jI_min, b2_t, b2_f, Bool.not_true, Bool.not_false, eq_self, true_or, or_true, h7, i3, i6, ra, w1, w2, hs, h6, h8, h9, ep]) <;> with_reducible rfl) | rfl))
set_option maxHeartbeats 4000000 in
theorem e_pfDigits {p x a k many : Nat} {P : PG} {r g : Nat → Int} (h : CTX K I R N p x a P r g k many) (ho : P 0 k = 10) :
    PO K I R L N w p x g (fX9_perform p (K, I, R, L, N, w)) (prf P r k) (if P 0 k = 24 then 1 else 0) (r 273 = -1) := by
  obtain ⟨fA, fB, px, w1, w2, ra⟩ := CTX_px h
  have h' := h
  obtain ⟨pc, h6, h7, ins, pg, hr, hI, hb, hg, h264, h8, h9, h10, h12, h13, hx, ha, hax, ck⟩ := h'
  have k8 := pc.1
  have lr := ln_r pg
  obtain ⟨n1, n2, n3, n4, n5⟩ := chk_none ck
  have pe := prf_eq P r k
  rw [if_neg (by omega), if_neg (by omega), if_neg (by omega), if_neg (by omega), if_neg (by omega), if_neg (by omega), if_neg (by omega), if_neg (by omega), if_pos (Or.inr (Or.inl ho))] at pe
  rw [pe, if_neg (show ¬ P 0 k = 24 by omega)]
  obtain ⟨eA, eN, hA, hn1⟩ := fA (by omega)
  rw [clA_op (by omega), eA] at h8
  obtain ⟨eB, eM, hB, hm1⟩ := fB (by omega)
  rw [eB] at h9
  obtain ⟨ka, ra', i1, i2, i3, i4, i5, i6, i7, i8, i9, i10⟩ := ins
  rw [eN] at i3
  have lm : lnB P k = lnA P k := by unfold lnB; rw [if_neg (by omega), if_pos (by omega)]
  have ep := e_copy 1 (L := L) (w := w) hr hI (cls_byt hb) hA (q := (opB P r k).toNat) (by omega)
  rw [cpS_cls 1 hA (by omega) _ (Nat.le_refl _), show cpM 1 = 15 from rfl] at ep
  rw [show (P 0 k - 9).toNat = 1 by omega]
  have hs : smT (P 0 k) = 10 := by rw [ho]; rfl
  refine PO_row h (J := va_up I (x + 1) (jF (cls (cpS 1 r (opA P r k).toNat (opB P r k).toNat (lnA P k).toNat) g))) (fun y _ hy => va_up_ne _ _ hy) (by rw [va_up_ne _ _ (by omega)]; exact h12) (by rw [va_up_ne _ _ (by omega)]; exact h13) (va_up_self _ _ _) ?_
  clear pe h px fA fB n1 n2 n3 n4 n5 lr ck pg hg hb
  unfold fX9_perform
  ((repeat (first | (with_reducible apply q_gd; · (first | assumption | omega)) | (with_reducible apply q_ob; · (first | with_reducible rfl | ((simp (disch := omega) only [jI_lit, jI_neg, jI_add, jI_sub, jI_mul, o_gI, o_gR, o_pI, o_pZ0, o_pZ1, o_pZb, o_pR, o_aI, o_qI, o_aN, tn, va_up_self, va_up_ne, upup, jI_shr1, jI_shr4, jI_shr0, jI_and1, jI_and15, jI_join, jI_240, jI_hi, jF_at, jF_up, jI_max, jI_min, b2_t, b2_f, Bool.not_true, Bool.not_false, eq_self, true_or, or_true, h7, i3, i6, ra, w1, w2, hs, h6, h8, h9, ep]) <;> with_reducible rfl))) | (with_reducible apply q_ob2; · (first | with_reducible rfl | ((simp (disch := omega) only [jI_lit, jI_neg, jI_add, jI_sub, jI_mul, o_gI, o_gR, o_pI, o_pZ0, o_pZ1, o_pZb, o_pR, o_aI, o_qI, o_aN, tn, va_up_self, va_up_ne, upup, jI_shr1, jI_shr4, jI_shr0, jI_and1, jI_and15, jI_join, jI_240, jI_hi, jF_at, jF_up, jI_max, jI_min, b2_t, b2_f, Bool.not_true, Bool.not_false, eq_self, true_or, or_true, h7, i3, i6, ra, w1, w2, hs, h6, h8, h9, ep]) <;> with_reducible rfl))) | (with_reducible apply q_lt; · (first | with_reducible rfl | ((simp (disch := omega) only [jI_lit, jI_neg, jI_add, jI_sub, jI_mul, o_gI, o_gR, o_pI, o_pZ0, o_pZ1, o_pZb, o_pR, o_aI, o_qI, o_aN, tn, va_up_self, va_up_ne, upup, jI_shr1, jI_shr4, jI_shr0, jI_and1, jI_and15, jI_join, jI_240, jI_hi, jF_at, jF_up, jI_max, jI_min, b2_t, b2_f, Bool.not_true, Bool.not_false, eq_self, true_or, or_true, h7, i3, i6, ra, w1, w2, hs, h6, h8, h9, ep]) <;> with_reducible rfl))) | (with_reducible apply q_ifp; · ((simp (disch := omega) only [jI_lit, jI_neg, jI_add, jI_sub, jI_mul, jI_lt, jI_le, jI_eq, va_up_self, va_up_ne, jI_shr1, jI_shr4, jI_shr0, jI_and1, jI_and15, jF_at, tn, b2_t, b2_f, cmp_ge, cmp_gt, cmp_le, cmp_lt, cmp_eq, jL_lit, jL_lt, jL_le, jL_eq, h7, i3, i6, ra, w1, w2, hs, h6, h8, h9, ep]) <;> omega)) | (with_reducible apply q_ifn; · ((simp (disch := omega) only [jI_lit, jI_neg, jI_add, jI_sub, jI_mul, jI_lt, jI_le, jI_eq, va_up_self, va_up_ne, jI_shr1, jI_shr4, jI_shr0, jI_and1, jI_and15, jF_at, tn, b2_t, b2_f, cmp_ge, cmp_gt, cmp_le, cmp_lt, cmp_eq, jL_lit, jL_lt, jL_le, jL_eq, h7, i3, i6, ra, w1, w2, hs, h6, h8, h9, ep]) <;> omega)) | (with_reducible apply q_obk; · (first | with_reducible rfl | ((simp (disch := omega) only [jI_lit, jI_neg, jI_add, jI_sub, jI_mul, o_gI, o_gR, o_pI, o_pZ0, o_pZ1, o_pZb, o_pR, o_aI, o_qI, o_aN, tn, va_up_self, va_up_ne, upup, jI_shr1, jI_shr4, jI_shr0, jI_and1, jI_and15, jI_join, jI_240, jI_hi, jF_at, jF_up, jI_max, jI_min, b2_t, b2_f, Bool.not_true, Bool.not_false, eq_self, true_or, or_true, h7, i3, i6, ra, w1, w2, hs, h6, h8, h9, ep]) <;> with_reducible rfl))) | (with_reducible apply q_nz; · ((simp (disch := omega) only [jI_lit, jI_neg, jI_add, jI_sub, jI_mul, jI_lt, jI_le, jI_eq, va_up_self, va_up_ne, jI_shr1, jI_shr4, jI_shr0, jI_and1, jI_and15, jF_at, tn, b2_t, b2_f, cmp_ge, cmp_gt, cmp_le, cmp_lt, cmp_eq, jL_lit, jL_lt, jL_le, jL_eq, h7, i3, i6, ra, w1, w2, hs, h6, h8, h9, ep]) <;> omega)) | (with_reducible apply q_rz; · (first | exact b2_01 _ | decide)))) <;> (first | with_reducible rfl | ((simp (disch := omega) only [jI_lit, jI_neg, jI_add, jI_sub, jI_mul, o_gI, o_gR, o_pI, o_pZ0, o_pZ1, o_pZb, o_pR, o_aI, o_qI, o_aN, tn, va_up_self, va_up_ne, upup, jI_shr1, jI_shr4, jI_shr0, jI_and1, jI_and15, jI_join, jI_240, jI_hi, jF_at, jF_up, jI_max, jI_min, b2_t, b2_f, Bool.not_true, Bool.not_false, eq_self, true_or, or_true, h7, i3, i6, ra, w1, w2, hs, h6, h8, h9, ep]) <;> with_reducible rfl) | rfl))
set_option maxHeartbeats 4000000 in
theorem e_pfZones {p x a k many : Nat} {P : PG} {r g : Nat → Int} (h : CTX K I R N p x a P r g k many) (ho : P 0 k = 11) :
    PO K I R L N w p x g (fX9_perform p (K, I, R, L, N, w)) (prf P r k) (if P 0 k = 24 then 1 else 0) (r 273 = -1) := by
  obtain ⟨fA, fB, px, w1, w2, ra⟩ := CTX_px h
  have h' := h
  obtain ⟨pc, h6, h7, ins, pg, hr, hI, hb, hg, h264, h8, h9, h10, h12, h13, hx, ha, hax, ck⟩ := h'
  have k8 := pc.1
  have lr := ln_r pg
  obtain ⟨n1, n2, n3, n4, n5⟩ := chk_none ck
  have pe := prf_eq P r k
  rw [if_neg (by omega), if_neg (by omega), if_neg (by omega), if_neg (by omega), if_neg (by omega), if_neg (by omega), if_neg (by omega), if_neg (by omega), if_pos (Or.inr (Or.inr ho))] at pe
  rw [pe, if_neg (show ¬ P 0 k = 24 by omega)]
  obtain ⟨eA, eN, hA, hn1⟩ := fA (by omega)
  rw [clA_op (by omega), eA] at h8
  obtain ⟨eB, eM, hB, hm1⟩ := fB (by omega)
  rw [eB] at h9
  obtain ⟨ka, ra', i1, i2, i3, i4, i5, i6, i7, i8, i9, i10⟩ := ins
  rw [eN] at i3
  have lm : lnB P k = lnA P k := by unfold lnB; rw [if_neg (by omega), if_pos (by omega)]
  have ep := e_copy 2 (L := L) (w := w) hr hI (cls_byt hb) hA (q := (opB P r k).toNat) (by omega)
  rw [cpS_cls 2 hA (by omega) _ (Nat.le_refl _), show cpM 2 = 240 from rfl] at ep
  rw [show (P 0 k - 9).toNat = 2 by omega]
  have hs : smT (P 0 k) = 11 := by rw [ho]; rfl
  refine PO_row h (J := va_up I (x + 1) (jF (cls (cpS 2 r (opA P r k).toNat (opB P r k).toNat (lnA P k).toNat) g))) (fun y _ hy => va_up_ne _ _ hy) (by rw [va_up_ne _ _ (by omega)]; exact h12) (by rw [va_up_ne _ _ (by omega)]; exact h13) (va_up_self _ _ _) ?_
  clear pe h px fA fB n1 n2 n3 n4 n5 lr ck pg hg hb
  unfold fX9_perform
  ((repeat (first | (with_reducible apply q_gd; · (first | assumption | omega)) | (with_reducible apply q_ob; · (first | with_reducible rfl | ((simp (disch := omega) only [jI_lit, jI_neg, jI_add, jI_sub, jI_mul, o_gI, o_gR, o_pI, o_pZ0, o_pZ1, o_pZb, o_pR, o_aI, o_qI, o_aN, tn, va_up_self, va_up_ne, upup, jI_shr1, jI_shr4, jI_shr0, jI_and1, jI_and15, jI_join, jI_240, jI_hi, jF_at, jF_up, jI_max, jI_min, b2_t, b2_f, Bool.not_true, Bool.not_false, eq_self, true_or, or_true, h7, i3, i6, ra, w1, w2, hs, h6, h8, h9, ep]) <;> with_reducible rfl))) | (with_reducible apply q_ob2; · (first | with_reducible rfl | ((simp (disch := omega) only [jI_lit, jI_neg, jI_add, jI_sub, jI_mul, o_gI, o_gR, o_pI, o_pZ0, o_pZ1, o_pZb, o_pR, o_aI, o_qI, o_aN, tn, va_up_self, va_up_ne, upup, jI_shr1, jI_shr4, jI_shr0, jI_and1, jI_and15, jI_join, jI_240, jI_hi, jF_at, jF_up, jI_max, jI_min, b2_t, b2_f, Bool.not_true, Bool.not_false, eq_self, true_or, or_true, h7, i3, i6, ra, w1, w2, hs, h6, h8, h9, ep]) <;> with_reducible rfl))) | (with_reducible apply q_lt; · (first | with_reducible rfl | ((simp (disch := omega) only [jI_lit, jI_neg, jI_add, jI_sub, jI_mul, o_gI, o_gR, o_pI, o_pZ0, o_pZ1, o_pZb, o_pR, o_aI, o_qI, o_aN, tn, va_up_self, va_up_ne, upup, jI_shr1, jI_shr4, jI_shr0, jI_and1, jI_and15, jI_join, jI_240, jI_hi, jF_at, jF_up, jI_max, jI_min, b2_t, b2_f, Bool.not_true, Bool.not_false, eq_self, true_or, or_true, h7, i3, i6, ra, w1, w2, hs, h6, h8, h9, ep]) <;> with_reducible rfl))) | (with_reducible apply q_ifp; · ((simp (disch := omega) only [jI_lit, jI_neg, jI_add, jI_sub, jI_mul, jI_lt, jI_le, jI_eq, va_up_self, va_up_ne, jI_shr1, jI_shr4, jI_shr0, jI_and1, jI_and15, jF_at, tn, b2_t, b2_f, cmp_ge, cmp_gt, cmp_le, cmp_lt, cmp_eq, jL_lit, jL_lt, jL_le, jL_eq, h7, i3, i6, ra, w1, w2, hs, h6, h8, h9, ep]) <;> omega)) | (with_reducible apply q_ifn; · ((simp (disch := omega) only [jI_lit, jI_neg, jI_add, jI_sub, jI_mul, jI_lt, jI_le, jI_eq, va_up_self, va_up_ne, jI_shr1, jI_shr4, jI_shr0, jI_and1, jI_and15, jF_at, tn, b2_t, b2_f, cmp_ge, cmp_gt, cmp_le, cmp_lt, cmp_eq, jL_lit, jL_lt, jL_le, jL_eq, h7, i3, i6, ra, w1, w2, hs, h6, h8, h9, ep]) <;> omega)) | (with_reducible apply q_obk; · (first | with_reducible rfl | ((simp (disch := omega) only [jI_lit, jI_neg, jI_add, jI_sub, jI_mul, o_gI, o_gR, o_pI, o_pZ0, o_pZ1, o_pZb, o_pR, o_aI, o_qI, o_aN, tn, va_up_self, va_up_ne, upup, jI_shr1, jI_shr4, jI_shr0, jI_and1, jI_and15, jI_join, jI_240, jI_hi, jF_at, jF_up, jI_max, jI_min, b2_t, b2_f, Bool.not_true, Bool.not_false, eq_self, true_or, or_true, h7, i3, i6, ra, w1, w2, hs, h6, h8, h9, ep]) <;> with_reducible rfl))) | (with_reducible apply q_nz; · ((simp (disch := omega) only [jI_lit, jI_neg, jI_add, jI_sub, jI_mul, jI_lt, jI_le, jI_eq, va_up_self, va_up_ne, jI_shr1, jI_shr4, jI_shr0, jI_and1, jI_and15, jF_at, tn, b2_t, b2_f, cmp_ge, cmp_gt, cmp_le, cmp_lt, cmp_eq, jL_lit, jL_lt, jL_le, jL_eq, h7, i3, i6, ra, w1, w2, hs, h6, h8, h9, ep]) <;> omega)) | (with_reducible apply q_rz; · (first | exact b2_01 _ | decide)))) <;> (first | with_reducible rfl | ((simp (disch := omega) only [jI_lit, jI_neg, jI_add, jI_sub, jI_mul, o_gI, o_gR, o_pI, o_pZ0, o_pZ1, o_pZb, o_pR, o_aI, o_qI, o_aN, tn, va_up_self, va_up_ne, upup, jI_shr1, jI_shr4, jI_shr0, jI_and1, jI_and15, jI_join, jI_240, jI_hi, jF_at, jF_up, jI_max, jI_min, b2_t, b2_f, Bool.not_true, Bool.not_false, eq_self, true_or, or_true, h7, i3, i6, ra, w1, w2, hs, h6, h8, h9, ep]) <;> with_reducible rfl) | rfl))
end PF5
