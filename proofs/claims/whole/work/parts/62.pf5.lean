section PF5
variable {K : Nat → Nat} {I : Nat → Nat → Int32} {R : Nat → Nat → Nat} {L : Nat → Nat → Int64} {N : Nat → Nat} {w : Nat × Nat × Nat × Nat}
theorem e_pfPack {p x a k many : Nat} {P : PG} {r g : Nat → Int} (h : CTX K I R N p x a P r g k many) (ho : P 0 k = 0) :
    PO K I R L N w p x g (fX9_perform p (K, I, R, L, N, w)) (prf P r k) (if P 0 k = 24 then 1 else 0) (r 273 = -1) := by
  obtain ⟨fA, fB, px, w1, w2, ra⟩ := CTX_px h
  have h' := h
  obtain ⟨pc, h6, h7, ins, pg, hr, hI, hb, hg, h264, h8, h9, h10, h12, h13, hx, ha, hax, ck⟩ := h'
  have lr := ln_r pg
  obtain ⟨n1, n2, n3, n4, n5⟩ := chk_none ck
  have pe := prf_eq P r k
  rw [if_pos ho] at pe
  rw [pe, if_neg (show ¬ P 0 k = 24 by omega)]
  obtain ⟨eA, eN, hA, hn1⟩ := fA (by omega)
  rw [clA_op (by omega), eA] at h8
  obtain ⟨eB, eM, hB, hm1⟩ := fB (by omega)
  rw [eB] at h9
  obtain ⟨ka, ra', i1, i2, i3, i4, i5, i6, i7, i8, i9, i10⟩ := ins
  rw [eN] at i3
  rw [eM] at i6
  have ep := e_pack (L := L) (w := w) hr hI (cls_byt hb) hA hB hn1 hm1
  rw [pkS_cls hA hn1 hB hm1] at ep
  have hs : smT (P 0 k) = 6 := by rw [ho]; rfl
  refine PO_row h (J := va_up I (x + 1) (jF (cls (pkS r (opA P r k).toNat (lnA P k).toNat (opB P r k).toNat (lnB P k).toNat ((lnA P k).toNat - 1)) g))) (fun y _ hy => va_up_ne _ _ hy) (by rw [va_up_ne _ _ (by omega)]; exact h12) (by rw [va_up_ne _ _ (by omega)]; exact h13) (va_up_self _ _ _) ?_
  clear pe h px fA fB n1 n2 n3 n4 n5 lr ck pg hg hb
  unfold fX9_perform
  ((repeat (first | (with_reducible apply q_gd; · (first | assumption | omega)) | (with_reducible apply q_ob; · (first | with_reducible rfl | ((simp (disch := omega) only [jI_lit, jI_neg, jI_add, jI_sub, jI_mul, o_gI, o_gR, o_pI, o_pZ0, o_pZ1, o_pZb, o_pR, o_aI, o_qI, o_aN, tn, va_up_self, va_up_ne, upup, jI_shr1, jI_shr4, jI_shr0, jI_and1, jI_and15, jI_join, jI_240, jI_hi, jF_at, jF_up, jI_max, jI_min, b2_t, b2_f, Bool.not_true, Bool.not_false, eq_self, true_or, or_true, h7, i3, i6, ra, w1, w2, hs, h6, h8, h9, ep]) <;> with_reducible rfl))) | (with_reducible apply q_ob2; · (first | with_reducible rfl | ((simp (disch := omega) only [jI_lit, jI_neg, jI_add, jI_sub, jI_mul, o_gI, o_gR, o_pI, o_pZ0, o_pZ1, o_pZb, o_pR, o_aI, o_qI, o_aN, tn, va_up_self, va_up_ne, upup, jI_shr1, jI_shr4, jI_shr0, jI_and1, jI_and15, jI_join, jI_240, jI_hi, jF_at, jF_up, jI_max, jI_min, b2_t, b2_f, Bool.not_true, Bool.not_false, eq_self, true_or, or_true, h7, i3, i6, ra, w1, w2, hs, h6, h8, h9, ep]) <;> with_reducible rfl))) | (with_reducible apply q_lt; · (first | with_reducible rfl | ((simp (disch := omega) only [jI_lit, jI_neg, jI_add, jI_sub, jI_mul, o_gI, o_gR, o_pI, o_pZ0, o_pZ1, o_pZb, o_pR, o_aI, o_qI, o_aN, tn, va_up_self, va_up_ne, upup, jI_shr1, jI_shr4, jI_shr0, jI_and1, jI_and15, jI_join, jI_240, jI_hi, jF_at, jF_up, jI_max, jI_min, b2_t, b2_f, Bool.not_true, Bool.not_false, eq_self, true_or, or_true, h7, i3, i6, ra, w1, w2, hs, h6, h8, h9, ep]) <;> with_reducible rfl))) | (with_reducible apply q_ifp; · ((simp (disch := omega) only [jI_lit, jI_neg, jI_add, jI_sub, jI_mul, jI_lt, jI_le, jI_eq, va_up_self, va_up_ne, jI_shr1, jI_shr4, jI_shr0, jI_and1, jI_and15, jF_at, tn, b2_t, b2_f, cmp_ge, cmp_gt, cmp_le, cmp_lt, cmp_eq, jL_lit, jL_lt, jL_le, jL_eq, h7, i3, i6, ra, w1, w2, hs, h6, h8, h9, ep]) <;> omega)) | (with_reducible apply q_ifn; · ((simp (disch := omega) only [jI_lit, jI_neg, jI_add, jI_sub, jI_mul, jI_lt, jI_le, jI_eq, va_up_self, va_up_ne, jI_shr1, jI_shr4, jI_shr0, jI_and1, jI_and15, jF_at, tn, b2_t, b2_f, cmp_ge, cmp_gt, cmp_le, cmp_lt, cmp_eq, jL_lit, jL_lt, jL_le, jL_eq, h7, i3, i6, ra, w1, w2, hs, h6, h8, h9, ep]) <;> omega)) | (with_reducible apply q_obk; · (first | with_reducible rfl | ((simp (disch := omega) only [jI_lit, jI_neg, jI_add, jI_sub, jI_mul, o_gI, o_gR, o_pI, o_pZ0, o_pZ1, o_pZb, o_pR, o_aI, o_qI, o_aN, tn, va_up_self, va_up_ne, upup, jI_shr1, jI_shr4, jI_shr0, jI_and1, jI_and15, jI_join, jI_240, jI_hi, jF_at, jF_up, jI_max, jI_min, b2_t, b2_f, Bool.not_true, Bool.not_false, eq_self, true_or, or_true, h7, i3, i6, ra, w1, w2, hs, h6, h8, h9, ep]) <;> with_reducible rfl))) | (with_reducible apply q_nz; · ((simp (disch := omega) only [jI_lit, jI_neg, jI_add, jI_sub, jI_mul, jI_lt, jI_le, jI_eq, va_up_self, va_up_ne, jI_shr1, jI_shr4, jI_shr0, jI_and1, jI_and15, jF_at, tn, b2_t, b2_f, cmp_ge, cmp_gt, cmp_le, cmp_lt, cmp_eq, jL_lit, jL_lt, jL_le, jL_eq, h7, i3, i6, ra, w1, w2, hs, h6, h8, h9, ep]) <;> omega)) | (with_reducible apply q_rz; · (first | exact b2_01 _ | decide)))) <;> (first | with_reducible rfl | ((simp (disch := omega) only [jI_lit, jI_neg, jI_add, jI_sub, jI_mul, o_gI, o_gR, o_pI, o_pZ0, o_pZ1, o_pZb, o_pR, o_aI, o_qI, o_aN, tn, va_up_self, va_up_ne, upup, jI_shr1, jI_shr4, jI_shr0, jI_and1, jI_and15, jI_join, jI_240, jI_hi, jF_at, jF_up, jI_max, jI_min, b2_t, b2_f, Bool.not_true, Bool.not_false, eq_self, true_or, or_true, h7, i3, i6, ra, w1, w2, hs, h6, h8, h9, ep]) <;> with_reducible rfl) | rfl))
theorem e_pfUnpack {p x a k many : Nat} {P : PG} {r g : Nat → Int} (h : CTX K I R N p x a P r g k many) (ho : P 0 k = 1) :
    PO K I R L N w p x g (fX9_perform p (K, I, R, L, N, w)) (prf P r k) (if P 0 k = 24 then 1 else 0) (r 273 = -1) := by
  obtain ⟨fA, fB, px, w1, w2, ra⟩ := CTX_px h
  have h' := h
  obtain ⟨pc, h6, h7, ins, pg, hr, hI, hb, hg, h264, h8, h9, h10, h12, h13, hx, ha, hax, ck⟩ := h'
  have lr := ln_r pg
  obtain ⟨n1, n2, n3, n4, n5⟩ := chk_none ck
  have pe := prf_eq P r k
  rw [if_neg (by omega), if_pos ho] at pe
  rw [pe, if_neg (show ¬ P 0 k = 24 by omega)]
  obtain ⟨eA, eN, hA, hn1⟩ := fA (by omega)
  rw [clA_op (by omega), eA] at h8
  obtain ⟨eB, eM, hB, hm1⟩ := fB (by omega)
  rw [eB] at h9
  obtain ⟨ka, ra', i1, i2, i3, i4, i5, i6, i7, i8, i9, i10⟩ := ins
  rw [eN] at i3
  rw [eM] at i6
  have ep := e_unpack (L := L) (w := w) hr hI (cls_byt hb) hA hB hn1 hm1
  rw [(upS_cls hA hn1 hB hm1 _).1] at ep
  have hs : smT (P 0 k) = 7 := by rw [ho]; rfl
  refine PO_row h (J := va_up I (x + 1) (jF (cls ((upS r (opA P r k).toNat (lnA P k).toNat (opB P r k).toNat (lnB P k).toNat ((lnA P k).toNat - 1)).1) g))) (fun y _ hy => va_up_ne _ _ hy) (by rw [va_up_ne _ _ (by omega)]; exact h12) (by rw [va_up_ne _ _ (by omega)]; exact h13) (va_up_self _ _ _) ?_
  clear pe h px fA fB n1 n2 n3 n4 n5 lr ck pg hg hb
  unfold fX9_perform
  ((repeat (first | (with_reducible apply q_gd; · (first | assumption | omega)) | (with_reducible apply q_ob; · (first | with_reducible rfl | ((simp (disch := omega) only [jI_lit, jI_neg, jI_add, jI_sub, jI_mul, o_gI, o_gR, o_pI, o_pZ0, o_pZ1, o_pZb, o_pR, o_aI, o_qI, o_aN, tn, va_up_self, va_up_ne, upup, jI_shr1, jI_shr4, jI_shr0, jI_and1, jI_and15, jI_join, jI_240, jI_hi, jF_at, jF_up, jI_max, jI_min, b2_t, b2_f, Bool.not_true, Bool.not_false, eq_self, true_or, or_true, h7, i3, i6, ra, w1, w2, hs, h6, h8, h9, ep]) <;> with_reducible rfl))) | (with_reducible apply q_ob2; · (first | with_reducible rfl | ((simp (disch := omega) only [jI_lit, jI_neg, jI_add, jI_sub, jI_mul, o_gI, o_gR, o_pI, o_pZ0, o_pZ1, o_pZb, o_pR, o_aI, o_qI, o_aN, tn, va_up_self, va_up_ne, upup, jI_shr1, jI_shr4, jI_shr0, jI_and1, jI_and15, jI_join, jI_240, jI_hi, jF_at, jF_up, jI_max, jI_min, b2_t, b2_f, Bool.not_true, Bool.not_false, eq_self, true_or, or_true, h7, i3, i6, ra, w1, w2, hs, h6, h8, h9, ep]) <;> with_reducible rfl))) | (with_reducible apply q_lt; · (first | with_reducible rfl | ((simp (disch := omega) only [jI_lit, jI_neg, jI_add, jI_sub, jI_mul, o_gI, o_gR, o_pI, o_pZ0, o_pZ1, o_pZb, o_pR, o_aI, o_qI, o_aN, tn, va_up_self, va_up_ne, upup, jI_shr1, jI_shr4, jI_shr0, jI_and1, jI_and15, jI_join, jI_240, jI_hi, jF_at, jF_up, jI_max, jI_min, b2_t, b2_f, Bool.not_true, Bool.not_false, eq_self, true_or, or_true, h7, i3, i6, ra, w1, w2, hs, h6, h8, h9, ep]) <;> with_reducible rfl))) | (with_reducible apply q_ifp; · ((simp (disch := omega) only [jI_lit, jI_neg, jI_add, jI_sub, jI_mul, jI_lt, jI_le, jI_eq, va_up_self, va_up_ne, jI_shr1, jI_shr4, jI_shr0, jI_and1, jI_and15, jF_at, tn, b2_t, b2_f, cmp_ge, cmp_gt, cmp_le, cmp_lt, cmp_eq, jL_lit, jL_lt, jL_le, jL_eq, h7, i3, i6, ra, w1, w2, hs, h6, h8, h9, ep]) <;> omega)) | (with_reducible apply q_ifn; · ((simp (disch := omega) only [jI_lit, jI_neg, jI_add, jI_sub, jI_mul, jI_lt, jI_le, jI_eq, va_up_self, va_up_ne, jI_shr1, jI_shr4, jI_shr0, jI_and1, jI_and15, jF_at, tn, b2_t, b2_f, cmp_ge, cmp_gt, cmp_le, cmp_lt, cmp_eq, jL_lit, jL_lt, jL_le, jL_eq, h7, i3, i6, ra, w1, w2, hs, h6, h8, h9, ep]) <;> omega)) | (with_reducible apply q_obk; · (first | with_reducible rfl | ((simp (disch := omega) only [jI_lit, jI_neg, jI_add, jI_sub, jI_mul, o_gI, o_gR, o_pI, o_pZ0, o_pZ1, o_pZb, o_pR, o_aI, o_qI, o_aN, tn, va_up_self, va_up_ne, upup, jI_shr1, jI_shr4, jI_shr0, jI_and1, jI_and15, jI_join, jI_240, jI_hi, jF_at, jF_up, jI_max, jI_min, b2_t, b2_f, Bool.not_true, Bool.not_false, eq_self, true_or, or_true, h7, i3, i6, ra, w1, w2, hs, h6, h8, h9, ep]) <;> with_reducible rfl))) | (with_reducible apply q_nz; · ((simp (disch := omega) only [jI_lit, jI_neg, jI_add, jI_sub, jI_mul, jI_lt, jI_le, jI_eq, va_up_self, va_up_ne, jI_shr1, jI_shr4, jI_shr0, jI_and1, jI_and15, jF_at, tn, b2_t, b2_f, cmp_ge, cmp_gt, cmp_le, cmp_lt, cmp_eq, jL_lit, jL_lt, jL_le, jL_eq, h7, i3, i6, ra, w1, w2, hs, h6, h8, h9, ep]) <;> omega)) | (with_reducible apply q_rz; · (first | exact b2_01 _ | decide)))) <;> (first | with_reducible rfl | ((simp (disch := omega) only [jI_lit, jI_neg, jI_add, jI_sub, jI_mul, o_gI, o_gR, o_pI, o_pZ0, o_pZ1, o_pZb, o_pR, o_aI, o_qI, o_aN, tn, va_up_self, va_up_ne, upup, jI_shr1, jI_shr4, jI_shr0, jI_and1, jI_and15, jI_join, jI_240, jI_hi, jF_at, jF_up, jI_max, jI_min, b2_t, b2_f, Bool.not_true, Bool.not_false, eq_self, true_or, or_true, h7, i3, i6, ra, w1, w2, hs, h6, h8, h9, ep]) <;> with_reducible rfl) | rfl))
theorem e_pfOffset {p x a k many : Nat} {P : PG} {r g : Nat → Int} (h : CTX K I R N p x a P r g k many) (ho : P 0 k = 2) :
    PO K I R L N w p x g (fX9_perform p (K, I, R, L, N, w)) (prf P r k) (if P 0 k = 24 then 1 else 0) (r 273 = -1) := by
  obtain ⟨fA, fB, px, w1, w2, ra⟩ := CTX_px h
  have h' := h
  obtain ⟨pc, h6, h7, ins, pg, hr, hI, hb, hg, h264, h8, h9, h10, h12, h13, hx, ha, hax, ck⟩ := h'
  have lr := ln_r pg
  obtain ⟨n1, n2, n3, n4, n5⟩ := chk_none ck
  have pe := prf_eq P r k
  rw [if_neg (by omega), if_neg (by omega), if_pos ho] at pe
  rw [pe, if_neg (show ¬ P 0 k = 24 by omega)]
  obtain ⟨eA, eN, hA, hn1⟩ := fA (by omega)
  rw [clA_op (by omega), eA] at h8
  obtain ⟨eB, eM, hB, hm1⟩ := fB (by omega)
  rw [eB] at h9
  obtain ⟨ka, ra', i1, i2, i3, i4, i5, i6, i7, i8, i9, i10⟩ := ins
  rw [eN] at i3
  rw [eM] at i6
  have ep := e_offset (L := L) (w := w) hr hI (cls_byt hb) hA hB hn1 hm1
  rw [(ofS_cls hA hn1 hB hm1 _).1] at ep
  have hs : smT (P 0 k) = 8 := by rw [ho]; rfl
  refine PO_row h (J := va_up I (x + 1) (jF (cls ((ofS r (opA P r k).toNat (lnA P k).toNat (opB P r k).toNat (lnB P k).toNat (lnA P k).toNat).1) g))) (fun y _ hy => va_up_ne _ _ hy) (by rw [va_up_ne _ _ (by omega)]; exact h12) (by rw [va_up_ne _ _ (by omega)]; exact h13) (va_up_self _ _ _) ?_
  clear pe h px fA fB n1 n2 n3 n4 n5 lr ck pg hg hb
  unfold fX9_perform
  ((repeat (first | (with_reducible apply q_gd; · (first | assumption | omega)) | (with_reducible apply q_ob; · (first | with_reducible rfl | ((simp (disch := omega) only [jI_lit, jI_neg, jI_add, jI_sub, jI_mul, o_gI, o_gR, o_pI, o_pZ0, o_pZ1, o_pZb, o_pR, o_aI, o_qI, o_aN, tn, va_up_self, va_up_ne, upup, jI_shr1, jI_shr4, jI_shr0, jI_and1, jI_and15, jI_join, jI_240, jI_hi, jF_at, jF_up, jI_max, jI_min, b2_t, b2_f, Bool.not_true, Bool.not_false, eq_self, true_or, or_true, h7, i3, i6, ra, w1, w2, hs, h6, h8, h9, ep]) <;> with_reducible rfl))) | (with_reducible apply q_ob2; · (first | with_reducible rfl | ((simp (disch := omega) only [jI_lit, jI_neg, jI_add, jI_sub, jI_mul, o_gI, o_gR, o_pI, o_pZ0, o_pZ1, o_pZb, o_pR, o_aI, o_qI, o_aN, tn, va_up_self, va_up_ne, upup, jI_shr1, jI_shr4, jI_shr0, jI_and1, jI_and15, jI_join, jI_240, jI_hi, jF_at, jF_up, jI_max, jI_min, b2_t, b2_f, Bool.not_true, Bool.not_false, eq_self, true_or, or_true, h7, i3, i6, ra, w1, w2, hs, h6, h8, h9, ep]) <;> with_reducible rfl))) | (with_reducible apply q_lt; · (first | with_reducible rfl | ((simp (disch := omega) only [jI_lit, jI_neg, jI_add, jI_sub, jI_mul, o_gI, o_gR, o_pI, o_pZ0, o_pZ1, o_pZb, o_pR, o_aI, o_qI, o_aN, tn, va_up_self, va_up_ne, upup, jI_shr1, jI_shr4, jI_shr0, jI_and1, jI_and15, jI_join, jI_240, jI_hi, jF_at, jF_up, jI_max, jI_min, b2_t, b2_f, Bool.not_true, Bool.not_false, eq_self, true_or, or_true, h7, i3, i6, ra, w1, w2, hs, h6, h8, h9, ep]) <;> with_reducible rfl))) | (with_reducible apply q_ifp; · ((simp (disch := omega) only [jI_lit, jI_neg, jI_add, jI_sub, jI_mul, jI_lt, jI_le, jI_eq, va_up_self, va_up_ne, jI_shr1, jI_shr4, jI_shr0, jI_and1, jI_and15, jF_at, tn, b2_t, b2_f, cmp_ge, cmp_gt, cmp_le, cmp_lt, cmp_eq, jL_lit, jL_lt, jL_le, jL_eq, h7, i3, i6, ra, w1, w2, hs, h6, h8, h9, ep]) <;> omega)) | (with_reducible apply q_ifn; · ((simp (disch := omega) only [jI_lit, jI_neg, jI_add, jI_sub, jI_mul, jI_lt, jI_le, jI_eq, va_up_self, va_up_ne, jI_shr1, jI_shr4, jI_shr0, jI_and1, jI_and15, jF_at, tn, b2_t, b2_f, cmp_ge, cmp_gt, cmp_le, cmp_lt, cmp_eq, jL_lit, jL_lt, jL_le, jL_eq, h7, i3, i6, ra, w1, w2, hs, h6, h8, h9, ep]) <;> omega)) | (with_reducible apply q_obk; · (first | with_reducible rfl | ((simp (disch := omega) only [jI_lit, jI_neg, jI_add, jI_sub, jI_mul, o_gI, o_gR, o_pI, o_pZ0, o_pZ1, o_pZb, o_pR, o_aI, o_qI, o_aN, tn, va_up_self, va_up_ne, upup, jI_shr1, jI_shr4, jI_shr0, jI_and1, jI_and15, jI_join, jI_240, jI_hi, jF_at, jF_up, jI_max, jI_min, b2_t, b2_f, Bool.not_true, Bool.not_false, eq_self, true_or, or_true, h7, i3, i6, ra, w1, w2, hs, h6, h8, h9, ep]) <;> with_reducible rfl))) | (with_reducible apply q_nz; · ((simp (disch := omega) only [jI_lit, jI_neg, jI_add, jI_sub, jI_mul, jI_lt, jI_le, jI_eq, va_up_self, va_up_ne, jI_shr1, jI_shr4, jI_shr0, jI_and1, jI_and15, jF_at, tn, b2_t, b2_f, cmp_ge, cmp_gt, cmp_le, cmp_lt, cmp_eq, jL_lit, jL_lt, jL_le, jL_eq, h7, i3, i6, ra, w1, w2, hs, h6, h8, h9, ep]) <;> omega)) | (with_reducible apply q_rz; · (first | exact b2_01 _ | decide)))) <;> (first | with_reducible rfl | ((simp (disch := omega) only [jI_lit, jI_neg, jI_add, jI_sub, jI_mul, o_gI, o_gR, o_pI, o_pZ0, o_pZ1, o_pZb, o_pR, o_aI, o_qI, o_aN, tn, va_up_self, va_up_ne, upup, jI_shr1, jI_shr4, jI_shr0, jI_and1, jI_and15, jI_join, jI_240, jI_hi, jF_at, jF_up, jI_max, jI_min, b2_t, b2_f, Bool.not_true, Bool.not_false, eq_self, true_or, or_true, h7, i3, i6, ra, w1, w2, hs, h6, h8, h9, ep]) <;> with_reducible rfl) | rfl))
theorem e_pfMove {p x a k many : Nat} {P : PG} {r g : Nat → Int} (h : CTX K I R N p x a P r g k many) (ho : P 0 k = 3) :
    PO K I R L N w p x g (fX9_perform p (K, I, R, L, N, w)) (prf P r k) (if P 0 k = 24 then 1 else 0) (r 273 = -1) := by
  obtain ⟨fA, fB, px, w1, w2, ra⟩ := CTX_px h
  have h' := h
  obtain ⟨pc, h6, h7, ins, pg, hr, hI, hb, hg, h264, h8, h9, h10, h12, h13, hx, ha, hax, ck⟩ := h'
  have lr := ln_r pg
  obtain ⟨n1, n2, n3, n4, n5⟩ := chk_none ck
  have pe := prf_eq P r k
  rw [if_neg (by omega), if_neg (by omega), if_neg (by omega), if_pos ho] at pe
  rw [pe, if_neg (show ¬ P 0 k = 24 by omega)]
  obtain ⟨eA, eN, hA, hn1⟩ := fA (by omega)
  rw [clA_op (by omega), eA] at h8
  obtain ⟨eB, eM, hB, hm1⟩ := fB (by omega)
  rw [eB] at h9
  obtain ⟨ka, ra', i1, i2, i3, i4, i5, i6, i7, i8, i9, i10⟩ := ins
  rw [eM] at i6
  rw [eB, eM] at px
  have em := e_moveNumber (L := L) (w := w) px hB hm1 (by omega) (Snd_of (by rw [flp_cls hB]; exact n5 (by omega)))
  rw [pkv_cls hB, pks_cls hB hm1] at em
  obtain ⟨J, e1, e2, e3, e4, e5⟩ := em
  have hs : smT (P 0 k) = 1 := by rw [ho]; rfl
  have hh : fX9_perform p (K, I, R, L, N, w) = fX9_putResult p (K, J, R, L, N, w) := by
    rw [← e1, ← ob2_id (fX9_moveNumber p _)]
    clear pe h px fA fB n1 n2 n3 n4 n5 lr ck pg hg hb e1 e2 e3 e4 e5
    unfold fX9_perform
    ((repeat (first | (with_reducible apply q_gd; · (first | assumption | omega)) | (with_reducible apply q_ob; · (first | with_reducible rfl | ((simp (disch := omega) only [jI_lit, jI_neg, jI_add, jI_sub, jI_mul, o_gI, o_gR, o_pI, o_pZ0, o_pZ1, o_pZb, o_pR, o_aI, o_qI, o_aN, tn, va_up_self, va_up_ne, upup, jI_shr1, jI_shr4, jI_shr0, jI_and1, jI_and15, jI_join, jI_240, jI_hi, jF_at, jF_up, jI_max, jI_min, b2_t, b2_f, Bool.not_true, Bool.not_false, eq_self, true_or, or_true, h7, i3, i6, ra, w1, w2, hs]) <;> with_reducible rfl))) | (with_reducible apply q_ob2; · (first | with_reducible rfl | ((simp (disch := omega) only [jI_lit, jI_neg, jI_add, jI_sub, jI_mul, o_gI, o_gR, o_pI, o_pZ0, o_pZ1, o_pZb, o_pR, o_aI, o_qI, o_aN, tn, va_up_self, va_up_ne, upup, jI_shr1, jI_shr4, jI_shr0, jI_and1, jI_and15, jI_join, jI_240, jI_hi, jF_at, jF_up, jI_max, jI_min, b2_t, b2_f, Bool.not_true, Bool.not_false, eq_self, true_or, or_true, h7, i3, i6, ra, w1, w2, hs]) <;> with_reducible rfl))) | (with_reducible apply q_lt; · (first | with_reducible rfl | ((simp (disch := omega) only [jI_lit, jI_neg, jI_add, jI_sub, jI_mul, o_gI, o_gR, o_pI, o_pZ0, o_pZ1, o_pZb, o_pR, o_aI, o_qI, o_aN, tn, va_up_self, va_up_ne, upup, jI_shr1, jI_shr4, jI_shr0, jI_and1, jI_and15, jI_join, jI_240, jI_hi, jF_at, jF_up, jI_max, jI_min, b2_t, b2_f, Bool.not_true, Bool.not_false, eq_self, true_or, or_true, h7, i3, i6, ra, w1, w2, hs]) <;> with_reducible rfl))) | (with_reducible apply q_ifp; · ((simp (disch := omega) only [jI_lit, jI_neg, jI_add, jI_sub, jI_mul, jI_lt, jI_le, jI_eq, va_up_self, va_up_ne, jI_shr1, jI_shr4, jI_shr0, jI_and1, jI_and15, jF_at, tn, b2_t, b2_f, cmp_ge, cmp_gt, cmp_le, cmp_lt, cmp_eq, jL_lit, jL_lt, jL_le, jL_eq, h7, i3, i6, ra, w1, w2, hs]) <;> omega)) | (with_reducible apply q_ifn; · ((simp (disch := omega) only [jI_lit, jI_neg, jI_add, jI_sub, jI_mul, jI_lt, jI_le, jI_eq, va_up_self, va_up_ne, jI_shr1, jI_shr4, jI_shr0, jI_and1, jI_and15, jF_at, tn, b2_t, b2_f, cmp_ge, cmp_gt, cmp_le, cmp_lt, cmp_eq, jL_lit, jL_lt, jL_le, jL_eq, h7, i3, i6, ra, w1, w2, hs]) <;> omega)) | (with_reducible apply q_obk; · (first | with_reducible rfl | ((simp (disch := omega) only [jI_lit, jI_neg, jI_add, jI_sub, jI_mul, o_gI, o_gR, o_pI, o_pZ0, o_pZ1, o_pZb, o_pR, o_aI, o_qI, o_aN, tn, va_up_self, va_up_ne, upup, jI_shr1, jI_shr4, jI_shr0, jI_and1, jI_and15, jI_join, jI_240, jI_hi, jF_at, jF_up, jI_max, jI_min, b2_t, b2_f, Bool.not_true, Bool.not_false, eq_self, true_or, or_true, h7, i3, i6, ra, w1, w2, hs]) <;> with_reducible rfl))) | (with_reducible apply q_nz; · ((simp (disch := omega) only [jI_lit, jI_neg, jI_add, jI_sub, jI_mul, jI_lt, jI_le, jI_eq, va_up_self, va_up_ne, jI_shr1, jI_shr4, jI_shr0, jI_and1, jI_and15, jF_at, tn, b2_t, b2_f, cmp_ge, cmp_gt, cmp_le, cmp_lt, cmp_eq, jL_lit, jL_lt, jL_le, jL_eq, h7, i3, i6, ra, w1, w2, hs]) <;> omega)) | (with_reducible apply q_rz; · (first | exact b2_01 _ | decide)))) <;> (first | with_reducible rfl | ((simp (disch := omega) only [jI_lit, jI_neg, jI_add, jI_sub, jI_mul, o_gI, o_gR, o_pI, o_pZ0, o_pZ1, o_pZb, o_pR, o_aI, o_qI, o_aN, tn, va_up_self, va_up_ne, upup, jI_shr1, jI_shr4, jI_shr0, jI_and1, jI_and15, jI_join, jI_240, jI_hi, jF_at, jF_up, jI_max, jI_min, b2_t, b2_f, Bool.not_true, Bool.not_false, eq_self, true_or, or_true, h7, i3, i6, ra, w1, w2, hs]) <;> with_reducible rfl) | rfl))
  have := PO_fin h (by omega) (by omega) (by omega) e5 e3 e4 hh
  rw [if_neg (show ¬ P 0 k = 24 by omega)] at this
  exact this
theorem e_pfAdd {p x a k many : Nat} {P : PG} {r g : Nat → Int} (h : CTX K I R N p x a P r g k many) (ho : P 0 k = 4) :
    PO K I R L N w p x g (fX9_perform p (K, I, R, L, N, w)) (prf P r k) (if P 0 k = 24 then 1 else 0) (r 273 = -1) := by
  obtain ⟨fA, fB, px, w1, w2, ra⟩ := CTX_px h
  have h' := h
  obtain ⟨pc, h6, h7, ins, pg, hr, hI, hb, hg, h264, h8, h9, h10, h12, h13, hx, ha, hax, ck⟩ := h'
  have lr := ln_r pg
  obtain ⟨n1, n2, n3, n4, n5⟩ := chk_none ck
  have pe := prf_eq P r k
  rw [if_neg (by omega), if_neg (by omega), if_neg (by omega), if_neg (by omega), if_pos (Or.inl ho)] at pe
  rw [pe, if_neg (show ¬ P 0 k = 24 by omega)]
  obtain ⟨eA, eN, hA, hn1⟩ := fA (by omega)
  rw [clA_op (by omega), eA] at h8
  obtain ⟨eB, eM, hB, hm1⟩ := fB (by omega)
  rw [eB] at h9
  obtain ⟨ka, ra', i1, i2, i3, i4, i5, i6, i7, i8, i9, i10⟩ := ins
  rw [eN] at i3
  rw [eM] at i6
  rw [clA_op (by omega), eA, eN, eB, eM] at px
  have em := e_addNumbers (L := L) (w := w) (less := false) px hA hn1 (by omega) hB hm1 (by omega) (Snd_of (by rw [flp_cls hA]; exact n4 (by omega))) (Snd_of (by rw [flp_cls hB]; exact n5 (by omega)))
  rw [pkv_cls hB, pks_cls hB hm1, pkv_cls hA, pks_cls hA hn1, b2_f] at em
  obtain ⟨v, s, J, e0, e1, e2, e3, e4, e5⟩ := em
  have hs : smT (P 0 k) = 2 := by rw [ho]; rfl
  have hh : fX9_perform p (K, I, R, L, N, w) = fX9_putResult p (K, J, R, L, N, w) := by
    rw [← e1, ← ob2_id (fX9_addNumbers p _ _)]
    clear pe h px fA fB n1 n2 n3 n4 n5 lr ck pg hg hb e0 e1 e2 e3 e4 e5
    unfold fX9_perform
    ((repeat (first | (with_reducible apply q_gd; · (first | assumption | omega)) | (with_reducible apply q_ob; · (first | with_reducible rfl | ((simp (disch := omega) only [jI_lit, jI_neg, jI_add, jI_sub, jI_mul, o_gI, o_gR, o_pI, o_pZ0, o_pZ1, o_pZb, o_pR, o_aI, o_qI, o_aN, tn, va_up_self, va_up_ne, upup, jI_shr1, jI_shr4, jI_shr0, jI_and1, jI_and15, jI_join, jI_240, jI_hi, jF_at, jF_up, jI_max, jI_min, b2_t, b2_f, Bool.not_true, Bool.not_false, eq_self, true_or, or_true, h7, i3, i6, ra, w1, w2, hs]) <;> with_reducible rfl))) | (with_reducible apply q_ob2; · (first | with_reducible rfl | ((simp (disch := omega) only [jI_lit, jI_neg, jI_add, jI_sub, jI_mul, o_gI, o_gR, o_pI, o_pZ0, o_pZ1, o_pZb, o_pR, o_aI, o_qI, o_aN, tn, va_up_self, va_up_ne, upup, jI_shr1, jI_shr4, jI_shr0, jI_and1, jI_and15, jI_join, jI_240, jI_hi, jF_at, jF_up, jI_max, jI_min, b2_t, b2_f, Bool.not_true, Bool.not_false, eq_self, true_or, or_true, h7, i3, i6, ra, w1, w2, hs]) <;> with_reducible rfl))) | (with_reducible apply q_lt; · (first | with_reducible rfl | ((simp (disch := omega) only [jI_lit, jI_neg, jI_add, jI_sub, jI_mul, o_gI, o_gR, o_pI, o_pZ0, o_pZ1, o_pZb, o_pR, o_aI, o_qI, o_aN, tn, va_up_self, va_up_ne, upup, jI_shr1, jI_shr4, jI_shr0, jI_and1, jI_and15, jI_join, jI_240, jI_hi, jF_at, jF_up, jI_max, jI_min, b2_t, b2_f, Bool.not_true, Bool.not_false, eq_self, true_or, or_true, h7, i3, i6, ra, w1, w2, hs]) <;> with_reducible rfl))) | (with_reducible apply q_ifp; · ((simp (disch := omega) only [jI_lit, jI_neg, jI_add, jI_sub, jI_mul, jI_lt, jI_le, jI_eq, va_up_self, va_up_ne, jI_shr1, jI_shr4, jI_shr0, jI_and1, jI_and15, jF_at, tn, b2_t, b2_f, cmp_ge, cmp_gt, cmp_le, cmp_lt, cmp_eq, jL_lit, jL_lt, jL_le, jL_eq, h7, i3, i6, ra, w1, w2, hs]) <;> omega)) | (with_reducible apply q_ifn; · ((simp (disch := omega) only [jI_lit, jI_neg, jI_add, jI_sub, jI_mul, jI_lt, jI_le, jI_eq, va_up_self, va_up_ne, jI_shr1, jI_shr4, jI_shr0, jI_and1, jI_and15, jF_at, tn, b2_t, b2_f, cmp_ge, cmp_gt, cmp_le, cmp_lt, cmp_eq, jL_lit, jL_lt, jL_le, jL_eq, h7, i3, i6, ra, w1, w2, hs]) <;> omega)) | (with_reducible apply q_obk; · (first | with_reducible rfl | ((simp (disch := omega) only [jI_lit, jI_neg, jI_add, jI_sub, jI_mul, o_gI, o_gR, o_pI, o_pZ0, o_pZ1, o_pZb, o_pR, o_aI, o_qI, o_aN, tn, va_up_self, va_up_ne, upup, jI_shr1, jI_shr4, jI_shr0, jI_and1, jI_and15, jI_join, jI_240, jI_hi, jF_at, jF_up, jI_max, jI_min, b2_t, b2_f, Bool.not_true, Bool.not_false, eq_self, true_or, or_true, h7, i3, i6, ra, w1, w2, hs]) <;> with_reducible rfl))) | (with_reducible apply q_nz; · ((simp (disch := omega) only [jI_lit, jI_neg, jI_add, jI_sub, jI_mul, jI_lt, jI_le, jI_eq, va_up_self, va_up_ne, jI_shr1, jI_shr4, jI_shr0, jI_and1, jI_and15, jF_at, tn, b2_t, b2_f, cmp_ge, cmp_gt, cmp_le, cmp_lt, cmp_eq, jL_lit, jL_lt, jL_le, jL_eq, h7, i3, i6, ra, w1, w2, hs]) <;> omega)) | (with_reducible apply q_rz; · (first | exact b2_01 _ | decide)))) <;> (first | with_reducible rfl | ((simp (disch := omega) only [jI_lit, jI_neg, jI_add, jI_sub, jI_mul, o_gI, o_gR, o_pI, o_pZ0, o_pZ1, o_pZb, o_pR, o_aI, o_qI, o_aN, tn, va_up_self, va_up_ne, upup, jI_shr1, jI_shr4, jI_shr0, jI_and1, jI_and15, jI_join, jI_240, jI_hi, jF_at, jF_up, jI_max, jI_min, b2_t, b2_f, Bool.not_true, Bool.not_false, eq_self, true_or, or_true, h7, i3, i6, ra, w1, w2, hs]) <;> with_reducible rfl) | rfl))
  have := PO_fin h (by omega) (by omega) (by omega) e5 e3 e4 hh
  rw [if_neg (show ¬ P 0 k = 24 by omega)] at this
  have ed : decide (P 0 k = 5) = false := by rw [ho]; rfl
  rw [ed, ← (fin6_cs (s := pks r (opA P r k).toNat (lnA P k).toNat)).1, ← e0]
  exact this
theorem e_pfSub {p x a k many : Nat} {P : PG} {r g : Nat → Int} (h : CTX K I R N p x a P r g k many) (ho : P 0 k = 5) :
    PO K I R L N w p x g (fX9_perform p (K, I, R, L, N, w)) (prf P r k) (if P 0 k = 24 then 1 else 0) (r 273 = -1) := by
  obtain ⟨fA, fB, px, w1, w2, ra⟩ := CTX_px h
  have h' := h
  obtain ⟨pc, h6, h7, ins, pg, hr, hI, hb, hg, h264, h8, h9, h10, h12, h13, hx, ha, hax, ck⟩ := h'
  have lr := ln_r pg
  obtain ⟨n1, n2, n3, n4, n5⟩ := chk_none ck
  have pe := prf_eq P r k
  rw [if_neg (by omega), if_neg (by omega), if_neg (by omega), if_neg (by omega), if_pos (Or.inr ho)] at pe
  rw [pe, if_neg (show ¬ P 0 k = 24 by omega)]
  obtain ⟨eA, eN, hA, hn1⟩ := fA (by omega)
  rw [clA_op (by omega), eA] at h8
  obtain ⟨eB, eM, hB, hm1⟩ := fB (by omega)
  rw [eB] at h9
  obtain ⟨ka, ra', i1, i2, i3, i4, i5, i6, i7, i8, i9, i10⟩ := ins
  rw [eN] at i3
  rw [eM] at i6
  rw [clA_op (by omega), eA, eN, eB, eM] at px
  have em := e_addNumbers (L := L) (w := w) (less := true) px hA hn1 (by omega) hB hm1 (by omega) (Snd_of (by rw [flp_cls hA]; exact n4 (by omega))) (Snd_of (by rw [flp_cls hB]; exact n5 (by omega)))
  rw [pkv_cls hB, pks_cls hB hm1, pkv_cls hA, pks_cls hA hn1, b2_t] at em
  obtain ⟨v, s, J, e0, e1, e2, e3, e4, e5⟩ := em
  have hs : smT (P 0 k) = 3 := by rw [ho]; rfl
  have hh : fX9_perform p (K, I, R, L, N, w) = fX9_putResult p (K, J, R, L, N, w) := by
    rw [← e1, ← ob2_id (fX9_addNumbers p _ _)]
    clear pe h px fA fB n1 n2 n3 n4 n5 lr ck pg hg hb e0 e1 e2 e3 e4 e5
    unfold fX9_perform
    ((repeat (first | (with_reducible apply q_gd; · (first | assumption | omega)) | (with_reducible apply q_ob; · (first | with_reducible rfl | ((simp (disch := omega) only [jI_lit, jI_neg, jI_add, jI_sub, jI_mul, o_gI, o_gR, o_pI, o_pZ0, o_pZ1, o_pZb, o_pR, o_aI, o_qI, o_aN, tn, va_up_self, va_up_ne, upup, jI_shr1, jI_shr4, jI_shr0, jI_and1, jI_and15, jI_join, jI_240, jI_hi, jF_at, jF_up, jI_max, jI_min, b2_t, b2_f, Bool.not_true, Bool.not_false, eq_self, true_or, or_true, h7, i3, i6, ra, w1, w2, hs]) <;> with_reducible rfl))) | (with_reducible apply q_ob2; · (first | with_reducible rfl | ((simp (disch := omega) only [jI_lit, jI_neg, jI_add, jI_sub, jI_mul, o_gI, o_gR, o_pI, o_pZ0, o_pZ1, o_pZb, o_pR, o_aI, o_qI, o_aN, tn, va_up_self, va_up_ne, upup, jI_shr1, jI_shr4, jI_shr0, jI_and1, jI_and15, jI_join, jI_240, jI_hi, jF_at, jF_up, jI_max, jI_min, b2_t, b2_f, Bool.not_true, Bool.not_false, eq_self, true_or, or_true, h7, i3, i6, ra, w1, w2, hs]) <;> with_reducible rfl))) | (with_reducible apply q_lt; · (first | with_reducible rfl | ((simp (disch := omega) only [jI_lit, jI_neg, jI_add, jI_sub, jI_mul, o_gI, o_gR, o_pI, o_pZ0, o_pZ1, o_pZb, o_pR, o_aI, o_qI, o_aN, tn, va_up_self, va_up_ne, upup, jI_shr1, jI_shr4, jI_shr0, jI_and1, jI_and15, jI_join, jI_240, jI_hi, jF_at, jF_up, jI_max, jI_min, b2_t, b2_f, Bool.not_true, Bool.not_false, eq_self, true_or, or_true, h7, i3, i6, ra, w1, w2, hs]) <;> with_reducible rfl))) | (with_reducible apply q_ifp; · ((simp (disch := omega) only [jI_lit, jI_neg, jI_add, jI_sub, jI_mul, jI_lt, jI_le, jI_eq, va_up_self, va_up_ne, jI_shr1, jI_shr4, jI_shr0, jI_and1, jI_and15, jF_at, tn, b2_t, b2_f, cmp_ge, cmp_gt, cmp_le, cmp_lt, cmp_eq, jL_lit, jL_lt, jL_le, jL_eq, h7, i3, i6, ra, w1, w2, hs]) <;> omega)) | (with_reducible apply q_ifn; · ((simp (disch := omega) only [jI_lit, jI_neg, jI_add, jI_sub, jI_mul, jI_lt, jI_le, jI_eq, va_up_self, va_up_ne, jI_shr1, jI_shr4, jI_shr0, jI_and1, jI_and15, jF_at, tn, b2_t, b2_f, cmp_ge, cmp_gt, cmp_le, cmp_lt, cmp_eq, jL_lit, jL_lt, jL_le, jL_eq, h7, i3, i6, ra, w1, w2, hs]) <;> omega)) | (with_reducible apply q_obk; · (first | with_reducible rfl | ((simp (disch := omega) only [jI_lit, jI_neg, jI_add, jI_sub, jI_mul, o_gI, o_gR, o_pI, o_pZ0, o_pZ1, o_pZb, o_pR, o_aI, o_qI, o_aN, tn, va_up_self, va_up_ne, upup, jI_shr1, jI_shr4, jI_shr0, jI_and1, jI_and15, jI_join, jI_240, jI_hi, jF_at, jF_up, jI_max, jI_min, b2_t, b2_f, Bool.not_true, Bool.not_false, eq_self, true_or, or_true, h7, i3, i6, ra, w1, w2, hs]) <;> with_reducible rfl))) | (with_reducible apply q_nz; · ((simp (disch := omega) only [jI_lit, jI_neg, jI_add, jI_sub, jI_mul, jI_lt, jI_le, jI_eq, va_up_self, va_up_ne, jI_shr1, jI_shr4, jI_shr0, jI_and1, jI_and15, jF_at, tn, b2_t, b2_f, cmp_ge, cmp_gt, cmp_le, cmp_lt, cmp_eq, jL_lit, jL_lt, jL_le, jL_eq, h7, i3, i6, ra, w1, w2, hs]) <;> omega)) | (with_reducible apply q_rz; · (first | exact b2_01 _ | decide)))) <;> (first | with_reducible rfl | ((simp (disch := omega) only [jI_lit, jI_neg, jI_add, jI_sub, jI_mul, o_gI, o_gR, o_pI, o_pZ0, o_pZ1, o_pZb, o_pR, o_aI, o_qI, o_aN, tn, va_up_self, va_up_ne, upup, jI_shr1, jI_shr4, jI_shr0, jI_and1, jI_and15, jI_join, jI_240, jI_hi, jF_at, jF_up, jI_max, jI_min, b2_t, b2_f, Bool.not_true, Bool.not_false, eq_self, true_or, or_true, h7, i3, i6, ra, w1, w2, hs]) <;> with_reducible rfl) | rfl))
  have := PO_fin h (by omega) (by omega) (by omega) e5 e3 e4 hh
  rw [if_neg (show ¬ P 0 k = 24 by omega)] at this
  have ed : decide (P 0 k = 5) = true := by rw [ho]; rfl
  rw [ed, ← (fin6_cs (s := pks r (opA P r k).toNat (lnA P k).toNat)).1, ← e0]
  exact this
theorem e_pfCompare {p x a k many : Nat} {P : PG} {r g : Nat → Int} (h : CTX K I R N p x a P r g k many) (ho : P 0 k = 6) :
    PO K I R L N w p x g (fX9_perform p (K, I, R, L, N, w)) (prf P r k) (if P 0 k = 24 then 1 else 0) (r 273 = -1) := by
  obtain ⟨fA, fB, px, w1, w2, ra⟩ := CTX_px h
  have h' := h
  obtain ⟨pc, h6, h7, ins, pg, hr, hI, hb, hg, h264, h8, h9, h10, h12, h13, hx, ha, hax, ck⟩ := h'
  have lr := ln_r pg
  obtain ⟨n1, n2, n3, n4, n5⟩ := chk_none ck
  have pe := prf_eq P r k
  rw [if_neg (by omega), if_neg (by omega), if_neg (by omega), if_neg (by omega), if_neg (by omega), if_pos ho] at pe
  rw [pe, if_neg (show ¬ P 0 k = 24 by omega)]
  obtain ⟨eA, eN, hA, hn1⟩ := fA (by omega)
  rw [clA_op (by omega), eA] at h8
  obtain ⟨eB, eM, hB, hm1⟩ := fB (by omega)
  rw [eB] at h9
  obtain ⟨ka, ra', i1, i2, i3, i4, i5, i6, i7, i8, i9, i10⟩ := ins
  rw [eN] at i3
  rw [eM] at i6
  rw [clA_op (by omega), eA, eN, eB, eM] at px
  have em := e_compare (L := L) (w := w) px hA hn1 (by omega) hB hm1 (by omega) (Snd_of (by rw [flp_cls hA]; exact n4 (by omega))) (Snd_of (by rw [flp_cls hB]; exact n5 (by omega)))
  rw [pkv_cls hB, pks_cls hB hm1, pkv_cls hA, pks_cls hA hn1] at em
  obtain ⟨J, e1, e5⟩ := em
  have hs : smT (P 0 k) = 12 := by rw [ho]; rfl
  have hh : fX9_perform p (K, I, R, L, N, w) = fX9_compareNumbers p (K, I, R, L, N, w) := by
    rw [← ob2_id (fX9_compareNumbers p _)]
    clear pe h px fA fB n1 n2 n3 n4 n5 lr ck pg hg hb e1 e5
    unfold fX9_perform
    ((repeat (first | (with_reducible apply q_gd; · (first | assumption | omega)) | (with_reducible apply q_ob; · (first | with_reducible rfl | ((simp (disch := omega) only [jI_lit, jI_neg, jI_add, jI_sub, jI_mul, o_gI, o_gR, o_pI, o_pZ0, o_pZ1, o_pZb, o_pR, o_aI, o_qI, o_aN, tn, va_up_self, va_up_ne, upup, jI_shr1, jI_shr4, jI_shr0, jI_and1, jI_and15, jI_join, jI_240, jI_hi, jF_at, jF_up, jI_max, jI_min, b2_t, b2_f, Bool.not_true, Bool.not_false, eq_self, true_or, or_true, h7, i3, i6, ra, w1, w2, hs]) <;> with_reducible rfl))) | (with_reducible apply q_ob2; · (first | with_reducible rfl | ((simp (disch := omega) only [jI_lit, jI_neg, jI_add, jI_sub, jI_mul, o_gI, o_gR, o_pI, o_pZ0, o_pZ1, o_pZb, o_pR, o_aI, o_qI, o_aN, tn, va_up_self, va_up_ne, upup, jI_shr1, jI_shr4, jI_shr0, jI_and1, jI_and15, jI_join, jI_240, jI_hi, jF_at, jF_up, jI_max, jI_min, b2_t, b2_f, Bool.not_true, Bool.not_false, eq_self, true_or, or_true, h7, i3, i6, ra, w1, w2, hs]) <;> with_reducible rfl))) | (with_reducible apply q_lt; · (first | with_reducible rfl | ((simp (disch := omega) only [jI_lit, jI_neg, jI_add, jI_sub, jI_mul, o_gI, o_gR, o_pI, o_pZ0, o_pZ1, o_pZb, o_pR, o_aI, o_qI, o_aN, tn, va_up_self, va_up_ne, upup, jI_shr1, jI_shr4, jI_shr0, jI_and1, jI_and15, jI_join, jI_240, jI_hi, jF_at, jF_up, jI_max, jI_min, b2_t, b2_f, Bool.not_true, Bool.not_false, eq_self, true_or, or_true, h7, i3, i6, ra, w1, w2, hs]) <;> with_reducible rfl))) | (with_reducible apply q_ifp; · ((simp (disch := omega) only [jI_lit, jI_neg, jI_add, jI_sub, jI_mul, jI_lt, jI_le, jI_eq, va_up_self, va_up_ne, jI_shr1, jI_shr4, jI_shr0, jI_and1, jI_and15, jF_at, tn, b2_t, b2_f, cmp_ge, cmp_gt, cmp_le, cmp_lt, cmp_eq, jL_lit, jL_lt, jL_le, jL_eq, h7, i3, i6, ra, w1, w2, hs]) <;> omega)) | (with_reducible apply q_ifn; · ((simp (disch := omega) only [jI_lit, jI_neg, jI_add, jI_sub, jI_mul, jI_lt, jI_le, jI_eq, va_up_self, va_up_ne, jI_shr1, jI_shr4, jI_shr0, jI_and1, jI_and15, jF_at, tn, b2_t, b2_f, cmp_ge, cmp_gt, cmp_le, cmp_lt, cmp_eq, jL_lit, jL_lt, jL_le, jL_eq, h7, i3, i6, ra, w1, w2, hs]) <;> omega)) | (with_reducible apply q_obk; · (first | with_reducible rfl | ((simp (disch := omega) only [jI_lit, jI_neg, jI_add, jI_sub, jI_mul, o_gI, o_gR, o_pI, o_pZ0, o_pZ1, o_pZb, o_pR, o_aI, o_qI, o_aN, tn, va_up_self, va_up_ne, upup, jI_shr1, jI_shr4, jI_shr0, jI_and1, jI_and15, jI_join, jI_240, jI_hi, jF_at, jF_up, jI_max, jI_min, b2_t, b2_f, Bool.not_true, Bool.not_false, eq_self, true_or, or_true, h7, i3, i6, ra, w1, w2, hs]) <;> with_reducible rfl))) | (with_reducible apply q_nz; · ((simp (disch := omega) only [jI_lit, jI_neg, jI_add, jI_sub, jI_mul, jI_lt, jI_le, jI_eq, va_up_self, va_up_ne, jI_shr1, jI_shr4, jI_shr0, jI_and1, jI_and15, jF_at, tn, b2_t, b2_f, cmp_ge, cmp_gt, cmp_le, cmp_lt, cmp_eq, jL_lit, jL_lt, jL_le, jL_eq, h7, i3, i6, ra, w1, w2, hs]) <;> omega)) | (with_reducible apply q_rz; · (first | exact b2_01 _ | decide)))) <;> (first | with_reducible rfl | ((simp (disch := omega) only [jI_lit, jI_neg, jI_add, jI_sub, jI_mul, o_gI, o_gR, o_pI, o_pZ0, o_pZ1, o_pZb, o_pR, o_aI, o_qI, o_aN, tn, va_up_self, va_up_ne, upup, jI_shr1, jI_shr4, jI_shr0, jI_and1, jI_and15, jI_join, jI_240, jI_hi, jF_at, jF_up, jI_max, jI_min, b2_t, b2_f, Bool.not_true, Bool.not_false, eq_self, true_or, or_true, h7, i3, i6, ra, w1, w2, hs]) <;> with_reducible rfl) | rfl))
  rw [cls_up_lo (by omega) (by omega), Bool.bne_true, (fin6_cs (r := r) (p := 0) (n := 0) (s := pks r (opA P r k).toNat (lnA P k).toNat)).2] at e1
  exact PO_row h (fun y hy hy2 => by rw [va_up_ne _ _ hy2, e5 y (by omega)]) (by rw [va_up_ne _ _ (by omega), e5 p (by omega)]; exact h12) (by rw [va_up_ne _ _ (by omega), e5 p (by omega)]; exact h13) (va_up_self _ _ _) (hh.trans e1)
theorem e_pfMul {p x a k many : Nat} {P : PG} {r g : Nat → Int} (h : CTX K I R N p x a P r g k many) (ho : P 0 k = 7) :
    PO K I R L N w p x g (fX9_perform p (K, I, R, L, N, w)) (prf P r k) (if P 0 k = 24 then 1 else 0) (r 273 = -1) := by
  obtain ⟨fA, fB, px, w1, w2, ra⟩ := CTX_px h
  have h' := h
  obtain ⟨pc, h6, h7, ins, pg, hr, hI, hb, hg, h264, h8, h9, h10, h12, h13, hx, ha, hax, ck⟩ := h'
  have lr := ln_r pg
  obtain ⟨n1, n2, n3, n4, n5⟩ := chk_none ck
  have pe := prf_eq P r k
  rw [if_neg (by omega), if_neg (by omega), if_neg (by omega), if_neg (by omega), if_neg (by omega), if_neg (by omega), if_pos ho] at pe
  rw [pe, if_neg (show ¬ P 0 k = 24 by omega)]
  obtain ⟨eA, eN, hA, hn1⟩ := fA (by omega)
  rw [clA_op (by omega), eA] at h8
  obtain ⟨eB, eM, hB, hm1⟩ := fB (by omega)
  rw [eB] at h9
  obtain ⟨ka, ra', i1, i2, i3, i4, i5, i6, i7, i8, i9, i10⟩ := ins
  rw [eN] at i3
  rw [eM] at i6
  rw [clA_op (by omega), eA, eN, eB, eM] at px
  have em := e_multiplyNumbers (L := L) (w := w) px hA hn1 (by omega) hB hm1 (by omega) (Snd_of (by rw [flp_cls hA]; exact n4 (by omega))) (Snd_of (by rw [flp_cls hB]; exact n5 (by omega)))
  have ef : fnd (fun h => hf (cls r g) h != 0) (2 * (opA P r k).toNat) (2 * (lnB P k).toNat) = fnd (fun h => hf r h != 0) (2 * (opA P r k).toNat) (2 * (lnB P k).toNat) := fnd_eq (fun j j1 j2 => by rw [hf_cls (by omega)])
  rw [ef, pkv_cls hB, pks_cls hB hm1, pkv_cls hA, pks_cls hA hn1] at em
  have hs : smT (P 0 k) = 4 := by rw [ho]; rfl
  have hh : fX9_perform p (K, I, R, L, N, w) = fX9_multiplyNumbers p (K, I, R, L, N, w) := by
    rw [← ob2_id (fX9_multiplyNumbers p _)]
    clear pe h px fA fB n1 n2 n3 n4 n5 lr ck pg hg hb em ef
    unfold fX9_perform
    ((repeat (first | (with_reducible apply q_gd; · (first | assumption | omega)) | (with_reducible apply q_ob; · (first | with_reducible rfl | ((simp (disch := omega) only [jI_lit, jI_neg, jI_add, jI_sub, jI_mul, o_gI, o_gR, o_pI, o_pZ0, o_pZ1, o_pZb, o_pR, o_aI, o_qI, o_aN, tn, va_up_self, va_up_ne, upup, jI_shr1, jI_shr4, jI_shr0, jI_and1, jI_and15, jI_join, jI_240, jI_hi, jF_at, jF_up, jI_max, jI_min, b2_t, b2_f, Bool.not_true, Bool.not_false, eq_self, true_or, or_true, h7, i3, i6, ra, w1, w2, hs]) <;> with_reducible rfl))) | (with_reducible apply q_ob2; · (first | with_reducible rfl | ((simp (disch := omega) only [jI_lit, jI_neg, jI_add, jI_sub, jI_mul, o_gI, o_gR, o_pI, o_pZ0, o_pZ1, o_pZb, o_pR, o_aI, o_qI, o_aN, tn, va_up_self, va_up_ne, upup, jI_shr1, jI_shr4, jI_shr0, jI_and1, jI_and15, jI_join, jI_240, jI_hi, jF_at, jF_up, jI_max, jI_min, b2_t, b2_f, Bool.not_true, Bool.not_false, eq_self, true_or, or_true, h7, i3, i6, ra, w1, w2, hs]) <;> with_reducible rfl))) | (with_reducible apply q_lt; · (first | with_reducible rfl | ((simp (disch := omega) only [jI_lit, jI_neg, jI_add, jI_sub, jI_mul, o_gI, o_gR, o_pI, o_pZ0, o_pZ1, o_pZb, o_pR, o_aI, o_qI, o_aN, tn, va_up_self, va_up_ne, upup, jI_shr1, jI_shr4, jI_shr0, jI_and1, jI_and15, jI_join, jI_240, jI_hi, jF_at, jF_up, jI_max, jI_min, b2_t, b2_f, Bool.not_true, Bool.not_false, eq_self, true_or, or_true, h7, i3, i6, ra, w1, w2, hs]) <;> with_reducible rfl))) | (with_reducible apply q_ifp; · ((simp (disch := omega) only [jI_lit, jI_neg, jI_add, jI_sub, jI_mul, jI_lt, jI_le, jI_eq, va_up_self, va_up_ne, jI_shr1, jI_shr4, jI_shr0, jI_and1, jI_and15, jF_at, tn, b2_t, b2_f, cmp_ge, cmp_gt, cmp_le, cmp_lt, cmp_eq, jL_lit, jL_lt, jL_le, jL_eq, h7, i3, i6, ra, w1, w2, hs]) <;> omega)) | (with_reducible apply q_ifn; · ((simp (disch := omega) only [jI_lit, jI_neg, jI_add, jI_sub, jI_mul, jI_lt, jI_le, jI_eq, va_up_self, va_up_ne, jI_shr1, jI_shr4, jI_shr0, jI_and1, jI_and15, jF_at, tn, b2_t, b2_f, cmp_ge, cmp_gt, cmp_le, cmp_lt, cmp_eq, jL_lit, jL_lt, jL_le, jL_eq, h7, i3, i6, ra, w1, w2, hs]) <;> omega)) | (with_reducible apply q_obk; · (first | with_reducible rfl | ((simp (disch := omega) only [jI_lit, jI_neg, jI_add, jI_sub, jI_mul, o_gI, o_gR, o_pI, o_pZ0, o_pZ1, o_pZb, o_pR, o_aI, o_qI, o_aN, tn, va_up_self, va_up_ne, upup, jI_shr1, jI_shr4, jI_shr0, jI_and1, jI_and15, jI_join, jI_240, jI_hi, jF_at, jF_up, jI_max, jI_min, b2_t, b2_f, Bool.not_true, Bool.not_false, eq_self, true_or, or_true, h7, i3, i6, ra, w1, w2, hs]) <;> with_reducible rfl))) | (with_reducible apply q_nz; · ((simp (disch := omega) only [jI_lit, jI_neg, jI_add, jI_sub, jI_mul, jI_lt, jI_le, jI_eq, va_up_self, va_up_ne, jI_shr1, jI_shr4, jI_shr0, jI_and1, jI_and15, jF_at, tn, b2_t, b2_f, cmp_ge, cmp_gt, cmp_le, cmp_lt, cmp_eq, jL_lit, jL_lt, jL_le, jL_eq, h7, i3, i6, ra, w1, w2, hs]) <;> omega)) | (with_reducible apply q_rz; · (first | exact b2_01 _ | decide)))) <;> (first | with_reducible rfl | ((simp (disch := omega) only [jI_lit, jI_neg, jI_add, jI_sub, jI_mul, o_gI, o_gR, o_pI, o_pZ0, o_pZ1, o_pZb, o_pR, o_aI, o_qI, o_aN, tn, va_up_self, va_up_ne, upup, jI_shr1, jI_shr4, jI_shr0, jI_and1, jI_and15, jI_join, jI_240, jI_hi, jF_at, jF_up, jI_max, jI_min, b2_t, b2_f, Bool.not_true, Bool.not_false, eq_self, true_or, or_true, h7, i3, i6, ra, w1, w2, hs]) <;> with_reducible rfl) | rfl))
  by_cases q : fnd (fun h => hf r h != 0) (2 * (opA P r k).toNat) (2 * (lnB P k).toNat) ≠ -1
  · have e1 := em.1 q
    obtain ⟨m, a1, a2, a3, -⟩ := fnd_some q
    rw [if_pos q]
    rw [a3] at e1 ⊢
    rw [hf_cls (by omega)] at e1
    refine ⟨_, R, 5, hh.trans e1, ?_, ?_, ?_, fun y hy hy2 => va_up_ne _ _ (by omega), fun _ _ => rfl, fun _ _ => rfl, (fun x => nomatch x), fun f hf => ?_⟩
    · rw [va_up_ne _ _ (by omega)]; exact hI
    · rw [va_up_ne _ _ (by omega)]; exact h12
    · rw [va_up_ne _ _ (by omega)]; exact h13
    · cases hf
      exact ⟨rfl, by rw [va_up_self]; exact RsF_h⟩
  · obtain ⟨J, e1, e5⟩ := em.2 (Decidable.not_not.mp q)
    rw [if_neg q]
    rw [sto_cls hA] at e1
    exact PO_row h (fun y hy hy2 => by rw [va_up_ne _ _ hy2, e5 y (by omega)]) (by rw [va_up_ne _ _ (by omega), e5 p (by omega)]; exact h12) (by rw [va_up_ne _ _ (by omega), e5 p (by omega)]; exact h13) (va_up_self _ _ _) (hh.trans e1)
theorem e_pfDiv {p x a k many : Nat} {P : PG} {r g : Nat → Int} (h : CTX K I R N p x a P r g k many) (ho : P 0 k = 8) :
    PO K I R L N w p x g (fX9_perform p (K, I, R, L, N, w)) (prf P r k) (if P 0 k = 24 then 1 else 0) (r 273 = -1) := by
  obtain ⟨fA, fB, px, w1, w2, ra⟩ := CTX_px h
  have h' := h
  obtain ⟨pc, h6, h7, ins, pg, hr, hI, hb, hg, h264, h8, h9, h10, h12, h13, hx, ha, hax, ck⟩ := h'
  have lr := ln_r pg
  obtain ⟨n1, n2, n3, n4, n5⟩ := chk_none ck
  have pe := prf_eq P r k
  rw [if_neg (by omega), if_neg (by omega), if_neg (by omega), if_neg (by omega), if_neg (by omega), if_neg (by omega), if_neg (by omega), if_pos ho] at pe
  rw [pe, if_neg (show ¬ P 0 k = 24 by omega)]
  obtain ⟨eA, eN, hA, hn1⟩ := fA (by omega)
  rw [clA_op (by omega), eA] at h8
  obtain ⟨eB, eM, hB, hm1⟩ := fB (by omega)
  rw [eB] at h9
  obtain ⟨ka, ra', i1, i2, i3, i4, i5, i6, i7, i8, i9, i10⟩ := ins
  rw [eN] at i3
  rw [eM] at i6
  rw [clA_op (by omega), eA, eN, eB, eM] at px
  have em := e_divideNumbers (L := L) (w := w) px hA hn1 (by omega) hB hm1 (by omega) (by omega) (Snd_of (by rw [flp_cls hA]; exact n4 (by omega))) (Snd_of (by rw [flp_cls hB]; exact n5 (by omega)))
  rw [pkv_cls hB, pks_cls hB hm1, pkv_cls hA, pks_cls hA hn1] at em
  obtain ⟨J, e5, e1⟩ := em
  have hs : smT (P 0 k) = 5 := by rw [ho]; rfl
  have hh : fX9_perform p (K, I, R, L, N, w) = fX9_divideNumbers p (K, I, R, L, N, w) := by
    rw [← ob2_id (fX9_divideNumbers p _)]
    clear pe h px fA fB n1 n2 n3 n4 n5 lr ck pg hg hb e1 e5
    unfold fX9_perform
    ((repeat (first | (with_reducible apply q_gd; · (first | assumption | omega)) | (with_reducible apply q_ob; · (first | with_reducible rfl | ((simp (disch := omega) only [jI_lit, jI_neg, jI_add, jI_sub, jI_mul, o_gI, o_gR, o_pI, o_pZ0, o_pZ1, o_pZb, o_pR, o_aI, o_qI, o_aN, tn, va_up_self, va_up_ne, upup, jI_shr1, jI_shr4, jI_shr0, jI_and1, jI_and15, jI_join, jI_240, jI_hi, jF_at, jF_up, jI_max, jI_min, b2_t, b2_f, Bool.not_true, Bool.not_false, eq_self, true_or, or_true, h7, i3, i6, ra, w1, w2, hs]) <;> with_reducible rfl))) | (with_reducible apply q_ob2; · (first | with_reducible rfl | ((simp (disch := omega) only [jI_lit, jI_neg, jI_add, jI_sub, jI_mul, o_gI, o_gR, o_pI, o_pZ0, o_pZ1, o_pZb, o_pR, o_aI, o_qI, o_aN, tn, va_up_self, va_up_ne, upup, jI_shr1, jI_shr4, jI_shr0, jI_and1, jI_and15, jI_join, jI_240, jI_hi, jF_at, jF_up, jI_max, jI_min, b2_t, b2_f, Bool.not_true, Bool.not_false, eq_self, true_or, or_true, h7, i3, i6, ra, w1, w2, hs]) <;> with_reducible rfl))) | (with_reducible apply q_lt; · (first | with_reducible rfl | ((simp (disch := omega) only [jI_lit, jI_neg, jI_add, jI_sub, jI_mul, o_gI, o_gR, o_pI, o_pZ0, o_pZ1, o_pZb, o_pR, o_aI, o_qI, o_aN, tn, va_up_self, va_up_ne, upup, jI_shr1, jI_shr4, jI_shr0, jI_and1, jI_and15, jI_join, jI_240, jI_hi, jF_at, jF_up, jI_max, jI_min, b2_t, b2_f, Bool.not_true, Bool.not_false, eq_self, true_or, or_true, h7, i3, i6, ra, w1, w2, hs]) <;> with_reducible rfl))) | (with_reducible apply q_ifp; · ((simp (disch := omega) only [jI_lit, jI_neg, jI_add, jI_sub, jI_mul, jI_lt, jI_le, jI_eq, va_up_self, va_up_ne, jI_shr1, jI_shr4, jI_shr0, jI_and1, jI_and15, jF_at, tn, b2_t, b2_f, cmp_ge, cmp_gt, cmp_le, cmp_lt, cmp_eq, jL_lit, jL_lt, jL_le, jL_eq, h7, i3, i6, ra, w1, w2, hs]) <;> omega)) | (with_reducible apply q_ifn; · ((simp (disch := omega) only [jI_lit, jI_neg, jI_add, jI_sub, jI_mul, jI_lt, jI_le, jI_eq, va_up_self, va_up_ne, jI_shr1, jI_shr4, jI_shr0, jI_and1, jI_and15, jF_at, tn, b2_t, b2_f, cmp_ge, cmp_gt, cmp_le, cmp_lt, cmp_eq, jL_lit, jL_lt, jL_le, jL_eq, h7, i3, i6, ra, w1, w2, hs]) <;> omega)) | (with_reducible apply q_obk; · (first | with_reducible rfl | ((simp (disch := omega) only [jI_lit, jI_neg, jI_add, jI_sub, jI_mul, o_gI, o_gR, o_pI, o_pZ0, o_pZ1, o_pZb, o_pR, o_aI, o_qI, o_aN, tn, va_up_self, va_up_ne, upup, jI_shr1, jI_shr4, jI_shr0, jI_and1, jI_and15, jI_join, jI_240, jI_hi, jF_at, jF_up, jI_max, jI_min, b2_t, b2_f, Bool.not_true, Bool.not_false, eq_self, true_or, or_true, h7, i3, i6, ra, w1, w2, hs]) <;> with_reducible rfl))) | (with_reducible apply q_nz; · ((simp (disch := omega) only [jI_lit, jI_neg, jI_add, jI_sub, jI_mul, jI_lt, jI_le, jI_eq, va_up_self, va_up_ne, jI_shr1, jI_shr4, jI_shr0, jI_and1, jI_and15, jF_at, tn, b2_t, b2_f, cmp_ge, cmp_gt, cmp_le, cmp_lt, cmp_eq, jL_lit, jL_lt, jL_le, jL_eq, h7, i3, i6, ra, w1, w2, hs]) <;> omega)) | (with_reducible apply q_rz; · (first | exact b2_01 _ | decide)))) <;> (first | with_reducible rfl | ((simp (disch := omega) only [jI_lit, jI_neg, jI_add, jI_sub, jI_mul, o_gI, o_gR, o_pI, o_pZ0, o_pZ1, o_pZb, o_pR, o_aI, o_qI, o_aN, tn, va_up_self, va_up_ne, upup, jI_shr1, jI_shr4, jI_shr0, jI_and1, jI_and15, jI_join, jI_240, jI_hi, jF_at, jF_up, jI_max, jI_min, b2_t, b2_f, Bool.not_true, Bool.not_false, eq_self, true_or, or_true, h7, i3, i6, ra, w1, w2, hs]) <;> with_reducible rfl) | rfl))
  by_cases q : pkv r (opB P r k).toNat (lnB P k).toNat = 0 ∨ 2 * ((lnA P k).toNat - (lnB P k).toNat) - 1 < nd (pkv r (opA P r k).toNat (lnA P k).toNat / pkv r (opB P r k).toNat (lnB P k).toNat)
  · rw [if_pos q] at e1 ⊢
    refine ⟨_, R, 7, hh.trans e1, ?_, ?_, ?_, fun y hy hy2 => by rw [va_up_ne _ _ (by omega), e5 y (by omega)], fun _ _ => rfl, fun _ _ => rfl, (fun x => nomatch x), fun f hf => ?_⟩
    · rw [va_up_ne _ _ (by omega), e5 _ (by omega)]; exact hI
    · rw [va_up_ne _ _ (by omega), e5 p (by omega)]; exact h12
    · rw [va_up_ne _ _ (by omega), e5 p (by omega)]; exact h13
    · cases hf
      exact ⟨rfl, by rw [va_up_self]; exact RsF_n⟩
  · rw [if_neg q] at e1 ⊢
    rw [sto_cls (by omega), sto_cls (by omega), show (opA P r k).toNat + ((lnA P k).toNat - (lnB P k).toNat) = (opA P r k).toNat + (lnA P k).toNat - (lnB P k).toNat by omega] at e1
    exact PO_row h (fun y hy hy2 => by rw [va_up_ne _ _ hy2, e5 y (by omega)]) (by rw [va_up_ne _ _ (by omega), e5 p (by omega)]; exact h12) (by rw [va_up_ne _ _ (by omega), e5 p (by omega)]; exact h13) (va_up_self _ _ _) (hh.trans e1)
theorem e_pfCopy {p x a k many : Nat} {P : PG} {r g : Nat → Int} (h : CTX K I R N p x a P r g k many) (ho : P 0 k = 9) :
    PO K I R L N w p x g (fX9_perform p (K, I, R, L, N, w)) (prf P r k) (if P 0 k = 24 then 1 else 0) (r 273 = -1) := by
  obtain ⟨fA, fB, px, w1, w2, ra⟩ := CTX_px h
  have h' := h
  obtain ⟨pc, h6, h7, ins, pg, hr, hI, hb, hg, h264, h8, h9, h10, h12, h13, hx, ha, hax, ck⟩ := h'
  have lr := ln_r pg
  obtain ⟨n1, n2, n3, n4, n5⟩ := chk_none ck
  have pe := prf_eq P r k
  rw [if_neg (by omega), if_neg (by omega), if_neg (by omega), if_neg (by omega), if_neg (by omega), if_neg (by omega), if_neg (by omega), if_neg (by omega), if_pos (Or.inl ho)] at pe
  rw [pe, if_neg (show ¬ P 0 k = 24 by omega)]
  obtain ⟨eA, eN, hA, hn1⟩ := fA (by omega)
  rw [clA_op (by omega), eA] at h8
  obtain ⟨eB, eM, hB, hm1⟩ := fB (by omega)
  rw [eB] at h9
  obtain ⟨ka, ra', i1, i2, i3, i4, i5, i6, i7, i8, i9, i10⟩ := ins
  rw [eN] at i3
  have lm : lnB P k = lnA P k := by unfold lnB; rw [if_neg (by omega), if_pos (by omega)]
  have ep := e_copy 0 (L := L) (w := w) hr hI (cls_byt hb) hA (q := (opB P r k).toNat) (by omega)
  rw [cpS_cls 0 hA (by omega) _ (Nat.le_refl _), show cpM 0 = 255 from rfl] at ep
  rw [show (P 0 k - 9).toNat = 0 by omega]
  have hs : smT (P 0 k) = 9 := by rw [ho]; rfl
  refine PO_row h (J := va_up I (x + 1) (jF (cls (cpS 0 r (opA P r k).toNat (opB P r k).toNat (lnA P k).toNat) g))) (fun y _ hy => va_up_ne _ _ hy) (by rw [va_up_ne _ _ (by omega)]; exact h12) (by rw [va_up_ne _ _ (by omega)]; exact h13) (va_up_self _ _ _) ?_
  clear pe h px fA fB n1 n2 n3 n4 n5 lr ck pg hg hb
  unfold fX9_perform
  ((repeat (first | (with_reducible apply q_gd; · (first | assumption | omega)) | (with_reducible apply q_ob; · (first | with_reducible rfl | ((simp (disch := omega) only [jI_lit, jI_neg, jI_add, jI_sub, jI_mul, o_gI, o_gR, o_pI, o_pZ0, o_pZ1, o_pZb, o_pR, o_aI, o_qI, o_aN, tn, va_up_self, va_up_ne, upup, jI_shr1, jI_shr4, jI_shr0, jI_and1, jI_and15, jI_join, jI_240, jI_hi, jF_at, jF_up, jI_max, jI_min, b2_t, b2_f, Bool.not_true, Bool.not_false, eq_self, true_or, or_true, h7, i3, i6, ra, w1, w2, hs, h6, h8, h9, ep]) <;> with_reducible rfl))) | (with_reducible apply q_ob2; · (first | with_reducible rfl | ((simp (disch := omega) only [jI_lit, jI_neg, jI_add, jI_sub, jI_mul, o_gI, o_gR, o_pI, o_pZ0, o_pZ1, o_pZb, o_pR, o_aI, o_qI, o_aN, tn, va_up_self, va_up_ne, upup, jI_shr1, jI_shr4, jI_shr0, jI_and1, jI_and15, jI_join, jI_240, jI_hi, jF_at, jF_up, jI_max, jI_min, b2_t, b2_f, Bool.not_true, Bool.not_false, eq_self, true_or, or_true, h7, i3, i6, ra, w1, w2, hs, h6, h8, h9, ep]) <;> with_reducible rfl))) | (with_reducible apply q_lt; · (first | with_reducible rfl | ((simp (disch := omega) only [jI_lit, jI_neg, jI_add, jI_sub, jI_mul, o_gI, o_gR, o_pI, o_pZ0, o_pZ1, o_pZb, o_pR, o_aI, o_qI, o_aN, tn, va_up_self, va_up_ne, upup, jI_shr1, jI_shr4, jI_shr0, jI_and1, jI_and15, jI_join, jI_240, jI_hi, jF_at, jF_up, jI_max, jI_min, b2_t, b2_f, Bool.not_true, Bool.not_false, eq_self, true_or, or_true, h7, i3, i6, ra, w1, w2, hs, h6, h8, h9, ep]) <;> with_reducible rfl))) | (with_reducible apply q_ifp; · ((simp (disch := omega) only [jI_lit, jI_neg, jI_add, jI_sub, jI_mul, jI_lt, jI_le, jI_eq, va_up_self, va_up_ne, jI_shr1, jI_shr4, jI_shr0, jI_and1, jI_and15, jF_at, tn, b2_t, b2_f, cmp_ge, cmp_gt, cmp_le, cmp_lt, cmp_eq, jL_lit, jL_lt, jL_le, jL_eq, h7, i3, i6, ra, w1, w2, hs, h6, h8, h9, ep]) <;> omega)) | (with_reducible apply q_ifn; · ((simp (disch := omega) only [jI_lit, jI_neg, jI_add, jI_sub, jI_mul, jI_lt, jI_le, jI_eq, va_up_self, va_up_ne, jI_shr1, jI_shr4, jI_shr0, jI_and1, jI_and15, jF_at, tn, b2_t, b2_f, cmp_ge, cmp_gt, cmp_le, cmp_lt, cmp_eq, jL_lit, jL_lt, jL_le, jL_eq, h7, i3, i6, ra, w1, w2, hs, h6, h8, h9, ep]) <;> omega)) | (with_reducible apply q_obk; · (first | with_reducible rfl | ((simp (disch := omega) only [jI_lit, jI_neg, jI_add, jI_sub, jI_mul, o_gI, o_gR, o_pI, o_pZ0, o_pZ1, o_pZb, o_pR, o_aI, o_qI, o_aN, tn, va_up_self, va_up_ne, upup, jI_shr1, jI_shr4, jI_shr0, jI_and1, jI_and15, jI_join, jI_240, jI_hi, jF_at, jF_up, jI_max, jI_min, b2_t, b2_f, Bool.not_true, Bool.not_false, eq_self, true_or, or_true, h7, i3, i6, ra, w1, w2, hs, h6, h8, h9, ep]) <;> with_reducible rfl))) | (with_reducible apply q_nz; · ((simp (disch := omega) only [jI_lit, jI_neg, jI_add, jI_sub, jI_mul, jI_lt, jI_le, jI_eq, va_up_self, va_up_ne, jI_shr1, jI_shr4, jI_shr0, jI_and1, jI_and15, jF_at, tn, b2_t, b2_f, cmp_ge, cmp_gt, cmp_le, cmp_lt, cmp_eq, jL_lit, jL_lt, jL_le, jL_eq, h7, i3, i6, ra, w1, w2, hs, h6, h8, h9, ep]) <;> omega)) | (with_reducible apply q_rz; · (first | exact b2_01 _ | decide)))) <;> (first | with_reducible rfl | ((simp (disch := omega) only [jI_lit, jI_neg, jI_add, jI_sub, jI_mul, o_gI, o_gR, o_pI, o_pZ0, o_pZ1, o_pZb, o_pR, o_aI, o_qI, o_aN, tn, va_up_self, va_up_ne, upup, jI_shr1, jI_shr4, jI_shr0, jI_and1, jI_and15, jI_join, jI_240, jI_hi, jF_at, jF_up, jI_max, jI_min, b2_t, b2_f, Bool.not_true, Bool.not_false, eq_self, true_or, or_true, h7, i3, i6, ra, w1, w2, hs, h6, h8, h9, ep]) <;> with_reducible rfl) | rfl))
theorem e_pfDigits {p x a k many : Nat} {P : PG} {r g : Nat → Int} (h : CTX K I R N p x a P r g k many) (ho : P 0 k = 10) :
    PO K I R L N w p x g (fX9_perform p (K, I, R, L, N, w)) (prf P r k) (if P 0 k = 24 then 1 else 0) (r 273 = -1) := by
  obtain ⟨fA, fB, px, w1, w2, ra⟩ := CTX_px h
  have h' := h
  obtain ⟨pc, h6, h7, ins, pg, hr, hI, hb, hg, h264, h8, h9, h10, h12, h13, hx, ha, hax, ck⟩ := h'
  have lr := ln_r pg
  obtain ⟨n1, n2, n3, n4, n5⟩ := chk_none ck
  have pe := prf_eq P r k
  rw [if_neg (by omega), if_neg (by omega), if_neg (by omega), if_neg (by omega), if_neg (by omega), if_neg (by omega), if_neg (by omega), if_neg (by omega), if_pos (Or.inr (Or.inl ho))] at pe
  rw [pe, if_neg (show ¬ P 0 k = 24 by omega)]
  obtain ⟨eA, eN, hA, hn1⟩ := fA (by omega)
  rw [clA_op (by omega), eA] at h8
  obtain ⟨eB, eM, hB, hm1⟩ := fB (by omega)
  rw [eB] at h9
  obtain ⟨ka, ra', i1, i2, i3, i4, i5, i6, i7, i8, i9, i10⟩ := ins
  rw [eN] at i3
  have lm : lnB P k = lnA P k := by unfold lnB; rw [if_neg (by omega), if_pos (by omega)]
  have ep := e_copy 1 (L := L) (w := w) hr hI (cls_byt hb) hA (q := (opB P r k).toNat) (by omega)
  rw [cpS_cls 1 hA (by omega) _ (Nat.le_refl _), show cpM 1 = 15 from rfl] at ep
  rw [show (P 0 k - 9).toNat = 1 by omega]
  have hs : smT (P 0 k) = 10 := by rw [ho]; rfl
  refine PO_row h (J := va_up I (x + 1) (jF (cls (cpS 1 r (opA P r k).toNat (opB P r k).toNat (lnA P k).toNat) g))) (fun y _ hy => va_up_ne _ _ hy) (by rw [va_up_ne _ _ (by omega)]; exact h12) (by rw [va_up_ne _ _ (by omega)]; exact h13) (va_up_self _ _ _) ?_
  clear pe h px fA fB n1 n2 n3 n4 n5 lr ck pg hg hb
  unfold fX9_perform
  ((repeat (first | (with_reducible apply q_gd; · (first | assumption | omega)) | (with_reducible apply q_ob; · (first | with_reducible rfl | ((simp (disch := omega) only [jI_lit, jI_neg, jI_add, jI_sub, jI_mul, o_gI, o_gR, o_pI, o_pZ0, o_pZ1, o_pZb, o_pR, o_aI, o_qI, o_aN, tn, va_up_self, va_up_ne, upup, jI_shr1, jI_shr4, jI_shr0, jI_and1, jI_and15, jI_join, jI_240, jI_hi, jF_at, jF_up, jI_max, jI_min, b2_t, b2_f, Bool.not_true, Bool.not_false, eq_self, true_or, or_true, h7, i3, i6, ra, w1, w2, hs, h6, h8, h9, ep]) <;> with_reducible rfl))) | (with_reducible apply q_ob2; · (first | with_reducible rfl | ((simp (disch := omega) only [jI_lit, jI_neg, jI_add, jI_sub, jI_mul, o_gI, o_gR, o_pI, o_pZ0, o_pZ1, o_pZb, o_pR, o_aI, o_qI, o_aN, tn, va_up_self, va_up_ne, upup, jI_shr1, jI_shr4, jI_shr0, jI_and1, jI_and15, jI_join, jI_240, jI_hi, jF_at, jF_up, jI_max, jI_min, b2_t, b2_f, Bool.not_true, Bool.not_false, eq_self, true_or, or_true, h7, i3, i6, ra, w1, w2, hs, h6, h8, h9, ep]) <;> with_reducible rfl))) | (with_reducible apply q_lt; · (first | with_reducible rfl | ((simp (disch := omega) only [jI_lit, jI_neg, jI_add, jI_sub, jI_mul, o_gI, o_gR, o_pI, o_pZ0, o_pZ1, o_pZb, o_pR, o_aI, o_qI, o_aN, tn, va_up_self, va_up_ne, upup, jI_shr1, jI_shr4, jI_shr0, jI_and1, jI_and15, jI_join, jI_240, jI_hi, jF_at, jF_up, jI_max, jI_min, b2_t, b2_f, Bool.not_true, Bool.not_false, eq_self, true_or, or_true, h7, i3, i6, ra, w1, w2, hs, h6, h8, h9, ep]) <;> with_reducible rfl))) | (with_reducible apply q_ifp; · ((simp (disch := omega) only [jI_lit, jI_neg, jI_add, jI_sub, jI_mul, jI_lt, jI_le, jI_eq, va_up_self, va_up_ne, jI_shr1, jI_shr4, jI_shr0, jI_and1, jI_and15, jF_at, tn, b2_t, b2_f, cmp_ge, cmp_gt, cmp_le, cmp_lt, cmp_eq, jL_lit, jL_lt, jL_le, jL_eq, h7, i3, i6, ra, w1, w2, hs, h6, h8, h9, ep]) <;> omega)) | (with_reducible apply q_ifn; · ((simp (disch := omega) only [jI_lit, jI_neg, jI_add, jI_sub, jI_mul, jI_lt, jI_le, jI_eq, va_up_self, va_up_ne, jI_shr1, jI_shr4, jI_shr0, jI_and1, jI_and15, jF_at, tn, b2_t, b2_f, cmp_ge, cmp_gt, cmp_le, cmp_lt, cmp_eq, jL_lit, jL_lt, jL_le, jL_eq, h7, i3, i6, ra, w1, w2, hs, h6, h8, h9, ep]) <;> omega)) | (with_reducible apply q_obk; · (first | with_reducible rfl | ((simp (disch := omega) only [jI_lit, jI_neg, jI_add, jI_sub, jI_mul, o_gI, o_gR, o_pI, o_pZ0, o_pZ1, o_pZb, o_pR, o_aI, o_qI, o_aN, tn, va_up_self, va_up_ne, upup, jI_shr1, jI_shr4, jI_shr0, jI_and1, jI_and15, jI_join, jI_240, jI_hi, jF_at, jF_up, jI_max, jI_min, b2_t, b2_f, Bool.not_true, Bool.not_false, eq_self, true_or, or_true, h7, i3, i6, ra, w1, w2, hs, h6, h8, h9, ep]) <;> with_reducible rfl))) | (with_reducible apply q_nz; · ((simp (disch := omega) only [jI_lit, jI_neg, jI_add, jI_sub, jI_mul, jI_lt, jI_le, jI_eq, va_up_self, va_up_ne, jI_shr1, jI_shr4, jI_shr0, jI_and1, jI_and15, jF_at, tn, b2_t, b2_f, cmp_ge, cmp_gt, cmp_le, cmp_lt, cmp_eq, jL_lit, jL_lt, jL_le, jL_eq, h7, i3, i6, ra, w1, w2, hs, h6, h8, h9, ep]) <;> omega)) | (with_reducible apply q_rz; · (first | exact b2_01 _ | decide)))) <;> (first | with_reducible rfl | ((simp (disch := omega) only [jI_lit, jI_neg, jI_add, jI_sub, jI_mul, o_gI, o_gR, o_pI, o_pZ0, o_pZ1, o_pZb, o_pR, o_aI, o_qI, o_aN, tn, va_up_self, va_up_ne, upup, jI_shr1, jI_shr4, jI_shr0, jI_and1, jI_and15, jI_join, jI_240, jI_hi, jF_at, jF_up, jI_max, jI_min, b2_t, b2_f, Bool.not_true, Bool.not_false, eq_self, true_or, or_true, h7, i3, i6, ra, w1, w2, hs, h6, h8, h9, ep]) <;> with_reducible rfl) | rfl))
theorem e_pfZones {p x a k many : Nat} {P : PG} {r g : Nat → Int} (h : CTX K I R N p x a P r g k many) (ho : P 0 k = 11) :
    PO K I R L N w p x g (fX9_perform p (K, I, R, L, N, w)) (prf P r k) (if P 0 k = 24 then 1 else 0) (r 273 = -1) := by
  obtain ⟨fA, fB, px, w1, w2, ra⟩ := CTX_px h
  have h' := h
  obtain ⟨pc, h6, h7, ins, pg, hr, hI, hb, hg, h264, h8, h9, h10, h12, h13, hx, ha, hax, ck⟩ := h'
  have lr := ln_r pg
  obtain ⟨n1, n2, n3, n4, n5⟩ := chk_none ck
  have pe := prf_eq P r k
  rw [if_neg (by omega), if_neg (by omega), if_neg (by omega), if_neg (by omega), if_neg (by omega), if_neg (by omega), if_neg (by omega), if_neg (by omega), if_pos (Or.inr (Or.inr ho))] at pe
  rw [pe, if_neg (show ¬ P 0 k = 24 by omega)]
  obtain ⟨eA, eN, hA, hn1⟩ := fA (by omega)
  rw [clA_op (by omega), eA] at h8
  obtain ⟨eB, eM, hB, hm1⟩ := fB (by omega)
  rw [eB] at h9
  obtain ⟨ka, ra', i1, i2, i3, i4, i5, i6, i7, i8, i9, i10⟩ := ins
  rw [eN] at i3
  have lm : lnB P k = lnA P k := by unfold lnB; rw [if_neg (by omega), if_pos (by omega)]
  have ep := e_copy 2 (L := L) (w := w) hr hI (cls_byt hb) hA (q := (opB P r k).toNat) (by omega)
  rw [cpS_cls 2 hA (by omega) _ (Nat.le_refl _), show cpM 2 = 240 from rfl] at ep
  rw [show (P 0 k - 9).toNat = 2 by omega]
  have hs : smT (P 0 k) = 11 := by rw [ho]; rfl
  refine PO_row h (J := va_up I (x + 1) (jF (cls (cpS 2 r (opA P r k).toNat (opB P r k).toNat (lnA P k).toNat) g))) (fun y _ hy => va_up_ne _ _ hy) (by rw [va_up_ne _ _ (by omega)]; exact h12) (by rw [va_up_ne _ _ (by omega)]; exact h13) (va_up_self _ _ _) ?_
  clear pe h px fA fB n1 n2 n3 n4 n5 lr ck pg hg hb
  unfold fX9_perform
  ((repeat (first | (with_reducible apply q_gd; · (first | assumption | omega)) | (with_reducible apply q_ob; · (first | with_reducible rfl | ((simp (disch := omega) only [jI_lit, jI_neg, jI_add, jI_sub, jI_mul, o_gI, o_gR, o_pI, o_pZ0, o_pZ1, o_pZb, o_pR, o_aI, o_qI, o_aN, tn, va_up_self, va_up_ne, upup, jI_shr1, jI_shr4, jI_shr0, jI_and1, jI_and15, jI_join, jI_240, jI_hi, jF_at, jF_up, jI_max, jI_min, b2_t, b2_f, Bool.not_true, Bool.not_false, eq_self, true_or, or_true, h7, i3, i6, ra, w1, w2, hs, h6, h8, h9, ep]) <;> with_reducible rfl))) | (with_reducible apply q_ob2; · (first | with_reducible rfl | ((simp (disch := omega) only [jI_lit, jI_neg, jI_add, jI_sub, jI_mul, o_gI, o_gR, o_pI, o_pZ0, o_pZ1, o_pZb, o_pR, o_aI, o_qI, o_aN, tn, va_up_self, va_up_ne, upup, jI_shr1, jI_shr4, jI_shr0, jI_and1, jI_and15, jI_join, jI_240, jI_hi, jF_at, jF_up, jI_max, jI_min, b2_t, b2_f, Bool.not_true, Bool.not_false, eq_self, true_or, or_true, h7, i3, i6, ra, w1, w2, hs, h6, h8, h9, ep]) <;> with_reducible rfl))) | (with_reducible apply q_lt; · (first | with_reducible rfl | ((simp (disch := omega) only [jI_lit, jI_neg, jI_add, jI_sub, jI_mul, o_gI, o_gR, o_pI, o_pZ0, o_pZ1, o_pZb, o_pR, o_aI, o_qI, o_aN, tn, va_up_self, va_up_ne, upup, jI_shr1, jI_shr4, jI_shr0, jI_and1, jI_and15, jI_join, jI_240, jI_hi, jF_at, jF_up, jI_max, jI_min, b2_t, b2_f, Bool.not_true, Bool.not_false, eq_self, true_or, or_true, h7, i3, i6, ra, w1, w2, hs, h6, h8, h9, ep]) <;> with_reducible rfl))) | (with_reducible apply q_ifp; · ((simp (disch := omega) only [jI_lit, jI_neg, jI_add, jI_sub, jI_mul, jI_lt, jI_le, jI_eq, va_up_self, va_up_ne, jI_shr1, jI_shr4, jI_shr0, jI_and1, jI_and15, jF_at, tn, b2_t, b2_f, cmp_ge, cmp_gt, cmp_le, cmp_lt, cmp_eq, jL_lit, jL_lt, jL_le, jL_eq, h7, i3, i6, ra, w1, w2, hs, h6, h8, h9, ep]) <;> omega)) | (with_reducible apply q_ifn; · ((simp (disch := omega) only [jI_lit, jI_neg, jI_add, jI_sub, jI_mul, jI_lt, jI_le, jI_eq, va_up_self, va_up_ne, jI_shr1, jI_shr4, jI_shr0, jI_and1, jI_and15, jF_at, tn, b2_t, b2_f, cmp_ge, cmp_gt, cmp_le, cmp_lt, cmp_eq, jL_lit, jL_lt, jL_le, jL_eq, h7, i3, i6, ra, w1, w2, hs, h6, h8, h9, ep]) <;> omega)) | (with_reducible apply q_obk; · (first | with_reducible rfl | ((simp (disch := omega) only [jI_lit, jI_neg, jI_add, jI_sub, jI_mul, o_gI, o_gR, o_pI, o_pZ0, o_pZ1, o_pZb, o_pR, o_aI, o_qI, o_aN, tn, va_up_self, va_up_ne, upup, jI_shr1, jI_shr4, jI_shr0, jI_and1, jI_and15, jI_join, jI_240, jI_hi, jF_at, jF_up, jI_max, jI_min, b2_t, b2_f, Bool.not_true, Bool.not_false, eq_self, true_or, or_true, h7, i3, i6, ra, w1, w2, hs, h6, h8, h9, ep]) <;> with_reducible rfl))) | (with_reducible apply q_nz; · ((simp (disch := omega) only [jI_lit, jI_neg, jI_add, jI_sub, jI_mul, jI_lt, jI_le, jI_eq, va_up_self, va_up_ne, jI_shr1, jI_shr4, jI_shr0, jI_and1, jI_and15, jF_at, tn, b2_t, b2_f, cmp_ge, cmp_gt, cmp_le, cmp_lt, cmp_eq, jL_lit, jL_lt, jL_le, jL_eq, h7, i3, i6, ra, w1, w2, hs, h6, h8, h9, ep]) <;> omega)) | (with_reducible apply q_rz; · (first | exact b2_01 _ | decide)))) <;> (first | with_reducible rfl | ((simp (disch := omega) only [jI_lit, jI_neg, jI_add, jI_sub, jI_mul, o_gI, o_gR, o_pI, o_pZ0, o_pZ1, o_pZb, o_pR, o_aI, o_qI, o_aN, tn, va_up_self, va_up_ne, upup, jI_shr1, jI_shr4, jI_shr0, jI_and1, jI_and15, jI_join, jI_240, jI_hi, jF_at, jF_up, jI_max, jI_min, b2_t, b2_f, Bool.not_true, Bool.not_false, eq_self, true_or, or_true, h7, i3, i6, ra, w1, w2, hs, h6, h8, h9, ep]) <;> with_reducible rfl) | rfl))
theorem e_pfShift {p x a k many : Nat} {P : PG} {r g : Nat → Int} (h : CTX K I R N p x a P r g k many) (ho : P 0 k = 14) :
    PO K I R L N w p x g (fX9_perform p (K, I, R, L, N, w)) (prf P r k) (if P 0 k = 24 then 1 else 0) (r 273 = -1) := by
  obtain ⟨fA, fB, px, w1, w2, ra⟩ := CTX_px h
  have h' := h
  obtain ⟨pc, h6, h7, ins, pg, hr, hI, hb, hg, h264, h8, h9, h10, h12, h13, hx, ha, hax, ck⟩ := h'
  have lr := ln_r pg
  obtain ⟨n1, n2, n3, n4, n5⟩ := chk_none ck
  have pe := prf_eq P r k
  rw [if_neg (by omega), if_neg (by omega), if_neg (by omega), if_neg (by omega), if_neg (by omega), if_neg (by omega), if_neg (by omega), if_neg (by omega), if_neg (by omega), if_neg (by omega), if_pos ho] at pe
  rw [pe, if_neg (show ¬ P 0 k = 24 by omega)]
  obtain ⟨eA, eN, hA, hn1⟩ := fA (by omega)
  rw [clA_op (by omega), eA] at h8
  obtain ⟨ka, ra', i1, i2, i3, i4, i5, i6, i7, i8, i9, i10⟩ := ins
  rw [eN] at i3
  rw [clA_op (by omega), eA, eN] at px
  have hq := pg.2.2.2.2.2.2.1 ho
  rw [if_pos ho] at i8 i9
  rw [show P 5 k = ((P 5 k).toNat : Int) by omega] at i9
  have em := e_shiftNumber (L := L) (w := w) px hA hn1 (by omega) (Snd_of (by rw [flp_cls hA]; exact n4 (by omega))) i8 i9 hq.1 hq.2.1 (by omega)
  rw [pkv_cls hA, pks_cls hA hn1] at em
  obtain ⟨v, J, e0, e1, e2, e3, e4, e5⟩ := em
  have hs : smT (P 0 k) = 13 := by rw [ho]; rfl
  have hh : fX9_perform p (K, I, R, L, N, w) = fX9_putResult p (K, J, R, L, N, w) := by
    rw [← e1, ← ob2_id (fX9_shiftNumber p _)]
    clear pe h px fA fB n1 n2 n3 n4 n5 lr ck pg hg hb e0 e1 e2 e3 e4 e5 hq
    unfold fX9_perform
    ((repeat (first | (with_reducible apply q_gd; · (first | assumption | omega)) | (with_reducible apply q_ob; · (first | with_reducible rfl | ((simp (disch := omega) only [jI_lit, jI_neg, jI_add, jI_sub, jI_mul, o_gI, o_gR, o_pI, o_pZ0, o_pZ1, o_pZb, o_pR, o_aI, o_qI, o_aN, tn, va_up_self, va_up_ne, upup, jI_shr1, jI_shr4, jI_shr0, jI_and1, jI_and15, jI_join, jI_240, jI_hi, jF_at, jF_up, jI_max, jI_min, b2_t, b2_f, Bool.not_true, Bool.not_false, eq_self, true_or, or_true, h7, i3, i6, ra, w1, w2, hs]) <;> with_reducible rfl))) | (with_reducible apply q_ob2; · (first | with_reducible rfl | ((simp (disch := omega) only [jI_lit, jI_neg, jI_add, jI_sub, jI_mul, o_gI, o_gR, o_pI, o_pZ0, o_pZ1, o_pZb, o_pR, o_aI, o_qI, o_aN, tn, va_up_self, va_up_ne, upup, jI_shr1, jI_shr4, jI_shr0, jI_and1, jI_and15, jI_join, jI_240, jI_hi, jF_at, jF_up, jI_max, jI_min, b2_t, b2_f, Bool.not_true, Bool.not_false, eq_self, true_or, or_true, h7, i3, i6, ra, w1, w2, hs]) <;> with_reducible rfl))) | (with_reducible apply q_lt; · (first | with_reducible rfl | ((simp (disch := omega) only [jI_lit, jI_neg, jI_add, jI_sub, jI_mul, o_gI, o_gR, o_pI, o_pZ0, o_pZ1, o_pZb, o_pR, o_aI, o_qI, o_aN, tn, va_up_self, va_up_ne, upup, jI_shr1, jI_shr4, jI_shr0, jI_and1, jI_and15, jI_join, jI_240, jI_hi, jF_at, jF_up, jI_max, jI_min, b2_t, b2_f, Bool.not_true, Bool.not_false, eq_self, true_or, or_true, h7, i3, i6, ra, w1, w2, hs]) <;> with_reducible rfl))) | (with_reducible apply q_ifp; · ((simp (disch := omega) only [jI_lit, jI_neg, jI_add, jI_sub, jI_mul, jI_lt, jI_le, jI_eq, va_up_self, va_up_ne, jI_shr1, jI_shr4, jI_shr0, jI_and1, jI_and15, jF_at, tn, b2_t, b2_f, cmp_ge, cmp_gt, cmp_le, cmp_lt, cmp_eq, jL_lit, jL_lt, jL_le, jL_eq, h7, i3, i6, ra, w1, w2, hs]) <;> omega)) | (with_reducible apply q_ifn; · ((simp (disch := omega) only [jI_lit, jI_neg, jI_add, jI_sub, jI_mul, jI_lt, jI_le, jI_eq, va_up_self, va_up_ne, jI_shr1, jI_shr4, jI_shr0, jI_and1, jI_and15, jF_at, tn, b2_t, b2_f, cmp_ge, cmp_gt, cmp_le, cmp_lt, cmp_eq, jL_lit, jL_lt, jL_le, jL_eq, h7, i3, i6, ra, w1, w2, hs]) <;> omega)) | (with_reducible apply q_obk; · (first | with_reducible rfl | ((simp (disch := omega) only [jI_lit, jI_neg, jI_add, jI_sub, jI_mul, o_gI, o_gR, o_pI, o_pZ0, o_pZ1, o_pZb, o_pR, o_aI, o_qI, o_aN, tn, va_up_self, va_up_ne, upup, jI_shr1, jI_shr4, jI_shr0, jI_and1, jI_and15, jI_join, jI_240, jI_hi, jF_at, jF_up, jI_max, jI_min, b2_t, b2_f, Bool.not_true, Bool.not_false, eq_self, true_or, or_true, h7, i3, i6, ra, w1, w2, hs]) <;> with_reducible rfl))) | (with_reducible apply q_nz; · ((simp (disch := omega) only [jI_lit, jI_neg, jI_add, jI_sub, jI_mul, jI_lt, jI_le, jI_eq, va_up_self, va_up_ne, jI_shr1, jI_shr4, jI_shr0, jI_and1, jI_and15, jF_at, tn, b2_t, b2_f, cmp_ge, cmp_gt, cmp_le, cmp_lt, cmp_eq, jL_lit, jL_lt, jL_le, jL_eq, h7, i3, i6, ra, w1, w2, hs]) <;> omega)) | (with_reducible apply q_rz; · (first | exact b2_01 _ | decide)))) <;> (first | with_reducible rfl | ((simp (disch := omega) only [jI_lit, jI_neg, jI_add, jI_sub, jI_mul, o_gI, o_gR, o_pI, o_pZ0, o_pZ1, o_pZb, o_pR, o_aI, o_qI, o_aN, tn, va_up_self, va_up_ne, upup, jI_shr1, jI_shr4, jI_shr0, jI_and1, jI_and15, jI_join, jI_240, jI_hi, jF_at, jF_up, jI_max, jI_min, b2_t, b2_f, Bool.not_true, Bool.not_false, eq_self, true_or, or_true, h7, i3, i6, ra, w1, w2, hs]) <;> with_reducible rfl) | rfl))
  have := PO_fin h (by omega) (by omega) (by omega) e5 e3 e4 hh
  rw [if_neg (show ¬ P 0 k = 24 by omega)] at this
  rw [← e0]
  exact this
theorem e_pfBin {p x a k many : Nat} {P : PG} {r g : Nat → Int} (h : CTX K I R N p x a P r g k many) (ho : P 0 k = 16) :
    PO K I R L N w p x g (fX9_perform p (K, I, R, L, N, w)) (prf P r k) (if P 0 k = 24 then 1 else 0) (r 273 = -1) := by
  obtain ⟨fA, fB, px, w1, w2, ra⟩ := CTX_px h
  have h' := h
  obtain ⟨pc, h6, h7, ins, pg, hr, hI, hb, hg, h264, h8, h9, h10, h12, h13, hx, ha, hax, ck⟩ := h'
  have lr := ln_r pg
  obtain ⟨n1, n2, n3, n4, n5⟩ := chk_none ck
  have pe := prf_eq P r k
  rw [if_neg (by omega), if_neg (by omega), if_neg (by omega), if_neg (by omega), if_neg (by omega), if_neg (by omega), if_neg (by omega), if_neg (by omega), if_neg (by omega), if_neg (by omega), if_neg (by omega), if_neg (by omega), if_pos ho] at pe
  rw [pe, if_neg (show ¬ P 0 k = 24 by omega)]
  obtain ⟨eA, eN, hA, hn1⟩ := fA (by omega)
  rw [clA_op (by omega), eA] at h8
  obtain ⟨ka, ra', i1, i2, i3, i4, i5, i6, i7, i8, i9, i10⟩ := ins
  rw [eN] at i3
  rw [clA_op (by omega), eA, eN] at px
  have hq := pg.2.2.2.2.2.2.2.1 (by omega) (by omega)
  rw [if_pos (by omega), show P 4 k = ((P 4 k).toNat : Int) by omega] at i7
  have l8 : lnA P k = 8 := by unfold lnA; rw [if_pos (Or.inl ho)]
  have em := e_toBinary (L := L) (w := w) px hA hn1 (by omega) (Snd_of (by rw [flp_cls hA]; exact n4 (by omega))) i7 (by omega)
  rw [pkv_cls hA, pks_cls hA hn1] at em
  obtain ⟨J, e5, e1⟩ := em
  have hs : smT (P 0 k) = 16 := by rw [ho]; rfl
  have hh : fX9_perform p (K, I, R, L, N, w) = fX9_toBinary p (K, I, R, L, N, w) := by
    rw [← ob2_id (fX9_toBinary p _)]
    clear pe h px fA fB n1 n2 n3 n4 n5 lr ck pg hg hb e1 e5 hq l8
    unfold fX9_perform
    ((repeat (first | (with_reducible apply q_gd; · (first | assumption | omega)) | (with_reducible apply q_ob; · (first | with_reducible rfl | ((simp (disch := omega) only [jI_lit, jI_neg, jI_add, jI_sub, jI_mul, o_gI, o_gR, o_pI, o_pZ0, o_pZ1, o_pZb, o_pR, o_aI, o_qI, o_aN, tn, va_up_self, va_up_ne, upup, jI_shr1, jI_shr4, jI_shr0, jI_and1, jI_and15, jI_join, jI_240, jI_hi, jF_at, jF_up, jI_max, jI_min, b2_t, b2_f, Bool.not_true, Bool.not_false, eq_self, true_or, or_true, h7, i3, i6, ra, w1, w2, hs]) <;> with_reducible rfl))) | (with_reducible apply q_ob2; · (first | with_reducible rfl | ((simp (disch := omega) only [jI_lit, jI_neg, jI_add, jI_sub, jI_mul, o_gI, o_gR, o_pI, o_pZ0, o_pZ1, o_pZb, o_pR, o_aI, o_qI, o_aN, tn, va_up_self, va_up_ne, upup, jI_shr1, jI_shr4, jI_shr0, jI_and1, jI_and15, jI_join, jI_240, jI_hi, jF_at, jF_up, jI_max, jI_min, b2_t, b2_f, Bool.not_true, Bool.not_false, eq_self, true_or, or_true, h7, i3, i6, ra, w1, w2, hs]) <;> with_reducible rfl))) | (with_reducible apply q_lt; · (first | with_reducible rfl | ((simp (disch := omega) only [jI_lit, jI_neg, jI_add, jI_sub, jI_mul, o_gI, o_gR, o_pI, o_pZ0, o_pZ1, o_pZb, o_pR, o_aI, o_qI, o_aN, tn, va_up_self, va_up_ne, upup, jI_shr1, jI_shr4, jI_shr0, jI_and1, jI_and15, jI_join, jI_240, jI_hi, jF_at, jF_up, jI_max, jI_min, b2_t, b2_f, Bool.not_true, Bool.not_false, eq_self, true_or, or_true, h7, i3, i6, ra, w1, w2, hs]) <;> with_reducible rfl))) | (with_reducible apply q_ifp; · ((simp (disch := omega) only [jI_lit, jI_neg, jI_add, jI_sub, jI_mul, jI_lt, jI_le, jI_eq, va_up_self, va_up_ne, jI_shr1, jI_shr4, jI_shr0, jI_and1, jI_and15, jF_at, tn, b2_t, b2_f, cmp_ge, cmp_gt, cmp_le, cmp_lt, cmp_eq, jL_lit, jL_lt, jL_le, jL_eq, h7, i3, i6, ra, w1, w2, hs]) <;> omega)) | (with_reducible apply q_ifn; · ((simp (disch := omega) only [jI_lit, jI_neg, jI_add, jI_sub, jI_mul, jI_lt, jI_le, jI_eq, va_up_self, va_up_ne, jI_shr1, jI_shr4, jI_shr0, jI_and1, jI_and15, jF_at, tn, b2_t, b2_f, cmp_ge, cmp_gt, cmp_le, cmp_lt, cmp_eq, jL_lit, jL_lt, jL_le, jL_eq, h7, i3, i6, ra, w1, w2, hs]) <;> omega)) | (with_reducible apply q_obk; · (first | with_reducible rfl | ((simp (disch := omega) only [jI_lit, jI_neg, jI_add, jI_sub, jI_mul, o_gI, o_gR, o_pI, o_pZ0, o_pZ1, o_pZb, o_pR, o_aI, o_qI, o_aN, tn, va_up_self, va_up_ne, upup, jI_shr1, jI_shr4, jI_shr0, jI_and1, jI_and15, jI_join, jI_240, jI_hi, jF_at, jF_up, jI_max, jI_min, b2_t, b2_f, Bool.not_true, Bool.not_false, eq_self, true_or, or_true, h7, i3, i6, ra, w1, w2, hs]) <;> with_reducible rfl))) | (with_reducible apply q_nz; · ((simp (disch := omega) only [jI_lit, jI_neg, jI_add, jI_sub, jI_mul, jI_lt, jI_le, jI_eq, va_up_self, va_up_ne, jI_shr1, jI_shr4, jI_shr0, jI_and1, jI_and15, jF_at, tn, b2_t, b2_f, cmp_ge, cmp_gt, cmp_le, cmp_lt, cmp_eq, jL_lit, jL_lt, jL_le, jL_eq, h7, i3, i6, ra, w1, w2, hs]) <;> omega)) | (with_reducible apply q_rz; · (first | exact b2_01 _ | decide)))) <;> (first | with_reducible rfl | ((simp (disch := omega) only [jI_lit, jI_neg, jI_add, jI_sub, jI_mul, o_gI, o_gR, o_pI, o_pZ0, o_pZ1, o_pZb, o_pR, o_aI, o_qI, o_aN, tn, va_up_self, va_up_ne, upup, jI_shr1, jI_shr4, jI_shr0, jI_and1, jI_and15, jI_join, jI_240, jI_hi, jF_at, jF_up, jI_max, jI_min, b2_t, b2_f, Bool.not_true, Bool.not_false, eq_self, true_or, or_true, h7, i3, i6, ra, w1, w2, hs]) <;> with_reducible rfl) | rfl))
  obtain ⟨z, hz⟩ : ∃ z : Int, z = (if pks r (opA P r k).toNat (lnA P k).toNat then -(pkv r (opA P r k).toNat (lnA P k).toNat : Int) else pkv r (opA P r k).toNat (lnA P k).toNat) := ⟨_, rfl⟩
  rw [← hz] at e1 ⊢
  by_cases q : z < -2147483648 ∨ 2147483647 < z
  · rw [if_pos q] at e1 ⊢
    refine ⟨_, R, 8, hh.trans e1, ?_, ?_, ?_, fun y hy hy2 => by rw [va_up_ne _ _ (by omega), e5 y (by omega)], fun _ _ => rfl, fun _ _ => rfl, (fun x => nomatch x), fun f hf => ?_⟩
    · rw [va_up_ne _ _ (by omega), e5 _ (by omega)]; exact hI
    · rw [va_up_ne _ _ (by omega), e5 p (by omega)]; exact h12
    · rw [va_up_ne _ _ (by omega), e5 p (by omega)]; exact h13
    · cases hf
      exact ⟨rfl, by rw [va_up_self]; exact RsF_n⟩
  · rw [if_neg q] at e1 ⊢
    rw [cls_up_lo (by omega) (by omega)] at e1
    exact PO_row h (fun y hy hy2 => by rw [va_up_ne _ _ hy2, e5 y (by omega)]) (by rw [va_up_ne _ _ (by omega), e5 p (by omega)]; exact h12) (by rw [va_up_ne _ _ (by omega), e5 p (by omega)]; exact h13) (va_up_self _ _ _) (hh.trans e1)
theorem e_pfLoad {p x a k many : Nat} {P : PG} {r g : Nat → Int} (h : CTX K I R N p x a P r g k many) (ho : P 0 k = 18) :
    PO K I R L N w p x g (fX9_perform p (K, I, R, L, N, w)) (prf P r k) (if P 0 k = 24 then 1 else 0) (r 273 = -1) := by
  obtain ⟨fA, fB, px, w1, w2, ra⟩ := CTX_px h
  have h' := h
  obtain ⟨pc, h6, h7, ins, pg, hr, hI, hb, hg, h264, h8, h9, h10, h12, h13, hx, ha, hax, ck⟩ := h'
  have lr := ln_r pg
  obtain ⟨n1, n2, n3, n4, n5⟩ := chk_none ck
  have pe := prf_eq P r k
  rw [if_neg (by omega), if_neg (by omega), if_neg (by omega), if_neg (by omega), if_neg (by omega), if_neg (by omega), if_neg (by omega), if_neg (by omega), if_neg (by omega), if_neg (by omega), if_neg (by omega), if_neg (by omega), if_neg (by omega), if_neg (by omega), if_pos ho] at pe
  rw [pe, if_neg (show ¬ P 0 k = 24 by omega)]
  obtain ⟨ka, ra', i1, i2, i3, i4, i5, i6, i7, i8, i9, i10⟩ := ins
  obtain ⟨w1', -⟩ := wd_o pg.1.1 pg.1.2
  have hcel : ∀ t : Nat, t < 276 → t ≠ 267 → fX10_cell x (jI (t : Int)) (K, I, R, L, N, w) = some (jI (r t)) := fun t q1 q2 => by
    rw [e_cell hr (by omega) (by omega), hI, jF_at, cls_lo (by omega) (by omega)]; rfl
  have hput : ∀ (t : Nat) (v : Int), t < 276 → t ≠ 267 → fX10_put x (jI (t : Int)) (jI v) (K, I, R, L, N, w) = some (K, va_up I (x + 1) (jF (cls (va_up r t v) g)), R, L, N, w) := fun t v q1 q2 => by
    rw [e_put hr (by omega) (by omega), hI, jF_up, show ((t : Int)).toNat = t by omega, cls_up_lo q1 q2]
  have hq := pg.2.2.2.2.2.2.2.1 (by omega) (by omega)
  rw [if_pos (by omega)] at i7
  have eq4 : (256 : Int) + P 4 k = ((256 + (P 4 k).toNat : Nat) : Int) := by omega
  have hc := hcel (256 + (P 4 k).toNat) (by omega) (by omega)
  have hp := hput (256 + (P 4 k).toNat) (adr P r k 0) (by omega) (by omega)
  have h8' : I p 8 = jI (adr P r k 0) := by rw [h8]; unfold clA; rw [if_pos (by omega)]
  have hs : smT (P 0 k) = 18 := by rw [ho]; rfl
  refine PO_row h (J := va_up I (x + 1) (jF (cls (va_up r (256 + (P 4 k).toNat) (adr P r k 0)) g))) (fun y _ hy => va_up_ne _ _ hy) (by rw [va_up_ne _ _ (by omega)]; exact h12) (by rw [va_up_ne _ _ (by omega)]; exact h13) (va_up_self _ _ _) ?_
  clear pe h px fA fB n1 n2 n3 n4 n5 lr ck pg hg hb hcel hput
  unfold fX9_perform fX9_performPlain
  ((repeat (first | (with_reducible apply q_gd; · (first | assumption | omega)) | (with_reducible apply q_ob; · (first | with_reducible rfl | ((simp (disch := omega) only [jI_lit, jI_neg, jI_add, jI_sub, jI_mul, o_gI, o_gR, o_pI, o_pZ0, o_pZ1, o_pZb, o_pR, o_aI, o_qI, o_aN, tn, va_up_self, va_up_ne, upup, jI_shr1, jI_shr4, jI_shr0, jI_and1, jI_and15, jI_join, jI_240, jI_hi, jF_at, jF_up, jI_max, jI_min, b2_t, b2_f, Bool.not_true, Bool.not_false, eq_self, true_or, or_true, h7, i3, i6, i7, ra, w1, w2, hs, h6, eq4, hc, h8', hp]) <;> with_reducible rfl))) | (with_reducible apply q_ob2; · (first | with_reducible rfl | ((simp (disch := omega) only [jI_lit, jI_neg, jI_add, jI_sub, jI_mul, o_gI, o_gR, o_pI, o_pZ0, o_pZ1, o_pZb, o_pR, o_aI, o_qI, o_aN, tn, va_up_self, va_up_ne, upup, jI_shr1, jI_shr4, jI_shr0, jI_and1, jI_and15, jI_join, jI_240, jI_hi, jF_at, jF_up, jI_max, jI_min, b2_t, b2_f, Bool.not_true, Bool.not_false, eq_self, true_or, or_true, h7, i3, i6, i7, ra, w1, w2, hs, h6, eq4, hc, h8', hp]) <;> with_reducible rfl))) | (with_reducible apply q_lt; · (first | with_reducible rfl | ((simp (disch := omega) only [jI_lit, jI_neg, jI_add, jI_sub, jI_mul, o_gI, o_gR, o_pI, o_pZ0, o_pZ1, o_pZb, o_pR, o_aI, o_qI, o_aN, tn, va_up_self, va_up_ne, upup, jI_shr1, jI_shr4, jI_shr0, jI_and1, jI_and15, jI_join, jI_240, jI_hi, jF_at, jF_up, jI_max, jI_min, b2_t, b2_f, Bool.not_true, Bool.not_false, eq_self, true_or, or_true, h7, i3, i6, i7, ra, w1, w2, hs, h6, eq4, hc, h8', hp]) <;> with_reducible rfl))) | (with_reducible apply q_ifp; · ((simp (disch := omega) only [jI_lit, jI_neg, jI_add, jI_sub, jI_mul, jI_lt, jI_le, jI_eq, va_up_self, va_up_ne, jI_shr1, jI_shr4, jI_shr0, jI_and1, jI_and15, jF_at, tn, b2_t, b2_f, cmp_ge, cmp_gt, cmp_le, cmp_lt, cmp_eq, jL_lit, jL_lt, jL_le, jL_eq, h7, i3, i6, i7, ra, w1, w2, hs, h6, eq4, hc, h8', hp]) <;> omega)) | (with_reducible apply q_ifn; · ((simp (disch := omega) only [jI_lit, jI_neg, jI_add, jI_sub, jI_mul, jI_lt, jI_le, jI_eq, va_up_self, va_up_ne, jI_shr1, jI_shr4, jI_shr0, jI_and1, jI_and15, jF_at, tn, b2_t, b2_f, cmp_ge, cmp_gt, cmp_le, cmp_lt, cmp_eq, jL_lit, jL_lt, jL_le, jL_eq, h7, i3, i6, i7, ra, w1, w2, hs, h6, eq4, hc, h8', hp]) <;> omega)) | (with_reducible apply q_obk; · (first | with_reducible rfl | ((simp (disch := omega) only [jI_lit, jI_neg, jI_add, jI_sub, jI_mul, o_gI, o_gR, o_pI, o_pZ0, o_pZ1, o_pZb, o_pR, o_aI, o_qI, o_aN, tn, va_up_self, va_up_ne, upup, jI_shr1, jI_shr4, jI_shr0, jI_and1, jI_and15, jI_join, jI_240, jI_hi, jF_at, jF_up, jI_max, jI_min, b2_t, b2_f, Bool.not_true, Bool.not_false, eq_self, true_or, or_true, h7, i3, i6, i7, ra, w1, w2, hs, h6, eq4, hc, h8', hp]) <;> with_reducible rfl))) | (with_reducible apply q_nz; · ((simp (disch := omega) only [jI_lit, jI_neg, jI_add, jI_sub, jI_mul, jI_lt, jI_le, jI_eq, va_up_self, va_up_ne, jI_shr1, jI_shr4, jI_shr0, jI_and1, jI_and15, jF_at, tn, b2_t, b2_f, cmp_ge, cmp_gt, cmp_le, cmp_lt, cmp_eq, jL_lit, jL_lt, jL_le, jL_eq, h7, i3, i6, i7, ra, w1, w2, hs, h6, eq4, hc, h8', hp]) <;> omega)) | (with_reducible apply q_rz; · (first | exact b2_01 _ | decide)))) <;> (first | with_reducible rfl | ((simp (disch := omega) only [jI_lit, jI_neg, jI_add, jI_sub, jI_mul, o_gI, o_gR, o_pI, o_pZ0, o_pZ1, o_pZb, o_pR, o_aI, o_qI, o_aN, tn, va_up_self, va_up_ne, upup, jI_shr1, jI_shr4, jI_shr0, jI_and1, jI_and15, jI_join, jI_240, jI_hi, jF_at, jF_up, jI_max, jI_min, b2_t, b2_f, Bool.not_true, Bool.not_false, eq_self, true_or, or_true, h7, i3, i6, i7, ra, w1, w2, hs, h6, eq4, hc, h8', hp]) <;> with_reducible rfl) | rfl))
theorem e_pfPlus {p x a k many : Nat} {P : PG} {r g : Nat → Int} (h : CTX K I R N p x a P r g k many) (ho : P 0 k = 19) :
    PO K I R L N w p x g (fX9_perform p (K, I, R, L, N, w)) (prf P r k) (if P 0 k = 24 then 1 else 0) (r 273 = -1) := by
  obtain ⟨fA, fB, px, w1, w2, ra⟩ := CTX_px h
  have h' := h
  obtain ⟨pc, h6, h7, ins, pg, hr, hI, hb, hg, h264, h8, h9, h10, h12, h13, hx, ha, hax, ck⟩ := h'
  have lr := ln_r pg
  obtain ⟨n1, n2, n3, n4, n5⟩ := chk_none ck
  have pe := prf_eq P r k
  rw [if_neg (by omega), if_neg (by omega), if_neg (by omega), if_neg (by omega), if_neg (by omega), if_neg (by omega), if_neg (by omega), if_neg (by omega), if_neg (by omega), if_neg (by omega), if_neg (by omega), if_neg (by omega), if_neg (by omega), if_neg (by omega), if_neg (by omega), if_pos ho] at pe
  rw [pe, if_neg (show ¬ P 0 k = 24 by omega)]
  obtain ⟨ka, ra', i1, i2, i3, i4, i5, i6, i7, i8, i9, i10⟩ := ins
  obtain ⟨w1', -⟩ := wd_o pg.1.1 pg.1.2
  have hcel : ∀ t : Nat, t < 276 → t ≠ 267 → fX10_cell x (jI (t : Int)) (K, I, R, L, N, w) = some (jI (r t)) := fun t q1 q2 => by
    rw [e_cell hr (by omega) (by omega), hI, jF_at, cls_lo (by omega) (by omega)]; rfl
  have hput : ∀ (t : Nat) (v : Int), t < 276 → t ≠ 267 → fX10_put x (jI (t : Int)) (jI v) (K, I, R, L, N, w) = some (K, va_up I (x + 1) (jF (cls (va_up r t v) g)), R, L, N, w) := fun t v q1 q2 => by
    rw [e_put hr (by omega) (by omega), hI, jF_up, show ((t : Int)).toNat = t by omega, cls_up_lo q1 q2]
  have hq := pg.2.2.2.2.2.2.2.1 (by omega) (by omega)
  rw [if_pos (by omega)] at i7
  have eq4 : (256 : Int) + P 4 k = ((256 + (P 4 k).toNat : Nat) : Int) := by omega
  have hc := hcel (256 + (P 4 k).toNat) (by omega) (by omega)
  rw [if_neg (by omega), if_pos ho] at i8
  have hbm := jI_bm (r (256 + (P 4 k).toNat) + P 5 k)
  have hp := hput (256 + (P 4 k).toNat) (bm (r (256 + (P 4 k).toNat) + P 5 k)) (by omega) (by omega)
  have hs : smT (P 0 k) = 19 := by rw [ho]; rfl
  refine PO_row h (J := va_up I (x + 1) (jF (cls (va_up r (256 + (P 4 k).toNat) (bm (r (256 + (P 4 k).toNat) + P 5 k))) g))) (fun y _ hy => va_up_ne _ _ hy) (by rw [va_up_ne _ _ (by omega)]; exact h12) (by rw [va_up_ne _ _ (by omega)]; exact h13) (va_up_self _ _ _) ?_
  clear pe h px fA fB n1 n2 n3 n4 n5 lr ck pg hg hb hcel hput
  unfold fX9_perform fX9_performPlain
  ((repeat (first | (with_reducible apply q_gd; · (first | assumption | omega)) | (with_reducible apply q_ob; · (first | with_reducible rfl | ((simp (disch := omega) only [jI_lit, jI_neg, jI_add, jI_sub, jI_mul, o_gI, o_gR, o_pI, o_pZ0, o_pZ1, o_pZb, o_pR, o_aI, o_qI, o_aN, tn, va_up_self, va_up_ne, upup, jI_shr1, jI_shr4, jI_shr0, jI_and1, jI_and15, jI_join, jI_240, jI_hi, jF_at, jF_up, jI_max, jI_min, b2_t, b2_f, Bool.not_true, Bool.not_false, eq_self, true_or, or_true, h7, i3, i6, i7, i8, ra, w1, w2, hs, h6, eq4, hc, hbm, hp]) <;> with_reducible rfl))) | (with_reducible apply q_ob2; · (first | with_reducible rfl | ((simp (disch := omega) only [jI_lit, jI_neg, jI_add, jI_sub, jI_mul, o_gI, o_gR, o_pI, o_pZ0, o_pZ1, o_pZb, o_pR, o_aI, o_qI, o_aN, tn, va_up_self, va_up_ne, upup, jI_shr1, jI_shr4, jI_shr0, jI_and1, jI_and15, jI_join, jI_240, jI_hi, jF_at, jF_up, jI_max, jI_min, b2_t, b2_f, Bool.not_true, Bool.not_false, eq_self, true_or, or_true, h7, i3, i6, i7, i8, ra, w1, w2, hs, h6, eq4, hc, hbm, hp]) <;> with_reducible rfl))) | (with_reducible apply q_lt; · (first | with_reducible rfl | ((simp (disch := omega) only [jI_lit, jI_neg, jI_add, jI_sub, jI_mul, o_gI, o_gR, o_pI, o_pZ0, o_pZ1, o_pZb, o_pR, o_aI, o_qI, o_aN, tn, va_up_self, va_up_ne, upup, jI_shr1, jI_shr4, jI_shr0, jI_and1, jI_and15, jI_join, jI_240, jI_hi, jF_at, jF_up, jI_max, jI_min, b2_t, b2_f, Bool.not_true, Bool.not_false, eq_self, true_or, or_true, h7, i3, i6, i7, i8, ra, w1, w2, hs, h6, eq4, hc, hbm, hp]) <;> with_reducible rfl))) | (with_reducible apply q_ifp; · ((simp (disch := omega) only [jI_lit, jI_neg, jI_add, jI_sub, jI_mul, jI_lt, jI_le, jI_eq, va_up_self, va_up_ne, jI_shr1, jI_shr4, jI_shr0, jI_and1, jI_and15, jF_at, tn, b2_t, b2_f, cmp_ge, cmp_gt, cmp_le, cmp_lt, cmp_eq, jL_lit, jL_lt, jL_le, jL_eq, h7, i3, i6, i7, i8, ra, w1, w2, hs, h6, eq4, hc, hbm, hp]) <;> omega)) | (with_reducible apply q_ifn; · ((simp (disch := omega) only [jI_lit, jI_neg, jI_add, jI_sub, jI_mul, jI_lt, jI_le, jI_eq, va_up_self, va_up_ne, jI_shr1, jI_shr4, jI_shr0, jI_and1, jI_and15, jF_at, tn, b2_t, b2_f, cmp_ge, cmp_gt, cmp_le, cmp_lt, cmp_eq, jL_lit, jL_lt, jL_le, jL_eq, h7, i3, i6, i7, i8, ra, w1, w2, hs, h6, eq4, hc, hbm, hp]) <;> omega)) | (with_reducible apply q_obk; · (first | with_reducible rfl | ((simp (disch := omega) only [jI_lit, jI_neg, jI_add, jI_sub, jI_mul, o_gI, o_gR, o_pI, o_pZ0, o_pZ1, o_pZb, o_pR, o_aI, o_qI, o_aN, tn, va_up_self, va_up_ne, upup, jI_shr1, jI_shr4, jI_shr0, jI_and1, jI_and15, jI_join, jI_240, jI_hi, jF_at, jF_up, jI_max, jI_min, b2_t, b2_f, Bool.not_true, Bool.not_false, eq_self, true_or, or_true, h7, i3, i6, i7, i8, ra, w1, w2, hs, h6, eq4, hc, hbm, hp]) <;> with_reducible rfl))) | (with_reducible apply q_nz; · ((simp (disch := omega) only [jI_lit, jI_neg, jI_add, jI_sub, jI_mul, jI_lt, jI_le, jI_eq, va_up_self, va_up_ne, jI_shr1, jI_shr4, jI_shr0, jI_and1, jI_and15, jF_at, tn, b2_t, b2_f, cmp_ge, cmp_gt, cmp_le, cmp_lt, cmp_eq, jL_lit, jL_lt, jL_le, jL_eq, h7, i3, i6, i7, i8, ra, w1, w2, hs, h6, eq4, hc, hbm, hp]) <;> omega)) | (with_reducible apply q_rz; · (first | exact b2_01 _ | decide)))) <;> (first | with_reducible rfl | ((simp (disch := omega) only [jI_lit, jI_neg, jI_add, jI_sub, jI_mul, o_gI, o_gR, o_pI, o_pZ0, o_pZ1, o_pZb, o_pR, o_aI, o_qI, o_aN, tn, va_up_self, va_up_ne, upup, jI_shr1, jI_shr4, jI_shr0, jI_and1, jI_and15, jI_join, jI_240, jI_hi, jF_at, jF_up, jI_max, jI_min, b2_t, b2_f, Bool.not_true, Bool.not_false, eq_self, true_or, or_true, h7, i3, i6, i7, i8, ra, w1, w2, hs, h6, eq4, hc, hbm, hp]) <;> with_reducible rfl) | rfl))
theorem e_pfCount {p x a k many : Nat} {P : PG} {r g : Nat → Int} (h : CTX K I R N p x a P r g k many) (ho : P 0 k = 20) :
    PO K I R L N w p x g (fX9_perform p (K, I, R, L, N, w)) (prf P r k) (if P 0 k = 24 then 1 else 0) (r 273 = -1) := by
  obtain ⟨fA, fB, px, w1, w2, ra⟩ := CTX_px h
  have h' := h
  obtain ⟨pc, h6, h7, ins, pg, hr, hI, hb, hg, h264, h8, h9, h10, h12, h13, hx, ha, hax, ck⟩ := h'
  have lr := ln_r pg
  obtain ⟨n1, n2, n3, n4, n5⟩ := chk_none ck
  have pe := prf_eq P r k
  rw [if_neg (by omega), if_neg (by omega), if_neg (by omega), if_neg (by omega), if_neg (by omega), if_neg (by omega), if_neg (by omega), if_neg (by omega), if_neg (by omega), if_neg (by omega), if_neg (by omega), if_neg (by omega), if_neg (by omega), if_neg (by omega), if_neg (by omega), if_neg (by omega), if_pos ho] at pe
  rw [pe, if_neg (show ¬ P 0 k = 24 by omega)]
  obtain ⟨ka, ra', i1, i2, i3, i4, i5, i6, i7, i8, i9, i10⟩ := ins
  obtain ⟨w1', -⟩ := wd_o pg.1.1 pg.1.2
  have hcel : ∀ t : Nat, t < 276 → t ≠ 267 → fX10_cell x (jI (t : Int)) (K, I, R, L, N, w) = some (jI (r t)) := fun t q1 q2 => by
    rw [e_cell hr (by omega) (by omega), hI, jF_at, cls_lo (by omega) (by omega)]; rfl
  have hput : ∀ (t : Nat) (v : Int), t < 276 → t ≠ 267 → fX10_put x (jI (t : Int)) (jI v) (K, I, R, L, N, w) = some (K, va_up I (x + 1) (jF (cls (va_up r t v) g)), R, L, N, w) := fun t v q1 q2 => by
    rw [e_put hr (by omega) (by omega), hI, jF_up, show ((t : Int)).toNat = t by omega, cls_up_lo q1 q2]
  have hq := pg.2.2.2.2.2.2.2.1 (by omega) (by omega)
  rw [if_pos (by omega)] at i7
  have eq4 : (256 : Int) + P 4 k = ((256 + (P 4 k).toNat : Nat) : Int) := by omega
  have hc := hcel (256 + (P 4 k).toNat) (by omega) (by omega)
  have hbm := jI_bm (r (256 + (P 4 k).toNat) - 1)
  have hbr := bm_r (r (256 + (P 4 k).toNat) - 1)
  have hp := hput (256 + (P 4 k).toNat) (bm (r (256 + (P 4 k).toNat) - 1)) (by omega) (by omega)
  have hs : smT (P 0 k) = 21 := by rw [ho]; rfl
  obtain ⟨z, hz⟩ : ∃ z, z = bm (r (256 + (P 4 k).toNat) - 1) := ⟨_, rfl⟩
  rw [← hz] at hbm hbr hp ⊢
  have g12 : ∀ nx : Int, PO K I R L N w p x g (some (jI 0, (K, va_up (va_up I (x + 1) (jF (cls (va_up r (256 + (P 4 k).toNat) z) g))) p (va_up (I p) 12 (jI nx)), R, L, N, w))) (va_up r (256 + (P 4 k).toNat) z, none, nx) 0 (r 273 = -1) := fun nx =>
    PO_row h (fun y hy hy2 => by rw [va_up_ne _ _ (by omega), va_up_ne _ _ hy2]) (by rw [va_up_self, va_up_self]) (by rw [va_up_self, va_up_ne _ _ (by omega)]; exact h13) (by rw [va_up_ne _ _ (by omega), va_up_self]) rfl
  have hIp : va_up I (x + 1) (jF (cls (va_up r (256 + (P 4 k).toNat) z) g)) p = I p := va_up_ne _ _ (by omega)
  have hIa : va_up I (x + 1) (jF (cls (va_up r (256 + (P 4 k).toNat) z) g)) a = I a := va_up_ne _ _ (by omega)
  have k8 := pc.1
  clear pe h px fA fB n1 n2 n3 n4 n5 lr ck pg hg hb hcel hput
  by_cases q : z = 0
  · rw [if_pos q]
    have e : fX9_perform p (K, I, R, L, N, w) = some (jI 0, (K, va_up (va_up I (x + 1) (jF (cls (va_up r (256 + (P 4 k).toNat) z) g))) p (va_up (I p) 12 (jI ((k : Int) + 1))), R, L, N, w)) := by
      clear g12
      unfold fX9_perform fX9_performPlain fX9_performPlain_205
      ((repeat (first | (with_reducible apply q_gd; · (first | assumption | omega)) | (with_reducible apply q_ob; · (first | with_reducible rfl | ((simp (disch := omega) only [jI_lit, jI_neg, jI_add, jI_sub, jI_mul, o_gI, o_gR, o_pI, o_pZ0, o_pZ1, o_pZb, o_pR, o_aI, o_qI, o_aN, tn, va_up_self, va_up_ne, upup, jI_shr1, jI_shr4, jI_shr0, jI_and1, jI_and15, jI_join, jI_240, jI_hi, jF_at, jF_up, jI_max, jI_min, b2_t, b2_f, Bool.not_true, Bool.not_false, eq_self, true_or, or_true, h7, i3, i6, i7, ra, w1, w2, hs, h6, eq4, hc, hbm, hp, hIp, h12]) <;> with_reducible rfl))) | (with_reducible apply q_ob2; · (first | with_reducible rfl | ((simp (disch := omega) only [jI_lit, jI_neg, jI_add, jI_sub, jI_mul, o_gI, o_gR, o_pI, o_pZ0, o_pZ1, o_pZb, o_pR, o_aI, o_qI, o_aN, tn, va_up_self, va_up_ne, upup, jI_shr1, jI_shr4, jI_shr0, jI_and1, jI_and15, jI_join, jI_240, jI_hi, jF_at, jF_up, jI_max, jI_min, b2_t, b2_f, Bool.not_true, Bool.not_false, eq_self, true_or, or_true, h7, i3, i6, i7, ra, w1, w2, hs, h6, eq4, hc, hbm, hp, hIp, h12]) <;> with_reducible rfl))) | (with_reducible apply q_lt; · (first | with_reducible rfl | ((simp (disch := omega) only [jI_lit, jI_neg, jI_add, jI_sub, jI_mul, o_gI, o_gR, o_pI, o_pZ0, o_pZ1, o_pZb, o_pR, o_aI, o_qI, o_aN, tn, va_up_self, va_up_ne, upup, jI_shr1, jI_shr4, jI_shr0, jI_and1, jI_and15, jI_join, jI_240, jI_hi, jF_at, jF_up, jI_max, jI_min, b2_t, b2_f, Bool.not_true, Bool.not_false, eq_self, true_or, or_true, h7, i3, i6, i7, ra, w1, w2, hs, h6, eq4, hc, hbm, hp, hIp, h12]) <;> with_reducible rfl))) | (with_reducible apply q_ifp; · ((simp (disch := omega) only [jI_lit, jI_neg, jI_add, jI_sub, jI_mul, jI_lt, jI_le, jI_eq, va_up_self, va_up_ne, jI_shr1, jI_shr4, jI_shr0, jI_and1, jI_and15, jF_at, tn, b2_t, b2_f, cmp_ge, cmp_gt, cmp_le, cmp_lt, cmp_eq, jL_lit, jL_lt, jL_le, jL_eq, h7, i3, i6, i7, ra, w1, w2, hs, h6, eq4, hc, hbm, hp, hIp, h12]) <;> omega)) | (with_reducible apply q_ifn; · ((simp (disch := omega) only [jI_lit, jI_neg, jI_add, jI_sub, jI_mul, jI_lt, jI_le, jI_eq, va_up_self, va_up_ne, jI_shr1, jI_shr4, jI_shr0, jI_and1, jI_and15, jF_at, tn, b2_t, b2_f, cmp_ge, cmp_gt, cmp_le, cmp_lt, cmp_eq, jL_lit, jL_lt, jL_le, jL_eq, h7, i3, i6, i7, ra, w1, w2, hs, h6, eq4, hc, hbm, hp, hIp, h12]) <;> omega)) | (with_reducible apply q_obk; · (first | with_reducible rfl | ((simp (disch := omega) only [jI_lit, jI_neg, jI_add, jI_sub, jI_mul, o_gI, o_gR, o_pI, o_pZ0, o_pZ1, o_pZb, o_pR, o_aI, o_qI, o_aN, tn, va_up_self, va_up_ne, upup, jI_shr1, jI_shr4, jI_shr0, jI_and1, jI_and15, jI_join, jI_240, jI_hi, jF_at, jF_up, jI_max, jI_min, b2_t, b2_f, Bool.not_true, Bool.not_false, eq_self, true_or, or_true, h7, i3, i6, i7, ra, w1, w2, hs, h6, eq4, hc, hbm, hp, hIp, h12]) <;> with_reducible rfl))) | (with_reducible apply q_nz; · ((simp (disch := omega) only [jI_lit, jI_neg, jI_add, jI_sub, jI_mul, jI_lt, jI_le, jI_eq, va_up_self, va_up_ne, jI_shr1, jI_shr4, jI_shr0, jI_and1, jI_and15, jF_at, tn, b2_t, b2_f, cmp_ge, cmp_gt, cmp_le, cmp_lt, cmp_eq, jL_lit, jL_lt, jL_le, jL_eq, h7, i3, i6, i7, ra, w1, w2, hs, h6, eq4, hc, hbm, hp, hIp, h12]) <;> omega)) | (with_reducible apply q_rz; · (first | exact b2_01 _ | decide)))) <;> (first | with_reducible rfl | ((simp (disch := omega) only [jI_lit, jI_neg, jI_add, jI_sub, jI_mul, o_gI, o_gR, o_pI, o_pZ0, o_pZ1, o_pZb, o_pR, o_aI, o_qI, o_aN, tn, va_up_self, va_up_ne, upup, jI_shr1, jI_shr4, jI_shr0, jI_and1, jI_and15, jI_join, jI_240, jI_hi, jF_at, jF_up, jI_max, jI_min, b2_t, b2_f, Bool.not_true, Bool.not_false, eq_self, true_or, or_true, h7, i3, i6, i7, ra, w1, w2, hs, h6, eq4, hc, hbm, hp, hIp, h12]) <;> with_reducible rfl) | rfl))
    rw [e]; exact g12 _
  · rw [if_neg q]
    have e : fX9_perform p (K, I, R, L, N, w) = some (jI 0, (K, va_up (va_up I (x + 1) (jF (cls (va_up r (256 + (P 4 k).toNat) z) g))) p (va_up (I p) 12 (jI (P 6 k))), R, L, N, w)) := by
      clear g12
      unfold fX9_perform fX9_performPlain fX9_performPlain_205
      ((repeat (first | (with_reducible apply q_gd; · (first | assumption | omega)) | (with_reducible apply q_ob; · (first | with_reducible rfl | ((simp (disch := omega) only [jI_lit, jI_neg, jI_add, jI_sub, jI_mul, o_gI, o_gR, o_pI, o_pZ0, o_pZ1, o_pZb, o_pR, o_aI, o_qI, o_aN, tn, va_up_self, va_up_ne, upup, jI_shr1, jI_shr4, jI_shr0, jI_and1, jI_and15, jI_join, jI_240, jI_hi, jF_at, jF_up, jI_max, jI_min, b2_t, b2_f, Bool.not_true, Bool.not_false, eq_self, true_or, or_true, h7, i3, i6, i7, i10, ra, w1, w2, hs, h6, eq4, hc, hbm, hp, hIp, hIa]) <;> with_reducible rfl))) | (with_reducible apply q_ob2; · (first | with_reducible rfl | ((simp (disch := omega) only [jI_lit, jI_neg, jI_add, jI_sub, jI_mul, o_gI, o_gR, o_pI, o_pZ0, o_pZ1, o_pZb, o_pR, o_aI, o_qI, o_aN, tn, va_up_self, va_up_ne, upup, jI_shr1, jI_shr4, jI_shr0, jI_and1, jI_and15, jI_join, jI_240, jI_hi, jF_at, jF_up, jI_max, jI_min, b2_t, b2_f, Bool.not_true, Bool.not_false, eq_self, true_or, or_true, h7, i3, i6, i7, i10, ra, w1, w2, hs, h6, eq4, hc, hbm, hp, hIp, hIa]) <;> with_reducible rfl))) | (with_reducible apply q_lt; · (first | with_reducible rfl | ((simp (disch := omega) only [jI_lit, jI_neg, jI_add, jI_sub, jI_mul, o_gI, o_gR, o_pI, o_pZ0, o_pZ1, o_pZb, o_pR, o_aI, o_qI, o_aN, tn, va_up_self, va_up_ne, upup, jI_shr1, jI_shr4, jI_shr0, jI_and1, jI_and15, jI_join, jI_240, jI_hi, jF_at, jF_up, jI_max, jI_min, b2_t, b2_f, Bool.not_true, Bool.not_false, eq_self, true_or, or_true, h7, i3, i6, i7, i10, ra, w1, w2, hs, h6, eq4, hc, hbm, hp, hIp, hIa]) <;> with_reducible rfl))) | (with_reducible apply q_ifp; · ((simp (disch := omega) only [jI_lit, jI_neg, jI_add, jI_sub, jI_mul, jI_lt, jI_le, jI_eq, va_up_self, va_up_ne, jI_shr1, jI_shr4, jI_shr0, jI_and1, jI_and15, jF_at, tn, b2_t, b2_f, cmp_ge, cmp_gt, cmp_le, cmp_lt, cmp_eq, jL_lit, jL_lt, jL_le, jL_eq, h7, i3, i6, i7, i10, ra, w1, w2, hs, h6, eq4, hc, hbm, hp, hIp, hIa]) <;> omega)) | (with_reducible apply q_ifn; · ((simp (disch := omega) only [jI_lit, jI_neg, jI_add, jI_sub, jI_mul, jI_lt, jI_le, jI_eq, va_up_self, va_up_ne, jI_shr1, jI_shr4, jI_shr0, jI_and1, jI_and15, jF_at, tn, b2_t, b2_f, cmp_ge, cmp_gt, cmp_le, cmp_lt, cmp_eq, jL_lit, jL_lt, jL_le, jL_eq, h7, i3, i6, i7, i10, ra, w1, w2, hs, h6, eq4, hc, hbm, hp, hIp, hIa]) <;> omega)) | (with_reducible apply q_obk; · (first | with_reducible rfl | ((simp (disch := omega) only [jI_lit, jI_neg, jI_add, jI_sub, jI_mul, o_gI, o_gR, o_pI, o_pZ0, o_pZ1, o_pZb, o_pR, o_aI, o_qI, o_aN, tn, va_up_self, va_up_ne, upup, jI_shr1, jI_shr4, jI_shr0, jI_and1, jI_and15, jI_join, jI_240, jI_hi, jF_at, jF_up, jI_max, jI_min, b2_t, b2_f, Bool.not_true, Bool.not_false, eq_self, true_or, or_true, h7, i3, i6, i7, i10, ra, w1, w2, hs, h6, eq4, hc, hbm, hp, hIp, hIa]) <;> with_reducible rfl))) | (with_reducible apply q_nz; · ((simp (disch := omega) only [jI_lit, jI_neg, jI_add, jI_sub, jI_mul, jI_lt, jI_le, jI_eq, va_up_self, va_up_ne, jI_shr1, jI_shr4, jI_shr0, jI_and1, jI_and15, jF_at, tn, b2_t, b2_f, cmp_ge, cmp_gt, cmp_le, cmp_lt, cmp_eq, jL_lit, jL_lt, jL_le, jL_eq, h7, i3, i6, i7, i10, ra, w1, w2, hs, h6, eq4, hc, hbm, hp, hIp, hIa]) <;> omega)) | (with_reducible apply q_rz; · (first | exact b2_01 _ | decide)))) <;> (first | with_reducible rfl | ((simp (disch := omega) only [jI_lit, jI_neg, jI_add, jI_sub, jI_mul, o_gI, o_gR, o_pI, o_pZ0, o_pZ1, o_pZb, o_pR, o_aI, o_qI, o_aN, tn, va_up_self, va_up_ne, upup, jI_shr1, jI_shr4, jI_shr0, jI_and1, jI_and15, jI_join, jI_240, jI_hi, jF_at, jF_up, jI_max, jI_min, b2_t, b2_f, Bool.not_true, Bool.not_false, eq_self, true_or, or_true, h7, i3, i6, i7, i10, ra, w1, w2, hs, h6, eq4, hc, hbm, hp, hIp, hIa]) <;> with_reducible rfl) | rfl))
    rw [e]; exact g12 _
theorem e_pfOn {p x a k many : Nat} {P : PG} {r g : Nat → Int} (h : CTX K I R N p x a P r g k many) (ho : P 0 k = 21) :
    PO K I R L N w p x g (fX9_perform p (K, I, R, L, N, w)) (prf P r k) (if P 0 k = 24 then 1 else 0) (r 273 = -1) := by
  obtain ⟨fA, fB, px, w1, w2, ra⟩ := CTX_px h
  have h' := h
  obtain ⟨pc, h6, h7, ins, pg, hr, hI, hb, hg, h264, h8, h9, h10, h12, h13, hx, ha, hax, ck⟩ := h'
  have lr := ln_r pg
  obtain ⟨n1, n2, n3, n4, n5⟩ := chk_none ck
  have pe := prf_eq P r k
  rw [if_neg (by omega), if_neg (by omega), if_neg (by omega), if_neg (by omega), if_neg (by omega), if_neg (by omega), if_neg (by omega), if_neg (by omega), if_neg (by omega), if_neg (by omega), if_neg (by omega), if_neg (by omega), if_neg (by omega), if_neg (by omega), if_neg (by omega), if_neg (by omega), if_neg (by omega), if_pos ho] at pe
  rw [pe, if_neg (show ¬ P 0 k = 24 by omega)]
  obtain ⟨ka, ra', i1, i2, i3, i4, i5, i6, i7, i8, i9, i10⟩ := ins
  obtain ⟨w1', -⟩ := wd_o pg.1.1 pg.1.2
  have hcel : ∀ t : Nat, t < 276 → t ≠ 267 → fX10_cell x (jI (t : Int)) (K, I, R, L, N, w) = some (jI (r t)) := fun t q1 q2 => by
    rw [e_cell hr (by omega) (by omega), hI, jF_at, cls_lo (by omega) (by omega)]; rfl
  have hput : ∀ (t : Nat) (v : Int), t < 276 → t ≠ 267 → fX10_put x (jI (t : Int)) (jI v) (K, I, R, L, N, w) = some (K, va_up I (x + 1) (jF (cls (va_up r t v) g)), R, L, N, w) := fun t v q1 q2 => by
    rw [e_put hr (by omega) (by omega), hI, jF_up, show ((t : Int)).toNat = t by omega, cls_up_lo q1 q2]
  have i7' : I a 7 = jI 0 := by rw [i7, if_neg (by omega)]
  have hc := hcel 256 (by omega) (by omega)
  have eq4 : (256 : Int) + 0 = ((256 : Nat) : Int) := by omega
  have hq := pg.2.2.2.2.2.2.2.2.2.1 ho
  rw [if_neg (by omega), if_neg (by omega), if_pos (Or.inl ho)] at i8
  have hcc := hcel 264 (by omega) (by omega)
  have hon := jI_on hq.1 hq.2 h264.1 h264.2
  have hs : smT (P 0 k) = 22 := by rw [ho]; rfl
  have g12 : ∀ nx : Int, PO K I R L N w p x g (some (jI 0, (K, va_up I p (va_up (I p) 12 (jI nx)), R, L, N, w))) (r, none, nx) 0 (r 273 = -1) := fun nx =>
    PO_row h (fun y hy hy2 => va_up_ne _ _ (by omega)) (by rw [va_up_self, va_up_self]) (by rw [va_up_self, va_up_ne _ _ (by omega)]; exact h13) (by rw [va_up_ne _ _ (by omega)]; exact hI) rfl
  have k8 := pc.1
  have e264 : ((264 : Nat) : Int) = 264 := rfl
  rw [e264] at hcc
  have hpw : 0 < 2 ^ (3 - (r 264).toNat) ∧ 2 ^ (3 - (r 264).toNat) ≤ 8 := ⟨Nat.pow_pos (by omega), Nat.le_trans (Nat.pow_le_pow_right (by omega) (show 3 - (r 264).toNat ≤ 3 by omega)) (by omega)⟩
  clear pe h px fA fB n1 n2 n3 n4 n5 lr ck pg hg hb hcel hput
  by_cases q : (P 4 k).toNat / 2 ^ (3 - (r 264).toNat) % 2 = 1
  · rw [if_pos q] at hon ⊢
    obtain ⟨y, hy⟩ : ∃ y : Nat, y = 2 ^ (3 - (r 264).toNat) := ⟨_, rfl⟩
    have hon' : jI (P 4 k) &&& (jI 8 >>> (jI (r 264) &&& jI 31)) = jI (y : Int) := by rw [hon, hy]; simp
    rw [← hy] at hpw
    clear hon q
    have e : fX9_perform p (K, I, R, L, N, w) = some (jI 0, (K, va_up I p (va_up (I p) 12 (jI (P 6 k))), R, L, N, w)) := by
      clear g12
      unfold fX9_perform fX9_performPlain fX9_performPlain_250
      ((repeat (first | (with_reducible apply q_gd; · (first | assumption | omega)) | (with_reducible apply q_ob; · (first | with_reducible rfl | ((simp (disch := omega) only [jI_lit, jI_neg, jI_add, jI_sub, jI_mul, o_gI, o_gR, o_pI, o_pZ0, o_pZ1, o_pZb, o_pR, o_aI, o_qI, o_aN, tn, va_up_self, va_up_ne, upup, jI_shr1, jI_shr4, jI_shr0, jI_and1, jI_and15, jI_join, jI_240, jI_hi, jF_at, jF_up, jI_max, jI_min, b2_t, b2_f, Bool.not_true, Bool.not_false, eq_self, true_or, or_true, h7, i3, i6, i7', i8, i10, ra, w1, w2, hs, h6, eq4, hc, hcc, hon']) <;> with_reducible rfl))) | (with_reducible apply q_ob2; · (first | with_reducible rfl | ((simp (disch := omega) only [jI_lit, jI_neg, jI_add, jI_sub, jI_mul, o_gI, o_gR, o_pI, o_pZ0, o_pZ1, o_pZb, o_pR, o_aI, o_qI, o_aN, tn, va_up_self, va_up_ne, upup, jI_shr1, jI_shr4, jI_shr0, jI_and1, jI_and15, jI_join, jI_240, jI_hi, jF_at, jF_up, jI_max, jI_min, b2_t, b2_f, Bool.not_true, Bool.not_false, eq_self, true_or, or_true, h7, i3, i6, i7', i8, i10, ra, w1, w2, hs, h6, eq4, hc, hcc, hon']) <;> with_reducible rfl))) | (with_reducible apply q_lt; · (first | with_reducible rfl | ((simp (disch := omega) only [jI_lit, jI_neg, jI_add, jI_sub, jI_mul, o_gI, o_gR, o_pI, o_pZ0, o_pZ1, o_pZb, o_pR, o_aI, o_qI, o_aN, tn, va_up_self, va_up_ne, upup, jI_shr1, jI_shr4, jI_shr0, jI_and1, jI_and15, jI_join, jI_240, jI_hi, jF_at, jF_up, jI_max, jI_min, b2_t, b2_f, Bool.not_true, Bool.not_false, eq_self, true_or, or_true, h7, i3, i6, i7', i8, i10, ra, w1, w2, hs, h6, eq4, hc, hcc, hon']) <;> with_reducible rfl))) | (with_reducible apply q_ifp; · ((simp (disch := omega) only [jI_lit, jI_neg, jI_add, jI_sub, jI_mul, jI_lt, jI_le, jI_eq, va_up_self, va_up_ne, jI_shr1, jI_shr4, jI_shr0, jI_and1, jI_and15, jF_at, tn, b2_t, b2_f, cmp_ge, cmp_gt, cmp_le, cmp_lt, cmp_eq, jL_lit, jL_lt, jL_le, jL_eq, h7, i3, i6, i7', i8, i10, ra, w1, w2, hs, h6, eq4, hc, hcc, hon']) <;> omega)) | (with_reducible apply q_ifn; · ((simp (disch := omega) only [jI_lit, jI_neg, jI_add, jI_sub, jI_mul, jI_lt, jI_le, jI_eq, va_up_self, va_up_ne, jI_shr1, jI_shr4, jI_shr0, jI_and1, jI_and15, jF_at, tn, b2_t, b2_f, cmp_ge, cmp_gt, cmp_le, cmp_lt, cmp_eq, jL_lit, jL_lt, jL_le, jL_eq, h7, i3, i6, i7', i8, i10, ra, w1, w2, hs, h6, eq4, hc, hcc, hon']) <;> omega)) | (with_reducible apply q_obk; · (first | with_reducible rfl | ((simp (disch := omega) only [jI_lit, jI_neg, jI_add, jI_sub, jI_mul, o_gI, o_gR, o_pI, o_pZ0, o_pZ1, o_pZb, o_pR, o_aI, o_qI, o_aN, tn, va_up_self, va_up_ne, upup, jI_shr1, jI_shr4, jI_shr0, jI_and1, jI_and15, jI_join, jI_240, jI_hi, jF_at, jF_up, jI_max, jI_min, b2_t, b2_f, Bool.not_true, Bool.not_false, eq_self, true_or, or_true, h7, i3, i6, i7', i8, i10, ra, w1, w2, hs, h6, eq4, hc, hcc, hon']) <;> with_reducible rfl))) | (with_reducible apply q_nz; · ((simp (disch := omega) only [jI_lit, jI_neg, jI_add, jI_sub, jI_mul, jI_lt, jI_le, jI_eq, va_up_self, va_up_ne, jI_shr1, jI_shr4, jI_shr0, jI_and1, jI_and15, jF_at, tn, b2_t, b2_f, cmp_ge, cmp_gt, cmp_le, cmp_lt, cmp_eq, jL_lit, jL_lt, jL_le, jL_eq, h7, i3, i6, i7', i8, i10, ra, w1, w2, hs, h6, eq4, hc, hcc, hon']) <;> omega)) | (with_reducible apply q_rz; · (first | exact b2_01 _ | decide)))) <;> (first | with_reducible rfl | ((simp (disch := omega) only [jI_lit, jI_neg, jI_add, jI_sub, jI_mul, o_gI, o_gR, o_pI, o_pZ0, o_pZ1, o_pZb, o_pR, o_aI, o_qI, o_aN, tn, va_up_self, va_up_ne, upup, jI_shr1, jI_shr4, jI_shr0, jI_and1, jI_and15, jI_join, jI_240, jI_hi, jF_at, jF_up, jI_max, jI_min, b2_t, b2_f, Bool.not_true, Bool.not_false, eq_self, true_or, or_true, h7, i3, i6, i7', i8, i10, ra, w1, w2, hs, h6, eq4, hc, hcc, hon']) <;> with_reducible rfl) | rfl))
    rw [e]; exact g12 _
  · rw [if_neg q] at hon ⊢
    have hon' : jI (P 4 k) &&& (jI 8 >>> (jI (r 264) &&& jI 31)) = jI 0 := hon
    clear hon q hpw
    have e : fX9_perform p (K, I, R, L, N, w) = some (jI 0, (K, va_up I p (va_up (I p) 12 (jI ((k : Int) + 1))), R, L, N, w)) := by
      clear g12
      unfold fX9_perform fX9_performPlain fX9_performPlain_250
      ((repeat (first | (with_reducible apply q_gd; · (first | assumption | omega)) | (with_reducible apply q_ob; · (first | with_reducible rfl | ((simp (disch := omega) only [jI_lit, jI_neg, jI_add, jI_sub, jI_mul, o_gI, o_gR, o_pI, o_pZ0, o_pZ1, o_pZb, o_pR, o_aI, o_qI, o_aN, tn, va_up_self, va_up_ne, upup, jI_shr1, jI_shr4, jI_shr0, jI_and1, jI_and15, jI_join, jI_240, jI_hi, jF_at, jF_up, jI_max, jI_min, b2_t, b2_f, Bool.not_true, Bool.not_false, eq_self, true_or, or_true, h7, i3, i6, i7', i8, i10, ra, w1, w2, hs, h6, eq4, hc, hcc, hon', h12]) <;> with_reducible rfl))) | (with_reducible apply q_ob2; · (first | with_reducible rfl | ((simp (disch := omega) only [jI_lit, jI_neg, jI_add, jI_sub, jI_mul, o_gI, o_gR, o_pI, o_pZ0, o_pZ1, o_pZb, o_pR, o_aI, o_qI, o_aN, tn, va_up_self, va_up_ne, upup, jI_shr1, jI_shr4, jI_shr0, jI_and1, jI_and15, jI_join, jI_240, jI_hi, jF_at, jF_up, jI_max, jI_min, b2_t, b2_f, Bool.not_true, Bool.not_false, eq_self, true_or, or_true, h7, i3, i6, i7', i8, i10, ra, w1, w2, hs, h6, eq4, hc, hcc, hon', h12]) <;> with_reducible rfl))) | (with_reducible apply q_lt; · (first | with_reducible rfl | ((simp (disch := omega) only [jI_lit, jI_neg, jI_add, jI_sub, jI_mul, o_gI, o_gR, o_pI, o_pZ0, o_pZ1, o_pZb, o_pR, o_aI, o_qI, o_aN, tn, va_up_self, va_up_ne, upup, jI_shr1, jI_shr4, jI_shr0, jI_and1, jI_and15, jI_join, jI_240, jI_hi, jF_at, jF_up, jI_max, jI_min, b2_t, b2_f, Bool.not_true, Bool.not_false, eq_self, true_or, or_true, h7, i3, i6, i7', i8, i10, ra, w1, w2, hs, h6, eq4, hc, hcc, hon', h12]) <;> with_reducible rfl))) | (with_reducible apply q_ifp; · ((simp (disch := omega) only [jI_lit, jI_neg, jI_add, jI_sub, jI_mul, jI_lt, jI_le, jI_eq, va_up_self, va_up_ne, jI_shr1, jI_shr4, jI_shr0, jI_and1, jI_and15, jF_at, tn, b2_t, b2_f, cmp_ge, cmp_gt, cmp_le, cmp_lt, cmp_eq, jL_lit, jL_lt, jL_le, jL_eq, h7, i3, i6, i7', i8, i10, ra, w1, w2, hs, h6, eq4, hc, hcc, hon', h12]) <;> omega)) | (with_reducible apply q_ifn; · ((simp (disch := omega) only [jI_lit, jI_neg, jI_add, jI_sub, jI_mul, jI_lt, jI_le, jI_eq, va_up_self, va_up_ne, jI_shr1, jI_shr4, jI_shr0, jI_and1, jI_and15, jF_at, tn, b2_t, b2_f, cmp_ge, cmp_gt, cmp_le, cmp_lt, cmp_eq, jL_lit, jL_lt, jL_le, jL_eq, h7, i3, i6, i7', i8, i10, ra, w1, w2, hs, h6, eq4, hc, hcc, hon', h12]) <;> omega)) | (with_reducible apply q_obk; · (first | with_reducible rfl | ((simp (disch := omega) only [jI_lit, jI_neg, jI_add, jI_sub, jI_mul, o_gI, o_gR, o_pI, o_pZ0, o_pZ1, o_pZb, o_pR, o_aI, o_qI, o_aN, tn, va_up_self, va_up_ne, upup, jI_shr1, jI_shr4, jI_shr0, jI_and1, jI_and15, jI_join, jI_240, jI_hi, jF_at, jF_up, jI_max, jI_min, b2_t, b2_f, Bool.not_true, Bool.not_false, eq_self, true_or, or_true, h7, i3, i6, i7', i8, i10, ra, w1, w2, hs, h6, eq4, hc, hcc, hon', h12]) <;> with_reducible rfl))) | (with_reducible apply q_nz; · ((simp (disch := omega) only [jI_lit, jI_neg, jI_add, jI_sub, jI_mul, jI_lt, jI_le, jI_eq, va_up_self, va_up_ne, jI_shr1, jI_shr4, jI_shr0, jI_and1, jI_and15, jF_at, tn, b2_t, b2_f, cmp_ge, cmp_gt, cmp_le, cmp_lt, cmp_eq, jL_lit, jL_lt, jL_le, jL_eq, h7, i3, i6, i7', i8, i10, ra, w1, w2, hs, h6, eq4, hc, hcc, hon', h12]) <;> omega)) | (with_reducible apply q_rz; · (first | exact b2_01 _ | decide)))) <;> (first | with_reducible rfl | ((simp (disch := omega) only [jI_lit, jI_neg, jI_add, jI_sub, jI_mul, o_gI, o_gR, o_pI, o_pZ0, o_pZ1, o_pZb, o_pR, o_aI, o_qI, o_aN, tn, va_up_self, va_up_ne, upup, jI_shr1, jI_shr4, jI_shr0, jI_and1, jI_and15, jI_join, jI_240, jI_hi, jF_at, jF_up, jI_max, jI_min, b2_t, b2_f, Bool.not_true, Bool.not_false, eq_self, true_or, or_true, h7, i3, i6, i7', i8, i10, ra, w1, w2, hs, h6, eq4, hc, hcc, hon', h12]) <;> with_reducible rfl) | rfl))
    rw [e]; exact g12 _
theorem e_pfGuard {p x a k many : Nat} {P : PG} {r g : Nat → Int} (h : CTX K I R N p x a P r g k many) (ho : P 0 k = 22) :
    PO K I R L N w p x g (fX9_perform p (K, I, R, L, N, w)) (prf P r k) (if P 0 k = 24 then 1 else 0) (r 273 = -1) := by
  obtain ⟨fA, fB, px, w1, w2, ra⟩ := CTX_px h
  have h' := h
  obtain ⟨pc, h6, h7, ins, pg, hr, hI, hb, hg, h264, h8, h9, h10, h12, h13, hx, ha, hax, ck⟩ := h'
  have lr := ln_r pg
  obtain ⟨n1, n2, n3, n4, n5⟩ := chk_none ck
  have pe := prf_eq P r k
  rw [if_neg (by omega), if_neg (by omega), if_neg (by omega), if_neg (by omega), if_neg (by omega), if_neg (by omega), if_neg (by omega), if_neg (by omega), if_neg (by omega), if_neg (by omega), if_neg (by omega), if_neg (by omega), if_neg (by omega), if_neg (by omega), if_neg (by omega), if_neg (by omega), if_neg (by omega), if_neg (by omega), if_pos ho] at pe
  rw [pe, if_neg (show ¬ P 0 k = 24 by omega)]
  obtain ⟨ka, ra', i1, i2, i3, i4, i5, i6, i7, i8, i9, i10⟩ := ins
  obtain ⟨w1', -⟩ := wd_o pg.1.1 pg.1.2
  have hcel : ∀ t : Nat, t < 276 → t ≠ 267 → fX10_cell x (jI (t : Int)) (K, I, R, L, N, w) = some (jI (r t)) := fun t q1 q2 => by
    rw [e_cell hr (by omega) (by omega), hI, jF_at, cls_lo (by omega) (by omega)]; rfl
  have hput : ∀ (t : Nat) (v : Int), t < 276 → t ≠ 267 → fX10_put x (jI (t : Int)) (jI v) (K, I, R, L, N, w) = some (K, va_up I (x + 1) (jF (cls (va_up r t v) g)), R, L, N, w) := fun t v q1 q2 => by
    rw [e_put hr (by omega) (by omega), hI, jF_up, show ((t : Int)).toNat = t by omega, cls_up_lo q1 q2]
  have i7' : I a 7 = jI 0 := by rw [i7, if_neg (by omega)]
  have hc := hcel 256 (by omega) (by omega)
  have eq4 : (256 : Int) + 0 = ((256 : Nat) : Int) := by omega
  have hq := pg.2.2.2.2.2.2.2.2.2.2.1 ho
  rw [if_neg (by omega), if_neg (by omega), if_pos (Or.inr ho)] at i8
  have eqg : (268 : Int) + P 4 k - 1 = ((267 + (P 4 k).toNat : Nat) : Int) := by omega
  have hp := hput (267 + (P 4 k).toNat) (P 6 k) (by omega) (by omega)
  have hs : smT (P 0 k) = 23 := by rw [ho]; rfl
  refine PO_row h (J := va_up I (x + 1) (jF (cls (va_up r (267 + (P 4 k).toNat) (P 6 k)) g))) (fun y _ hy => va_up_ne _ _ hy) (by rw [va_up_ne _ _ (by omega)]; exact h12) (by rw [va_up_ne _ _ (by omega)]; exact h13) (va_up_self _ _ _) ?_
  clear pe h px fA fB n1 n2 n3 n4 n5 lr ck pg hg hb hcel hput
  unfold fX9_perform fX9_performPlain
  ((repeat (first | (with_reducible apply q_gd; · (first | assumption | omega)) | (with_reducible apply q_ob; · (first | with_reducible rfl | ((simp (disch := omega) only [jI_lit, jI_neg, jI_add, jI_sub, jI_mul, o_gI, o_gR, o_pI, o_pZ0, o_pZ1, o_pZb, o_pR, o_aI, o_qI, o_aN, tn, va_up_self, va_up_ne, upup, jI_shr1, jI_shr4, jI_shr0, jI_and1, jI_and15, jI_join, jI_240, jI_hi, jF_at, jF_up, jI_max, jI_min, b2_t, b2_f, Bool.not_true, Bool.not_false, eq_self, true_or, or_true, h7, i3, i6, i7', i8, i10, ra, w1, w2, hs, h6, eq4, hc, eqg, hp]) <;> with_reducible rfl))) | (with_reducible apply q_ob2; · (first | with_reducible rfl | ((simp (disch := omega) only [jI_lit, jI_neg, jI_add, jI_sub, jI_mul, o_gI, o_gR, o_pI, o_pZ0, o_pZ1, o_pZb, o_pR, o_aI, o_qI, o_aN, tn, va_up_self, va_up_ne, upup, jI_shr1, jI_shr4, jI_shr0, jI_and1, jI_and15, jI_join, jI_240, jI_hi, jF_at, jF_up, jI_max, jI_min, b2_t, b2_f, Bool.not_true, Bool.not_false, eq_self, true_or, or_true, h7, i3, i6, i7', i8, i10, ra, w1, w2, hs, h6, eq4, hc, eqg, hp]) <;> with_reducible rfl))) | (with_reducible apply q_lt; · (first | with_reducible rfl | ((simp (disch := omega) only [jI_lit, jI_neg, jI_add, jI_sub, jI_mul, o_gI, o_gR, o_pI, o_pZ0, o_pZ1, o_pZb, o_pR, o_aI, o_qI, o_aN, tn, va_up_self, va_up_ne, upup, jI_shr1, jI_shr4, jI_shr0, jI_and1, jI_and15, jI_join, jI_240, jI_hi, jF_at, jF_up, jI_max, jI_min, b2_t, b2_f, Bool.not_true, Bool.not_false, eq_self, true_or, or_true, h7, i3, i6, i7', i8, i10, ra, w1, w2, hs, h6, eq4, hc, eqg, hp]) <;> with_reducible rfl))) | (with_reducible apply q_ifp; · ((simp (disch := omega) only [jI_lit, jI_neg, jI_add, jI_sub, jI_mul, jI_lt, jI_le, jI_eq, va_up_self, va_up_ne, jI_shr1, jI_shr4, jI_shr0, jI_and1, jI_and15, jF_at, tn, b2_t, b2_f, cmp_ge, cmp_gt, cmp_le, cmp_lt, cmp_eq, jL_lit, jL_lt, jL_le, jL_eq, h7, i3, i6, i7', i8, i10, ra, w1, w2, hs, h6, eq4, hc, eqg, hp]) <;> omega)) | (with_reducible apply q_ifn; · ((simp (disch := omega) only [jI_lit, jI_neg, jI_add, jI_sub, jI_mul, jI_lt, jI_le, jI_eq, va_up_self, va_up_ne, jI_shr1, jI_shr4, jI_shr0, jI_and1, jI_and15, jF_at, tn, b2_t, b2_f, cmp_ge, cmp_gt, cmp_le, cmp_lt, cmp_eq, jL_lit, jL_lt, jL_le, jL_eq, h7, i3, i6, i7', i8, i10, ra, w1, w2, hs, h6, eq4, hc, eqg, hp]) <;> omega)) | (with_reducible apply q_obk; · (first | with_reducible rfl | ((simp (disch := omega) only [jI_lit, jI_neg, jI_add, jI_sub, jI_mul, o_gI, o_gR, o_pI, o_pZ0, o_pZ1, o_pZb, o_pR, o_aI, o_qI, o_aN, tn, va_up_self, va_up_ne, upup, jI_shr1, jI_shr4, jI_shr0, jI_and1, jI_and15, jI_join, jI_240, jI_hi, jF_at, jF_up, jI_max, jI_min, b2_t, b2_f, Bool.not_true, Bool.not_false, eq_self, true_or, or_true, h7, i3, i6, i7', i8, i10, ra, w1, w2, hs, h6, eq4, hc, eqg, hp]) <;> with_reducible rfl))) | (with_reducible apply q_nz; · ((simp (disch := omega) only [jI_lit, jI_neg, jI_add, jI_sub, jI_mul, jI_lt, jI_le, jI_eq, va_up_self, va_up_ne, jI_shr1, jI_shr4, jI_shr0, jI_and1, jI_and15, jF_at, tn, b2_t, b2_f, cmp_ge, cmp_gt, cmp_le, cmp_lt, cmp_eq, jL_lit, jL_lt, jL_le, jL_eq, h7, i3, i6, i7', i8, i10, ra, w1, w2, hs, h6, eq4, hc, eqg, hp]) <;> omega)) | (with_reducible apply q_rz; · (first | exact b2_01 _ | decide)))) <;> (first | with_reducible rfl | ((simp (disch := omega) only [jI_lit, jI_neg, jI_add, jI_sub, jI_mul, o_gI, o_gR, o_pI, o_pZ0, o_pZ1, o_pZb, o_pR, o_aI, o_qI, o_aN, tn, va_up_self, va_up_ne, upup, jI_shr1, jI_shr4, jI_shr0, jI_and1, jI_and15, jI_join, jI_240, jI_hi, jF_at, jF_up, jI_max, jI_min, b2_t, b2_f, Bool.not_true, Bool.not_false, eq_self, true_or, or_true, h7, i3, i6, i7', i8, i10, ra, w1, w2, hs, h6, eq4, hc, eqg, hp]) <;> with_reducible rfl) | rfl))
theorem e_pfBack {p x a k many : Nat} {P : PG} {r g : Nat → Int} (h : CTX K I R N p x a P r g k many) (ho : P 0 k = 23) :
    PO K I R L N w p x g (fX9_perform p (K, I, R, L, N, w)) (prf P r k) (if P 0 k = 24 then 1 else 0) (r 273 = -1) := by
  obtain ⟨fA, fB, px, w1, w2, ra⟩ := CTX_px h
  have h' := h
  obtain ⟨pc, h6, h7, ins, pg, hr, hI, hb, hg, h264, h8, h9, h10, h12, h13, hx, ha, hax, ck⟩ := h'
  have lr := ln_r pg
  obtain ⟨n1, n2, n3, n4, n5⟩ := chk_none ck
  have pe := prf_eq P r k
  rw [if_neg (by omega), if_neg (by omega), if_neg (by omega), if_neg (by omega), if_neg (by omega), if_neg (by omega), if_neg (by omega), if_neg (by omega), if_neg (by omega), if_neg (by omega), if_neg (by omega), if_neg (by omega), if_neg (by omega), if_neg (by omega), if_neg (by omega), if_neg (by omega), if_neg (by omega), if_neg (by omega), if_neg (by omega), if_pos ho] at pe
  rw [pe, if_neg (show ¬ P 0 k = 24 by omega)]
  obtain ⟨ka, ra', i1, i2, i3, i4, i5, i6, i7, i8, i9, i10⟩ := ins
  obtain ⟨w1', -⟩ := wd_o pg.1.1 pg.1.2
  have hcel : ∀ t : Nat, t < 276 → t ≠ 267 → fX10_cell x (jI (t : Int)) (K, I, R, L, N, w) = some (jI (r t)) := fun t q1 q2 => by
    rw [e_cell hr (by omega) (by omega), hI, jF_at, cls_lo (by omega) (by omega)]; rfl
  have hput : ∀ (t : Nat) (v : Int), t < 276 → t ≠ 267 → fX10_put x (jI (t : Int)) (jI v) (K, I, R, L, N, w) = some (K, va_up I (x + 1) (jF (cls (va_up r t v) g)), R, L, N, w) := fun t v q1 q2 => by
    rw [e_put hr (by omega) (by omega), hI, jF_up, show ((t : Int)).toNat = t by omega, cls_up_lo q1 q2]
  have i7' : I a 7 = jI 0 := by rw [i7, if_neg (by omega)]
  have hc := hcel 256 (by omega) (by omega)
  have eq4 : (256 : Int) + 0 = ((256 : Nat) : Int) := by omega
  have hco := hcel 266 (by omega) (by omega)
  have e266 : ((266 : Nat) : Int) = 266 := rfl
  rw [e266] at hco
  have hr66 := hg 266
  have hs : smT (P 0 k) = 24 := by rw [ho]; rfl
  have g12 : ∀ nx : Int, PO K I R L N w p x g (some (jI 0, (K, va_up I p (va_up (I p) 12 (jI nx)), R, L, N, w))) (r, none, nx) 0 (r 273 = -1) := fun nx =>
    PO_row h (fun y hy hy2 => va_up_ne _ _ (by omega)) (by rw [va_up_self, va_up_self]) (by rw [va_up_self, va_up_ne _ _ (by omega)]; exact h13) (by rw [va_up_ne _ _ (by omega)]; exact hI) rfl
  have k8 := pc.1
  clear pe h px fA fB n1 n2 n3 n4 n5 lr ck pg hg hb hcel hput
  by_cases q : r 266 = -1
  · rw [if_pos q]
    have e : fX9_perform p (K, I, R, L, N, w) = some (jI 0, (K, va_up I p (va_up (I p) 12 (jI ((k : Int) + 1))), R, L, N, w)) := by
      clear g12
      unfold fX9_perform fX9_performPlain fX9_performPlain_320
      ((repeat (first | (with_reducible apply q_gd; · (first | assumption | omega)) | (with_reducible apply q_ob; · (first | with_reducible rfl | ((simp (disch := omega) only [jI_lit, jI_neg, jI_add, jI_sub, jI_mul, o_gI, o_gR, o_pI, o_pZ0, o_pZ1, o_pZb, o_pR, o_aI, o_qI, o_aN, tn, va_up_self, va_up_ne, upup, jI_shr1, jI_shr4, jI_shr0, jI_and1, jI_and15, jI_join, jI_240, jI_hi, jF_at, jF_up, jI_max, jI_min, b2_t, b2_f, Bool.not_true, Bool.not_false, eq_self, true_or, or_true, h7, i3, i6, i7', ra, w1, w2, hs, h6, eq4, hc, hco, h12]) <;> with_reducible rfl))) | (with_reducible apply q_ob2; · (first | with_reducible rfl | ((simp (disch := omega) only [jI_lit, jI_neg, jI_add, jI_sub, jI_mul, o_gI, o_gR, o_pI, o_pZ0, o_pZ1, o_pZb, o_pR, o_aI, o_qI, o_aN, tn, va_up_self, va_up_ne, upup, jI_shr1, jI_shr4, jI_shr0, jI_and1, jI_and15, jI_join, jI_240, jI_hi, jF_at, jF_up, jI_max, jI_min, b2_t, b2_f, Bool.not_true, Bool.not_false, eq_self, true_or, or_true, h7, i3, i6, i7', ra, w1, w2, hs, h6, eq4, hc, hco, h12]) <;> with_reducible rfl))) | (with_reducible apply q_lt; · (first | with_reducible rfl | ((simp (disch := omega) only [jI_lit, jI_neg, jI_add, jI_sub, jI_mul, o_gI, o_gR, o_pI, o_pZ0, o_pZ1, o_pZb, o_pR, o_aI, o_qI, o_aN, tn, va_up_self, va_up_ne, upup, jI_shr1, jI_shr4, jI_shr0, jI_and1, jI_and15, jI_join, jI_240, jI_hi, jF_at, jF_up, jI_max, jI_min, b2_t, b2_f, Bool.not_true, Bool.not_false, eq_self, true_or, or_true, h7, i3, i6, i7', ra, w1, w2, hs, h6, eq4, hc, hco, h12]) <;> with_reducible rfl))) | (with_reducible apply q_ifp; · ((simp (disch := omega) only [jI_lit, jI_neg, jI_add, jI_sub, jI_mul, jI_lt, jI_le, jI_eq, va_up_self, va_up_ne, jI_shr1, jI_shr4, jI_shr0, jI_and1, jI_and15, jF_at, tn, b2_t, b2_f, cmp_ge, cmp_gt, cmp_le, cmp_lt, cmp_eq, jL_lit, jL_lt, jL_le, jL_eq, h7, i3, i6, i7', ra, w1, w2, hs, h6, eq4, hc, hco, h12]) <;> omega)) | (with_reducible apply q_ifn; · ((simp (disch := omega) only [jI_lit, jI_neg, jI_add, jI_sub, jI_mul, jI_lt, jI_le, jI_eq, va_up_self, va_up_ne, jI_shr1, jI_shr4, jI_shr0, jI_and1, jI_and15, jF_at, tn, b2_t, b2_f, cmp_ge, cmp_gt, cmp_le, cmp_lt, cmp_eq, jL_lit, jL_lt, jL_le, jL_eq, h7, i3, i6, i7', ra, w1, w2, hs, h6, eq4, hc, hco, h12]) <;> omega)) | (with_reducible apply q_obk; · (first | with_reducible rfl | ((simp (disch := omega) only [jI_lit, jI_neg, jI_add, jI_sub, jI_mul, o_gI, o_gR, o_pI, o_pZ0, o_pZ1, o_pZb, o_pR, o_aI, o_qI, o_aN, tn, va_up_self, va_up_ne, upup, jI_shr1, jI_shr4, jI_shr0, jI_and1, jI_and15, jI_join, jI_240, jI_hi, jF_at, jF_up, jI_max, jI_min, b2_t, b2_f, Bool.not_true, Bool.not_false, eq_self, true_or, or_true, h7, i3, i6, i7', ra, w1, w2, hs, h6, eq4, hc, hco, h12]) <;> with_reducible rfl))) | (with_reducible apply q_nz; · ((simp (disch := omega) only [jI_lit, jI_neg, jI_add, jI_sub, jI_mul, jI_lt, jI_le, jI_eq, va_up_self, va_up_ne, jI_shr1, jI_shr4, jI_shr0, jI_and1, jI_and15, jF_at, tn, b2_t, b2_f, cmp_ge, cmp_gt, cmp_le, cmp_lt, cmp_eq, jL_lit, jL_lt, jL_le, jL_eq, h7, i3, i6, i7', ra, w1, w2, hs, h6, eq4, hc, hco, h12]) <;> omega)) | (with_reducible apply q_rz; · (first | exact b2_01 _ | decide)))) <;> (first | with_reducible rfl | ((simp (disch := omega) only [jI_lit, jI_neg, jI_add, jI_sub, jI_mul, o_gI, o_gR, o_pI, o_pZ0, o_pZ1, o_pZb, o_pR, o_aI, o_qI, o_aN, tn, va_up_self, va_up_ne, upup, jI_shr1, jI_shr4, jI_shr0, jI_and1, jI_and15, jI_join, jI_240, jI_hi, jF_at, jF_up, jI_max, jI_min, b2_t, b2_f, Bool.not_true, Bool.not_false, eq_self, true_or, or_true, h7, i3, i6, i7', ra, w1, w2, hs, h6, eq4, hc, hco, h12]) <;> with_reducible rfl) | rfl))
    rw [e]; exact g12 _
  · rw [if_neg q]
    have e : fX9_perform p (K, I, R, L, N, w) = some (jI 0, (K, va_up I p (va_up (I p) 12 (jI (r 266 + 1))), R, L, N, w)) := by
      clear g12
      unfold fX9_perform fX9_performPlain fX9_performPlain_320
      ((repeat (first | (with_reducible apply q_gd; · (first | assumption | omega)) | (with_reducible apply q_ob; · (first | with_reducible rfl | ((simp (disch := omega) only [jI_lit, jI_neg, jI_add, jI_sub, jI_mul, o_gI, o_gR, o_pI, o_pZ0, o_pZ1, o_pZb, o_pR, o_aI, o_qI, o_aN, tn, va_up_self, va_up_ne, upup, jI_shr1, jI_shr4, jI_shr0, jI_and1, jI_and15, jI_join, jI_240, jI_hi, jF_at, jF_up, jI_max, jI_min, b2_t, b2_f, Bool.not_true, Bool.not_false, eq_self, true_or, or_true, h7, i3, i6, i7', ra, w1, w2, hs, h6, eq4, hc, hco, h12]) <;> with_reducible rfl))) | (with_reducible apply q_ob2; · (first | with_reducible rfl | ((simp (disch := omega) only [jI_lit, jI_neg, jI_add, jI_sub, jI_mul, o_gI, o_gR, o_pI, o_pZ0, o_pZ1, o_pZb, o_pR, o_aI, o_qI, o_aN, tn, va_up_self, va_up_ne, upup, jI_shr1, jI_shr4, jI_shr0, jI_and1, jI_and15, jI_join, jI_240, jI_hi, jF_at, jF_up, jI_max, jI_min, b2_t, b2_f, Bool.not_true, Bool.not_false, eq_self, true_or, or_true, h7, i3, i6, i7', ra, w1, w2, hs, h6, eq4, hc, hco, h12]) <;> with_reducible rfl))) | (with_reducible apply q_lt; · (first | with_reducible rfl | ((simp (disch := omega) only [jI_lit, jI_neg, jI_add, jI_sub, jI_mul, o_gI, o_gR, o_pI, o_pZ0, o_pZ1, o_pZb, o_pR, o_aI, o_qI, o_aN, tn, va_up_self, va_up_ne, upup, jI_shr1, jI_shr4, jI_shr0, jI_and1, jI_and15, jI_join, jI_240, jI_hi, jF_at, jF_up, jI_max, jI_min, b2_t, b2_f, Bool.not_true, Bool.not_false, eq_self, true_or, or_true, h7, i3, i6, i7', ra, w1, w2, hs, h6, eq4, hc, hco, h12]) <;> with_reducible rfl))) | (with_reducible apply q_ifp; · ((simp (disch := omega) only [jI_lit, jI_neg, jI_add, jI_sub, jI_mul, jI_lt, jI_le, jI_eq, va_up_self, va_up_ne, jI_shr1, jI_shr4, jI_shr0, jI_and1, jI_and15, jF_at, tn, b2_t, b2_f, cmp_ge, cmp_gt, cmp_le, cmp_lt, cmp_eq, jL_lit, jL_lt, jL_le, jL_eq, h7, i3, i6, i7', ra, w1, w2, hs, h6, eq4, hc, hco, h12]) <;> omega)) | (with_reducible apply q_ifn; · ((simp (disch := omega) only [jI_lit, jI_neg, jI_add, jI_sub, jI_mul, jI_lt, jI_le, jI_eq, va_up_self, va_up_ne, jI_shr1, jI_shr4, jI_shr0, jI_and1, jI_and15, jF_at, tn, b2_t, b2_f, cmp_ge, cmp_gt, cmp_le, cmp_lt, cmp_eq, jL_lit, jL_lt, jL_le, jL_eq, h7, i3, i6, i7', ra, w1, w2, hs, h6, eq4, hc, hco, h12]) <;> omega)) | (with_reducible apply q_obk; · (first | with_reducible rfl | ((simp (disch := omega) only [jI_lit, jI_neg, jI_add, jI_sub, jI_mul, o_gI, o_gR, o_pI, o_pZ0, o_pZ1, o_pZb, o_pR, o_aI, o_qI, o_aN, tn, va_up_self, va_up_ne, upup, jI_shr1, jI_shr4, jI_shr0, jI_and1, jI_and15, jI_join, jI_240, jI_hi, jF_at, jF_up, jI_max, jI_min, b2_t, b2_f, Bool.not_true, Bool.not_false, eq_self, true_or, or_true, h7, i3, i6, i7', ra, w1, w2, hs, h6, eq4, hc, hco, h12]) <;> with_reducible rfl))) | (with_reducible apply q_nz; · ((simp (disch := omega) only [jI_lit, jI_neg, jI_add, jI_sub, jI_mul, jI_lt, jI_le, jI_eq, va_up_self, va_up_ne, jI_shr1, jI_shr4, jI_shr0, jI_and1, jI_and15, jF_at, tn, b2_t, b2_f, cmp_ge, cmp_gt, cmp_le, cmp_lt, cmp_eq, jL_lit, jL_lt, jL_le, jL_eq, h7, i3, i6, i7', ra, w1, w2, hs, h6, eq4, hc, hco, h12]) <;> omega)) | (with_reducible apply q_rz; · (first | exact b2_01 _ | decide)))) <;> (first | with_reducible rfl | ((simp (disch := omega) only [jI_lit, jI_neg, jI_add, jI_sub, jI_mul, o_gI, o_gR, o_pI, o_pZ0, o_pZ1, o_pZb, o_pR, o_aI, o_qI, o_aN, tn, va_up_self, va_up_ne, upup, jI_shr1, jI_shr4, jI_shr0, jI_and1, jI_and15, jI_join, jI_240, jI_hi, jF_at, jF_up, jI_max, jI_min, b2_t, b2_f, Bool.not_true, Bool.not_false, eq_self, true_or, or_true, h7, i3, i6, i7', ra, w1, w2, hs, h6, eq4, hc, hco, h12]) <;> with_reducible rfl) | rfl))
    rw [e]; exact g12 _
theorem e_pfHalt {p x a k many : Nat} {P : PG} {r g : Nat → Int} (h : CTX K I R N p x a P r g k many) (ho : P 0 k = 24) :
    PO K I R L N w p x g (fX9_perform p (K, I, R, L, N, w)) (prf P r k) (if P 0 k = 24 then 1 else 0) (r 273 = -1) := by
  obtain ⟨fA, fB, px, w1, w2, ra⟩ := CTX_px h
  have h' := h
  obtain ⟨pc, h6, h7, ins, pg, hr, hI, hb, hg, h264, h8, h9, h10, h12, h13, hx, ha, hax, ck⟩ := h'
  have lr := ln_r pg
  obtain ⟨n1, n2, n3, n4, n5⟩ := chk_none ck
  have pe := prf_eq P r k
  rw [if_neg (by omega), if_neg (by omega), if_neg (by omega), if_neg (by omega), if_neg (by omega), if_neg (by omega), if_neg (by omega), if_neg (by omega), if_neg (by omega), if_neg (by omega), if_neg (by omega), if_neg (by omega), if_neg (by omega), if_neg (by omega), if_neg (by omega), if_neg (by omega), if_neg (by omega), if_neg (by omega), if_neg (by omega), if_neg (by omega)] at pe
  rw [pe, if_pos ho]
  obtain ⟨ka, ra', i1, i2, i3, i4, i5, i6, i7, i8, i9, i10⟩ := ins
  obtain ⟨w1', -⟩ := wd_o pg.1.1 pg.1.2
  have hcel : ∀ t : Nat, t < 276 → t ≠ 267 → fX10_cell x (jI (t : Int)) (K, I, R, L, N, w) = some (jI (r t)) := fun t q1 q2 => by
    rw [e_cell hr (by omega) (by omega), hI, jF_at, cls_lo (by omega) (by omega)]; rfl
  have hput : ∀ (t : Nat) (v : Int), t < 276 → t ≠ 267 → fX10_put x (jI (t : Int)) (jI v) (K, I, R, L, N, w) = some (K, va_up I (x + 1) (jF (cls (va_up r t v) g)), R, L, N, w) := fun t v q1 q2 => by
    rw [e_put hr (by omega) (by omega), hI, jF_up, show ((t : Int)).toNat = t by omega, cls_up_lo q1 q2]
  have i7' : I a 7 = jI 0 := by rw [i7, if_neg (by omega)]
  have hc := hcel 256 (by omega) (by omega)
  have eq4 : (256 : Int) + 0 = ((256 : Nat) : Int) := by omega
  have hs : smT (P 0 k) = 0 := by rw [ho]; rfl
  have k8 := pc.1
  refine PO_row h (J := va_up I p (va_up (I p) 13 (jI 1))) (fun y hy hy2 => va_up_ne _ _ (by omega)) (by rw [va_up_self, va_up_ne _ _ (by omega)]; exact h12) (by rw [va_up_self, va_up_self]) (by rw [va_up_ne _ _ (by omega)]; exact hI) ?_
  clear pe h px fA fB n1 n2 n3 n4 n5 lr ck pg hg hb hcel hput
  unfold fX9_perform fX9_performPlain
  ((repeat (first | (with_reducible apply q_gd; · (first | assumption | omega)) | (with_reducible apply q_ob; · (first | with_reducible rfl | ((simp (disch := omega) only [jI_lit, jI_neg, jI_add, jI_sub, jI_mul, o_gI, o_gR, o_pI, o_pZ0, o_pZ1, o_pZb, o_pR, o_aI, o_qI, o_aN, tn, va_up_self, va_up_ne, upup, jI_shr1, jI_shr4, jI_shr0, jI_and1, jI_and15, jI_join, jI_240, jI_hi, jF_at, jF_up, jI_max, jI_min, b2_t, b2_f, Bool.not_true, Bool.not_false, eq_self, true_or, or_true, h7, i3, i6, i7', ra, w1, w2, hs, h6, eq4, hc]) <;> with_reducible rfl))) | (with_reducible apply q_ob2; · (first | with_reducible rfl | ((simp (disch := omega) only [jI_lit, jI_neg, jI_add, jI_sub, jI_mul, o_gI, o_gR, o_pI, o_pZ0, o_pZ1, o_pZb, o_pR, o_aI, o_qI, o_aN, tn, va_up_self, va_up_ne, upup, jI_shr1, jI_shr4, jI_shr0, jI_and1, jI_and15, jI_join, jI_240, jI_hi, jF_at, jF_up, jI_max, jI_min, b2_t, b2_f, Bool.not_true, Bool.not_false, eq_self, true_or, or_true, h7, i3, i6, i7', ra, w1, w2, hs, h6, eq4, hc]) <;> with_reducible rfl))) | (with_reducible apply q_lt; · (first | with_reducible rfl | ((simp (disch := omega) only [jI_lit, jI_neg, jI_add, jI_sub, jI_mul, o_gI, o_gR, o_pI, o_pZ0, o_pZ1, o_pZb, o_pR, o_aI, o_qI, o_aN, tn, va_up_self, va_up_ne, upup, jI_shr1, jI_shr4, jI_shr0, jI_and1, jI_and15, jI_join, jI_240, jI_hi, jF_at, jF_up, jI_max, jI_min, b2_t, b2_f, Bool.not_true, Bool.not_false, eq_self, true_or, or_true, h7, i3, i6, i7', ra, w1, w2, hs, h6, eq4, hc]) <;> with_reducible rfl))) | (with_reducible apply q_ifp; · ((simp (disch := omega) only [jI_lit, jI_neg, jI_add, jI_sub, jI_mul, jI_lt, jI_le, jI_eq, va_up_self, va_up_ne, jI_shr1, jI_shr4, jI_shr0, jI_and1, jI_and15, jF_at, tn, b2_t, b2_f, cmp_ge, cmp_gt, cmp_le, cmp_lt, cmp_eq, jL_lit, jL_lt, jL_le, jL_eq, h7, i3, i6, i7', ra, w1, w2, hs, h6, eq4, hc]) <;> omega)) | (with_reducible apply q_ifn; · ((simp (disch := omega) only [jI_lit, jI_neg, jI_add, jI_sub, jI_mul, jI_lt, jI_le, jI_eq, va_up_self, va_up_ne, jI_shr1, jI_shr4, jI_shr0, jI_and1, jI_and15, jF_at, tn, b2_t, b2_f, cmp_ge, cmp_gt, cmp_le, cmp_lt, cmp_eq, jL_lit, jL_lt, jL_le, jL_eq, h7, i3, i6, i7', ra, w1, w2, hs, h6, eq4, hc]) <;> omega)) | (with_reducible apply q_obk; · (first | with_reducible rfl | ((simp (disch := omega) only [jI_lit, jI_neg, jI_add, jI_sub, jI_mul, o_gI, o_gR, o_pI, o_pZ0, o_pZ1, o_pZb, o_pR, o_aI, o_qI, o_aN, tn, va_up_self, va_up_ne, upup, jI_shr1, jI_shr4, jI_shr0, jI_and1, jI_and15, jI_join, jI_240, jI_hi, jF_at, jF_up, jI_max, jI_min, b2_t, b2_f, Bool.not_true, Bool.not_false, eq_self, true_or, or_true, h7, i3, i6, i7', ra, w1, w2, hs, h6, eq4, hc]) <;> with_reducible rfl))) | (with_reducible apply q_nz; · ((simp (disch := omega) only [jI_lit, jI_neg, jI_add, jI_sub, jI_mul, jI_lt, jI_le, jI_eq, va_up_self, va_up_ne, jI_shr1, jI_shr4, jI_shr0, jI_and1, jI_and15, jF_at, tn, b2_t, b2_f, cmp_ge, cmp_gt, cmp_le, cmp_lt, cmp_eq, jL_lit, jL_lt, jL_le, jL_eq, h7, i3, i6, i7', ra, w1, w2, hs, h6, eq4, hc]) <;> omega)) | (with_reducible apply q_rz; · (first | exact b2_01 _ | decide)))) <;> (first | with_reducible rfl | ((simp (disch := omega) only [jI_lit, jI_neg, jI_add, jI_sub, jI_mul, o_gI, o_gR, o_pI, o_pZ0, o_pZ1, o_pZb, o_pR, o_aI, o_qI, o_aN, tn, va_up_self, va_up_ne, upup, jI_shr1, jI_shr4, jI_shr0, jI_and1, jI_and15, jI_join, jI_240, jI_hi, jF_at, jF_up, jI_max, jI_min, b2_t, b2_f, Bool.not_true, Bool.not_false, eq_self, true_or, or_true, h7, i3, i6, i7', ra, w1, w2, hs, h6, eq4, hc]) <;> with_reducible rfl) | rfl))
theorem e_pfTest {p x a k many : Nat} {P : PG} {r g : Nat → Int} (h : CTX K I R N p x a P r g k many) (ho : P 0 k = 15) :
    PO K I R L N w p x g (fX9_perform p (K, I, R, L, N, w)) (prf P r k) (if P 0 k = 24 then 1 else 0) (r 273 = -1) := by
  obtain ⟨fA, fB, px, w1, w2, ra⟩ := CTX_px h
  have h' := h
  obtain ⟨pc, h6, h7, ins, pg, hr, hI, hb, hg, h264, h8, h9, h10, h12, h13, hx, ha, hax, ck⟩ := h'
  have lr := ln_r pg
  obtain ⟨n1, n2, n3, n4, n5⟩ := chk_none ck
  have pe := prf_eq P r k
  rw [if_neg (by omega), if_neg (by omega), if_neg (by omega), if_neg (by omega), if_neg (by omega), if_neg (by omega), if_neg (by omega), if_neg (by omega), if_neg (by omega), if_neg (by omega), if_neg (by omega), if_pos ho] at pe
  rw [pe, if_neg (show ¬ P 0 k = 24 by omega)]
  obtain ⟨eA, eN, hA, hn1⟩ := fA (by omega)
  rw [clA_op (by omega), eA] at h8
  obtain ⟨ka, ra', i1, i2, i3, i4, i5, i6, i7, i8, i9, i10⟩ := ins
  rw [eN] at i3
  obtain ⟨w1', -⟩ := wd_o pg.1.1 pg.1.2
  have hcel : ∀ t : Nat, t < 276 → t ≠ 267 → fX10_cell x (jI (t : Int)) (K, I, R, L, N, w) = some (jI (r t)) := fun t q1 q2 => by
    rw [e_cell hr (by omega) (by omega), hI, jF_at, cls_lo (by omega) (by omega)]; rfl
  have hput : ∀ (t : Nat) (v : Int), t < 276 → t ≠ 267 → fX10_put x (jI (t : Int)) (jI v) (K, I, R, L, N, w) = some (K, va_up I (x + 1) (jF (cls (va_up r t v) g)), R, L, N, w) := fun t v q1 q2 => by
    rw [e_put hr (by omega) (by omega), hI, jF_up, show ((t : Int)).toNat = t by omega, cls_up_lo q1 q2]
  have i7' : I a 7 = jI 0 := by rw [i7, if_neg (by omega)]
  have hc := hcel 256 (by omega) (by omega)
  have eq4 : (256 : Int) + 0 = ((256 : Nat) : Int) := by omega
  have hbc := cls_byt (g := g) hb
  have ef := e_flaw (L := L) (w := w) (z := false) (f := 2 * (opA P r k).toNat) hr hI hbc hA hn1 (by omega)
  rw [flz_flp, flp_cls hA, b2_f] at ef
  have eh := e_half (L := L) (w := w) hr hI hbc (z := ((2 * ((opA P r k).toNat + (lnA P k).toNat) - 1 : Nat) : Int)) (by omega) (by omega)
  rw [show ((2 * ((opA P r k).toNat + (lnA P k).toNat) - 1 : Nat) : Int).toNat = 2 * ((opA P r k).toNat + (lnA P k).toNat) - 1 by omega, hf_cls (by omega)] at eh
  have hl := hf_lt hb (h := 2 * ((opA P r k).toNat + (lnA P k).toNat) - 1) (by omega)
  have ht := flp_test (r := r) (p := (opA P r k).toNat) hn1
  have hm := flp_m r (opA P r k).toNat (lnA P k).toNat
  have hm2 : flp r (opA P r k).toNat (lnA P k).toNat < 600 := by
    by_cases q : flp r (opA P r k).toNat (lnA P k).toNat = -1
    · omega
    · have := flp_r q; omega
  obtain ⟨F, hF⟩ : ∃ F, F = flp r (opA P r k).toNat (lnA P k).toNat := ⟨_, rfl⟩
  obtain ⟨H, hH⟩ : ∃ H, H = hf r (2 * ((opA P r k).toNat + (lnA P k).toNat) - 1) := ⟨_, rfl⟩
  obtain ⟨s9, hs9⟩ : ∃ s9 : Nat, s9 = 2 * ((opA P r k).toNat + (lnA P k).toNat) - 1 := ⟨_, rfl⟩
  rw [clA_op (by omega), eA, eN] at h10
  have e10 : (2 : Int) * (((opA P r k).toNat : Int) + ((lnA P k).toNat : Int)) - 1 = (s9 : Int) := by omega
  have e11 : (2 : Int) * ((opA P r k).toNat : Int) = ((2 * (opA P r k).toNat : Nat) : Int) := by omega
  rw [← hF] at ef ht hm hm2
  rw [← hH] at eh hl ⊢
  rw [← hs9] at eh ht
  obtain ⟨D, hD, hD2⟩ : ∃ D : Int, D = (if fnd (fun h => decide (9 < hf r h)) (2 * (opA P r k).toNat) (2 * (lnA P k).toNat - 1) = -1 then 0 else 2) ∧ (D = 0 ∨ D = 2) := ⟨_, rfl, by split <;> simp⟩
  have hDt : D = 0 ↔ (F = -1 ∨ F = (s9 : Int)) := by
    by_cases q : fnd (fun h => decide (9 < hf r h)) (2 * (opA P r k).toNat) (2 * (lnA P k).toNat - 1) = -1
    · rw [if_pos q] at hD
      have : ¬ (F ≠ -1 ∧ F ≠ (s9 : Int)) := fun x => (ht.1 x) q
      omega
    · rw [if_neg q] at hD
      have := ht.2 q
      omega
  rw [← hD]
  have hs : smT (P 0 k) = 20 := by rw [ho]; rfl
  have et : fX9_tested p (K, I, R, L, N, w) = some (jI (D + if 9 < H then 0 else 1)) := by
    have k8 := pc.1
    clear ht hD hF hH pe h px fA fB n1 n2 n3 n4 n5 lr ck pg hg hb hcel hput hA
    unfold fX9_tested fX9_tested_49 fX9_tested_50
    by_cases c1 : F = -1
    · have d0 : D = 0 := hDt.2 (Or.inl c1)
      clear hDt
      by_cases c2 : 9 < H
      · rw [if_pos c2, d0]
        ((repeat (first | (with_reducible apply q_gd; · (first | assumption | omega)) | (with_reducible apply q_ob; · (first | with_reducible rfl | ((simp (disch := omega) only [jI_lit, jI_neg, jI_add, jI_sub, jI_mul, o_gI, o_gR, o_pI, o_pZ0, o_pZ1, o_pZb, o_pR, o_aI, o_qI, o_aN, tn, va_up_self, va_up_ne, upup, jI_shr1, jI_shr4, jI_shr0, jI_and1, jI_and15, jI_join, jI_240, jI_hi, jF_at, jF_up, jI_max, jI_min, b2_t, b2_f, Bool.not_true, Bool.not_false, eq_self, true_or, or_true, h10, e10, e11, h6, h7, h8, i3, ef, eh, c1]) <;> with_reducible rfl))) | (with_reducible apply q_ob2; · (first | with_reducible rfl | ((simp (disch := omega) only [jI_lit, jI_neg, jI_add, jI_sub, jI_mul, o_gI, o_gR, o_pI, o_pZ0, o_pZ1, o_pZb, o_pR, o_aI, o_qI, o_aN, tn, va_up_self, va_up_ne, upup, jI_shr1, jI_shr4, jI_shr0, jI_and1, jI_and15, jI_join, jI_240, jI_hi, jF_at, jF_up, jI_max, jI_min, b2_t, b2_f, Bool.not_true, Bool.not_false, eq_self, true_or, or_true, h10, e10, e11, h6, h7, h8, i3, ef, eh, c1]) <;> with_reducible rfl))) | (with_reducible apply q_lt; · (first | with_reducible rfl | ((simp (disch := omega) only [jI_lit, jI_neg, jI_add, jI_sub, jI_mul, o_gI, o_gR, o_pI, o_pZ0, o_pZ1, o_pZb, o_pR, o_aI, o_qI, o_aN, tn, va_up_self, va_up_ne, upup, jI_shr1, jI_shr4, jI_shr0, jI_and1, jI_and15, jI_join, jI_240, jI_hi, jF_at, jF_up, jI_max, jI_min, b2_t, b2_f, Bool.not_true, Bool.not_false, eq_self, true_or, or_true, h10, e10, e11, h6, h7, h8, i3, ef, eh, c1]) <;> with_reducible rfl))) | (with_reducible apply q_ifp; · ((simp (disch := omega) only [jI_lit, jI_neg, jI_add, jI_sub, jI_mul, jI_lt, jI_le, jI_eq, va_up_self, va_up_ne, jI_shr1, jI_shr4, jI_shr0, jI_and1, jI_and15, jF_at, tn, b2_t, b2_f, cmp_ge, cmp_gt, cmp_le, cmp_lt, cmp_eq, jL_lit, jL_lt, jL_le, jL_eq, h10, e10, e11, h6, h7, h8, i3, ef, eh, c1]) <;> omega)) | (with_reducible apply q_ifn; · ((simp (disch := omega) only [jI_lit, jI_neg, jI_add, jI_sub, jI_mul, jI_lt, jI_le, jI_eq, va_up_self, va_up_ne, jI_shr1, jI_shr4, jI_shr0, jI_and1, jI_and15, jF_at, tn, b2_t, b2_f, cmp_ge, cmp_gt, cmp_le, cmp_lt, cmp_eq, jL_lit, jL_lt, jL_le, jL_eq, h10, e10, e11, h6, h7, h8, i3, ef, eh, c1]) <;> omega)) | (with_reducible apply q_obk; · (first | with_reducible rfl | ((simp (disch := omega) only [jI_lit, jI_neg, jI_add, jI_sub, jI_mul, o_gI, o_gR, o_pI, o_pZ0, o_pZ1, o_pZb, o_pR, o_aI, o_qI, o_aN, tn, va_up_self, va_up_ne, upup, jI_shr1, jI_shr4, jI_shr0, jI_and1, jI_and15, jI_join, jI_240, jI_hi, jF_at, jF_up, jI_max, jI_min, b2_t, b2_f, Bool.not_true, Bool.not_false, eq_self, true_or, or_true, h10, e10, e11, h6, h7, h8, i3, ef, eh, c1]) <;> with_reducible rfl))) | (with_reducible apply q_nz; · ((simp (disch := omega) only [jI_lit, jI_neg, jI_add, jI_sub, jI_mul, jI_lt, jI_le, jI_eq, va_up_self, va_up_ne, jI_shr1, jI_shr4, jI_shr0, jI_and1, jI_and15, jF_at, tn, b2_t, b2_f, cmp_ge, cmp_gt, cmp_le, cmp_lt, cmp_eq, jL_lit, jL_lt, jL_le, jL_eq, h10, e10, e11, h6, h7, h8, i3, ef, eh, c1]) <;> omega)) | (with_reducible apply q_rz; · (first | exact b2_01 _ | decide)))) <;> (first | with_reducible rfl | ((simp (disch := omega) only [jI_lit, jI_neg, jI_add, jI_sub, jI_mul, o_gI, o_gR, o_pI, o_pZ0, o_pZ1, o_pZb, o_pR, o_aI, o_qI, o_aN, tn, va_up_self, va_up_ne, upup, jI_shr1, jI_shr4, jI_shr0, jI_and1, jI_and15, jI_join, jI_240, jI_hi, jF_at, jF_up, jI_max, jI_min, b2_t, b2_f, Bool.not_true, Bool.not_false, eq_self, true_or, or_true, h10, e10, e11, h6, h7, h8, i3, ef, eh, c1]) <;> with_reducible rfl) | rfl))
      · rw [if_neg c2, d0]
        ((repeat (first | (with_reducible apply q_gd; · (first | assumption | omega)) | (with_reducible apply q_ob; · (first | with_reducible rfl | ((simp (disch := omega) only [jI_lit, jI_neg, jI_add, jI_sub, jI_mul, o_gI, o_gR, o_pI, o_pZ0, o_pZ1, o_pZb, o_pR, o_aI, o_qI, o_aN, tn, va_up_self, va_up_ne, upup, jI_shr1, jI_shr4, jI_shr0, jI_and1, jI_and15, jI_join, jI_240, jI_hi, jF_at, jF_up, jI_max, jI_min, b2_t, b2_f, Bool.not_true, Bool.not_false, eq_self, true_or, or_true, h10, e10, e11, h6, h7, h8, i3, ef, eh, c1]) <;> with_reducible rfl))) | (with_reducible apply q_ob2; · (first | with_reducible rfl | ((simp (disch := omega) only [jI_lit, jI_neg, jI_add, jI_sub, jI_mul, o_gI, o_gR, o_pI, o_pZ0, o_pZ1, o_pZb, o_pR, o_aI, o_qI, o_aN, tn, va_up_self, va_up_ne, upup, jI_shr1, jI_shr4, jI_shr0, jI_and1, jI_and15, jI_join, jI_240, jI_hi, jF_at, jF_up, jI_max, jI_min, b2_t, b2_f, Bool.not_true, Bool.not_false, eq_self, true_or, or_true, h10, e10, e11, h6, h7, h8, i3, ef, eh, c1]) <;> with_reducible rfl))) | (with_reducible apply q_lt; · (first | with_reducible rfl | ((simp (disch := omega) only [jI_lit, jI_neg, jI_add, jI_sub, jI_mul, o_gI, o_gR, o_pI, o_pZ0, o_pZ1, o_pZb, o_pR, o_aI, o_qI, o_aN, tn, va_up_self, va_up_ne, upup, jI_shr1, jI_shr4, jI_shr0, jI_and1, jI_and15, jI_join, jI_240, jI_hi, jF_at, jF_up, jI_max, jI_min, b2_t, b2_f, Bool.not_true, Bool.not_false, eq_self, true_or, or_true, h10, e10, e11, h6, h7, h8, i3, ef, eh, c1]) <;> with_reducible rfl))) | (with_reducible apply q_ifp; · ((simp (disch := omega) only [jI_lit, jI_neg, jI_add, jI_sub, jI_mul, jI_lt, jI_le, jI_eq, va_up_self, va_up_ne, jI_shr1, jI_shr4, jI_shr0, jI_and1, jI_and15, jF_at, tn, b2_t, b2_f, cmp_ge, cmp_gt, cmp_le, cmp_lt, cmp_eq, jL_lit, jL_lt, jL_le, jL_eq, h10, e10, e11, h6, h7, h8, i3, ef, eh, c1]) <;> omega)) | (with_reducible apply q_ifn; · ((simp (disch := omega) only [jI_lit, jI_neg, jI_add, jI_sub, jI_mul, jI_lt, jI_le, jI_eq, va_up_self, va_up_ne, jI_shr1, jI_shr4, jI_shr0, jI_and1, jI_and15, jF_at, tn, b2_t, b2_f, cmp_ge, cmp_gt, cmp_le, cmp_lt, cmp_eq, jL_lit, jL_lt, jL_le, jL_eq, h10, e10, e11, h6, h7, h8, i3, ef, eh, c1]) <;> omega)) | (with_reducible apply q_obk; · (first | with_reducible rfl | ((simp (disch := omega) only [jI_lit, jI_neg, jI_add, jI_sub, jI_mul, o_gI, o_gR, o_pI, o_pZ0, o_pZ1, o_pZb, o_pR, o_aI, o_qI, o_aN, tn, va_up_self, va_up_ne, upup, jI_shr1, jI_shr4, jI_shr0, jI_and1, jI_and15, jI_join, jI_240, jI_hi, jF_at, jF_up, jI_max, jI_min, b2_t, b2_f, Bool.not_true, Bool.not_false, eq_self, true_or, or_true, h10, e10, e11, h6, h7, h8, i3, ef, eh, c1]) <;> with_reducible rfl))) | (with_reducible apply q_nz; · ((simp (disch := omega) only [jI_lit, jI_neg, jI_add, jI_sub, jI_mul, jI_lt, jI_le, jI_eq, va_up_self, va_up_ne, jI_shr1, jI_shr4, jI_shr0, jI_and1, jI_and15, jF_at, tn, b2_t, b2_f, cmp_ge, cmp_gt, cmp_le, cmp_lt, cmp_eq, jL_lit, jL_lt, jL_le, jL_eq, h10, e10, e11, h6, h7, h8, i3, ef, eh, c1]) <;> omega)) | (with_reducible apply q_rz; · (first | exact b2_01 _ | decide)))) <;> (first | with_reducible rfl | ((simp (disch := omega) only [jI_lit, jI_neg, jI_add, jI_sub, jI_mul, o_gI, o_gR, o_pI, o_pZ0, o_pZ1, o_pZb, o_pR, o_aI, o_qI, o_aN, tn, va_up_self, va_up_ne, upup, jI_shr1, jI_shr4, jI_shr0, jI_and1, jI_and15, jI_join, jI_240, jI_hi, jF_at, jF_up, jI_max, jI_min, b2_t, b2_f, Bool.not_true, Bool.not_false, eq_self, true_or, or_true, h10, e10, e11, h6, h7, h8, i3, ef, eh, c1]) <;> with_reducible rfl) | rfl))
    · by_cases c3 : F = (s9 : Int)
      · have d0 : D = 0 := hDt.2 (Or.inr c3)
        clear hDt
        by_cases c2 : 9 < H
        · rw [if_pos c2, d0]
          ((repeat (first | (with_reducible apply q_gd; · (first | assumption | omega)) | (with_reducible apply q_ob; · (first | with_reducible rfl | ((simp (disch := omega) only [jI_lit, jI_neg, jI_add, jI_sub, jI_mul, o_gI, o_gR, o_pI, o_pZ0, o_pZ1, o_pZb, o_pR, o_aI, o_qI, o_aN, tn, va_up_self, va_up_ne, upup, jI_shr1, jI_shr4, jI_shr0, jI_and1, jI_and15, jI_join, jI_240, jI_hi, jF_at, jF_up, jI_max, jI_min, b2_t, b2_f, Bool.not_true, Bool.not_false, eq_self, true_or, or_true, h10, e10, e11, h6, h7, h8, i3, ef, eh, c3]) <;> with_reducible rfl))) | (with_reducible apply q_ob2; · (first | with_reducible rfl | ((simp (disch := omega) only [jI_lit, jI_neg, jI_add, jI_sub, jI_mul, o_gI, o_gR, o_pI, o_pZ0, o_pZ1, o_pZb, o_pR, o_aI, o_qI, o_aN, tn, va_up_self, va_up_ne, upup, jI_shr1, jI_shr4, jI_shr0, jI_and1, jI_and15, jI_join, jI_240, jI_hi, jF_at, jF_up, jI_max, jI_min, b2_t, b2_f, Bool.not_true, Bool.not_false, eq_self, true_or, or_true, h10, e10, e11, h6, h7, h8, i3, ef, eh, c3]) <;> with_reducible rfl))) | (with_reducible apply q_lt; · (first | with_reducible rfl | ((simp (disch := omega) only [jI_lit, jI_neg, jI_add, jI_sub, jI_mul, o_gI, o_gR, o_pI, o_pZ0, o_pZ1, o_pZb, o_pR, o_aI, o_qI, o_aN, tn, va_up_self, va_up_ne, upup, jI_shr1, jI_shr4, jI_shr0, jI_and1, jI_and15, jI_join, jI_240, jI_hi, jF_at, jF_up, jI_max, jI_min, b2_t, b2_f, Bool.not_true, Bool.not_false, eq_self, true_or, or_true, h10, e10, e11, h6, h7, h8, i3, ef, eh, c3]) <;> with_reducible rfl))) | (with_reducible apply q_ifp; · ((simp (disch := omega) only [jI_lit, jI_neg, jI_add, jI_sub, jI_mul, jI_lt, jI_le, jI_eq, va_up_self, va_up_ne, jI_shr1, jI_shr4, jI_shr0, jI_and1, jI_and15, jF_at, tn, b2_t, b2_f, cmp_ge, cmp_gt, cmp_le, cmp_lt, cmp_eq, jL_lit, jL_lt, jL_le, jL_eq, h10, e10, e11, h6, h7, h8, i3, ef, eh, c3]) <;> omega)) | (with_reducible apply q_ifn; · ((simp (disch := omega) only [jI_lit, jI_neg, jI_add, jI_sub, jI_mul, jI_lt, jI_le, jI_eq, va_up_self, va_up_ne, jI_shr1, jI_shr4, jI_shr0, jI_and1, jI_and15, jF_at, tn, b2_t, b2_f, cmp_ge, cmp_gt, cmp_le, cmp_lt, cmp_eq, jL_lit, jL_lt, jL_le, jL_eq, h10, e10, e11, h6, h7, h8, i3, ef, eh, c3]) <;> omega)) | (with_reducible apply q_obk; · (first | with_reducible rfl | ((simp (disch := omega) only [jI_lit, jI_neg, jI_add, jI_sub, jI_mul, o_gI, o_gR, o_pI, o_pZ0, o_pZ1, o_pZb, o_pR, o_aI, o_qI, o_aN, tn, va_up_self, va_up_ne, upup, jI_shr1, jI_shr4, jI_shr0, jI_and1, jI_and15, jI_join, jI_240, jI_hi, jF_at, jF_up, jI_max, jI_min, b2_t, b2_f, Bool.not_true, Bool.not_false, eq_self, true_or, or_true, h10, e10, e11, h6, h7, h8, i3, ef, eh, c3]) <;> with_reducible rfl))) | (with_reducible apply q_nz; · ((simp (disch := omega) only [jI_lit, jI_neg, jI_add, jI_sub, jI_mul, jI_lt, jI_le, jI_eq, va_up_self, va_up_ne, jI_shr1, jI_shr4, jI_shr0, jI_and1, jI_and15, jF_at, tn, b2_t, b2_f, cmp_ge, cmp_gt, cmp_le, cmp_lt, cmp_eq, jL_lit, jL_lt, jL_le, jL_eq, h10, e10, e11, h6, h7, h8, i3, ef, eh, c3]) <;> omega)) | (with_reducible apply q_rz; · (first | exact b2_01 _ | decide)))) <;> (first | with_reducible rfl | ((simp (disch := omega) only [jI_lit, jI_neg, jI_add, jI_sub, jI_mul, o_gI, o_gR, o_pI, o_pZ0, o_pZ1, o_pZb, o_pR, o_aI, o_qI, o_aN, tn, va_up_self, va_up_ne, upup, jI_shr1, jI_shr4, jI_shr0, jI_and1, jI_and15, jI_join, jI_240, jI_hi, jF_at, jF_up, jI_max, jI_min, b2_t, b2_f, Bool.not_true, Bool.not_false, eq_self, true_or, or_true, h10, e10, e11, h6, h7, h8, i3, ef, eh, c3]) <;> with_reducible rfl) | rfl))
        · rw [if_neg c2, d0]
          ((repeat (first | (with_reducible apply q_gd; · (first | assumption | omega)) | (with_reducible apply q_ob; · (first | with_reducible rfl | ((simp (disch := omega) only [jI_lit, jI_neg, jI_add, jI_sub, jI_mul, o_gI, o_gR, o_pI, o_pZ0, o_pZ1, o_pZb, o_pR, o_aI, o_qI, o_aN, tn, va_up_self, va_up_ne, upup, jI_shr1, jI_shr4, jI_shr0, jI_and1, jI_and15, jI_join, jI_240, jI_hi, jF_at, jF_up, jI_max, jI_min, b2_t, b2_f, Bool.not_true, Bool.not_false, eq_self, true_or, or_true, h10, e10, e11, h6, h7, h8, i3, ef, eh, c3]) <;> with_reducible rfl))) | (with_reducible apply q_ob2; · (first | with_reducible rfl | ((simp (disch := omega) only [jI_lit, jI_neg, jI_add, jI_sub, jI_mul, o_gI, o_gR, o_pI, o_pZ0, o_pZ1, o_pZb, o_pR, o_aI, o_qI, o_aN, tn, va_up_self, va_up_ne, upup, jI_shr1, jI_shr4, jI_shr0, jI_and1, jI_and15, jI_join, jI_240, jI_hi, jF_at, jF_up, jI_max, jI_min, b2_t, b2_f, Bool.not_true, Bool.not_false, eq_self, true_or, or_true, h10, e10, e11, h6, h7, h8, i3, ef, eh, c3]) <;> with_reducible rfl))) | (with_reducible apply q_lt; · (first | with_reducible rfl | ((simp (disch := omega) only [jI_lit, jI_neg, jI_add, jI_sub, jI_mul, o_gI, o_gR, o_pI, o_pZ0, o_pZ1, o_pZb, o_pR, o_aI, o_qI, o_aN, tn, va_up_self, va_up_ne, upup, jI_shr1, jI_shr4, jI_shr0, jI_and1, jI_and15, jI_join, jI_240, jI_hi, jF_at, jF_up, jI_max, jI_min, b2_t, b2_f, Bool.not_true, Bool.not_false, eq_self, true_or, or_true, h10, e10, e11, h6, h7, h8, i3, ef, eh, c3]) <;> with_reducible rfl))) | (with_reducible apply q_ifp; · ((simp (disch := omega) only [jI_lit, jI_neg, jI_add, jI_sub, jI_mul, jI_lt, jI_le, jI_eq, va_up_self, va_up_ne, jI_shr1, jI_shr4, jI_shr0, jI_and1, jI_and15, jF_at, tn, b2_t, b2_f, cmp_ge, cmp_gt, cmp_le, cmp_lt, cmp_eq, jL_lit, jL_lt, jL_le, jL_eq, h10, e10, e11, h6, h7, h8, i3, ef, eh, c3]) <;> omega)) | (with_reducible apply q_ifn; · ((simp (disch := omega) only [jI_lit, jI_neg, jI_add, jI_sub, jI_mul, jI_lt, jI_le, jI_eq, va_up_self, va_up_ne, jI_shr1, jI_shr4, jI_shr0, jI_and1, jI_and15, jF_at, tn, b2_t, b2_f, cmp_ge, cmp_gt, cmp_le, cmp_lt, cmp_eq, jL_lit, jL_lt, jL_le, jL_eq, h10, e10, e11, h6, h7, h8, i3, ef, eh, c3]) <;> omega)) | (with_reducible apply q_obk; · (first | with_reducible rfl | ((simp (disch := omega) only [jI_lit, jI_neg, jI_add, jI_sub, jI_mul, o_gI, o_gR, o_pI, o_pZ0, o_pZ1, o_pZb, o_pR, o_aI, o_qI, o_aN, tn, va_up_self, va_up_ne, upup, jI_shr1, jI_shr4, jI_shr0, jI_and1, jI_and15, jI_join, jI_240, jI_hi, jF_at, jF_up, jI_max, jI_min, b2_t, b2_f, Bool.not_true, Bool.not_false, eq_self, true_or, or_true, h10, e10, e11, h6, h7, h8, i3, ef, eh, c3]) <;> with_reducible rfl))) | (with_reducible apply q_nz; · ((simp (disch := omega) only [jI_lit, jI_neg, jI_add, jI_sub, jI_mul, jI_lt, jI_le, jI_eq, va_up_self, va_up_ne, jI_shr1, jI_shr4, jI_shr0, jI_and1, jI_and15, jF_at, tn, b2_t, b2_f, cmp_ge, cmp_gt, cmp_le, cmp_lt, cmp_eq, jL_lit, jL_lt, jL_le, jL_eq, h10, e10, e11, h6, h7, h8, i3, ef, eh, c3]) <;> omega)) | (with_reducible apply q_rz; · (first | exact b2_01 _ | decide)))) <;> (first | with_reducible rfl | ((simp (disch := omega) only [jI_lit, jI_neg, jI_add, jI_sub, jI_mul, o_gI, o_gR, o_pI, o_pZ0, o_pZ1, o_pZb, o_pR, o_aI, o_qI, o_aN, tn, va_up_self, va_up_ne, upup, jI_shr1, jI_shr4, jI_shr0, jI_and1, jI_and15, jI_join, jI_240, jI_hi, jF_at, jF_up, jI_max, jI_min, b2_t, b2_f, Bool.not_true, Bool.not_false, eq_self, true_or, or_true, h10, e10, e11, h6, h7, h8, i3, ef, eh, c3]) <;> with_reducible rfl) | rfl))
      · have d0 : D = 2 := by omega
        clear hDt
        by_cases c2 : 9 < H
        · rw [if_pos c2, d0]
          ((repeat (first | (with_reducible apply q_gd; · (first | assumption | omega)) | (with_reducible apply q_ob; · (first | with_reducible rfl | ((simp (disch := omega) only [jI_lit, jI_neg, jI_add, jI_sub, jI_mul, o_gI, o_gR, o_pI, o_pZ0, o_pZ1, o_pZb, o_pR, o_aI, o_qI, o_aN, tn, va_up_self, va_up_ne, upup, jI_shr1, jI_shr4, jI_shr0, jI_and1, jI_and15, jI_join, jI_240, jI_hi, jF_at, jF_up, jI_max, jI_min, b2_t, b2_f, Bool.not_true, Bool.not_false, eq_self, true_or, or_true, h10, e10, e11, h6, h7, h8, i3, ef, eh]) <;> with_reducible rfl))) | (with_reducible apply q_ob2; · (first | with_reducible rfl | ((simp (disch := omega) only [jI_lit, jI_neg, jI_add, jI_sub, jI_mul, o_gI, o_gR, o_pI, o_pZ0, o_pZ1, o_pZb, o_pR, o_aI, o_qI, o_aN, tn, va_up_self, va_up_ne, upup, jI_shr1, jI_shr4, jI_shr0, jI_and1, jI_and15, jI_join, jI_240, jI_hi, jF_at, jF_up, jI_max, jI_min, b2_t, b2_f, Bool.not_true, Bool.not_false, eq_self, true_or, or_true, h10, e10, e11, h6, h7, h8, i3, ef, eh]) <;> with_reducible rfl))) | (with_reducible apply q_lt; · (first | with_reducible rfl | ((simp (disch := omega) only [jI_lit, jI_neg, jI_add, jI_sub, jI_mul, o_gI, o_gR, o_pI, o_pZ0, o_pZ1, o_pZb, o_pR, o_aI, o_qI, o_aN, tn, va_up_self, va_up_ne, upup, jI_shr1, jI_shr4, jI_shr0, jI_and1, jI_and15, jI_join, jI_240, jI_hi, jF_at, jF_up, jI_max, jI_min, b2_t, b2_f, Bool.not_true, Bool.not_false, eq_self, true_or, or_true, h10, e10, e11, h6, h7, h8, i3, ef, eh]) <;> with_reducible rfl))) | (with_reducible apply q_ifp; · ((simp (disch := omega) only [jI_lit, jI_neg, jI_add, jI_sub, jI_mul, jI_lt, jI_le, jI_eq, va_up_self, va_up_ne, jI_shr1, jI_shr4, jI_shr0, jI_and1, jI_and15, jF_at, tn, b2_t, b2_f, cmp_ge, cmp_gt, cmp_le, cmp_lt, cmp_eq, jL_lit, jL_lt, jL_le, jL_eq, h10, e10, e11, h6, h7, h8, i3, ef, eh]) <;> omega)) | (with_reducible apply q_ifn; · ((simp (disch := omega) only [jI_lit, jI_neg, jI_add, jI_sub, jI_mul, jI_lt, jI_le, jI_eq, va_up_self, va_up_ne, jI_shr1, jI_shr4, jI_shr0, jI_and1, jI_and15, jF_at, tn, b2_t, b2_f, cmp_ge, cmp_gt, cmp_le, cmp_lt, cmp_eq, jL_lit, jL_lt, jL_le, jL_eq, h10, e10, e11, h6, h7, h8, i3, ef, eh]) <;> omega)) | (with_reducible apply q_obk; · (first | with_reducible rfl | ((simp (disch := omega) only [jI_lit, jI_neg, jI_add, jI_sub, jI_mul, o_gI, o_gR, o_pI, o_pZ0, o_pZ1, o_pZb, o_pR, o_aI, o_qI, o_aN, tn, va_up_self, va_up_ne, upup, jI_shr1, jI_shr4, jI_shr0, jI_and1, jI_and15, jI_join, jI_240, jI_hi, jF_at, jF_up, jI_max, jI_min, b2_t, b2_f, Bool.not_true, Bool.not_false, eq_self, true_or, or_true, h10, e10, e11, h6, h7, h8, i3, ef, eh]) <;> with_reducible rfl))) | (with_reducible apply q_nz; · ((simp (disch := omega) only [jI_lit, jI_neg, jI_add, jI_sub, jI_mul, jI_lt, jI_le, jI_eq, va_up_self, va_up_ne, jI_shr1, jI_shr4, jI_shr0, jI_and1, jI_and15, jF_at, tn, b2_t, b2_f, cmp_ge, cmp_gt, cmp_le, cmp_lt, cmp_eq, jL_lit, jL_lt, jL_le, jL_eq, h10, e10, e11, h6, h7, h8, i3, ef, eh]) <;> omega)) | (with_reducible apply q_rz; · (first | exact b2_01 _ | decide)))) <;> (first | with_reducible rfl | ((simp (disch := omega) only [jI_lit, jI_neg, jI_add, jI_sub, jI_mul, o_gI, o_gR, o_pI, o_pZ0, o_pZ1, o_pZb, o_pR, o_aI, o_qI, o_aN, tn, va_up_self, va_up_ne, upup, jI_shr1, jI_shr4, jI_shr0, jI_and1, jI_and15, jI_join, jI_240, jI_hi, jF_at, jF_up, jI_max, jI_min, b2_t, b2_f, Bool.not_true, Bool.not_false, eq_self, true_or, or_true, h10, e10, e11, h6, h7, h8, i3, ef, eh]) <;> with_reducible rfl) | rfl))
        · rw [if_neg c2, d0]
          ((repeat (first | (with_reducible apply q_gd; · (first | assumption | omega)) | (with_reducible apply q_ob; · (first | with_reducible rfl | ((simp (disch := omega) only [jI_lit, jI_neg, jI_add, jI_sub, jI_mul, o_gI, o_gR, o_pI, o_pZ0, o_pZ1, o_pZb, o_pR, o_aI, o_qI, o_aN, tn, va_up_self, va_up_ne, upup, jI_shr1, jI_shr4, jI_shr0, jI_and1, jI_and15, jI_join, jI_240, jI_hi, jF_at, jF_up, jI_max, jI_min, b2_t, b2_f, Bool.not_true, Bool.not_false, eq_self, true_or, or_true, h10, e10, e11, h6, h7, h8, i3, ef, eh]) <;> with_reducible rfl))) | (with_reducible apply q_ob2; · (first | with_reducible rfl | ((simp (disch := omega) only [jI_lit, jI_neg, jI_add, jI_sub, jI_mul, o_gI, o_gR, o_pI, o_pZ0, o_pZ1, o_pZb, o_pR, o_aI, o_qI, o_aN, tn, va_up_self, va_up_ne, upup, jI_shr1, jI_shr4, jI_shr0, jI_and1, jI_and15, jI_join, jI_240, jI_hi, jF_at, jF_up, jI_max, jI_min, b2_t, b2_f, Bool.not_true, Bool.not_false, eq_self, true_or, or_true, h10, e10, e11, h6, h7, h8, i3, ef, eh]) <;> with_reducible rfl))) | (with_reducible apply q_lt; · (first | with_reducible rfl | ((simp (disch := omega) only [jI_lit, jI_neg, jI_add, jI_sub, jI_mul, o_gI, o_gR, o_pI, o_pZ0, o_pZ1, o_pZb, o_pR, o_aI, o_qI, o_aN, tn, va_up_self, va_up_ne, upup, jI_shr1, jI_shr4, jI_shr0, jI_and1, jI_and15, jI_join, jI_240, jI_hi, jF_at, jF_up, jI_max, jI_min, b2_t, b2_f, Bool.not_true, Bool.not_false, eq_self, true_or, or_true, h10, e10, e11, h6, h7, h8, i3, ef, eh]) <;> with_reducible rfl))) | (with_reducible apply q_ifp; · ((simp (disch := omega) only [jI_lit, jI_neg, jI_add, jI_sub, jI_mul, jI_lt, jI_le, jI_eq, va_up_self, va_up_ne, jI_shr1, jI_shr4, jI_shr0, jI_and1, jI_and15, jF_at, tn, b2_t, b2_f, cmp_ge, cmp_gt, cmp_le, cmp_lt, cmp_eq, jL_lit, jL_lt, jL_le, jL_eq, h10, e10, e11, h6, h7, h8, i3, ef, eh]) <;> omega)) | (with_reducible apply q_ifn; · ((simp (disch := omega) only [jI_lit, jI_neg, jI_add, jI_sub, jI_mul, jI_lt, jI_le, jI_eq, va_up_self, va_up_ne, jI_shr1, jI_shr4, jI_shr0, jI_and1, jI_and15, jF_at, tn, b2_t, b2_f, cmp_ge, cmp_gt, cmp_le, cmp_lt, cmp_eq, jL_lit, jL_lt, jL_le, jL_eq, h10, e10, e11, h6, h7, h8, i3, ef, eh]) <;> omega)) | (with_reducible apply q_obk; · (first | with_reducible rfl | ((simp (disch := omega) only [jI_lit, jI_neg, jI_add, jI_sub, jI_mul, o_gI, o_gR, o_pI, o_pZ0, o_pZ1, o_pZb, o_pR, o_aI, o_qI, o_aN, tn, va_up_self, va_up_ne, upup, jI_shr1, jI_shr4, jI_shr0, jI_and1, jI_and15, jI_join, jI_240, jI_hi, jF_at, jF_up, jI_max, jI_min, b2_t, b2_f, Bool.not_true, Bool.not_false, eq_self, true_or, or_true, h10, e10, e11, h6, h7, h8, i3, ef, eh]) <;> with_reducible rfl))) | (with_reducible apply q_nz; · ((simp (disch := omega) only [jI_lit, jI_neg, jI_add, jI_sub, jI_mul, jI_lt, jI_le, jI_eq, va_up_self, va_up_ne, jI_shr1, jI_shr4, jI_shr0, jI_and1, jI_and15, jF_at, tn, b2_t, b2_f, cmp_ge, cmp_gt, cmp_le, cmp_lt, cmp_eq, jL_lit, jL_lt, jL_le, jL_eq, h10, e10, e11, h6, h7, h8, i3, ef, eh]) <;> omega)) | (with_reducible apply q_rz; · (first | exact b2_01 _ | decide)))) <;> (first | with_reducible rfl | ((simp (disch := omega) only [jI_lit, jI_neg, jI_add, jI_sub, jI_mul, o_gI, o_gR, o_pI, o_pZ0, o_pZ1, o_pZb, o_pR, o_aI, o_qI, o_aN, tn, va_up_self, va_up_ne, upup, jI_shr1, jI_shr4, jI_shr0, jI_and1, jI_and15, jI_join, jI_240, jI_hi, jF_at, jF_up, jI_max, jI_min, b2_t, b2_f, Bool.not_true, Bool.not_false, eq_self, true_or, or_true, h10, e10, e11, h6, h7, h8, i3, ef, eh]) <;> with_reducible rfl) | rfl))
  have hp := hput 264 (D + if 9 < H then 0 else 1) (by omega) (by omega)
  have e264 : ((264 : Nat) : Int) = 264 := rfl
  rw [e264] at hp
  refine PO_row h (J := va_up I (x + 1) (jF (cls (va_up r 264 (D + if 9 < H then 0 else 1)) g))) (fun y _ hy => va_up_ne _ _ hy) (by rw [va_up_ne _ _ (by omega)]; exact h12) (by rw [va_up_ne _ _ (by omega)]; exact h13) (va_up_self _ _ _) ?_
  clear ht hD hF hH hDt pe h px fA fB n1 n2 n3 n4 n5 lr ck pg hg hb hcel hput hA
  unfold fX9_perform fX9_performPlain
  ((repeat (first | (with_reducible apply q_gd; · (first | assumption | omega)) | (with_reducible apply q_ob; · (first | with_reducible rfl | ((simp (disch := omega) only [jI_lit, jI_neg, jI_add, jI_sub, jI_mul, o_gI, o_gR, o_pI, o_pZ0, o_pZ1, o_pZb, o_pR, o_aI, o_qI, o_aN, tn, va_up_self, va_up_ne, upup, jI_shr1, jI_shr4, jI_shr0, jI_and1, jI_and15, jI_join, jI_240, jI_hi, jF_at, jF_up, jI_max, jI_min, b2_t, b2_f, Bool.not_true, Bool.not_false, eq_self, true_or, or_true, h7, i3, i6, i7', ra, w1, w2, hs, h6, eq4, hc, et, hp]) <;> with_reducible rfl))) | (with_reducible apply q_ob2; · (first | with_reducible rfl | ((simp (disch := omega) only [jI_lit, jI_neg, jI_add, jI_sub, jI_mul, o_gI, o_gR, o_pI, o_pZ0, o_pZ1, o_pZb, o_pR, o_aI, o_qI, o_aN, tn, va_up_self, va_up_ne, upup, jI_shr1, jI_shr4, jI_shr0, jI_and1, jI_and15, jI_join, jI_240, jI_hi, jF_at, jF_up, jI_max, jI_min, b2_t, b2_f, Bool.not_true, Bool.not_false, eq_self, true_or, or_true, h7, i3, i6, i7', ra, w1, w2, hs, h6, eq4, hc, et, hp]) <;> with_reducible rfl))) | (with_reducible apply q_lt; · (first | with_reducible rfl | ((simp (disch := omega) only [jI_lit, jI_neg, jI_add, jI_sub, jI_mul, o_gI, o_gR, o_pI, o_pZ0, o_pZ1, o_pZb, o_pR, o_aI, o_qI, o_aN, tn, va_up_self, va_up_ne, upup, jI_shr1, jI_shr4, jI_shr0, jI_and1, jI_and15, jI_join, jI_240, jI_hi, jF_at, jF_up, jI_max, jI_min, b2_t, b2_f, Bool.not_true, Bool.not_false, eq_self, true_or, or_true, h7, i3, i6, i7', ra, w1, w2, hs, h6, eq4, hc, et, hp]) <;> with_reducible rfl))) | (with_reducible apply q_ifp; · ((simp (disch := omega) only [jI_lit, jI_neg, jI_add, jI_sub, jI_mul, jI_lt, jI_le, jI_eq, va_up_self, va_up_ne, jI_shr1, jI_shr4, jI_shr0, jI_and1, jI_and15, jF_at, tn, b2_t, b2_f, cmp_ge, cmp_gt, cmp_le, cmp_lt, cmp_eq, jL_lit, jL_lt, jL_le, jL_eq, h7, i3, i6, i7', ra, w1, w2, hs, h6, eq4, hc, et, hp]) <;> omega)) | (with_reducible apply q_ifn; · ((simp (disch := omega) only [jI_lit, jI_neg, jI_add, jI_sub, jI_mul, jI_lt, jI_le, jI_eq, va_up_self, va_up_ne, jI_shr1, jI_shr4, jI_shr0, jI_and1, jI_and15, jF_at, tn, b2_t, b2_f, cmp_ge, cmp_gt, cmp_le, cmp_lt, cmp_eq, jL_lit, jL_lt, jL_le, jL_eq, h7, i3, i6, i7', ra, w1, w2, hs, h6, eq4, hc, et, hp]) <;> omega)) | (with_reducible apply q_obk; · (first | with_reducible rfl | ((simp (disch := omega) only [jI_lit, jI_neg, jI_add, jI_sub, jI_mul, o_gI, o_gR, o_pI, o_pZ0, o_pZ1, o_pZb, o_pR, o_aI, o_qI, o_aN, tn, va_up_self, va_up_ne, upup, jI_shr1, jI_shr4, jI_shr0, jI_and1, jI_and15, jI_join, jI_240, jI_hi, jF_at, jF_up, jI_max, jI_min, b2_t, b2_f, Bool.not_true, Bool.not_false, eq_self, true_or, or_true, h7, i3, i6, i7', ra, w1, w2, hs, h6, eq4, hc, et, hp]) <;> with_reducible rfl))) | (with_reducible apply q_nz; · ((simp (disch := omega) only [jI_lit, jI_neg, jI_add, jI_sub, jI_mul, jI_lt, jI_le, jI_eq, va_up_self, va_up_ne, jI_shr1, jI_shr4, jI_shr0, jI_and1, jI_and15, jF_at, tn, b2_t, b2_f, cmp_ge, cmp_gt, cmp_le, cmp_lt, cmp_eq, jL_lit, jL_lt, jL_le, jL_eq, h7, i3, i6, i7', ra, w1, w2, hs, h6, eq4, hc, et, hp]) <;> omega)) | (with_reducible apply q_rz; · (first | exact b2_01 _ | decide)))) <;> (first | with_reducible rfl | ((simp (disch := omega) only [jI_lit, jI_neg, jI_add, jI_sub, jI_mul, o_gI, o_gR, o_pI, o_pZ0, o_pZ1, o_pZb, o_pR, o_aI, o_qI, o_aN, tn, va_up_self, va_up_ne, upup, jI_shr1, jI_shr4, jI_shr0, jI_and1, jI_and15, jI_join, jI_240, jI_hi, jF_at, jF_up, jI_max, jI_min, b2_t, b2_f, Bool.not_true, Bool.not_false, eq_self, true_or, or_true, h7, i3, i6, i7', ra, w1, w2, hs, h6, eq4, hc, et, hp]) <;> with_reducible rfl) | rfl))
theorem e_pfDec {p x a k many : Nat} {P : PG} {r g : Nat → Int} (h : CTX K I R N p x a P r g k many) (ho : P 0 k = 17) :
    PO K I R L N w p x g (fX9_perform p (K, I, R, L, N, w)) (prf P r k) (if P 0 k = 24 then 1 else 0) (r 273 = -1) := by
  obtain ⟨fA, fB, px, w1, w2, ra⟩ := CTX_px h
  have h' := h
  obtain ⟨pc, h6, h7, ins, pg, hr, hI, hb, hg, h264, h8, h9, h10, h12, h13, hx, ha, hax, ck⟩ := h'
  have lr := ln_r pg
  obtain ⟨n1, n2, n3, n4, n5⟩ := chk_none ck
  have pe := prf_eq P r k
  rw [if_neg (by omega), if_neg (by omega), if_neg (by omega), if_neg (by omega), if_neg (by omega), if_neg (by omega), if_neg (by omega), if_neg (by omega), if_neg (by omega), if_neg (by omega), if_neg (by omega), if_neg (by omega), if_neg (by omega), if_pos ho] at pe
  rw [pe, if_neg (show ¬ P 0 k = 24 by omega)]
  obtain ⟨eA, eN, hA, hn1⟩ := fA (by omega)
  rw [clA_op (by omega), eA] at h8
  obtain ⟨ka, ra', i1, i2, i3, i4, i5, i6, i7, i8, i9, i10⟩ := ins
  rw [eN] at i3
  obtain ⟨w1', -⟩ := wd_o pg.1.1 pg.1.2
  have hcel : ∀ t : Nat, t < 276 → t ≠ 267 → fX10_cell x (jI (t : Int)) (K, I, R, L, N, w) = some (jI (r t)) := fun t q1 q2 => by
    rw [e_cell hr (by omega) (by omega), hI, jF_at, cls_lo (by omega) (by omega)]; rfl
  have hput : ∀ (t : Nat) (v : Int), t < 276 → t ≠ 267 → fX10_put x (jI (t : Int)) (jI v) (K, I, R, L, N, w) = some (K, va_up I (x + 1) (jF (cls (va_up r t v) g)), R, L, N, w) := fun t v q1 q2 => by
    rw [e_put hr (by omega) (by omega), hI, jF_up, show ((t : Int)).toNat = t by omega, cls_up_lo q1 q2]
  have hq := pg.2.2.2.2.2.2.2.1 (by omega) (by omega)
  rw [if_pos (by omega)] at i7
  have eq4 : (256 : Int) + P 4 k = ((256 + (P 4 k).toNat : Nat) : Int) := by omega
  have hc := hcel (256 + (P 4 k).toNat) (by omega) (by omega)
  obtain ⟨k8, r0, r1, r2, r3, r4, k14, n14, d1, d2, d3, ed⟩ := pc
  have hz := hg (256 + (P 4 k).toNat)
  obtain ⟨z, hzz⟩ : ∃ z, z = r (256 + (P 4 k).toNat) := ⟨_, rfl⟩
  rw [← hzz] at hz hc ⊢
  have etn := e_takeNumber (I := I) (L := L) (w := w) (z := z) d3 (by omega) (by omega)
  obtain ⟨J, eJ⟩ : ∃ J, J = dset I (p + 5) z.natAbs (decide (z < 0)) := ⟨_, rfl⟩
  have hJ : ∀ y, y < p + 5 ∨ p + 7 ≤ y → J y = I y := fun y hy => by rw [eJ, dset_ne _ _ _ _ (by omega) (by omega)]
  have dv : DV J (p + 5) z.natAbs (decide (z < 0)) := by rw [eJ]; exact DV_dset _ _ _ _
  rw [← eJ] at etn
  have hna : z.natAbs ≤ 2147483648 := by omega
  have es := e_sign (I := J) (L := L) (w := w) d3 dv (by omega)
  have esg : (if decide (z < 0) = true ∧ z.natAbs ≠ 0 then (13 : Int) else 12) = (if z < 0 then 13 else 12) := by
    by_cases q : z < 0
    · rw [if_pos ⟨by simpa using q, by omega⟩, if_pos q]
    · rw [if_neg (fun x => q (by simpa using x.1)), if_neg q]
  rw [esg] at es
  obtain ⟨sg, hsg, s1, s2⟩ : ∃ sg : Int, sg = (if z < 0 then 13 else 12) ∧ 0 ≤ sg ∧ sg < 16 := ⟨_, rfl, by split <;> omega, by split <;> omega⟩
  rw [← hsg] at es ⊢
  have l8 : lnA P k = 8 := by unfold lnA; rw [if_pos (Or.inr ho)]
  have ep := e_dputw (I := J) (L := L) (w := w) (p := (opA P r k).toNat) (n := (lnA P k).toNat) (s := sg) d3 hr dv.1 (by rw [hJ _ (by omega)]; exact hI) (by omega) hA (by omega) s1 s2 (by omega)
  rw [sto_cls hA] at ep
  have el : Int32.toInt64 (jI z) = jL z := jI_long (by omega) (by omega)
  have hs : smT (P 0 k) = 17 := by rw [ho]; rfl
  have hJp := hJ p (by omega)
  have hJa := hJ a (by omega)
  refine PO_row h (J := va_up J (x + 1) (jF (cls (sto r (opA P r k).toNat (lnA P k).toNat z.natAbs sg) g))) (fun y hy hy2 => by rw [va_up_ne _ _ hy2, hJ y (by omega)]) (by rw [va_up_ne _ _ (by omega), hJp]; exact h12) (by rw [va_up_ne _ _ (by omega), hJp]; exact h13) (va_up_self _ _ _) ?_
  clear pe h px fA fB n1 n2 n3 n4 n5 lr ck pg hg hb hcel hput eJ esg hsg dv hJ hzz hA
  unfold fX9_perform fX9_performPlain
  ((repeat (first | (with_reducible apply q_gd; · (first | assumption | omega)) | (with_reducible apply q_ob; · (first | with_reducible rfl | ((simp (disch := omega) only [jI_lit, jI_neg, jI_add, jI_sub, jI_mul, o_gI, o_gR, o_pI, o_pZ0, o_pZ1, o_pZb, o_pR, o_aI, o_qI, o_aN, tn, va_up_self, va_up_ne, upup, jI_shr1, jI_shr4, jI_shr0, jI_and1, jI_and15, jI_join, jI_240, jI_hi, jF_at, jF_up, jI_max, jI_min, b2_t, b2_f, Bool.not_true, Bool.not_false, eq_self, true_or, or_true, h7, i3, i6, i7, ra, w1, w2, hs, h6, h8, eq4, hc, r2, el, etn, es, ep, hJp, hJa]) <;> with_reducible rfl))) | (with_reducible apply q_ob2; · (first | with_reducible rfl | ((simp (disch := omega) only [jI_lit, jI_neg, jI_add, jI_sub, jI_mul, o_gI, o_gR, o_pI, o_pZ0, o_pZ1, o_pZb, o_pR, o_aI, o_qI, o_aN, tn, va_up_self, va_up_ne, upup, jI_shr1, jI_shr4, jI_shr0, jI_and1, jI_and15, jI_join, jI_240, jI_hi, jF_at, jF_up, jI_max, jI_min, b2_t, b2_f, Bool.not_true, Bool.not_false, eq_self, true_or, or_true, h7, i3, i6, i7, ra, w1, w2, hs, h6, h8, eq4, hc, r2, el, etn, es, ep, hJp, hJa]) <;> with_reducible rfl))) | (with_reducible apply q_lt; · (first | with_reducible rfl | ((simp (disch := omega) only [jI_lit, jI_neg, jI_add, jI_sub, jI_mul, o_gI, o_gR, o_pI, o_pZ0, o_pZ1, o_pZb, o_pR, o_aI, o_qI, o_aN, tn, va_up_self, va_up_ne, upup, jI_shr1, jI_shr4, jI_shr0, jI_and1, jI_and15, jI_join, jI_240, jI_hi, jF_at, jF_up, jI_max, jI_min, b2_t, b2_f, Bool.not_true, Bool.not_false, eq_self, true_or, or_true, h7, i3, i6, i7, ra, w1, w2, hs, h6, h8, eq4, hc, r2, el, etn, es, ep, hJp, hJa]) <;> with_reducible rfl))) | (with_reducible apply q_ifp; · ((simp (disch := omega) only [jI_lit, jI_neg, jI_add, jI_sub, jI_mul, jI_lt, jI_le, jI_eq, va_up_self, va_up_ne, jI_shr1, jI_shr4, jI_shr0, jI_and1, jI_and15, jF_at, tn, b2_t, b2_f, cmp_ge, cmp_gt, cmp_le, cmp_lt, cmp_eq, jL_lit, jL_lt, jL_le, jL_eq, h7, i3, i6, i7, ra, w1, w2, hs, h6, h8, eq4, hc, r2, el, etn, es, ep, hJp, hJa]) <;> omega)) | (with_reducible apply q_ifn; · ((simp (disch := omega) only [jI_lit, jI_neg, jI_add, jI_sub, jI_mul, jI_lt, jI_le, jI_eq, va_up_self, va_up_ne, jI_shr1, jI_shr4, jI_shr0, jI_and1, jI_and15, jF_at, tn, b2_t, b2_f, cmp_ge, cmp_gt, cmp_le, cmp_lt, cmp_eq, jL_lit, jL_lt, jL_le, jL_eq, h7, i3, i6, i7, ra, w1, w2, hs, h6, h8, eq4, hc, r2, el, etn, es, ep, hJp, hJa]) <;> omega)) | (with_reducible apply q_obk; · (first | with_reducible rfl | ((simp (disch := omega) only [jI_lit, jI_neg, jI_add, jI_sub, jI_mul, o_gI, o_gR, o_pI, o_pZ0, o_pZ1, o_pZb, o_pR, o_aI, o_qI, o_aN, tn, va_up_self, va_up_ne, upup, jI_shr1, jI_shr4, jI_shr0, jI_and1, jI_and15, jI_join, jI_240, jI_hi, jF_at, jF_up, jI_max, jI_min, b2_t, b2_f, Bool.not_true, Bool.not_false, eq_self, true_or, or_true, h7, i3, i6, i7, ra, w1, w2, hs, h6, h8, eq4, hc, r2, el, etn, es, ep, hJp, hJa]) <;> with_reducible rfl))) | (with_reducible apply q_nz; · ((simp (disch := omega) only [jI_lit, jI_neg, jI_add, jI_sub, jI_mul, jI_lt, jI_le, jI_eq, va_up_self, va_up_ne, jI_shr1, jI_shr4, jI_shr0, jI_and1, jI_and15, jF_at, tn, b2_t, b2_f, cmp_ge, cmp_gt, cmp_le, cmp_lt, cmp_eq, jL_lit, jL_lt, jL_le, jL_eq, h7, i3, i6, i7, ra, w1, w2, hs, h6, h8, eq4, hc, r2, el, etn, es, ep, hJp, hJa]) <;> omega)) | (with_reducible apply q_rz; · (first | exact b2_01 _ | decide)))) <;> (first | with_reducible rfl | ((simp (disch := omega) only [jI_lit, jI_neg, jI_add, jI_sub, jI_mul, o_gI, o_gR, o_pI, o_pZ0, o_pZ1, o_pZb, o_pR, o_aI, o_qI, o_aN, tn, va_up_self, va_up_ne, upup, jI_shr1, jI_shr4, jI_shr0, jI_and1, jI_and15, jI_join, jI_240, jI_hi, jF_at, jF_up, jI_max, jI_min, b2_t, b2_f, Bool.not_true, Bool.not_false, eq_self, true_or, or_true, h7, i3, i6, i7, ra, w1, w2, hs, h6, h8, eq4, hc, r2, el, etn, es, ep, hJp, hJa]) <;> with_reducible rfl) | rfl))
theorem e_perform {p x a k many : Nat} {P : PG} {r g : Nat → Int} (h : CTX K I R N p x a P r g k many) :
    PO K I R L N w p x g (fX9_perform p (K, I, R, L, N, w)) (prf P r k) (if P 0 k = 24 then 1 else 0) (r 273 = -1) := by
  have pg := h.2.2.2.2.1.1
  have : P 0 k = 0 ∨ P 0 k = 1 ∨ P 0 k = 2 ∨ P 0 k = 3 ∨ P 0 k = 4 ∨ P 0 k = 5 ∨ P 0 k = 6 ∨ P 0 k = 7 ∨ P 0 k = 8 ∨ P 0 k = 9 ∨ P 0 k = 10 ∨ P 0 k = 11 ∨ P 0 k = 12 ∨ P 0 k = 13 ∨ P 0 k = 14 ∨ P 0 k = 15 ∨ P 0 k = 16 ∨ P 0 k = 17 ∨ P 0 k = 18 ∨ P 0 k = 19 ∨ P 0 k = 20 ∨ P 0 k = 21 ∨ P 0 k = 22 ∨ P 0 k = 23 ∨ P 0 k = 24 := by omega
  rcases this with h0 | h0 | h0 | h0 | h0 | h0 | h0 | h0 | h0 | h0 | h0 | h0 | h0 | h0 | h0 | h0 | h0 | h0 | h0 | h0 | h0 | h0 | h0 | h0 | h0
  · exact e_pfPack h h0
  · exact e_pfUnpack h h0
  · exact e_pfOffset h h0
  · exact e_pfMove h h0
  · exact e_pfAdd h h0
  · exact e_pfSub h h0
  · exact e_pfCompare h h0
  · exact e_pfMul h h0
  · exact e_pfDiv h h0
  · exact e_pfCopy h h0
  · exact e_pfDigits h h0
  · exact e_pfZones h h0
  · exact e_pfEdit (mk := false) h h0
  · exact e_pfEdit (mk := true) h h0
  · exact e_pfShift h h0
  · exact e_pfTest h h0
  · exact e_pfBin h h0
  · exact e_pfDec h h0
  · exact e_pfLoad h h0
  · exact e_pfPlus h h0
  · exact e_pfCount h h0
  · exact e_pfOn h h0
  · exact e_pfGuard h h0
  · exact e_pfBack h h0
  · exact e_pfHalt h h0
end PF5
