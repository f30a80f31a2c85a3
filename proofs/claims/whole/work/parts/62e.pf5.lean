section PF5
variable {K : Nat → Nat} {I : Nat → Nat → Int32} {R : Nat → Nat → Nat} {L : Nat → Nat → Int64} {N : Nat → Nat} {w : Nat × Nat × Nat × Nat}
set_option maxHeartbeats 4000000 in
theorem e_pfCompare {p x a k many : Nat} {P : PG} {r g : Nat → Int} (h : CTX K I R N p x a P r g k many) (ho : P 0 k = 6) :
    PO K I R L N w p x g (fX9_perform p (K, I, R, L, N, w)) (prf P r k) (if P 0 k = 24 then 1 else 0) (r 273 = -1) := by
  obtain ⟨fA, fB, px, w1, w2, ra⟩ := CTX_px h
  have h' := h
  obtain ⟨pc, h6, h7, ins, pg, hr, hI, hb, hg, h264, h8, h9, h10, h12, h13, hx, ha, hax, ck⟩ := h'
  have k8 := pc.1
  have lr := ln_r pg
  obtain ⟨n1, n2, n3, n4, n5⟩ := chk_none ck
  have pe := prf_eq P r k
  rw [if_neg (by omega), if_neg (by omega), if_neg (by omega), if_neg (by omega), if_neg (by omega), if_pos ho] at pe
  rw [pe, if_neg (show ¬ P 0 k = 24 by omega)]
  obtain ⟨eA, eN, hA, hn1⟩ := fA (by omega)
  rw [clA_op (by omega), eA] at h8
  obtain ⟨eB, eM, hB, hm1⟩ := fB (by omega)
  rw [eB] at h9
  obtain ⟨ka, ra', i1, i2, i3, i4, i5, i6, i7, i8, i9, i10⟩ := ins
  rw [eN] at i3
  rw [eM] at i6
  rw [clA_op (by omega), eA, eN, eB, eM] at px
  have em := e_compare (L := L) (w := w) px hA hn1 (by omega) hB hm1 (by omega) (Snd_of (by rw [flp_cls hA]; exact n4 (by omega))) (Snd_of (by rw [flp_cls hB]; exact n5 (by omega)))
  rw [pkv_cls hB, pks_cls hB hm1, pkv_cls hA, pks_cls hA hn1] at em
  obtain ⟨J, e1, e5⟩ := em
  have hs : smT (P 0 k) = 12 := by rw [ho]; rfl
  have hh : fX9_perform p (K, I, R, L, N, w) = fX9_compareNumbers p (K, I, R, L, N, w) := by
    rw [← ob2_id (fX9_compareNumbers p _)]
    clear pe h px fA fB n1 n2 n3 n4 n5 lr ck pg hg hb e1 e5
    unfold fX9_perform
    ((repeat (first | (with_reducible apply q_gd; · (first | assumption | omega)) | (with_reducible apply q_ob; · (first | with_reducible rfl | ((simp (disch := omega) only [jI_lit, jI_neg, jI_add, jI_sub, jI_mul, o_gI, o_gR, o_pI, o_pZ0, o_pZ1, o_pZb, o_pR, o_aI, o_qI, o_aN, tn, va_up_self, va_up_ne, upup, jI_shr1, jI_shr4, jI_shr0, jI_and1, jI_and15, jI_join, jI_240, jI_hi, jF_at, jF_up, jI_max, jI_min, b2_t, b2_f, Bool.not_true, Bool.not_false, eq_self, true_or, or_true, h7, i3, i6, ra, w1, w2, hs]) <;> with_reducible rfl))) | (with_reducible apply q_ob2; · (first | with_reducible rfl | ((simp (disch := omega) only [jI_lit, jI_neg, jI_add, jI_sub, jI_mul, o_gI, o_gR, o_pI, o_pZ0, o_pZ1, o_pZb, o_pR, o_aI, o_qI, o_aN, tn, va_up_self, va_up_ne, upup, jI_shr1, jI_shr4, jI_shr0, jI_and1, jI_and15, jI_join, jI_240, jI_hi, jF_at, jF_up, jI_max, jI_min, b2_t, b2_f, Bool.not_true, Bool.not_false, eq_self, true_or, or_true, h7, i3, i6, ra, w1, w2, hs]) <;> with_reducible rfl))) | (with_reducible apply q_lt; · (first | with_reducible rfl | ((simp (disch := omega) only [jI_lit, jI_neg, jI_add, jI_sub, jI_mul, o_gI, o_gR, o_pI, o_pZ0, o_pZ1, o_pZb, o_pR, o_aI, o_qI, o_aN, tn, va_up_self, va_up_ne, upup, jI_shr1, jI_shr4, jI_shr0, jI_and1, jI_and15, jI_join, jI_240, jI_hi, jF_at, jF_up, jI_max, jI_min, b2_t, b2_f, Bool.not_true, Bool.not_false, eq_self, true_or, or_true, h7, i3, i6, ra, w1, w2, hs]) <;> with_reducible rfl))) | (with_reducible apply q_ifp; · ((simp (disch := omega) only [jI_lit, jI_neg, jI_add, jI_sub, jI_mul, jI_lt, jI_le, jI_eq, va_up_self, va_up_ne, jI_shr1, jI_shr4, jI_shr0, jI_and1, jI_and15, jF_at, tn, b2_t, b2_f, cmp_ge, cmp_gt, cmp_le, cmp_lt, cmp_eq, jL_lit, jL_lt, jL_le, jL_eq, h7, i3, i6, ra, w1, w2, hs]) <;> omega)) | (with_reducible apply q_ifn; · ((simp (disch := omega) only [jI_lit, jI_neg, jI_add, jI_sub, jI_mul, jI_lt, jI_le, jI_eq, va_up_self, va_up_ne, jI_shr1, jI_shr4, jI_shr0, jI_and1, jI_and15, jF_at, tn, b2_t, b2_f, cmp_ge, cmp_gt, cmp_le, cmp_lt, cmp_eq, jL_lit, jL_lt, jL_le, jL_eq, h7, i3, i6, ra, w1, w2, hs]) <;> omega)) | (with_reducible apply q_obk; · (first | with_reducible rfl | ((simp (disch := omega) only [jI_lit, jI_neg, jI_add, jI_sub, jI_mul, o_gI, o_gR, o_pI, o_pZ0, o_pZ1, o_pZb, o_pR, o_aI, o_qI, o_aN, tn, va_up_self, va_up_ne, upup, jI_shr1, jI_shr4, jI_shr0, jI_and1, jI_and15, jI_join, jI_240, jI_hi, jF_at, jF_up, jI_max, jI_min, b2_t, b2_f, Bool.not_true, Bool.not_false, eq_self, true_or, or_true, h7, i3, i6, ra, w1, w2, hs]) <;> with_reducible rfl))) | (with_reducible apply q_nz; · ((simp (disch := omega) only [jI_lit, jI_neg, jI_add, jI_sub, jI_mul, jI_lt, jI_le, jI_eq, va_up_self, va_up_ne, jI_shr1, jI_shr4, jI_shr0, jI_and1, jI_and15, jF_at, tn, b2_t, b2_f, cmp_ge, cmp_gt, cmp_le, cmp_lt, cmp_eq, jL_lit, jL_lt, jL_le, jL_eq, h7, i3, i6, ra, w1, w2, hs]) <;> omega)) | (with_reducible apply q_rz; · (first | exact b2_01 _ | decide)))) <;> (first | with_reducible rfl | ((simp (disch := omega) only [jI_lit, jI_neg, jI_add, jI_sub, jI_mul, o_gI, o_gR, o_pI, o_pZ0, o_pZ1, o_pZb, o_pR, o_aI, o_qI, o_aN, tn, va_up_self, va_up_ne, upup, jI_shr1, jI_shr4, jI_shr0, jI_and1, jI_and15, jI_join, jI_240, jI_hi, jF_at, jF_up, jI_max, jI_min, b2_t, b2_f, Bool.not_true, Bool.not_false, eq_self, true_or, or_true, h7, i3, i6, ra, w1, w2, hs]) <;> with_reducible rfl) | rfl))
  rw [cls_up_lo (by omega) (by omega), Bool.bne_true, (fin6_cs (r := r) (p := 0) (n := 0) (s := pks r (opA P r k).toNat (lnA P k).toNat)).2] at e1
  exact PO_row h (fun y hy hy2 => by rw [va_up_ne _ _ hy2, e5 y (by omega)]) (by rw [va_up_ne _ _ (by omega), e5 p (by omega)]; exact h12) (by rw [va_up_ne _ _ (by omega), e5 p (by omega)]; exact h13) (va_up_self _ _ _) (hh.trans e1)
set_option maxHeartbeats 4000000 in
theorem e_pfMul {p x a k many : Nat} {P : PG} {r g : Nat → Int} (h : CTX K I R N p x a P r g k many) (ho : P 0 k = 7) :
    PO K I R L N w p x g (fX9_perform p (K, I, R, L, N, w)) (prf P r k) (if P 0 k = 24 then 1 else 0) (r 273 = -1) := by
  obtain ⟨fA, fB, px, w1, w2, ra⟩ := CTX_px h
  have h' := h
  obtain ⟨pc, h6, h7, ins, pg, hr, hI, hb, hg, h264, h8, h9, h10, h12, h13, hx, ha, hax, ck⟩ := h'
  have k8 := pc.1
  have lr := ln_r pg
  obtain ⟨n1, n2, n3, n4, n5⟩ := chk_none ck
  have pe := prf_eq P r k
  rw [if_neg (by omega), if_neg (by omega), if_neg (by omega), if_neg (by omega), if_neg (by omega), if_neg (by omega), if_pos ho] at pe
  rw [pe, if_neg (show ¬ P 0 k = 24 by omega)]
  obtain ⟨eA, eN, hA, hn1⟩ := fA (by omega)
  rw [clA_op (by omega), eA] at h8
  obtain ⟨eB, eM, hB, hm1⟩ := fB (by omega)
  rw [eB] at h9
  obtain ⟨ka, ra', i1, i2, i3, i4, i5, i6, i7, i8, i9, i10⟩ := ins
  rw [eN] at i3
  rw [eM] at i6
  rw [clA_op (by omega), eA, eN, eB, eM] at px
  have em := e_multiplyNumbers (L := L) (w := w) px hA hn1 (by omega) hB hm1 (by omega) (Snd_of (by rw [flp_cls hA]; exact n4 (by omega))) (Snd_of (by rw [flp_cls hB]; exact n5 (by omega)))
  have ef : fnd (fun h => hf (cls r g) h != 0) (2 * (opA P r k).toNat) (2 * (lnB P k).toNat) = fnd (fun h => hf r h != 0) (2 * (opA P r k).toNat) (2 * (lnB P k).toNat) := fnd_eq (fun j j1 j2 => by rw [hf_cls (by omega)])
  rw [ef, pkv_cls hB, pks_cls hB hm1, pkv_cls hA, pks_cls hA hn1] at em
  have hs : smT (P 0 k) = 4 := by rw [ho]; rfl
  have hh : fX9_perform p (K, I, R, L, N, w) = fX9_multiplyNumbers p (K, I, R, L, N, w) := by
    rw [← ob2_id (fX9_multiplyNumbers p _)]
    clear pe h px fA fB n1 n2 n3 n4 n5 lr ck pg hg hb em ef
    unfold fX9_perform
    ((repeat (first | (with_reducible apply q_gd; · (first | assumption | omega)) | (with_reducible apply q_ob; · (first | with_reducible rfl | ((simp (disch := omega) only [jI_lit, jI_neg, jI_add, jI_sub, jI_mul, o_gI, o_gR, o_pI, o_pZ0, o_pZ1, o_pZb, o_pR, o_aI, o_qI, o_aN, tn, va_up_self, va_up_ne, upup, jI_shr1, jI_shr4, jI_shr0, jI_and1, jI_and15, jI_join, jI_240, jI_hi, jF_at, jF_up, jI_max, jI_min, b2_t, b2_f, Bool.not_true, Bool.not_false, eq_self, true_or, or_true, h7, i3, i6, ra, w1, w2, hs]) <;> with_reducible rfl))) | (with_reducible apply q_ob2; · (first | with_reducible rfl | ((simp (disch := omega) only [jI_lit, jI_neg, jI_add, jI_sub, jI_mul, o_gI, o_gR, o_pI, o_pZ0, o_pZ1, o_pZb, o_pR, o_aI, o_qI, o_aN, tn, va_up_self, va_up_ne, upup, jI_shr1, jI_shr4, jI_shr0, jI_and1, jI_and15, jI_join, jI_240, jI_hi, jF_at, jF_up, jI_max, jI_min, b2_t, b2_f, Bool.not_true, Bool.not_false, eq_self, true_or, or_true, h7, i3, i6, ra, w1, w2, hs]) <;> with_reducible rfl))) | (with_reducible apply q_lt; · (first | with_reducible rfl | ((simp (disch := omega) only [jI_lit, jI_neg, jI_add, jI_sub, jI_mul, o_gI, o_gR, o_pI, o_pZ0, o_pZ1, o_pZb, o_pR, o_aI, o_qI, o_aN, tn, va_up_self, va_up_ne, upup, jI_shr1, jI_shr4, jI_shr0, jI_and1, jI_and15, jI_join, jI_240, jI_hi, jF_at, jF_up, jI_max, jI_min, b2_t, b2_f, Bool.not_true, Bool.not_false, eq_self, true_or, or_true, h7, i3, i6, ra, w1, w2, hs]) <;> with_reducible rfl))) | (with_reducible apply q_ifp; · ((simp (disch := omega) only [jI_lit, jI_neg, jI_add, jI_sub, jI_mul, jI_lt, jI_le, jI_eq, va_up_self, va_up_ne, jI_shr1, jI_shr4, jI_shr0, jI_and1, jI_and15, jF_at, tn, b2_t, b2_f, cmp_ge, cmp_gt, cmp_le, cmp_lt, cmp_eq, jL_lit, jL_lt, jL_le, jL_eq, h7, i3, i6, ra, w1, w2, hs]) <;> omega)) | (with_reducible apply q_ifn; · ((simp (disch := omega) only [jI_lit, jI_neg, jI_add, jI_sub, jI_mul, jI_lt, jI_le, jI_eq, va_up_self, va_up_ne, jI_shr1, jI_shr4, jI_shr0, jI_and1, jI_and15, jF_at, tn, b2_t, b2_f, cmp_ge, cmp_gt, cmp_le, cmp_lt, cmp_eq, jL_lit, jL_lt, jL_le, jL_eq, h7, i3, i6, ra, w1, w2, hs]) <;> omega)) | (with_reducible apply q_obk; · (first | with_reducible rfl | ((simp (disch := omega) only [jI_lit, jI_neg, jI_add, jI_sub, jI_mul, o_gI, o_gR, o_pI, o_pZ0, o_pZ1, o_pZb, o_pR, o_aI, o_qI, o_aN, tn, va_up_self, va_up_ne, upup, jI_shr1, jI_shr4, jI_shr0, jI_and1, jI_and15, jI_join, jI_240, jI_hi, jF_at, jF_up, jI_max, jI_min, b2_t, b2_f, Bool.not_true, Bool.not_false, eq_self, true_or, or_true, h7, i3, i6, ra, w1, w2, hs]) <;> with_reducible rfl))) | (with_reducible apply q_nz; · ((simp (disch := omega) only [jI_lit, jI_neg, jI_add, jI_sub, jI_mul, jI_lt, jI_le, jI_eq, va_up_self, va_up_ne, jI_shr1, jI_shr4, jI_shr0, jI_and1, jI_and15, jF_at, tn, b2_t, b2_f, cmp_ge, cmp_gt, cmp_le, cmp_lt, cmp_eq, jL_lit, jL_lt, jL_le, jL_eq, h7, i3, i6, ra, w1, w2, hs]) <;> omega)) | (with_reducible apply q_rz; · (first | exact b2_01 _ | decide)))) <;> (first | with_reducible rfl | ((simp (disch := omega) only [jI_lit, jI_neg, jI_add, jI_sub, jI_mul, o_gI, o_gR, o_pI, o_pZ0, o_pZ1, o_pZb, o_pR, o_aI, o_qI, o_aN, tn, va_up_self, va_up_ne, upup, jI_shr1, jI_shr4, jI_shr0, jI_and1, jI_and15, jI_join, jI_240, jI_hi, jF_at, jF_up, jI_max, jI_min, b2_t, b2_f, Bool.not_true, Bool.not_false, eq_self, true_or, or_true, h7, i3, i6, ra, w1, w2, hs]) <;> with_reducible rfl) | rfl))
  by_cases q : fnd (fun h => hf r h != 0) (2 * (opA P r k).toNat) (2 * (lnB P k).toNat) ≠ -1
  · have e1 := em.1 q
    obtain ⟨m, a1, a2, a3, -⟩ := fnd_some q
    rw [if_pos q]
    rw [a3] at e1 ⊢
    rw [hf_cls (by omega)] at e1
    refine ⟨_, R, 5, hh.trans e1, ?_, ?_, ?_, fun y hy hy2 => va_up_ne _ _ (by omega), fun _ _ => rfl, fun _ _ => rfl, (fun x => nomatch x), fun f hf => ?_⟩
    · rw [va_up_ne _ _ (by omega)]; exact hI
    · rw [va_up_ne _ _ (by omega)]; exact h12
    · rw [va_up_ne _ _ (by omega)]; exact h13
    · cases hf
      exact ⟨rfl, by rw [va_up_self]; exact RsF_h⟩
  · obtain ⟨J, e1, e5⟩ := em.2 (Decidable.not_not.mp q)
    rw [if_neg q]
    rw [sto_cls hA] at e1
    exact PO_row h (fun y hy hy2 => by rw [va_up_ne _ _ hy2, e5 y (by omega)]) (by rw [va_up_ne _ _ (by omega), e5 p (by omega)]; exact h12) (by rw [va_up_ne _ _ (by omega), e5 p (by omega)]; exact h13) (va_up_self _ _ _) (hh.trans e1)
set_option maxHeartbeats 4000000 in
theorem e_pfDiv {p x a k many : Nat} {P : PG} {r g : Nat → Int} (h : CTX K I R N p x a P r g k many) (ho : P 0 k = 8) :
    PO K I R L N w p x g (fX9_perform p (K, I, R, L, N, w)) (prf P r k) (if P 0 k = 24 then 1 else 0) (r 273 = -1) := by
  obtain ⟨fA, fB, px, w1, w2, ra⟩ := CTX_px h
  have h' := h
  obtain ⟨pc, h6, h7, ins, pg, hr, hI, hb, hg, h264, h8, h9, h10, h12, h13, hx, ha, hax, ck⟩ := h'
  have k8 := pc.1
  have lr := ln_r pg
  obtain ⟨n1, n2, n3, n4, n5⟩ := chk_none ck
  have pe := prf_eq P r k
  rw [if_neg (by omega), if_neg (by omega), if_neg (by omega), if_neg (by omega), if_neg (by omega), if_neg (by omega), if_neg (by omega), if_pos ho] at pe
  rw [pe, if_neg (show ¬ P 0 k = 24 by omega)]
  obtain ⟨eA, eN, hA, hn1⟩ := fA (by omega)
  rw [clA_op (by omega), eA] at h8
  obtain ⟨eB, eM, hB, hm1⟩ := fB (by omega)
  rw [eB] at h9
  obtain ⟨ka, ra', i1, i2, i3, i4, i5, i6, i7, i8, i9, i10⟩ := ins
  rw [eN] at i3
  rw [eM] at i6
  rw [clA_op (by omega), eA, eN, eB, eM] at px
  have em := e_divideNumbers (L := L) (w := w) px hA hn1 (by omega) hB hm1 (by omega) (by omega) (Snd_of (by rw [flp_cls hA]; exact n4 (by omega))) (Snd_of (by rw [flp_cls hB]; exact n5 (by omega)))
  rw [pkv_cls hB, pks_cls hB hm1, pkv_cls hA, pks_cls hA hn1] at em
  obtain ⟨J, e5, e1⟩ := em
  have hs : smT (P 0 k) = 5 := by rw [ho]; rfl
  have hh : fX9_perform p (K, I, R, L, N, w) = fX9_divideNumbers p (K, I, R, L, N, w) := by
    rw [← ob2_id (fX9_divideNumbers p _)]
    clear pe h px fA fB n1 n2 n3 n4 n5 lr ck pg hg hb e1 e5
    unfold fX9_perform
    ((repeat (first | (with_reducible apply q_gd; · (first | assumption | omega)) | (with_reducible apply q_ob; · (first | with_reducible rfl | ((simp (disch := omega) only [jI_lit, jI_neg, jI_add, jI_sub, jI_mul, o_gI, o_gR, o_pI, o_pZ0, o_pZ1, o_pZb, o_pR, o_aI, o_qI, o_aN, tn, va_up_self, va_up_ne, upup, jI_shr1, jI_shr4, jI_shr0, jI_and1, jI_and15, jI_join, jI_240, jI_hi, jF_at, jF_up, jI_max, jI_min, b2_t, b2_f, Bool.not_true, Bool.not_false, eq_self, true_or, or_true, h7, i3, i6, ra, w1, w2, hs]) <;> with_reducible rfl))) | (with_reducible apply q_ob2; · (first | with_reducible rfl | ((simp (disch := omega) only [jI_lit, jI_neg, jI_add, jI_sub, jI_mul, o_gI, o_gR, o_pI, o_pZ0, o_pZ1, o_pZb, o_pR, o_aI, o_qI, o_aN, tn, va_up_self, va_up_ne, upup, jI_shr1, jI_shr4, jI_shr0, jI_and1, jI_and15, jI_join, jI_240, jI_hi, jF_at, jF_up, jI_max, jI_min, b2_t, b2_f, Bool.not_true, Bool.not_false, eq_self, true_or, or_true, h7, i3, i6, ra, w1, w2, hs]) <;> with_reducible rfl))) | (with_reducible apply q_lt; · (first | with_reducible rfl | ((simp (disch := omega) only [jI_lit, jI_neg, jI_add, jI_sub, jI_mul, o_gI, o_gR, o_pI, o_pZ0, o_pZ1, o_pZb, o_pR, o_aI, o_qI, o_aN, tn, va_up_self, va_up_ne, upup, jI_shr1, jI_shr4, jI_shr0, jI_and1, jI_and15, jI_join, jI_240, jI_hi, jF_at, jF_up, jI_max, jI_min, b2_t, b2_f, Bool.not_true, Bool.not_false, eq_self, true_or, or_true, h7, i3, i6, ra, w1, w2, hs]) <;> with_reducible rfl))) | (with_reducible apply q_ifp; · ((simp (disch := omega) only [jI_lit, jI_neg, jI_add, jI_sub, jI_mul, jI_lt, jI_le, jI_eq, va_up_self, va_up_ne, jI_shr1, jI_shr4, jI_shr0, jI_and1, jI_and15, jF_at, tn, b2_t, b2_f, cmp_ge, cmp_gt, cmp_le, cmp_lt, cmp_eq, jL_lit, jL_lt, jL_le, jL_eq, h7, i3, i6, ra, w1, w2, hs]) <;> omega)) | (with_reducible apply q_ifn; · ((simp (disch := omega) only [jI_lit, jI_neg, jI_add, jI_sub, jI_mul, jI_lt, jI_le, jI_eq, va_up_self, va_up_ne, jI_shr1, jI_shr4, jI_shr0, jI_and1, jI_and15, jF_at, tn, b2_t, b2_f, cmp_ge, cmp_gt, cmp_le, cmp_lt, cmp_eq, jL_lit, jL_lt, jL_le, jL_eq, h7, i3, i6, ra, w1, w2, hs]) <;> omega)) | (with_reducible apply q_obk; · (first | with_reducible rfl | ((simp (disch := omega) only [jI_lit, jI_neg, jI_add, jI_sub, jI_mul, o_gI, o_gR, o_pI, o_pZ0, o_pZ1, o_pZb, o_pR, o_aI, o_qI, o_aN, tn, va_up_self, va_up_ne, upup, jI_shr1, jI_shr4, jI_shr0, jI_and1, jI_and15, jI_join, jI_240, jI_hi, jF_at, jF_up, jI_max, jI_min, b2_t, b2_f, Bool.not_true, Bool.not_false, eq_self, true_or, or_true, h7, i3, i6, ra, w1, w2, hs]) <;> with_reducible rfl))) | (with_reducible apply q_nz; · ((simp (disch := omega) only [jI_lit, jI_neg, jI_add, jI_sub, jI_mul, jI_lt, jI_le, jI_eq, va_up_self, va_up_ne, jI_shr1, jI_shr4, jI_shr0, jI_and1, jI_and15, jF_at, tn, b2_t, b2_f, cmp_ge, cmp_gt, cmp_le, cmp_lt, cmp_eq, jL_lit, jL_lt, jL_le, jL_eq, h7, i3, i6, ra, w1, w2, hs]) <;> omega)) | (with_reducible apply q_rz; · (first | exact b2_01 _ | decide)))) <;> (first | with_reducible rfl | ((simp (disch := omega) only [jI_lit, jI_neg, jI_add, jI_sub, jI_mul, o_gI, o_gR, o_pI, o_pZ0, o_pZ1, o_pZb, o_pR, o_aI, o_qI, o_aN, tn, va_up_self, va_up_ne, upup, jI_shr1, jI_shr4, jI_shr0, jI_and1, jI_and15, jI_join, jI_240, jI_hi, jF_at, jF_up, jI_max, jI_min, b2_t, b2_f, Bool.not_true, Bool.not_false, eq_self, true_or, or_true, h7, i3, i6, ra, w1, w2, hs]) <;> with_reducible rfl) | rfl))
  by_cases q : pkv r (opB P r k).toNat (lnB P k).toNat = 0 ∨ 2 * ((lnA P k).toNat - (lnB P k).toNat) - 1 < nd (pkv r (opA P r k).toNat (lnA P k).toNat / pkv r (opB P r k).toNat (lnB P k).toNat)
  · rw [if_pos q] at e1 ⊢
    refine ⟨_, R, 7, hh.trans e1, ?_, ?_, ?_, fun y hy hy2 => by rw [va_up_ne _ _ (by omega), e5 y (by omega)], fun _ _ => rfl, fun _ _ => rfl, (fun x => nomatch x), fun f hf => ?_⟩
    · rw [va_up_ne _ _ (by omega), e5 _ (by omega)]; exact hI
    · rw [va_up_ne _ _ (by omega), e5 p (by omega)]; exact h12
    · rw [va_up_ne _ _ (by omega), e5 p (by omega)]; exact h13
    · cases hf
      exact ⟨rfl, by rw [va_up_self]; exact RsF_n⟩
  · rw [if_neg q] at e1 ⊢
    rw [sto_cls (by omega), sto_cls (by omega), show (opA P r k).toNat + ((lnA P k).toNat - (lnB P k).toNat) = (opA P r k).toNat + (lnA P k).toNat - (lnB P k).toNat by omega] at e1
    exact PO_row h (fun y hy hy2 => by rw [va_up_ne _ _ hy2, e5 y (by omega)]) (by rw [va_up_ne _ _ (by omega), e5 p (by omega)]; exact h12) (by rw [va_up_ne _ _ (by omega), e5 p (by omega)]; exact h13) (va_up_self _ _ _) (hh.trans e1)
end PF5
