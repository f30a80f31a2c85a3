section INS
/-! AN INSTRUCTION IS READ -/
variable {K : Nat → Nat} {I : Nat → Nat → Int32} {R : Nat → Nat → Nat} {L : Nat → Nat → Int64} {N : Nat → Nat} {w : Nat × Nat × Nat × Nat} {X U C Z : Nat} {Xo Ko : Nat}
def prI (t : Nat → Int) (n : Nat) (l : List Nat) (s : PS) : Nat → PS
  | 0 => s
  | i + 1 => match (prI t n l s i).1 with
    | .inl _ => prI t n l s i
    | .inr T => pce t n (l.getD i 0) T (prI t n l s i).2.1 (prI t n l s i).2.2.1 (prI t n l s i).2.2.2
theorem prI_f {t : Nat → Int} {n i : Nat} {l : List Nat} {s : PS} {x : Int × Int} (h : (prI t n l s i).1 = .inl x) : prI t n l s (i + 1) = prI t n l s i := by
  show (match (prI t n l s i).1 with | .inl _ => prI t n l s i | .inr T => _) = _
  rw [h]
theorem prI_g {t : Nat → Int} {n i : Nat} {l : List Nat} {s : PS} {T : TK} (h : (prI t n l s i).1 = .inr T) : prI t n l s (i + 1) = pce t n (l.getD i 0) T (prI t n l s i).2.1 (prI t n l s i).2.2.1 (prI t n l s i).2.2.2 := by
  show (match (prI t n l s i).1 with | .inl _ => prI t n l s i | .inr T => _) = _
  rw [h]
theorem prI_st {t : Nat → Int} {n : Nat} {l : List Nat} {s : PS} {x : Int × Int} {i : Nat} (h : (prI t n l s i).1 = .inl x) : ∀ m, i ≤ m → prI t n l s m = prI t n l s i
  | 0, hm => by rw [show i = 0 by omega]
  | m + 1, hm => by
    by_cases c : i = m + 1
    · rw [c]
    · have ih := prI_st h m (by omega)
      rw [prI_f (by rw [ih]; exact h), ih]
def wfm (W : Nat) : List Nat := strT.getD (wFm.getD (W - 1) 0) []
theorem wfm_all : ∀ i : Fin 29, wdF (i.val + 1) = some (wFm.getD i.val 0 + 1) ∧ wFm.getD i.val 0 + 1 ≤ 69 ∧ (wfm (i.val + 1)).length ≤ 8 ∧ wdI (i.val + 1) = some (jI (if i.val < 4 then 0 else 1)) := by decide +kernel
theorem wfm_ch : ∀ i : Fin 29, ∀ j : Fin 8, j.val < (wfm (i.val + 1)).length → [112, 120, 113, 121, 58, 108, 76, 109, 61, 56, 37, 114, 115, 100, 43, 111, 103, 110, 78].contains ((wfm (i.val + 1)).getD j.val 0) = true := by decide +kernel
theorem wfm_c {W j : Nat} (h1 : 1 ≤ W) (h2 : W ≤ 29) (hj : j < (wfm W).length) : (wfm W).getD j 0 = 112 ∨ (wfm W).getD j 0 = 120 ∨ (wfm W).getD j 0 = 113 ∨ (wfm W).getD j 0 = 121 ∨ (wfm W).getD j 0 = 58 ∨ (wfm W).getD j 0 = 108 ∨ (wfm W).getD j 0 = 76 ∨ (wfm W).getD j 0 = 109 ∨ (wfm W).getD j 0 = 61 ∨ (wfm W).getD j 0 = 56 ∨ (wfm W).getD j 0 = 37 ∨ (wfm W).getD j 0 = 114 ∨ (wfm W).getD j 0 = 115 ∨ (wfm W).getD j 0 = 100 ∨ (wfm W).getD j 0 = 43 ∨ (wfm W).getD j 0 = 111 ∨ (wfm W).getD j 0 = 103 ∨ (wfm W).getD j 0 = 110 ∨ (wfm W).getD j 0 = 78 := by
  have e : W - 1 + 1 = W := by omega
  have l8 : (wfm (W - 1 + 1)).length ≤ 8 := (wfm_all ⟨W - 1, by omega⟩).2.2.1
  rw [e] at l8
  have h : j < (wfm (W - 1 + 1)).length → [112, 120, 113, 121, 58, 108, 76, 109, 61, 56, 37, 114, 115, 100, 43, 111, 103, 110, 78].contains ((wfm (W - 1 + 1)).getD j 0) = true := wfm_ch ⟨W - 1, by omega⟩ ⟨j, by omega⟩
  rw [e] at h
  have h := h hj
  obtain ⟨x, hx⟩ : ∃ x, x = (wfm W).getD j 0 := ⟨_, rfl⟩
  rw [← hx] at h ⊢
  clear hx hj l8 e
  simp at h
  omega
theorem e_fLen {W : Nat} (h1 : 1 ≤ W) (h2 : W ≤ 29) : sLen (wFm.getD (W - 1) 0 + 1) = some (jI ((wfm W).length : Nat)) := by
  have := (wfm_all ⟨W - 1, by omega⟩).2.1
  unfold sLen
  rw [if_pos ⟨by omega, this⟩, jI_nI]
  rfl
theorem e_fAt {W j : Nat} (h1 : 1 ≤ W) (h2 : W ≤ 29) (hj : j < (wfm W).length) : sAt (wFm.getD (W - 1) 0 + 1) (jI (j : Nat)) = some (jI ((wfm W).getD j 0 : Nat)) := by
  have h3 := (wfm_all ⟨W - 1, by omega⟩).2.1
  have h4 : (wfm (W - 1 + 1)).length ≤ 8 := (wfm_all ⟨W - 1, by omega⟩).2.2.1
  rw [show W - 1 + 1 = W by omega] at h4
  have e : (jI (j : Nat)).toNatClampNeg = j := by rw [jI_nat (by omega) (by omega)]; omega
  have l0 : ¬ jI (j : Nat) < 0 := by rw [jI_lit, jI_lt (by omega) (by omega) (by omega) (by omega)]; omega
  unfold sAt
  rw [e, if_pos ⟨by omega, h3, fun q => q.elim l0 (fun q => by have q : (wfm W).length ≤ j := q; omega)⟩, jI_nI]
  rfl
theorem Ig_fr {a nm wt wp tp l ia k : Nat} {I' : Nat → Nat → Int32} {R' : Nat → Nat → Nat} {L' : Nat → Nat → Int64} (h : Ig K I R N a nm wt wp tp l ia k) (p : PI2 a wt wp ia k I R L I' R' L') : Ig K I' R' N a nm wt wp tp l ia k := by
  obtain ⟨hb, r5, k6, i2, hk, ki, nwt⟩ := h
  have ka := hb.1
  have k3 := hb.2.2.2.2.2.2.2.2.1
  exact ⟨Tb_fr hb p.2.2.1, by rw [p.2.2.1 5 (by omega)]; exact r5, k6, by rw [p.1 l (fun q => by rw [q, ka] at k6; omega) (fun q => by rw [q, ki] at k6; omega) (fun q => by rw [q, k3] at k6; omega)]; exact i2, hk, ki, nwt⟩
/-- the pieces of a form -/
theorem e_form {a nm wt wp tp l ia k n W : Nat} {t f : Nat → Int} {v q : Int} {m : MD} (hg : Ig K I R N a nm wt wp tp l ia k) (hi : Iv I L wt wp ia k f v q) (h : Smd K I R N a tp t n m) (h1 : 1 ≤ W) (h2 : W ≤ 29) :
    PcO K I R L N w a wt wp tp ia k t n (lp (fun _ _ _ _ _ => none) (fX8_readInstruction_102) FU a ia (wFm.getD (W - 1) 0 + 1) (jI ((0 : Nat) : Int)) (K, I, R, L, N, w)) (prI t n (wfm W) (m, f, v, q) (wfm W).length) := by
  have hl := e_fLen h1 h2
  have l8 : (wfm (W - 1 + 1)).length ≤ 8 := (wfm_all ⟨W - 1, by omega⟩).2.2.1
  rw [show W - 1 + 1 = W by omega] at l8
  have ka := hg.1.1
  obtain ⟨ln, hln⟩ : ∃ ln, ln = (wfm W).length := ⟨_, rfl⟩
  obtain ⟨st, hst⟩ : ∃ st, st = wFm.getD (W - 1) 0 + 1 := ⟨_, rfl⟩
  have hat := fun j (hj : j < (wfm W).length) => e_fAt h1 h2 hj
  rw [← hln] at hl l8 hat ⊢
  rw [← hst] at hl hat ⊢
  refine lp_sr (z := fun _ _ _ _ _ => none) (S := fX8_readInstruction_102) (β := Hp) (σ := (Nat → Nat → Int32) × (Nat → Nat → Nat) × (Nat → Nat → Int64)) (fun kk i s => kk a ia st (jI (i : Int)) (K, s.1, s.2.1, s.2.2, N, w)) ln
    (fun i s => PI2 a wt wp ia k I R L s.1 s.2.1 s.2.2 ∧ Smd K s.1 s.2.1 N a tp t n (prI t n (wfm W) (m, f, v, q) i).1 ∧ Iv s.1 s.2.2 wt wp ia k (prI t n (wfm W) (m, f, v, q) i).2.1 (prI t n (wfm W) (m, f, v, q) i).2.2.1 (prI t n (wfm W) (m, f, v, q) i).2.2.2)
    (fun res => PcO K I R L N w a wt wp tp ia k t n res (prI t n (wfm W) (m, f, v, q) ln)) ?_ ?_ FU 0 (I, R, L) (by omega) (FU_lt (by omega)) ⟨PI2_rf, h, hi⟩
  · intro i s hi' hs kk
    obtain ⟨I1, R1, L1⟩ := s
    obtain ⟨p1, st1, iv1⟩ := hs
    have p1 : PI2 a wt wp ia k I R L I1 R1 L1 := p1
    have st1 : Smd K I1 R1 N a tp t n (prI t n (wfm W) (m, f, v, q) i).1 := st1
    have iv1 : Iv I1 L1 wt wp ia k (prI t n (wfm W) (m, f, v, q) i).2.1 (prI t n (wfm W) (m, f, v, q) i).2.2.1 (prI t n (wfm W) (m, f, v, q) i).2.2.2 := iv1
    have e2 : (i : Int) + 1 = ((i + 1 : Nat) : Int) := by omega
    cases hm : (prI t n (wfm W) (m, f, v, q) i).1 with
    | inl x =>
      left
      have es := prI_st hm ln (by omega)
      rw [hm] at st1
      obtain ⟨kd, pl⟩ := x
      have st2 := st1
      obtain ⟨-, i10, c1, c2, -⟩ := st1
      refine ⟨I1, R1, L1, ?_, p1, by rw [es, hm]; exact st2, by rw [es]; exact iv1⟩
      show fX8_readInstruction_102 kk a ia st (jI (i : Int)) (K, I1, R1, L1, N, w) = _
      clear hg hi h p1 iv1 st2 es hm hat hst hln
      unfold fX8_readInstruction_102
      ((repeat (first | (with_reducible apply q_gd; · (first | assumption | omega)) | (with_reducible apply q_ob; · (first | with_reducible rfl | ((simp (disch := omega) only [jI_lit, jI_neg, jI_add, jI_sub, jI_mul, o_gI, o_gR, o_pI, o_pZ0, o_pZ1, o_pZb, o_pR, o_aI, o_qI, o_aN, tn, va_up_self, va_up_ne, upup, jI_shr1, jI_shr4, jI_shr0, jI_and1, jI_and15, jI_join, jI_240, jI_hi, jF_at, jF_up, jI_max, jI_min, b2_t, b2_f, Bool.not_true, Bool.not_false, eq_self, true_or, or_true, hl, i10]) <;> with_reducible rfl))) | (with_reducible apply q_ob2; · (first | with_reducible rfl | ((simp (disch := omega) only [jI_lit, jI_neg, jI_add, jI_sub, jI_mul, o_gI, o_gR, o_pI, o_pZ0, o_pZ1, o_pZb, o_pR, o_aI, o_qI, o_aN, tn, va_up_self, va_up_ne, upup, jI_shr1, jI_shr4, jI_shr0, jI_and1, jI_and15, jI_join, jI_240, jI_hi, jF_at, jF_up, jI_max, jI_min, b2_t, b2_f, Bool.not_true, Bool.not_false, eq_self, true_or, or_true, hl, i10]) <;> with_reducible rfl))) | (with_reducible apply q_lt; · (first | with_reducible rfl | ((simp (disch := omega) only [jI_lit, jI_neg, jI_add, jI_sub, jI_mul, o_gI, o_gR, o_pI, o_pZ0, o_pZ1, o_pZb, o_pR, o_aI, o_qI, o_aN, tn, va_up_self, va_up_ne, upup, jI_shr1, jI_shr4, jI_shr0, jI_and1, jI_and15, jI_join, jI_240, jI_hi, jF_at, jF_up, jI_max, jI_min, b2_t, b2_f, Bool.not_true, Bool.not_false, eq_self, true_or, or_true, hl, i10]) <;> with_reducible rfl))) | (with_reducible apply q_ifp; · (first | ((simp (disch := omega) only [jI_lit, jI_neg, jI_add, jI_sub, jI_mul, jI_lt, jI_le, jI_eq, va_up_self, va_up_ne, jI_shr1, jI_shr4, jI_shr0, jI_and1, jI_and15, jF_at, tn, b2_t, b2_f, cmp_ge, cmp_gt, cmp_le, cmp_lt, cmp_eq, jL_lit, jL_lt, jL_le, jL_eq, hl, i10]) <;> omega) | omega)) | (with_reducible apply q_ifn; · (first | ((simp (disch := omega) only [jI_lit, jI_neg, jI_add, jI_sub, jI_mul, jI_lt, jI_le, jI_eq, va_up_self, va_up_ne, jI_shr1, jI_shr4, jI_shr0, jI_and1, jI_and15, jF_at, tn, b2_t, b2_f, cmp_ge, cmp_gt, cmp_le, cmp_lt, cmp_eq, jL_lit, jL_lt, jL_le, jL_eq, hl, i10]) <;> omega) | omega)) | (with_reducible apply q_obk; · (first | with_reducible rfl | ((simp (disch := omega) only [jI_lit, jI_neg, jI_add, jI_sub, jI_mul, o_gI, o_gR, o_pI, o_pZ0, o_pZ1, o_pZb, o_pR, o_aI, o_qI, o_aN, tn, va_up_self, va_up_ne, upup, jI_shr1, jI_shr4, jI_shr0, jI_and1, jI_and15, jI_join, jI_240, jI_hi, jF_at, jF_up, jI_max, jI_min, b2_t, b2_f, Bool.not_true, Bool.not_false, eq_self, true_or, or_true, hl, i10]) <;> with_reducible rfl))) | (with_reducible apply q_nz; · (first | ((simp (disch := omega) only [jI_lit, jI_neg, jI_add, jI_sub, jI_mul, jI_lt, jI_le, jI_eq, va_up_self, va_up_ne, jI_shr1, jI_shr4, jI_shr0, jI_and1, jI_and15, jF_at, tn, b2_t, b2_f, cmp_ge, cmp_gt, cmp_le, cmp_lt, cmp_eq, jL_lit, jL_lt, jL_le, jL_eq, hl, i10]) <;> omega) | omega)) | (with_reducible apply q_rz; · (first | exact b2_01 _ | decide)))) <;> (first | with_reducible rfl | ((simp (disch := omega) only [jI_lit, jI_neg, jI_add, jI_sub, jI_mul, o_gI, o_gR, o_pI, o_pZ0, o_pZ1, o_pZb, o_pR, o_aI, o_qI, o_aN, tn, va_up_self, va_up_ne, upup, jI_shr1, jI_shr4, jI_shr0, jI_and1, jI_and15, jI_join, jI_240, jI_hi, jF_at, jF_up, jI_max, jI_min, b2_t, b2_f, Bool.not_true, Bool.not_false, eq_self, true_or, or_true, hl, i10]) <;> with_reducible rfl) | rfl))
    | inr T =>
      right
      rw [hm] at st1
      have st1 : Lv K I1 R1 N a tp t n T := st1
      have i10 := st1.2.2.2.2.2.2.1
      have hc := hat i (by omega)
      obtain ⟨I2, R2, L2, ep, p2, st2, iv2⟩ := e_piece (L := L1) (w := w) (Ig_fr hg p1) iv1 st1 ((wfm W).getD i 0) (wfm_c h1 h2 (by omega))
      have eg := prI_g hm
      refine ⟨(I2, R2, L2), ⟨PI2_tr p1 p2, by rw [eg]; exact st2, by rw [eg]; exact iv2⟩, ?_⟩
      show fX8_readInstruction_102 kk a ia st (jI (i : Int)) (K, I1, R1, L1, N, w) = kk a ia st (jI ((i + 1 : Nat) : Int)) (K, I2, R2, L2, N, w)
      clear hg hi h p1 p2 iv1 iv2 st2 st1 hm hat hst hln eg
      unfold fX8_readInstruction_102
      ((repeat (first | (with_reducible apply q_gd; · (first | assumption | omega)) | (with_reducible apply q_ob; · (first | with_reducible rfl | ((simp (disch := omega) only [jI_lit, jI_neg, jI_add, jI_sub, jI_mul, o_gI, o_gR, o_pI, o_pZ0, o_pZ1, o_pZb, o_pR, o_aI, o_qI, o_aN, tn, va_up_self, va_up_ne, upup, jI_shr1, jI_shr4, jI_shr0, jI_and1, jI_and15, jI_join, jI_240, jI_hi, jF_at, jF_up, jI_max, jI_min, b2_t, b2_f, Bool.not_true, Bool.not_false, eq_self, true_or, or_true, hl, i10, hc, ep, e2]) <;> with_reducible rfl))) | (with_reducible apply q_ob2; · (first | with_reducible rfl | ((simp (disch := omega) only [jI_lit, jI_neg, jI_add, jI_sub, jI_mul, o_gI, o_gR, o_pI, o_pZ0, o_pZ1, o_pZb, o_pR, o_aI, o_qI, o_aN, tn, va_up_self, va_up_ne, upup, jI_shr1, jI_shr4, jI_shr0, jI_and1, jI_and15, jI_join, jI_240, jI_hi, jF_at, jF_up, jI_max, jI_min, b2_t, b2_f, Bool.not_true, Bool.not_false, eq_self, true_or, or_true, hl, i10, hc, ep, e2]) <;> with_reducible rfl))) | (with_reducible apply q_lt; · (first | with_reducible rfl | ((simp (disch := omega) only [jI_lit, jI_neg, jI_add, jI_sub, jI_mul, o_gI, o_gR, o_pI, o_pZ0, o_pZ1, o_pZb, o_pR, o_aI, o_qI, o_aN, tn, va_up_self, va_up_ne, upup, jI_shr1, jI_shr4, jI_shr0, jI_and1, jI_and15, jI_join, jI_240, jI_hi, jF_at, jF_up, jI_max, jI_min, b2_t, b2_f, Bool.not_true, Bool.not_false, eq_self, true_or, or_true, hl, i10, hc, ep, e2]) <;> with_reducible rfl))) | (with_reducible apply q_ifp; · (first | ((simp (disch := omega) only [jI_lit, jI_neg, jI_add, jI_sub, jI_mul, jI_lt, jI_le, jI_eq, va_up_self, va_up_ne, jI_shr1, jI_shr4, jI_shr0, jI_and1, jI_and15, jF_at, tn, b2_t, b2_f, cmp_ge, cmp_gt, cmp_le, cmp_lt, cmp_eq, jL_lit, jL_lt, jL_le, jL_eq, hl, i10, hc, ep, e2]) <;> omega) | omega)) | (with_reducible apply q_ifn; · (first | ((simp (disch := omega) only [jI_lit, jI_neg, jI_add, jI_sub, jI_mul, jI_lt, jI_le, jI_eq, va_up_self, va_up_ne, jI_shr1, jI_shr4, jI_shr0, jI_and1, jI_and15, jF_at, tn, b2_t, b2_f, cmp_ge, cmp_gt, cmp_le, cmp_lt, cmp_eq, jL_lit, jL_lt, jL_le, jL_eq, hl, i10, hc, ep, e2]) <;> omega) | omega)) | (with_reducible apply q_obk; · (first | with_reducible rfl | ((simp (disch := omega) only [jI_lit, jI_neg, jI_add, jI_sub, jI_mul, o_gI, o_gR, o_pI, o_pZ0, o_pZ1, o_pZb, o_pR, o_aI, o_qI, o_aN, tn, va_up_self, va_up_ne, upup, jI_shr1, jI_shr4, jI_shr0, jI_and1, jI_and15, jI_join, jI_240, jI_hi, jF_at, jF_up, jI_max, jI_min, b2_t, b2_f, Bool.not_true, Bool.not_false, eq_self, true_or, or_true, hl, i10, hc, ep, e2]) <;> with_reducible rfl))) | (with_reducible apply q_nz; · (first | ((simp (disch := omega) only [jI_lit, jI_neg, jI_add, jI_sub, jI_mul, jI_lt, jI_le, jI_eq, va_up_self, va_up_ne, jI_shr1, jI_shr4, jI_shr0, jI_and1, jI_and15, jF_at, tn, b2_t, b2_f, cmp_ge, cmp_gt, cmp_le, cmp_lt, cmp_eq, jL_lit, jL_lt, jL_le, jL_eq, hl, i10, hc, ep, e2]) <;> omega) | omega)) | (with_reducible apply q_rz; · (first | exact b2_01 _ | decide)))) <;> (first | with_reducible rfl | ((simp (disch := omega) only [jI_lit, jI_neg, jI_add, jI_sub, jI_mul, o_gI, o_gR, o_pI, o_pZ0, o_pZ1, o_pZb, o_pR, o_aI, o_qI, o_aN, tn, va_up_self, va_up_ne, upup, jI_shr1, jI_shr4, jI_shr0, jI_and1, jI_and15, jI_join, jI_240, jI_hi, jF_at, jF_up, jI_max, jI_min, b2_t, b2_f, Bool.not_true, Bool.not_false, eq_self, true_or, or_true, hl, i10, hc, ep, e2]) <;> with_reducible rfl) | rfl))
  · intro s hs kk
    obtain ⟨I1, R1, L1⟩ := s
    obtain ⟨p1, st1, iv1⟩ := hs
    refine ⟨I1, R1, L1, ?_, p1, st1, iv1⟩
    show fX8_readInstruction_102 kk a ia st (jI (ln : Int)) (K, I1, R1, L1, N, w) = _
    clear hg hi h p1 iv1 st1 hat hst hln
    unfold fX8_readInstruction_102
    ((repeat (first | (with_reducible apply q_gd; · (first | assumption | omega)) | (with_reducible apply q_ob; · (first | with_reducible rfl | ((simp (disch := omega) only [jI_lit, jI_neg, jI_add, jI_sub, jI_mul, o_gI, o_gR, o_pI, o_pZ0, o_pZ1, o_pZb, o_pR, o_aI, o_qI, o_aN, tn, va_up_self, va_up_ne, upup, jI_shr1, jI_shr4, jI_shr0, jI_and1, jI_and15, jI_join, jI_240, jI_hi, jF_at, jF_up, jI_max, jI_min, b2_t, b2_f, Bool.not_true, Bool.not_false, eq_self, true_or, or_true, hl]) <;> with_reducible rfl))) | (with_reducible apply q_ob2; · (first | with_reducible rfl | ((simp (disch := omega) only [jI_lit, jI_neg, jI_add, jI_sub, jI_mul, o_gI, o_gR, o_pI, o_pZ0, o_pZ1, o_pZb, o_pR, o_aI, o_qI, o_aN, tn, va_up_self, va_up_ne, upup, jI_shr1, jI_shr4, jI_shr0, jI_and1, jI_and15, jI_join, jI_240, jI_hi, jF_at, jF_up, jI_max, jI_min, b2_t, b2_f, Bool.not_true, Bool.not_false, eq_self, true_or, or_true, hl]) <;> with_reducible rfl))) | (with_reducible apply q_lt; · (first | with_reducible rfl | ((simp (disch := omega) only [jI_lit, jI_neg, jI_add, jI_sub, jI_mul, o_gI, o_gR, o_pI, o_pZ0, o_pZ1, o_pZb, o_pR, o_aI, o_qI, o_aN, tn, va_up_self, va_up_ne, upup, jI_shr1, jI_shr4, jI_shr0, jI_and1, jI_and15, jI_join, jI_240, jI_hi, jF_at, jF_up, jI_max, jI_min, b2_t, b2_f, Bool.not_true, Bool.not_false, eq_self, true_or, or_true, hl]) <;> with_reducible rfl))) | (with_reducible apply q_ifp; · (first | ((simp (disch := omega) only [jI_lit, jI_neg, jI_add, jI_sub, jI_mul, jI_lt, jI_le, jI_eq, va_up_self, va_up_ne, jI_shr1, jI_shr4, jI_shr0, jI_and1, jI_and15, jF_at, tn, b2_t, b2_f, cmp_ge, cmp_gt, cmp_le, cmp_lt, cmp_eq, jL_lit, jL_lt, jL_le, jL_eq, hl]) <;> omega) | omega)) | (with_reducible apply q_ifn; · (first | ((simp (disch := omega) only [jI_lit, jI_neg, jI_add, jI_sub, jI_mul, jI_lt, jI_le, jI_eq, va_up_self, va_up_ne, jI_shr1, jI_shr4, jI_shr0, jI_and1, jI_and15, jF_at, tn, b2_t, b2_f, cmp_ge, cmp_gt, cmp_le, cmp_lt, cmp_eq, jL_lit, jL_lt, jL_le, jL_eq, hl]) <;> omega) | omega)) | (with_reducible apply q_obk; · (first | with_reducible rfl | ((simp (disch := omega) only [jI_lit, jI_neg, jI_add, jI_sub, jI_mul, o_gI, o_gR, o_pI, o_pZ0, o_pZ1, o_pZb, o_pR, o_aI, o_qI, o_aN, tn, va_up_self, va_up_ne, upup, jI_shr1, jI_shr4, jI_shr0, jI_and1, jI_and15, jI_join, jI_240, jI_hi, jF_at, jF_up, jI_max, jI_min, b2_t, b2_f, Bool.not_true, Bool.not_false, eq_self, true_or, or_true, hl]) <;> with_reducible rfl))) | (with_reducible apply q_nz; · (first | ((simp (disch := omega) only [jI_lit, jI_neg, jI_add, jI_sub, jI_mul, jI_lt, jI_le, jI_eq, va_up_self, va_up_ne, jI_shr1, jI_shr4, jI_shr0, jI_and1, jI_and15, jF_at, tn, b2_t, b2_f, cmp_ge, cmp_gt, cmp_le, cmp_lt, cmp_eq, jL_lit, jL_lt, jL_le, jL_eq, hl]) <;> omega) | omega)) | (with_reducible apply q_rz; · (first | exact b2_01 _ | decide)))) <;> (first | with_reducible rfl | ((simp (disch := omega) only [jI_lit, jI_neg, jI_add, jI_sub, jI_mul, o_gI, o_gR, o_pI, o_pZ0, o_pZ1, o_pZb, o_pR, o_aI, o_qI, o_aN, tn, va_up_self, va_up_ne, upup, jI_shr1, jI_shr4, jI_shr0, jI_and1, jI_and15, jI_join, jI_240, jI_hi, jF_at, jF_up, jI_max, jI_min, b2_t, b2_f, Bool.not_true, Bool.not_false, eq_self, true_or, or_true, hl]) <;> with_reducible rfl) | rfl))
/-- an instruction's fields, new -/
def dfl : Nat → Int := fun j => if j = 2 ∨ j = 5 ∨ j = 10 then -1 else 0
theorem e_irenew {ia W : Nat} (k5 : K ia = 5) : ∃ F, fX5_renew ia W (K, I, R, L, N, w) = some (K, va_up I ia F, va_up R ia (va_up (R ia) 0 W), L, N, w) ∧ ∀ j, 1 ≤ j → j ≤ 10 → F j = jI (dfl j) := by
  refine ⟨va_up (va_up (va_up (va_up (va_up (va_up (va_up (va_up (va_up (va_up (I ia) 1 (jI 0)) 2 (jI (-1))) 3 (jI 0)) 4 (jI 0)) 5 (jI (-1))) 6 (jI 0)) 7 (jI 0)) 8 (jI 0)) 9 (jI 0)) 10 (jI (-1)), ?_, fun j h1 h2 => ?_⟩
  · unfold fX5_renew
    ((repeat (first | (with_reducible apply q_gd; · (first | assumption | omega)) | (with_reducible apply q_ob; · (first | with_reducible rfl | ((simp (disch := omega) only [jI_lit, jI_neg, jI_add, jI_sub, jI_mul, o_gI, o_gR, o_pI, o_pZ0, o_pZ1, o_pZb, o_pR, o_aI, o_qI, o_aN, tn, va_up_self, va_up_ne, upup, jI_shr1, jI_shr4, jI_shr0, jI_and1, jI_and15, jI_join, jI_240, jI_hi, jF_at, jF_up, jI_max, jI_min, b2_t, b2_f, Bool.not_true, Bool.not_false, eq_self, true_or, or_true]) <;> with_reducible rfl))) | (with_reducible apply q_ob2; · (first | with_reducible rfl | ((simp (disch := omega) only [jI_lit, jI_neg, jI_add, jI_sub, jI_mul, o_gI, o_gR, o_pI, o_pZ0, o_pZ1, o_pZb, o_pR, o_aI, o_qI, o_aN, tn, va_up_self, va_up_ne, upup, jI_shr1, jI_shr4, jI_shr0, jI_and1, jI_and15, jI_join, jI_240, jI_hi, jF_at, jF_up, jI_max, jI_min, b2_t, b2_f, Bool.not_true, Bool.not_false, eq_self, true_or, or_true]) <;> with_reducible rfl))) | (with_reducible apply q_lt; · (first | with_reducible rfl | ((simp (disch := omega) only [jI_lit, jI_neg, jI_add, jI_sub, jI_mul, o_gI, o_gR, o_pI, o_pZ0, o_pZ1, o_pZb, o_pR, o_aI, o_qI, o_aN, tn, va_up_self, va_up_ne, upup, jI_shr1, jI_shr4, jI_shr0, jI_and1, jI_and15, jI_join, jI_240, jI_hi, jF_at, jF_up, jI_max, jI_min, b2_t, b2_f, Bool.not_true, Bool.not_false, eq_self, true_or, or_true]) <;> with_reducible rfl))) | (with_reducible apply q_ifp; · (first | ((simp (disch := omega) only [jI_lit, jI_neg, jI_add, jI_sub, jI_mul, jI_lt, jI_le, jI_eq, va_up_self, va_up_ne, jI_shr1, jI_shr4, jI_shr0, jI_and1, jI_and15, jF_at, tn, b2_t, b2_f, cmp_ge, cmp_gt, cmp_le, cmp_lt, cmp_eq, jL_lit, jL_lt, jL_le, jL_eq]) <;> omega) | omega)) | (with_reducible apply q_ifn; · (first | ((simp (disch := omega) only [jI_lit, jI_neg, jI_add, jI_sub, jI_mul, jI_lt, jI_le, jI_eq, va_up_self, va_up_ne, jI_shr1, jI_shr4, jI_shr0, jI_and1, jI_and15, jF_at, tn, b2_t, b2_f, cmp_ge, cmp_gt, cmp_le, cmp_lt, cmp_eq, jL_lit, jL_lt, jL_le, jL_eq]) <;> omega) | omega)) | (with_reducible apply q_obk; · (first | with_reducible rfl | ((simp (disch := omega) only [jI_lit, jI_neg, jI_add, jI_sub, jI_mul, o_gI, o_gR, o_pI, o_pZ0, o_pZ1, o_pZb, o_pR, o_aI, o_qI, o_aN, tn, va_up_self, va_up_ne, upup, jI_shr1, jI_shr4, jI_shr0, jI_and1, jI_and15, jI_join, jI_240, jI_hi, jF_at, jF_up, jI_max, jI_min, b2_t, b2_f, Bool.not_true, Bool.not_false, eq_self, true_or, or_true]) <;> with_reducible rfl))) | (with_reducible apply q_nz; · (first | ((simp (disch := omega) only [jI_lit, jI_neg, jI_add, jI_sub, jI_mul, jI_lt, jI_le, jI_eq, va_up_self, va_up_ne, jI_shr1, jI_shr4, jI_shr0, jI_and1, jI_and15, jF_at, tn, b2_t, b2_f, cmp_ge, cmp_gt, cmp_le, cmp_lt, cmp_eq, jL_lit, jL_lt, jL_le, jL_eq]) <;> omega) | omega)) | (with_reducible apply q_rz; · (first | exact b2_01 _ | decide)))) <;> (first | with_reducible rfl | ((simp (disch := omega) only [jI_lit, jI_neg, jI_add, jI_sub, jI_mul, o_gI, o_gR, o_pI, o_pZ0, o_pZ1, o_pZb, o_pR, o_aI, o_qI, o_aN, tn, va_up_self, va_up_ne, upup, jI_shr1, jI_shr4, jI_shr0, jI_and1, jI_and15, jI_join, jI_240, jI_hi, jF_at, jF_up, jI_max, jI_min, b2_t, b2_f, Bool.not_true, Bool.not_false, eq_self, true_or, or_true]) <;> with_reducible rfl) | rfl))
  · have : j = 1 ∨ j = 2 ∨ j = 3 ∨ j = 4 ∨ j = 5 ∨ j = 6 ∨ j = 7 ∨ j = 8 ∨ j = 9 ∨ j = 10 := by omega
    rcases this with e | e | e | e | e | e | e | e | e | e <;> subst e <;> simp (disch := omega) only [va_up_ne, va_up_self] <;> rfl
/-- a listing's slots -/
def Ln (K : Nat → Nat) (R : Nat → Nat → Nat) (X : Nat) (bad : Nat → Prop) (l : Nat) : Prop :=
  (∀ s, s < 60 → R (l + 1) s ≠ 0 → K (R (l + 1) s) = 5 ∧ ¬ bad (R (l + 1) s) ∧ R (l + 1) s < X) ∧ (∀ s s', s < 60 → s' < 60 → s ≠ s' → R (l + 1) s ≠ 0 → R (l + 1) s ≠ R (l + 1) s')
def nul6 (R : Nat → Nat → Nat) (l : Nat) : Nat := cnt (fun s => R (l + 1) s == 0) 60
theorem e_opened {bad : Nat → Prop} {l m W : Nat} (hl : Ls K R N l) (hn : Ln K R X bad l) (i2 : I l 2 = jI (m : Int)) (hm : m < 60) (hX : l + 2 < X) (h0 : 0 < X) (hK0 : TP Xo Ko K X) (hb : ∀ y, X ≤ y → ¬ bad y) (h1 : X + nul6 R l ≤ C) (h2 : U + 11 * nul6 R l ≤ Z) (hXC : X ≤ C) (hUZ : U ≤ Z) :
    ∃ K' I' R' L' N' X' U' ia, fX6_opened l W (K, I, R, L, N, (X, U, C, Z)) = some (ia, (K', I', R', L', N', (X', U', C, Z))) ∧ ia ≠ 0 ∧ K' ia = 5 ∧ R' (l + 1) m = ia ∧ R' ia 0 = W ∧ (∀ j, 1 ≤ j → j ≤ 10 → I' ia j = jI (dfl j)) ∧ I' l 2 = jI ((m + 1 : Nat) : Int) ∧ Ln K' R' X' bad l ∧
      (∀ y, y < X → K' y = K y) ∧ (∀ y, y < X → N' y = N y) ∧ (∀ y, y < X → L' y = L y) ∧ (∀ y, y < X → y ≠ l + 1 → y ≠ ia → R' y = R y) ∧ (∀ j, j ≠ m → R' (l + 1) j = R (l + 1) j) ∧ (∀ y, y < X → y ≠ l → y ≠ ia → I' y = I y) ∧ X ≤ X' ∧ X' + nul6 R' l = X + nul6 R l ∧ U' + 11 * nul6 R' l = U + 11 * nul6 R l ∧ U ≤ U' ∧ X' ≤ C ∧ U' ≤ Z ∧ TP Xo Ko K' X' ∧ ((R (l + 1) m ≠ 0 ∧ ia = R (l + 1) m) ∨ (R (l + 1) m = 0 ∧ X ≤ ia)) := by
  obtain ⟨k6, r0, r1, k1, n1, k2, n2⟩ := hl
  obtain ⟨hn1, hn2⟩ := hn
  have em : ((m : Int)).toNat = m := by omega
  have e2 : (m : Int) + 1 = ((m + 1 : Nat) : Int) := by omega
  have c60 : jI (m : Int) < 60 := by rw [jI_lit, jI_lt (by omega) (by omega) (by omega) (by omega)]; omega
  by_cases c : R (l + 1) m = 0
  · have hn0 : 1 ≤ nul6 R l := by
      have := cnt_upd (q := fun s => R (l + 1) s == 0) (q' := fun j => if j = m then false else R (l + 1) j == 0) (s := m) (by simpa using c) (by simp) (fun i hi => by simp [hi]) (n := 60) hm
      unfold nul6; omega
    obtain ⟨K1, hK1⟩ : ∃ K1, K1 = va_up K X 5 := ⟨_, rfl⟩
    obtain ⟨N1, hN1⟩ : ∃ N1, N1 = va_up N X 0 := ⟨_, rfl⟩
    obtain ⟨L1, hL1⟩ : ∃ L1, L1 = va_up L X (fun _ => (0 : Int64)) := ⟨_, rfl⟩
    obtain ⟨R2, hR2⟩ : ∃ R2, R2 = va_up (va_up R X (va_up (fun _ => 0) 0 29)) (l + 1) (va_up (R (l + 1)) m X) := ⟨_, rfl⟩
    have en := o_newO (K := K) (I := I) (R := R) (L := L) (N := N) (c := 5) (n := 11) (X := X) (U := U) (C := C) (Z := Z) h0 (by omega) (by omega)
    rw [← hK1, ← hN1, ← hL1] at en
    have k1X : K1 X = 5 := by rw [hK1, va_up_self]
    have K1n : ∀ y, y < X → K1 y = K y := fun y hy => by rw [hK1, va_up_ne _ _ (by omega)]
    have k6' : K1 l = 6 := by rw [K1n l (by omega)]; exact k6
    have k1' : K1 (l + 1) = 104 := by rw [K1n _ (by omega)]; exact k1
    have n1' : N1 (l + 1) = 60 := by rw [hN1, va_up_ne _ _ (by omega)]; exact n1
    obtain ⟨F, er, hF⟩ := e_irenew (I := va_up I X (fun _ => 0)) (R := R2) (L := L1) (N := N1) (w := (X + 1, U + 11, C, Z)) (W := W) k1X
    rw [upup] at er
    have R2l : R2 l = R l := by rw [hR2, va_up_ne _ _ (by omega), va_up_ne _ _ (by omega)]
    have R2s : R2 (l + 1) m = X := by rw [hR2, va_up_self, va_up_self]
    have e39 : fX6_opened_39 l W (K1, va_up I X (fun _ => 0), R2, L1, N1, (X + 1, U + 11, C, Z)) = some (X, (K1, va_up (va_up I X F) l (va_up (I l) 2 (jI ((m + 1 : Nat) : Int))), va_up R2 X (va_up (R2 X) 0 W), L1, N1, (X + 1, U + 11, C, Z))) := by
      have il : (va_up I X (fun _ => (0 : Int32))) l 2 = jI (m : Int) := by rw [va_up_ne _ _ (by omega)]; exact i2
      have il2 : (va_up I X F) l = I l := va_up_ne _ _ (by omega)
      unfold fX6_opened_39
      rw [o_gR k6', o_ob, R2l, r0, o_gI k6', o_ob, il, o_aR k1' (by omega) (by omega) (by omega), o_ob, em, R2s, er, o_obkt, o_gI k6', o_ob, il2, i2, show (1 : Int32) = jI 1 from rfl, jI_add, e2, o_pI k6', o_ob, il2]
    refine ⟨K1, va_up (va_up I X F) l (va_up (I l) 2 (jI ((m + 1 : Nat) : Int))), va_up R2 X (va_up (R2 X) 0 W), L1, N1, X + 1, U + 11, X, ?_, by omega, k1X, ?_, ?_, fun j j1 j2 => ?_, ?_, ⟨fun s hs hs0 => ?_, fun s s' hs hs' hne hs0 => ?_⟩, K1n, fun y hy => by rw [hN1, va_up_ne _ _ (by omega)], fun y hy => by rw [hL1, va_up_ne _ _ (by omega)], fun y hy y1 y2 => ?_, fun j hj => ?_, fun y hy y1 y2 => ?_, by omega, ?_, ?_, by omega, by omega, by omega, TP_nw hK0 (by omega) (by rw [show X + 1 - 1 = X by omega, k1X]; decide), Or.inr ⟨c, Nat.le_refl _⟩⟩
    · rw [← e39]
      have ei : fX5_init X (K1, va_up I X (fun _ => 0), va_up R X (fun _ => 0), L1, N1, (X + 1, U + 11, C, Z)) = some (K1, va_up I X (fun _ => 0), va_up R X (va_up (fun _ => 0) 0 29), L1, N1, (X + 1, U + 11, C, Z)) := by
        unfold fX5_init
        rw [o_gd _ k1X, o_pR k1X, o_ob, upup, va_up_self]
      have eq2 : va_up (va_up R X (va_up (fun _ => 0) 0 29)) (l + 1) (va_up ((va_up R X (va_up (fun _ => 0) 0 29)) (l + 1)) m X) = R2 := by rw [hR2, va_up_ne R _ (show l + 1 ≠ X by omega)]
      unfold fX6_opened
      rw [o_gd _ k6, o_gI k6, o_ob, i2, if_pos c60, o_gR k6, o_ob, r0, o_ob, o_aR k1 (by omega) (by omega) (by omega), o_ob, em, if_pos c, o_ob, o_ob, en, o_ob2, ei, o_obkt, o_qR k1' k1X (by omega) (by omega) (by omega), o_ob, em, eq2]
    · rw [va_up_ne _ _ (by omega)]; exact R2s
    · rw [va_up_self, va_up_self]
    · rw [va_up_ne _ _ (by omega), va_up_self]; exact hF j j1 j2
    · rw [va_up_self, va_up_self]
    · rw [va_up_ne _ _ (by omega)] at hs0 ⊢
      by_cases cs : s = m
      · rw [cs, R2s]; exact ⟨k1X, hb X (Nat.le_refl _), by omega⟩
      · have : R2 (l + 1) s = R (l + 1) s := by rw [hR2, va_up_self, va_up_ne _ _ cs]
        rw [this] at hs0 ⊢
        obtain ⟨a1, a2, a3⟩ := hn1 s hs hs0
        exact ⟨by rw [K1n _ a3]; exact a1, a2, by omega⟩
    · rw [va_up_ne _ _ (by omega)] at hs0 ⊢
      by_cases cs : s = m
      · have : R2 (l + 1) s' = R (l + 1) s' := by rw [hR2, va_up_self, va_up_ne _ _ (by omega)]
        rw [cs, R2s, this]
        by_cases cz : R (l + 1) s' = 0
        · omega
        · have := (hn1 s' hs' cz).2.2; omega
      · have e1 : R2 (l + 1) s = R (l + 1) s := by rw [hR2, va_up_self, va_up_ne _ _ cs]
        rw [e1] at hs0 ⊢
        by_cases cs' : s' = m
        · have := (hn1 s hs hs0).2.2
          rw [cs', R2s]; omega
        · have e2 : R2 (l + 1) s' = R (l + 1) s' := by rw [hR2, va_up_self, va_up_ne _ _ cs']
          rw [e2]; exact hn2 s s' hs hs' hne hs0
    · rw [va_up_ne _ _ y2, hR2, va_up_ne _ _ y1, va_up_ne _ _ y2]
    · rw [va_up_ne _ _ (by omega), hR2, va_up_self, va_up_ne _ _ hj]
    · rw [va_up_ne _ _ y1, va_up_ne _ _ y2]
    · have : nul6 (va_up R2 X (va_up (R2 X) 0 W)) l + 1 = nul6 R l := cnt_upd (s := m) (by simpa using c) (by rw [va_up_ne _ _ (by omega), R2s]; simp; omega) (fun i hi => by rw [va_up_ne _ _ (by omega), hR2, va_up_self, va_up_ne _ _ hi]) hm
      omega
    · have : nul6 (va_up R2 X (va_up (R2 X) 0 W)) l + 1 = nul6 R l := cnt_upd (s := m) (by simpa using c) (by rw [va_up_ne _ _ (by omega), R2s]; simp; omega) (fun i hi => by rw [va_up_ne _ _ (by omega), hR2, va_up_self, va_up_ne _ _ hi]) hm
      omega
  · obtain ⟨ki, bi, xi⟩ := hn1 m hm c
    obtain ⟨ia, hia⟩ : ∃ ia, ia = R (l + 1) m := ⟨_, rfl⟩
    rw [← hia] at ki bi xi c ⊢
    have nil : ia ≠ l := fun q => by rw [q, k6] at ki; omega
    have nil1 : ia ≠ l + 1 := fun q => by rw [q, k1] at ki; omega
    obtain ⟨F, er, hF⟩ := e_irenew (I := I) (R := R) (L := L) (N := N) (w := (X, U, C, Z)) (W := W) ki
    have Rl1 : (va_up R ia (va_up (R ia) 0 W)) (l + 1) = R (l + 1) := va_up_ne _ _ (Ne.symm nil1)
    refine ⟨K, va_up (va_up I ia F) l (va_up (I l) 2 (jI ((m + 1 : Nat) : Int))), va_up R ia (va_up (R ia) 0 W), L, N, X, U, ia, ?_, c, ki, by rw [Rl1, hia], by rw [va_up_self, va_up_self], fun j j1 j2 => by rw [va_up_ne _ _ nil, va_up_self]; exact hF j j1 j2, by rw [va_up_self, va_up_self], ⟨fun s hs hs0 => by rw [Rl1] at hs0 ⊢; exact hn1 s hs hs0, fun s s' hs hs' hne hs0 => by rw [Rl1] at hs0 ⊢; exact hn2 s s' hs hs' hne hs0⟩, fun _ _ => rfl, fun _ _ => rfl, fun _ _ => rfl, fun y _ _ y2 => va_up_ne _ _ y2, fun j _ => by rw [Rl1], fun y _ y1 y2 => by rw [va_up_ne _ _ y1, va_up_ne _ _ y2], Nat.le_refl _, by unfold nul6; rw [Rl1], by unfold nul6; rw [Rl1], Nat.le_refl _, hXC, hUZ, hK0, Or.inl ⟨c, rfl⟩⟩
    have il2 : (va_up I ia F) l = I l := va_up_ne _ _ (Ne.symm nil)
    have c0 : ¬ (R (l + 1) m = 0) := by rw [← hia]; exact c
    have e39 : fX6_opened_39 l W (K, I, R, L, N, (X, U, C, Z)) = some (ia, (K, va_up (va_up I ia F) l (va_up (I l) 2 (jI ((m + 1 : Nat) : Int))), va_up R ia (va_up (R ia) 0 W), L, N, (X, U, C, Z))) := by
      unfold fX6_opened_39
      rw [o_gR k6, o_ob, r0, o_gI k6, o_ob, i2, o_aR k1 (by omega) (by omega) (by omega), o_ob, em, ← hia, er, o_obkt, o_gI k6, o_ob, il2, i2, show (1 : Int32) = jI 1 from rfl, jI_add, e2, o_pI k6, o_ob, il2]
    unfold fX6_opened
    rw [o_gd _ k6, o_gI k6, o_ob, i2, if_pos c60, o_gR k6, o_ob, r0, o_ob, o_aR k1 (by omega) (by omega) (by omega), o_ob, em, if_neg c0]
    exact e39
end INS
