section FS
variable {K : Nat → Nat} {I : Nat → Nat → Int32} {R : Nat → Nat → Nat} {L : Nat → Nat → Int64} {N : Nat → Nat} {w : Nat × Nat × Nat × Nat}
/-- whether a half otherwise bears what is noted -/
def bQ (P : PG) (many : Nat) (nt : Nat → Int) (m : Nat) (r : Nat → Int) (pl j : Nat) : Bool :=
  ((j % 16 : Nat) : Int) != hf r (2 * pl + j / 16) && brn P many nt m (pth r (2 * pl + j / 16) ((j % 16 : Nat) : Int))
def blm (P : PG) (many : Nat) (nt : Nat → Int) (m : Nat) (r : Nat → Int) (pl ln : Nat) (what : Int) : Int :=
  if what = 0 then (cnt (bQ P many nt m r pl) (32 * ln) : Nat) else if what = 1 then fstv pl (bQ P many nt m r pl) (32 * ln) else b2 (brn P many nt m r)
def BI (p x t : Nat) (I : Nat → Nat → Int32) (R : Nat → Nat → Nat) (P : PG) (many : Nat) (nt : Nat → Int) (m : Nat) (r : Nat → Int) (pl j : Nat) (s : (Nat → Nat → Int32) × (Nat → Nat → Nat)) : Prop :=
  Tl s.1 t (cnt (bQ P many nt m r pl) j : Nat) (fstv pl (bQ P many nt m r pl) j) 0 (-1) ∧ Zr s.1 x ∧ (∀ y', (y' < p ∨ p + 15 ≤ y') → y' ≠ x + 1 → y' ≠ t → s.1 y' = I y') ∧ RFr p R s.2
theorem e_bl1 {f p x y t l many nw d na m pl ln i z : Nat} {P : PG} {T what : Int} {r g nt : Nat → Int} {s : (Nat → Nat → Int32) × (Nat → Nat → Nat)} (h : Gd K I R N p l many P) (hf0 : Fs K R N f p x y t) (hw : Ro K R N p nw) (hwx : nw ≠ x) (hwt : nw + 1 ≠ t) (hI : I (nw + 1) = jF (cls r g)) (hd : Dn K I R N d na nt m) (hdo : d < p ∨ p + 15 ≤ d) (hno : na < p ∨ p + 15 ≤ na) (hnx : na ≠ x + 1) (hnt : na ≠ t) (ok : RowOK many T r) (hT : T < 800000) (hpl : pl + ln ≤ 256) (hi : i < 2 * ln) (hz : z < 16)
    (hs : BI p x t I R P many nt m r pl (16 * i + z) s) (k22 : Nat → Nat → Int32 → Int32 → Int32 → Nat → Int32 → Hp → Option (Int32 × Hp)) (k35 : Nat → Nat → Int32 → Int32 → Int32 → Nat → Int32 → Int32 → Hp → Option (Int32 × Hp)) :
    ∃ s', BI p x t I R P many nt m r pl (16 * i + (z + 1)) s' ∧ fX4_blame_35 k22 k35 f d (jI (pl : Int)) (jI (ln : Int)) (jI what) nw (jI ((2 * pl + i : Nat) : Int)) (jI (z : Int)) (K, s.1, s.2, L, N, w) = k35 f d (jI (pl : Int)) (jI (ln : Int)) (jI what) nw (jI ((2 * pl + i : Nat) : Int)) (jI ((z + 1 : Nat) : Int)) (K, s'.1, s'.2, L, N, w) := by
  obtain ⟨I1, R1⟩ := s
  obtain ⟨ht, hzx, hfr, hR⟩ := hs
  have ht : Tl I1 t (cnt (bQ P many nt m r pl) (16 * i + z) : Nat) (fstv pl (bQ P many nt m r pl) (16 * i + z)) 0 (-1) := ht
  have hzx : Zr I1 x := hzx
  have hfr : ∀ y', (y' < p ∨ p + 15 ≤ y') → y' ≠ x + 1 → y' ≠ t → I1 y' = I y' := hfr
  have hR : RFr p R R1 := hR
  have hf2 := Fs_fr h hf0 hR
  have hw1 := Ro_fr h hw hR
  have kd2 := hd.1
  obtain ⟨k4, f0, f1, f2, f3, hx1, hy1, kt, ntt, hto, htx, hty, hxy, hfo⟩ := id hf2
  have ndx : d ≠ x + 1 := fun e => by rw [e, hx1.1.2.2.1] at kd2; omega
  have ndt : d ≠ t := fun e => by rw [e, kt] at kd2; omega
  have hI1 : I1 (nw + 1) = jF (cls r g) := by rw [hfr (nw + 1) (by have := hw.2; omega) (by omega) hwt]; exact hI
  obtain ⟨hh, ehh⟩ : ∃ hh, hh = 2 * pl + i := ⟨_, rfl⟩
  have hh5 : hh < 512 := by omega
  have em1 : (16 * i + z) % 16 = z := by omega
  have em2 : 2 * pl + (16 * i + z) / 16 = hh := by omega
  have qv : bQ P many nt m r pl (16 * i + z) = (((z : Nat) : Int) != hf r hh && brn P many nt m (pth r hh ((z : Nat) : Int))) := by
    unfold bQ; rw [em1, em2]
  have e2 : (z : Int) + 1 = ((z + 1 : Nat) : Int) := by omega
  have eA : 16 * i + (z + 1) = 16 * i + z + 1 := by omega
  have hr16 := hf_lt ok.1 hh5
  rw [← ehh]
  have eb := e_cpR (L := L) (w := w) hx1.1 hw1.1 hI1 hzx
  have ep := e_pth (I := I1) (L := L) (w := w) (g := g) (z := (z : Int)) hx1.1 ok.1 hh5 (by omega) (by omega)
  obtain ⟨v, hv⟩ : ∃ v, v = pth r hh (z : Int) := ⟨_, rfl⟩
  rw [← hv] at ep qv
  have okv : RowOK many T v := by rw [hv]; exact RowOK_pth ok hh5 (by omega) (by omega)
  obtain ⟨I2, hI2⟩ : ∃ I2, I2 = va_up I1 (x + 1) (jF (cls v g)) := ⟨_, rfl⟩
  rw [← hI2] at ep
  have hI2x : I2 (x + 1) = jF (cls v g) := by rw [hI2, va_up_self]
  have hI2n : ∀ y', y' ≠ x + 1 → I2 y' = I1 y' := fun y' q => by rw [hI2, va_up_ne _ _ q]
  have eh := e_half (I := I2) (L := L) (w := w) hw1.1 (by rw [hI2n (nw + 1) (by omega)]; exact hI1) (cls_byt ok.1) (z := (hh : Int)) (by omega) (by omega)
  rw [show ((hh : Int)).toNat = hh by omega, hf_cls hh5] at eh
  have hz2 : Zr I2 x := Zr_of hI2x
  by_cases c : (z : Int) = hf r hh
  · have q0 : bQ P many nt m r pl (16 * i + z) = false := by rw [qv]; simp [c]
    refine ⟨(I2, R1), ⟨?_, hz2, fun y' a b c => (hI2n y' b).trans (hfr y' a b c), hR⟩, ?_⟩
    · rw [eA, cnt_f q0, fstv_f q0]
      unfold Tl at ht ⊢
      show I2 t 0 = _ ∧ I2 t 1 = _ ∧ I2 t 2 = _ ∧ I2 t 3 = _
      rw [hI2n t htx]
      exact ht
    · show fX4_blame_35 k22 k35 f d (jI (pl : Int)) (jI (ln : Int)) (jI what) nw (jI (hh : Int)) (jI (z : Int)) (K, I1, R1, L, N, w) = k35 f d (jI (pl : Int)) (jI (ln : Int)) (jI what) nw (jI (hh : Int)) (jI ((z + 1 : Nat) : Int)) (K, I2, R1, L, N, w)
      rw [← c] at eh
      clear ht hzx hfr hR qv q0 h hf0 hw hI ok hw1 hx1 hy1 hI1 c em1 em2 eA ehh hr16 hd okv hI2 hI2x hI2n hz2 hv hf2
      unfold fX4_blame_35
      ((repeat (first | (with_reducible apply q_gd; · (first | assumption | omega)) | (with_reducible apply q_ob; · (first | with_reducible rfl | ((simp (disch := omega) only [jI_lit, jI_neg, jI_add, jI_sub, jI_mul, o_gI, o_gR, o_pI, o_pZ0, o_pZ1, o_pZb, o_pR, o_aI, o_qI, o_aN, tn, va_up_self, va_up_ne, upup, jI_shr1, jI_shr4, jI_shr0, jI_and1, jI_and15, jI_join, jI_240, jI_hi, jF_at, jF_up, jI_max, jI_min, b2_t, b2_f, Bool.not_true, Bool.not_false, eq_self, true_or, or_true, f1, eb, ep, eh, e2]) <;> with_reducible rfl))) | (with_reducible apply q_ob2; · (first | with_reducible rfl | ((simp (disch := omega) only [jI_lit, jI_neg, jI_add, jI_sub, jI_mul, o_gI, o_gR, o_pI, o_pZ0, o_pZ1, o_pZb, o_pR, o_aI, o_qI, o_aN, tn, va_up_self, va_up_ne, upup, jI_shr1, jI_shr4, jI_shr0, jI_and1, jI_and15, jI_join, jI_240, jI_hi, jF_at, jF_up, jI_max, jI_min, b2_t, b2_f, Bool.not_true, Bool.not_false, eq_self, true_or, or_true, f1, eb, ep, eh, e2]) <;> with_reducible rfl))) | (with_reducible apply q_lt; · (first | with_reducible rfl | ((simp (disch := omega) only [jI_lit, jI_neg, jI_add, jI_sub, jI_mul, o_gI, o_gR, o_pI, o_pZ0, o_pZ1, o_pZb, o_pR, o_aI, o_qI, o_aN, tn, va_up_self, va_up_ne, upup, jI_shr1, jI_shr4, jI_shr0, jI_and1, jI_and15, jI_join, jI_240, jI_hi, jF_at, jF_up, jI_max, jI_min, b2_t, b2_f, Bool.not_true, Bool.not_false, eq_self, true_or, or_true, f1, eb, ep, eh, e2]) <;> with_reducible rfl))) | (with_reducible apply q_ifp; · (first | ((simp (disch := omega) only [jI_lit, jI_neg, jI_add, jI_sub, jI_mul, jI_lt, jI_le, jI_eq, va_up_self, va_up_ne, jI_shr1, jI_shr4, jI_shr0, jI_and1, jI_and15, jF_at, tn, b2_t, b2_f, cmp_ge, cmp_gt, cmp_le, cmp_lt, cmp_eq, jL_lit, jL_lt, jL_le, jL_eq, f1, eb, ep, eh, e2]) <;> omega) | omega)) | (with_reducible apply q_ifn; · (first | ((simp (disch := omega) only [jI_lit, jI_neg, jI_add, jI_sub, jI_mul, jI_lt, jI_le, jI_eq, va_up_self, va_up_ne, jI_shr1, jI_shr4, jI_shr0, jI_and1, jI_and15, jF_at, tn, b2_t, b2_f, cmp_ge, cmp_gt, cmp_le, cmp_lt, cmp_eq, jL_lit, jL_lt, jL_le, jL_eq, f1, eb, ep, eh, e2]) <;> omega) | omega)) | (with_reducible apply q_obk; · (first | with_reducible rfl | ((simp (disch := omega) only [jI_lit, jI_neg, jI_add, jI_sub, jI_mul, o_gI, o_gR, o_pI, o_pZ0, o_pZ1, o_pZb, o_pR, o_aI, o_qI, o_aN, tn, va_up_self, va_up_ne, upup, jI_shr1, jI_shr4, jI_shr0, jI_and1, jI_and15, jI_join, jI_240, jI_hi, jF_at, jF_up, jI_max, jI_min, b2_t, b2_f, Bool.not_true, Bool.not_false, eq_self, true_or, or_true, f1, eb, ep, eh, e2]) <;> with_reducible rfl))) | (with_reducible apply q_nz; · (first | ((simp (disch := omega) only [jI_lit, jI_neg, jI_add, jI_sub, jI_mul, jI_lt, jI_le, jI_eq, va_up_self, va_up_ne, jI_shr1, jI_shr4, jI_shr0, jI_and1, jI_and15, jF_at, tn, b2_t, b2_f, cmp_ge, cmp_gt, cmp_le, cmp_lt, cmp_eq, jL_lit, jL_lt, jL_le, jL_eq, f1, eb, ep, eh, e2]) <;> omega) | omega)) | (with_reducible apply q_rz; · (first | exact b2_01 _ | decide)))) <;> (first | with_reducible rfl | ((simp (disch := omega) only [jI_lit, jI_neg, jI_add, jI_sub, jI_mul, o_gI, o_gR, o_pI, o_pZ0, o_pZ1, o_pZb, o_pR, o_aI, o_qI, o_aN, tn, va_up_self, va_up_ne, upup, jI_shr1, jI_shr4, jI_shr0, jI_and1, jI_and15, jI_join, jI_240, jI_hi, jF_at, jF_up, jI_max, jI_min, b2_t, b2_f, Bool.not_true, Bool.not_false, eq_self, true_or, or_true, f1, eb, ep, eh, e2]) <;> with_reducible rfl) | rfl))
  · have hg2 : Gd K I2 R1 N p l many P := Gd_fr h (fun y' a b => by
      rw [hI2n y' (fun e => b (by rw [e]; exact hx1.1.2.2.1)), hfr y' a (fun e => b (by rw [e]; exact hx1.1.2.2.1)) (fun e => b (by rw [e]; exact kt))]) hR
    have hd2 : Dn K I2 R1 N d na nt m := Dn_fr (x := x) h hd (by rw [hI2n d ndx, hfr d hdo ndx ndt]) (by rw [hI2n na hnx, hfr na hno hnx hnt]) hR
    obtain ⟨I3, R3, u, er, hp3⟩ := e_bears (L := L) (w := w) hg2 hf2 hd2 hdo hno hnx hI2x okv hT
    have qv2 : bQ P many nt m r pl (16 * i + z) = brn P many nt m v := by rw [qv]; simp [c]
    obtain ⟨⟨g3, hg3⟩, hfr3, hR3⟩ := hp3
    have hf3 := Fs_fr hg2 hf2 hR3
    obtain ⟨A, hA⟩ : ∃ A, A = brn P many nt m v := ⟨_, rfl⟩
    rw [← hA] at qv2 er
    have ht3 : I3 t = I1 t := by rw [hfr3 t hto htx, hI2n t htx]
    have ht3' : Tl I3 t (cnt (bQ P many nt m r pl) (16 * i + z) : Nat) (fstv pl (bQ P many nt m r pl) (16 * i + z)) 0 (-1) := by
      unfold Tl at ht ⊢; rw [ht3]; exact ht
    have fr3 : ∀ y', (y' < p ∨ p + 15 ≤ y') → y' ≠ x + 1 → y' ≠ t → I3 y' = I y' := fun y' a1 a2 a4 => by rw [hfr3 y' a1 a2, hI2n y' a2, hfr y' a1 a2 a4]
    have f13 := hf3.2.2.1
    have f33 := hf3.2.2.2.2.1
    obtain ⟨hv0, ehv0⟩ : ∃ q, q = hf r hh := ⟨_, rfl⟩
    rw [← ehv0] at eh c hr16
    cases A with
    | false =>
      refine ⟨(I3, R3), ⟨?_, Zr_of hg3, fr3, RFr_tr hR hR3⟩, ?_⟩
      · rw [eA, cnt_f qv2, fstv_f qv2]; exact ht3'
      · show fX4_blame_35 k22 k35 f d (jI (pl : Int)) (jI (ln : Int)) (jI what) nw (jI (hh : Int)) (jI (z : Int)) (K, I1, R1, L, N, w) = k35 f d (jI (pl : Int)) (jI (ln : Int)) (jI what) nw (jI (hh : Int)) (jI ((z + 1 : Nat) : Int)) (K, I3, R3, L, N, w)
        rw [b2_f] at er
        clear ht hzx hfr hR qv h hf0 hw hI ok hw1 hx1 hy1 hI1 em1 em2 eA ehh okv hg2 hf2 qv2 hg3 hfr3 hR3 hf3 ht3 ht3' hI2 hA hv ehv0 hd hd2 hI2x hI2n hz2 fr3
        unfold fX4_blame_35
        ((repeat (first | (with_reducible apply q_gd; · (first | assumption | omega)) | (with_reducible apply q_ob; · (first | with_reducible rfl | ((simp (disch := omega) only [jI_lit, jI_neg, jI_add, jI_sub, jI_mul, o_gI, o_gR, o_pI, o_pZ0, o_pZ1, o_pZb, o_pR, o_aI, o_qI, o_aN, tn, va_up_self, va_up_ne, upup, jI_shr1, jI_shr4, jI_shr0, jI_and1, jI_and15, jI_join, jI_240, jI_hi, jF_at, jF_up, jI_max, jI_min, b2_t, b2_f, Bool.not_true, Bool.not_false, eq_self, true_or, or_true, f1, eb, ep, eh, er, e2]) <;> with_reducible rfl))) | (with_reducible apply q_ob2; · (first | with_reducible rfl | ((simp (disch := omega) only [jI_lit, jI_neg, jI_add, jI_sub, jI_mul, o_gI, o_gR, o_pI, o_pZ0, o_pZ1, o_pZb, o_pR, o_aI, o_qI, o_aN, tn, va_up_self, va_up_ne, upup, jI_shr1, jI_shr4, jI_shr0, jI_and1, jI_and15, jI_join, jI_240, jI_hi, jF_at, jF_up, jI_max, jI_min, b2_t, b2_f, Bool.not_true, Bool.not_false, eq_self, true_or, or_true, f1, eb, ep, eh, er, e2]) <;> with_reducible rfl))) | (with_reducible apply q_lt; · (first | with_reducible rfl | ((simp (disch := omega) only [jI_lit, jI_neg, jI_add, jI_sub, jI_mul, o_gI, o_gR, o_pI, o_pZ0, o_pZ1, o_pZb, o_pR, o_aI, o_qI, o_aN, tn, va_up_self, va_up_ne, upup, jI_shr1, jI_shr4, jI_shr0, jI_and1, jI_and15, jI_join, jI_240, jI_hi, jF_at, jF_up, jI_max, jI_min, b2_t, b2_f, Bool.not_true, Bool.not_false, eq_self, true_or, or_true, f1, eb, ep, eh, er, e2]) <;> with_reducible rfl))) | (with_reducible apply q_ifp; · (first | ((simp (disch := omega) only [jI_lit, jI_neg, jI_add, jI_sub, jI_mul, jI_lt, jI_le, jI_eq, va_up_self, va_up_ne, jI_shr1, jI_shr4, jI_shr0, jI_and1, jI_and15, jF_at, tn, b2_t, b2_f, cmp_ge, cmp_gt, cmp_le, cmp_lt, cmp_eq, jL_lit, jL_lt, jL_le, jL_eq, f1, eb, ep, eh, er, e2]) <;> omega) | omega)) | (with_reducible apply q_ifn; · (first | ((simp (disch := omega) only [jI_lit, jI_neg, jI_add, jI_sub, jI_mul, jI_lt, jI_le, jI_eq, va_up_self, va_up_ne, jI_shr1, jI_shr4, jI_shr0, jI_and1, jI_and15, jF_at, tn, b2_t, b2_f, cmp_ge, cmp_gt, cmp_le, cmp_lt, cmp_eq, jL_lit, jL_lt, jL_le, jL_eq, f1, eb, ep, eh, er, e2]) <;> omega) | omega)) | (with_reducible apply q_obk; · (first | with_reducible rfl | ((simp (disch := omega) only [jI_lit, jI_neg, jI_add, jI_sub, jI_mul, o_gI, o_gR, o_pI, o_pZ0, o_pZ1, o_pZb, o_pR, o_aI, o_qI, o_aN, tn, va_up_self, va_up_ne, upup, jI_shr1, jI_shr4, jI_shr0, jI_and1, jI_and15, jI_join, jI_240, jI_hi, jF_at, jF_up, jI_max, jI_min, b2_t, b2_f, Bool.not_true, Bool.not_false, eq_self, true_or, or_true, f1, eb, ep, eh, er, e2]) <;> with_reducible rfl))) | (with_reducible apply q_nz; · (first | ((simp (disch := omega) only [jI_lit, jI_neg, jI_add, jI_sub, jI_mul, jI_lt, jI_le, jI_eq, va_up_self, va_up_ne, jI_shr1, jI_shr4, jI_shr0, jI_and1, jI_and15, jF_at, tn, b2_t, b2_f, cmp_ge, cmp_gt, cmp_le, cmp_lt, cmp_eq, jL_lit, jL_lt, jL_le, jL_eq, f1, eb, ep, eh, er, e2]) <;> omega) | omega)) | (with_reducible apply q_rz; · (first | exact b2_01 _ | decide)))) <;> (first | with_reducible rfl | ((simp (disch := omega) only [jI_lit, jI_neg, jI_add, jI_sub, jI_mul, o_gI, o_gR, o_pI, o_pZ0, o_pZ1, o_pZb, o_pR, o_aI, o_qI, o_aN, tn, va_up_self, va_up_ne, upup, jI_shr1, jI_shr4, jI_shr0, jI_and1, jI_and15, jI_join, jI_240, jI_hi, jF_at, jF_up, jI_max, jI_min, b2_t, b2_f, Bool.not_true, Bool.not_false, eq_self, true_or, or_true, f1, eb, ep, eh, er, e2]) <;> with_reducible rfl) | rfl))
    | true =>
      have fr := fstv_r (pl := pl) (m := 16 * i + z) (q := bQ P many nt m r pl) (by omega) (by omega)
      rw [b2_t] at er
      obtain ⟨t0, t1, t2, t3⟩ := ht3'
      obtain ⟨c0, ec0⟩ : ∃ c0 : Int, c0 = (cnt (bQ P many nt m r pl) (16 * i + z) : Nat) := ⟨_, rfl⟩
      obtain ⟨c1, ec1⟩ : ∃ c1, c1 = fstv pl (bQ P many nt m r pl) (16 * i + z) := ⟨_, rfl⟩
      have e5 : (100 * (2 * (pl : Int) + ((16 * i + z : Nat) : Int) / 16) + ((16 * i + z : Nat) : Int) % 16) = 100 * (hh : Int) + (z : Int) := by omega
      have hst := fstv_t (pl := pl) qv2
      have hct := cnt_t qv2
      rw [← ec1, e5] at hst
      rw [← ec0] at t0
      rw [← ec1] at t1 fr
      have hc0 : ((cnt (bQ P many nt m r pl) (16 * i + z + 1) : Nat) : Int) = c0 + 1 := by rw [hct, ec0]; omega
      refine ⟨(va_up I3 t (va_up (va_up (I3 t) 0 (jI (c0 + 1))) 1 (jI (if c1 = -1 then 100 * (hh : Int) + (z : Int) else c1))), R3), ⟨?_, ?_, fun y' a1 a2 a4 => ?_, RFr_tr hR hR3⟩, ?_⟩
      · rw [eA, hc0, hst]
        unfold Tl
        show va_up I3 t _ t 0 = _ ∧ va_up I3 t _ t 1 = _ ∧ va_up I3 t _ t 2 = _ ∧ va_up I3 t _ t 3 = _
        rw [va_up_self]
        refine ⟨?_, ?_, ?_, ?_⟩
        · rw [va_up_ne _ _ (by omega), va_up_self]
        · rw [va_up_self]
        · rw [va_up_ne _ _ (by omega), va_up_ne _ _ (by omega)]; exact t2
        · rw [va_up_ne _ _ (by omega), va_up_ne _ _ (by omega)]; exact t3
      · have : (va_up I3 t (va_up (va_up (I3 t) 0 (jI (c0 + 1))) 1 (jI (if c1 = -1 then 100 * (hh : Int) + (z : Int) else c1)))) (x + 1) = jF (cls u g3) := by rw [va_up_ne _ _ (Ne.symm htx)]; exact hg3
        exact Zr_of this
      · show va_up I3 t _ y' = _
        rw [va_up_ne _ _ a4]
        exact fr3 y' a1 a2 a4
      · show fX4_blame_35 k22 k35 f d (jI (pl : Int)) (jI (ln : Int)) (jI what) nw (jI (hh : Int)) (jI (z : Int)) (K, I1, R1, L, N, w) = k35 f d (jI (pl : Int)) (jI (ln : Int)) (jI what) nw (jI (hh : Int)) (jI ((z + 1 : Nat) : Int)) (K, va_up I3 t (va_up (va_up (I3 t) 0 (jI (c0 + 1))) 1 (jI (if c1 = -1 then 100 * (hh : Int) + (z : Int) else c1))), R3, L, N, w)
        clear ht hzx hfr hR qv h hf0 hw hI ok hw1 hx1 hy1 hI1 em1 em2 eA ehh okv hg2 hf2 qv2 hg3 hfr3 hR3 hf3 ht3 hI2 hA hv ehv0 hd hd2 hI2x hI2n hz2 fr3 ec0 ec1 hst hct hc0 e5 t2 t3
        by_cases c3 : c1 = -1
        · rw [if_pos c3]
          subst c3
          unfold fX4_blame_35 fX4_blame_124
          ((repeat (first | (with_reducible apply q_gd; · (first | assumption | omega)) | (with_reducible apply q_ob; · (first | with_reducible rfl | ((simp (disch := omega) only [jI_lit, jI_neg, jI_add, jI_sub, jI_mul, o_gI, o_gR, o_pI, o_pZ0, o_pZ1, o_pZb, o_pR, o_aI, o_qI, o_aN, tn, va_up_self, va_up_ne, upup, jI_shr1, jI_shr4, jI_shr0, jI_and1, jI_and15, jI_join, jI_240, jI_hi, jF_at, jF_up, jI_max, jI_min, b2_t, b2_f, Bool.not_true, Bool.not_false, eq_self, true_or, or_true, f1, eb, ep, eh, er, e2, f33, ntt, t0, t1]) <;> with_reducible rfl))) | (with_reducible apply q_ob2; · (first | with_reducible rfl | ((simp (disch := omega) only [jI_lit, jI_neg, jI_add, jI_sub, jI_mul, o_gI, o_gR, o_pI, o_pZ0, o_pZ1, o_pZb, o_pR, o_aI, o_qI, o_aN, tn, va_up_self, va_up_ne, upup, jI_shr1, jI_shr4, jI_shr0, jI_and1, jI_and15, jI_join, jI_240, jI_hi, jF_at, jF_up, jI_max, jI_min, b2_t, b2_f, Bool.not_true, Bool.not_false, eq_self, true_or, or_true, f1, eb, ep, eh, er, e2, f33, ntt, t0, t1]) <;> with_reducible rfl))) | (with_reducible apply q_lt; · (first | with_reducible rfl | ((simp (disch := omega) only [jI_lit, jI_neg, jI_add, jI_sub, jI_mul, o_gI, o_gR, o_pI, o_pZ0, o_pZ1, o_pZb, o_pR, o_aI, o_qI, o_aN, tn, va_up_self, va_up_ne, upup, jI_shr1, jI_shr4, jI_shr0, jI_and1, jI_and15, jI_join, jI_240, jI_hi, jF_at, jF_up, jI_max, jI_min, b2_t, b2_f, Bool.not_true, Bool.not_false, eq_self, true_or, or_true, f1, eb, ep, eh, er, e2, f33, ntt, t0, t1]) <;> with_reducible rfl))) | (with_reducible apply q_ifp; · (first | ((simp (disch := omega) only [jI_lit, jI_neg, jI_add, jI_sub, jI_mul, jI_lt, jI_le, jI_eq, va_up_self, va_up_ne, jI_shr1, jI_shr4, jI_shr0, jI_and1, jI_and15, jF_at, tn, b2_t, b2_f, cmp_ge, cmp_gt, cmp_le, cmp_lt, cmp_eq, jL_lit, jL_lt, jL_le, jL_eq, f1, eb, ep, eh, er, e2, f33, ntt, t0, t1]) <;> omega) | omega)) | (with_reducible apply q_ifn; · (first | ((simp (disch := omega) only [jI_lit, jI_neg, jI_add, jI_sub, jI_mul, jI_lt, jI_le, jI_eq, va_up_self, va_up_ne, jI_shr1, jI_shr4, jI_shr0, jI_and1, jI_and15, jF_at, tn, b2_t, b2_f, cmp_ge, cmp_gt, cmp_le, cmp_lt, cmp_eq, jL_lit, jL_lt, jL_le, jL_eq, f1, eb, ep, eh, er, e2, f33, ntt, t0, t1]) <;> omega) | omega)) | (with_reducible apply q_obk; · (first | with_reducible rfl | ((simp (disch := omega) only [jI_lit, jI_neg, jI_add, jI_sub, jI_mul, o_gI, o_gR, o_pI, o_pZ0, o_pZ1, o_pZb, o_pR, o_aI, o_qI, o_aN, tn, va_up_self, va_up_ne, upup, jI_shr1, jI_shr4, jI_shr0, jI_and1, jI_and15, jI_join, jI_240, jI_hi, jF_at, jF_up, jI_max, jI_min, b2_t, b2_f, Bool.not_true, Bool.not_false, eq_self, true_or, or_true, f1, eb, ep, eh, er, e2, f33, ntt, t0, t1]) <;> with_reducible rfl))) | (with_reducible apply q_nz; · (first | ((simp (disch := omega) only [jI_lit, jI_neg, jI_add, jI_sub, jI_mul, jI_lt, jI_le, jI_eq, va_up_self, va_up_ne, jI_shr1, jI_shr4, jI_shr0, jI_and1, jI_and15, jF_at, tn, b2_t, b2_f, cmp_ge, cmp_gt, cmp_le, cmp_lt, cmp_eq, jL_lit, jL_lt, jL_le, jL_eq, f1, eb, ep, eh, er, e2, f33, ntt, t0, t1]) <;> omega) | omega)) | (with_reducible apply q_rz; · (first | exact b2_01 _ | decide)))) <;> (first | with_reducible rfl | ((simp (disch := omega) only [jI_lit, jI_neg, jI_add, jI_sub, jI_mul, o_gI, o_gR, o_pI, o_pZ0, o_pZ1, o_pZb, o_pR, o_aI, o_qI, o_aN, tn, va_up_self, va_up_ne, upup, jI_shr1, jI_shr4, jI_shr0, jI_and1, jI_and15, jI_join, jI_240, jI_hi, jF_at, jF_up, jI_max, jI_min, b2_t, b2_f, Bool.not_true, Bool.not_false, eq_self, true_or, or_true, f1, eb, ep, eh, er, e2, f33, ntt, t0, t1]) <;> with_reducible rfl) | rfl))
        · rw [if_neg c3]
          unfold fX4_blame_35 fX4_blame_124
          ((repeat (first | (with_reducible apply q_gd; · (first | assumption | omega)) | (with_reducible apply q_ob; · (first | with_reducible rfl | ((simp (disch := omega) only [jI_lit, jI_neg, jI_add, jI_sub, jI_mul, o_gI, o_gR, o_pI, o_pZ0, o_pZ1, o_pZb, o_pR, o_aI, o_qI, o_aN, tn, va_up_self, va_up_ne, upup, jI_shr1, jI_shr4, jI_shr0, jI_and1, jI_and15, jI_join, jI_240, jI_hi, jF_at, jF_up, jI_max, jI_min, b2_t, b2_f, Bool.not_true, Bool.not_false, eq_self, true_or, or_true, f1, eb, ep, eh, er, e2, f33, ntt, t0, t1]) <;> with_reducible rfl))) | (with_reducible apply q_ob2; · (first | with_reducible rfl | ((simp (disch := omega) only [jI_lit, jI_neg, jI_add, jI_sub, jI_mul, o_gI, o_gR, o_pI, o_pZ0, o_pZ1, o_pZb, o_pR, o_aI, o_qI, o_aN, tn, va_up_self, va_up_ne, upup, jI_shr1, jI_shr4, jI_shr0, jI_and1, jI_and15, jI_join, jI_240, jI_hi, jF_at, jF_up, jI_max, jI_min, b2_t, b2_f, Bool.not_true, Bool.not_false, eq_self, true_or, or_true, f1, eb, ep, eh, er, e2, f33, ntt, t0, t1]) <;> with_reducible rfl))) | (with_reducible apply q_lt; · (first | with_reducible rfl | ((simp (disch := omega) only [jI_lit, jI_neg, jI_add, jI_sub, jI_mul, o_gI, o_gR, o_pI, o_pZ0, o_pZ1, o_pZb, o_pR, o_aI, o_qI, o_aN, tn, va_up_self, va_up_ne, upup, jI_shr1, jI_shr4, jI_shr0, jI_and1, jI_and15, jI_join, jI_240, jI_hi, jF_at, jF_up, jI_max, jI_min, b2_t, b2_f, Bool.not_true, Bool.not_false, eq_self, true_or, or_true, f1, eb, ep, eh, er, e2, f33, ntt, t0, t1]) <;> with_reducible rfl))) | (with_reducible apply q_ifp; · (first | ((simp (disch := omega) only [jI_lit, jI_neg, jI_add, jI_sub, jI_mul, jI_lt, jI_le, jI_eq, va_up_self, va_up_ne, jI_shr1, jI_shr4, jI_shr0, jI_and1, jI_and15, jF_at, tn, b2_t, b2_f, cmp_ge, cmp_gt, cmp_le, cmp_lt, cmp_eq, jL_lit, jL_lt, jL_le, jL_eq, f1, eb, ep, eh, er, e2, f33, ntt, t0, t1]) <;> omega) | omega)) | (with_reducible apply q_ifn; · (first | ((simp (disch := omega) only [jI_lit, jI_neg, jI_add, jI_sub, jI_mul, jI_lt, jI_le, jI_eq, va_up_self, va_up_ne, jI_shr1, jI_shr4, jI_shr0, jI_and1, jI_and15, jF_at, tn, b2_t, b2_f, cmp_ge, cmp_gt, cmp_le, cmp_lt, cmp_eq, jL_lit, jL_lt, jL_le, jL_eq, f1, eb, ep, eh, er, e2, f33, ntt, t0, t1]) <;> omega) | omega)) | (with_reducible apply q_obk; · (first | with_reducible rfl | ((simp (disch := omega) only [jI_lit, jI_neg, jI_add, jI_sub, jI_mul, o_gI, o_gR, o_pI, o_pZ0, o_pZ1, o_pZb, o_pR, o_aI, o_qI, o_aN, tn, va_up_self, va_up_ne, upup, jI_shr1, jI_shr4, jI_shr0, jI_and1, jI_and15, jI_join, jI_240, jI_hi, jF_at, jF_up, jI_max, jI_min, b2_t, b2_f, Bool.not_true, Bool.not_false, eq_self, true_or, or_true, f1, eb, ep, eh, er, e2, f33, ntt, t0, t1]) <;> with_reducible rfl))) | (with_reducible apply q_nz; · (first | ((simp (disch := omega) only [jI_lit, jI_neg, jI_add, jI_sub, jI_mul, jI_lt, jI_le, jI_eq, va_up_self, va_up_ne, jI_shr1, jI_shr4, jI_shr0, jI_and1, jI_and15, jF_at, tn, b2_t, b2_f, cmp_ge, cmp_gt, cmp_le, cmp_lt, cmp_eq, jL_lit, jL_lt, jL_le, jL_eq, f1, eb, ep, eh, er, e2, f33, ntt, t0, t1]) <;> omega) | omega)) | (with_reducible apply q_rz; · (first | exact b2_01 _ | decide)))) <;> (first | with_reducible rfl | ((simp (disch := omega) only [jI_lit, jI_neg, jI_add, jI_sub, jI_mul, o_gI, o_gR, o_pI, o_pZ0, o_pZ1, o_pZb, o_pR, o_aI, o_qI, o_aN, tn, va_up_self, va_up_ne, upup, jI_shr1, jI_shr4, jI_shr0, jI_and1, jI_and15, jI_join, jI_240, jI_hi, jF_at, jF_up, jI_max, jI_min, b2_t, b2_f, Bool.not_true, Bool.not_false, eq_self, true_or, or_true, f1, eb, ep, eh, er, e2, f33, ntt, t0, t1]) <;> with_reducible rfl) | rfl))
theorem blame_in {f p x y t l many nw d na m pl ln i : Nat} {P : PG} {T what : Int} {r g nt : Nat → Int} {s : (Nat → Nat → Int32) × (Nat → Nat → Nat)} (h : Gd K I R N p l many P) (hf0 : Fs K R N f p x y t) (hw : Ro K R N p nw) (hwx : nw ≠ x) (hwt : nw + 1 ≠ t) (hI : I (nw + 1) = jF (cls r g)) (hd : Dn K I R N d na nt m) (hdo : d < p ∨ p + 15 ≤ d) (hno : na < p ∨ p + 15 ≤ na) (hnx : na ≠ x + 1) (hnt : na ≠ t) (ok : RowOK many T r) (hT : T < 800000) (hpl : pl + ln ≤ 256) (hi : i < 2 * ln)
    (hs : BI p x t I R P many nt m r pl (16 * i + 0) s) (k22 : Nat → Nat → Int32 → Int32 → Int32 → Nat → Int32 → Hp → Option (Int32 × Hp)) :
    ∃ s', BI p x t I R P many nt m r pl (16 * (i + 1)) s' ∧ lp (fun _ _ _ _ _ _ _ _ _ => none) (fX4_blame_35 k22) FU f d (jI (pl : Int)) (jI (ln : Int)) (jI what) nw (jI ((2 * pl + i : Nat) : Int)) (jI ((0 : Nat) : Int)) (K, s.1, s.2, L, N, w) = k22 f d (jI (pl : Int)) (jI (ln : Int)) (jI what) nw (jI ((2 * pl + (i + 1) : Nat) : Int)) (K, s'.1, s'.2, L, N, w) := by
  have key := lp_sr (z := fun _ _ _ _ _ _ _ _ _ => none) (S := fX4_blame_35 k22) (β := Int32 × Hp) (σ := (Nat → Nat → Int32) × (Nat → Nat → Nat)) (fun k z s => k f d (jI (pl : Int)) (jI (ln : Int)) (jI what) nw (jI ((2 * pl + i : Nat) : Int)) (jI (z : Int)) (K, s.1, s.2, L, N, w)) 16
    (fun z s => BI p x t I R P many nt m r pl (16 * i + z) s)
    (fun res => ∃ s', BI p x t I R P many nt m r pl (16 * (i + 1)) s' ∧ res = k22 f d (jI (pl : Int)) (jI (ln : Int)) (jI what) nw (jI ((2 * pl + (i + 1) : Nat) : Int)) (K, s'.1, s'.2, L, N, w)) ?_ ?_ FU 0 s (by omega) (FU_lt (by omega)) hs
  · exact key
  · intro z s hz hs k'
    exact Or.inr (e_bl1 h hf0 hw hwx hwt hI hd hdo hno hnx hnt ok hT hpl hi hz hs k22 k')
  · intro s hs k'
    refine ⟨s, ?_, ?_⟩
    · have e : 16 * (i + 1) = 16 * i + 16 := by omega
      rw [e]; exact hs
    · show fX4_blame_35 k22 k' f d (jI (pl : Int)) (jI (ln : Int)) (jI what) nw (jI ((2 * pl + i : Nat) : Int)) (jI ((16 : Nat) : Int)) (K, s.1, s.2, L, N, w) = _
      have e2 : ((2 * pl + i : Nat) : Int) + 1 = ((2 * pl + (i + 1) : Nat) : Int) := by omega
      clear hs h hf0 hw hI ok hd
      unfold fX4_blame_35
      ((repeat (first | (with_reducible apply q_gd; · (first | assumption | omega)) | (with_reducible apply q_ob; · (first | with_reducible rfl | ((simp (disch := omega) only [jI_lit, jI_neg, jI_add, jI_sub, jI_mul, o_gI, o_gR, o_pI, o_pZ0, o_pZ1, o_pZb, o_pR, o_aI, o_qI, o_aN, tn, va_up_self, va_up_ne, upup, jI_shr1, jI_shr4, jI_shr0, jI_and1, jI_and15, jI_join, jI_240, jI_hi, jF_at, jF_up, jI_max, jI_min, b2_t, b2_f, Bool.not_true, Bool.not_false, eq_self, true_or, or_true, e2]) <;> with_reducible rfl))) | (with_reducible apply q_ob2; · (first | with_reducible rfl | ((simp (disch := omega) only [jI_lit, jI_neg, jI_add, jI_sub, jI_mul, o_gI, o_gR, o_pI, o_pZ0, o_pZ1, o_pZb, o_pR, o_aI, o_qI, o_aN, tn, va_up_self, va_up_ne, upup, jI_shr1, jI_shr4, jI_shr0, jI_and1, jI_and15, jI_join, jI_240, jI_hi, jF_at, jF_up, jI_max, jI_min, b2_t, b2_f, Bool.not_true, Bool.not_false, eq_self, true_or, or_true, e2]) <;> with_reducible rfl))) | (with_reducible apply q_lt; · (first | with_reducible rfl | ((simp (disch := omega) only [jI_lit, jI_neg, jI_add, jI_sub, jI_mul, o_gI, o_gR, o_pI, o_pZ0, o_pZ1, o_pZb, o_pR, o_aI, o_qI, o_aN, tn, va_up_self, va_up_ne, upup, jI_shr1, jI_shr4, jI_shr0, jI_and1, jI_and15, jI_join, jI_240, jI_hi, jF_at, jF_up, jI_max, jI_min, b2_t, b2_f, Bool.not_true, Bool.not_false, eq_self, true_or, or_true, e2]) <;> with_reducible rfl))) | (with_reducible apply q_ifp; · (first | ((simp (disch := omega) only [jI_lit, jI_neg, jI_add, jI_sub, jI_mul, jI_lt, jI_le, jI_eq, va_up_self, va_up_ne, jI_shr1, jI_shr4, jI_shr0, jI_and1, jI_and15, jF_at, tn, b2_t, b2_f, cmp_ge, cmp_gt, cmp_le, cmp_lt, cmp_eq, jL_lit, jL_lt, jL_le, jL_eq, e2]) <;> omega) | omega)) | (with_reducible apply q_ifn; · (first | ((simp (disch := omega) only [jI_lit, jI_neg, jI_add, jI_sub, jI_mul, jI_lt, jI_le, jI_eq, va_up_self, va_up_ne, jI_shr1, jI_shr4, jI_shr0, jI_and1, jI_and15, jF_at, tn, b2_t, b2_f, cmp_ge, cmp_gt, cmp_le, cmp_lt, cmp_eq, jL_lit, jL_lt, jL_le, jL_eq, e2]) <;> omega) | omega)) | (with_reducible apply q_obk; · (first | with_reducible rfl | ((simp (disch := omega) only [jI_lit, jI_neg, jI_add, jI_sub, jI_mul, o_gI, o_gR, o_pI, o_pZ0, o_pZ1, o_pZb, o_pR, o_aI, o_qI, o_aN, tn, va_up_self, va_up_ne, upup, jI_shr1, jI_shr4, jI_shr0, jI_and1, jI_and15, jI_join, jI_240, jI_hi, jF_at, jF_up, jI_max, jI_min, b2_t, b2_f, Bool.not_true, Bool.not_false, eq_self, true_or, or_true, e2]) <;> with_reducible rfl))) | (with_reducible apply q_nz; · (first | ((simp (disch := omega) only [jI_lit, jI_neg, jI_add, jI_sub, jI_mul, jI_lt, jI_le, jI_eq, va_up_self, va_up_ne, jI_shr1, jI_shr4, jI_shr0, jI_and1, jI_and15, jF_at, tn, b2_t, b2_f, cmp_ge, cmp_gt, cmp_le, cmp_lt, cmp_eq, jL_lit, jL_lt, jL_le, jL_eq, e2]) <;> omega) | omega)) | (with_reducible apply q_rz; · (first | exact b2_01 _ | decide)))) <;> (first | with_reducible rfl | ((simp (disch := omega) only [jI_lit, jI_neg, jI_add, jI_sub, jI_mul, o_gI, o_gR, o_pI, o_pZ0, o_pZ1, o_pZb, o_pR, o_aI, o_qI, o_aN, tn, va_up_self, va_up_ne, upup, jI_shr1, jI_shr4, jI_shr0, jI_and1, jI_and15, jI_join, jI_240, jI_hi, jF_at, jF_up, jI_max, jI_min, b2_t, b2_f, Bool.not_true, Bool.not_false, eq_self, true_or, or_true, e2]) <;> with_reducible rfl) | rfl))
theorem e_blm {f p x y t l many nw d na m pl ln : Nat} {P : PG} {T what : Int} {r g nt : Nat → Int} (h : Gd K I R N p l many P) (hf0 : Fs K R N f p x y t) (hw : Ro K R N p nw) (hwx : nw ≠ x) (hwt : nw + 1 ≠ t) (hI : I (nw + 1) = jF (cls r g)) (hzx : Zr I x) (hd : Dn K I R N d na nt m) (hd0 : R d 0 = nw) (hdo : d < p ∨ p + 15 ≤ d) (hno : na < p ∨ p + 15 ≤ na) (hnx : na ≠ x + 1) (hnt : na ≠ t) (ok : RowOK many T r) (hT : T < 800000) (hpl : pl + ln ≤ 256) (w1 : 0 ≤ what) (w2 : what ≤ 2) :
    ∃ I' R', fX4_blame f d (jI (pl : Int)) (jI (ln : Int)) (jI what) (K, I, R, L, N, w) = some (jI (blm P many nt m r pl ln what), (K, I', R', L, N, w)) ∧ (∀ y', (y' < p ∨ p + 15 ≤ y') → y' ≠ x + 1 → y' ≠ t → I' y' = I y') ∧ RFr p R R' ∧ Zr I' x := by
  have hff := hf0
  have kd2 := hd.1
  obtain ⟨k4, f0, f1, f2, f3, hx1, hy1, kt, ntt, hto, htx, hty, hxy, hfo⟩ := hff
  have ndx : d ≠ x + 1 := fun e => by rw [e, hx1.1.2.2.1] at kd2; omega
  have ndt : d ≠ t := fun e => by rw [e, kt] at kd2; omega
  obtain ⟨F, ec, hT0⟩ := e_clearTold (I := I) (L := L) (w := w) hf0
  obtain ⟨I0, hI0⟩ : ∃ I0, I0 = va_up I t F := ⟨_, rfl⟩
  rw [← hI0] at ec hT0
  obtain ⟨I1, hI1⟩ : ∃ I1, I1 = va_up I0 t (va_up (I0 t) 1 (jI (-1))) := ⟨_, rfl⟩
  have hI1n : ∀ y', y' ≠ t → I1 y' = I y' := fun y' q => by rw [hI1, va_up_ne _ _ q, hI0, va_up_ne _ _ q]
  obtain ⟨A, hA⟩ : ∃ A, A = blm P many nt m r pl ln what := ⟨_, rfl⟩
  rw [← hA]
  have s0 : BI p x t I R P many nt m r pl (16 * 0) (I1, R) := by
    refine ⟨?_, fun j hj => ?_, fun y' a1 a2 a4 => hI1n y' a4, RFr_rf _ _⟩
    · obtain ⟨t0, t1, t2, t3⟩ := hT0
      unfold Tl
      show I1 t 0 = _ ∧ I1 t 1 = _ ∧ I1 t 2 = _ ∧ I1 t 3 = _
      rw [hI1, va_up_self]
      refine ⟨?_, ?_, ?_, ?_⟩
      · rw [va_up_ne _ _ (by omega)]; exact t0
      · rw [va_up_self]; rfl
      · rw [va_up_ne _ _ (by omega)]; exact t2
      · rw [va_up_ne _ _ (by omega)]; exact t3
    · show I1 (x + 1) j = _
      rw [hI1n _ (Ne.symm htx)]
      exact hzx j hj
  have key := lp_sr (z := fun _ _ _ _ _ _ _ _ => none) (S := fX4_blame_22) (β := Int32 × Hp) (σ := (Nat → Nat → Int32) × (Nat → Nat → Nat)) (fun k i s => k f d (jI (pl : Int)) (jI (ln : Int)) (jI what) nw (jI ((2 * pl + i : Nat) : Int)) (K, s.1, s.2, L, N, w)) (2 * ln)
    (fun i s => BI p x t I R P many nt m r pl (16 * i) s)
    (fun res => ∃ I' R', res = some (jI A, (K, I', R', L, N, w)) ∧ (∀ y', (y' < p ∨ p + 15 ≤ y') → y' ≠ x + 1 → y' ≠ t → I' y' = I y') ∧ RFr p R R' ∧ Zr I' x) ?_ ?_ FU 0 (I1, R) (by omega) (FU_lt (by omega)) s0
  · obtain ⟨I', R', e1, e2⟩ := key
    refine ⟨I', R', ?_, e2⟩
    rw [← e1]
    rw [hI1]
    clear e1 e2 ok hI hA h hf0 hw hzx hT0 hI0 hI1 hI1n s0 hx1 hy1 hd
    have ez : (2 : Int) * (pl : Int) = ((2 * pl + 0 : Nat) : Int) := by omega
    unfold fX4_blame
    ((repeat (first | (with_reducible apply q_gd; · (first | assumption | omega)) | (with_reducible apply q_ob; · (first | with_reducible rfl | ((simp (disch := omega) only [jI_lit, jI_neg, jI_add, jI_sub, jI_mul, o_gI, o_gR, o_pI, o_pZ0, o_pZ1, o_pZb, o_pR, o_aI, o_qI, o_aN, tn, va_up_self, va_up_ne, upup, jI_shr1, jI_shr4, jI_shr0, jI_and1, jI_and15, jI_join, jI_240, jI_hi, jF_at, jF_up, jI_max, jI_min, b2_t, b2_f, Bool.not_true, Bool.not_false, eq_self, true_or, or_true, ec, f3, ntt, hd0, ez]) <;> with_reducible rfl))) | (with_reducible apply q_ob2; · (first | with_reducible rfl | ((simp (disch := omega) only [jI_lit, jI_neg, jI_add, jI_sub, jI_mul, o_gI, o_gR, o_pI, o_pZ0, o_pZ1, o_pZb, o_pR, o_aI, o_qI, o_aN, tn, va_up_self, va_up_ne, upup, jI_shr1, jI_shr4, jI_shr0, jI_and1, jI_and15, jI_join, jI_240, jI_hi, jF_at, jF_up, jI_max, jI_min, b2_t, b2_f, Bool.not_true, Bool.not_false, eq_self, true_or, or_true, ec, f3, ntt, hd0, ez]) <;> with_reducible rfl))) | (with_reducible apply q_lt; · (first | with_reducible rfl | ((simp (disch := omega) only [jI_lit, jI_neg, jI_add, jI_sub, jI_mul, o_gI, o_gR, o_pI, o_pZ0, o_pZ1, o_pZb, o_pR, o_aI, o_qI, o_aN, tn, va_up_self, va_up_ne, upup, jI_shr1, jI_shr4, jI_shr0, jI_and1, jI_and15, jI_join, jI_240, jI_hi, jF_at, jF_up, jI_max, jI_min, b2_t, b2_f, Bool.not_true, Bool.not_false, eq_self, true_or, or_true, ec, f3, ntt, hd0, ez]) <;> with_reducible rfl))) | (with_reducible apply q_ifp; · (first | ((simp (disch := omega) only [jI_lit, jI_neg, jI_add, jI_sub, jI_mul, jI_lt, jI_le, jI_eq, va_up_self, va_up_ne, jI_shr1, jI_shr4, jI_shr0, jI_and1, jI_and15, jF_at, tn, b2_t, b2_f, cmp_ge, cmp_gt, cmp_le, cmp_lt, cmp_eq, jL_lit, jL_lt, jL_le, jL_eq, ec, f3, ntt, hd0, ez]) <;> omega) | omega)) | (with_reducible apply q_ifn; · (first | ((simp (disch := omega) only [jI_lit, jI_neg, jI_add, jI_sub, jI_mul, jI_lt, jI_le, jI_eq, va_up_self, va_up_ne, jI_shr1, jI_shr4, jI_shr0, jI_and1, jI_and15, jF_at, tn, b2_t, b2_f, cmp_ge, cmp_gt, cmp_le, cmp_lt, cmp_eq, jL_lit, jL_lt, jL_le, jL_eq, ec, f3, ntt, hd0, ez]) <;> omega) | omega)) | (with_reducible apply q_obk; · (first | with_reducible rfl | ((simp (disch := omega) only [jI_lit, jI_neg, jI_add, jI_sub, jI_mul, o_gI, o_gR, o_pI, o_pZ0, o_pZ1, o_pZb, o_pR, o_aI, o_qI, o_aN, tn, va_up_self, va_up_ne, upup, jI_shr1, jI_shr4, jI_shr0, jI_and1, jI_and15, jI_join, jI_240, jI_hi, jF_at, jF_up, jI_max, jI_min, b2_t, b2_f, Bool.not_true, Bool.not_false, eq_self, true_or, or_true, ec, f3, ntt, hd0, ez]) <;> with_reducible rfl))) | (with_reducible apply q_nz; · (first | ((simp (disch := omega) only [jI_lit, jI_neg, jI_add, jI_sub, jI_mul, jI_lt, jI_le, jI_eq, va_up_self, va_up_ne, jI_shr1, jI_shr4, jI_shr0, jI_and1, jI_and15, jF_at, tn, b2_t, b2_f, cmp_ge, cmp_gt, cmp_le, cmp_lt, cmp_eq, jL_lit, jL_lt, jL_le, jL_eq, ec, f3, ntt, hd0, ez]) <;> omega) | omega)) | (with_reducible apply q_rz; · (first | exact b2_01 _ | decide)))) <;> (first | with_reducible rfl | ((simp (disch := omega) only [jI_lit, jI_neg, jI_add, jI_sub, jI_mul, o_gI, o_gR, o_pI, o_pZ0, o_pZ1, o_pZb, o_pR, o_aI, o_qI, o_aN, tn, va_up_self, va_up_ne, upup, jI_shr1, jI_shr4, jI_shr0, jI_and1, jI_and15, jI_join, jI_240, jI_hi, jF_at, jF_up, jI_max, jI_min, b2_t, b2_f, Bool.not_true, Bool.not_false, eq_self, true_or, or_true, ec, f3, ntt, hd0, ez]) <;> with_reducible rfl) | rfl))
  · intro i s hi hs k'
    right
    obtain ⟨s', hs', e⟩ := blame_in (L := L) (w := w) (what := what) h hf0 hw hwx hwt hI hd hdo hno hnx hnt ok hT hpl hi hs k'
    refine ⟨s', hs', ?_⟩
    rw [← e]
    clear e hs' hs ok hI hA h hf0 hw hzx hT0 hI0 hI1 hI1n s0 hx1 hy1 hd
    unfold fX4_blame_22
    ((repeat (first | (with_reducible apply q_gd; · (first | assumption | omega)) | (with_reducible apply q_ob; · (first | with_reducible rfl | ((simp (disch := omega) only [jI_lit, jI_neg, jI_add, jI_sub, jI_mul, o_gI, o_gR, o_pI, o_pZ0, o_pZ1, o_pZb, o_pR, o_aI, o_qI, o_aN, tn, va_up_self, va_up_ne, upup, jI_shr1, jI_shr4, jI_shr0, jI_and1, jI_and15, jI_join, jI_240, jI_hi, jF_at, jF_up, jI_max, jI_min, b2_t, b2_f, Bool.not_true, Bool.not_false, eq_self, true_or, or_true]) <;> with_reducible rfl))) | (with_reducible apply q_ob2; · (first | with_reducible rfl | ((simp (disch := omega) only [jI_lit, jI_neg, jI_add, jI_sub, jI_mul, o_gI, o_gR, o_pI, o_pZ0, o_pZ1, o_pZb, o_pR, o_aI, o_qI, o_aN, tn, va_up_self, va_up_ne, upup, jI_shr1, jI_shr4, jI_shr0, jI_and1, jI_and15, jI_join, jI_240, jI_hi, jF_at, jF_up, jI_max, jI_min, b2_t, b2_f, Bool.not_true, Bool.not_false, eq_self, true_or, or_true]) <;> with_reducible rfl))) | (with_reducible apply q_lt; · (first | with_reducible rfl | ((simp (disch := omega) only [jI_lit, jI_neg, jI_add, jI_sub, jI_mul, o_gI, o_gR, o_pI, o_pZ0, o_pZ1, o_pZb, o_pR, o_aI, o_qI, o_aN, tn, va_up_self, va_up_ne, upup, jI_shr1, jI_shr4, jI_shr0, jI_and1, jI_and15, jI_join, jI_240, jI_hi, jF_at, jF_up, jI_max, jI_min, b2_t, b2_f, Bool.not_true, Bool.not_false, eq_self, true_or, or_true]) <;> with_reducible rfl))) | (with_reducible apply q_ifp; · (first | ((simp (disch := omega) only [jI_lit, jI_neg, jI_add, jI_sub, jI_mul, jI_lt, jI_le, jI_eq, va_up_self, va_up_ne, jI_shr1, jI_shr4, jI_shr0, jI_and1, jI_and15, jF_at, tn, b2_t, b2_f, cmp_ge, cmp_gt, cmp_le, cmp_lt, cmp_eq, jL_lit, jL_lt, jL_le, jL_eq]) <;> omega) | omega)) | (with_reducible apply q_ifn; · (first | ((simp (disch := omega) only [jI_lit, jI_neg, jI_add, jI_sub, jI_mul, jI_lt, jI_le, jI_eq, va_up_self, va_up_ne, jI_shr1, jI_shr4, jI_shr0, jI_and1, jI_and15, jF_at, tn, b2_t, b2_f, cmp_ge, cmp_gt, cmp_le, cmp_lt, cmp_eq, jL_lit, jL_lt, jL_le, jL_eq]) <;> omega) | omega)) | (with_reducible apply q_obk; · (first | with_reducible rfl | ((simp (disch := omega) only [jI_lit, jI_neg, jI_add, jI_sub, jI_mul, o_gI, o_gR, o_pI, o_pZ0, o_pZ1, o_pZb, o_pR, o_aI, o_qI, o_aN, tn, va_up_self, va_up_ne, upup, jI_shr1, jI_shr4, jI_shr0, jI_and1, jI_and15, jI_join, jI_240, jI_hi, jF_at, jF_up, jI_max, jI_min, b2_t, b2_f, Bool.not_true, Bool.not_false, eq_self, true_or, or_true]) <;> with_reducible rfl))) | (with_reducible apply q_nz; · (first | ((simp (disch := omega) only [jI_lit, jI_neg, jI_add, jI_sub, jI_mul, jI_lt, jI_le, jI_eq, va_up_self, va_up_ne, jI_shr1, jI_shr4, jI_shr0, jI_and1, jI_and15, jF_at, tn, b2_t, b2_f, cmp_ge, cmp_gt, cmp_le, cmp_lt, cmp_eq, jL_lit, jL_lt, jL_le, jL_eq]) <;> omega) | omega)) | (with_reducible apply q_rz; · (first | exact b2_01 _ | decide)))) <;> (first | with_reducible rfl | ((simp (disch := omega) only [jI_lit, jI_neg, jI_add, jI_sub, jI_mul, o_gI, o_gR, o_pI, o_pZ0, o_pZ1, o_pZb, o_pR, o_aI, o_qI, o_aN, tn, va_up_self, va_up_ne, upup, jI_shr1, jI_shr4, jI_shr0, jI_and1, jI_and15, jI_join, jI_240, jI_hi, jF_at, jF_up, jI_max, jI_min, b2_t, b2_f, Bool.not_true, Bool.not_false, eq_self, true_or, or_true]) <;> with_reducible rfl) | rfl))
  · intro s hs k'
    obtain ⟨I3, R3⟩ := s
    obtain ⟨ht, hz3, hfr3, hR3⟩ := hs
    have ht : Tl I3 t (cnt (bQ P many nt m r pl) (16 * (2 * ln)) : Nat) (fstv pl (bQ P many nt m r pl) (16 * (2 * ln))) 0 (-1) := ht
    have hfr3 : ∀ y', (y' < p ∨ p + 15 ≤ y') → y' ≠ x + 1 → y' ≠ t → I3 y' = I y' := hfr3
    have hR3 : RFr p R R3 := hR3
    have hz3 : Zr I3 x := hz3
    have hf3 := Fs_fr h hf0 hR3
    have hx3 := hf3.2.2.2.2.2.1
    have hw3 := Ro_fr h hw hR3
    have hI3 : I3 (nw + 1) = jF (cls r g) := by rw [hfr3 (nw + 1) (by have := hw.2; omega) (by omega) hwt]; exact hI
    have eb := e_cpR (L := L) (w := w) hx3.1 hw3.1 hI3 hz3
    obtain ⟨I4, hI4⟩ : ∃ I4, I4 = va_up I3 (x + 1) (jF (cls r g)) := ⟨_, rfl⟩
    rw [← hI4] at eb
    have hI4n : ∀ y', y' ≠ x + 1 → I4 y' = I3 y' := fun y' q => by rw [hI4, va_up_ne _ _ q]
    have hg4 : Gd K I4 R3 N p l many P := Gd_fr h (fun y' a b => by
      rw [hI4n y' (fun e => b (by rw [e]; exact hx1.1.2.2.1)), hfr3 y' a (fun e => b (by rw [e]; exact hx1.1.2.2.1)) (fun e => b (by rw [e]; exact kt))]) hR3
    have hd4 : Dn K I4 R3 N d na nt m := Dn_fr (x := x) h hd (by rw [hI4n d ndx, hfr3 d hdo ndx ndt]) (by rw [hI4n na hnx, hfr3 na hno hnx hnt]) hR3
    obtain ⟨I5, R5, u, er, ⟨g5, hg5⟩, hfr5, hR5⟩ := e_bears (L := L) (w := w) hg4 hf3 hd4 hdo hno hnx (by rw [hI4, va_up_self]) ok hT
    have ht5 : I5 t = I3 t := by rw [hfr5 t hto htx, hI4n t htx]
    obtain ⟨t0, t1, t2, t3⟩ := ht
    obtain ⟨B, hB⟩ : ∃ B, B = brn P many nt m r := ⟨_, rfl⟩
    rw [← hB] at er
    obtain ⟨I6, hI6⟩ : ∃ I6, I6 = va_up I5 t (va_up (I5 t) 2 (jI (b2 B))) := ⟨_, rfl⟩
    have hT6 : Tl I6 t (cnt (bQ P many nt m r pl) (16 * (2 * ln)) : Nat) (fstv pl (bQ P many nt m r pl) (16 * (2 * ln))) (b2 B) (-1) := by
      unfold Tl
      rw [hI6, va_up_self, ht5]
      refine ⟨?_, ?_, ?_, ?_⟩
      · rw [va_up_ne _ _ (by omega)]; exact t0
      · rw [va_up_ne _ _ (by omega)]; exact t1
      · rw [va_up_self]
      · rw [va_up_ne _ _ (by omega)]; exact t3
    have hf5 := Fs_fr hg4 hf3 hR5
    have et := e_tell (L := L) (w := w) (z := what) hf5 hT6 w1 (by omega)
    rw [show 16 * (2 * ln) = 32 * ln by omega] at et
    have eA : (if what = 0 then ((cnt (bQ P many nt m r pl) (32 * ln) : Nat) : Int) else if what = 1 then fstv pl (bQ P many nt m r pl) (32 * ln) else if what = 2 then b2 B else -1) = A := by
      rw [hA, hB]
      have : what = 0 ∨ what = 1 ∨ what = 2 := by omega
      rcases this with q | q | q <;> subst q <;> rfl
    rw [eA] at et
    have f13 := hf3.2.2.1
    have f33 := hf3.2.2.2.2.1
    have f35 := hf5.2.2.2.2.1
    refine ⟨I6, R5, ?_, fun y' a1 a2 a4 => ?_, RFr_tr hR3 hR5, ?_⟩
    · show fX4_blame_22 k' f d (jI (pl : Int)) (jI (ln : Int)) (jI what) nw (jI ((2 * pl + 2 * ln : Nat) : Int)) (K, I3, R3, L, N, w) = _
      have et : fX4_told f (jI what) (K, I6, R5, L, N, w) = some (jI A) := et
      rw [hI6] at et ⊢
      clear eA t0 t1 t2 t3 hz3 hfr3 hR3 ok hI hA h hf0 hw hzx hT0 hI0 hI1 hI1n s0 hx1 hy1 hd hf3 hx3 hw3 hI3 hI4 hI4n hg4 hd4 hg5 hfr5 hR5 ht5 hI6 hT6 hf5 hB
      unfold fX4_blame_22 fX4_blame_164
      cases B with
      | true =>
        rw [b2_t] at et er ⊢
        ((repeat (first | (with_reducible apply q_gd; · (first | assumption | omega)) | (with_reducible apply q_ob; · (first | with_reducible rfl | ((simp (disch := omega) only [jI_lit, jI_neg, jI_add, jI_sub, jI_mul, o_gI, o_gR, o_pI, o_pZ0, o_pZ1, o_pZb, o_pR, o_aI, o_qI, o_aN, tn, va_up_self, va_up_ne, upup, jI_shr1, jI_shr4, jI_shr0, jI_and1, jI_and15, jI_join, jI_240, jI_hi, jF_at, jF_up, jI_max, jI_min, b2_t, b2_f, Bool.not_true, Bool.not_false, eq_self, true_or, or_true, f13, eb, f33, er, ntt, et]) <;> with_reducible rfl))) | (with_reducible apply q_ob2; · (first | with_reducible rfl | ((simp (disch := omega) only [jI_lit, jI_neg, jI_add, jI_sub, jI_mul, o_gI, o_gR, o_pI, o_pZ0, o_pZ1, o_pZb, o_pR, o_aI, o_qI, o_aN, tn, va_up_self, va_up_ne, upup, jI_shr1, jI_shr4, jI_shr0, jI_and1, jI_and15, jI_join, jI_240, jI_hi, jF_at, jF_up, jI_max, jI_min, b2_t, b2_f, Bool.not_true, Bool.not_false, eq_self, true_or, or_true, f13, eb, f33, er, ntt, et]) <;> with_reducible rfl))) | (with_reducible apply q_lt; · (first | with_reducible rfl | ((simp (disch := omega) only [jI_lit, jI_neg, jI_add, jI_sub, jI_mul, o_gI, o_gR, o_pI, o_pZ0, o_pZ1, o_pZb, o_pR, o_aI, o_qI, o_aN, tn, va_up_self, va_up_ne, upup, jI_shr1, jI_shr4, jI_shr0, jI_and1, jI_and15, jI_join, jI_240, jI_hi, jF_at, jF_up, jI_max, jI_min, b2_t, b2_f, Bool.not_true, Bool.not_false, eq_self, true_or, or_true, f13, eb, f33, er, ntt, et]) <;> with_reducible rfl))) | (with_reducible apply q_ifp; · (first | ((simp (disch := omega) only [jI_lit, jI_neg, jI_add, jI_sub, jI_mul, jI_lt, jI_le, jI_eq, va_up_self, va_up_ne, jI_shr1, jI_shr4, jI_shr0, jI_and1, jI_and15, jF_at, tn, b2_t, b2_f, cmp_ge, cmp_gt, cmp_le, cmp_lt, cmp_eq, jL_lit, jL_lt, jL_le, jL_eq, f13, eb, f33, er, ntt, et]) <;> omega) | omega)) | (with_reducible apply q_ifn; · (first | ((simp (disch := omega) only [jI_lit, jI_neg, jI_add, jI_sub, jI_mul, jI_lt, jI_le, jI_eq, va_up_self, va_up_ne, jI_shr1, jI_shr4, jI_shr0, jI_and1, jI_and15, jF_at, tn, b2_t, b2_f, cmp_ge, cmp_gt, cmp_le, cmp_lt, cmp_eq, jL_lit, jL_lt, jL_le, jL_eq, f13, eb, f33, er, ntt, et]) <;> omega) | omega)) | (with_reducible apply q_obk; · (first | with_reducible rfl | ((simp (disch := omega) only [jI_lit, jI_neg, jI_add, jI_sub, jI_mul, o_gI, o_gR, o_pI, o_pZ0, o_pZ1, o_pZb, o_pR, o_aI, o_qI, o_aN, tn, va_up_self, va_up_ne, upup, jI_shr1, jI_shr4, jI_shr0, jI_and1, jI_and15, jI_join, jI_240, jI_hi, jF_at, jF_up, jI_max, jI_min, b2_t, b2_f, Bool.not_true, Bool.not_false, eq_self, true_or, or_true, f13, eb, f33, er, ntt, et]) <;> with_reducible rfl))) | (with_reducible apply q_nz; · (first | ((simp (disch := omega) only [jI_lit, jI_neg, jI_add, jI_sub, jI_mul, jI_lt, jI_le, jI_eq, va_up_self, va_up_ne, jI_shr1, jI_shr4, jI_shr0, jI_and1, jI_and15, jF_at, tn, b2_t, b2_f, cmp_ge, cmp_gt, cmp_le, cmp_lt, cmp_eq, jL_lit, jL_lt, jL_le, jL_eq, f13, eb, f33, er, ntt, et]) <;> omega) | omega)) | (with_reducible apply q_rz; · (first | exact b2_01 _ | decide)))) <;> (first | with_reducible rfl | ((simp (disch := omega) only [jI_lit, jI_neg, jI_add, jI_sub, jI_mul, o_gI, o_gR, o_pI, o_pZ0, o_pZ1, o_pZb, o_pR, o_aI, o_qI, o_aN, tn, va_up_self, va_up_ne, upup, jI_shr1, jI_shr4, jI_shr0, jI_and1, jI_and15, jI_join, jI_240, jI_hi, jF_at, jF_up, jI_max, jI_min, b2_t, b2_f, Bool.not_true, Bool.not_false, eq_self, true_or, or_true, f13, eb, f33, er, ntt, et]) <;> with_reducible rfl) | rfl))
      | false =>
        rw [b2_f] at et er ⊢
        ((repeat (first | (with_reducible apply q_gd; · (first | assumption | omega)) | (with_reducible apply q_ob; · (first | with_reducible rfl | ((simp (disch := omega) only [jI_lit, jI_neg, jI_add, jI_sub, jI_mul, o_gI, o_gR, o_pI, o_pZ0, o_pZ1, o_pZb, o_pR, o_aI, o_qI, o_aN, tn, va_up_self, va_up_ne, upup, jI_shr1, jI_shr4, jI_shr0, jI_and1, jI_and15, jI_join, jI_240, jI_hi, jF_at, jF_up, jI_max, jI_min, b2_t, b2_f, Bool.not_true, Bool.not_false, eq_self, true_or, or_true, f13, eb, f33, er, ntt, et]) <;> with_reducible rfl))) | (with_reducible apply q_ob2; · (first | with_reducible rfl | ((simp (disch := omega) only [jI_lit, jI_neg, jI_add, jI_sub, jI_mul, o_gI, o_gR, o_pI, o_pZ0, o_pZ1, o_pZb, o_pR, o_aI, o_qI, o_aN, tn, va_up_self, va_up_ne, upup, jI_shr1, jI_shr4, jI_shr0, jI_and1, jI_and15, jI_join, jI_240, jI_hi, jF_at, jF_up, jI_max, jI_min, b2_t, b2_f, Bool.not_true, Bool.not_false, eq_self, true_or, or_true, f13, eb, f33, er, ntt, et]) <;> with_reducible rfl))) | (with_reducible apply q_lt; · (first | with_reducible rfl | ((simp (disch := omega) only [jI_lit, jI_neg, jI_add, jI_sub, jI_mul, o_gI, o_gR, o_pI, o_pZ0, o_pZ1, o_pZb, o_pR, o_aI, o_qI, o_aN, tn, va_up_self, va_up_ne, upup, jI_shr1, jI_shr4, jI_shr0, jI_and1, jI_and15, jI_join, jI_240, jI_hi, jF_at, jF_up, jI_max, jI_min, b2_t, b2_f, Bool.not_true, Bool.not_false, eq_self, true_or, or_true, f13, eb, f33, er, ntt, et]) <;> with_reducible rfl))) | (with_reducible apply q_ifp; · (first | ((simp (disch := omega) only [jI_lit, jI_neg, jI_add, jI_sub, jI_mul, jI_lt, jI_le, jI_eq, va_up_self, va_up_ne, jI_shr1, jI_shr4, jI_shr0, jI_and1, jI_and15, jF_at, tn, b2_t, b2_f, cmp_ge, cmp_gt, cmp_le, cmp_lt, cmp_eq, jL_lit, jL_lt, jL_le, jL_eq, f13, eb, f33, er, ntt, et]) <;> omega) | omega)) | (with_reducible apply q_ifn; · (first | ((simp (disch := omega) only [jI_lit, jI_neg, jI_add, jI_sub, jI_mul, jI_lt, jI_le, jI_eq, va_up_self, va_up_ne, jI_shr1, jI_shr4, jI_shr0, jI_and1, jI_and15, jF_at, tn, b2_t, b2_f, cmp_ge, cmp_gt, cmp_le, cmp_lt, cmp_eq, jL_lit, jL_lt, jL_le, jL_eq, f13, eb, f33, er, ntt, et]) <;> omega) | omega)) | (with_reducible apply q_obk; · (first | with_reducible rfl | ((simp (disch := omega) only [jI_lit, jI_neg, jI_add, jI_sub, jI_mul, o_gI, o_gR, o_pI, o_pZ0, o_pZ1, o_pZb, o_pR, o_aI, o_qI, o_aN, tn, va_up_self, va_up_ne, upup, jI_shr1, jI_shr4, jI_shr0, jI_and1, jI_and15, jI_join, jI_240, jI_hi, jF_at, jF_up, jI_max, jI_min, b2_t, b2_f, Bool.not_true, Bool.not_false, eq_self, true_or, or_true, f13, eb, f33, er, ntt, et]) <;> with_reducible rfl))) | (with_reducible apply q_nz; · (first | ((simp (disch := omega) only [jI_lit, jI_neg, jI_add, jI_sub, jI_mul, jI_lt, jI_le, jI_eq, va_up_self, va_up_ne, jI_shr1, jI_shr4, jI_shr0, jI_and1, jI_and15, jF_at, tn, b2_t, b2_f, cmp_ge, cmp_gt, cmp_le, cmp_lt, cmp_eq, jL_lit, jL_lt, jL_le, jL_eq, f13, eb, f33, er, ntt, et]) <;> omega) | omega)) | (with_reducible apply q_rz; · (first | exact b2_01 _ | decide)))) <;> (first | with_reducible rfl | ((simp (disch := omega) only [jI_lit, jI_neg, jI_add, jI_sub, jI_mul, o_gI, o_gR, o_pI, o_pZ0, o_pZ1, o_pZb, o_pR, o_aI, o_qI, o_aN, tn, va_up_self, va_up_ne, upup, jI_shr1, jI_shr4, jI_shr0, jI_and1, jI_and15, jI_join, jI_240, jI_hi, jF_at, jF_up, jI_max, jI_min, b2_t, b2_f, Bool.not_true, Bool.not_false, eq_self, true_or, or_true, f13, eb, f33, er, ntt, et]) <;> with_reducible rfl) | rfl))
    · rw [hI6, va_up_ne _ _ a4, hfr5 y' a1 a2, hI4n y' a2, hfr3 y' a1 a2 a4]
    · have : I6 (x + 1) = jF (cls u g5) := by rw [hI6, va_up_ne _ _ (Ne.symm htx)]; exact hg5
      exact Zr_of this
end FS
