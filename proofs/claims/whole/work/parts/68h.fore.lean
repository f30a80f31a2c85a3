section FS
variable {K : Nat → Nat} {I : Nat → Nat → Int32} {R : Nat → Nat → Nat} {L : Nat → Nat → Int64} {N : Nat → Nat} {w : Nat × Nat × Nat × Nat}
theorem Gd_fr5 {p l many : Nat} {P : PG} {I' : Nat → Nat → Int32} {R' : Nat → Nat → Nat} (h : Gd K I R N p l many P) (hI : ∀ y, (y < p ∨ p + 15 ≤ y) → K y = 5 ∨ K y = 6 → I' y = I y) (hR : RFr p R R') : Gd K I' R' N p l many P := by
  obtain ⟨pc, h5, k6, l0, l1, k7, n7, k8, n8, i2, hm, hin, hlp⟩ := h
  have kp : K p = 8 := pc.1
  have k3 : K (p + 7) = 3 := pc.2.2.2.2.2.2.2.2.2.2.2.1
  have ne : ∀ y, K y ≠ 8 → K y ≠ 3 → y ≠ p ∧ y ≠ p + 7 := fun y a b => ⟨fun e => a (by rw [e, kp]), fun e => b (by rw [e, k3])⟩
  have nl := ne l (by rw [k6]; decide) (by rw [k6]; decide)
  have nl1 := ne (l + 1) (by rw [k7]; decide) (by rw [k7]; decide)
  refine ⟨Pc_R pc (fun y a b => hR.1 y a b) (fun j hj => hR.2.1 j (by omega) (by omega)) hR.2.2, by rw [hR.2.1 5 (by omega) (by omega)]; exact h5, k6, by rw [hR.1 l nl.1 nl.2]; exact l0, by rw [hR.1 l nl.1 nl.2]; exact l1, k7, n7, k8, n8, by rw [hI l (by omega) (Or.inr k6)]; exact i2, hm, fun k hk => ?_, hlp⟩
  obtain ⟨ins, pg, a0, ap⟩ := hin k hk
  have ka := ins.1
  have na := ne (R (l + 1) k) (by rw [ka]; decide) (by rw [ka]; decide)
  rw [hR.1 (l + 1) nl1.1 nl1.2]
  refine ⟨?_, pg, a0, ap⟩
  unfold InsOK at ins ⊢
  rw [hI _ ap (Or.inl ka), hR.1 _ na.1 na.2]
  exact ins
/-- what a listing lays -/
def Ld (I : Nat → Nat → Int32) (l : Nat) (P : PG) : Prop := (∀ k, k < 256 → I (l + 2) k = jI (P 7 k)) ∧ (∀ k, k < 256 → 0 ≤ P 7 k ∧ P 7 k < 256)
theorem e_prestart {p x l many : Nat} {P : PG} {u g : Nat → Int} (h : Gd K I R N p l many P) (hx : Ro K R N p x) (hI : I (x + 1) = jF (cls u g)) (hl : Ld I l P) (hlx : l + 2 ≠ x + 1) : fX9_restart p x (K, I, R, L, N, w) = some (K, va_up I (x + 1) (jF (cls (bgn P many u) g)), R, L, N, w) := by
  obtain ⟨pc, h5, k6, l0, l1, k7, n7, k8, n8, i2, hm, hin, hlp⟩ := h
  have kx1 := hx.1.2.2.1
  have er := e_restart (L := L) (w := w) (P := P) hx.1 hI k6 l1 k8 n8 i2 hm hl.1 hlx (fun e => by rw [e, kx1] at k6; omega)
  have kp := pc.1
  clear hin hl
  unfold fX9_restart
  ((repeat (first | (with_reducible apply q_gd; · (first | assumption | omega)) | (with_reducible apply q_ob; · (first | with_reducible rfl | ((simp (disch := omega) only [jI_lit, jI_neg, jI_add, jI_sub, jI_mul, o_gI, o_gR, o_pI, o_pZ0, o_pZ1, o_pZb, o_pR, o_aI, o_qI, o_aN, tn, va_up_self, va_up_ne, upup, jI_shr1, jI_shr4, jI_shr0, jI_and1, jI_and15, jI_join, jI_240, jI_hi, jF_at, jF_up, jI_max, jI_min, b2_t, b2_f, Bool.not_true, Bool.not_false, eq_self, true_or, or_true, h5, er]) <;> with_reducible rfl))) | (with_reducible apply q_ob2; · (first | with_reducible rfl | ((simp (disch := omega) only [jI_lit, jI_neg, jI_add, jI_sub, jI_mul, o_gI, o_gR, o_pI, o_pZ0, o_pZ1, o_pZb, o_pR, o_aI, o_qI, o_aN, tn, va_up_self, va_up_ne, upup, jI_shr1, jI_shr4, jI_shr0, jI_and1, jI_and15, jI_join, jI_240, jI_hi, jF_at, jF_up, jI_max, jI_min, b2_t, b2_f, Bool.not_true, Bool.not_false, eq_self, true_or, or_true, h5, er]) <;> with_reducible rfl))) | (with_reducible apply q_lt; · (first | with_reducible rfl | ((simp (disch := omega) only [jI_lit, jI_neg, jI_add, jI_sub, jI_mul, o_gI, o_gR, o_pI, o_pZ0, o_pZ1, o_pZb, o_pR, o_aI, o_qI, o_aN, tn, va_up_self, va_up_ne, upup, jI_shr1, jI_shr4, jI_shr0, jI_and1, jI_and15, jI_join, jI_240, jI_hi, jF_at, jF_up, jI_max, jI_min, b2_t, b2_f, Bool.not_true, Bool.not_false, eq_self, true_or, or_true, h5, er]) <;> with_reducible rfl))) | (with_reducible apply q_ifp; · (first | ((simp (disch := omega) only [jI_lit, jI_neg, jI_add, jI_sub, jI_mul, jI_lt, jI_le, jI_eq, va_up_self, va_up_ne, jI_shr1, jI_shr4, jI_shr0, jI_and1, jI_and15, jF_at, tn, b2_t, b2_f, cmp_ge, cmp_gt, cmp_le, cmp_lt, cmp_eq, jL_lit, jL_lt, jL_le, jL_eq, h5, er]) <;> omega) | omega)) | (with_reducible apply q_ifn; · (first | ((simp (disch := omega) only [jI_lit, jI_neg, jI_add, jI_sub, jI_mul, jI_lt, jI_le, jI_eq, va_up_self, va_up_ne, jI_shr1, jI_shr4, jI_shr0, jI_and1, jI_and15, jF_at, tn, b2_t, b2_f, cmp_ge, cmp_gt, cmp_le, cmp_lt, cmp_eq, jL_lit, jL_lt, jL_le, jL_eq, h5, er]) <;> omega) | omega)) | (with_reducible apply q_obk; · (first | with_reducible rfl | ((simp (disch := omega) only [jI_lit, jI_neg, jI_add, jI_sub, jI_mul, o_gI, o_gR, o_pI, o_pZ0, o_pZ1, o_pZb, o_pR, o_aI, o_qI, o_aN, tn, va_up_self, va_up_ne, upup, jI_shr1, jI_shr4, jI_shr0, jI_and1, jI_and15, jI_join, jI_240, jI_hi, jF_at, jF_up, jI_max, jI_min, b2_t, b2_f, Bool.not_true, Bool.not_false, eq_self, true_or, or_true, h5, er]) <;> with_reducible rfl))) | (with_reducible apply q_nz; · (first | ((simp (disch := omega) only [jI_lit, jI_neg, jI_add, jI_sub, jI_mul, jI_lt, jI_le, jI_eq, va_up_self, va_up_ne, jI_shr1, jI_shr4, jI_shr0, jI_and1, jI_and15, jF_at, tn, b2_t, b2_f, cmp_ge, cmp_gt, cmp_le, cmp_lt, cmp_eq, jL_lit, jL_lt, jL_le, jL_eq, h5, er]) <;> omega) | omega)) | (with_reducible apply q_rz; · (first | exact b2_01 _ | decide)))) <;> (first | with_reducible rfl | ((simp (disch := omega) only [jI_lit, jI_neg, jI_add, jI_sub, jI_mul, o_gI, o_gR, o_pI, o_pZ0, o_pZ1, o_pZb, o_pR, o_aI, o_qI, o_aN, tn, va_up_self, va_up_ne, upup, jI_shr1, jI_shr4, jI_shr0, jI_and1, jI_and15, jI_join, jI_240, jI_hi, jF_at, jF_up, jI_max, jI_min, b2_t, b2_f, Bool.not_true, Bool.not_false, eq_self, true_or, or_true, h5, er]) <;> with_reducible rfl) | rfl))
/-- how it stands between years -/
def YI (f p x t : Nat) (I : Nat → Nat → Int32) (R : Nat → Nat → Nat) (r u : Nat → Int) (sd an : Int) (s : (Nat → Nat → Int32) × (Nat → Nat → Nat)) : Prop :=
  (∃ g, s.1 (x + 1) = jF (cls u g)) ∧ Tl s.1 t (u 278 - r 278) an 0 (-1) ∧ s.1 f 4 = jI sd ∧ (∀ y', (y' < p ∨ p + 15 ≤ y') → y' ≠ x + 1 → y' ≠ t → y' ≠ f → s.1 y' = I y') ∧ RFr p R s.2
theorem YI_Gd {f p x y t l many : Nat} {P : PG} {r u : Nat → Int} {sd an : Int} {s : (Nat → Nat → Int32) × (Nat → Nat → Nat)} (h : Gd K I R N p l many P) (hf : Fs K R N f p x y t) (hs : YI f p x t I R r u sd an s) : Gd K s.1 s.2 N p l many P := by
  obtain ⟨k4, f0, f1, f2, f3, hx1, hy1, kt, ntt, hto, htx, hty, hxy, hfo⟩ := hf
  obtain ⟨-, -, -, hfr, hR⟩ := hs
  refine Gd_fr5 h (fun y' a b => hfr y' a ?_ ?_ ?_) hR
  · intro e; rw [e, hx1.1.2.2.1] at b; omega
  · intro e; rw [e, kt] at b; omega
  · intro e; rw [e, k4] at b; omega
theorem e_happen {f p x y t l many : Nat} {P : PG} {T sd an : Int} {r u : Nat → Int} {s : (Nat → Nat → Int32) × (Nat → Nat → Nat)} (h : Gd K I R N p l many P) (hf : Fs K R N f p x y t) (hl : Ld I l P) (hlo : l + 2 < p ∨ p + 15 ≤ l + 2) (hlx : l + 2 ≠ x + 1) (hlt : l + 2 ≠ t) (ok : RowOK many T u) (hs : YI f p x t I R r u sd an s) (an1 : 0 ≤ an) (an2 : an < 1000) :
    ∃ s', fX4_happen f (K, s.1, s.2, L, N, w) = some (K, s'.1, s'.2, L, N, w) ∧ YI f p x t I R r (hpn P many u sd an).1 (hpn P many u sd an).2.1 (hpn P many u sd an).2.2 s' := by
  have hgs := YI_Gd h hf hs
  obtain ⟨I1, R1⟩ := s
  obtain ⟨⟨g, hg⟩, ht, hsd, hfr, hR⟩ := hs
  have hg : I1 (x + 1) = jF (cls u g) := hg
  have ht : Tl I1 t (u 278 - r 278) an 0 (-1) := ht
  have hsd : I1 f 4 = jI sd := hsd
  have hfr : ∀ y', (y' < p ∨ p + 15 ≤ y') → y' ≠ x + 1 → y' ≠ t → y' ≠ f → I1 y' = I y' := hfr
  have hR : RFr p R R1 := hR
  have hgs : Gd K I1 R1 N p l many P := hgs
  have hf1 := Fs_fr h hf hR
  obtain ⟨k4, f0, f1, f2, f3, hx1, hy1, kt, ntt, hto, htx, hty, hxy, hfo⟩ := id hf1
  have kx1 := hx1.1.2.2.1
  have k6 := hgs.2.2.1
  have kl2 : K (l + 2) = 101 := hgs.2.2.2.2.2.2.2.1
  have nfx : f ≠ x + 1 := fun e => by rw [e, kx1] at k4; omega
  have nft : f ≠ t := fun e => by rw [e, kt] at k4; omega
  have nlf : l + 2 ≠ f := fun e => by rw [e, k4] at kl2; omega
  have ed1 := e_draw (I := I1) (R := R1) (L := L) (N := N) (w := w) (n := 3) k4 hsd (by omega) (by omega)
  obtain ⟨I2, hI2⟩ : ∃ I2, I2 = va_up I1 f (va_up (I1 f) 4 (jI (nxt sd))) := ⟨_, rfl⟩
  rw [← hI2] at ed1
  have hI2n : ∀ y', y' ≠ f → I2 y' = I1 y' := fun y' q => by rw [hI2, va_up_ne _ _ q]
  have hI2f : I2 f 4 = jI (nxt sd) := by rw [hI2, va_up_self, va_up_self]
  have d3 := drw_r (s := nxt sd) (n := 3) (by omega)
  obtain ⟨d, hd⟩ : ∃ d, d = drw (nxt sd) 3 := ⟨_, rfl⟩
  rw [← hd] at ed1 d3
  unfold hpn
  rw [← hd]
  by_cases c : d = 0
  · rw [if_pos c]
    have ed2 := e_draw (I := I2) (R := R1) (L := L) (N := N) (w := w) (n := 256) k4 hI2f (by omega) (by omega)
    obtain ⟨I3, hI3⟩ : ∃ I3, I3 = va_up I2 f (va_up (I2 f) 4 (jI (nxt (nxt sd)))) := ⟨_, rfl⟩
    rw [← hI3] at ed2
    have hI3f : I3 f 4 = jI (nxt (nxt sd)) := by rw [hI3, va_up_self, va_up_self]
    have ed3 := e_draw (I := I3) (R := R1) (L := L) (N := N) (w := w) (n := 256) k4 hI3f (by omega) (by omega)
    obtain ⟨I4, hI4⟩ : ∃ I4, I4 = va_up I3 f (va_up (I3 f) 4 (jI (nxt (nxt (nxt sd))))) := ⟨_, rfl⟩
    rw [← hI4] at ed3
    have hI4f : I4 f 4 = jI (nxt (nxt (nxt sd))) := by rw [hI4, va_up_self, va_up_self]
    have hI4n : ∀ y', y' ≠ f → I4 y' = I1 y' := fun y' q => by rw [hI4, va_up_ne _ _ q, hI3, va_up_ne _ _ q, hI2n y' q]
    have p1 := drw_r (s := nxt (nxt sd)) (n := 256) (by omega)
    have p2 := drw_r (s := nxt (nxt (nxt sd))) (n := 256) (by omega)
    obtain ⟨a, ha⟩ : ∃ a, a = drw (nxt (nxt sd)) 256 := ⟨_, rfl⟩
    obtain ⟨b, hb⟩ : ∃ b, b = drw (nxt (nxt (nxt sd))) 256 := ⟨_, rfl⟩
    rw [← ha] at ed2 p1 ⊢
    rw [← hb] at ed3 p2 ⊢
    have ep : fX10_put x (jI a) (jI b) (K, I4, R1, L, N, w) = some (K, va_up I4 (x + 1) (jF (cls (va_up u a.toNat b) g)), R1, L, N, w) := by
      rw [e_put hx1.1 (by omega) (by omega), hI4n (x + 1) (Ne.symm nfx), hg, jF_up, cls_up_lo (by omega) (by omega)]
    refine ⟨(va_up I4 (x + 1) (jF (cls (va_up u a.toNat b) g)), R1), ?_, ⟨g, va_up_self _ _ _⟩, ?_, ?_, fun y' a1 a2 a3 a4 => ?_, hR⟩
    · show fX4_happen f (K, I1, R1, L, N, w) = some (K, va_up I4 (x + 1) (jF (cls (va_up u a.toNat b) g)), R1, L, N, w)
      rw [c] at ed1
      clear hg ht hsd hfr hR hgs hf1 hI2 hI2n hI3 hI4 hI4n h hf hl ok hx1 hy1 hd c
      unfold fX4_happen
      ((repeat (first | (with_reducible apply q_gd; · (first | assumption | omega)) | (with_reducible apply q_ob; · (first | with_reducible rfl | ((simp (disch := omega) only [jI_lit, jI_neg, jI_add, jI_sub, jI_mul, o_gI, o_gR, o_pI, o_pZ0, o_pZ1, o_pZb, o_pR, o_aI, o_qI, o_aN, tn, va_up_self, va_up_ne, upup, jI_shr1, jI_shr4, jI_shr0, jI_and1, jI_and15, jI_join, jI_240, jI_hi, jF_at, jF_up, jI_max, jI_min, b2_t, b2_f, Bool.not_true, Bool.not_false, eq_self, true_or, or_true, ed1, ed2, ed3, f1, ep]) <;> with_reducible rfl))) | (with_reducible apply q_ob2; · (first | with_reducible rfl | ((simp (disch := omega) only [jI_lit, jI_neg, jI_add, jI_sub, jI_mul, o_gI, o_gR, o_pI, o_pZ0, o_pZ1, o_pZb, o_pR, o_aI, o_qI, o_aN, tn, va_up_self, va_up_ne, upup, jI_shr1, jI_shr4, jI_shr0, jI_and1, jI_and15, jI_join, jI_240, jI_hi, jF_at, jF_up, jI_max, jI_min, b2_t, b2_f, Bool.not_true, Bool.not_false, eq_self, true_or, or_true, ed1, ed2, ed3, f1, ep]) <;> with_reducible rfl))) | (with_reducible apply q_lt; · (first | with_reducible rfl | ((simp (disch := omega) only [jI_lit, jI_neg, jI_add, jI_sub, jI_mul, o_gI, o_gR, o_pI, o_pZ0, o_pZ1, o_pZb, o_pR, o_aI, o_qI, o_aN, tn, va_up_self, va_up_ne, upup, jI_shr1, jI_shr4, jI_shr0, jI_and1, jI_and15, jI_join, jI_240, jI_hi, jF_at, jF_up, jI_max, jI_min, b2_t, b2_f, Bool.not_true, Bool.not_false, eq_self, true_or, or_true, ed1, ed2, ed3, f1, ep]) <;> with_reducible rfl))) | (with_reducible apply q_ifp; · (first | ((simp (disch := omega) only [jI_lit, jI_neg, jI_add, jI_sub, jI_mul, jI_lt, jI_le, jI_eq, va_up_self, va_up_ne, jI_shr1, jI_shr4, jI_shr0, jI_and1, jI_and15, jF_at, tn, b2_t, b2_f, cmp_ge, cmp_gt, cmp_le, cmp_lt, cmp_eq, jL_lit, jL_lt, jL_le, jL_eq, ed1, ed2, ed3, f1, ep]) <;> omega) | omega)) | (with_reducible apply q_ifn; · (first | ((simp (disch := omega) only [jI_lit, jI_neg, jI_add, jI_sub, jI_mul, jI_lt, jI_le, jI_eq, va_up_self, va_up_ne, jI_shr1, jI_shr4, jI_shr0, jI_and1, jI_and15, jF_at, tn, b2_t, b2_f, cmp_ge, cmp_gt, cmp_le, cmp_lt, cmp_eq, jL_lit, jL_lt, jL_le, jL_eq, ed1, ed2, ed3, f1, ep]) <;> omega) | omega)) | (with_reducible apply q_obk; · (first | with_reducible rfl | ((simp (disch := omega) only [jI_lit, jI_neg, jI_add, jI_sub, jI_mul, o_gI, o_gR, o_pI, o_pZ0, o_pZ1, o_pZb, o_pR, o_aI, o_qI, o_aN, tn, va_up_self, va_up_ne, upup, jI_shr1, jI_shr4, jI_shr0, jI_and1, jI_and15, jI_join, jI_240, jI_hi, jF_at, jF_up, jI_max, jI_min, b2_t, b2_f, Bool.not_true, Bool.not_false, eq_self, true_or, or_true, ed1, ed2, ed3, f1, ep]) <;> with_reducible rfl))) | (with_reducible apply q_nz; · (first | ((simp (disch := omega) only [jI_lit, jI_neg, jI_add, jI_sub, jI_mul, jI_lt, jI_le, jI_eq, va_up_self, va_up_ne, jI_shr1, jI_shr4, jI_shr0, jI_and1, jI_and15, jF_at, tn, b2_t, b2_f, cmp_ge, cmp_gt, cmp_le, cmp_lt, cmp_eq, jL_lit, jL_lt, jL_le, jL_eq, ed1, ed2, ed3, f1, ep]) <;> omega) | omega)) | (with_reducible apply q_rz; · (first | exact b2_01 _ | decide)))) <;> (first | with_reducible rfl | ((simp (disch := omega) only [jI_lit, jI_neg, jI_add, jI_sub, jI_mul, o_gI, o_gR, o_pI, o_pZ0, o_pZ1, o_pZb, o_pR, o_aI, o_qI, o_aN, tn, va_up_self, va_up_ne, upup, jI_shr1, jI_shr4, jI_shr0, jI_and1, jI_and15, jI_join, jI_240, jI_hi, jF_at, jF_up, jI_max, jI_min, b2_t, b2_f, Bool.not_true, Bool.not_false, eq_self, true_or, or_true, ed1, ed2, ed3, f1, ep]) <;> with_reducible rfl) | rfl))
    · show Tl (va_up I4 (x + 1) (jF (cls (va_up u a.toNat b) g))) t (va_up u a.toNat b 278 - r 278) an 0 (-1)
      unfold Tl at ht ⊢
      rw [va_up_ne _ _ htx, hI4n t (Ne.symm nft), va_up_ne _ _ (show 278 ≠ a.toNat by omega)]
      exact ht
    · show va_up I4 (x + 1) (jF (cls (va_up u a.toNat b) g)) f 4 = _
      rw [va_up_ne _ _ nfx]; exact hI4f
    · show va_up I4 (x + 1) (jF (cls (va_up u a.toNat b) g)) y' = _
      rw [va_up_ne _ _ a2, hI4n y' a4, hfr y' a1 a2 a3 a4]
  · rw [if_neg c]
    have hp2 : PI p x I2 R1 I2 R1 u := ⟨⟨g, by rw [hI2n (x + 1) (Ne.symm nfx)]; exact hg⟩, fun _ _ _ => rfl, RFr_rf _ _⟩
    have hg2 : Gd K I2 R1 N p l many P := Gd_fr5 hgs (fun y' a b => hI2n y' (fun e => by rw [e, k4] at b; omega)) (RFr_rf _ _)
    have er := e_run1 (L := L) (w := w) hg2 hx1 hp2 ok
    have h276 := ok.2.2.2.2.2.2.2.1
    by_cases c1 : d = 1 ∧ u 276 ≠ 0
    · rw [if_pos c1]
      obtain ⟨c1, cs⟩ := c1
      have hl2 : Ld I2 l P := ⟨fun k hk => by rw [hI2n (l + 2) nlf, hfr (l + 2) hlo hlx hlt nlf]; exact hl.1 k hk, hl.2⟩
      have es := e_prestart (L := L) (w := w) hg2 hx1 (by rw [hI2n (x + 1) (Ne.symm nfx)]; exact hg) hl2 hlx
      obtain ⟨I3, hI3⟩ : ∃ I3, I3 = va_up I2 (x + 1) (jF (cls (bgn P many u) g)) := ⟨_, rfl⟩
      rw [← hI3] at es
      have t3 : I3 t = I1 t := by rw [hI3, va_up_ne _ _ htx, hI2n t (Ne.symm nft)]
      obtain ⟨t0, t1, t2, t3'⟩ := ht
      have t1' : I3 t 1 = jI an := by rw [t3]; exact t1
      refine ⟨(va_up I3 t (va_up (I3 t) 1 (jI (an + 1))), R1), ?_, ⟨g, ?_⟩, ?_, ?_, fun y' a1 a2 a3 a4 => ?_, hR⟩
      · show fX4_happen f (K, I1, R1, L, N, w) = some (K, va_up I3 t (va_up (I3 t) 1 (jI (an + 1))), R1, L, N, w)
        rw [if_neg cs] at er
        rw [c1] at ed1
        clear hg t0 t1 t2 t3 t3' hsd hfr hR hgs hf1 hI2 hI2n hI3 h hf hl ok hx1 hy1 hd c hp2 hg2 hl2 c1 cs
        unfold fX4_happen
        ((repeat (first | (with_reducible apply q_gd; · (first | assumption | omega)) | (with_reducible apply q_ob; · (first | with_reducible rfl | ((simp (disch := omega) only [jI_lit, jI_neg, jI_add, jI_sub, jI_mul, o_gI, o_gR, o_pI, o_pZ0, o_pZ1, o_pZb, o_pR, o_aI, o_qI, o_aN, tn, va_up_self, va_up_ne, upup, jI_shr1, jI_shr4, jI_shr0, jI_and1, jI_and15, jI_join, jI_240, jI_hi, jF_at, jF_up, jI_max, jI_min, b2_t, b2_f, Bool.not_true, Bool.not_false, eq_self, true_or, or_true, ed1, er, f0, f1, es, f3, ntt, t1']) <;> with_reducible rfl))) | (with_reducible apply q_ob2; · (first | with_reducible rfl | ((simp (disch := omega) only [jI_lit, jI_neg, jI_add, jI_sub, jI_mul, o_gI, o_gR, o_pI, o_pZ0, o_pZ1, o_pZb, o_pR, o_aI, o_qI, o_aN, tn, va_up_self, va_up_ne, upup, jI_shr1, jI_shr4, jI_shr0, jI_and1, jI_and15, jI_join, jI_240, jI_hi, jF_at, jF_up, jI_max, jI_min, b2_t, b2_f, Bool.not_true, Bool.not_false, eq_self, true_or, or_true, ed1, er, f0, f1, es, f3, ntt, t1']) <;> with_reducible rfl))) | (with_reducible apply q_lt; · (first | with_reducible rfl | ((simp (disch := omega) only [jI_lit, jI_neg, jI_add, jI_sub, jI_mul, o_gI, o_gR, o_pI, o_pZ0, o_pZ1, o_pZb, o_pR, o_aI, o_qI, o_aN, tn, va_up_self, va_up_ne, upup, jI_shr1, jI_shr4, jI_shr0, jI_and1, jI_and15, jI_join, jI_240, jI_hi, jF_at, jF_up, jI_max, jI_min, b2_t, b2_f, Bool.not_true, Bool.not_false, eq_self, true_or, or_true, ed1, er, f0, f1, es, f3, ntt, t1']) <;> with_reducible rfl))) | (with_reducible apply q_ifp; · (first | ((simp (disch := omega) only [jI_lit, jI_neg, jI_add, jI_sub, jI_mul, jI_lt, jI_le, jI_eq, va_up_self, va_up_ne, jI_shr1, jI_shr4, jI_shr0, jI_and1, jI_and15, jF_at, tn, b2_t, b2_f, cmp_ge, cmp_gt, cmp_le, cmp_lt, cmp_eq, jL_lit, jL_lt, jL_le, jL_eq, ed1, er, f0, f1, es, f3, ntt, t1']) <;> omega) | omega)) | (with_reducible apply q_ifn; · (first | ((simp (disch := omega) only [jI_lit, jI_neg, jI_add, jI_sub, jI_mul, jI_lt, jI_le, jI_eq, va_up_self, va_up_ne, jI_shr1, jI_shr4, jI_shr0, jI_and1, jI_and15, jF_at, tn, b2_t, b2_f, cmp_ge, cmp_gt, cmp_le, cmp_lt, cmp_eq, jL_lit, jL_lt, jL_le, jL_eq, ed1, er, f0, f1, es, f3, ntt, t1']) <;> omega) | omega)) | (with_reducible apply q_obk; · (first | with_reducible rfl | ((simp (disch := omega) only [jI_lit, jI_neg, jI_add, jI_sub, jI_mul, o_gI, o_gR, o_pI, o_pZ0, o_pZ1, o_pZb, o_pR, o_aI, o_qI, o_aN, tn, va_up_self, va_up_ne, upup, jI_shr1, jI_shr4, jI_shr0, jI_and1, jI_and15, jI_join, jI_240, jI_hi, jF_at, jF_up, jI_max, jI_min, b2_t, b2_f, Bool.not_true, Bool.not_false, eq_self, true_or, or_true, ed1, er, f0, f1, es, f3, ntt, t1']) <;> with_reducible rfl))) | (with_reducible apply q_nz; · (first | ((simp (disch := omega) only [jI_lit, jI_neg, jI_add, jI_sub, jI_mul, jI_lt, jI_le, jI_eq, va_up_self, va_up_ne, jI_shr1, jI_shr4, jI_shr0, jI_and1, jI_and15, jF_at, tn, b2_t, b2_f, cmp_ge, cmp_gt, cmp_le, cmp_lt, cmp_eq, jL_lit, jL_lt, jL_le, jL_eq, ed1, er, f0, f1, es, f3, ntt, t1']) <;> omega) | omega)) | (with_reducible apply q_rz; · (first | exact b2_01 _ | decide)))) <;> (first | with_reducible rfl | ((simp (disch := omega) only [jI_lit, jI_neg, jI_add, jI_sub, jI_mul, o_gI, o_gR, o_pI, o_pZ0, o_pZ1, o_pZb, o_pR, o_aI, o_qI, o_aN, tn, va_up_self, va_up_ne, upup, jI_shr1, jI_shr4, jI_shr0, jI_and1, jI_and15, jI_join, jI_240, jI_hi, jF_at, jF_up, jI_max, jI_min, b2_t, b2_f, Bool.not_true, Bool.not_false, eq_self, true_or, or_true, ed1, er, f0, f1, es, f3, ntt, t1']) <;> with_reducible rfl) | rfl))
      · show va_up I3 t _ (x + 1) = _
        rw [va_up_ne _ _ (Ne.symm htx), hI3, va_up_self]
      · show Tl (va_up I3 t (va_up (I3 t) 1 (jI (an + 1)))) t (bgn P many u 278 - r 278) (an + 1) 0 (-1)
        have e278 : bgn P many u 278 = u 278 := by unfold bgn; rw [if_neg (by omega), if_neg (by omega), if_neg (by omega), if_neg (by omega)]
        unfold Tl
        rw [va_up_self, t3, e278]
        refine ⟨?_, va_up_self _ _ _, ?_, ?_⟩
        · rw [va_up_ne _ _ (by omega)]; exact t0
        · rw [va_up_ne _ _ (by omega)]; exact t2
        · rw [va_up_ne _ _ (by omega)]; exact t3'
      · show va_up I3 t _ f 4 = _
        rw [va_up_ne _ _ nft, hI3, va_up_ne _ _ nfx]; exact hI2f
      · show va_up I3 t _ y' = _
        rw [va_up_ne _ _ a3, hI3, va_up_ne _ _ a2, hI2n y' a4, hfr y' a1 a2 a3 a4]
    · rw [if_neg c1]
      refine ⟨(I2, R1), ?_, ⟨g, ?_⟩, ?_, hI2f, fun y' a1 a2 a3 a4 => ?_, hR⟩
      · show fX4_happen f (K, I1, R1, L, N, w) = some (K, I2, R1, L, N, w)
        by_cases d1 : d = 1
        · have cs : u 276 = 0 := by
            apply Decidable.byContradiction
            intro q; exact c1 ⟨d1, q⟩
          rw [if_pos cs] at er
          rw [d1] at ed1
          clear hg ht hsd hfr hR hgs hf1 hI2 hI2n h hf hl ok hx1 hy1 hd c hp2 hg2 c1 cs d1
          unfold fX4_happen
          ((repeat (first | (with_reducible apply q_gd; · (first | assumption | omega)) | (with_reducible apply q_ob; · (first | with_reducible rfl | ((simp (disch := omega) only [jI_lit, jI_neg, jI_add, jI_sub, jI_mul, o_gI, o_gR, o_pI, o_pZ0, o_pZ1, o_pZb, o_pR, o_aI, o_qI, o_aN, tn, va_up_self, va_up_ne, upup, jI_shr1, jI_shr4, jI_shr0, jI_and1, jI_and15, jI_join, jI_240, jI_hi, jF_at, jF_up, jI_max, jI_min, b2_t, b2_f, Bool.not_true, Bool.not_false, eq_self, true_or, or_true, ed1, er, f1]) <;> with_reducible rfl))) | (with_reducible apply q_ob2; · (first | with_reducible rfl | ((simp (disch := omega) only [jI_lit, jI_neg, jI_add, jI_sub, jI_mul, o_gI, o_gR, o_pI, o_pZ0, o_pZ1, o_pZb, o_pR, o_aI, o_qI, o_aN, tn, va_up_self, va_up_ne, upup, jI_shr1, jI_shr4, jI_shr0, jI_and1, jI_and15, jI_join, jI_240, jI_hi, jF_at, jF_up, jI_max, jI_min, b2_t, b2_f, Bool.not_true, Bool.not_false, eq_self, true_or, or_true, ed1, er, f1]) <;> with_reducible rfl))) | (with_reducible apply q_lt; · (first | with_reducible rfl | ((simp (disch := omega) only [jI_lit, jI_neg, jI_add, jI_sub, jI_mul, o_gI, o_gR, o_pI, o_pZ0, o_pZ1, o_pZb, o_pR, o_aI, o_qI, o_aN, tn, va_up_self, va_up_ne, upup, jI_shr1, jI_shr4, jI_shr0, jI_and1, jI_and15, jI_join, jI_240, jI_hi, jF_at, jF_up, jI_max, jI_min, b2_t, b2_f, Bool.not_true, Bool.not_false, eq_self, true_or, or_true, ed1, er, f1]) <;> with_reducible rfl))) | (with_reducible apply q_ifp; · (first | ((simp (disch := omega) only [jI_lit, jI_neg, jI_add, jI_sub, jI_mul, jI_lt, jI_le, jI_eq, va_up_self, va_up_ne, jI_shr1, jI_shr4, jI_shr0, jI_and1, jI_and15, jF_at, tn, b2_t, b2_f, cmp_ge, cmp_gt, cmp_le, cmp_lt, cmp_eq, jL_lit, jL_lt, jL_le, jL_eq, ed1, er, f1]) <;> omega) | omega)) | (with_reducible apply q_ifn; · (first | ((simp (disch := omega) only [jI_lit, jI_neg, jI_add, jI_sub, jI_mul, jI_lt, jI_le, jI_eq, va_up_self, va_up_ne, jI_shr1, jI_shr4, jI_shr0, jI_and1, jI_and15, jF_at, tn, b2_t, b2_f, cmp_ge, cmp_gt, cmp_le, cmp_lt, cmp_eq, jL_lit, jL_lt, jL_le, jL_eq, ed1, er, f1]) <;> omega) | omega)) | (with_reducible apply q_obk; · (first | with_reducible rfl | ((simp (disch := omega) only [jI_lit, jI_neg, jI_add, jI_sub, jI_mul, o_gI, o_gR, o_pI, o_pZ0, o_pZ1, o_pZb, o_pR, o_aI, o_qI, o_aN, tn, va_up_self, va_up_ne, upup, jI_shr1, jI_shr4, jI_shr0, jI_and1, jI_and15, jI_join, jI_240, jI_hi, jF_at, jF_up, jI_max, jI_min, b2_t, b2_f, Bool.not_true, Bool.not_false, eq_self, true_or, or_true, ed1, er, f1]) <;> with_reducible rfl))) | (with_reducible apply q_nz; · (first | ((simp (disch := omega) only [jI_lit, jI_neg, jI_add, jI_sub, jI_mul, jI_lt, jI_le, jI_eq, va_up_self, va_up_ne, jI_shr1, jI_shr4, jI_shr0, jI_and1, jI_and15, jF_at, tn, b2_t, b2_f, cmp_ge, cmp_gt, cmp_le, cmp_lt, cmp_eq, jL_lit, jL_lt, jL_le, jL_eq, ed1, er, f1]) <;> omega) | omega)) | (with_reducible apply q_rz; · (first | exact b2_01 _ | decide)))) <;> (first | with_reducible rfl | ((simp (disch := omega) only [jI_lit, jI_neg, jI_add, jI_sub, jI_mul, o_gI, o_gR, o_pI, o_pZ0, o_pZ1, o_pZb, o_pR, o_aI, o_qI, o_aN, tn, va_up_self, va_up_ne, upup, jI_shr1, jI_shr4, jI_shr0, jI_and1, jI_and15, jI_join, jI_240, jI_hi, jF_at, jF_up, jI_max, jI_min, b2_t, b2_f, Bool.not_true, Bool.not_false, eq_self, true_or, or_true, ed1, er, f1]) <;> with_reducible rfl) | rfl))
        · clear hg ht hsd hfr hR hgs hf1 hI2 hI2n h hf hl ok hx1 hy1 hd hp2 hg2 c1 er
          unfold fX4_happen
          ((repeat (first | (with_reducible apply q_gd; · (first | assumption | omega)) | (with_reducible apply q_ob; · (first | with_reducible rfl | ((simp (disch := omega) only [jI_lit, jI_neg, jI_add, jI_sub, jI_mul, o_gI, o_gR, o_pI, o_pZ0, o_pZ1, o_pZb, o_pR, o_aI, o_qI, o_aN, tn, va_up_self, va_up_ne, upup, jI_shr1, jI_shr4, jI_shr0, jI_and1, jI_and15, jI_join, jI_240, jI_hi, jF_at, jF_up, jI_max, jI_min, b2_t, b2_f, Bool.not_true, Bool.not_false, eq_self, true_or, or_true, ed1]) <;> with_reducible rfl))) | (with_reducible apply q_ob2; · (first | with_reducible rfl | ((simp (disch := omega) only [jI_lit, jI_neg, jI_add, jI_sub, jI_mul, o_gI, o_gR, o_pI, o_pZ0, o_pZ1, o_pZb, o_pR, o_aI, o_qI, o_aN, tn, va_up_self, va_up_ne, upup, jI_shr1, jI_shr4, jI_shr0, jI_and1, jI_and15, jI_join, jI_240, jI_hi, jF_at, jF_up, jI_max, jI_min, b2_t, b2_f, Bool.not_true, Bool.not_false, eq_self, true_or, or_true, ed1]) <;> with_reducible rfl))) | (with_reducible apply q_lt; · (first | with_reducible rfl | ((simp (disch := omega) only [jI_lit, jI_neg, jI_add, jI_sub, jI_mul, o_gI, o_gR, o_pI, o_pZ0, o_pZ1, o_pZb, o_pR, o_aI, o_qI, o_aN, tn, va_up_self, va_up_ne, upup, jI_shr1, jI_shr4, jI_shr0, jI_and1, jI_and15, jI_join, jI_240, jI_hi, jF_at, jF_up, jI_max, jI_min, b2_t, b2_f, Bool.not_true, Bool.not_false, eq_self, true_or, or_true, ed1]) <;> with_reducible rfl))) | (with_reducible apply q_ifp; · (first | ((simp (disch := omega) only [jI_lit, jI_neg, jI_add, jI_sub, jI_mul, jI_lt, jI_le, jI_eq, va_up_self, va_up_ne, jI_shr1, jI_shr4, jI_shr0, jI_and1, jI_and15, jF_at, tn, b2_t, b2_f, cmp_ge, cmp_gt, cmp_le, cmp_lt, cmp_eq, jL_lit, jL_lt, jL_le, jL_eq, ed1]) <;> omega) | omega)) | (with_reducible apply q_ifn; · (first | ((simp (disch := omega) only [jI_lit, jI_neg, jI_add, jI_sub, jI_mul, jI_lt, jI_le, jI_eq, va_up_self, va_up_ne, jI_shr1, jI_shr4, jI_shr0, jI_and1, jI_and15, jF_at, tn, b2_t, b2_f, cmp_ge, cmp_gt, cmp_le, cmp_lt, cmp_eq, jL_lit, jL_lt, jL_le, jL_eq, ed1]) <;> omega) | omega)) | (with_reducible apply q_obk; · (first | with_reducible rfl | ((simp (disch := omega) only [jI_lit, jI_neg, jI_add, jI_sub, jI_mul, o_gI, o_gR, o_pI, o_pZ0, o_pZ1, o_pZb, o_pR, o_aI, o_qI, o_aN, tn, va_up_self, va_up_ne, upup, jI_shr1, jI_shr4, jI_shr0, jI_and1, jI_and15, jI_join, jI_240, jI_hi, jF_at, jF_up, jI_max, jI_min, b2_t, b2_f, Bool.not_true, Bool.not_false, eq_self, true_or, or_true, ed1]) <;> with_reducible rfl))) | (with_reducible apply q_nz; · (first | ((simp (disch := omega) only [jI_lit, jI_neg, jI_add, jI_sub, jI_mul, jI_lt, jI_le, jI_eq, va_up_self, va_up_ne, jI_shr1, jI_shr4, jI_shr0, jI_and1, jI_and15, jF_at, tn, b2_t, b2_f, cmp_ge, cmp_gt, cmp_le, cmp_lt, cmp_eq, jL_lit, jL_lt, jL_le, jL_eq, ed1]) <;> omega) | omega)) | (with_reducible apply q_rz; · (first | exact b2_01 _ | decide)))) <;> (first | with_reducible rfl | ((simp (disch := omega) only [jI_lit, jI_neg, jI_add, jI_sub, jI_mul, o_gI, o_gR, o_pI, o_pZ0, o_pZ1, o_pZb, o_pR, o_aI, o_qI, o_aN, tn, va_up_self, va_up_ne, upup, jI_shr1, jI_shr4, jI_shr0, jI_and1, jI_and15, jI_join, jI_240, jI_hi, jF_at, jF_up, jI_max, jI_min, b2_t, b2_f, Bool.not_true, Bool.not_false, eq_self, true_or, or_true, ed1]) <;> with_reducible rfl) | rfl))
      · show I2 (x + 1) = _
        rw [hI2n (x + 1) (Ne.symm nfx)]; exact hg
      · show Tl I2 t (u 278 - r 278) an 0 (-1)
        unfold Tl at ht ⊢
        rw [hI2n t (Ne.symm nft)]; exact ht
      · show I2 y' = _
        rw [hI2n y' a4, hfr y' a1 a2 a3 a4]
/-- the five steps of a year -/
theorem e_fives {f p x y t l many nw yn ye : Nat} {P : PG} {T sd an what : Int} {r u : Nat → Int} {s : (Nat → Nat → Int32) × (Nat → Nat → Nat)} (h : Gd K I R N p l many P) (hf : Fs K R N f p x y t) (ok : RowOK many T u) (hT : T < 800000) (h278 : 0 ≤ u 278 - r 278 ∧ u 278 - r 278 < 1000000) (hs : YI f p x t I R r u sd an s) (k20 : Nat → Nat → Int32 → Int32 → Int32 → Hp → Option (Int32 × Hp)) :
    ∃ s', YI f p x t I R r (stpN P many 5 u) sd an s' ∧ lp (fun _ _ _ _ _ _ _ => none) (fX4_age_33 k20) FU f nw (jI (yn : Int)) (jI what) (jI (ye : Int)) (jI ((0 : Nat) : Int)) (K, s.1, s.2, L, N, w) = k20 f nw (jI (yn : Int)) (jI what) (jI ((ye + 1 : Nat) : Int)) (K, s'.1, s'.2, L, N, w) := by
  obtain ⟨pg, hm⟩ := Gd_pg h
  have ey : (ye : Int) + 1 = ((ye + 1 : Nat) : Int) := by omega
  have key := lp_sr (z := fun _ _ _ _ _ _ _ => none) (S := fX4_age_33 k20) (β := Int32 × Hp) (σ := (Nat → Nat → Int32) × (Nat → Nat → Nat)) (fun k j s => k f nw (jI (yn : Int)) (jI what) (jI (ye : Int)) (jI (j : Int)) (K, s.1, s.2, L, N, w)) 5
    (fun j s => YI f p x t I R r (stpN P many j u) sd an s ∧ 0 ≤ stpN P many j u 278 - r 278 ∧ stpN P many j u 278 - r 278 < 1000000 + j)
    (fun res => ∃ s', YI f p x t I R r (stpN P many 5 u) sd an s' ∧ res = k20 f nw (jI (yn : Int)) (jI what) (jI ((ye + 1 : Nat) : Int)) (K, s'.1, s'.2, L, N, w)) ?_ ?_ FU 0 s (by omega) (FU_lt (by omega)) ⟨hs, h278.1, by show u 278 - r 278 < _; omega⟩
  · exact key
  · intro j s hj hs k'
    obtain ⟨hs, hc1, hc2⟩ := hs
    have hgs := YI_Gd h hf hs
    obtain ⟨I1, R1⟩ := s
    obtain ⟨⟨g, hg⟩, ht, hsd, hfr, hR⟩ := id hs
    have hg : I1 (x + 1) = jF (cls (stpN P many j u) g) := hg
    have ht : Tl I1 t (stpN P many j u 278 - r 278) an 0 (-1) := ht
    have hsd : I1 f 4 = jI sd := hsd
    have hfr : ∀ y', (y' < p ∨ p + 15 ≤ y') → y' ≠ x + 1 → y' ≠ t → y' ≠ f → I1 y' = I y' := hfr
    have hR : RFr p R R1 := hR
    have hgs : Gd K I1 R1 N p l many P := hgs
    have hf1 := Fs_fr h hf hR
    obtain ⟨k4, f0, f1, f2, f3, hx1, hy1, kt, ntt, hto, htx, hty, hxy, hfo⟩ := id hf1
    have nfx : f ≠ x + 1 := fun e => by rw [e, hx1.1.2.2.1] at k4; omega
    have nft : f ≠ t := fun e => by rw [e, kt] at k4; omega
    have okj := stpN_ok (P := P) ok pg hm j (by omega)
    have hp : PI p x I1 R1 I1 R1 (stpN P many j u) := ⟨⟨g, hg⟩, fun _ _ _ => rfl, RFr_rf _ _⟩
    have er := e_run1 (L := L) (w := w) hgs hx1 hp okj
    have e2 : (j : Int) + 1 = ((j + 1 : Nat) : Int) := by omega
    by_cases c : stpN P many j u 276 = 0
    · right
      rw [if_pos c] at er
      obtain ⟨I2, R2, e3, ⟨⟨g2, hg2⟩, hfr2, hR2⟩⟩ := e_step1 (L := L) (w := w) hgs hx1 hp okj (by omega) c
      have hk := knd_r okj pg c
      have hsp := stp_278 okj pg c
      have f32 := (Fs_fr hgs hf1 hR2).2.2.2.2.1
      obtain ⟨v, hv⟩ : ∃ v, v = stpN P many j u 278 - r 278 := ⟨_, rfl⟩
      rw [← hv] at ht hc1 hc2
      obtain ⟨t0, t1, t2, t3⟩ := ht
      have et : I2 t = I1 t := hfr2 t hto htx
      have t0' : I2 t 0 = jI v := by rw [et]; exact t0
      have hfrA : ∀ y', (y' < p ∨ p + 15 ≤ y') → y' ≠ x + 1 → y' ≠ t → y' ≠ f → I2 y' = I y' := fun y' a1 a2 a3 a4 => by rw [hfr2 y' a1 a2, hfr y' a1 a2 a3 a4]
      have hsd2 : I2 f 4 = jI sd := by rw [hfr2 f hfo nfx]; exact hsd
      have e5 : stpN P many (j + 1) u 278 = stpN P many j u 278 + if knd P (stpN P many j u) = 0 then 0 else 1 := hsp
      obtain ⟨kk, hkk⟩ : ∃ kk, kk = knd P (stpN P many j u) := ⟨_, rfl⟩
      rw [← hkk] at e3 hk e5
      by_cases ck : kk = 0
      · rw [if_pos ck] at e5
        have e6 : stpN P many (j + 1) u 278 - r 278 = v := by omega
        refine ⟨(I2, R2), ⟨⟨⟨g2, hg2⟩, ?_, hsd2, hfrA, RFr_tr hR hR2⟩, by omega, by omega⟩, ?_⟩
        · show Tl I2 t (stpN P many (j + 1) u 278 - r 278) an 0 (-1)
          unfold Tl
          rw [et, e6]; exact ⟨t0, t1, t2, t3⟩
        · show fX4_age_33 k20 k' f nw (jI (yn : Int)) (jI what) (jI (ye : Int)) (jI (j : Int)) (K, I1, R1, L, N, w) = k' f nw (jI (yn : Int)) (jI what) (jI (ye : Int)) (jI ((j + 1 : Nat) : Int)) (K, I2, R2, L, N, w)
          rw [ck] at e3
          clear hs hgs hg hsd hfr hR hf1 hx1 hy1 okj hp c hg2 hfr2 hR2 hsp hv t0 t1 t2 t3 et t0' hfrA hsd2 e5 e6 hkk h hf ok ck hk
          unfold fX4_age_33
          ((repeat (first | (with_reducible apply q_gd; · (first | assumption | omega)) | (with_reducible apply q_ob; · (first | with_reducible rfl | ((simp (disch := omega) only [jI_lit, jI_neg, jI_add, jI_sub, jI_mul, o_gI, o_gR, o_pI, o_pZ0, o_pZ1, o_pZb, o_pR, o_aI, o_qI, o_aN, tn, va_up_self, va_up_ne, upup, jI_shr1, jI_shr4, jI_shr0, jI_and1, jI_and15, jI_join, jI_240, jI_hi, jF_at, jF_up, jI_max, jI_min, b2_t, b2_f, Bool.not_true, Bool.not_false, eq_self, true_or, or_true, f1, f0, er, e3, e2]) <;> with_reducible rfl))) | (with_reducible apply q_ob2; · (first | with_reducible rfl | ((simp (disch := omega) only [jI_lit, jI_neg, jI_add, jI_sub, jI_mul, o_gI, o_gR, o_pI, o_pZ0, o_pZ1, o_pZb, o_pR, o_aI, o_qI, o_aN, tn, va_up_self, va_up_ne, upup, jI_shr1, jI_shr4, jI_shr0, jI_and1, jI_and15, jI_join, jI_240, jI_hi, jF_at, jF_up, jI_max, jI_min, b2_t, b2_f, Bool.not_true, Bool.not_false, eq_self, true_or, or_true, f1, f0, er, e3, e2]) <;> with_reducible rfl))) | (with_reducible apply q_lt; · (first | with_reducible rfl | ((simp (disch := omega) only [jI_lit, jI_neg, jI_add, jI_sub, jI_mul, o_gI, o_gR, o_pI, o_pZ0, o_pZ1, o_pZb, o_pR, o_aI, o_qI, o_aN, tn, va_up_self, va_up_ne, upup, jI_shr1, jI_shr4, jI_shr0, jI_and1, jI_and15, jI_join, jI_240, jI_hi, jF_at, jF_up, jI_max, jI_min, b2_t, b2_f, Bool.not_true, Bool.not_false, eq_self, true_or, or_true, f1, f0, er, e3, e2]) <;> with_reducible rfl))) | (with_reducible apply q_ifp; · (first | ((simp (disch := omega) only [jI_lit, jI_neg, jI_add, jI_sub, jI_mul, jI_lt, jI_le, jI_eq, va_up_self, va_up_ne, jI_shr1, jI_shr4, jI_shr0, jI_and1, jI_and15, jF_at, tn, b2_t, b2_f, cmp_ge, cmp_gt, cmp_le, cmp_lt, cmp_eq, jL_lit, jL_lt, jL_le, jL_eq, f1, f0, er, e3, e2]) <;> omega) | omega)) | (with_reducible apply q_ifn; · (first | ((simp (disch := omega) only [jI_lit, jI_neg, jI_add, jI_sub, jI_mul, jI_lt, jI_le, jI_eq, va_up_self, va_up_ne, jI_shr1, jI_shr4, jI_shr0, jI_and1, jI_and15, jF_at, tn, b2_t, b2_f, cmp_ge, cmp_gt, cmp_le, cmp_lt, cmp_eq, jL_lit, jL_lt, jL_le, jL_eq, f1, f0, er, e3, e2]) <;> omega) | omega)) | (with_reducible apply q_obk; · (first | with_reducible rfl | ((simp (disch := omega) only [jI_lit, jI_neg, jI_add, jI_sub, jI_mul, o_gI, o_gR, o_pI, o_pZ0, o_pZ1, o_pZb, o_pR, o_aI, o_qI, o_aN, tn, va_up_self, va_up_ne, upup, jI_shr1, jI_shr4, jI_shr0, jI_and1, jI_and15, jI_join, jI_240, jI_hi, jF_at, jF_up, jI_max, jI_min, b2_t, b2_f, Bool.not_true, Bool.not_false, eq_self, true_or, or_true, f1, f0, er, e3, e2]) <;> with_reducible rfl))) | (with_reducible apply q_nz; · (first | ((simp (disch := omega) only [jI_lit, jI_neg, jI_add, jI_sub, jI_mul, jI_lt, jI_le, jI_eq, va_up_self, va_up_ne, jI_shr1, jI_shr4, jI_shr0, jI_and1, jI_and15, jF_at, tn, b2_t, b2_f, cmp_ge, cmp_gt, cmp_le, cmp_lt, cmp_eq, jL_lit, jL_lt, jL_le, jL_eq, f1, f0, er, e3, e2]) <;> omega) | omega)) | (with_reducible apply q_rz; · (first | exact b2_01 _ | decide)))) <;> (first | with_reducible rfl | ((simp (disch := omega) only [jI_lit, jI_neg, jI_add, jI_sub, jI_mul, o_gI, o_gR, o_pI, o_pZ0, o_pZ1, o_pZb, o_pR, o_aI, o_qI, o_aN, tn, va_up_self, va_up_ne, upup, jI_shr1, jI_shr4, jI_shr0, jI_and1, jI_and15, jI_join, jI_240, jI_hi, jF_at, jF_up, jI_max, jI_min, b2_t, b2_f, Bool.not_true, Bool.not_false, eq_self, true_or, or_true, f1, f0, er, e3, e2]) <;> with_reducible rfl) | rfl))
      · rw [if_neg ck] at e5
        have e6 : stpN P many (j + 1) u 278 - r 278 = v + 1 := by omega
        refine ⟨(va_up I2 t (va_up (I2 t) 0 (jI (v + 1))), R2), ⟨⟨⟨g2, ?_⟩, ?_, ?_, fun y' a1 a2 a3 a4 => ?_, RFr_tr hR hR2⟩, by omega, by omega⟩, ?_⟩
        · show va_up I2 t _ (x + 1) = _
          rw [va_up_ne _ _ (Ne.symm htx)]; exact hg2
        · show Tl (va_up I2 t (va_up (I2 t) 0 (jI (v + 1)))) t (stpN P many (j + 1) u 278 - r 278) an 0 (-1)
          unfold Tl
          rw [va_up_self, et, e6]
          refine ⟨va_up_self _ _ _, ?_, ?_, ?_⟩
          · rw [va_up_ne _ _ (by omega)]; exact t1
          · rw [va_up_ne _ _ (by omega)]; exact t2
          · rw [va_up_ne _ _ (by omega)]; exact t3
        · show va_up I2 t _ f 4 = _
          rw [va_up_ne _ _ nft]; exact hsd2
        · show va_up I2 t _ y' = _
          rw [va_up_ne _ _ a3]; exact hfrA y' a1 a2 a3 a4
        · show fX4_age_33 k20 k' f nw (jI (yn : Int)) (jI what) (jI (ye : Int)) (jI (j : Int)) (K, I1, R1, L, N, w) = k' f nw (jI (yn : Int)) (jI what) (jI (ye : Int)) (jI ((j + 1 : Nat) : Int)) (K, va_up I2 t (va_up (I2 t) 0 (jI (v + 1))), R2, L, N, w)
          clear hs hgs hg hsd hfr hR hf1 hx1 hy1 okj hp c hg2 hfr2 hR2 hsp hv t0 t1 t2 t3 et hfrA hsd2 e5 e6 hkk h hf ok
          unfold fX4_age_33
          ((repeat (first | (with_reducible apply q_gd; · (first | assumption | omega)) | (with_reducible apply q_ob; · (first | with_reducible rfl | ((simp (disch := omega) only [jI_lit, jI_neg, jI_add, jI_sub, jI_mul, o_gI, o_gR, o_pI, o_pZ0, o_pZ1, o_pZb, o_pR, o_aI, o_qI, o_aN, tn, va_up_self, va_up_ne, upup, jI_shr1, jI_shr4, jI_shr0, jI_and1, jI_and15, jI_join, jI_240, jI_hi, jF_at, jF_up, jI_max, jI_min, b2_t, b2_f, Bool.not_true, Bool.not_false, eq_self, true_or, or_true, f1, f0, er, e3, e2, f32, ntt, t0']) <;> with_reducible rfl))) | (with_reducible apply q_ob2; · (first | with_reducible rfl | ((simp (disch := omega) only [jI_lit, jI_neg, jI_add, jI_sub, jI_mul, o_gI, o_gR, o_pI, o_pZ0, o_pZ1, o_pZb, o_pR, o_aI, o_qI, o_aN, tn, va_up_self, va_up_ne, upup, jI_shr1, jI_shr4, jI_shr0, jI_and1, jI_and15, jI_join, jI_240, jI_hi, jF_at, jF_up, jI_max, jI_min, b2_t, b2_f, Bool.not_true, Bool.not_false, eq_self, true_or, or_true, f1, f0, er, e3, e2, f32, ntt, t0']) <;> with_reducible rfl))) | (with_reducible apply q_lt; · (first | with_reducible rfl | ((simp (disch := omega) only [jI_lit, jI_neg, jI_add, jI_sub, jI_mul, o_gI, o_gR, o_pI, o_pZ0, o_pZ1, o_pZb, o_pR, o_aI, o_qI, o_aN, tn, va_up_self, va_up_ne, upup, jI_shr1, jI_shr4, jI_shr0, jI_and1, jI_and15, jI_join, jI_240, jI_hi, jF_at, jF_up, jI_max, jI_min, b2_t, b2_f, Bool.not_true, Bool.not_false, eq_self, true_or, or_true, f1, f0, er, e3, e2, f32, ntt, t0']) <;> with_reducible rfl))) | (with_reducible apply q_ifp; · (first | ((simp (disch := omega) only [jI_lit, jI_neg, jI_add, jI_sub, jI_mul, jI_lt, jI_le, jI_eq, va_up_self, va_up_ne, jI_shr1, jI_shr4, jI_shr0, jI_and1, jI_and15, jF_at, tn, b2_t, b2_f, cmp_ge, cmp_gt, cmp_le, cmp_lt, cmp_eq, jL_lit, jL_lt, jL_le, jL_eq, f1, f0, er, e3, e2, f32, ntt, t0']) <;> omega) | omega)) | (with_reducible apply q_ifn; · (first | ((simp (disch := omega) only [jI_lit, jI_neg, jI_add, jI_sub, jI_mul, jI_lt, jI_le, jI_eq, va_up_self, va_up_ne, jI_shr1, jI_shr4, jI_shr0, jI_and1, jI_and15, jF_at, tn, b2_t, b2_f, cmp_ge, cmp_gt, cmp_le, cmp_lt, cmp_eq, jL_lit, jL_lt, jL_le, jL_eq, f1, f0, er, e3, e2, f32, ntt, t0']) <;> omega) | omega)) | (with_reducible apply q_obk; · (first | with_reducible rfl | ((simp (disch := omega) only [jI_lit, jI_neg, jI_add, jI_sub, jI_mul, o_gI, o_gR, o_pI, o_pZ0, o_pZ1, o_pZb, o_pR, o_aI, o_qI, o_aN, tn, va_up_self, va_up_ne, upup, jI_shr1, jI_shr4, jI_shr0, jI_and1, jI_and15, jI_join, jI_240, jI_hi, jF_at, jF_up, jI_max, jI_min, b2_t, b2_f, Bool.not_true, Bool.not_false, eq_self, true_or, or_true, f1, f0, er, e3, e2, f32, ntt, t0']) <;> with_reducible rfl))) | (with_reducible apply q_nz; · (first | ((simp (disch := omega) only [jI_lit, jI_neg, jI_add, jI_sub, jI_mul, jI_lt, jI_le, jI_eq, va_up_self, va_up_ne, jI_shr1, jI_shr4, jI_shr0, jI_and1, jI_and15, jF_at, tn, b2_t, b2_f, cmp_ge, cmp_gt, cmp_le, cmp_lt, cmp_eq, jL_lit, jL_lt, jL_le, jL_eq, f1, f0, er, e3, e2, f32, ntt, t0']) <;> omega) | omega)) | (with_reducible apply q_rz; · (first | exact b2_01 _ | decide)))) <;> (first | with_reducible rfl | ((simp (disch := omega) only [jI_lit, jI_neg, jI_add, jI_sub, jI_mul, o_gI, o_gR, o_pI, o_pZ0, o_pZ1, o_pZb, o_pR, o_aI, o_qI, o_aN, tn, va_up_self, va_up_ne, upup, jI_shr1, jI_shr4, jI_shr0, jI_and1, jI_and15, jI_join, jI_240, jI_hi, jF_at, jF_up, jI_max, jI_min, b2_t, b2_f, Bool.not_true, Bool.not_false, eq_self, true_or, or_true, f1, f0, er, e3, e2, f32, ntt, t0']) <;> with_reducible rfl) | rfl))
    · left
      rw [if_neg c] at er
      rw [stpN_st (n := 5) (i := j) (by omega) c]
      refine ⟨(I1, R1), hs, ?_⟩
      show fX4_age_33 k20 k' f nw (jI (yn : Int)) (jI what) (jI (ye : Int)) (jI (j : Int)) (K, I1, R1, L, N, w) = k20 f nw (jI (yn : Int)) (jI what) (jI ((ye + 1 : Nat) : Int)) (K, I1, R1, L, N, w)
      clear hs hgs hg hsd hfr hR hf1 hx1 hy1 okj hp c h hf ok ht hc1 hc2
      unfold fX4_age_33
      ((repeat (first | (with_reducible apply q_gd; · (first | assumption | omega)) | (with_reducible apply q_ob; · (first | with_reducible rfl | ((simp (disch := omega) only [jI_lit, jI_neg, jI_add, jI_sub, jI_mul, o_gI, o_gR, o_pI, o_pZ0, o_pZ1, o_pZb, o_pR, o_aI, o_qI, o_aN, tn, va_up_self, va_up_ne, upup, jI_shr1, jI_shr4, jI_shr0, jI_and1, jI_and15, jI_join, jI_240, jI_hi, jF_at, jF_up, jI_max, jI_min, b2_t, b2_f, Bool.not_true, Bool.not_false, eq_self, true_or, or_true, f1, er, ey]) <;> with_reducible rfl))) | (with_reducible apply q_ob2; · (first | with_reducible rfl | ((simp (disch := omega) only [jI_lit, jI_neg, jI_add, jI_sub, jI_mul, o_gI, o_gR, o_pI, o_pZ0, o_pZ1, o_pZb, o_pR, o_aI, o_qI, o_aN, tn, va_up_self, va_up_ne, upup, jI_shr1, jI_shr4, jI_shr0, jI_and1, jI_and15, jI_join, jI_240, jI_hi, jF_at, jF_up, jI_max, jI_min, b2_t, b2_f, Bool.not_true, Bool.not_false, eq_self, true_or, or_true, f1, er, ey]) <;> with_reducible rfl))) | (with_reducible apply q_lt; · (first | with_reducible rfl | ((simp (disch := omega) only [jI_lit, jI_neg, jI_add, jI_sub, jI_mul, o_gI, o_gR, o_pI, o_pZ0, o_pZ1, o_pZb, o_pR, o_aI, o_qI, o_aN, tn, va_up_self, va_up_ne, upup, jI_shr1, jI_shr4, jI_shr0, jI_and1, jI_and15, jI_join, jI_240, jI_hi, jF_at, jF_up, jI_max, jI_min, b2_t, b2_f, Bool.not_true, Bool.not_false, eq_self, true_or, or_true, f1, er, ey]) <;> with_reducible rfl))) | (with_reducible apply q_ifp; · (first | ((simp (disch := omega) only [jI_lit, jI_neg, jI_add, jI_sub, jI_mul, jI_lt, jI_le, jI_eq, va_up_self, va_up_ne, jI_shr1, jI_shr4, jI_shr0, jI_and1, jI_and15, jF_at, tn, b2_t, b2_f, cmp_ge, cmp_gt, cmp_le, cmp_lt, cmp_eq, jL_lit, jL_lt, jL_le, jL_eq, f1, er, ey]) <;> omega) | omega)) | (with_reducible apply q_ifn; · (first | ((simp (disch := omega) only [jI_lit, jI_neg, jI_add, jI_sub, jI_mul, jI_lt, jI_le, jI_eq, va_up_self, va_up_ne, jI_shr1, jI_shr4, jI_shr0, jI_and1, jI_and15, jF_at, tn, b2_t, b2_f, cmp_ge, cmp_gt, cmp_le, cmp_lt, cmp_eq, jL_lit, jL_lt, jL_le, jL_eq, f1, er, ey]) <;> omega) | omega)) | (with_reducible apply q_obk; · (first | with_reducible rfl | ((simp (disch := omega) only [jI_lit, jI_neg, jI_add, jI_sub, jI_mul, o_gI, o_gR, o_pI, o_pZ0, o_pZ1, o_pZb, o_pR, o_aI, o_qI, o_aN, tn, va_up_self, va_up_ne, upup, jI_shr1, jI_shr4, jI_shr0, jI_and1, jI_and15, jI_join, jI_240, jI_hi, jF_at, jF_up, jI_max, jI_min, b2_t, b2_f, Bool.not_true, Bool.not_false, eq_self, true_or, or_true, f1, er, ey]) <;> with_reducible rfl))) | (with_reducible apply q_nz; · (first | ((simp (disch := omega) only [jI_lit, jI_neg, jI_add, jI_sub, jI_mul, jI_lt, jI_le, jI_eq, va_up_self, va_up_ne, jI_shr1, jI_shr4, jI_shr0, jI_and1, jI_and15, jF_at, tn, b2_t, b2_f, cmp_ge, cmp_gt, cmp_le, cmp_lt, cmp_eq, jL_lit, jL_lt, jL_le, jL_eq, f1, er, ey]) <;> omega) | omega)) | (with_reducible apply q_rz; · (first | exact b2_01 _ | decide)))) <;> (first | with_reducible rfl | ((simp (disch := omega) only [jI_lit, jI_neg, jI_add, jI_sub, jI_mul, o_gI, o_gR, o_pI, o_pZ0, o_pZ1, o_pZb, o_pR, o_aI, o_qI, o_aN, tn, va_up_self, va_up_ne, upup, jI_shr1, jI_shr4, jI_shr0, jI_and1, jI_and15, jI_join, jI_240, jI_hi, jF_at, jF_up, jI_max, jI_min, b2_t, b2_f, Bool.not_true, Bool.not_false, eq_self, true_or, or_true, f1, er, ey]) <;> with_reducible rfl) | rfl))
  · intro s hs k'
    refine ⟨s, hs.1, ?_⟩
    show fX4_age_33 k20 k' f nw (jI (yn : Int)) (jI what) (jI (ye : Int)) (jI ((5 : Nat) : Int)) (K, s.1, s.2, L, N, w) = _
    clear hs h hf ok
    unfold fX4_age_33
    ((repeat (first | (with_reducible apply q_gd; · (first | assumption | omega)) | (with_reducible apply q_ob; · (first | with_reducible rfl | ((simp (disch := omega) only [jI_lit, jI_neg, jI_add, jI_sub, jI_mul, o_gI, o_gR, o_pI, o_pZ0, o_pZ1, o_pZb, o_pR, o_aI, o_qI, o_aN, tn, va_up_self, va_up_ne, upup, jI_shr1, jI_shr4, jI_shr0, jI_and1, jI_and15, jI_join, jI_240, jI_hi, jF_at, jF_up, jI_max, jI_min, b2_t, b2_f, Bool.not_true, Bool.not_false, eq_self, true_or, or_true, ey]) <;> with_reducible rfl))) | (with_reducible apply q_ob2; · (first | with_reducible rfl | ((simp (disch := omega) only [jI_lit, jI_neg, jI_add, jI_sub, jI_mul, o_gI, o_gR, o_pI, o_pZ0, o_pZ1, o_pZb, o_pR, o_aI, o_qI, o_aN, tn, va_up_self, va_up_ne, upup, jI_shr1, jI_shr4, jI_shr0, jI_and1, jI_and15, jI_join, jI_240, jI_hi, jF_at, jF_up, jI_max, jI_min, b2_t, b2_f, Bool.not_true, Bool.not_false, eq_self, true_or, or_true, ey]) <;> with_reducible rfl))) | (with_reducible apply q_lt; · (first | with_reducible rfl | ((simp (disch := omega) only [jI_lit, jI_neg, jI_add, jI_sub, jI_mul, o_gI, o_gR, o_pI, o_pZ0, o_pZ1, o_pZb, o_pR, o_aI, o_qI, o_aN, tn, va_up_self, va_up_ne, upup, jI_shr1, jI_shr4, jI_shr0, jI_and1, jI_and15, jI_join, jI_240, jI_hi, jF_at, jF_up, jI_max, jI_min, b2_t, b2_f, Bool.not_true, Bool.not_false, eq_self, true_or, or_true, ey]) <;> with_reducible rfl))) | (with_reducible apply q_ifp; · (first | ((simp (disch := omega) only [jI_lit, jI_neg, jI_add, jI_sub, jI_mul, jI_lt, jI_le, jI_eq, va_up_self, va_up_ne, jI_shr1, jI_shr4, jI_shr0, jI_and1, jI_and15, jF_at, tn, b2_t, b2_f, cmp_ge, cmp_gt, cmp_le, cmp_lt, cmp_eq, jL_lit, jL_lt, jL_le, jL_eq, ey]) <;> omega) | omega)) | (with_reducible apply q_ifn; · (first | ((simp (disch := omega) only [jI_lit, jI_neg, jI_add, jI_sub, jI_mul, jI_lt, jI_le, jI_eq, va_up_self, va_up_ne, jI_shr1, jI_shr4, jI_shr0, jI_and1, jI_and15, jF_at, tn, b2_t, b2_f, cmp_ge, cmp_gt, cmp_le, cmp_lt, cmp_eq, jL_lit, jL_lt, jL_le, jL_eq, ey]) <;> omega) | omega)) | (with_reducible apply q_obk; · (first | with_reducible rfl | ((simp (disch := omega) only [jI_lit, jI_neg, jI_add, jI_sub, jI_mul, o_gI, o_gR, o_pI, o_pZ0, o_pZ1, o_pZb, o_pR, o_aI, o_qI, o_aN, tn, va_up_self, va_up_ne, upup, jI_shr1, jI_shr4, jI_shr0, jI_and1, jI_and15, jI_join, jI_240, jI_hi, jF_at, jF_up, jI_max, jI_min, b2_t, b2_f, Bool.not_true, Bool.not_false, eq_self, true_or, or_true, ey]) <;> with_reducible rfl))) | (with_reducible apply q_nz; · (first | ((simp (disch := omega) only [jI_lit, jI_neg, jI_add, jI_sub, jI_mul, jI_lt, jI_le, jI_eq, va_up_self, va_up_ne, jI_shr1, jI_shr4, jI_shr0, jI_and1, jI_and15, jF_at, tn, b2_t, b2_f, cmp_ge, cmp_gt, cmp_le, cmp_lt, cmp_eq, jL_lit, jL_lt, jL_le, jL_eq, ey]) <;> omega) | omega)) | (with_reducible apply q_rz; · (first | exact b2_01 _ | decide)))) <;> (first | with_reducible rfl | ((simp (disch := omega) only [jI_lit, jI_neg, jI_add, jI_sub, jI_mul, o_gI, o_gR, o_pI, o_pZ0, o_pZ1, o_pZb, o_pR, o_aI, o_qI, o_aN, tn, va_up_self, va_up_ne, upup, jI_shr1, jI_shr4, jI_shr0, jI_and1, jI_and15, jI_join, jI_240, jI_hi, jF_at, jF_up, jI_max, jI_min, b2_t, b2_f, Bool.not_true, Bool.not_false, eq_self, true_or, or_true, ey]) <;> with_reducible rfl) | rfl))
theorem e_age {f p x y t l many nw yn : Nat} {P : PG} {T sd what : Int} {r g : Nat → Int} (h : Gd K I R N p l many P) (hf : Fs K R N f p x y t) (hw : Ro K R N p nw) (hwx : nw ≠ x) (hwt : nw + 1 ≠ t) (hI : I (nw + 1) = jF (cls r g)) (hzx : Zr I x) (hl : Ld I l P) (hlo : l + 2 < p ∨ p + 15 ≤ l + 2) (hlx : l + 2 ≠ x + 1) (hlt : l + 2 ≠ t) (ok : RowOK many T r) (hT : T < 700000) (hy : yn ≤ 20) (w1 : 0 ≤ what) (w2 : what ≤ 2) :
    ∃ I' R', fX4_age f nw (jI sd) (jI (yn : Int)) (jI what) (K, I, R, L, N, w) = some (jI (agd P many r sd yn what), (K, I', R', L, N, w)) ∧ (∀ y', (y' < p ∨ p + 15 ≤ y') → y' ≠ x + 1 → y' ≠ t → y' ≠ f → I' y' = I y') ∧ RFr p R R' ∧ Zr I' x := by
  obtain ⟨pg, hm⟩ := Gd_pg h
  have hff := hf
  obtain ⟨k4, f0, f1, f2, f3, hx1, hy1, kt, ntt, hto, htx, hty, hxy, hfo⟩ := hff
  have nfx : f ≠ x + 1 := fun e => by rw [e, hx1.1.2.2.1] at k4; omega
  have nft : f ≠ t := fun e => by rw [e, kt] at k4; omega
  have k91 := hw.1.2.2.1
  have nfw : nw + 1 ≠ f := fun e => by rw [e, k4] at k91; omega
  obtain ⟨F, ec, hT0⟩ := e_clearTold (I := I) (L := L) (w := w) hf
  obtain ⟨I0, hI0⟩ : ∃ I0, I0 = va_up I t F := ⟨_, rfl⟩
  rw [← hI0] at ec hT0
  have hI0n : ∀ y', y' ≠ t → I0 y' = I y' := fun y' q => by rw [hI0, va_up_ne _ _ q]
  have eb := e_cpR (I := I0) (L := L) (w := w) hx1.1 hw.1 (by rw [hI0n _ hwt]; exact hI) (fun j hj => by rw [hI0n _ (Ne.symm htx)]; exact hzx j hj)
  obtain ⟨I1, hI1⟩ : ∃ I1, I1 = va_up I0 (x + 1) (jF (cls r g)) := ⟨_, rfl⟩
  rw [← hI1] at eb
  obtain ⟨I2, hI2⟩ : ∃ I2, I2 = va_up I1 f (va_up (I1 f) 4 (jI sd)) := ⟨_, rfl⟩
  have s0 : YI f p x t I R r r sd 0 (I2, R) := by
    refine ⟨⟨g, ?_⟩, ?_, ?_, fun y' a1 a2 a3 a4 => ?_, RFr_rf _ _⟩
    · show I2 (x + 1) = _
      rw [hI2, va_up_ne _ _ (Ne.symm nfx), hI1, va_up_self]
    · show Tl I2 t (r 278 - r 278) 0 0 (-1)
      unfold Tl at hT0 ⊢
      rw [hI2, va_up_ne _ _ (Ne.symm nft), hI1, va_up_ne _ _ htx, Int.sub_self]
      exact hT0
    · show I2 f 4 = _
      rw [hI2, va_up_self, va_up_self]
    · show I2 y' = _
      rw [hI2, va_up_ne _ _ a4, hI1, va_up_ne _ _ a2, hI0n y' a3]
  have anr : ∀ n, 0 ≤ (yrs P many r sd n).2.2 ∧ (yrs P many r sd n).2.2 ≤ n := by
    intro n
    induction n with
    | zero => exact ⟨by show (0 : Int) ≤ 0; omega, by show (0 : Int) ≤ ((0 : Nat) : Int); omega⟩
    | succ n ih =>
      show 0 ≤ (hpn P many (yrs P many r sd n).1 (yrs P many r sd n).2.1 (yrs P many r sd n).2.2).2.2 ∧ (hpn P many (yrs P many r sd n).1 (yrs P many r sd n).2.1 (yrs P many r sd n).2.2).2.2 ≤ ((n + 1 : Nat) : Int)
      unfold hpn
      split
      · show 0 ≤ (yrs P many r sd n).2.2 ∧ (yrs P many r sd n).2.2 ≤ ((n + 1 : Nat) : Int)
        omega
      · split
        · show 0 ≤ (yrs P many r sd n).2.2 + 1 ∧ (yrs P many r sd n).2.2 + 1 ≤ ((n + 1 : Nat) : Int)
          omega
        · show 0 ≤ (yrs P many r sd n).2.2 ∧ (yrs P many r sd n).2.2 ≤ ((n + 1 : Nat) : Int)
          omega
  obtain ⟨A, hA⟩ : ∃ A, A = agd P many r sd yn what := ⟨_, rfl⟩
  rw [← hA]
  have r278 := ok.2.2.2.2.2.2.2.2.2.2.1
  have r277 := ok.2.2.2.2.2.2.2.2.2.1
  have key := lp_sr (z := fun _ _ _ _ _ _ => none) (S := fX4_age_20) (β := Int32 × Hp) (σ := (Nat → Nat → Int32) × (Nat → Nat → Nat)) (fun k i s => k f nw (jI (yn : Int)) (jI what) (jI (i : Int)) (K, s.1, s.2, L, N, w)) yn
    (fun i s => YI f p x t I R r (yrs P many r sd i).1 (yrs P many r sd i).2.1 (yrs P many r sd i).2.2 s ∧ r 278 ≤ (yrs P many r sd i).1 278)
    (fun res => ∃ I' R', res = some (jI A, (K, I', R', L, N, w)) ∧ (∀ y', (y' < p ∨ p + 15 ≤ y') → y' ≠ x + 1 → y' ≠ t → y' ≠ f → I' y' = I y') ∧ RFr p R R' ∧ Zr I' x) ?_ ?_ FU 0 (I2, R) (by omega) (FU_lt (by omega)) ⟨s0, Int.le_refl _⟩
  · obtain ⟨I', R', e1, e2⟩ := key
    refine ⟨I', R', ?_, e2⟩
    rw [← e1]
    rw [hI2]
    clear e1 e2 ok hI hA h hf hw hzx hT0 hI0 hI0n hI1 hI2 s0 hx1 hy1 hl anr pg r278 r277
    unfold fX4_age
    ((repeat (first | (with_reducible apply q_gd; · (first | assumption | omega)) | (with_reducible apply q_ob; · (first | with_reducible rfl | ((simp (disch := omega) only [jI_lit, jI_neg, jI_add, jI_sub, jI_mul, o_gI, o_gR, o_pI, o_pZ0, o_pZ1, o_pZb, o_pR, o_aI, o_qI, o_aN, tn, va_up_self, va_up_ne, upup, jI_shr1, jI_shr4, jI_shr0, jI_and1, jI_and15, jI_join, jI_240, jI_hi, jF_at, jF_up, jI_max, jI_min, b2_t, b2_f, Bool.not_true, Bool.not_false, eq_self, true_or, or_true, ec, f1, eb]) <;> with_reducible rfl))) | (with_reducible apply q_ob2; · (first | with_reducible rfl | ((simp (disch := omega) only [jI_lit, jI_neg, jI_add, jI_sub, jI_mul, o_gI, o_gR, o_pI, o_pZ0, o_pZ1, o_pZb, o_pR, o_aI, o_qI, o_aN, tn, va_up_self, va_up_ne, upup, jI_shr1, jI_shr4, jI_shr0, jI_and1, jI_and15, jI_join, jI_240, jI_hi, jF_at, jF_up, jI_max, jI_min, b2_t, b2_f, Bool.not_true, Bool.not_false, eq_self, true_or, or_true, ec, f1, eb]) <;> with_reducible rfl))) | (with_reducible apply q_lt; · (first | with_reducible rfl | ((simp (disch := omega) only [jI_lit, jI_neg, jI_add, jI_sub, jI_mul, o_gI, o_gR, o_pI, o_pZ0, o_pZ1, o_pZb, o_pR, o_aI, o_qI, o_aN, tn, va_up_self, va_up_ne, upup, jI_shr1, jI_shr4, jI_shr0, jI_and1, jI_and15, jI_join, jI_240, jI_hi, jF_at, jF_up, jI_max, jI_min, b2_t, b2_f, Bool.not_true, Bool.not_false, eq_self, true_or, or_true, ec, f1, eb]) <;> with_reducible rfl))) | (with_reducible apply q_ifp; · (first | ((simp (disch := omega) only [jI_lit, jI_neg, jI_add, jI_sub, jI_mul, jI_lt, jI_le, jI_eq, va_up_self, va_up_ne, jI_shr1, jI_shr4, jI_shr0, jI_and1, jI_and15, jF_at, tn, b2_t, b2_f, cmp_ge, cmp_gt, cmp_le, cmp_lt, cmp_eq, jL_lit, jL_lt, jL_le, jL_eq, ec, f1, eb]) <;> omega) | omega)) | (with_reducible apply q_ifn; · (first | ((simp (disch := omega) only [jI_lit, jI_neg, jI_add, jI_sub, jI_mul, jI_lt, jI_le, jI_eq, va_up_self, va_up_ne, jI_shr1, jI_shr4, jI_shr0, jI_and1, jI_and15, jF_at, tn, b2_t, b2_f, cmp_ge, cmp_gt, cmp_le, cmp_lt, cmp_eq, jL_lit, jL_lt, jL_le, jL_eq, ec, f1, eb]) <;> omega) | omega)) | (with_reducible apply q_obk; · (first | with_reducible rfl | ((simp (disch := omega) only [jI_lit, jI_neg, jI_add, jI_sub, jI_mul, o_gI, o_gR, o_pI, o_pZ0, o_pZ1, o_pZb, o_pR, o_aI, o_qI, o_aN, tn, va_up_self, va_up_ne, upup, jI_shr1, jI_shr4, jI_shr0, jI_and1, jI_and15, jI_join, jI_240, jI_hi, jF_at, jF_up, jI_max, jI_min, b2_t, b2_f, Bool.not_true, Bool.not_false, eq_self, true_or, or_true, ec, f1, eb]) <;> with_reducible rfl))) | (with_reducible apply q_nz; · (first | ((simp (disch := omega) only [jI_lit, jI_neg, jI_add, jI_sub, jI_mul, jI_lt, jI_le, jI_eq, va_up_self, va_up_ne, jI_shr1, jI_shr4, jI_shr0, jI_and1, jI_and15, jF_at, tn, b2_t, b2_f, cmp_ge, cmp_gt, cmp_le, cmp_lt, cmp_eq, jL_lit, jL_lt, jL_le, jL_eq, ec, f1, eb]) <;> omega) | omega)) | (with_reducible apply q_rz; · (first | exact b2_01 _ | decide)))) <;> (first | with_reducible rfl | ((simp (disch := omega) only [jI_lit, jI_neg, jI_add, jI_sub, jI_mul, o_gI, o_gR, o_pI, o_pZ0, o_pZ1, o_pZb, o_pR, o_aI, o_qI, o_aN, tn, va_up_self, va_up_ne, upup, jI_shr1, jI_shr4, jI_shr0, jI_and1, jI_and15, jI_join, jI_240, jI_hi, jF_at, jF_up, jI_max, jI_min, b2_t, b2_f, Bool.not_true, Bool.not_false, eq_self, true_or, or_true, ec, f1, eb]) <;> with_reducible rfl) | rfl))
  · intro i s hi hs k'
    right
    obtain ⟨hs, hge⟩ := hs
    have oki := yrs_ok (sd := sd) ok pg hm hl.2 (by omega) i (by omega)
    have ani := anr i
    obtain ⟨s1, eh, hs1⟩ := e_happen (L := L) (w := w) h hf hl hlo hlx hlt oki hs ani.1 (by omega)
    have hpo := hpn_ok (sd := (yrs P many r sd i).2.1) (an := (yrs P many r sd i).2.2) oki hm hl.2
    have okh := hpo.1
    have c278 := okh.2.2.2.2.2.2.2.2.2.2.1
    have c277 := okh.2.2.2.2.2.2.2.2.2.1
    obtain ⟨s2, hs2, e5⟩ := e_fives (L := L) (w := w) (nw := nw) (yn := yn) (ye := i) (what := what) h hf okh (by omega) ⟨by rw [hpo.2]; omega, by omega⟩ hs1 k'
    refine ⟨s2, ⟨hs2, ?_⟩, ?_⟩
    · -- faults only grow
      have gr : ∀ j, j ≤ 5 → (hpn P many (yrs P many r sd i).1 (yrs P many r sd i).2.1 (yrs P many r sd i).2.2).1 278 ≤ stpN P many j (hpn P many (yrs P many r sd i).1 (yrs P many r sd i).2.1 (yrs P many r sd i).2.2).1 278 := by
        intro j
        induction j with
        | zero => intro _; exact Int.le_refl _
        | succ j ih =>
          intro hj
          have okj := stpN_ok (P := P) okh pg hm j (by omega)
          have ih := ih (by omega)
          by_cases c : stpN P many j (hpn P many (yrs P many r sd i).1 (yrs P many r sd i).2.1 (yrs P many r sd i).2.2).1 276 = 0
          · have := stp_278 okj pg c
            have e6 : stpN P many (j + 1) (hpn P many (yrs P many r sd i).1 (yrs P many r sd i).2.1 (yrs P many r sd i).2.2).1 = stp P many (stpN P many j (hpn P many (yrs P many r sd i).1 (yrs P many r sd i).2.1 (yrs P many r sd i).2.2).1) := rfl
            rw [e6, this]
            split <;> omega
          · rw [stpN_st (n := j + 1) (i := j) (by omega) c]; exact ih
      have := gr 5 (by omega)
      rw [hpo.2] at this
      show r 278 ≤ stpN P many 5 (hpn P many (yrs P many r sd i).1 (yrs P many r sd i).2.1 (yrs P many r sd i).2.2).1 278
      omega
    · show fX4_age_20 k' f nw (jI (yn : Int)) (jI what) (jI (i : Int)) (K, s.1, s.2, L, N, w) = k' f nw (jI (yn : Int)) (jI what) (jI ((i + 1 : Nat) : Int)) (K, s2.1, s2.2, L, N, w)
      rw [← e5]
      clear e5 hs2 hs hs1 ok hI hA h hf hw hzx hT0 hI0 hI0n hI1 hI2 s0 hx1 hy1 hl anr pg oki okh hpo c278 c277 hge r278 r277
      unfold fX4_age_20
      ((repeat (first | (with_reducible apply q_gd; · (first | assumption | omega)) | (with_reducible apply q_ob; · (first | with_reducible rfl | ((simp (disch := omega) only [jI_lit, jI_neg, jI_add, jI_sub, jI_mul, o_gI, o_gR, o_pI, o_pZ0, o_pZ1, o_pZb, o_pR, o_aI, o_qI, o_aN, tn, va_up_self, va_up_ne, upup, jI_shr1, jI_shr4, jI_shr0, jI_and1, jI_and15, jI_join, jI_240, jI_hi, jF_at, jF_up, jI_max, jI_min, b2_t, b2_f, Bool.not_true, Bool.not_false, eq_self, true_or, or_true, eh]) <;> with_reducible rfl))) | (with_reducible apply q_ob2; · (first | with_reducible rfl | ((simp (disch := omega) only [jI_lit, jI_neg, jI_add, jI_sub, jI_mul, o_gI, o_gR, o_pI, o_pZ0, o_pZ1, o_pZb, o_pR, o_aI, o_qI, o_aN, tn, va_up_self, va_up_ne, upup, jI_shr1, jI_shr4, jI_shr0, jI_and1, jI_and15, jI_join, jI_240, jI_hi, jF_at, jF_up, jI_max, jI_min, b2_t, b2_f, Bool.not_true, Bool.not_false, eq_self, true_or, or_true, eh]) <;> with_reducible rfl))) | (with_reducible apply q_lt; · (first | with_reducible rfl | ((simp (disch := omega) only [jI_lit, jI_neg, jI_add, jI_sub, jI_mul, o_gI, o_gR, o_pI, o_pZ0, o_pZ1, o_pZb, o_pR, o_aI, o_qI, o_aN, tn, va_up_self, va_up_ne, upup, jI_shr1, jI_shr4, jI_shr0, jI_and1, jI_and15, jI_join, jI_240, jI_hi, jF_at, jF_up, jI_max, jI_min, b2_t, b2_f, Bool.not_true, Bool.not_false, eq_self, true_or, or_true, eh]) <;> with_reducible rfl))) | (with_reducible apply q_ifp; · (first | ((simp (disch := omega) only [jI_lit, jI_neg, jI_add, jI_sub, jI_mul, jI_lt, jI_le, jI_eq, va_up_self, va_up_ne, jI_shr1, jI_shr4, jI_shr0, jI_and1, jI_and15, jF_at, tn, b2_t, b2_f, cmp_ge, cmp_gt, cmp_le, cmp_lt, cmp_eq, jL_lit, jL_lt, jL_le, jL_eq, eh]) <;> omega) | omega)) | (with_reducible apply q_ifn; · (first | ((simp (disch := omega) only [jI_lit, jI_neg, jI_add, jI_sub, jI_mul, jI_lt, jI_le, jI_eq, va_up_self, va_up_ne, jI_shr1, jI_shr4, jI_shr0, jI_and1, jI_and15, jF_at, tn, b2_t, b2_f, cmp_ge, cmp_gt, cmp_le, cmp_lt, cmp_eq, jL_lit, jL_lt, jL_le, jL_eq, eh]) <;> omega) | omega)) | (with_reducible apply q_obk; · (first | with_reducible rfl | ((simp (disch := omega) only [jI_lit, jI_neg, jI_add, jI_sub, jI_mul, o_gI, o_gR, o_pI, o_pZ0, o_pZ1, o_pZb, o_pR, o_aI, o_qI, o_aN, tn, va_up_self, va_up_ne, upup, jI_shr1, jI_shr4, jI_shr0, jI_and1, jI_and15, jI_join, jI_240, jI_hi, jF_at, jF_up, jI_max, jI_min, b2_t, b2_f, Bool.not_true, Bool.not_false, eq_self, true_or, or_true, eh]) <;> with_reducible rfl))) | (with_reducible apply q_nz; · (first | ((simp (disch := omega) only [jI_lit, jI_neg, jI_add, jI_sub, jI_mul, jI_lt, jI_le, jI_eq, va_up_self, va_up_ne, jI_shr1, jI_shr4, jI_shr0, jI_and1, jI_and15, jF_at, tn, b2_t, b2_f, cmp_ge, cmp_gt, cmp_le, cmp_lt, cmp_eq, jL_lit, jL_lt, jL_le, jL_eq, eh]) <;> omega) | omega)) | (with_reducible apply q_rz; · (first | exact b2_01 _ | decide)))) <;> (first | with_reducible rfl | ((simp (disch := omega) only [jI_lit, jI_neg, jI_add, jI_sub, jI_mul, o_gI, o_gR, o_pI, o_pZ0, o_pZ1, o_pZb, o_pR, o_aI, o_qI, o_aN, tn, va_up_self, va_up_ne, upup, jI_shr1, jI_shr4, jI_shr0, jI_and1, jI_and15, jI_join, jI_240, jI_hi, jF_at, jF_up, jI_max, jI_min, b2_t, b2_f, Bool.not_true, Bool.not_false, eq_self, true_or, or_true, eh]) <;> with_reducible rfl) | rfl))
  · intro s hs k'
    obtain ⟨hs, -⟩ := hs
    have hgs := YI_Gd h hf hs
    obtain ⟨I3, R3⟩ := s
    obtain ⟨⟨g3, hg3⟩, ht, hsd, hfr, hR⟩ := hs
    have hg3 : I3 (x + 1) = jF (cls (yrs P many r sd yn).1 g3) := hg3
    have ht : Tl I3 t ((yrs P many r sd yn).1 278 - r 278) (yrs P many r sd yn).2.2 0 (-1) := ht
    have hfr : ∀ y', (y' < p ∨ p + 15 ≤ y') → y' ≠ x + 1 → y' ≠ t → y' ≠ f → I3 y' = I y' := hfr
    have hR : RFr p R R3 := hR
    have hf3 := Fs_fr h hf hR
    have hw3 := Ro_fr h hw hR
    have oki := yrs_ok (sd := sd) ok pg hm hl.2 (by omega) yn (by omega)
    have eu := e_unlike (L := L) (w := w) hf3.2.2.2.2.2.1.1 hg3 hw3.1 (by rw [hfr (nw + 1) (by have := hw.2; omega) (by omega) hwt nfw]; exact hI) oki.1 ok.1
    obtain ⟨B, hB⟩ : ∃ B : Int, B = (cnt (fun i => (yrs P many r sd yn).1 i != r i) 256 : Nat) := ⟨_, rfl⟩
    rw [← hB] at eu
    obtain ⟨t0, t1, t2, t3⟩ := ht
    obtain ⟨I4, hI4⟩ : ∃ I4, I4 = va_up I3 t (va_up (I3 t) 2 (jI B)) := ⟨_, rfl⟩
    have hT4 : Tl I4 t ((yrs P many r sd yn).1 278 - r 278) (yrs P many r sd yn).2.2 B (-1) := by
      unfold Tl
      rw [hI4, va_up_self]
      refine ⟨?_, ?_, ?_, ?_⟩
      · rw [va_up_ne _ _ (by omega)]; exact t0
      · rw [va_up_ne _ _ (by omega)]; exact t1
      · rw [va_up_self]
      · rw [va_up_ne _ _ (by omega)]; exact t3
    have et := e_tell (L := L) (w := w) (z := what) hf3 hT4 w1 (by omega)
    have eA : (if what = 0 then (yrs P many r sd yn).1 278 - r 278 else if what = 1 then (yrs P many r sd yn).2.2 else if what = 2 then B else -1) = A := by
      rw [hA, hB]
      have : what = 0 ∨ what = 1 ∨ what = 2 := by omega
      rcases this with q | q | q <;> subst q <;> rfl
    rw [eA] at et
    have f13 := hf3.2.2.1
    have f33 := hf3.2.2.2.2.1
    refine ⟨I4, R3, ?_, fun y' a1 a2 a3 a4 => ?_, hR, ?_⟩
    · show fX4_age_20 k' f nw (jI (yn : Int)) (jI what) (jI (yn : Int)) (K, I3, R3, L, N, w) = _
      rw [hI4] at et ⊢
      clear eA t0 t1 t2 t3 hfr hR ok hI hA h hf hw hzx hT0 hI0 hI0n hI1 hI2 s0 hx1 hy1 hf3 hw3 hI4 hT4 hB hl anr pg oki hgs hg3 hsd r278 r277
      unfold fX4_age_20
      ((repeat (first | (with_reducible apply q_gd; · (first | assumption | omega)) | (with_reducible apply q_ob; · (first | with_reducible rfl | ((simp (disch := omega) only [jI_lit, jI_neg, jI_add, jI_sub, jI_mul, o_gI, o_gR, o_pI, o_pZ0, o_pZ1, o_pZb, o_pR, o_aI, o_qI, o_aN, tn, va_up_self, va_up_ne, upup, jI_shr1, jI_shr4, jI_shr0, jI_and1, jI_and15, jI_join, jI_240, jI_hi, jF_at, jF_up, jI_max, jI_min, b2_t, b2_f, Bool.not_true, Bool.not_false, eq_self, true_or, or_true, f33, f13, eu, ntt, et]) <;> with_reducible rfl))) | (with_reducible apply q_ob2; · (first | with_reducible rfl | ((simp (disch := omega) only [jI_lit, jI_neg, jI_add, jI_sub, jI_mul, o_gI, o_gR, o_pI, o_pZ0, o_pZ1, o_pZb, o_pR, o_aI, o_qI, o_aN, tn, va_up_self, va_up_ne, upup, jI_shr1, jI_shr4, jI_shr0, jI_and1, jI_and15, jI_join, jI_240, jI_hi, jF_at, jF_up, jI_max, jI_min, b2_t, b2_f, Bool.not_true, Bool.not_false, eq_self, true_or, or_true, f33, f13, eu, ntt, et]) <;> with_reducible rfl))) | (with_reducible apply q_lt; · (first | with_reducible rfl | ((simp (disch := omega) only [jI_lit, jI_neg, jI_add, jI_sub, jI_mul, o_gI, o_gR, o_pI, o_pZ0, o_pZ1, o_pZb, o_pR, o_aI, o_qI, o_aN, tn, va_up_self, va_up_ne, upup, jI_shr1, jI_shr4, jI_shr0, jI_and1, jI_and15, jI_join, jI_240, jI_hi, jF_at, jF_up, jI_max, jI_min, b2_t, b2_f, Bool.not_true, Bool.not_false, eq_self, true_or, or_true, f33, f13, eu, ntt, et]) <;> with_reducible rfl))) | (with_reducible apply q_ifp; · (first | ((simp (disch := omega) only [jI_lit, jI_neg, jI_add, jI_sub, jI_mul, jI_lt, jI_le, jI_eq, va_up_self, va_up_ne, jI_shr1, jI_shr4, jI_shr0, jI_and1, jI_and15, jF_at, tn, b2_t, b2_f, cmp_ge, cmp_gt, cmp_le, cmp_lt, cmp_eq, jL_lit, jL_lt, jL_le, jL_eq, f33, f13, eu, ntt, et]) <;> omega) | omega)) | (with_reducible apply q_ifn; · (first | ((simp (disch := omega) only [jI_lit, jI_neg, jI_add, jI_sub, jI_mul, jI_lt, jI_le, jI_eq, va_up_self, va_up_ne, jI_shr1, jI_shr4, jI_shr0, jI_and1, jI_and15, jF_at, tn, b2_t, b2_f, cmp_ge, cmp_gt, cmp_le, cmp_lt, cmp_eq, jL_lit, jL_lt, jL_le, jL_eq, f33, f13, eu, ntt, et]) <;> omega) | omega)) | (with_reducible apply q_obk; · (first | with_reducible rfl | ((simp (disch := omega) only [jI_lit, jI_neg, jI_add, jI_sub, jI_mul, o_gI, o_gR, o_pI, o_pZ0, o_pZ1, o_pZb, o_pR, o_aI, o_qI, o_aN, tn, va_up_self, va_up_ne, upup, jI_shr1, jI_shr4, jI_shr0, jI_and1, jI_and15, jI_join, jI_240, jI_hi, jF_at, jF_up, jI_max, jI_min, b2_t, b2_f, Bool.not_true, Bool.not_false, eq_self, true_or, or_true, f33, f13, eu, ntt, et]) <;> with_reducible rfl))) | (with_reducible apply q_nz; · (first | ((simp (disch := omega) only [jI_lit, jI_neg, jI_add, jI_sub, jI_mul, jI_lt, jI_le, jI_eq, va_up_self, va_up_ne, jI_shr1, jI_shr4, jI_shr0, jI_and1, jI_and15, jF_at, tn, b2_t, b2_f, cmp_ge, cmp_gt, cmp_le, cmp_lt, cmp_eq, jL_lit, jL_lt, jL_le, jL_eq, f33, f13, eu, ntt, et]) <;> omega) | omega)) | (with_reducible apply q_rz; · (first | exact b2_01 _ | decide)))) <;> (first | with_reducible rfl | ((simp (disch := omega) only [jI_lit, jI_neg, jI_add, jI_sub, jI_mul, o_gI, o_gR, o_pI, o_pZ0, o_pZ1, o_pZb, o_pR, o_aI, o_qI, o_aN, tn, va_up_self, va_up_ne, upup, jI_shr1, jI_shr4, jI_shr0, jI_and1, jI_and15, jI_join, jI_240, jI_hi, jF_at, jF_up, jI_max, jI_min, b2_t, b2_f, Bool.not_true, Bool.not_false, eq_self, true_or, or_true, f33, f13, eu, ntt, et]) <;> with_reducible rfl) | rfl))
    · rw [hI4, va_up_ne _ _ a3, hfr y' a1 a2 a3 a4]
    · have : I4 (x + 1) = jF (cls (yrs P many r sd yn).1 g3) := by rw [hI4, va_up_ne _ _ (Ne.symm htx)]; exact hg3
      exact Zr_of this
end FS
