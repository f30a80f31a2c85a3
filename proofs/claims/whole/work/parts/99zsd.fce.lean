section FSD
variable {K : Nat → Nat} {I : Nat → Nat → Int32} {R : Nat → Nat → Nat} {L : Nat → Nat → Int64} {N : Nat → Nat} {w : Nat × Nat × Nat × Nat} {X U C Z : Nat}
variable {b many k m n pc pu : Nat} {P : PG} {r nt cr t : Nat → Int} {A : Nat → Nat → Int} {fp : Int} {im : Option DS}
/-- an engine whose tape has been read: all but the place of a fault -/
def PBd (K : Nat → Nat) (I : Nat → Nat → Int32) (R : Nat → Nat → Nat) (N : Nat → Nat) (X b l sl i many : Nat) (P : PG) (r : Nat → Int) (k : Nat) (A : Nat → Nat → Int) (m : Nat) (nt cr t : Nat → Int) (im : Option DS) (pc pu : Nat) : Prop :=
  Sh K R N X b l sl i ∧ Gd K I R N (b + 14) l many P ∧ Ld I l P ∧ Ls K R N l ∧ Ls K R N sl ∧ Ln K R X (bd b i) l ∧ Ln K R X (bd b i) sl ∧ (∀ s s', s < 60 → s' < 60 → R (l + 1) s ≠ 0 → R (l + 1) s ≠ R (sl + 1) s') ∧ (∀ j, 256 ≤ j → I (l + 2) j = jI 0 ∧ I (sl + 2) j = jI 0) ∧ Dsk K I R N X (bd b i) (b + 53) r k A m nt cr ∧ DOK many 20000 r k A ∧ Im K I R N X b i many im ∧ Zr I (b + 35) ∧ Zr I (b + 37) ∧ (∀ j, j < 700 → I (b + 1) j = jI (t j) ∧ 0 ≤ t j ∧ t j < 256) ∧ I b 1 = jI ((0 : Nat) : Int) ∧ I b 12 = jI (if im = none then 0 else 1) ∧ Po R b i pc pu
theorem PBd_ls {l sl : Nat} (h : (l = b + 29 ∧ sl = b + 2) ∨ (l = b + 2 ∧ sl = b + 29)) : b + 2 ≤ l ∧ l ≤ b + 29 ∧ b + 2 ≤ sl ∧ sl ≤ b + 29 ∧ (l ≠ b + 14 ∧ l + 1 ≠ b + 14 ∧ l + 2 ≠ b + 14) ∧ (sl ≠ b + 14 ∧ sl + 1 ≠ b + 14 ∧ sl + 2 ≠ b + 14) ∧ (sl + 2 < b + 14 ∨ b + 14 + 15 ≤ sl) ∧ l ≠ sl := by omega
/-- the fault of a text -/
theorem PBd_f {l sl i : Nat} {pl : Int} (h : PBd K I R N X b l sl i many P r k A m nt cr t im pc pu) : RC K (va_up I b (va_up (I b) 2 (jI pl))) R N X b many P r k A m nt cr 0 t pl im pc pu := by
  obtain ⟨sh1, gd1, ld1, lsl, ls', ln11, ln2', dis1, hz1, dsk1, ok0, hi1, z11, z21, tape, Ib1, Ib12, po⟩ := h
  have x4 := sh1.2.2.2.2.2.2.2.2.2.2.2.1.2.2.2
  have x1 := sh1.2.2.2.2.2.2.2.2.2.2.2.1.1
  have kb' := sh1.1
  obtain ⟨y1, y2, y3, y4, -, -, -, -⟩ := PBd_ls x4
  clear x4
  obtain ⟨J, hJ⟩ : ∃ J, J = va_up I b (va_up (I b) 2 (jI pl)) := ⟨_, rfl⟩
  rw [← hJ]
  have jn : ∀ y, y ≠ b → J y = I y := fun y hy => by rw [hJ, va_up_ne _ _ hy]
  have jbd : ∀ y, K y = 101 → ¬ bd b i y → J y = I y := fun y _ q => jn y (fun e => q (by unfold bd; omega))
  refine ⟨l, sl, i, sh1, ⟨Gd_fr5 gd1 (fun y _ hk => jn y (fun e => by rw [e, kb'] at hk; omega)) (RFr_rf _ _), ?_, ls', ln11, ln2', dis1, ?_⟩, Dsk_c dsk1 (fun y a c => jn y (by omega)) jbd (fun _ _ => rfl), ok0, ⟨?_, by omega, ?_, ?_, ?_⟩, ?_, ?_, ?_, po⟩
  · unfold Ld at ld1 ⊢; rw [jn (l + 2) (by omega)]; exact ld1
  · rw [jn (l + 2) (by omega), jn (sl + 2) (by omega)]; exact hz1
  · rw [hJ, va_up_self, va_up_ne _ _ (by omega)]; exact Ib1
  · rw [hJ, va_up_self, va_up_self]
  · rw [jn (b + 1) (by omega)]; exact tape
  · rw [hJ, va_up_self, va_up_ne _ _ (by omega)]; exact Ib12
  · have s11 := sh1.2.2.2.2.2.2.2.2.2.2.2.1.2.2.1
    rcases hi1 with q | ⟨i0', r2, k2, A2, m2, nt2, cr2, d2', hdis, hq2⟩
    · exact Or.inl q
    · exact Or.inr ⟨i0', r2, k2, A2, m2, nt2, cr2, Dsk_c d2' (fun y a c => jn y (by omega)) jbd (fun _ _ => rfl), hdis, hq2⟩
  · unfold Zr at z11 ⊢; rw [jn _ (by omega)]; exact z11
  · unfold Zr at z21 ⊢; rw [jn _ (by omega)]; exact z21
set_option maxHeartbeats 4000000 in
/-- the engine takes over what was read -/
theorem PBd_s {l sl i : Nat} {st : LNS} {Q : Nat → Int} (h : PBd K I R N X b l sl i many P r k A m nt cr t im pc pu) (sk : STK st) (pg : Pg K I R sl st Q) : ∃ J R4, (ob (pI 10 b 2 (-1) (K, I, R, L, N, w)) fun h => ob (gR 10 b 10 h) fun v9 => ob (gR 10 b 3 h) fun v10 => obk h (fX2_renew v9 v10 h) fun h => ob (gR 10 b 5 h) fun v12 => ob (gR 4 v12 0 h) fun v13 => ob (gR 10 b 3 h) fun v14 => obk2 h (fX9_exchange v13 v14 h) fun v15 h => ob (pR 10 b 3 v15 h) fun h => ob (pZ 10 b 12 0 h) fun h => (some (.inr 0, h) : Option ((Nat ⊕ Int32) × Hp))) = some (.inr 0, (K, J, R4, L, N, w)) ∧ RC K J R4 N X b st.1 (pgm st Q) (bgn (pgm st Q) st.1 emp) 0 A 0 nt cr 0 t (-1) none pc pu := by
  obtain ⟨sh1, gd1, ld1, lsl, ls', ln11, ln2', dis1, hz1, dsk1, ok0, hi1, z11, z21, tape, Ib1, Ib12, po⟩ := h
  obtain ⟨pg1, pg2, pg3, pg4, pg5⟩ := pg
  obtain ⟨s0, s1, s2, s3, s4, s5, s6, s7, s8, s9, s10, sh11, shf, she, shd1, shd2, shd3, sht, sh12, sh13⟩ := sh1
  obtain ⟨x1, x2, x3, x4⟩ := sh11
  obtain ⟨y1, y2, y3, y4, ⟨y5, y6, y7⟩, ⟨y8, y9, y10⟩, y11, y12⟩ := PBd_ls x4
  have x4' : (sl = b + 29 ∧ l = b + 2) ∨ (sl = b + 2 ∧ l = b + 29) := x4.elim (fun q => Or.inr ⟨q.2, q.1⟩) (fun q => Or.inl ⟨q.2, q.1⟩)
  clear x4
  have kb' : K b = 10 := s0
  obtain ⟨J, hJ⟩ : ∃ J, J = va_up I b (va_up (I b) 2 (jI (-1))) := ⟨_, rfl⟩
  have jn : ∀ y, y ≠ b → J y = I y := fun y hy => by rw [hJ, va_up_ne _ _ hy]
  obtain ⟨o, g, d0, hr, hI2, dk, dn, rf⟩ := dsk1
  have v7 : ∀ j, pgm st Q 7 j = Q j := fun j => rfl
  obtain ⟨J2, e2, b1, b2', b3, b4, b5, b6⟩ := e_drenew (I := J) (L := L) (w := w) (d := b + 53) (nw := b + 54) (l := sl) (many := st.1) (P := pgm st Q) dk.1.1 d0 hr (Zr_of (r := r) (g := g) (by rw [jn _ (by omega)]; exact hI2)) ls'.1 ls'.2.2.1 ls'.2.2.2.2.2.1 ls'.2.2.2.2.2.2 (by rw [jn _ (by omega)]; exact pg1) pg2 (fun j hj => by rw [jn _ (by omega), pg3, v7]; rfl) (by omega)
  obtain ⟨R3, hR3⟩ : ∃ R3, R3 = va_up R (b + 14) (va_up (R (b + 14)) 5 sl) := ⟨_, rfl⟩
  obtain ⟨R4, hR4⟩ : ∃ R4, R4 = va_up R3 b (va_up (R3 b) 3 l) := ⟨_, rfl⟩
  obtain ⟨J3, hJ3⟩ : ∃ J3, J3 = va_up J2 b (va_up (J2 b) 12 (jI 0)) := ⟨_, rfl⟩
  have kp : K (b + 14) = 8 := gd1.1.1
  have r4n : ∀ y, y ≠ b → y ≠ b + 14 → R4 y = R y := fun y h1 h2 => by rw [hR4, va_up_ne _ _ h1, hR3, va_up_ne _ _ h2]
  have r4b : ∀ j, j ≠ 3 → R4 b j = R b j := fun j hj => by rw [hR4, va_up_self, va_up_ne _ _ hj, hR3, va_up_ne _ _ (by omega)]
  have r4p : ∀ j, j ≠ 5 → R4 (b + 14) j = R (b + 14) j := fun j hj => by rw [hR4, va_up_ne _ _ (by omega), hR3, va_up_self, va_up_ne _ _ hj]
  have j3n : ∀ y, y ≠ b → y ≠ b + 53 → y ≠ b + 55 → J3 y = I y := fun y h1 h2 h3 => by rw [hJ3, va_up_ne _ _ h1, b5 y h2 h3, jn y h1]
  have j3b : J3 (b + 55) = jF (cls (bgn (pgm st Q) st.1 emp) (fun _ => 0)) := by rw [hJ3, va_up_ne _ _ (by omega)]; exact b1
  have j3d : ∀ j, J3 (b + 53) j = J2 (b + 53) j := fun j => by rw [hJ3, va_up_ne _ _ (by omega)]
  have hbs : Byz Q := pg4
  obtain ⟨qc, qh5, -⟩ := gd1
  have bse := s10
  have sh4' : Sh K R4 N X b sl l i := by
    refine ⟨s0, by rw [r4b _ (by omega)]; exact s1, by rw [hR4, va_up_self, va_up_self], by rw [r4b _ (by omega)]; exact s3, by rw [r4b _ (by omega)]; exact s4, by rw [r4b _ (by omega)]; exact s5, by rw [r4b _ (by omega)]; exact s6, by rw [r4b _ (by omega)]; exact s7, by rw [r4b _ (by omega)]; exact s8, by rw [r4b _ (by omega)]; exact s9, by rw [r4b _ (by omega)]; exact s10, ⟨x1, x2, x3, x4'⟩, ?_, ?_, ?_, ?_, ?_, ?_, sh12, sh13⟩
    · unfold Fs Ro Rw at shf ⊢
      rw [r4n (b + 13) (by omega) (by omega), r4n (b + 35) (by omega) (by omega), r4n (b + 37) (by omega) (by omega)]
      exact shf
    · unfold Ed at she ⊢; rw [r4n _ (by omega) (by omega)]; exact she
    · unfold Dc at shd1 ⊢; rw [r4n _ (by omega) (by omega)]; exact shd1
    · unfold Dc at shd2 ⊢; rw [r4n _ (by omega) (by omega)]; exact shd2
    · unfold Dc at shd3 ⊢; rw [r4n _ (by omega) (by omega)]; exact shd3
    · unfold Tb at sht ⊢; rw [r4n _ (by omega) (by omega)]; exact sht
  clear x4'
  have ls4 : Ls K R4 N sl := by unfold Ls at ls' ⊢; rw [r4n _ (by omega) (by omega)]; exact ls'
  have gd4 : Gd K J3 R4 N (b + 14) sl st.1 (pgm st Q) := by
    obtain ⟨q1, q2, q3, q4, q5, q6, q7⟩ := ls4
    refine ⟨?_, by rw [hR4, va_up_ne _ _ (by omega), hR3, va_up_self, va_up_self], q1, q2, q3, q4, q5, q6, q7, by rw [j3n _ (by omega) (by omega) (by omega)]; exact pg1, pg2, fun kk hk => ?_, y11⟩
    · clear x3 y11
      unfold Pc Dc Ed at qc ⊢
      rw [r4n (b + 14 + 1) (by omega) (by omega), r4n (b + 14 + 3) (by omega) (by omega), r4n (b + 14 + 5) (by omega) (by omega), r4n (b + 14 + 7) (by omega) (by omega), r4p 0 (by omega), r4p 1 (by omega), r4p 2 (by omega), r4p 3 (by omega), r4p 4 (by omega)]
      exact qc
    · obtain ⟨u1, u2, u3, u4, u5⟩ := pg5 kk hk
      obtain ⟨w1, w2, w3⟩ := ln2'.1 kk (by omega) u1
      have w4 : b + 59 ≤ R (sl + 1) kk := by
        by_cases z : b + 59 ≤ R (sl + 1) kk
        · exact z
        · exact absurd (Or.inl (by omega)) w2
      rw [r4n (sl + 1) (by omega) (by omega)]
      refine ⟨InsOK_pgm sk hk w1 (by rw [r4n _ (by omega) (by omega)]; exact u2) (fun j j1 j2 => by rw [j3n _ (by omega) (by omega) (by omega)]; exact u4 j j1 j2) (by rw [j3n _ (by omega) (by omega) (by omega)]; exact u5), PGk_pgm sk hk, u1, Or.inr (by omega)⟩
  clear y11
  have nl6' : ∀ y, y = b + 2 ∨ y = b + 29 → nul6 R4 y = nul6 R y := fun y hy => by unfold nul6; rw [r4n _ (by omega) (by omega)]
  have nl56 : nul R4 (b + 53 + 3) = nul R (b + 53 + 3) := by unfold nul; rw [r4n _ (by omega) (by omega)]
  have jbd : ∀ y, K y = 101 → ¬ bd b i y → J3 y = I y := fun y _ q => by
    have : b + 59 ≤ y := by
      by_cases z : b + 59 ≤ y
      · exact z
      · exact absurd (Or.inl (by omega)) q
    exact j3n y (by omega) (by omega) (by omega)
  have rk : ∀ y, K y = 2 ∨ K y = 9 ∨ K y = 103 → R4 y = R y := fun y hy => r4n y (fun e => by rw [e, kb'] at hy; omega) (fun e => by rw [e, kp] at hy; omega)
  have po' : Po R4 b i pc pu := by
    unfold Po at po ⊢
    rw [nl6' _ (Or.inl rfl), nl6' _ (Or.inr rfl), nl56]
    by_cases z : i = 0
    · rw [if_pos z, if_pos z] at po ⊢; exact po
    · have : nul R4 (i + 3) = nul R (i + 3) := by unfold nul; rw [r4n _ (by omega) (by omega)]
      rw [this]; exact po
  have im' : Im K J3 R4 N X b i st.1 none := by
    rcases hi1 with q | ⟨i0', r2, k2, A2, m2, nt2, cr2, d2', hdis, hq2⟩
    · exact Or.inl ⟨q.1, rfl⟩
    · have ib : b + 59 ≤ i := x3.elim (fun q => absurd q i0') (fun q => q.1)
      have ij : ∀ y, i ≤ y → J3 y = I y := fun y hy => j3n y (by omega) (by omega) (by omega)
      refine Or.inr ⟨i0', r2, k2, A2, m2, nt2, cr2, Dsk_c d2' (fun y a _ => ij y a) jbd rk, ?_, fun q hq3 => absurd hq3 (by simp)⟩
      rw [r4n _ (by omega) (by omega), r4n _ (by omega) (by omega)]
      exact hdis
  clear x3
  refine ⟨J3, R4, ?_, sl, l, i, sh4', ⟨gd4, ⟨fun j hj => ?_, fun j hj => ?_⟩, ?_, Ln_x ln2' (Nat.le_refl _) (fun _ _ => rfl) (r4n _ (by omega) (by omega)), Ln_x ln11 (Nat.le_refl _) (fun _ _ => rfl) (r4n _ (by omega) (by omega)), ?_, ?_⟩, ⟨0, fun _ => 0, ?_, ?_, j3b, ?_, ?_, ?_⟩, ⟨RowOK_bgn (RowOK_emp (by omega)) sk.1 (fun j hj => hbs.1 j hj), fun j hj => absurd hj (Nat.not_lt_zero j)⟩, ⟨?_, by omega, ?_, ?_, ?_⟩, im', ?_, ?_, po'⟩
  · have kd4 : K (b + 13) = 4 := shf.1
    rw [show (-1 : Int32) = jI (-1) from rfl, o_pI kb', o_ob, ← hJ, o_gR kb', o_ob, s9, o_gR kb', o_ob, s2, e2, o_obkt, o_gR kb', o_ob, s4, o_gR kd4, o_ob, shf.2.1, o_gR kb', o_ob, s2]
    unfold fX9_exchange
    rw [o_gd _ kp, o_gR kp, o_ob, qh5, o_pR kp, o_ob, ← hR3, o_obk2t, o_pR kb', o_ob, ← hR4, show (0 : Int32) = jI 0 from rfl, o_pZ0 kb', o_ob, ← hJ3]
  · rw [j3n _ (by omega) (by omega) (by omega), pg3]; rfl
  · exact hbs.1 j hj
  · unfold Ls at lsl ⊢
    rw [r4n _ (by omega) (by omega)]
    exact lsl
  · intro s s' hs hs' c e
    rw [r4n _ (by omega) (by omega)] at c
    rw [r4n _ (by omega) (by omega), r4n _ (by omega) (by omega)] at e
    exact dis1 s' s hs' hs (by rw [← e]; exact c) e.symm
  · intro j hj
    rw [j3n _ (by omega) (by omega) (by omega), j3n _ (by omega) (by omega) (by omega)]
    exact ⟨(hz1 j hj).2, (hz1 j hj).1⟩
  · rw [r4n _ (by omega) (by omega)]; exact d0
  · exact Rw_p hr (r4n _ (by omega) (by omega))
  · obtain ⟨⟨k2, r1, k103, n40, i2', i3', ho, hk'⟩, hrow, hinj, hact⟩ := dk
    refine ⟨⟨k2, by rw [rk _ (Or.inl k2)]; exact r1, k103, n40, by rw [j3d]; exact b2', by rw [j3d]; exact b3, by omega, by omega⟩, fun s hs c => ?_, fun s s' a1 a2 a3 a4 => ?_, fun j hj => absurd hj (Nat.not_lt_zero j)⟩
    · rw [rk _ (Or.inr (Or.inr k103))] at c ⊢
      obtain ⟨q1, q2, q3, q4, q5⟩ := hrow s hs c
      refine ⟨Rw_p q1 (rk _ (Or.inr (Or.inl q1.1))), fun j hj => ?_, q3, q4, q5⟩
      rw [jbd _ q1.2.2.1 q4]; exact q2 j hj
    · rw [rk _ (Or.inr (Or.inr k103))] at a4 ⊢; exact hinj s s' a1 a2 a3 a4
  · obtain ⟨q1, q2, q3, q4, q5, q6, q7⟩ := dn
    exact ⟨q1, by rw [r4n _ (by omega) (by omega)]; exact q2, q3, q4, by rw [j3d]; exact b4, fun j hj => by rw [j3n _ (by omega) (by omega) (by omega)]; exact q6 j hj, ⟨by omega, fun j hj => absurd hj (Nat.not_lt_zero j)⟩⟩
  · obtain ⟨q1, q2, q3, q4, q5⟩ := rf
    exact ⟨q1, by rw [r4n _ (by omega) (by omega)]; exact q2, q3, q4, fun j hj => by rw [j3n _ (by omega) (by omega) (by omega)]; exact q5 j hj⟩
  · rw [hJ3, va_up_self, va_up_ne _ _ (by omega), b5 b (by omega) (by omega), hJ, va_up_self, va_up_ne _ _ (by omega)]; exact Ib1
  · rw [hJ3, va_up_self, va_up_ne _ _ (by omega), b5 b (by omega) (by omega), hJ, va_up_self, va_up_self]
  · rw [j3n _ (by omega) (by omega) (by omega)]; exact tape
  · rw [hJ3, va_up_self, va_up_self, if_pos rfl]
  · unfold Zr at z11 ⊢; rw [j3n _ (by omega) (by omega) (by omega)]; exact z11
  · unfold Zr at z21 ⊢; rw [j3n _ (by omega) (by omega) (by omega)]; exact z21
end FSD
