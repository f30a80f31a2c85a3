section FSE
variable {K : Nat → Nat} {I : Nat → Nat → Int32} {R : Nat → Nat → Nat} {L : Nat → Nat → Int64} {N : Nat → Nat} {w : Nat × Nat × Nat × Nat} {X U C Z : Nat} {Xo Ko : Nat}
variable {b many k m n pc pu : Nat} {P : PG} {r nt cr t : Nat → Int} {A : Nat → Nat → Int} {fp : Int} {im : Option DS}
set_option maxHeartbeats 4000000 in
/-- a program: what comes of it -/
theorem y_Prog {a : Nat} (h : RC K I R N X b many P r k A m nt cr n t fp im pc pu) (h1 : X + pc ≤ C) (h2 : U + pu ≤ Z) (hK0 : TP Xo Ko K X) (ha : a ≤ n) (hst : ∀ st Q, par t a = .inr (st, Q) → STK st) :
    ∃ K' I' R' L' N' X' U' pc' pu' v, fX12_program b (jI (a : Int)) (K, I, R, L, N, (X, U, C, Z)) = some (.inr (jI v), (K', I', R', L', N', (X', U', C, Z))) ∧ X' + pc' = X + pc ∧ U' + pu' = U + pu ∧ TP Xo Ko K' X' ∧ X ≤ X' ∧ (∀ y, y < X → K' y = K y ∧ N' y = N y) ∧
      ((∃ cc pl, par t a = .inl (cc, pl) ∧ v = cc ∧ RC K' I' R' N' X' b many P r k A m nt (va_up cr 0 (cr 0 + 1)) 0 t pl im pc' pu') ∨ (∃ st Q, par t a = .inr (st, Q) ∧ v = 0 ∧ RC K' I' R' N' X' b st.1 (pgm st Q) (bgn (pgm st Q) st.1 emp) 0 A 0 nt cr 0 t (-1) none pc' pu')) := by
  obtain ⟨l, sl, i, sh, pm, dsk, ok, tp, hi, z1, z2, po⟩ := h
  have kb := sh.1
  have sh' := sh
  obtain ⟨s0, s1, s2, s3, s4, s5, s6, s7, s8, s9, s10, s11, fs, ed, d1, d2, d3, tb, s12, s13⟩ := sh'
  obtain ⟨x1, x2, x3, x4⟩ := s11
  obtain ⟨gd, ld, ls, ln1, ln2, dis, hz⟩ := pm
  obtain ⟨t1, t2, t3, t4, t5⟩ := tp
  obtain ⟨po1, po2⟩ := po
  have ksl : K sl = 6 := ls.1
  have ksl1 : K (sl + 1) = 104 := ls.2.2.2.1
  have k5 : K (b + 5) = 7 := tb.1
  obtain ⟨I1, hI1⟩ : ∃ I1, I1 = va_up I b (va_up (I b) 1 (jI 0)) := ⟨_, rfl⟩
  have i1n : ∀ y, y ≠ b → I1 y = I y := fun y hy => by rw [hI1, va_up_ne _ _ hy]
  have htx : Tx K I1 N (b + 1) t := ⟨s12, s13, fun j hj => by rw [i1n _ (by omega)]; exact t4 j hj⟩
  have hx : PX2 X (b + 5) (b + 6) (b + 7) (b + 8) (b + 1) sl := ⟨by omega, by omega, by omega, by omega, by omega, by omega, by omega, by omega, by omega, by omega⟩
  have n6 : nul6 R sl ≤ pc ∧ 11 * nul6 R sl ≤ pu := by
    rcases x4 with ⟨q1, q2⟩ | ⟨q1, q2⟩
    · rw [q2]; omega
    · rw [q2]; omega
  have hb0 : ∀ y, X ≤ y → ¬ bd b i y := fun y hy q => by unfold bd at q; omega
  obtain ⟨kd, K', I', R', L', N', X', U', e1, ⟨tb', r5', ls', ln2', hz2'⟩, ⟨p1, p2, p3, p4, p5, p6, p7, p8, p9, p10, p11⟩, c1, c2, c3, f1, f2⟩ := e_parse (L := L) (U := U) (C := C) (Z := Z) (n := a) tb (show b + 5 ≠ b + 1 by omega) htx (by omega) ls ln2 (fun j hj => by rw [i1n _ (by omega)]; exact (hz j hj).2) hx (by omega) hK0 hb0 (by omega) (by omega) (by omega) (by omega)
  -- the heap grown, all else as it was
  obtain ⟨I0, hI0⟩ : ∃ I0 : Nat → Nat → Int32, I0 = fun y => if y < X then I y else I' y := ⟨_, rfl⟩
  obtain ⟨R0, hR0⟩ : ∃ R0 : Nat → Nat → Nat, R0 = fun y => if y < X then R y else R' y := ⟨_, rfl⟩
  have i0 : ∀ y, y < X → I0 y = I y := fun y hy => by rw [hI0]; exact if_pos hy
  have r0 : ∀ y, y < X → R0 y = R y := fun y hy => by rw [hR0]; exact if_pos hy
  have i0' : ∀ y, X ≤ y → I0 y = I' y := fun y hy => by rw [hI0]; exact if_neg (by omega)
  have r0' : ∀ y, X ≤ y → R0 y = R' y := fun y hy => by rw [hR0]; exact if_neg (by omega)
  have hg := RC_x (X' := X') (K' := K') (I' := I0) (R' := R0) (N' := N') ⟨l, sl, i, sh, ⟨gd, ld, ls, ln1, ln2, dis, hz⟩, dsk, ok, ⟨t1, t2, t3, t4, t5⟩, hi, z1, z2, ⟨po1, po2⟩⟩ p6 p1 p2 i0 r0
  have hgl : ∃ l2 sl2 i2, l2 = l ∧ sl2 = sl ∧ i2 = i ∧ Sh K' R0 N' X' b l2 sl2 i2 ∧ Pm K' I0 R0 N' X' b l2 sl2 i2 many P ∧ Dsk K' I0 R0 N' X' (bd b i2) (b + 53) r k A m nt cr ∧ DOK many 20000 r k A ∧ Tp I0 b n t fp im ∧ Im K' I0 R0 N' X' b i2 many im ∧ Zr I0 (b + 35) ∧ Zr I0 (b + 37) ∧ Po R0 b i2 pc pu := by
    obtain ⟨l2, sl2, i2, g1, g2⟩ := hg
    have e3 := g1.2.2.1
    have e11 := g1.2.2.2.2.2.2.2.2.2.2.1
    rw [r0 b (by omega)] at e3 e11
    have q1 : sl2 = sl := by rw [← e3]; exact s2
    have q2 : i2 = i := by rw [← e11]; exact s10
    have g11 := g1.2.2.2.2.2.2.2.2.2.2.2.1.2.2.2
    exact ⟨l2, sl2, i2, by omega, q1, q2, g1, g2⟩
  obtain ⟨l2, sl2, i2, ql, qs, qi, g1, ⟨gd0, ld0, ls0, ln10, ln20, dis0, hz0⟩, dsk0, ok0, tp0, hi0, z10, z20, po0⟩ := hgl
  subst ql
  subst qs
  subst qi
  have ni : ∀ y, y < X → K y ≠ 5 → ∀ s, s < 60 → R (sl2 + 1) s = 0 ∨ y ≠ R (sl2 + 1) s := fun y hy hk s hs => by
    by_cases c : R (sl2 + 1) s = 0
    · exact Or.inl c
    · exact Or.inr (fun e => hk (by rw [e]; exact (ln2.1 s hs c).1))
  have lo : ∀ y, y < b + 59 → ∀ s, s < 60 → R (sl2 + 1) s = 0 ∨ y ≠ R (sl2 + 1) s := fun y hy s hs => by
    by_cases c : R (sl2 + 1) s = 0
    · exact Or.inl c
    · exact Or.inr (fun e => (ln2.1 s hs c).2.1 (by rw [← e]; exact Or.inl hy))
  have hF : PFm K' I0 R0 b l2 sl2 I' R' := by
    refine ⟨fun y h1 h2 h3 => ?_, fun y h1 h2 => ?_, fun y h1 h2 h3 h4 h5 h6 => ?_, fun y h1 h2 => ?_, fun s hs c => ?_⟩
    · rw [r0 y (by omega)]; exact p4 y (by omega) h2 h3 (lo y h1)
    · by_cases q : y < X
      · rw [p1 y q] at h2
        rw [r0 y q]; exact p4 y q (by omega) (by omega) (ni y q h2)
      · rw [r0' y (by omega)]
    · rw [i0 y (by omega), p5 y (by omega) h3 h4 h5 h6 (lo y h1)]; exact i1n y h2
    · by_cases q : y < X
      · rw [p1 y q] at h2
        rw [i0 y q, p5 y q (by omega) (by omega) (by omega) (by omega) (ni y q h2)]; exact i1n y (by omega)
      · rw [i0' y (by omega)]
    · rw [r0 (l2 + 1) (by omega)] at c ⊢
      obtain ⟨a1, a2, a3⟩ := ln1.1 s hs c
      have a4 : b + 59 ≤ R (l2 + 1) s := by
        by_cases z : b + 59 ≤ R (l2 + 1) s
        · exact z
        · exact absurd (Or.inl (by omega)) a2
      have a5 : ∀ s', s' < 60 → R (sl2 + 1) s' = 0 ∨ R (l2 + 1) s ≠ R (sl2 + 1) s' := fun s' hs' => Or.inr (dis s s' hs hs' c)
      rw [r0 _ a3, i0 _ a3]
      exact ⟨p4 _ a3 (by omega) (by omega) a5, (p5 _ a3 (by omega) (by omega) (by omega) (by omega) a5).trans (i1n _ (by omega))⟩
  obtain ⟨sh1, gd1⟩ := PFm_o g1 hF gd0 ln10 tb'
  obtain ⟨ld1, ln11, dsk1, hi1, z11, z21, nl1, nl2, e12, eb1, er1, nl6⟩ := PFm_d g1 hF ld0 ln10 dsk0 hi0 z10 z20 ⟨by rw [p1 _ (by omega)]; exact ksl, by rw [p1 _ (by omega)]; exact ksl1, by rw [p1 _ (by omega)]; exact k5⟩
  have dis1 : ∀ s s', s < 60 → s' < 60 → R' (l2 + 1) s ≠ 0 → R' (l2 + 1) s ≠ R' (sl2 + 1) s' := by
    intro s s' hs hs' c e
    rw [er1, r0 _ (by omega)] at c e
    have a3 := (ln1.1 s hs c).2.2
    by_cases z : R (sl2 + 1) s' = 0
    · rcases p8 s' hs' z with q | q
      · rw [q] at e; exact c e
      · omega
    · rw [p7 s' hs' z] at e; exact dis s s' hs hs' c e
  have hz1 : ∀ j, 256 ≤ j → I' (l2 + 2) j = jI 0 ∧ I' (sl2 + 2) j = jI 0 := fun j hj => ⟨by rw [e12, i0 _ (by omega)]; exact (hz j hj).1, hz2' j hj⟩
  have kb' : K' b = 10 := by rw [p1 b (by omega)]; exact kb
  have eRb : R' b = R b := by rw [p4 b (by omega) (by omega) (by omega) (lo b (by omega))]
  have eIb : I' b = I1 b := p5 b (by omega) (by omega) (by omega) (by omega) (by omega) (lo b (by omega))
  have ok1 : okA (K, I1, R, L, N, (X, U, C, Z)) (K', I', R', L', N', (X', U', C, Z)) := okA_tp hK0 (by omega) p6 p11 c1 c2 c3
  have tape : ∀ j, j < 700 → I' (b + 1) j = jI (t j) ∧ 0 ≤ t j ∧ t j < 256 := fun j hj => by rw [eb1, i0 _ (by omega)]; exact t4 j hj
  have Ib1 : I' b 1 = jI ((0 : Nat) : Int) := by rw [eIb, hI1, va_up_self, va_up_self]; rfl
  have Ib12 : I' b 12 = jI (if im = none then 0 else 1) := by rw [eIb, hI1, va_up_self, va_up_ne _ _ (by omega)]; exact t5
  -- what may still be made
  obtain ⟨po01, po02⟩ := po0
  obtain ⟨pc', hpc⟩ : ∃ pc', pc' = 2 * nul R' (b + 53 + 3) + (if i2 = 0 then 86 else 2 * nul R' (i2 + 3)) + nul6 R' (b + 2) + nul6 R' (b + 29) := ⟨_, rfl⟩
  obtain ⟨pu', hpu⟩ : ∃ pu', pu' = 412 * nul R' (b + 53 + 3) + (if i2 = 0 then 486 + 412 * 40 else 412 * nul R' (i2 + 3)) + 11 * nul6 R' (b + 2) + 11 * nul6 R' (b + 29) := ⟨_, rfl⟩
  have nl0 : nul R0 (b + 53 + 3) = nul R (b + 53 + 3) := by unfold nul; rw [r0 _ (by omega)]
  have nsum : X' + pc' = X + pc ∧ U' + pu' = U + pu := by
    have nli : (if i2 = 0 then 86 else 2 * nul R' (i2 + 3)) = (if i2 = 0 then 86 else 2 * nul R (i2 + 3)) ∧ (if i2 = 0 then 486 + 412 * 40 else 412 * nul R' (i2 + 3)) = (if i2 = 0 then 486 + 412 * 40 else 412 * nul R (i2 + 3)) := by
      by_cases z : i2 = 0
      · rw [if_pos z, if_pos z, if_pos z, if_pos z]; exact ⟨rfl, rfl⟩
      · have : nul R' (i2 + 3) = nul R (i2 + 3) := by rw [nl2 z]; unfold nul; rw [r0 _ (by omega)]
        rw [this]; exact ⟨rfl, rfl⟩
    have n6l : nul6 R' l2 = nul6 R l2 := by rw [nl6]; unfold nul6; rw [r0 _ (by omega)]
    rw [nli.1, nl1, nl0] at hpc
    rw [nli.2, nl1, nl0] at hpu
    rcases x4 with ⟨q1, q2⟩ | ⟨q1, q2⟩
    · rw [q1] at n6l
      rw [q2] at p9 p10
      omega
    · rw [q1] at n6l
      rw [q2] at p9 p10
      omega
  -- up to the parse's answer
  have run : fX12_program b (jI (a : Int)) (K, I, R, L, N, (X, U, C, Z)) = if jI kd = 0 then ob (pI 10 b 2 (-1) (K', I', R', L', N', (X', U', C, Z))) fun h => ob (gR 10 b 10 h) fun v9 => ob (gR 10 b 3 h) fun v10 => obk h (fX2_renew v9 v10 h) fun h => ob (gR 10 b 5 h) fun v12 => ob (gR 4 v12 0 h) fun v13 => ob (gR 10 b 3 h) fun v14 => obk2 h (fX9_exchange v13 v14 h) fun v15 h => ob (pR 10 b 3 v15 h) fun h => ob (pZ 10 b 12 0 h) fun h => some (.inr 0, h) else ob (gR 10 b 4 (K', I', R', L', N', (X', U', C, Z))) fun v16 => ob (fX8_faultPlace v16 (K', I', R', L', N', (X', U', C, Z))) fun v17 => ob (pI 10 b 2 v17 (K', I', R', L', N', (X', U', C, Z))) fun h => ob (gR 10 b 10 h) fun v18 => obk h (fX2_refuse v18 0 h) fun h => some (.inr (jI kd), h) := by
    unfold fX12_program
    rw [o_gd _ kb, if_neg (by rw [show (0 : Int32) = jI 0 from rfl, jI_lt (by omega) (by omega) (by omega) (by omega)]; omega), o_gI kb, o_ob, t1, if_pos (by rw [jI_le (by omega) (by omega) (by omega) (by omega)]; omega), show (0 : Int32) = jI 0 from rfl, o_pI kb, o_ob, ← hI1, o_gR kb, o_ob, s3, o_gR kb, o_ob, s1, o_gR kb, o_ob, s2, e1, o_oba2 ok1]
  have ls1 : Ls K' R' N' l2 := by
    obtain ⟨-, -, k6, l0, l1, k7, n7, k8, n8, -⟩ := gd1
    exact ⟨k6, l0, l1, k7, n7, k8, n8⟩
  have hB : PBd K' I' R' N' X' b l2 sl2 i2 many P r k A m nt cr t im pc' pu' := ⟨sh1, gd1, ld1, ls1, ls', ln11, ln2', dis1, hz1, dsk1, ok0, hi1, z11, z21, tape, Ib1, Ib12, ⟨hpc, hpu⟩⟩
  have t9 := tb'.1
  have fr : ∀ y, y < X → K' y = K y ∧ N' y = N y := fun y hy => ⟨p1 y hy, p2 y hy⟩
  clear sh1 gd1 ld1 ls' ln11 ln2' dis1 hz1 dsk1 hi1 z11 z21 tape Ib1 Ib12 hpc hpu ls1 g1 gd0 ld0 ls0 ln10 ln20 dis0 hz0 dsk0 ok0 tp0 hi0 z10 z20 po01 po02 p1 p2 p3 p4 p5 p7 p8 p9 p10 ni lo hF nl1 nl2 nl0 tb gd ld ls ln1 ln2 dis hz dsk ok hi z1 z2 po1 po2
  obtain ⟨q, hq⟩ : ∃ q, q = par t a := ⟨_, rfl⟩
  rw [← hq] at f1 f2 hst ⊢
  rw [run]
  cases q with
  | inl x =>
    obtain ⟨cc, pl⟩ := x
    obtain ⟨g2, g3, g4, g5⟩ := f1 cc pl rfl
    rw [if_neg (by rw [show (0 : Int32) = jI 0 from rfl, jI_eq (by omega) (by omega) (by omega) (by omega)]; omega)]
    have RC1 := PBd_f (pl := pl) hB
    obtain ⟨J, hJ⟩ : ∃ J, J = va_up I' b (va_up (I' b) 2 (jI pl)) := ⟨_, rfl⟩
    rw [← hJ] at RC1
    obtain ⟨I3, er, RC2⟩ := y_refuse (L := L') (w := (X', U', C, Z)) (wh := 0) RC1 (by omega)
    have er : fX2_refuse (b + 53) 0 (K', J, R', L', N', (X', U', C, Z)) = some (K', I3, R', L', N', (X', U', C, Z)) := er
    refine ⟨K', I3, R', L', N', X', U', pc', pu', kd, ?_, nsum.1, nsum.2, c3, p6, fr, Or.inl ⟨cc, pl, rfl, g2, RC2⟩⟩
    have ef : fX8_faultPlace (b + 5) (K', I', R', L', N', (X', U', C, Z)) = some (jI pl) := by
      unfold fX8_faultPlace
      rw [o_gd _ t9, o_gI t9, o_ob, g5]
    rw [o_gR kb', o_ob, eRb, s3, ef, o_ob, o_pI kb', o_ob, ← hJ, o_gR kb', o_ob, eRb, s9, er, o_obkt]
  | inr x =>
    obtain ⟨st, Q⟩ := x
    obtain ⟨g2, pg⟩ := f2 st Q rfl
    rw [g2, if_pos (show jI 0 = 0 from rfl)]
    obtain ⟨J, R4, e4, RC4⟩ := PBd_s (L := L') (w := (X', U', C, Z)) hB (hst st Q rfl) pg
    exact ⟨K', J, R4, L', N', X', U', pc', pu', 0, e4, nsum.1, nsum.2, c3, p6, fr, Or.inr ⟨st, Q, rfl, rfl, RC4⟩⟩
end FSE
