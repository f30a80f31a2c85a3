section FSA
variable {K : Nat → Nat} {I : Nat → Nat → Int32} {R : Nat → Nat → Nat} {L : Nat → Nat → Int64} {N : Nat → Nat} {w : Nat × Nat × Nat × Nat} {X U C Z : Nat} {Xo Ko : Nat}
variable {b many k m n pc pu : Nat} {P : PG} {r nt cr t : Nat → Int} {A : Nat → Nat → Int} {fp : Int} {im : Option DS}
variable {X' : Nat} {K' : Nat → Nat} {I' : Nat → Nat → Int32} {R' : Nat → Nat → Nat} {N' : Nat → Nat}
theorem Sh_g {l sl i i' : Nat} (h : Sh K R N X b l sl i) (hX : X ≤ X') (hK : ∀ y, y < b + 59 → K' y = K y) (hN : ∀ y, y < b + 59 → N' y = N y) (hR : ∀ y, b < y → y < b + 56 → R' y = R y) (hRb : ∀ j, j ≠ 11 → R' b j = R b j) (h11 : R' b 11 = i') (hi' : i' = 0 ∨ (b + 59 ≤ i' ∧ i' + 6 ≤ X')) : Sh K' R' N' X' b l sl i' := by
  obtain ⟨s0, s1, s2, s3, s4, s5, s6, s7, s8, s9, s10, s11, fs, ed, d1, d2, d3, tb, s12, s13⟩ := h
  refine ⟨by rw [hK b (by omega)]; exact s0, by rw [hRb _ (by omega)]; exact s1, by rw [hRb _ (by omega)]; exact s2, by rw [hRb _ (by omega)]; exact s3, by rw [hRb _ (by omega)]; exact s4, by rw [hRb _ (by omega)]; exact s5, by rw [hRb _ (by omega)]; exact s6, by rw [hRb _ (by omega)]; exact s7, by rw [hRb _ (by omega)]; exact s8, by rw [hRb _ (by omega)]; exact s9, h11, by omega, ?_, ?_, ?_, ?_, ?_, ?_, by rw [hK _ (by omega)]; exact s12, by rw [hN _ (by omega)]; exact s13⟩
  · clear s11 hi'
    unfold Fs Ro Rw at fs ⊢
    simp (disch := omega) only [hK, hN, hR]
    exact fs
  · clear s11 hi'
    unfold Ed at ed ⊢
    simp (disch := omega) only [hK, hN, hR]
    exact ed
  · clear s11 hi'
    unfold Dc at d1 ⊢
    simp (disch := omega) only [hK, hN, hR]
    exact d1
  · clear s11 hi'
    unfold Dc at d2 ⊢
    simp (disch := omega) only [hK, hN, hR]
    exact d2
  · clear s11 hi'
    unfold Dc at d3 ⊢
    simp (disch := omega) only [hK, hN, hR]
    exact d3
  · clear s11 hi'
    unfold Tb at tb ⊢
    simp (disch := omega) only [hK, hN, hR]
    exact tb
theorem Gd_g {l : Nat} {bad : Nat → Prop} (h : Gd K I R N (b + 14) l many P) (ln : Ln K R X bad l) (hl : l = b + 2 ∨ l = b + 29) (hX : b + 59 ≤ X) (kb : K b = 10) (hK : ∀ y, y < X → K' y = K y) (hN : ∀ y, y < X → N' y = N y) (hR : ∀ y, y < X → y ≠ b → R' y = R y) (hI : ∀ y, y < X → I' y = I y) : Gd K' I' R' N' (b + 14) l many P := by
  have hR' : ∀ y, b < y → y < b + 56 → R' y = R y := fun y hy hy2 => hR y (by omega) (by omega)
  have hK' : ∀ y, y < b + 56 → K' y = K y := fun y hy => hK y (by omega)
  have hN' : ∀ y, y < b + 56 → N' y = N y := fun y hy => hN y (by omega)
  obtain ⟨pc, h5, k6, l0, l1, k7, n7, k8, n8, i2, hm, hin, hlp⟩ := h
  have el := hR' l (by omega) (by omega)
  have el1 := hR' (l + 1) (by omega) (by omega)
  refine ⟨?_, by rw [hR' _ (by omega) (by omega)]; exact h5, by rw [hK' _ (by omega)]; exact k6, by rw [el]; exact l0, by rw [el]; exact l1, by rw [hK' _ (by omega)]; exact k7, by rw [hN' _ (by omega)]; exact n7, by rw [hK' _ (by omega)]; exact k8, by rw [hN' _ (by omega)]; exact n8, by rw [hI l (by omega)]; exact i2, hm, fun kk hk => ?_, hlp⟩
  · clear hin ln hlp hm
    unfold Pc Dc Ed at pc ⊢
    simp (disch := omega) only [hK', hN', hR']
    exact pc
  · obtain ⟨ins, pg, a0, ap⟩ := hin kk hk
    have ka := ins.1
    have aX := (ln.1 kk (by omega) a0).2.2
    rw [el1]
    refine ⟨?_, pg, a0, ap⟩
    unfold InsOK at ins ⊢
    rw [hK _ aX, hI _ aX, hR _ aX (fun e => by rw [e, kb] at ka; omega)]
    exact ins
theorem Rw_g {a : Nat} (h : Rw K R N a) (ha : a + 1 < X) (hK : ∀ y, y < X → K' y = K y) (hN : ∀ y, y < X → N' y = N y) (hR : ∀ y, y < X → K y ≠ 10 → R' y = R y) : Rw K' R' N' a := by
  obtain ⟨h1, h2, h3, h4⟩ := h
  exact ⟨by rw [hK a (by omega)]; exact h1, by rw [hR a (by omega) (by omega)]; exact h2, by rw [hK _ ha]; exact h3, by rw [hN _ ha]; exact h4⟩
theorem Dsk_g {bad bad' : Nat → Prop} {d : Nat} (h : Dsk K I R N X bad d r k A m nt cr) (hX : X ≤ X') (hd : d + 5 < X) (hb : ∀ y, y < X → bad' y → bad y) (hK : ∀ y, y < X → K' y = K y) (hN : ∀ y, y < X → N' y = N y) (hI : ∀ y, y < X → I' y = I y) (hR : ∀ y, y < X → K y ≠ 10 → R' y = R y) : Dsk K' I' R' N' X' bad' d r k A m nt cr := by
  obtain ⟨o, g, d0, hr, hI2, dk, dn, rf⟩ := h
  have kd : K d = 2 := dk.1.1
  have ed := hR d (by omega) (by omega)
  refine ⟨o, g, by rw [ed]; exact d0, Rw_g hr (by omega) hK hN hR, by rw [hI _ (by omega)]; exact hI2, Dk_g (Dk_b dk hb) hX (by omega) (by omega) hK hN hI hR, ?_, ?_⟩
  · unfold Dn at dn ⊢
    rw [hK d (by omega), ed, hK (d + 4) (by omega), hN (d + 4) (by omega), hI d (by omega), hI (d + 4) (by omega)]; exact dn
  · unfold Rfs at rf ⊢
    rw [hK d (by omega), ed, hK (d + 5) (by omega), hN (d + 5) (by omega), hI (d + 5) (by omega)]; exact rf
/-- all but the image, in a heap that has grown -/
theorem RC_g {l sl i i' : Nat} (sh : Sh K R N X b l sl i) (pm : Pm K I R N X b l sl i many P) (dsk : Dsk K I R N X (bd b i) (b + 53) r k A m nt cr) (tp : Tp I b n t fp im) (z1 : Zr I (b + 35)) (z2 : Zr I (b + 37)) (hX : X ≤ X') (hK : ∀ y, y < X → K' y = K y) (hN : ∀ y, y < X → N' y = N y) (hI : ∀ y, y < X → I' y = I y) (hR : ∀ y, y < X → y ≠ b → R' y = R y) (hRb : ∀ j, j ≠ 11 → R' b j = R b j) (h11 : R' b 11 = i') (hb : ∀ y, y < X → bd b i' y → bd b i y) (hi' : i' = 0 ∨ (b + 59 ≤ i' ∧ i' + 6 ≤ X')) :
    Sh K' R' N' X' b l sl i' ∧ Pm K' I' R' N' X' b l sl i' many P ∧ Dsk K' I' R' N' X' (bd b i') (b + 53) r k A m nt cr ∧ Tp I' b n t fp im ∧ Zr I' (b + 35) ∧ Zr I' (b + 37) ∧ nul6 R' (b + 2) = nul6 R (b + 2) ∧ nul6 R' (b + 29) = nul6 R (b + 29) ∧ nul R' (b + 53 + 3) = nul R (b + 53 + 3) := by
  have kb := sh.1
  have s11 : (0 < b ∧ b + 59 ≤ X ∧ (i = 0 ∨ (b + 59 ≤ i ∧ i + 6 ≤ X)) ∧ ((l = b + 29 ∧ sl = b + 2) ∨ (l = b + 2 ∧ sl = b + 29))) := sh.2.2.2.2.2.2.2.2.2.2.2.1
  obtain ⟨gd, ld, ls, ln1, ln2, dis, hz⟩ := pm
  have bR : ∀ y, b < y → y < b + 59 → R' y = R y := fun y a c => hR y (by omega) (by omega)
  have hR10 : ∀ y, y < X → K y ≠ 10 → R' y = R y := fun y hy c => hR y hy (fun e => c (by rw [e]; exact kb))
  refine ⟨Sh_g sh hX (fun y hy => hK y (by omega)) (fun y hy => hN y (by omega)) (fun y a c => bR y a (by omega)) hRb h11 hi', ⟨Gd_g gd ln1 (by omega) (by omega) kb hK hN hR hI, ?_, ?_, Ln_x (Ln_b ln1 hb) hX hK (bR _ (by omega) (by omega)), Ln_x (Ln_b ln2 hb) hX hK (bR _ (by omega) (by omega)), ?_, ?_⟩, Dsk_g dsk hX (by omega) hb hK hN hI hR10, ?_, ?_, ?_, ?_, ?_, ?_⟩
  · unfold Ld at ld ⊢; rw [hI _ (by omega)]; exact ld
  · unfold Ls at ls ⊢
    rw [hK sl (by omega), bR sl (by omega) (by omega), hK (sl + 1) (by omega), hN (sl + 1) (by omega), hK (sl + 2) (by omega), hN (sl + 2) (by omega)]; exact ls
  · rw [bR (l + 1) (by omega) (by omega), bR (sl + 1) (by omega) (by omega)]; exact dis
  · rw [hI (l + 2) (by omega), hI (sl + 2) (by omega)]; exact hz
  · unfold Tp at tp ⊢; rw [hI b (by omega), hI (b + 1) (by omega)]; exact tp
  · unfold Zr at z1 ⊢; rw [hI _ (by omega)]; exact z1
  · unfold Zr at z2 ⊢; rw [hI _ (by omega)]; exact z2
  · unfold nul6; rw [bR _ (by omega) (by omega)]
  · unfold nul6; rw [bR _ (by omega) (by omega)]
  · unfold nul; rw [bR _ (by omega) (by omega)]
/-- an engine in a heap that has grown -/
theorem RC_x (h : RC K I R N X b many P r k A m nt cr n t fp im pc pu) (hX : X ≤ X') (hK : ∀ y, y < X → K' y = K y) (hN : ∀ y, y < X → N' y = N y) (hI : ∀ y, y < X → I' y = I y) (hR : ∀ y, y < X → R' y = R y) : RC K' I' R' N' X' b many P r k A m nt cr n t fp im pc pu := by
  obtain ⟨l, sl, i, sh, pm, dsk, ok, tp, hi, z1, z2, po⟩ := h
  have s11 : (0 < b ∧ b + 59 ≤ X ∧ (i = 0 ∨ (b + 59 ≤ i ∧ i + 6 ≤ X)) ∧ ((l = b + 29 ∧ sl = b + 2) ∨ (l = b + 2 ∧ sl = b + 29))) := sh.2.2.2.2.2.2.2.2.2.2.2.1
  have eb := hR b (by omega)
  obtain ⟨g1, g2, g3, g4, g5, g6, g7, g8, g9⟩ := RC_g (i' := i) sh pm dsk tp z1 z2 hX hK hN hI (fun y hy _ => hR y hy) (fun j _ => by rw [eb]) (by rw [eb]; exact sh.2.2.2.2.2.2.2.2.2.2.1) (fun _ _ q => q) (by omega)
  refine ⟨l, sl, i, g1, g2, g3, ok, g4, ?_, g5, g6, ?_⟩
  · rcases hi with q | ⟨i0, r2, k2, A2, m2, nt2, cr2, d2, hdis, hq⟩
    · exact Or.inl q
    · refine Or.inr ⟨i0, r2, k2, A2, m2, nt2, cr2, Dsk_g d2 hX (by omega) (fun _ _ q => q) hK hN hI (fun y hy _ => hR y hy), ?_, hq⟩
      rw [hR _ (by omega), hR _ (by omega)]; exact hdis
  · unfold Po at po ⊢
    rw [g7, g8, g9]
    by_cases i0 : i = 0
    · rw [if_pos i0, if_pos i0] at po ⊢; exact po
    · have : nul R' (i + 3) = nul R (i + 3) := by unfold nul; rw [hR _ (by omega)]
      rw [this]; exact po
theorem cnt_all {q : Nat → Bool} : ∀ n, (∀ s, s < n → q s = true) → cnt q n = n
  | 0, _ => rfl
  | n + 1, h => by
    show cnt q n + (if q n then 1 else 0) = n + 1
    rw [cnt_all n (fun s hs => h s (by omega)), h n (by omega)]
    rfl
/-- the desk of the image is there -/
theorem RC_im (h : RC K I R N X b many P r k A m nt cr n t fp im pc pu) (hi0 : R b 11 = 0) (hK : ∀ y, y < X → K' y = K y) (hN : ∀ y, y < X → N' y = N y) (hI : ∀ y, y < X → I' y = I y) (hR : ∀ y, y < X → y ≠ b → R' y = R y) (hRb : ∀ j, j ≠ 11 → R' b j = R b j) (h11 : R' b 11 = X) (d2 : K' X = 2 ∧ R' X 0 = X + 1 ∧ R' X 1 = X + 3 ∧ R' X 4 = X + 4 ∧ R' X 6 = X + 5 ∧ I' X = fun _ => 0) (d3 : K' (X + 1) = 9 ∧ R' (X + 1) 0 = X + 1 + 1 ∧ K' (X + 1 + 1) = 101 ∧ N' (X + 1 + 1) = 411 ∧ I' (X + 1 + 1) = jF (cls emp (fun _ => 0))) (d4 : K' (X + 3) = 103 ∧ N' (X + 3) = 40 ∧ R' (X + 3) = fun _ => 0) (d5 : K' (X + 4) = 101 ∧ N' (X + 4) = 24 ∧ I' (X + 4) = fun _ => 0) (d6 : K' (X + 5) = 101 ∧ N' (X + 5) = 3 ∧ I' (X + 5) = fun _ => 0) :
    ∃ pc' pu', RC K' I' R' N' (X + 6) b many P r k A m nt cr n t fp im pc' pu' ∧ pc' + 6 = pc ∧ pu' + 486 = pu := by
  obtain ⟨l, sl, i, sh, pm, dsk, ok, tp, hi, z1, z2, po⟩ := h
  have ei : R b 11 = i := sh.2.2.2.2.2.2.2.2.2.2.1
  have i0 : i = 0 := by rw [← ei]; exact hi0
  subst i0
  have hm : im = none := by
    rcases hi with q | q
    · exact q.2
    · exact absurd rfl q.1
  have s11 := sh.2.2.2.2.2.2.2.2.2.2.2.1
  have bX : b + 59 ≤ X := s11.2.1
  obtain ⟨g1, g2, g3, g4, g5, g6, g7, g8, g9⟩ := RC_g (i' := X) (X' := X + 6) sh pm dsk tp z1 z2 (by omega) hK hN hI hR hRb h11 (fun y hy q => by unfold bd at q ⊢; omega) (by omega)
  have n40 : nul R' (X + 3) = 40 := by unfold nul; rw [d4.2.2]; exact cnt_all 40 (fun _ _ => rfl)
  have dX : Dsk K' I' R' N' (X + 6) (bd b X) X emp 0 (fun _ => emp) 0 (fun _ => 0) (fun _ => 0) := by
    refine ⟨0, fun _ => 0, d2.2.1, ⟨d3.1, d3.2.1, d3.2.2.1, d3.2.2.2.1⟩, d3.2.2.2.2, ⟨⟨d2.1, d2.2.2.1, d4.1, d4.2.1, by rw [d2.2.2.2.2.2]; rfl, by rw [d2.2.2.2.2.2]; rfl, by omega, by omega⟩, fun s hs c => ?_, fun s s' q1 q2 q3 q4 => ?_, fun i hi => absurd hi (Nat.not_lt_zero i)⟩, ⟨d2.1, d2.2.2.2.1, d5.1, d5.2.1, by rw [d2.2.2.2.2.2]; rfl, fun j hj => by rw [d5.2.2]; rfl, ⟨by omega, fun i hi => absurd hi (Nat.not_lt_zero i)⟩⟩, ⟨d2.1, d2.2.2.2.2.1, d6.1, d6.2.1, fun j hj => by rw [d6.2.2]; rfl⟩⟩
    · rw [d4.2.2] at c; exact absurd rfl c
    · rw [d4.2.2] at q4; exact absurd rfl q4
  have po1 := po.1
  have po2 := po.2
  rw [if_pos rfl] at po1 po2
  refine ⟨2 * nul R' (b + 53 + 3) + (if X = 0 then 86 else 2 * nul R' (X + 3)) + nul6 R' (b + 2) + nul6 R' (b + 29), 412 * nul R' (b + 53 + 3) + (if X = 0 then 486 + 412 * 40 else 412 * nul R' (X + 3)) + 11 * nul6 R' (b + 2) + 11 * nul6 R' (b + 29), ⟨l, sl, X, g1, g2, g3, ok, g4, Or.inr ⟨by omega, emp, 0, fun _ => emp, 0, fun _ => 0, fun _ => 0, dX, fun a c ha hc e1 e2 => ?_, fun q hq => ?_⟩, g5, g6, ⟨rfl, rfl⟩⟩, ?_, ?_⟩
  · rw [d4.2.2] at e2; exact e1 e2
  · rw [hm] at hq; exact absurd hq (by simp)
  · rw [if_neg (by omega), n40, g7, g8, g9]; omega
  · rw [if_neg (by omega), n40, g7, g8, g9]; omega
/-- the image, its desk made first -/
theorem y_Img0 (h : RC K I R N X b many P r k A m nt cr n t fp im pc pu) (h1 : X + pc ≤ C) (h2 : U + pu ≤ Z) (hi0 : R b 11 = 0) :
    ∃ K' I' R' L' N' X' U' pc' pu', fX12_image b (K, I, R, L, N, (X, U, C, Z)) = some (K', I', R', L', N', (X', U', C, Z)) ∧ RC K' I' R' N' X' b many P r k A m nt cr n t fp (some (r, (k, A), (m, nt), cr)) pc' pu' ∧ X' + pc' = X + pc ∧ U' + pu' = U + pu ∧ TP 0 0 K' X' ∧ X ≤ X' ∧ ∀ y, y < X → K' y = K y ∧ N' y = N y := by
  have kb := (RC_now h).1
  have hX0 : b + 59 ≤ X ∧ 0 < b ∧ 6 ≤ pc ∧ 486 ≤ pu := by
    obtain ⟨l, sl, i, sh, -, -, -, -, -, -, -, po⟩ := h
    have ei : R b 11 = i := sh.2.2.2.2.2.2.2.2.2.2.1
    rw [hi0] at ei
    have s11 := sh.2.2.2.2.2.2.2.2.2.2.2.1
    unfold Po at po
    rw [if_pos ei.symm, if_pos ei.symm] at po
    exact ⟨s11.2.1, s11.1, by omega, by omega⟩
  obtain ⟨K1, hK1⟩ : ∃ K1, K1 = va_up K X 2 := ⟨_, rfl⟩
  obtain ⟨I1, hI1⟩ : ∃ I1, I1 = va_up I X (fun _ => 0) := ⟨_, rfl⟩
  obtain ⟨R1, hR1⟩ : ∃ R1, R1 = va_up R X (fun _ => 0) := ⟨_, rfl⟩
  obtain ⟨L1, hL1⟩ : ∃ L1, L1 = va_up L X (fun _ => 0) := ⟨_, rfl⟩
  obtain ⟨N1, hN1⟩ : ∃ N1, N1 = va_up N X 0 := ⟨_, rfl⟩
  have e0 := o_newO (K := K) (I := I) (R := R) (L := L) (N := N) (X := X) (U := U) (C := C) (Z := Z) (c := 2) (n := 7) (by omega) (by omega) (by omega)
  rw [← hK1, ← hI1, ← hR1, ← hL1, ← hN1] at e0
  have k1X : K1 X = 2 := by rw [hK1, va_up_self]
  obtain ⟨K2, I2, R2, L2, N2, e1, a1, a2, a3, a4, a5, a6, a7, a8, a9⟩ := e_deskinit (K := K1) (I := I1) (R := R1) (L := L1) (N := N1) (X := X + 1) (U := U + 7) (C := C) (Z := Z) (d := X) k1X (by omega) (by omega) (by omega)
  have ok : okA (K1, I1, R1, L1, N1, (X + 1, U + 7, C, Z)) (K2, I2, R2, L2, N2, (X + 1 + 5, U + 7 + 479, C, Z)) := okA_of (by omega) (by omega) (by omega) (by omega) (by omega) (by rw [show X + 1 + 5 - 1 = X + 1 + 4 by omega, a9.1]; decide)
  have kX : ∀ y, y < X → K2 y = K y := fun y hy => by rw [a1 y (by omega), hK1, va_up_ne _ _ (by omega)]
  have nX : ∀ y, y < X → N2 y = N y := fun y hy => by rw [a2 y (by omega), hN1, va_up_ne _ _ (by omega)]
  have iX : ∀ y, y < X → I2 y = I y := fun y hy => by rw [a3 y (by omega), hI1, va_up_ne _ _ (by omega)]
  have rX : ∀ y, y < X → R2 y = R y := fun y hy => by rw [a4 y (by omega) (by omega), hR1, va_up_ne _ _ (by omega)]
  have kb2 : K2 b = 10 := by rw [kX b (by omega)]; exact kb
  obtain ⟨R3, hR3⟩ : ∃ R3, R3 = va_up R2 b (va_up (R2 b) 11 X) := ⟨_, rfl⟩
  have r3 : ∀ y, y ≠ b → R3 y = R2 y := fun y hy => by rw [hR3, va_up_ne _ _ hy]
  have x5 : X + 1 + 5 = X + 6 := by omega
  have u5 : U + 7 + 479 = U + 486 := by omega
  obtain ⟨pc', pu', hh, q1, q2⟩ := RC_im (K' := K2) (I' := I2) (R' := R3) (N' := N2) h hi0 kX nX iX (fun y hy hb => by rw [r3 y hb, rX y hy]) (fun j hj => by rw [hR3, va_up_self, va_up_ne _ _ hj, rX b (by omega)]) (by rw [hR3, va_up_self, va_up_self])
    ⟨by rw [a1 X (by omega)]; exact k1X, by rw [r3 X (by omega)]; exact a5.1, by rw [r3 X (by omega)]; exact a5.2.1, by rw [r3 X (by omega)]; exact a5.2.2.1, by rw [r3 X (by omega)]; exact a5.2.2.2, by rw [a3 X (by omega), hI1, va_up_self]⟩ ⟨a6.1, by rw [r3 _ (by omega)]; exact a6.2.1, a6.2.2.1, a6.2.2.2.1, a6.2.2.2.2⟩ ⟨a7.1, a7.2.1, by rw [r3 _ (by omega)]; exact a7.2.2⟩ ⟨a8.1, a8.2.1, a8.2.2⟩ ⟨a9.1, a9.2.1, a9.2.2⟩
  obtain ⟨K4, I4, R4, L4, N4, X4, U4, pc4, pu4, e4, h4, t1, t2, t3, t4, t5⟩ := y_Img18 (L := L2) (U := U + 486) (C := C) (Z := Z) hh (by omega) (by omega) (show TP 0 0 K2 (X + 6) from Or.inl ⟨by omega, by rw [show X + 6 - 1 = X + 1 + 4 by omega, a9.1]; decide⟩) (by rw [hR3, va_up_self, va_up_self]; omega)
  refine ⟨K4, I4, R4, L4, N4, X4, U4, pc4, pu4, ?_, h4, by omega, by omega, t3, by omega, fun y hy => ⟨by rw [(t5 y (by omega)).1, kX y hy], by rw [(t5 y (by omega)).2, nX y hy]⟩⟩
  have e1 : fX2_init X (K1, I1, R1, L1, N1, (X + 1, U + 7, C, Z)) = some (K2, I2, R2, L2, N2, (X + 1 + 5, U + 7 + 479, C, Z)) := e1
  rw [x5, u5] at e1 ok
  unfold fX12_image
  rw [o_gd _ kb, o_gR kb, o_ob, hi0, if_pos rfl, e0, o_ob2, e1, o_oba ok, o_pR kb2, o_ob, ← hR3]
  exact e4
theorem y_Img1 (h : RC K I R N X b many P r k A m nt cr n t fp im pc pu) (h1 : X + pc ≤ C) (h2 : U + pu ≤ Z) (hK0 : TP Xo Ko K X) (hm : R b 11 ≠ 0) :
    ∃ K' I' R' L' N' X' U' pc' pu', fX12_image b (K, I, R, L, N, (X, U, C, Z)) = some (K', I', R', L', N', (X', U', C, Z)) ∧ RC K' I' R' N' X' b many P r k A m nt cr n t fp (some (r, (k, A), (m, nt), cr)) pc' pu' ∧ X' + pc' = X + pc ∧ U' + pu' = U + pu ∧ TP Xo Ko K' X' ∧ X ≤ X' ∧ ∀ y, y < X → K' y = K y ∧ N' y = N y := by
  have kb := (RC_now h).1
  obtain ⟨K4, I4, R4, L4, N4, X4, U4, pc4, pu4, e4, r4⟩ := y_Img18 (L := L) h h1 h2 hK0 hm
  refine ⟨K4, I4, R4, L4, N4, X4, U4, pc4, pu4, ?_, r4⟩
  unfold fX12_image
  rw [o_gd _ kb, o_gR kb, o_ob, if_neg hm]
  exact e4
end FSA
