section FCL
variable {K : Nat → Nat} {I : Nat → Nat → Int32} {R : Nat → Nat → Nat} {L : Nat → Nat → Int64} {N : Nat → Nat} {w : Nat × Nat × Nat × Nat} {X U C Z : Nat}
variable {b many k m n pc pu : Nat} {P : PG} {r nt cr t : Nat → Int} {A : Nat → Nat → Int} {fp : Int} {im : Option DS}
theorem Sh_x {l sl i X' : Nat} {K' : Nat → Nat} {R' : Nat → Nat → Nat} {N' : Nat → Nat} (h : Sh K R N X b l sl i) (hX : X ≤ X') (hK : ∀ y, y < b + 59 → K' y = K y) (hN : ∀ y, y < b + 59 → N' y = N y) (hR : ∀ y, y < b + 56 → R' y = R y) : Sh K' R' N' X' b l sl i := by
  obtain ⟨s0, s1, s2, s3, s4, s5, s6, s7, s8, s9, s10, s11, fs, ed, d1, d2, d3, tb, s12, s13⟩ := h
  have eb := hR b (by omega)
  refine ⟨by rw [hK b (by omega)]; exact s0, by rw [eb]; exact s1, by rw [eb]; exact s2, by rw [eb]; exact s3, by rw [eb]; exact s4, by rw [eb]; exact s5, by rw [eb]; exact s6, by rw [eb]; exact s7, by rw [eb]; exact s8, by rw [eb]; exact s9, by rw [eb]; exact s10, by omega, ?_, ?_, ?_, ?_, ?_, ?_, by rw [hK _ (by omega)]; exact s12, by rw [hN _ (by omega)]; exact s13⟩
  · clear s11
    unfold Fs Ro Rw at fs ⊢
    simp (disch := omega) only [hK, hN, hR]
    exact fs
  · clear s11
    unfold Ed at ed ⊢
    simp (disch := omega) only [hK, hN, hR]
    exact ed
  · clear s11
    unfold Dc at d1 ⊢
    simp (disch := omega) only [hK, hN, hR]
    exact d1
  · clear s11
    unfold Dc at d2 ⊢
    simp (disch := omega) only [hK, hN, hR]
    exact d2
  · clear s11
    unfold Dc at d3 ⊢
    simp (disch := omega) only [hK, hN, hR]
    exact d3
  · clear s11
    unfold Tb at tb ⊢
    simp (disch := omega) only [hK, hN, hR]
    exact tb
theorem Gd_x {l i ar : Nat} {P : PG} {K' : Nat → Nat} {I' : Nat → Nat → Int32} {R' : Nat → Nat → Nat} {N' : Nat → Nat} (h : Gd K I R N (b + 14) l many P) (ln : Ln K R X (bd b i) l) (hl : l = b + 2 ∨ l = b + 29) (hX : b + 59 ≤ X) (kar : K ar = 103) (har : b + 56 ≤ ar) (hK : ∀ y, y < X → K' y = K y) (hN : ∀ y, y < X → N' y = N y) (hR : ∀ y, y < X → y ≠ ar → R' y = R y) (hI : ∀ y, y < X → K y = 5 ∨ K y = 6 → I' y = I y) : Gd K' I' R' N' (b + 14) l many P := by
  have hR' : ∀ y, y < b + 56 → R' y = R y := fun y hy => hR y (by omega) (by omega)
  have hK' : ∀ y, y < b + 56 → K' y = K y := fun y hy => hK y (by omega)
  have hN' : ∀ y, y < b + 56 → N' y = N y := fun y hy => hN y (by omega)
  obtain ⟨pc, h5, k6, l0, l1, k7, n7, k8, n8, i2, hm, hin, hlp⟩ := h
  have el := hR' l (by omega)
  have el1 := hR' (l + 1) (by omega)
  refine ⟨?_, by rw [hR' _ (by omega)]; exact h5, by rw [hK' _ (by omega)]; exact k6, by rw [el]; exact l0, by rw [el]; exact l1, by rw [hK' _ (by omega)]; exact k7, by rw [hN' _ (by omega)]; exact n7, by rw [hK' _ (by omega)]; exact k8, by rw [hN' _ (by omega)]; exact n8, by rw [hI l (by omega) (Or.inr k6)]; exact i2, hm, fun kk hk => ?_, hlp⟩
  · clear hin ln hlp hm
    unfold Pc Dc Ed at pc ⊢
    simp (disch := omega) only [hK', hN', hR']
    exact pc
  · obtain ⟨ins, pg, a0, ap⟩ := hin kk hk
    have ka := ins.1
    have aX := (ln.1 kk (by omega) a0).2.2
    rw [el1]
    refine ⟨?_, pg, a0, ap⟩
    unfold InsOK at ins ⊢
    rw [hK _ aX, hI _ aX (Or.inl ka), hR _ aX (fun e => by rw [e, kar] at ka; omega)]
    exact ins
theorem Ln_x {l X' : Nat} {bad : Nat → Prop} {K' : Nat → Nat} {R' : Nat → Nat → Nat} (h : Ln K R X bad l) (hX : X ≤ X') (hK : ∀ y, y < X → K' y = K y) (hR : R' (l + 1) = R (l + 1)) : Ln K' R' X' bad l := by
  obtain ⟨h1, h2⟩ := h
  refine ⟨fun s hs c => ?_, ?_⟩
  · rw [hR] at c ⊢
    obtain ⟨a1, a2, a3⟩ := h1 s hs c
    exact ⟨by rw [hK _ a3]; exact a1, a2, by omega⟩
  · rw [hR]; exact h2
/-- remembering, the engine's ground afterwards -/
theorem RC_FD {X' U' o' : Nat} {K' : Nat → Nat} {I' : Nat → Nat → Int32} {R' : Nat → Nat → Nat} {L' : Nat → Nat → Int64} {N' : Nat → Nat} (h : RC K I R N X b many P r k A m nt cr n t fp im pc pu) (hF : FD X K I R L N U (b + 53) (b + 56) K' I' R' L' N' X' U') (hd : ∀ i, R b 11 = i → Dk K' I' R' N' X' (bd b i) (b + 53) (b + 56) o' (actK k) (actA A k r)) : ∃ pc' pu', RC K' I' R' N' X' b many P r (actK k) (actA A k r) m nt cr n t fp im pc' pu' ∧ X' + pc' = X + pc ∧ U' + pu' = U + pu := by
  obtain ⟨l, sl, i, sh, pm, dsk, ok, tp, hi, z1, z2, po⟩ := h
  have ei : R b 11 = i := sh.2.2.2.2.2.2.2.2.2.2.1
  have hd := hd i ei
  obtain ⟨gd, ld, ls, ln1, ln2, dis, hz⟩ := pm
  have s11 : (0 < b ∧ b + 59 ≤ X ∧ (i = 0 ∨ (b + 59 ≤ i ∧ i + 6 ≤ X)) ∧ ((l = b + 29 ∧ sl = b + 2) ∨ (l = b + 2 ∧ sl = b + 29))) := sh.2.2.2.2.2.2.2.2.2.2.2.1
  obtain ⟨o, g, d0, hr, hI2, dk, dn, rf⟩ := dsk
  have hFF := hF
  obtain ⟨f1, f2, f3, f4, f5, f6, f7, f8, f9, f10, f11, f12⟩ := hF
  have rows := dk.2.1
  have k56 : K (b + 56) = 103 := dk.1.2.2.1
  have eI : ∀ y, y < X → y ≠ b + 53 → (bd b i y ∨ K y ≠ 101) → I' y = I y := fun y hy hy2 hc => f6 y hy hy2 (fun s hs c e => by
    obtain ⟨a1, a2, a3, a4, a5⟩ := rows s hs c
    rcases hc with q | q
    · rw [e] at q; exact a4 q
    · rw [e] at q; exact q a1.2.2.1)
  have eb : ∀ y, y < b + 59 → y ≠ b + 53 → I' y = I y := fun y hy hy2 => eI y (by omega) hy2 (Or.inl (Or.inl hy))
  have bR : ∀ y, y < b + 56 → R' y = R y := fun y hy => f5 y (by omega) (by omega)
  have eR57 : ∀ y, y < X → y ≠ b + 56 → R' y = R y := f5
  have sh' := Sh_x (X' := X') sh f1 (fun y hy => f2 y (by omega)) (fun y hy => f3 y (by omega)) bR
  have gd' := Gd_x (ar := b + 56) (K' := K') (I' := I') (R' := R') (N' := N') gd ln1 (by omega) (by omega) k56 (by omega) f2 f3 f5 (fun y hy hk => eI y hy (fun e => by rw [e, dk.1.1] at hk; omega) (Or.inr (by omega)))
  have nl1 : nul6 R' (b + 2) = nul6 R (b + 2) := by unfold nul6; rw [bR _ (by omega)]
  have nl2 : nul6 R' (b + 29) = nul6 R (b + 29) := by unfold nul6; rw [bR _ (by omega)]
  have hi' : Im K' I' R' N' X' b i many im ∧ (i ≠ 0 → nul R' (i + 3) = nul R (i + 3)) := by
    rcases hi with q | ⟨i0, r2, k2, A2, m2, nt2, cr2, ⟨o2, g2, e0, er, eI2, dk2, dn2, rf2⟩, hdis, hq⟩
    · exact ⟨Or.inl q, fun c => absurd q.1 c⟩
    · have ib : b + 59 ≤ i ∧ i + 6 ≤ X := by omega
      obtain ⟨dk2', hdis', hnul⟩ := Dk_FD dk dk2 hFF hdis (by omega) (by omega) (by omega) (by omega)
      have eiR : ∀ y, i ≤ y → y < i + 6 → R' y = R y := fun y a c => f5 y (by omega) (by omega)
      have eiI : ∀ y, i ≤ y → y < i + 6 → I' y = I y := fun y a c => eI y (by omega) (by omega) (Or.inl (Or.inr ⟨a, c⟩))
      have eiK : ∀ y, i ≤ y → y < i + 6 → K' y = K y := fun y a c => f2 y (by omega)
      have eiN : ∀ y, i ≤ y → y < i + 6 → N' y = N y := fun y a c => f3 y (by omega)
      refine ⟨Or.inr ⟨i0, r2, k2, A2, m2, nt2, cr2, ⟨o2, g2, by rw [eiR _ (by omega) (by omega)]; exact e0, ?_, by rw [eiI _ (by omega) (by omega)]; exact eI2, dk2', ?_, ?_⟩, hdis', hq⟩, fun _ => hnul⟩
      · unfold Rw at er ⊢
        rw [eiK _ (by omega) (by omega), eiR _ (by omega) (by omega), eiK _ (by omega) (by omega), eiN _ (by omega) (by omega)]; exact er
      · unfold Dn at dn2 ⊢
        rw [eiK _ (by omega) (by omega), eiR _ (by omega) (by omega), eiK _ (by omega) (by omega), eiN _ (by omega) (by omega), eiI _ (by omega) (by omega), eiI _ (by omega) (by omega)]; exact dn2
      · unfold Rfs at rf2 ⊢
        rw [eiK _ (by omega) (by omega), eiR _ (by omega) (by omega), eiK _ (by omega) (by omega), eiN _ (by omega) (by omega), eiI _ (by omega) (by omega)]; exact rf2
  have p56 : b + 53 + 3 = b + 56 := by omega
  refine ⟨2 * nul R' (b + 53 + 3) + (if i = 0 then 86 else 2 * nul R' (i + 3)) + nul6 R' (b + 2) + nul6 R' (b + 29), 412 * nul R' (b + 53 + 3) + (if i = 0 then 486 + 412 * 40 else 412 * nul R' (i + 3)) + 11 * nul6 R' (b + 2) + 11 * nul6 R' (b + 29), ⟨l, sl, i, sh', ⟨gd', ?_, ?_, Ln_x ln1 f1 f2 (bR _ (by omega)), Ln_x ln2 f1 f2 (bR _ (by omega)), ?_, ?_⟩, ⟨o', g, ?_, ?_, ?_, hd, ?_, ?_⟩, ⟨ok.1, ?_⟩, ?_, hi'.1, ?_, ?_, ⟨rfl, rfl⟩⟩, ?_, ?_⟩
  · unfold Ld at ld ⊢; rw [eb (l + 2) (by omega) (by omega)]; exact ld
  · unfold Ls at ls ⊢
    rw [f2 sl (by omega), bR sl (by omega), f2 (sl + 1) (by omega), f3 (sl + 1) (by omega), f2 (sl + 2) (by omega), f3 (sl + 2) (by omega)]; exact ls
  · rw [bR (l + 1) (by omega), bR (sl + 1) (by omega)]; exact dis
  · rw [eb (l + 2) (by omega) (by omega), eb (sl + 2) (by omega) (by omega)]; exact hz
  · rw [bR _ (by omega)]; exact d0
  · unfold Rw at hr ⊢
    rw [f2 (b + 53 + 1) (by omega), bR (b + 53 + 1) (by omega), f2 (b + 53 + 1 + 1) (by omega), f3 (b + 53 + 1 + 1) (by omega)]; exact hr
  · rw [eb _ (by omega) (by omega)]; exact hI2
  · obtain ⟨q0, q1, q2, q3, q4, q5, q6⟩ := dn
    exact ⟨by rw [f2 _ (by omega)]; exact q0, by rw [bR _ (by omega)]; exact q1, by rw [f2 _ (by omega)]; exact q2, by rw [f3 _ (by omega)]; exact q3, by rw [f7 5 (by omega) (by omega)]; exact q4, fun j hj => by rw [eb _ (by omega) (by omega)]; exact q5 j hj, q6⟩
  · unfold Rfs at rf ⊢
    rw [f2 (b + 53) (by omega), bR (b + 53) (by omega), f2 (b + 53 + 5) (by omega), f3 (b + 53 + 5) (by omega), eb (b + 53 + 5) (by omega) (by omega)]; exact rf
  · intro j hj
    unfold actK at hj
    unfold actA
    by_cases c : k = 40
    · rw [if_pos c] at hj ⊢
      unfold ext
      by_cases e : j = 39
      · rw [if_pos e]; exact ok.1
      · rw [if_neg e]; exact ok.2 _ (by omega)
    · rw [if_neg c] at hj ⊢
      unfold ext
      by_cases e : j = k
      · rw [if_pos e]; exact ok.1
      · rw [if_neg e]; exact ok.2 _ (by omega)
  · unfold Tp at tp ⊢; rw [eb b (by omega) (by omega), eb (b + 1) (by omega) (by omega)]; exact tp
  · unfold Zr at z1 ⊢; rw [eb (b + 35 + 1) (by omega) (by omega)]; exact z1
  · unfold Zr at z2 ⊢; rw [eb (b + 37 + 1) (by omega) (by omega)]; exact z2
  · rw [nl1, nl2, p56]
    unfold Po at po
    rw [p56] at po
    by_cases i0 : i = 0
    · rw [if_pos i0]
      have := po.1
      rw [if_pos i0] at this
      omega
    · rw [if_neg i0, hi'.2 i0]
      have := po.1
      rw [if_neg i0] at this
      omega
  · rw [nl1, nl2, p56]
    unfold Po at po
    rw [p56] at po
    by_cases i0 : i = 0
    · rw [if_pos i0]
      have := po.2
      rw [if_pos i0] at this
      omega
    · rw [if_neg i0, hi'.2 i0]
      have := po.2
      rw [if_neg i0] at this
      omega
end FCL
