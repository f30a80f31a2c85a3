section FSB
variable {K : Nat → Nat} {I : Nat → Nat → Int32} {R : Nat → Nat → Nat} {L : Nat → Nat → Int64} {N : Nat → Nat} {w : Nat × Nat × Nat × Nat} {X U C Z : Nat}
variable {b many k m n pc pu : Nat} {P : PG} {r nt cr t : Nat → Int} {A : Nat → Nat → Int} {fp : Int} {im : Option DS}
variable {I' : Nat → Nat → Int32} {R' : Nat → Nat → Nat}
/-- what a parse leaves of the engine -/
def PFm (K : Nat → Nat) (I : Nat → Nat → Int32) (R : Nat → Nat → Nat) (b l sl : Nat) (I' : Nat → Nat → Int32) (R' : Nat → Nat → Nat) : Prop :=
  (∀ y, y < b + 59 → y ≠ b + 5 → y ≠ sl + 1 → R' y = R y) ∧ (∀ y, b + 59 ≤ y → K y ≠ 5 → R' y = R y) ∧ (∀ y, y < b + 59 → y ≠ b → y ≠ b + 5 → y ≠ sl → y ≠ sl + 2 → y ≠ b + 8 → I' y = I y) ∧ (∀ y, b + 59 ≤ y → K y ≠ 5 → I' y = I y) ∧ (∀ s, s < 60 → R (l + 1) s ≠ 0 → R' (R (l + 1) s) = R (R (l + 1) s) ∧ I' (R (l + 1) s) = I (R (l + 1) s))
theorem Rw_p {a : Nat} (h : Rw K R N a) (e : R' a = R a) : Rw K R' N a := by
  obtain ⟨h1, h2, h3, h4⟩ := h
  exact ⟨h1, by rw [e]; exact h2, h3, h4⟩
theorem Dsk_p {bad : Nat → Prop} {d : Nat} (h : Dsk K I R N X bad d r k A m nt cr) (hI : ∀ y, d ≤ y → y < d + 6 → I' y = I y) (hb : ∀ y, K y = 101 → ¬ bad y → I' y = I y) (hR : ∀ y, K y = 2 ∨ K y = 9 ∨ K y = 103 → R' y = R y) : Dsk K I' R' N X bad d r k A m nt cr := Dsk_c h hI hb hR
theorem PFm_o {l sl i : Nat} (sh : Sh K R N X b l sl i) (hF : PFm K I R b l sl I' R') (gd : Gd K I R N (b + 14) l many P) (ln : Ln K R X (bd b i) l) (tb : Tb K R' N (b + 5) (b + 6) (b + 7) (b + 8)) :
    Sh K R' N X b l sl i ∧ Gd K I' R' N (b + 14) l many P := by
  obtain ⟨f1, f2, f3, f4, f5⟩ := hF
  obtain ⟨s0, s1, s2, s3, s4, s5, s6, s7, s8, s9, s10, s11, fs, ed, d1, d2, d3, -, s12, s13⟩ := sh
  obtain ⟨x1, x2, x3, x4⟩ := s11
  have eb := f1 b (by omega) (by omega) (by omega)
  obtain ⟨pc, h5, k6, l0, l1, k7, n7, k8, n8, i2, hm, hin, hlp⟩ := gd
  have el := f1 l (by omega) (by omega) (by omega)
  have el1 := f1 (l + 1) (by omega) (by omega) (by omega)
  have f1' : ∀ y, y < b + 59 → (b + 31 ≤ y ∨ y < b + 3 ∨ (b + 6 ≤ y ∧ y < b + 30)) → R' y = R y := fun y h1 h2 => f1 y h1 (by omega) (by omega)
  refine ⟨⟨s0, by rw [eb]; exact s1, by rw [eb]; exact s2, by rw [eb]; exact s3, by rw [eb]; exact s4, by rw [eb]; exact s5, by rw [eb]; exact s6, by rw [eb]; exact s7, by rw [eb]; exact s8, by rw [eb]; exact s9, by rw [eb]; exact s10, ⟨x1, x2, x3, x4⟩, ?_, ?_, ?_, ?_, ?_, tb, s12, s13⟩, ⟨?_, by rw [f1' _ (by omega) (by omega)]; exact h5, k6, by rw [el]; exact l0, by rw [el]; exact l1, k7, n7, k8, n8, by rw [f3 l (by omega) (by omega) (by omega) (by omega) (by omega) (by omega)]; exact i2, hm, fun kk hk => ?_, hlp⟩⟩
  · clear x2 x3 x4 f1 f2 f3 f4 f5 hin hlp hm
    unfold Fs Ro Rw at fs ⊢
    simp (disch := omega) only [f1']
    exact fs
  · clear x2 x3 x4 f1 f2 f3 f4 f5 hin hlp hm
    unfold Ed at ed ⊢
    simp (disch := omega) only [f1']
    exact ed
  · clear x2 x3 x4 f1 f2 f3 f4 f5 hin hlp hm
    unfold Dc at d1 ⊢
    simp (disch := omega) only [f1']
    exact d1
  · clear x2 x3 x4 f1 f2 f3 f4 f5 hin hlp hm
    unfold Dc at d2 ⊢
    simp (disch := omega) only [f1']
    exact d2
  · clear x2 x3 x4 f1 f2 f3 f4 f5 hin hlp hm
    unfold Dc at d3 ⊢
    simp (disch := omega) only [f1']
    exact d3
  · clear x2 x3 x4 f1 f2 f3 f4 f5 hin hlp hm fs ed d1 d2 d3
    unfold Pc Dc Ed at pc ⊢
    simp (disch := omega) only [f1']
    exact pc
  · obtain ⟨ins, pg, a0, ap⟩ := hin kk hk
    obtain ⟨g1, g2⟩ := f5 kk (by omega) a0
    rw [el1]
    refine ⟨?_, pg, a0, ap⟩
    unfold InsOK at ins ⊢
    rw [g1, g2]
    exact ins
theorem PFm_d {l sl i : Nat} (sh : Sh K R N X b l sl i) (hF : PFm K I R b l sl I' R') (ld : Ld I l P) (ln : Ln K R X (bd b i) l) (dsk : Dsk K I R N X (bd b i) (b + 53) r k A m nt cr) (hi : Im K I R N X b i many im) (z1 : Zr I (b + 35)) (z2 : Zr I (b + 37)) (hk2 : K sl = 6 ∧ K (sl + 1) = 104 ∧ K (b + 5) = 7) :
    Ld I' l P ∧ Ln K R' X (bd b i) l ∧ Dsk K I' R' N X (bd b i) (b + 53) r k A m nt cr ∧ Im K I' R' N X b i many im ∧ Zr I' (b + 35) ∧ Zr I' (b + 37) ∧ nul R' (b + 53 + 3) = nul R (b + 53 + 3) ∧ (i ≠ 0 → nul R' (i + 3) = nul R (i + 3)) ∧ I' (l + 2) = I (l + 2) ∧ I' (b + 1) = I (b + 1) ∧ R' (l + 1) = R (l + 1) ∧ nul6 R' l = nul6 R l := by
  obtain ⟨f1, f2, f3, f4, f5⟩ := hF
  obtain ⟨x1, x2, x3, x4⟩ := sh.2.2.2.2.2.2.2.2.2.2.2.1
  obtain ⟨y1, y2, y3⟩ := hk2
  have hb : ∀ y, K y = 101 → ¬ bd b i y → I' y = I y := fun y hy q => f4 y (by unfold bd at q; omega) (by omega)
  have hR : ∀ y, K y = 2 ∨ K y = 9 ∨ K y = 103 → R' y = R y := fun y hy => by
    by_cases c : y < b + 59
    · exact f1 y c (fun e => by rw [e, y3] at hy; omega) (fun e => by rw [e, y2] at hy; omega)
    · exact f2 y (by omega) (by omega)
  have e12 : I' (l + 2) = I (l + 2) := f3 _ (by omega) (by omega) (by omega) (by omega) (by omega) (by omega)
  have er1 : R' (l + 1) = R (l + 1) := f1 _ (by omega) (by omega) (by omega)
  have k103 : K (b + 53 + 3) = 103 := dsk.choose_spec.choose_spec.2.2.2.1.1.2.2.1
  refine ⟨by unfold Ld at ld ⊢; rw [e12]; exact ld, Ln_x ln (Nat.le_refl _) (fun _ _ => rfl) er1, Dsk_c dsk (fun y a c => f3 y (by omega) (by omega) (by omega) (by omega) (by omega) (by omega)) hb hR, ?_, ?_, ?_, ?_, ?_, e12, f3 _ (by omega) (by omega) (by omega) (by omega) (by omega) (by omega), er1, by unfold nul6; rw [er1]⟩
  · rcases hi with q | ⟨i0, r2, k2, A2, m2, nt2, cr2, d2, hdis, hq⟩
    · exact Or.inl q
    · have ib : b + 59 ≤ i := by omega
      have d2' := d2
      obtain ⟨o, g, q1, q2, q3, q4, q5, q6⟩ := d2'
      have ki3 : K (i + 3) = 103 := q4.1.2.2.1
      have kk : ∀ y, i ≤ y → y < i + 6 → K y ≠ 5 := fun y a c => by
        have c0 : y = i ∨ y = i + 1 ∨ y = i + 2 ∨ y = i + 3 ∨ y = i + 4 ∨ y = i + 5 := by omega
        have g0 := q4.1.1
        have g1 := q2.1
        have g2 : K (i + 2) = 101 := q2.2.2.1
        have g4 := q5.2.2.1
        have g5 := q6.2.2.1
        rcases c0 with rfl | rfl | rfl | rfl | rfl | rfl <;> omega
      refine Or.inr ⟨i0, r2, k2, A2, m2, nt2, cr2, Dsk_c d2 (fun y a c => f4 y (by omega) (kk y a c)) hb hR, ?_, hq⟩
      rw [hR (b + 53 + 3) (Or.inr (Or.inr k103)), hR (i + 3) (Or.inr (Or.inr ki3))]
      exact hdis
  · unfold Zr at z1 ⊢; rw [f3 _ (by omega) (by omega) (by omega) (by omega) (by omega) (by omega)]; exact z1
  · unfold Zr at z2 ⊢; rw [f3 _ (by omega) (by omega) (by omega) (by omega) (by omega) (by omega)]; exact z2
  · unfold nul; rw [hR _ (Or.inr (Or.inr k103))]
  · intro i0
    rcases hi with q | ⟨-, r2, k2, A2, m2, nt2, cr2, ⟨o, g, q1, q2, q3, q4, q5, q6⟩, -⟩
    · exact absurd q.1 i0
    · unfold nul; rw [hR _ (Or.inr (Or.inr q4.1.2.2.1))]
end FSB
