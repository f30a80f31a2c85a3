section FCC
variable {K : Nat → Nat} {I : Nat → Nat → Int32} {R : Nat → Nat → Nat} {L : Nat → Nat → Int64} {N : Nat → Nat} {w : Nat × Nat × Nat × Nat} {X U C Z : Nat}
variable {b many k m n pc pu : Nat} {P : PG} {r nt cr t : Nat → Int} {A : Nat → Nat → Int} {fp : Int} {im : Option DS}
theorem Rw_c {x : Nat} {R' : Nat → Nat → Nat} (h : Rw K R N x) (e : R' x = R x) : Rw K R' N x := by
  unfold Rw at h ⊢; rw [e]; exact h
theorem Dk_c {bad : Nat → Prop} {d ar o : Nat} {I' : Nat → Nat → Int32} {R' : Nat → Nat → Nat} (h : Dk K I R N X bad d ar o k A) (e2 : I' d 2 = I d 2) (e3 : I' d 3 = I d 3) (hb : ∀ y, K y = 101 → ¬ bad y → I' y = I y) (hR : ∀ y, K y = 2 ∨ K y = 9 ∨ K y = 103 → R' y = R y) : Dk K I' R' N X bad d ar o k A := by
  obtain ⟨⟨k2, r1, k103, n40, i2, i3, ho, hk'⟩, hrow, hinj, hact⟩ := Dk_I h e2 e3 hb
  have ea : R' ar = R ar := hR ar (Or.inr (Or.inr k103))
  refine ⟨⟨k2, by rw [hR d (Or.inl k2)]; exact r1, k103, n40, i2, i3, ho, hk'⟩, fun s hs c => ?_, fun s s' a1 a2 a3 a4 => ?_, fun i hi => ?_⟩
  · rw [ea] at c ⊢
    obtain ⟨b1, b2, b3⟩ := hrow s hs c
    exact ⟨Rw_c b1 (hR _ (Or.inr (Or.inl b1.1))), b2, b3⟩
  · rw [ea] at a4 ⊢; exact hinj s s' a1 a2 a3 a4
  · rw [ea]; exact hact i hi
theorem Dsk_c {bad : Nat → Prop} {d : Nat} {I' : Nat → Nat → Int32} {R' : Nat → Nat → Nat} (h : Dsk K I R N X bad d r k A m nt cr) (hI : ∀ y, d ≤ y → y < d + 6 → I' y = I y) (hb : ∀ y, K y = 101 → ¬ bad y → I' y = I y) (hR : ∀ y, K y = 2 ∨ K y = 9 ∨ K y = 103 → R' y = R y) : Dsk K I' R' N X bad d r k A m nt cr := by
  obtain ⟨o, g, d0, hr, hI2, dk, dn, rf⟩ := h
  have kd : K d = 2 := dk.1.1
  have ed := hR d (Or.inl kd)
  have eI := hI d (by omega) (by omega)
  refine ⟨o, g, by rw [ed]; exact d0, Rw_c hr (hR _ (Or.inr (Or.inl hr.1))), by rw [hI (d + 1 + 1) (by omega) (by omega)]; exact hI2, Dk_c dk (by rw [eI]) (by rw [eI]) hb hR, ?_, ?_⟩
  · unfold Dn at dn ⊢; rw [ed, eI, hI (d + 4) (by omega) (by omega)]; exact dn
  · unfold Rfs at rf ⊢; rw [ed, hI (d + 5) (by omega) (by omega)]; exact rf
/-- what a look ahead may change -/
def sc (b y : Nat) : Prop := (b + 5 ≤ y ∧ y < b + 9) ∨ (b + 13 ≤ y ∧ y < b + 29) ∨ y = b + 36 ∨ y = b + 38 ∨ y = b + 39 ∨ (b + 40 ≤ y ∧ y < b + 45) ∨ (b + 47 ≤ y ∧ y < b + 53)
theorem sc_K {l sl i y : Nat} (h : Sh K R N X b l sl i) (hs : sc b y) (ho : y < b + 14 ∨ b + 14 + 15 ≤ y) : K y ≠ 5 ∧ K y ≠ 6 := by
  obtain ⟨-, -, -, -, -, -, -, -, -, -, -, -, fs, ed, d1, d2, d3, tb, -⟩ := h
  obtain ⟨k4, -, -, -, -, ⟨hx, -⟩, ⟨hy, -⟩, kt, -⟩ := fs
  have x1 := hx.2.2.1
  have y1 := hy.2.2.1
  obtain ⟨e0, -, -, -, -, e1, -, e2, -, e3, -, e4, -⟩ := ed
  obtain ⟨a0, -, a1, -⟩ := d1
  obtain ⟨b0, -, b1, -⟩ := d2
  obtain ⟨c0, -, c1, -⟩ := d3
  obtain ⟨t0, -, -, -, t1, -, t2, -, t3, -⟩ := tb
  have main : ∀ z v, K z = v → v ≠ 5 → v ≠ 6 → y = z → K y ≠ 5 ∧ K y ≠ 6 := fun z v e p q ez => by rw [ez, e]; exact ⟨p, q⟩
  have cs : y = b + 5 ∨ y = b + 6 ∨ y = b + 7 ∨ y = b + 8 ∨ y = b + 13 ∨ y = b + 35 + 1 ∨ y = b + 37 + 1 ∨ y = b + 39 ∨ y = b + 40 ∨ y = b + 40 + 1 ∨ y = b + 40 + 2 ∨ y = b + 40 + 3 ∨ y = b + 40 + 4 ∨ y = b + 47 ∨ y = b + 47 + 1 ∨ y = b + 49 ∨ y = b + 49 + 1 ∨ y = b + 51 ∨ y = b + 51 + 1 := by
    unfold sc at hs; omega
  rcases cs with q | q | q | q | q | q | q | q | q | q | q | q | q | q | q | q | q | q | q
  · exact main _ _ t0 (by decide) (by decide) q
  · exact main _ _ t1 (by decide) (by decide) q
  · exact main _ _ t2 (by decide) (by decide) q
  · exact main _ _ t3 (by decide) (by decide) q
  · exact main _ _ k4 (by decide) (by decide) q
  · exact main _ _ x1 (by decide) (by decide) q
  · exact main _ _ y1 (by decide) (by decide) q
  · exact main _ _ kt (by decide) (by decide) q
  · exact main _ _ e0 (by decide) (by decide) q
  · exact main _ _ e1 (by decide) (by decide) q
  · exact main _ _ e2 (by decide) (by decide) q
  · exact main _ _ e3 (by decide) (by decide) q
  · exact main _ _ e4 (by decide) (by decide) q
  · exact main _ _ a0 (by decide) (by decide) q
  · exact main _ _ a1 (by decide) (by decide) q
  · exact main _ _ b0 (by decide) (by decide) q
  · exact main _ _ b1 (by decide) (by decide) q
  · exact main _ _ c0 (by decide) (by decide) q
  · exact main _ _ c1 (by decide) (by decide) q
theorem Sh_c {l sl i : Nat} {R' : Nat → Nat → Nat} {P : PG} (h : Sh K R N X b l sl i) (hg : Gd K I R N (b + 14) l many P) (hR : RFr (b + 14) R R') : Sh K R' N X b l sl i := by
  have kp : K (b + 14) = 8 := hg.1.1
  have k3 : K (b + 21) = 3 := hg.1.2.2.2.2.2.2.2.2.2.2.2.1
  have e : ∀ y, y ≠ b + 14 → y ≠ b + 21 → R' y = R y := fun y a c => hR.1 y a (by omega)
  obtain ⟨s0, s1, s2, s3, s4, s5, s6, s7, s8, s9, s10, s11, fs, ed, d1, d2, d3, tb, s12⟩ := h
  have eb := e b (by omega) (by omega)
  refine ⟨s0, by rw [eb]; exact s1, by rw [eb]; exact s2, by rw [eb]; exact s3, by rw [eb]; exact s4, by rw [eb]; exact s5, by rw [eb]; exact s6, by rw [eb]; exact s7, by rw [eb]; exact s8, by rw [eb]; exact s9, by rw [eb]; exact s10, s11, Fs_fr hg fs hR, ?_, ?_, ?_, ?_, ?_, s12⟩
  · unfold Ed at ed ⊢; rw [e (b + 40) (by omega) (by omega)]; exact ed
  · unfold Dc at d1 ⊢; rw [e (b + 47) (by omega) (by omega)]; exact d1
  · unfold Dc at d2 ⊢; rw [e (b + 49) (by omega) (by omega)]; exact d2
  · unfold Dc at d3 ⊢; rw [e (b + 51) (by omega) (by omega)]; exact d3
  · unfold Tb at tb ⊢; rw [e (b + 5) (by omega) (by omega)]; exact tb
theorem RC_scr {I' : Nat → Nat → Int32} {R' : Nat → Nat → Nat} (h : RC K I R N X b many P r k A m nt cr n t fp im pc pu) (hI : ∀ y, ¬ sc b y → I' y = I y) (hR : RFr (b + 14) R R') (z1 : Zr I' (b + 35)) (z2 : Zr I' (b + 37)) : RC K I' R' N X b many P r k A m nt cr n t fp im pc pu := by
  obtain ⟨l, sl, i, sh, pm, dsk, ok, tp, hi, -, -, po⟩ := h
  obtain ⟨gd, ld, ls, ln1, ln2, dis, hz⟩ := pm
  have kp : K (b + 14) = 8 := gd.1.1
  have k3 : K (b + 14 + 7) = 3 := gd.1.2.2.2.2.2.2.2.2.2.2.2.1
  have kR : ∀ y, K y ≠ 8 → K y ≠ 3 → R' y = R y := fun y a c => hR.1 y (fun q => a (by rw [q]; exact kp)) (fun q => c (by rw [q]; exact k3))
  have kR' : ∀ y, K y = 2 ∨ K y = 9 ∨ K y = 103 → R' y = R y := fun y q => kR y (by omega) (by omega)
  have sh' := Sh_c sh gd hR
  have s11 : (0 < b ∧ b + 59 ≤ X ∧ (i = 0 ∨ (b + 59 ≤ i ∧ i + 6 ≤ X)) ∧ ((l = b + 29 ∧ sl = b + 2) ∨ (l = b + 2 ∧ sl = b + 29))) := sh.2.2.2.2.2.2.2.2.2.2.2.1
  have kl1 : K (l + 1) = 104 := gd.2.2.2.2.2.1
  have ksl : K sl = 6 := ls.1
  have kl2 : K (sl + 1) = 104 := ls.2.2.2.1
  have eb : I' b = I b := hI b (by unfold sc; omega)
  have eb1 : I' (b + 1) = I (b + 1) := hI (b + 1) (by unfold sc; omega)
  have el2 : I' (l + 2) = I (l + 2) := hI (l + 2) (by unfold sc; omega)
  have es2 : I' (sl + 2) = I (sl + 2) := hI (sl + 2) (by unfold sc; omega)
  have er1 : R' (l + 1) = R (l + 1) := kR _ (by omega) (by omega)
  have er2 : R' (sl + 1) = R (sl + 1) := kR _ (by omega) (by omega)
  have hbd : ∀ y, K y = 101 → ¬ bd b i y → I' y = I y := fun y _ q => hI y (fun c => q (by unfold sc at c; unfold bd; omega))
  refine ⟨l, sl, i, sh', ⟨Gd_fr5 gd (fun y ho hk => hI y (fun c => ?_)) hR, ?_, ?_, ?_, ?_, ?_, ?_⟩, Dsk_c dsk (fun y a c => hI y (by unfold sc; omega)) hbd kR', ok, ?_, ?_, z1, z2, ?_⟩
  · have := sc_K sh c ho
    omega
  · unfold Ld at ld ⊢; rw [el2]; exact ld
  · unfold Ls at ls ⊢; rw [kR sl (by omega) (by omega)]; exact ls
  · unfold Ln at ln1 ⊢; rw [er1]; exact ln1
  · unfold Ln at ln2 ⊢; rw [er2]; exact ln2
  · rw [er1, er2]; exact dis
  · rw [el2, es2]; exact hz
  · unfold Tp at tp ⊢; rw [eb, eb1]; exact tp
  · rcases hi with q | ⟨i0, r2, k2, A2, m2, nt2, cr2, hd2, hdis, hq⟩
    · exact Or.inl q
    · have a53 : K (b + 53 + 3) = 103 := by obtain ⟨o, g, -, -, -, dk, -⟩ := dsk; exact dk.1.2.2.1
      have ai3 : K (i + 3) = 103 := by obtain ⟨o, g, -, -, -, dk, -⟩ := hd2; exact dk.1.2.2.1
      refine Or.inr ⟨i0, r2, k2, A2, m2, nt2, cr2, Dsk_c hd2 (fun y a c => hI y (by unfold sc; omega)) hbd kR', ?_, hq⟩
      rw [kR' _ (Or.inr (Or.inr a53)), kR' _ (Or.inr (Or.inr ai3))]
      exact hdis
  · have a53 : K (b + 53 + 3) = 103 := by obtain ⟨o, g, -, -, -, dk, -⟩ := dsk; exact dk.1.2.2.1
    have u1 : R' (b + 53 + 3) = R (b + 53 + 3) := kR' _ (Or.inr (Or.inr a53))
    have u2 : R' (b + 2 + 1) = R (b + 2 + 1) ∧ R' (b + 29 + 1) = R (b + 29 + 1) := by
      rcases s11.2.2.2 with ⟨e1, e2⟩ | ⟨e1, e2⟩
      · rw [← e1, ← e2]; exact ⟨er2, er1⟩
      · rw [← e1, ← e2]; exact ⟨er1, er2⟩
    have u3 : i ≠ 0 → R' (i + 3) = R (i + 3) := fun i0 => by
      rcases hi with q | ⟨-, r2, k2, A2, m2, nt2, cr2, hd2, -⟩
      · exact absurd q.1 i0
      · obtain ⟨o, g, -, -, -, dk, -⟩ := hd2
        exact kR' _ (Or.inr (Or.inr dk.1.2.2.1))
    have v1 : nul R' (b + 53 + 3) = nul R (b + 53 + 3) := by unfold nul; rw [u1]
    have v2 : nul6 R' (b + 2) = nul6 R (b + 2) := by unfold nul6; rw [u2.1]
    have v3 : nul6 R' (b + 29) = nul6 R (b + 29) := by unfold nul6; rw [u2.2]
    have v4 : i ≠ 0 → nul R' (i + 3) = nul R (i + 3) := fun i0 => by unfold nul; rw [u3 i0]
    unfold Po at po ⊢
    rw [v1, v2, v3]
    by_cases i0 : i = 0
    · rw [if_pos i0, if_pos i0] at po ⊢; exact po
    · rw [if_neg i0, if_neg i0] at po ⊢; rw [v4 i0]; exact po
end FCC
