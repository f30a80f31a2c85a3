section FCQ
variable {K : Nat → Nat} {I : Nat → Nat → Int32} {R : Nat → Nat → Nat} {L : Nat → Nat → Int64} {N : Nat → Nat} {w : Nat × Nat × Nat × Nat} {X U C Z : Nat} {Xo Ko : Nat}
variable {b many k m n pc pu : Nat} {P : PG} {r nt cr t : Nat → Int} {A : Nat → Nat → Int} {fp : Int} {im : Option DS}
theorem y_Restore0 (h : RC K I R N X b many P r k A m nt cr n t fp im pc pu) (hm : im = none) : fX12_restore b (K, I, R, L, N, w) = some (jI 0, (K, I, R, L, N, w)) := by
  obtain ⟨l, sl, i, sh, pm, -, -, tp, -⟩ := h
  have kb := sh.1
  have i12 := tp.2.2.2.2
  rw [if_pos hm] at i12
  unfold fX12_restore
  rw [o_gd _ kb, o_gI kb, o_ob, i12, if_pos (by decide)]
  rfl
theorem y_Restore1 {r2 nt2 cr2 : Nat → Int} {k2 m2 : Nat} {A2 : Nat → Nat → Int} (h : RC K I R N X b many P r k A m nt cr n t fp im pc pu) (h1 : X + pc ≤ C) (h2 : U + pu ≤ Z) (hK0 : TP Xo Ko K X) (hm : im = some (r2, (k2, A2), (m2, nt2), cr2)) :
    ACo K N Xo Ko X U C Z b many P r2 k2 A2 m2 nt2 cr2 n t fp im pc pu (jI 1) (fX12_restore b (K, I, R, L, N, (X, U, C, Z))) := by
  obtain ⟨l, sl, i, sh, pm, dsk, ok, tp, hi, z1, z2, po⟩ := h
  have kb := sh.1
  have r10 : R b 10 = b + 53 := sh.2.2.2.2.2.2.2.2.2.1
  have ei : R b 11 = i := sh.2.2.2.2.2.2.2.2.2.2.1
  have i12 := tp.2.2.2.2
  rw [if_neg (by rw [hm]; simp)] at i12
  obtain ⟨gd, ld, ls, ln1, ln2, dis, hz⟩ := pm
  have s11 : (0 < b ∧ b + 59 ≤ X ∧ (i = 0 ∨ (b + 59 ≤ i ∧ i + 6 ≤ X)) ∧ ((l = b + 29 ∧ sl = b + 2) ∨ (l = b + 2 ∧ sl = b + 29))) := sh.2.2.2.2.2.2.2.2.2.2.2.1
  rcases hi with q | ⟨i0, r2', k2', A2', m2', nt2', cr2', ⟨o2, g2, e0, er, eI2, dk2, dn2, rf2⟩, hdis, hq⟩
  · rw [q.2] at hm; exact absurd hm (by simp)
  obtain ⟨hq1, hq2⟩ := hq _ hm
  cases hq1
  have ib : b + 59 ≤ i ∧ i + 6 ≤ X := by omega
  obtain ⟨o, g, d0, hr, hI2, dk, dn, rf⟩ := dsk
  have p56 : b + 53 + 3 = b + 56 := by omega
  have po1 := po.1
  have po2 := po.2
  rw [if_neg i0] at po1 po2
  obtain ⟨K', I', R', L', N', X', U', e1, a1, a2, a3, a4, a5, a6, ⟨g', a7⟩, a8, a9, a10, a11, a12, a13, a14, f2, f3, f4, f5, f6⟩ := e_dbecome (L := L) (C := C) (Z := Z) (U := U) dk dk2 hdis (by omega) (by omega) d0 hr hI2 dn.2.1 dn.2.2.1 dn.2.2.2.1 rf.2.1 rf.2.2.1 rf.2.2.2.1 e0 er eI2 dn2 rf2 (by unfold bd; omega) (by unfold bd; omega) (by unfold bd; omega) (by unfold bd; omega) (by unfold bd; omega) (by unfold bd; omega) (by omega) (by omega) (by omega) (by omega) (by omega) (by omega) (by omega) (by omega) (by omega) (by omega) (by omega) hK0 (fun y hy c => by unfold bd at c; omega) (by omega) (by omega) (by omega) (by omega)
  have bI : ∀ y, y < b + 53 → I' y = I y := fun y hy => f6 y (by omega) (Or.inl (Or.inl (by omega))) (by omega) (by omega) (by omega) (by omega)
  have eiI : ∀ y, i ≤ y → y < i + 6 → I' y = I y := fun y a c => f6 y (by omega) (Or.inl (Or.inr ⟨a, c⟩)) (by omega) (by omega) (by omega) (by omega)
  have bR : ∀ y, y < b + 56 → R' y = R y := fun y hy => f5 y (by omega) (by omega)
  have eiR : ∀ y, i ≤ y → y < i + 6 → R' y = R y := fun y a c => f5 y (by omega) (by omega)
  have eiK : ∀ y, i ≤ y → y < i + 6 → K' y = K y := fun y a c => f2 y (by omega)
  have eiN : ∀ y, i ≤ y → y < i + 6 → N' y = N y := fun y a c => f3 y (by omega)
  have k56 : K (b + 56) = 103 := dk.1.2.2.1
  have sh' := Sh_x (X' := X') sh a10 (fun y hy => f2 y (by omega)) (fun y hy => f3 y (by omega)) bR
  have gd' := Gd_x (ar := b + 56) (K' := K') (I' := I') (R' := R') (N' := N') gd ln1 (by omega) (by omega) k56 (by omega) f2 f3 (fun y hy c => f5 y hy (by omega)) (fun y hy hk => f6 y hy (Or.inr (by omega)) (fun e => by rw [e, dk.1.1] at hk; omega) (fun e => by have := hr.2.2.1; rw [e, this] at hk; omega) (fun e => by have := dn.2.2.1; rw [e, this] at hk; omega) (fun e => by have := rf.2.2.1; rw [e, this] at hk; omega))
  have nl1 : nul6 R' (b + 2) = nul6 R (b + 2) := by unfold nul6; rw [bR _ (by omega)]
  have nl2 : nul6 R' (b + 29) = nul6 R (b + 29) := by unfold nul6; rw [bR _ (by omega)]
  refine ⟨K', I', R', L', N', X', U', 2 * nul R' (b + 53 + 3) + (if i = 0 then 86 else 2 * nul R' (i + 3)) + nul6 R' (b + 2) + nul6 R' (b + 29), 412 * nul R' (b + 53 + 3) + (if i = 0 then 486 + 412 * 40 else 412 * nul R' (i + 3)) + 11 * nul6 R' (b + 2) + 11 * nul6 R' (b + 29), ?_, ⟨l, sl, i, sh', ⟨gd', ?_, ?_, Ln_x ln1 a10 f2 (bR _ (by omega)), Ln_x ln2 a10 f2 (bR _ (by omega)), ?_, ?_⟩, ⟨0, g', ?_, ?_, a7, a1, a8, a9⟩, hq2, ?_, ?_, ?_, ?_, ⟨rfl, rfl⟩⟩, ?_, ?_, a13, a10, fun y hy => ⟨f2 y hy, f3 y hy⟩⟩
  · unfold fX12_restore
    rw [o_gd _ kb, o_gI kb, o_ob, i12, if_neg (by decide), o_gR kb, o_ob, ei, if_neg i0, o_gR kb, o_ob, r10, o_ob, e1, o_oba a14]
    rfl
  · unfold Ld at ld ⊢; rw [bI (l + 2) (by omega)]; exact ld
  · unfold Ls at ls ⊢
    rw [f2 sl (by omega), bR sl (by omega), f2 (sl + 1) (by omega), f3 (sl + 1) (by omega), f2 (sl + 2) (by omega), f3 (sl + 2) (by omega)]; exact ls
  · rw [bR (l + 1) (by omega), bR (sl + 1) (by omega)]; exact dis
  · rw [bI (l + 2) (by omega), bI (sl + 2) (by omega)]; exact hz
  · rw [bR _ (by omega)]; exact d0
  · unfold Rw at hr ⊢
    rw [f2 (b + 53 + 1) (by omega), bR (b + 53 + 1) (by omega), f2 (b + 53 + 1 + 1) (by omega), f3 (b + 53 + 1 + 1) (by omega)]; exact hr
  · unfold Tp at tp ⊢; rw [bI b (by omega), bI (b + 1) (by omega)]; exact tp
  · refine Or.inr ⟨i0, r2, k2, A2, m2, nt2, cr2, ⟨o2, g2, by rw [eiR _ (by omega) (by omega)]; exact e0, ?_, by rw [eiI _ (by omega) (by omega)]; exact eI2, a2, ?_, ?_⟩, a3, hq⟩
    · unfold Rw at er ⊢
      rw [eiK _ (by omega) (by omega), eiR _ (by omega) (by omega), eiK _ (by omega) (by omega), eiN _ (by omega) (by omega)]; exact er
    · unfold Dn at dn2 ⊢
      rw [eiK _ (by omega) (by omega), eiR _ (by omega) (by omega), eiK _ (by omega) (by omega), eiN _ (by omega) (by omega), eiI _ (by omega) (by omega), eiI _ (by omega) (by omega)]; exact dn2
    · unfold Rfs at rf2 ⊢
      rw [eiK _ (by omega) (by omega), eiR _ (by omega) (by omega), eiK _ (by omega) (by omega), eiN _ (by omega) (by omega), eiI _ (by omega) (by omega)]; exact rf2
  · unfold Zr at z1 ⊢; rw [bI (b + 35 + 1) (by omega)]; exact z1
  · unfold Zr at z2 ⊢; rw [bI (b + 37 + 1) (by omega)]; exact z2
  · rw [nl1, nl2, if_neg i0, a4]; omega
  · rw [nl1, nl2, if_neg i0, a4]; omega
end FCQ
