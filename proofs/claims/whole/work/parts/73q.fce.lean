section FCR
variable {K : Nat → Nat} {I : Nat → Nat → Int32} {R : Nat → Nat → Nat} {L : Nat → Nat → Int64} {N : Nat → Nat} {w : Nat × Nat × Nat × Nat} {X U C Z : Nat} {Xo Ko : Nat}
variable {b many k m n pc pu : Nat} {P : PG} {r nt cr t : Nat → Int} {A : Nat → Nat → Int} {fp : Int} {im : Option DS}
theorem y_Img18 (h : RC K I R N X b many P r k A m nt cr n t fp im pc pu) (h1 : X + pc ≤ C) (h2 : U + pu ≤ Z) (hK0 : TP Xo Ko K X) (hm : R b 11 ≠ 0) :
    ∃ K' I' R' L' N' X' U' pc' pu', fX12_image_18 b (K, I, R, L, N, (X, U, C, Z)) = some (K', I', R', L', N', (X', U', C, Z)) ∧ RC K' I' R' N' X' b many P r k A m nt cr n t fp (some (r, (k, A), (m, nt), cr)) pc' pu' ∧ X' + pc' = X + pc ∧ U' + pu' = U + pu ∧ TP Xo Ko K' X' ∧ X ≤ X' ∧ ∀ y, y < X → K' y = K y ∧ N' y = N y := by
  obtain ⟨l, sl, i, sh, pm, dsk, ok, tp, hi, z1, z2, po⟩ := h
  have kb := sh.1
  have r10 : R b 10 = b + 53 := sh.2.2.2.2.2.2.2.2.2.1
  have ei : R b 11 = i := sh.2.2.2.2.2.2.2.2.2.2.1
  rw [ei] at hm
  obtain ⟨gd, ld, ls, ln1, ln2, dis, hz⟩ := pm
  have s11 : (0 < b ∧ b + 59 ≤ X ∧ (i = 0 ∨ (b + 59 ≤ i ∧ i + 6 ≤ X)) ∧ ((l = b + 29 ∧ sl = b + 2) ∨ (l = b + 2 ∧ sl = b + 29))) := sh.2.2.2.2.2.2.2.2.2.2.2.1
  rcases hi with q | ⟨i0, r2, k2, A2, m2, nt2, cr2, ⟨o2, g2, e0, er, eI2, dk2, dn2, rf2⟩, hdis, -⟩
  · exact absurd q.1 hm
  have ib : b + 59 ≤ i ∧ i + 6 ≤ X := by omega
  obtain ⟨o, g, d0, hr, hI2, dk, dn, rf⟩ := dsk
  have po1 := po.1
  have po2 := po.2
  rw [if_neg i0] at po1 po2
  have hdis2 : ∀ a c, a < 40 → c < 40 → R (i + 3) a ≠ 0 → R (i + 3) a ≠ R (b + 53 + 3) c := fun a c ha hc e1 e2 => hdis c a hc ha (by rw [← e2]; exact e1) e2.symm
  obtain ⟨K', I', R', L', N', X', U', e1, a1, a2, a3, a4, a5, a6, ⟨g', a7⟩, a8, a9, a10, a11, a12, a13, a14, f2, f3, f4, f5, f6⟩ := e_dbecome (L := L) (C := C) (Z := Z) (U := U) dk2 dk hdis2 (by omega) (by omega) e0 er eI2 dn2.2.1 dn2.2.2.1 dn2.2.2.2.1 rf2.2.1 rf2.2.2.1 rf2.2.2.2.1 d0 hr hI2 dn rf (by unfold bd; omega) (by unfold bd; omega) (by unfold bd; omega) (by unfold bd; omega) (by unfold bd; omega) (by unfold bd; omega) (by omega) (by omega) (by omega) (by omega) (by omega) (by omega) (by omega) (by omega) (by omega) (by omega) (by omega) hK0 (fun y hy c => by unfold bd at c; omega) (by omega) (by omega) (by omega) (by omega)
  have bI : ∀ y, y < b + 59 → I' y = I y := fun y hy => f6 y (by omega) (Or.inl (Or.inl (by omega))) (by omega) (by omega) (by omega) (by omega)
  have bR : ∀ y, y < b + 59 → R' y = R y := fun y hy => f5 y (by omega) (by omega)
  have eiR : ∀ y, i ≤ y → y < i + 3 → R' y = R y := fun y a c => f5 y (by omega) (by omega)
  have eiK : ∀ y, i ≤ y → y < i + 6 → K' y = K y := fun y a c => f2 y (by omega)
  have eiN : ∀ y, i ≤ y → y < i + 6 → N' y = N y := fun y a c => f3 y (by omega)
  have ki3 : K (i + 3) = 103 := dk2.1.2.2.1
  have sh' := Sh_x (X' := X') sh a10 (fun y hy => f2 y (by omega)) (fun y hy => f3 y (by omega)) (fun y hy => bR y (by omega))
  have gd' := Gd_x (ar := i + 3) (K' := K') (I' := I') (R' := R') (N' := N') gd ln1 (by omega) (by omega) ki3 (by omega) f2 f3 (fun y hy c => f5 y hy (by omega)) (fun y hy hk => f6 y hy (Or.inr (by omega)) (fun e => by rw [e, dk2.1.1] at hk; omega) (fun e => by have := er.2.2.1; rw [e, this] at hk; omega) (fun e => by have := dn2.2.2.1; rw [e, this] at hk; omega) (fun e => by have := rf2.2.2.1; rw [e, this] at hk; omega))
  have nl1 : nul6 R' (b + 2) = nul6 R (b + 2) := by unfold nul6; rw [bR _ (by omega)]
  have nl2 : nul6 R' (b + 29) = nul6 R (b + 29) := by unfold nul6; rw [bR _ (by omega)]
  obtain ⟨J, hJ⟩ : ∃ J, J = va_up I' b (va_up (I' b) 12 (jI 1)) := ⟨_, rfl⟩
  have jn : ∀ y, y ≠ b → J y = I' y := fun y hy => by rw [hJ]; exact va_up_ne _ _ hy
  have jb : ∀ j, j ≠ 12 → J b j = I b j := fun j hj => by rw [hJ, va_up_self, va_up_ne _ _ hj, bI b (by omega)]
  have kb' : K' b = 10 := by rw [f2 b (by omega)]; exact kb
  have jbd : ∀ y, K' y = 101 → ¬ bd b i y → J y = I' y := fun y _ q => jn y (fun e => q (by unfold bd; omega))
  refine ⟨K', J, R', L', N', X', U', 2 * nul R' (b + 53 + 3) + (if i = 0 then 86 else 2 * nul R' (i + 3)) + nul6 R' (b + 2) + nul6 R' (b + 29), 412 * nul R' (b + 53 + 3) + (if i = 0 then 486 + 412 * 40 else 412 * nul R' (i + 3)) + 11 * nul6 R' (b + 2) + 11 * nul6 R' (b + 29), ?_, ⟨l, sl, i, sh', ⟨Gd_fr5 gd' (fun y _ hk => jn y (fun e => by rw [e, kb'] at hk; omega)) (RFr_rf _ _), ?_, ?_, Ln_x ln1 a10 f2 (bR _ (by omega)), Ln_x ln2 a10 f2 (bR _ (by omega)), ?_, ?_⟩, Dsk_c (I := I') (R := R') ⟨o, g, ?_, ?_, ?_, a2, ?_, ?_⟩ (fun y a c => jn y (by omega)) jbd (fun _ _ => rfl), ok, ?_, ?_, ?_, ?_, ⟨rfl, rfl⟩⟩, ?_, ?_, a13, a10, fun y hy => ⟨f2 y hy, f3 y hy⟩⟩
  · unfold fX12_image_18
    rw [o_gR kb, o_ob, ei, o_gR kb, o_ob, r10, e1, o_oba a14, show (1 : Int32) = jI 1 from rfl, o_pZ1 kb', o_ob, hJ]
  · unfold Ld at ld ⊢; rw [jn (l + 2) (by omega), bI (l + 2) (by omega)]; exact ld
  · unfold Ls at ls ⊢
    rw [f2 sl (by omega), bR sl (by omega), f2 (sl + 1) (by omega), f3 (sl + 1) (by omega), f2 (sl + 2) (by omega), f3 (sl + 2) (by omega)]; exact ls
  · rw [bR (l + 1) (by omega), bR (sl + 1) (by omega)]; exact dis
  · rw [jn (l + 2) (by omega), jn (sl + 2) (by omega), bI (l + 2) (by omega), bI (sl + 2) (by omega)]; exact hz
  · rw [bR _ (by omega)]; exact d0
  · unfold Rw at hr ⊢
    rw [f2 (b + 53 + 1) (by omega), bR (b + 53 + 1) (by omega), f2 (b + 53 + 1 + 1) (by omega), f3 (b + 53 + 1 + 1) (by omega)]; exact hr
  · rw [bI _ (by omega)]; exact hI2
  · unfold Dn at dn ⊢
    rw [f2 (b + 53) (by omega), bR (b + 53) (by omega), f2 (b + 53 + 4) (by omega), f3 (b + 53 + 4) (by omega), bI (b + 53) (by omega), bI (b + 53 + 4) (by omega)]; exact dn
  · unfold Rfs at rf ⊢
    rw [f2 (b + 53) (by omega), bR (b + 53) (by omega), f2 (b + 53 + 5) (by omega), f3 (b + 53 + 5) (by omega), bI (b + 53 + 5) (by omega)]; exact rf
  · obtain ⟨t1, t2, t3, t4, t5⟩ := tp
    exact ⟨by rw [jb _ (by omega)]; exact t1, t2, by rw [jb _ (by omega)]; exact t3, by rw [jn (b + 1) (by omega), bI (b + 1) (by omega)]; exact t4, by rw [hJ, va_up_self, va_up_self, if_neg (by simp)]⟩
  · refine Or.inr ⟨i0, r, k, A, m, nt, cr, Dsk_c (I := I') (R := R') ⟨0, g', by rw [eiR _ (by omega) (by omega)]; exact e0, ?_, a7, a1, a8, a9⟩ (fun y a c => jn y (by omega)) jbd (fun _ _ => rfl), fun a c ha hc e1 e2 => a3 c a hc ha (by rw [← e2]; exact e1) e2.symm, fun q hq => ⟨(Option.some.inj hq).symm, ok⟩⟩
    unfold Rw at er ⊢
    rw [eiK _ (by omega) (by omega), eiR _ (by omega) (by omega), eiK _ (by omega) (by omega), eiN _ (by omega) (by omega)]; exact er
  · unfold Zr at z1 ⊢; rw [jn _ (by omega), bI (b + 35 + 1) (by omega)]; exact z1
  · unfold Zr at z2 ⊢; rw [jn _ (by omega), bI (b + 37 + 1) (by omega)]; exact z2
  · rw [nl1, nl2, if_neg i0, a4]; omega
  · rw [nl1, nl2, if_neg i0, a4]; omega
end FCR
