section FCJ
variable {K : Nat → Nat} {I : Nat → Nat → Int32} {R : Nat → Nat → Nat} {L : Nat → Nat → Int64} {N : Nat → Nat} {w : Nat × Nat × Nat × Nat} {X U C Z : Nat}
variable {b many k m n pc pu : Nat} {P : PG} {r nt cr t : Nat → Int} {A : Nat → Nat → Int} {fp : Int} {im : Option DS}
/-- the desk is written -/
theorem RC_dsk {I' : Nat → Nat → Int32} {r' nt' cr' : Nat → Int} {k' m' : Nat} {A' : Nat → Nat → Int} (h : RC K I R N X b many P r k A m nt cr n t fp im pc pu) (hI : ∀ y, (y < b + 53 ∨ b + 59 ≤ y) → I' y = I y) (hd : ∀ i, Dsk K I R N X (bd b i) (b + 53) r k A m nt cr → Dsk K I' R N X (bd b i) (b + 53) r' k' A' m' nt' cr') (ho : DOK many 20000 r k A → DOK many 20000 r' k' A') : RC K I' R N X b many P r' k' A' m' nt' cr' n t fp im pc pu := by
  obtain ⟨l, sl, i, sh, pm, dsk, ok, tp, hi, z1, z2, po⟩ := h
  obtain ⟨gd, ld, ls, ln1, ln2, dis, hz⟩ := pm
  have s11 : (0 < b ∧ b + 59 ≤ X ∧ (i = 0 ∨ (b + 59 ≤ i ∧ i + 6 ≤ X)) ∧ ((l = b + 29 ∧ sl = b + 2) ∨ (l = b + 2 ∧ sl = b + 29))) := sh.2.2.2.2.2.2.2.2.2.2.2.1
  have dsk' := hd i dsk
  obtain ⟨o, g, -, hr, -, dk, dn, rf⟩ := dsk
  have q0 : K (b + 53) = 2 := dk.1.1
  have q1 := hr.1
  have q2 := hr.2.2.1
  have q3 := dk.1.2.2.1
  have q4 := dn.2.2.1
  have q5 := rf.2.2.1
  have k56 : ∀ y, K y = 5 ∨ K y = 6 → I' y = I y := fun y hk => hI y (by
    by_cases c : y < b + 53
    · exact Or.inl c
    · right
      by_cases c2 : b + 59 ≤ y
      · exact c2
      · have cs : y = b + 53 ∨ y = b + 53 + 1 ∨ y = b + 53 + 1 + 1 ∨ y = b + 53 + 3 ∨ y = b + 53 + 4 ∨ y = b + 53 + 5 := by omega
        rcases cs with e | e | e | e | e | e <;> subst e <;> omega)
  have hbd : ∀ y, K y = 101 → ¬ bd b i y → I' y = I y := fun y _ q => hI y (by unfold bd at q; omega)
  refine ⟨l, sl, i, sh, ⟨Gd_fr5 gd (fun y _ hk => k56 y hk) (RFr_rf _ _), ?_, ls, ln1, ln2, dis, ?_⟩, dsk', ho ok, ?_, ?_, ?_, ?_, po⟩
  · unfold Ld at ld ⊢; rw [hI (l + 2) (by omega)]; exact ld
  · rw [hI (l + 2) (by omega), hI (sl + 2) (by omega)]; exact hz
  · unfold Tp at tp ⊢; rw [hI b (by omega), hI (b + 1) (by omega)]; exact tp
  · rcases hi with q | ⟨i0, r2, k2, A2, m2, nt2, cr2, hd2, hdis, hq⟩
    · exact Or.inl q
    · exact Or.inr ⟨i0, r2, k2, A2, m2, nt2, cr2, Dsk_c hd2 (fun y a c => hI y (by omega)) hbd (fun _ _ => rfl), hdis, hq⟩
  · unfold Zr at z1 ⊢; rw [hI (b + 35 + 1) (by omega)]; exact z1
  · unfold Zr at z2 ⊢; rw [hI (b + 37 + 1) (by omega)]; exact z2
theorem RC_d (h : RC K I R N X b many P r k A m nt cr n t fp im pc pu) : ∃ o na rf, Dn K I R N (b + 53) na nt m ∧ Rfs K I R N (b + 53) rf cr ∧ na = b + 57 ∧ rf = b + 58 ∧ I (b + 53) 3 = jI (k : Int) ∧ I (b + 53) 2 = jI (o : Int) ∧ k ≤ 40 := by
  obtain ⟨l, sl, i, sh, pm, ⟨o, g, -, -, -, dk, dn, rf⟩, -⟩ := h
  exact ⟨o, b + 57, b + 58, dn, rf, rfl, rfl, dk.1.2.2.2.2.2.1, dk.1.2.2.2.2.1, dk.1.2.2.2.2.2.2.2⟩
/-- a call refused is counted -/
theorem y_refuse {wh : Nat} (h : RC K I R N X b many P r k A m nt cr n t fp im pc pu) (hw : wh < 3) : ∃ I', fX2_refuse (b + 53) (jI (wh : Int)) (K, I, R, L, N, w) = some (K, I', R, L, N, w) ∧ RC K I' R N X b many P r k A m nt (va_up cr wh (cr wh + 1)) n t fp im pc pu := by
  obtain ⟨o, na, rf, -, hrf, -, erf, -⟩ := RC_d h
  subst erf
  refine ⟨_, e_refuse hrf hw, RC_dsk h (fun y hy => va_up_ne _ _ (by omega)) (fun i hd => ?_) id⟩
  obtain ⟨o', g, d0, hr, hI2, dk, dn, rf'⟩ := hd
  have e : ∀ y, y ≠ b + 58 → va_up I (b + 58) (va_up (I (b + 58)) wh (jI (cr wh + 1))) y = I y := fun y hy => va_up_ne _ _ hy
  refine ⟨o', g, d0, hr, by rw [e _ (by omega)]; exact hI2, Dk_I dk (by rw [e _ (by omega)]) (by rw [e _ (by omega)]) (fun y _ q => e y (fun c => q (by unfold bd; omega))), ?_, ?_⟩
  · unfold Dn at dn ⊢; rw [e _ (by omega), e _ (by omega)]; exact dn
  · obtain ⟨f0, f1, f2, f3, f4⟩ := rf'
    refine ⟨f0, f1, f2, f3, fun j hj => ?_⟩
    rw [show b + 53 + 5 = b + 58 by omega, va_up_self]
    by_cases c : j = wh
    · rw [c, va_up_self, va_up_self]
    · rw [va_up_ne _ _ c, va_up_ne _ _ c]; exact f4 j hj
theorem y_Forget (h : RC K I R N X b many P r k A m nt cr n t fp im pc pu) : ∃ I', fX12_forget b (K, I, R, L, N, w) = some (K, I', R, L, N, w) ∧ RC K I' R N X b many P r k A 0 nt cr n t fp im pc pu := by
  obtain ⟨kb, r10, kd, rd, -⟩ := RC_now h
  have e : ∀ y, y ≠ b + 53 → va_up I (b + 53) (va_up (I (b + 53)) 5 (jI 0)) y = I y := fun y hy => va_up_ne _ _ hy
  refine ⟨va_up I (b + 53) (va_up (I (b + 53)) 5 (jI 0)), ?_, RC_dsk h (fun y hy => e y (by omega)) (fun i hd => ?_) id⟩
  · unfold fX12_forget
    rw [o_gd _ kb, o_gR kb, o_ob, r10, e_wipe kd, o_ob]
  · obtain ⟨o', g, d0, hr, hI2, dk, dn, rf⟩ := hd
    refine ⟨o', g, d0, hr, by rw [e _ (by omega)]; exact hI2, Dk_I dk (by rw [va_up_self, va_up_ne _ _ (by omega)]) (by rw [va_up_self, va_up_ne _ _ (by omega)]) (fun y _ q => e y (fun c => q (by unfold bd; omega))), ?_, ?_⟩
    · obtain ⟨f0, f1, f2, f3, f4, f5, f6⟩ := dn
      exact ⟨f0, f1, f2, f3, by rw [va_up_self, va_up_self]; rfl, fun j hj => by rw [e _ (by omega)]; exact f5 j hj, ⟨by omega, fun j hj => by omega⟩⟩
    · unfold Rfs at rf ⊢; rw [e _ (by omega)]; exact rf
theorem y_Undo0 (h : RC K I R N X b many P r k A m nt cr n t fp im pc pu) (hk : k = 0) : fX12_undo b (K, I, R, L, N, w) = some (jI (-1), (K, I, R, L, N, w)) := by
  obtain ⟨kb, r10, kd, rd, -⟩ := RC_now h
  obtain ⟨o, na, rf, -, -, -, -, i3, -⟩ := RC_d h
  unfold fX12_undo
  rw [o_gd _ kb, o_gR kb, o_ob, r10, e_kept kd i3, o_ob, if_pos (by rw [hk]; rfl)]
  rfl
theorem y_Undo1 (h : RC K I R N X b many P r k A m nt cr n t fp im pc pu) (hk : 0 < k) : ∃ I', fX12_undo b (K, I, R, L, N, w) = some (jI ((k - 1 : Nat) : Int), (K, I', R, L, N, w)) ∧ RC K I' R N X b many P (A (k - 1)) (k - 1) A m nt cr n t fp im pc pu := by
  obtain ⟨kb, r10, kd, rd, hr, ⟨g, hI⟩, -⟩ := RC_now h
  obtain ⟨o, na, rf, -, -, -, -, i3, -, k40⟩ := RC_d h
  obtain ⟨l, sl, i, sh, pm, ⟨o2, g2, -, -, -, dk, dn, rf'⟩, -⟩ := id h
  obtain ⟨I', g', e1, e2, e3, e4, e5⟩ := e_takeBack (L := L) (w := w) dk hk rd hr hI (by unfold bd; omega)
  have i3' : I' (b + 53) 3 = jI ((k - 1 : Nat) : Int) := e3.1.2.2.2.2.2.1
  have x1 : ¬ (jI (k : Int) = 0) := by
    rw [show (0 : Int32) = jI 0 from rfl, jIe (by omega) (by omega) (by omega) (by omega)]; omega
  refine ⟨I', ?_, RC_dsk h (fun y hy => e4 y (by omega) (by omega)) (fun i' hd => ?_) (fun ok => ⟨ok.2 (k - 1) (by omega), fun j hj => ok.2 j (by omega)⟩)⟩
  · unfold fX12_undo
    rw [o_gd _ kb, o_gR kb, o_ob, r10, e_kept kd i3, o_ob, if_neg x1, o_ob, e1, o_ob, o_gR kb, o_ob, r10, e_kept kd i3', o_ob]
  · obtain ⟨o3, g3, d0, hr3, hI3, dk3, dn3, rf3⟩ := hd
    obtain ⟨I'', g'', f1, f2, f3, -, -⟩ := e_takeBack (L := L) (w := w) dk3 hk rd hr hI (by unfold bd; omega)
    rw [e1] at f1
    have ei : I' = I'' := by
      have := Option.some.inj f1
      exact congrArg (fun x => x.2.1) this
    subst ei
    refine ⟨o3, g'', d0, hr3, f2, f3, ?_, ?_⟩
    · obtain ⟨q0, q1, q2, q3, q4, q5, q6⟩ := dn3
      exact ⟨q0, q1, q2, q3, by rw [e5 5 (by omega)]; exact q4, fun j hj => by rw [e4 _ (by omega) (by omega)]; exact q5 j hj, q6⟩
    · unfold Rfs at rf3 ⊢; rw [e4 _ (by omega) (by omega)]; exact rf3
theorem y_Note1 {a p v : Int} (h : RC K I R N X b many P r k A m nt cr n t fp im pc pu) (hm : m < 8) (a1 : 0 ≤ a) (a2 : a ≤ 60) (p1 : 0 ≤ p) (p2 : p < 256) (v1 : 0 ≤ v) (v2 : v < 256) :
    ∃ I', fX12_note b (jI a) (jI p) (jI v) (K, I, R, L, N, w) = some (jI ((m + 1 : Nat) : Int), (K, I', R, L, N, w)) ∧ RC K I' R N X b many P r k A (m + 1) (va_up (va_up (va_up nt (3 * m) a) (3 * m + 1) p) (3 * m + 2) v) cr n t fp im pc pu := by
  obtain ⟨kb, r10, kd, rd, -⟩ := RC_now h
  obtain ⟨o, na, rf, dn, -, ena, -, -⟩ := RC_d h
  subst ena
  obtain ⟨I', e1, e2, e3, e4⟩ := e_write (L := L) (w := w) dn hm a1 a2 p1 p2 v1 v2
  have i5 := dn.2.2.2.2.1
  have i5' := e2.2.2.2.2.1
  have x1 : ¬ ((8 : Int32) ≤ jI (m : Int)) := by
    clear i5 i5'
    simp (disch := omega) only [jI_lit, jI_neg, jI_add, jI_sub, jI_mul, jI_lt, jI_le, jI_eq, va_up_self, va_up_ne, jI_shr1, jI_shr4, jI_shr0, jI_and1, jI_and15, jF_at, tn, b2_t, b2_f, cmp_ge, cmp_gt, cmp_le, cmp_lt, cmp_eq, jL_lit, jL_lt, jL_le, jL_eq]; omega
  have x2 : ¬ (jI a < 0) := by
    clear i5 i5'
    simp (disch := omega) only [jI_lit, jI_neg, jI_add, jI_sub, jI_mul, jI_lt, jI_le, jI_eq, va_up_self, va_up_ne, jI_shr1, jI_shr4, jI_shr0, jI_and1, jI_and15, jF_at, tn, b2_t, b2_f, cmp_ge, cmp_gt, cmp_le, cmp_lt, cmp_eq, jL_lit, jL_lt, jL_le, jL_eq]; omega
  have x3 : ¬ ((60 : Int32) < jI a) := by
    clear i5 i5'
    simp (disch := omega) only [jI_lit, jI_neg, jI_add, jI_sub, jI_mul, jI_lt, jI_le, jI_eq, va_up_self, va_up_ne, jI_shr1, jI_shr4, jI_shr0, jI_and1, jI_and15, jF_at, tn, b2_t, b2_f, cmp_ge, cmp_gt, cmp_le, cmp_lt, cmp_eq, jL_lit, jL_lt, jL_le, jL_eq]; omega
  refine ⟨I', ?_, RC_dsk h (fun y hy => e3 y (by omega) (by omega)) (fun i hd => ?_) id⟩
  · unfold fX12_note
    rw [o_gd _ kb, o_gR kb, o_ob, r10, e_noted kd i5, o_ob, if_neg x1, if_neg x2, if_neg x3, e_isPl (by omega) (by omega), if_pos ⟨p1, p2⟩, o_ob, if_neg (by decide), e_isBt (by omega) (by omega), if_pos ⟨v1, v2⟩, o_ob, if_neg (by decide), o_ob, e1, o_ob, o_gR kb, o_ob, r10, e_noted kd i5', o_ob]
  · obtain ⟨o', g, d0, hr, hI2, dk, -, rf'⟩ := hd
    refine ⟨o', g, d0, hr, by rw [e3 _ (by omega) (by omega)]; exact hI2, Dk_I dk (e4 2 (by omega)) (e4 3 (by omega)) (fun y _ q => e3 y (fun c => q (by unfold bd; omega)) (fun c => q (by unfold bd; omega))), e2, ?_⟩
    unfold Rfs at rf' ⊢; rw [e3 _ (by omega) (by omega)]; exact rf'
theorem y_Note0 {a p v : Int} (h : RC K I R N X b many P r k A m nt cr n t fp im pc pu) (a1 : -2147483648 ≤ a) (a2 : a < 2147483648) (p1 : -2147483648 ≤ p) (p2 : p < 2147483648) (v1 : -2147483648 ≤ v) (v2 : v < 2147483648) (hn : ¬ (m < 8 ∧ 0 ≤ a ∧ a ≤ 60 ∧ 0 ≤ p ∧ p < 256 ∧ 0 ≤ v ∧ v < 256)) :
    ∃ I', fX12_note b (jI a) (jI p) (jI v) (K, I, R, L, N, w) = some (jI (-1), (K, I', R, L, N, w)) ∧ RC K I' R N X b many P r k A m nt (va_up cr 2 (cr 2 + 1)) n t fp im pc pu := by
  obtain ⟨kb, r10, kd, rd, -⟩ := RC_now h
  obtain ⟨o, na, rf, dn, -, ena, -, -⟩ := RC_d h
  obtain ⟨I', e1, e2⟩ := y_refuse (L := L) (w := w) (wh := 2) h (by omega)
  have i5 := dn.2.2.2.2.1
  have m8 := dn.2.2.2.2.2.2.1
  have er : fX12_note_36 b (K, I, R, L, N, w) = some (jI (-1), (K, I', R, L, N, w)) := by
    unfold fX12_note_36
    rw [o_gR kb, o_ob, r10, show (2 : Int32) = jI ((2 : Nat) : Int) from rfl, e1, o_ob]
    rfl
  refine ⟨I', ?_, e2⟩
  clear dn e1 e2
  unfold fX12_note
  rw [o_gd _ kb, o_gR kb, o_ob, r10, e_noted kd i5, o_ob]
  clear i5
  by_cases x1 : (8 : Int32) ≤ jI (m : Int)
  · rw [if_pos x1, er]
  rw [if_neg x1]
  have x1' : m < 8 := by
    rw [show (8 : Int32) = jI 8 from rfl, jI_le (by omega) (by omega) (by omega) (by omega)] at x1; omega
  by_cases x2 : jI a < 0
  · rw [if_pos x2, er]
  rw [if_neg x2]
  have x2' : 0 ≤ a := by
    rw [show (0 : Int32) = jI 0 from rfl, jI_lt (by omega) (by omega) (by omega) (by omega)] at x2; omega
  by_cases x3 : (60 : Int32) < jI a
  · rw [if_pos x3, er]
  rw [if_neg x3, e_isPl p1 p2, o_ob]
  have x3' : a ≤ 60 := by
    rw [show (60 : Int32) = jI 60 from rfl, jI_lt (by omega) (by omega) (by omega) (by omega)] at x3; omega
  by_cases x4 : 0 ≤ p ∧ p < 256
  rotate_left
  · rw [if_neg x4, if_pos (by decide), er]
  rw [if_pos x4, if_neg (by decide), e_isBt v1 v2, o_ob]
  by_cases x5 : 0 ≤ v ∧ v < 256
  · exact absurd ⟨x1', x2', x3', x4.1, x4.2, x5.1, x5.2⟩ hn
  · rw [if_neg x5, if_pos (by decide), er]
end FCJ
