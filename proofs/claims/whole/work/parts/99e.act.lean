section RAG
variable {c : MC} {m : Nat} {f r : Nat → Int} {s t : SI2} {many k mm n : Nat} {P : PG} {A : Nat → Nat → Int} {nt cr tp : Nat → Int} {fp : Int} {im : Option DS}
theorem z_Image (h : RF c m f r s many P k A mm nt cr n tp fp im) : ∃ f' s' t', fX13_image m (MS c m f r s t) = some (MS c m f' r s' t') ∧ f' 2 = 0 ∧ RF c m f' r s' many P k A mm nt cr n tp fp (some (r, (k, A), (mm, nt), cr)) := by
  have hm := h.1
  obtain ⟨h1, ⟨q1, q2, q3, q4⟩, ok, zt, ⟨a1, a2, a3⟩, ⟨b1, b2', b3⟩, h7, ⟨d1, d2, d3⟩, h25, ⟨i1, i2⟩⟩ := h
  obtain ⟨g, hg⟩ : ∃ g, g = va_up (va_up f 2 0) 67 1 := ⟨_, rfl⟩
  have g58 : g 58 = (k : Int) := by (rw [hg]; (try rw [va_up_ne _ _ (by omega)]); (try rw [va_up_ne _ _ (by omega)])); exact a1
  obtain ⟨g', hg'⟩ : ∃ g', g' = va_up g 68 (k : Int) := ⟨_, rfl⟩
  have g59 : g' 59 = (mm : Int) := by (rw [hg', hg]; (try rw [va_up_ne _ _ (by omega)]); (try rw [va_up_ne _ _ (by omega)]); (try rw [va_up_ne _ _ (by omega)])); exact b1
  obtain ⟨F, hF⟩ : ∃ F, F = va_up g' 69 (mm : Int) := ⟨_, rfl⟩
  have gn : ∀ j, j ≠ 2 → j ≠ 67 → j ≠ 68 → j ≠ 69 → F j = f j := fun j a b d e => by (rw [hF]; (try rw [va_up_ne _ _ e]); rw [hg']; (try rw [va_up_ne _ _ d]); rw [hg]; (try rw [va_up_ne _ _ b]); (try rw [va_up_ne _ _ a]))
  have F2 : F 2 = 0 := by rw [hF, hg', hg]; simp (disch := omega) only [va_up_ne, va_up_self]
  have F67 : F 67 = 1 := by rw [hF, hg', hg]; simp (disch := omega) only [va_up_ne, va_up_self]
  have F68 : F 68 = (k : Int) := by rw [hF, hg']; simp (disch := omega) only [va_up_ne, va_up_self]
  have F69 : F 69 = (mm : Int) := by rw [hF]; simp (disch := omega) only [va_up_self]
  obtain ⟨s1, e1⟩ : ∃ x : SI2, x = va_up s 31 (fun x => if x < 414 then r x else s 31 x) := ⟨_, rfl⟩
  obtain ⟨s2, e2⟩ : ∃ x : SI2, x = va_up s1 32 (fun x => if x < mN 32 then s1 25 x else s1 32 x) := ⟨_, rfl⟩
  obtain ⟨s3, e3⟩ : ∃ x : SI2, x = va_up s2 33 (fun x => if x < mN 33 then s2 28 x else s2 33 x) := ⟨_, rfl⟩
  obtain ⟨s4, e4⟩ : ∃ x : SI2, x = va_up s3 34 (fun x => if x < mN 34 then s3 29 x else s3 34 x) := ⟨_, rfl⟩
  obtain ⟨s5, e5⟩ : ∃ x : SI2, x = va_up s4 35 (fun x => if x < mN 35 then s4 30 x else s4 35 x) := ⟨_, rfl⟩
  obtain ⟨s6, e6⟩ : ∃ x : SI2, x = va_up s5 36 (fun x => if x < mN 36 then s5 4 x else s5 36 x) := ⟨_, rfl⟩
  have en1 : ∀ j, j ≠ 31 → s1 j = s j := fun j h => by rw [e1]; exact va_up_ne _ _ h
  have en2 : ∀ j, j ≠ 32 → s2 j = s1 j := fun j h => by rw [e2]; exact va_up_ne _ _ h
  have en3 : ∀ j, j ≠ 33 → s3 j = s2 j := fun j h => by rw [e3]; exact va_up_ne _ _ h
  have en4 : ∀ j, j ≠ 34 → s4 j = s3 j := fun j h => by rw [e4]; exact va_up_ne _ _ h
  have en5 : ∀ j, j ≠ 35 → s5 j = s4 j := fun j h => by rw [e5]; exact va_up_ne _ _ h
  have en6 : ∀ j, j ≠ 36 → s6 j = s5 j := fun j h => by rw [e6]; exact va_up_ne _ _ h
  have en : ∀ j, j < 31 → s6 j = s j := fun j h => by rw [en6 j (by omega), en5 j (by omega), en4 j (by omega), en3 j (by omega), en2 j (by omega), en1 j (by omega)]
  have x31 : ∀ j, j < 414 → s6 31 j = r j := fun j h => by (rw [en6 31 (by omega), en5 31 (by omega), en4 31 (by omega), en3 31 (by omega), en2 31 (by omega)]; (try rw [e1]); (try rw [va_up_self])); exact if_pos h
  have x32 : ∀ j, j < 16560 → s6 32 j = s 25 j := fun j h => by (rw [en6 32 (by omega), en5 32 (by omega), en4 32 (by omega), en3 32 (by omega), e2]; (try rw [va_up_self]); rw [en1 25 (by omega)]); exact if_pos h
  have x33 : ∀ j, j < 8 → s6 33 j = s 28 j := fun j h => by (rw [en6 33 (by omega), en5 33 (by omega), en4 33 (by omega)]; (try rw [e3]); (try rw [va_up_self]); rw [en2 28 (by omega), en1 28 (by omega)]); exact if_pos h
  have x34 : ∀ j, j < 8 → s6 34 j = s 29 j := fun j h => by (rw [en6 34 (by omega), en5 34 (by omega)]; (try rw [e4]); (try rw [va_up_self]); rw [en3 29 (by omega), en2 29 (by omega), en1 29 (by omega)]); exact if_pos h
  have x35 : ∀ j, j < 8 → s6 35 j = s 30 j := fun j h => by (rw [en6 35 (by omega)]; (try rw [e5]); (try rw [va_up_self]); rw [en4 30 (by omega), en3 30 (by omega), en2 30 (by omega), en1 30 (by omega)]); exact if_pos h
  have x36 : ∀ j, j < 3 → s6 36 j = s 4 j := fun j h => by ((try rw [e6]); (try rw [va_up_self]); rw [en5 4 (by omega), en4 4 (by omega), en3 4 (by omega), en2 4 (by omega), en1 4 (by omega)]); exact if_pos h
  unfold fX13_image
  (rw [s_gd _ hm]; (try rw [show (0 : Int32) = jI 0 from rfl]); rw [s_pI hm, o_ob]; (try rw [show (1 : Int32) = jI 1 from rfl]); rw [s_pZ1 hm, o_ob]; (try rw [← hg]); (try rw [s_gI hm]); rw [o_ob]; (try rw [g58]); rw [s_pI hm, o_ob, ← hg']; (try rw [s_gI hm]); rw [o_ob]; (try rw [g59]); rw [s_pI hm, o_ob]; (try rw [← hF]); (try rw [s_R70 hm]); rw [o_ob]; (try rw [s_R3 hm]); rw [o_ob, s_cpF hm (by omega) (by omega) rfl rfl (by omega), o_ob, ← e1]; (try rw [s_R71 hm]); rw [o_ob]; (try rw [s_R60 hm]); rw [o_ob, s_cp (a := 32) (b := 25) hm (by decide) (by omega) (by omega) (by omega) rfl rfl rfl (by omega) (by omega) (by omega), o_ob, ← e2]; (try rw [s_R72 hm]); rw [o_ob]; (try rw [s_R63 hm]); rw [o_ob, s_cp (a := 33) (b := 28) hm (by decide) (by omega) (by omega) (by omega) rfl rfl rfl (by omega) (by omega) (by omega), o_ob, ← e3]; (try rw [s_R73 hm]); rw [o_ob]; (try rw [s_R64 hm]); rw [o_ob, s_cp (a := 34) (b := 29) hm (by decide) (by omega) (by omega) (by omega) rfl rfl rfl (by omega) (by omega) (by omega), o_ob, ← e4]; (try rw [s_R74 hm]); rw [o_ob]; (try rw [s_R65 hm]); rw [o_ob, s_cp (a := 35) (b := 30) hm (by decide) (by omega) (by omega) (by omega) rfl rfl rfl (by omega) (by omega) (by omega), o_ob, ← e5]; (try rw [s_R75 hm]); rw [o_ob]; (try rw [s_R4 hm]); rw [o_ob, s_cp (a := 36) (b := 4) hm (by decide) (by omega) (by omega) (by omega) rfl rfl rfl (by omega) (by omega) (by omega), o_ob, ← e6])
  refine ⟨F, s6, t, rfl, F2, h1, ⟨(gn 13 (by omega) (by omega) (by omega) (by omega)).trans q1, q2, fun k hk => ?_, fun j hj => by rw [en 12 (by omega)]; exact q4 j hj⟩, ok, zt, ⟨(gn 58 (by omega) (by omega) (by omega) (by omega)).trans a1, a2, fun i hi => by rw [en 25 (by omega)]; exact a3 i hi⟩, ⟨(gn 59 (by omega) (by omega) (by omega) (by omega)).trans b1, b2', fun i hi => ?_⟩, fun j hj => by rw [en 4 (by omega)]; exact h7 j hj, ⟨(gn 16 (by omega) (by omega) (by omega) (by omega)).trans d1, d2, fun j hj => by rw [en 13 (by omega)]; exact d3 j hj⟩, (gn 25 (by omega) (by omega) (by omega) (by omega)).trans h25, ⟨by rw [F67, if_neg (by simp)], fun r' k' A' m' nt' cr' q => ?_⟩⟩
  · rw [en 5 (by omega), en 6 (by omega), en 7 (by omega), en 8 (by omega), en 9 (by omega), en 10 (by omega), en 11 (by omega)]
    exact q3 k hk
  · rw [en 28 (by omega), en 29 (by omega), en 30 (by omega)]
    exact b3 i hi
  · obtain ⟨rfl, ⟨rfl, rfl⟩, ⟨rfl, rfl⟩, rfl⟩ : r = r' ∧ (k = k' ∧ A = A') ∧ (mm = m' ∧ nt = nt') ∧ cr = cr' := by
      have q := Option.some.inj q
      simp only [Prod.mk.injEq] at q
      exact q
    have m8 := b2'.1
    refine ⟨F68, F69, x31, ok, zt, a2, fun i hi => ⟨fun j hj => by rw [x32 _ (by omega)]; exact (a3 i hi).1 j hj, (a3 i hi).2⟩, b2', fun i hi => ?_, fun j hj => by rw [x36 j hj]; exact h7 j hj⟩
    rw [x33 i (by omega), x34 i (by omega), x35 i (by omega)]
    exact b3 i hi
theorem z_Restore0 (h : RF c m f r s many P k A mm nt cr n tp fp im) (hi : im = none) : RO c m (fX13_restore m (MS c m f r s t)) (jI 0) r many P k A mm nt cr n tp fp im := by
  have hm := h.1
  have i1 := h.2.2.2.2.2.2.2.2.2.1
  rw [if_pos hi] at i1
  unfold fX13_restore
  (rw [s_gd _ hm]; (try rw [show (0 : Int32) = jI 0 from rfl]); rw [s_pI hm, o_ob]; (try rw [s_gI hm]); rw [o_ob]; (try rw [va_up_ne _ _ (show (67 : Nat) ≠ 2 by omega)]); (try rw [i1]); rw [if_pos (by rfl)])
  exact ⟨_, s, t, rfl, va_up_self _ _ _, RF_2 h⟩
theorem z_Restore1 {r2 nt2 cr2 : Nat → Int} {k2 m2 : Nat} {A2 : Nat → Nat → Int} (h : RF c m f r s many P k A mm nt cr n tp fp im) (hi : im = some (r2, (k2, A2), (m2, nt2), cr2)) : RO c m (fX13_restore m (MS c m f r s t)) (jI 1) r2 many P k2 A2 m2 nt2 cr2 n tp fp im := by
  have hm := h.1
  obtain ⟨h1, ⟨q1, q2, q3, q4⟩, ok, zt, ⟨a1, a2, a3⟩, ⟨b1, b2', b3⟩, h7, ⟨d1, d2, d3⟩, h25, ⟨i1, i2⟩⟩ := h
  obtain ⟨y1, y2, y3, y4, y5, y6, y7, y8, y9, y10⟩ := i2 r2 k2 A2 m2 nt2 cr2 hi
  rw [if_neg (by rw [hi]; simp)] at i1
  obtain ⟨g, hg⟩ : ∃ g, g = va_up f 2 0 := ⟨_, rfl⟩
  have g67 : g 67 = 1 := by rw [hg, va_up_ne _ _ (by omega)]; exact i1
  have g68 : g 68 = (k2 : Int) := by rw [hg, va_up_ne _ _ (by omega)]; exact y1
  obtain ⟨g', hg'⟩ : ∃ g', g' = va_up g 58 (k2 : Int) := ⟨_, rfl⟩
  have g69 : g' 69 = (m2 : Int) := by (rw [hg', hg]; (try rw [va_up_ne _ _ (by omega)]); (try rw [va_up_ne _ _ (by omega)])); exact y2
  obtain ⟨F, hF⟩ : ∃ F, F = va_up g' 59 (m2 : Int) := ⟨_, rfl⟩
  have gn : ∀ j, j ≠ 2 → j ≠ 58 → j ≠ 59 → F j = f j := fun j a b d => by (rw [hF]; (try rw [va_up_ne _ _ d]); rw [hg']; (try rw [va_up_ne _ _ b]); rw [hg]; (try rw [va_up_ne _ _ a]))
  have F2 : F 2 = 0 := by rw [hF, hg', hg]; simp (disch := omega) only [va_up_ne, va_up_self]
  have F58 : F 58 = (k2 : Int) := by rw [hF, hg']; simp (disch := omega) only [va_up_ne, va_up_self]
  have F59 : F 59 = (m2 : Int) := by rw [hF]; simp (disch := omega) only [va_up_self]
  have er : (fun x => if x < 414 then s 31 x else r x) = r2 := by
    funext x
    by_cases q : x < 414
    · rw [if_pos q]; exact y3 x q
    · rw [if_neg q, zt x (by omega), y5 x (by omega)]
  obtain ⟨s2, e2⟩ : ∃ x : SI2, x = va_up s 25 (fun x => if x < mN 25 then s 32 x else s 25 x) := ⟨_, rfl⟩
  obtain ⟨s3, e3⟩ : ∃ x : SI2, x = va_up s2 28 (fun x => if x < mN 28 then s2 33 x else s2 28 x) := ⟨_, rfl⟩
  obtain ⟨s4, e4⟩ : ∃ x : SI2, x = va_up s3 29 (fun x => if x < mN 29 then s3 34 x else s3 29 x) := ⟨_, rfl⟩
  obtain ⟨s5, e5⟩ : ∃ x : SI2, x = va_up s4 30 (fun x => if x < mN 30 then s4 35 x else s4 30 x) := ⟨_, rfl⟩
  obtain ⟨s6, e6⟩ : ∃ x : SI2, x = va_up s5 4 (fun x => if x < mN 4 then s5 36 x else s5 4 x) := ⟨_, rfl⟩
  have en2 : ∀ j, j ≠ 25 → s2 j = s j := fun j h => by rw [e2]; exact va_up_ne _ _ h
  have en3 : ∀ j, j ≠ 28 → s3 j = s2 j := fun j h => by rw [e3]; exact va_up_ne _ _ h
  have en4 : ∀ j, j ≠ 29 → s4 j = s3 j := fun j h => by rw [e4]; exact va_up_ne _ _ h
  have en5 : ∀ j, j ≠ 30 → s5 j = s4 j := fun j h => by rw [e5]; exact va_up_ne _ _ h
  have en6 : ∀ j, j ≠ 4 → s6 j = s5 j := fun j h => by rw [e6]; exact va_up_ne _ _ h
  have en : ∀ j, j ≠ 4 → j ≠ 25 → j ≠ 28 → j ≠ 29 → j ≠ 30 → s6 j = s j := fun j a b d e h => by rw [en6 j a, en5 j h, en4 j e, en3 j d, en2 j b]
  have x25 : ∀ j, j < 16560 → s6 25 j = s 32 j := fun j h => by (rw [en6 25 (by omega), en5 25 (by omega), en4 25 (by omega), en3 25 (by omega), e2]; (try rw [va_up_self])); exact if_pos h
  have x28 : ∀ j, j < 8 → s6 28 j = s 33 j := fun j h => by (rw [en6 28 (by omega), en5 28 (by omega), en4 28 (by omega)]; (try rw [e3]); (try rw [va_up_self]); rw [en2 33 (by omega)]); exact if_pos h
  have x29 : ∀ j, j < 8 → s6 29 j = s 34 j := fun j h => by (rw [en6 29 (by omega), en5 29 (by omega)]; (try rw [e4]); (try rw [va_up_self]); rw [en3 34 (by omega), en2 34 (by omega)]); exact if_pos h
  have x30 : ∀ j, j < 8 → s6 30 j = s 35 j := fun j h => by (rw [en6 30 (by omega)]; (try rw [e5]); (try rw [va_up_self]); rw [en4 35 (by omega), en3 35 (by omega), en2 35 (by omega)]); exact if_pos h
  have x4 : ∀ j, j < 3 → s6 4 j = s 36 j := fun j h => by ((try rw [e6]); (try rw [va_up_self]); rw [en5 36 (by omega), en4 36 (by omega), en3 36 (by omega), en2 36 (by omega)]); exact if_pos h
  unfold fX13_restore
  (rw [s_gd _ hm]; (try rw [show (0 : Int32) = jI 0 from rfl]); rw [s_pI hm, o_ob]; (try rw [← hg]); (try rw [s_gI hm]); rw [o_ob]; (try rw [g67]); rw [if_neg (by first | ((simp (disch := omega) only [jI_lit, jI_neg, jI_add, jI_sub, jI_mul, jI_lt, jI_le, jI_eq, jL_lit, jL_lt, jL_le, jL_eq]) <;> omega) | omega)]; (try rw [s_gI hm]); rw [o_ob]; (try rw [g68]); rw [s_pI hm, o_ob, ← hg']; (try rw [s_gI hm]); rw [o_ob]; (try rw [g69]); rw [s_pI hm, o_ob]; (try rw [← hF]); (try rw [s_R3 hm]); rw [o_ob]; (try rw [s_R70 hm]); rw [o_ob, s_cpT hm (by omega) (by omega) rfl rfl (by omega), o_ob, er]; (try rw [s_R60 hm]); rw [o_ob]; (try rw [s_R71 hm]); rw [o_ob, s_cp (a := 25) (b := 32) hm (by decide) (by omega) (by omega) (by omega) rfl rfl rfl (by omega) (by omega) (by omega), o_ob, ← e2]; (try rw [s_R63 hm]); rw [o_ob]; (try rw [s_R72 hm]); rw [o_ob, s_cp (a := 28) (b := 33) hm (by decide) (by omega) (by omega) (by omega) rfl rfl rfl (by omega) (by omega) (by omega), o_ob, ← e3]; (try rw [s_R64 hm]); rw [o_ob]; (try rw [s_R73 hm]); rw [o_ob, s_cp (a := 29) (b := 34) hm (by decide) (by omega) (by omega) (by omega) rfl rfl rfl (by omega) (by omega) (by omega), o_ob, ← e4]; (try rw [s_R65 hm]); rw [o_ob]; (try rw [s_R74 hm]); rw [o_ob, s_cp (a := 30) (b := 35) hm (by decide) (by omega) (by omega) (by omega) rfl rfl rfl (by omega) (by omega) (by omega), o_ob, ← e5]; (try rw [s_R4 hm]); rw [o_ob]; (try rw [s_R75 hm]); rw [o_ob, s_cp (a := 4) (b := 36) hm (by decide) (by omega) (by omega) (by omega) rfl rfl rfl (by omega) (by omega) (by omega), o_ob, ← e6])
  have m8 := y8.1
  refine ⟨F, s6, t, rfl, F2, h1, ⟨(gn 13 (by omega) (by omega) (by omega)).trans q1, q2, fun k hk => ?_, fun j hj => by rw [en 12 (by omega) (by omega) (by omega) (by omega) (by omega)]; exact q4 j hj⟩, y4, y5, ⟨F58, y6, fun i hi => ⟨fun j hj => by rw [x25 _ (by omega)]; exact (y7 i hi).1 j hj, (y7 i hi).2⟩⟩, ⟨F59, y8, fun i hi => ?_⟩, fun j hj => by rw [x4 j hj]; exact y10 j hj, ⟨(gn 16 (by omega) (by omega) (by omega)).trans d1, d2, fun j hj => by rw [en 13 (by omega) (by omega) (by omega) (by omega) (by omega)]; exact d3 j hj⟩, (gn 25 (by omega) (by omega) (by omega)).trans h25, ⟨by rw [if_neg (by rw [hi]; simp)]; exact (gn 67 (by omega) (by omega) (by omega)).trans i1, fun r' k' A' m' nt' cr' q => ?_⟩⟩
  · rw [en 5 (by omega) (by omega) (by omega) (by omega) (by omega), en 6 (by omega) (by omega) (by omega) (by omega) (by omega), en 7 (by omega) (by omega) (by omega) (by omega) (by omega), en 8 (by omega) (by omega) (by omega) (by omega) (by omega), en 9 (by omega) (by omega) (by omega) (by omega) (by omega), en 10 (by omega) (by omega) (by omega) (by omega) (by omega), en 11 (by omega) (by omega) (by omega) (by omega) (by omega)]
    exact q3 k hk
  · rw [x28 i (by omega), x29 i (by omega), x30 i (by omega)]
    exact y9 i hi
  · have x := i2 r' k' A' m' nt' cr' q
    rw [gn 68 (by omega) (by omega) (by omega), gn 69 (by omega) (by omega) (by omega), en 31 (by omega) (by omega) (by omega) (by omega) (by omega), en 32 (by omega) (by omega) (by omega) (by omega) (by omega), en 33 (by omega) (by omega) (by omega) (by omega) (by omega), en 34 (by omega) (by omega) (by omega) (by omega) (by omega), en 35 (by omega) (by omega) (by omega) (by omega) (by omega), en 36 (by omega) (by omega) (by omega) (by omega) (by omega)]
    exact x
end RAG
