section ZTB
variable {b mm ao X pc pu : Nat} {h g : Hp}
theorem cnQ_l {many k m n k' : Nat} {r cr : Nat → Int} {c : Int} (h : cnQ many r k m cr n c = .inl k') : k' = 1 := by
  unfold cnQ at h
  by_cases q0 : c = 0
  · rw [if_pos q0] at h; exact nomatch h
  rw [if_neg q0] at h
  by_cases q1 : c = 1
  · rw [if_pos q1] at h; exact nomatch h
  rw [if_neg q1] at h
  by_cases q2 : c = 2
  · rw [if_pos q2] at h; exact nomatch h
  rw [if_neg q2] at h
  by_cases q3 : c = 3
  · rw [if_pos q3] at h; exact nomatch h
  rw [if_neg q3] at h
  by_cases q4 : c = 4
  · rw [if_pos q4] at h; exact nomatch h
  rw [if_neg q4] at h
  by_cases q5 : c = 5
  · rw [if_pos q5] at h; exact nomatch h
  rw [if_neg q5] at h
  by_cases q6 : c = 6
  · rw [if_pos q6] at h; exact nomatch h
  rw [if_neg q6] at h
  by_cases q7 : c = 7
  · rw [if_pos q7] at h; exact nomatch h
  rw [if_neg q7] at h
  by_cases q8 : c = 8
  · rw [if_pos q8] at h; exact nomatch h
  rw [if_neg q8] at h
  by_cases q9 : c = 9
  · rw [if_pos q9] at h; exact nomatch h
  rw [if_neg q9] at h
  by_cases q10 : c = 10
  · rw [if_pos q10] at h; exact nomatch h
  rw [if_neg q10] at h
  by_cases q11 : c = 11
  · rw [if_pos q11] at h; exact nomatch h
  rw [if_neg q11] at h
  by_cases q12 : c = 12
  · rw [if_pos q12] at h; exact nomatch h
  rw [if_neg q12] at h
  by_cases q13 : c = 13
  · rw [if_pos q13] at h; exact nomatch h
  rw [if_neg q13] at h
  by_cases q14 : c = 14
  · rw [if_pos q14] at h; exact nomatch h
  rw [if_neg q14] at h
  exact (Sum.inl.inj h).symm
theorem hc_count {z0 : Int32} (iv : IV b mm ao X pc pu h g) : HR b mm ao X pc pu (fL_count b z0 ao h) (fX13_count mm z0 g) := by
  obtain ⟨c, f, r, s, t, many, P, k, A, m, nt, cr, n, tp, fp, im, rfl, ho, hn, hx, rc, rf⟩ := iv
  obtain ⟨K, I, R, L, N, w⟩ := h
  have rc : RC K I R N X b many P r k A m nt cr n tp fp im pc pu := rc
  obtain ⟨a0, rfl, b0, c0⟩ := i32 z0
  have e := y_Cnt (L := L) (w := w) rc b0 c0
  have hr := z_Cnt (t := t) rf b0 c0
  refine hr_of (K := K) (I := I) (R := R) (L := L) (N := N) (w := w) ho hn hx rc rf hr (fun k' hk => ?_) (fun x hx' => ?_)
  · have k1 : k' = 1 := cnQ_l hk
    subst k1
    refine ⟨by decide, by decide, ?_⟩
    unfold fL_count
    rw [e, hk]
    rfl
  · unfold fL_count
    rw [e, hx']
theorem hc_at {z0 : Int32} (iv : IV b mm ao X pc pu h g) : HR b mm ao X pc pu (fL_at b z0 ao h) (fX13_at mm z0 g) := by
  obtain ⟨c, f, r, s, t, many, P, k, A, m, nt, cr, n, tp, fp, im, rfl, ho, hn, hx, rc, rf⟩ := iv
  obtain ⟨K, I, R, L, N, w⟩ := h
  have rc : RC K I R N X b many P r k A m nt cr n tp fp im pc pu := rc
  obtain ⟨a0, rfl, b0, c0⟩ := i32 z0
  have e := y_At (L := L) (w := w) rc b0 c0
  have hr := z_At (t := t) rf b0 c0
  refine hr_of (K := K) (I := I) (R := R) (L := L) (N := N) (w := w) ho hn hx rc rf hr (fun k' hk => ?_) (fun x hx' => ?_)
  · have k1 : k' = 1 := by
      have hk2 := hk
      (repeat' split at hk2) <;> first | exact (Sum.inl.inj hk2).symm | exact nomatch hk2 | (revert hk2; simp)
    subst k1
    refine ⟨by decide, by decide, ?_⟩
    unfold fL_at
    rw [e, hk]
    rfl
  · unfold fL_at
    rw [e, hx']
theorem hc_register {z0 : Int32} (iv : IV b mm ao X pc pu h g) : HR b mm ao X pc pu (fL_register b z0 ao h) (fX13_register mm z0 g) := by
  obtain ⟨c, f, r, s, t, many, P, k, A, m, nt, cr, n, tp, fp, im, rfl, ho, hn, hx, rc, rf⟩ := iv
  obtain ⟨K, I, R, L, N, w⟩ := h
  have rc : RC K I R N X b many P r k A m nt cr n tp fp im pc pu := rc
  obtain ⟨a0, rfl, b0, c0⟩ := i32 z0
  have e := y_Rg (L := L) (w := w) rc b0 c0
  have hr := z_Rg (t := t) rf b0 c0
  refine hr_of (K := K) (I := I) (R := R) (L := L) (N := N) (w := w) ho hn hx rc rf hr (fun k' hk => ?_) (fun x hx' => ?_)
  · have k1 : k' = 1 := by
      have hk2 := hk
      (repeat' split at hk2) <;> first | exact (Sum.inl.inj hk2).symm | exact nomatch hk2 | (revert hk2; simp)
    subst k1
    refine ⟨by decide, by decide, ?_⟩
    unfold fL_register
    rw [e, hk]
    rfl
  · unfold fL_register
    rw [e, hx']
theorem hc_guard {z0 : Int32} (iv : IV b mm ao X pc pu h g) : HR b mm ao X pc pu (fL_guard b z0 ao h) (fX13_guard mm z0 g) := by
  obtain ⟨c, f, r, s, t, many, P, k, A, m, nt, cr, n, tp, fp, im, rfl, ho, hn, hx, rc, rf⟩ := iv
  obtain ⟨K, I, R, L, N, w⟩ := h
  have rc : RC K I R N X b many P r k A m nt cr n tp fp im pc pu := rc
  obtain ⟨a0, rfl, b0, c0⟩ := i32 z0
  have e := y_Gu (L := L) (w := w) rc b0 c0
  have hr := z_Gu (t := t) rf b0 c0
  refine hr_of (K := K) (I := I) (R := R) (L := L) (N := N) (w := w) ho hn hx rc rf hr (fun k' hk => ?_) (fun x hx' => ?_)
  · have k1 : k' = 1 := by
      have hk2 := hk
      (repeat' split at hk2) <;> first | exact (Sum.inl.inj hk2).symm | exact nomatch hk2 | (revert hk2; simp)
    subst k1
    refine ⟨by decide, by decide, ?_⟩
    unfold fL_guard
    rw [e, hk]
    rfl
  · unfold fL_guard
    rw [e, hx']
theorem hc_done {z0 : Int32} (iv : IV b mm ao X pc pu h g) : HR b mm ao X pc pu (fL_done b z0 ao h) (fX13_done mm z0 g) := by
  obtain ⟨c, f, r, s, t, many, P, k, A, m, nt, cr, n, tp, fp, im, rfl, ho, hn, hx, rc, rf⟩ := iv
  obtain ⟨K, I, R, L, N, w⟩ := h
  have rc : RC K I R N X b many P r k A m nt cr n tp fp im pc pu := rc
  obtain ⟨a0, rfl, b0, c0⟩ := i32 z0
  have e := y_Do (L := L) (w := w) rc b0 c0
  have hr := z_Do (t := t) rf b0 c0
  refine hr_of (K := K) (I := I) (R := R) (L := L) (N := N) (w := w) ho hn hx rc rf hr (fun k' hk => ?_) (fun x hx' => ?_)
  · have k1 : k' = 1 := by
      have hk2 := hk
      (repeat' split at hk2) <;> first | exact (Sum.inl.inj hk2).symm | exact nomatch hk2 | (revert hk2; simp)
    subst k1
    refine ⟨by decide, by decide, ?_⟩
    unfold fL_done
    rw [e, hk]
    rfl
  · unfold fL_done
    rw [e, hx']
theorem hc_trace {z0 : Int32} (iv : IV b mm ao X pc pu h g) : HR b mm ao X pc pu (fL_trace b z0 ao h) (fX13_trace mm z0 g) := by
  obtain ⟨c, f, r, s, t, many, P, k, A, m, nt, cr, n, tp, fp, im, rfl, ho, hn, hx, rc, rf⟩ := iv
  obtain ⟨K, I, R, L, N, w⟩ := h
  have rc : RC K I R N X b many P r k A m nt cr n tp fp im pc pu := rc
  obtain ⟨a0, rfl, b0, c0⟩ := i32 z0
  have e := y_Tr (L := L) (w := w) rc b0 c0
  have hr := z_Tr (t := t) rf b0 c0
  refine hr_of (K := K) (I := I) (R := R) (L := L) (N := N) (w := w) ho hn hx rc rf hr (fun k' hk => ?_) (fun x hx' => ?_)
  · have k1 : k' = 1 := by
      have hk2 := hk
      (repeat' split at hk2) <;> first | exact (Sum.inl.inj hk2).symm | exact nomatch hk2 | (revert hk2; simp)
    subst k1
    refine ⟨by decide, by decide, ?_⟩
    unfold fL_trace
    rw [e, hk]
    rfl
  · unfold fL_trace
    rw [e, hx']
theorem hc_why {z0 : Int32} {z1 : Int32} (iv : IV b mm ao X pc pu h g) : HR b mm ao X pc pu (fL_why b z0 z1 ao h) (fX13_why mm z0 z1 g) := by
  obtain ⟨c, f, r, s, t, many, P, k, A, m, nt, cr, n, tp, fp, im, rfl, ho, hn, hx, rc, rf⟩ := iv
  obtain ⟨K, I, R, L, N, w⟩ := h
  have rc : RC K I R N X b many P r k A m nt cr n tp fp im pc pu := rc
  obtain ⟨a0, rfl, b0, c0⟩ := i32 z0
  obtain ⟨a1, rfl, b1, c1⟩ := i32 z1
  have e := y_Why (L := L) (w := w) rc b0 c0 b1 c1
  have hr := z_Why (t := t) rf b0 c0 b1 c1
  refine hr_of (K := K) (I := I) (R := R) (L := L) (N := N) (w := w) ho hn hx rc rf hr (fun k' hk => ?_) (fun x hx' => ?_)
  · have k1 : k' = 1 := by
      have hk2 := hk
      (repeat' split at hk2) <;> first | exact (Sum.inl.inj hk2).symm | exact nomatch hk2 | (revert hk2; simp)
    subst k1
    refine ⟨by decide, by decide, ?_⟩
    unfold fL_why
    rw [e, hk]
    rfl
  · unfold fL_why
    rw [e, hx']
theorem hc_flaws {z0 : Int32} {z1 : Int32} {z2 : Bool} {z3 : Int32} (iv : IV b mm ao X pc pu h g) : HR b mm ao X pc pu (fL_flaws b z0 z1 (jI (b2 z2)) z3 ao h) (fX13_flaws mm z0 z1 (jI (b2 z2)) z3 g) := by
  obtain ⟨c, f, r, s, t, many, P, k, A, m, nt, cr, n, tp, fp, im, rfl, ho, hn, hx, rc, rf⟩ := iv
  obtain ⟨K, I, R, L, N, w⟩ := h
  have rc : RC K I R N X b many P r k A m nt cr n tp fp im pc pu := rc
  obtain ⟨a0, rfl, b0, c0⟩ := i32 z0
  obtain ⟨a1, rfl, b1, c1⟩ := i32 z1
  obtain ⟨a3, rfl, b3, c3⟩ := i32 z3
  have e := y_Flaws (L := L) (w := w) (z := z2) rc b0 c0 b1 c1 b3 c3
  have hr := z_Flaws (t := t) (z := z2) rf b0 c0 b1 c1 b3 c3
  refine hr_of (K := K) (I := I) (R := R) (L := L) (N := N) (w := w) ho hn hx rc rf hr (fun k' hk => ?_) (fun x hx' => ?_)
  · have k1 : k' = 1 ∨ k' = 2 := by
      have hk2 := hk
      unfold flQ at hk2
      (repeat' split at hk2) <;> first | exact Or.inl (Sum.inl.inj hk2).symm | exact Or.inr (Sum.inl.inj hk2).symm | exact nomatch hk2 | (revert hk2; simp)
    rcases k1 with rfl | rfl
    all_goals (refine ⟨by decide, by decide, ?_⟩; unfold fL_flaws; rw [e, hk]; rfl)
  · unfold fL_flaws
    rw [e, hx']
theorem hc_number {z0 : Int32} {z1 : Int32} {z2 : Bool} (iv : IV b mm ao X pc pu h g) : HRL b mm ao X pc pu (fL_number b z0 z1 (jI (b2 z2)) ao h) (fX13_number mm z0 z1 (jI (b2 z2)) g) := by
  obtain ⟨c, f, r, s, t, many, P, k, A, m, nt, cr, n, tp, fp, im, rfl, ho, hn, hx, rc, rf⟩ := iv
  obtain ⟨K, I, R, L, N, w⟩ := h
  have rc : RC K I R N X b many P r k A m nt cr n tp fp im pc pu := rc
  obtain ⟨a0, rfl, b0, c0⟩ := i32 z0
  obtain ⟨a1, rfl, b1, c1⟩ := i32 z1
  obtain ⟨I', R', L', e, rc'⟩ := y_Number (L := L) (w := w) (z := z2) rc b0 c0 b1 c1
  have hr := z_Number (t := t) (z := z2) rf b0 c0 b1 c1
  refine hr_ofL (K := K) (I := I') (R := R') (L := L') (N := N) (w := w) ho hn hx rc' rf hr (fun k' hk => ?_) (fun x hx' => ?_)
  · have k1 : k' = 1 ∨ k' = 2 ∨ k' = 3 := by
      have hk2 := hk
      unfold numQ at hk2
      (repeat' split at hk2) <;> first | exact Or.inl (Sum.inl.inj hk2).symm | exact Or.inr (Or.inl (Sum.inl.inj hk2).symm) | exact Or.inr (Or.inr (Sum.inl.inj hk2).symm) | exact nomatch hk2 | (revert hk2; simp)
    rcases k1 with rfl | rfl | rfl
    all_goals (refine ⟨by decide, by decide, ?_⟩; unfold fL_number; rw [e, hk]; rfl)
  · unfold fL_number
    rw [e, hx']
theorem hc_need {z0 : Int32} {z1 : Int32} {z2 : Int32} {z3 : Int32} {z4 : Int32} (iv : IV b mm ao X pc pu h g) : HR b mm ao X pc pu (fL_need b z0 z1 z2 z3 z4 ao h) (fX13_need mm z0 z1 z2 z3 z4 g) := by
  obtain ⟨c, f, r, s, t, many, P, k, A, m, nt, cr, n, tp, fp, im, rfl, ho, hn, hx, rc, rf⟩ := iv
  obtain ⟨K, I, R, L, N, w⟩ := h
  have rc : RC K I R N X b many P r k A m nt cr n tp fp im pc pu := rc
  obtain ⟨a0, rfl, b0, c0⟩ := i32 z0
  obtain ⟨a1, rfl, b1, c1⟩ := i32 z1
  obtain ⟨a2, rfl, b2, c2⟩ := i32 z2
  obtain ⟨a3, rfl, b3, c3⟩ := i32 z3
  obtain ⟨a4, rfl, b4, c4⟩ := i32 z4
  obtain ⟨I', R', L', e, rc'⟩ := y_Need (L := L) (w := w) rc b0 c0 b1 c1 b2 c2 b3 c3 b4 c4
  have hr := z_Need (t := t) rf b0 c0 b1 c1 b2 c2 b3 c3 b4 c4
  refine hr_of (K := K) (I := I') (R := R') (L := L') (N := N) (w := w) ho hn hx rc' rf hr (fun k' hk => ?_) (fun x hx' => ?_)
  · have k1 : k' = 1 ∨ k' = 2 := by
      have hk2 := hk
      (repeat' split at hk2) <;> first | exact Or.inl (Sum.inl.inj hk2).symm | exact Or.inr (Sum.inl.inj hk2).symm | exact nomatch hk2 | (revert hk2; simp)
    rcases k1 with rfl | rfl
    all_goals (refine ⟨by decide, by decide, ?_⟩; unfold fL_need; rw [e, hk]; rfl)
  · unfold fL_need
    rw [e, hx']
theorem hc_rounds {z0 : Int32} {z1 : Int32} {z2 : Int32} (iv : IV b mm ao X pc pu h g) : HR b mm ao X pc pu (fL_rounds b z0 z1 z2 ao h) (fX13_rounds mm z0 z1 z2 g) := by
  obtain ⟨c, f, r, s, t, many, P, k, A, m, nt, cr, n, tp, fp, im, rfl, ho, hn, hx, rc, rf⟩ := iv
  obtain ⟨K, I, R, L, N, w⟩ := h
  have rc : RC K I R N X b many P r k A m nt cr n tp fp im pc pu := rc
  obtain ⟨a0, rfl, b0, c0⟩ := i32 z0
  obtain ⟨a1, rfl, b1, c1⟩ := i32 z1
  obtain ⟨a2, rfl, b2, c2⟩ := i32 z2
  obtain ⟨I', R', L', e, rc'⟩ := y_Rounds (L := L) (w := w) rc b0 c0 b1 c1 b2 c2
  have hr := z_Rounds (t := t) rf b0 c0 b1 c1 b2 c2
  refine hr_of (K := K) (I := I') (R := R') (L := L') (N := N) (w := w) ho hn hx rc' rf hr (fun k' hk => ?_) (fun x hx' => ?_)
  · have k1 : k' = 1 ∨ k' = 2 := by
      have hk2 := hk
      (repeat' split at hk2) <;> first | exact Or.inl (Sum.inl.inj hk2).symm | exact Or.inr (Sum.inl.inj hk2).symm | exact nomatch hk2 | (revert hk2; simp)
    rcases k1 with rfl | rfl
    all_goals (refine ⟨by decide, by decide, ?_⟩; unfold fL_rounds; rw [e, hk]; rfl)
  · unfold fL_rounds
    rw [e, hx']
theorem hc_unedited {z0 : Int32} {z1 : Int32} {z2 : Int32} {z3 : Int32} (iv : IV b mm ao X pc pu h g) : HRL b mm ao X pc pu (fL_unedited b z0 z1 z2 z3 ao h) (fX13_unedited mm z0 z1 z2 z3 g) := by
  obtain ⟨c, f, r, s, t, many, P, k, A, m, nt, cr, n, tp, fp, im, rfl, ho, hn, hx, rc, rf⟩ := iv
  obtain ⟨K, I, R, L, N, w⟩ := h
  have rc : RC K I R N X b many P r k A m nt cr n tp fp im pc pu := rc
  obtain ⟨a0, rfl, b0, c0⟩ := i32 z0
  obtain ⟨a1, rfl, b1, c1⟩ := i32 z1
  obtain ⟨a2, rfl, b2, c2⟩ := i32 z2
  obtain ⟨a3, rfl, b3, c3⟩ := i32 z3
  obtain ⟨I', R', L', e, rc'⟩ := y_Unedited (L := L) (w := w) rc b0 c0 b1 c1 b2 c2 b3 c3
  have hr := z_Unedited (t := t) rf b0 c0 b1 c1 b2 c2 b3 c3
  refine hr_ofL (K := K) (I := I') (R := R') (L := L') (N := N) (w := w) ho hn hx rc' rf hr (fun k' hk => ?_) (fun x hx' => ?_)
  · have k1 : k' = 1 ∨ k' = 2 := by
      have hk2 := hk
      unfold unQ at hk2
      (repeat' split at hk2) <;> first | exact Or.inl (Sum.inl.inj hk2).symm | exact Or.inr (Sum.inl.inj hk2).symm | exact nomatch hk2 | (revert hk2; simp)
    rcases k1 with rfl | rfl
    all_goals (refine ⟨by decide, by decide, ?_⟩; unfold fL_unedited; rw [e, hk]; rfl)
  · unfold fL_unedited
    rw [e, hx']
theorem hc_then {z0 : Int32} {z1 : Int32} (iv : IV b mm ao X pc pu h g) : HR b mm ao X pc pu (fL_then b z0 z1 ao h) (fX13_then mm z0 z1 g) := by
  obtain ⟨c, f, r, s, t, many, P, k, A, m, nt, cr, n, tp, fp, im, rfl, ho, hn, hx, rc, rf⟩ := iv
  obtain ⟨K, I, R, L, N, w⟩ := h
  have rc : RC K I R N X b many P r k A m nt cr n tp fp im pc pu := rc
  obtain ⟨a0, rfl, b0, c0⟩ := i32 z0
  obtain ⟨a1, rfl, b1, c1⟩ := i32 z1
  obtain ⟨I', R', L', e, rc'⟩ := y_Then (L := L) (w := w) rc b0 c0 b1 c1
  have hr := z_Then (t := t) rf b0 c0 b1 c1
  refine hr_of (K := K) (I := I') (R := R') (L := L') (N := N) (w := w) ho hn hx rc' rf hr (fun k' hk => ?_) (fun x hx' => ?_)
  · have k1 : k' = 1 ∨ k' = 2 := by
      have hk2 := hk
      (repeat' split at hk2) <;> first | exact Or.inl (Sum.inl.inj hk2).symm | exact Or.inr (Sum.inl.inj hk2).symm | exact nomatch hk2 | (revert hk2; simp)
    rcases k1 with rfl | rfl
    all_goals (refine ⟨by decide, by decide, ?_⟩; unfold fL_then; rw [e, hk]; rfl)
  · unfold fL_then
    rw [e, hx']
theorem hc_holds {z0 : Int32} {z1 : Int32} (iv : IV b mm ao X pc pu h g) : HR b mm ao X pc pu (fL_holds b z0 z1 ao h) (fX13_holds mm z0 z1 g) := by
  obtain ⟨c, f, r, s, t, many, P, k, A, m, nt, cr, n, tp, fp, im, rfl, ho, hn, hx, rc, rf⟩ := iv
  obtain ⟨K, I, R, L, N, w⟩ := h
  have rc : RC K I R N X b many P r k A m nt cr n tp fp im pc pu := rc
  obtain ⟨a0, rfl, b0, c0⟩ := i32 z0
  obtain ⟨a1, rfl, b1, c1⟩ := i32 z1
  obtain ⟨I', R', L', e, rc'⟩ := y_Holds (L := L) (w := w) rc b0 c0 b1 c1
  have hr := z_Holds (t := t) rf b0 c0 b1 c1
  refine hr_of (K := K) (I := I') (R := R') (L := L') (N := N) (w := w) ho hn hx rc' rf hr (fun k' hk => ?_) (fun x hx' => ?_)
  · have k1 : k' = 1 ∨ k' = 2 := by
      have hk2 := hk
      (repeat' split at hk2) <;> first | exact Or.inl (Sum.inl.inj hk2).symm | exact Or.inr (Sum.inl.inj hk2).symm | exact nomatch hk2 | (revert hk2; simp)
    rcases k1 with rfl | rfl
    all_goals (refine ⟨by decide, by decide, ?_⟩; unfold fL_holds; rw [e, hk]; rfl)
  · unfold fL_holds
    rw [e, hx']
theorem hc_where {z0 : Int32} {z1 : Int32} (iv : IV b mm ao X pc pu h g) : HR b mm ao X pc pu (fL_where b z0 z1 ao h) (fX13_where mm z0 z1 g) := by
  obtain ⟨c, f, r, s, t, many, P, k, A, m, nt, cr, n, tp, fp, im, rfl, ho, hn, hx, rc, rf⟩ := iv
  obtain ⟨K, I, R, L, N, w⟩ := h
  have rc : RC K I R N X b many P r k A m nt cr n tp fp im pc pu := rc
  obtain ⟨a0, rfl, b0, c0⟩ := i32 z0
  obtain ⟨a1, rfl, b1, c1⟩ := i32 z1
  obtain ⟨I', R', L', e, rc'⟩ := y_Where (L := L) (w := w) rc b0 c0 b1 c1
  have hr := z_Where (t := t) rf b0 c0 b1 c1
  refine hr_of (K := K) (I := I') (R := R') (L := L') (N := N) (w := w) ho hn hx rc' rf hr (fun k' hk => ?_) (fun x hx' => ?_)
  · have k1 : k' = 1 ∨ k' = 2 := by
      have hk2 := hk
      (repeat' split at hk2) <;> first | exact Or.inl (Sum.inl.inj hk2).symm | exact Or.inr (Sum.inl.inj hk2).symm | exact nomatch hk2 | (revert hk2; simp)
    rcases k1 with rfl | rfl
    all_goals (refine ⟨by decide, by decide, ?_⟩; unfold fL_where; rw [e, hk]; rfl)
  · unfold fL_where
    rw [e, hx']
theorem hc_faults {z0 : Int32} (iv : IV b mm ao X pc pu h g) : HR b mm ao X pc pu (fL_faults b z0 ao h) (fX13_faults mm z0 g) := by
  obtain ⟨c, f, r, s, t, many, P, k, A, m, nt, cr, n, tp, fp, im, rfl, ho, hn, hx, rc, rf⟩ := iv
  obtain ⟨K, I, R, L, N, w⟩ := h
  have rc : RC K I R N X b many P r k A m nt cr n tp fp im pc pu := rc
  obtain ⟨a0, rfl, b0, c0⟩ := i32 z0
  obtain ⟨I', R', L', e, rc'⟩ := y_Faults (L := L) (w := w) rc b0 c0
  have hr := z_Faults (t := t) rf b0 c0
  refine hr_of (K := K) (I := I') (R := R') (L := L') (N := N) (w := w) ho hn hx rc' rf hr (fun k' hk => ?_) (fun x hx' => ?_)
  · have k1 : k' = 1 := by
      have hk2 := hk
      (repeat' split at hk2) <;> first | exact (Sum.inl.inj hk2).symm | exact nomatch hk2 | (revert hk2; simp)
    subst k1
    refine ⟨by decide, by decide, ?_⟩
    unfold fL_faults
    rw [e, hk]
    rfl
  · unfold fL_faults
    rw [e, hx']
theorem hc_changes {z0 : Int32} (iv : IV b mm ao X pc pu h g) : HR b mm ao X pc pu (fL_changes b z0 ao h) (fX13_changes mm z0 g) := by
  obtain ⟨c, f, r, s, t, many, P, k, A, m, nt, cr, n, tp, fp, im, rfl, ho, hn, hx, rc, rf⟩ := iv
  obtain ⟨K, I, R, L, N, w⟩ := h
  have rc : RC K I R N X b many P r k A m nt cr n tp fp im pc pu := rc
  obtain ⟨a0, rfl, b0, c0⟩ := i32 z0
  obtain ⟨I', R', L', e, rc'⟩ := y_Changes (L := L) (w := w) rc b0 c0
  have hr := z_Changes (t := t) rf b0 c0
  refine hr_of (K := K) (I := I') (R := R') (L := L') (N := N) (w := w) ho hn hx rc' rf hr (fun k' hk => ?_) (fun x hx' => ?_)
  · have k1 : k' = 1 := by
      have hk2 := hk
      (repeat' split at hk2) <;> first | exact (Sum.inl.inj hk2).symm | exact nomatch hk2 | (revert hk2; simp)
    subst k1
    refine ⟨by decide, by decide, ?_⟩
    unfold fL_changes
    rw [e, hk]
    rfl
  · unfold fL_changes
    rw [e, hx']
theorem hc_spoilt {z0 : Int32} {z1 : Int32} {z2 : Int32} {z3 : Int32} (iv : IV b mm ao X pc pu h g) : HR b mm ao X pc pu (fL_spoilt b z0 z1 z2 z3 ao h) (fX13_spoilt mm z0 z1 z2 z3 g) := by
  obtain ⟨c, f, r, s, t, many, P, k, A, m, nt, cr, n, tp, fp, im, rfl, ho, hn, hx, rc, rf⟩ := iv
  obtain ⟨K, I, R, L, N, w⟩ := h
  have rc : RC K I R N X b many P r k A m nt cr n tp fp im pc pu := rc
  obtain ⟨a0, rfl, b0, c0⟩ := i32 z0
  obtain ⟨a1, rfl, b1, c1⟩ := i32 z1
  obtain ⟨a2, rfl, b2, c2⟩ := i32 z2
  obtain ⟨a3, rfl, b3, c3⟩ := i32 z3
  obtain ⟨I', R', L', e, rc'⟩ := y_Spoilt (L := L) (w := w) rc b0 c0 b1 c1 b2 c2 b3 c3
  have hr := z_Spoilt (t := t) rf b0 c0 b1 c1 b2 c2 b3 c3
  refine hr_of (K := K) (I := I') (R := R') (L := L') (N := N) (w := w) ho hn hx rc' rf hr (fun k' hk => ?_) (fun x hx' => ?_)
  · have k1 : k' = 1 ∨ k' = 2 := by
      have hk2 := hk
      (repeat' split at hk2) <;> first | exact Or.inl (Sum.inl.inj hk2).symm | exact Or.inr (Sum.inl.inj hk2).symm | exact nomatch hk2 | (revert hk2; simp)
    rcases k1 with rfl | rfl
    all_goals (refine ⟨by decide, by decide, ?_⟩; unfold fL_spoilt; rw [e, hk]; rfl)
  · unfold fL_spoilt
    rw [e, hx']
theorem hc_blamed {z0 : Int32} {z1 : Int32} {z2 : Int32} (iv : IV b mm ao X pc pu h g) : HR b mm ao X pc pu (fL_blamed b z0 z1 z2 ao h) (fX13_blamed mm z0 z1 z2 g) := by
  obtain ⟨c, f, r, s, t, many, P, k, A, m, nt, cr, n, tp, fp, im, rfl, ho, hn, hx, rc, rf⟩ := iv
  obtain ⟨K, I, R, L, N, w⟩ := h
  have rc : RC K I R N X b many P r k A m nt cr n tp fp im pc pu := rc
  obtain ⟨a0, rfl, b0, c0⟩ := i32 z0
  obtain ⟨a1, rfl, b1, c1⟩ := i32 z1
  obtain ⟨a2, rfl, b2, c2⟩ := i32 z2
  obtain ⟨I', R', L', e, rc'⟩ := y_Blamed (L := L) (w := w) rc b0 c0 b1 c1 b2 c2
  have hr := z_Blamed (t := t) rf b0 c0 b1 c1 b2 c2
  refine hr_of (K := K) (I := I') (R := R') (L := L') (N := N) (w := w) ho hn hx rc' rf hr (fun k' hk => ?_) (fun x hx' => ?_)
  · have k1 : k' = 1 ∨ k' = 2 := by
      have hk2 := hk
      (repeat' split at hk2) <;> first | exact Or.inl (Sum.inl.inj hk2).symm | exact Or.inr (Sum.inl.inj hk2).symm | exact nomatch hk2 | (revert hk2; simp)
    rcases k1 with rfl | rfl
    all_goals (refine ⟨by decide, by decide, ?_⟩; unfold fL_blamed; rw [e, hk]; rfl)
  · unfold fL_blamed
    rw [e, hx']
theorem hc_years {z0 : Int32} {z1 : Int32} {z2 : Int32} (iv : IV b mm ao X pc pu h g) : HR b mm ao X pc pu (fL_years b z0 z1 z2 ao h) (fX13_years mm z0 z1 z2 g) := by
  obtain ⟨c, f, r, s, t, many, P, k, A, m, nt, cr, n, tp, fp, im, rfl, ho, hn, hx, rc, rf⟩ := iv
  obtain ⟨K, I, R, L, N, w⟩ := h
  have rc : RC K I R N X b many P r k A m nt cr n tp fp im pc pu := rc
  obtain ⟨a0, rfl, b0, c0⟩ := i32 z0
  obtain ⟨a1, rfl, b1, c1⟩ := i32 z1
  obtain ⟨a2, rfl, b2, c2⟩ := i32 z2
  obtain ⟨I', R', L', e, rc'⟩ := y_Years (L := L) (w := w) (sd := a0) rc b1 c1 b2 c2
  have hr := z_Years (t := t) (sd := a0) rf b1 c1 b2 c2
  refine hr_of (K := K) (I := I') (R := R') (L := L') (N := N) (w := w) ho hn hx rc' rf hr (fun k' hk => ?_) (fun x hx' => ?_)
  · have k1 : k' = 1 ∨ k' = 2 := by
      have hk2 := hk
      (repeat' split at hk2) <;> first | exact Or.inl (Sum.inl.inj hk2).symm | exact Or.inr (Sum.inl.inj hk2).symm | exact nomatch hk2 | (revert hk2; simp)
    rcases k1 with rfl | rfl
    all_goals (refine ⟨by decide, by decide, ?_⟩; unfold fL_years; rw [e, hk]; rfl)
  · unfold fL_years
    rw [e, hx']
end ZTB
