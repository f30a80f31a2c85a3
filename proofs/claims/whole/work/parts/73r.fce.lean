section FCS
variable {K : Nat → Nat} {I : Nat → Nat → Int32} {R : Nat → Nat → Nat} {L : Nat → Nat → Int64} {N : Nat → Nat} {w : Nat × Nat × Nat × Nat} {X U C Z : Nat}
variable {b many k m n pc pu : Nat} {P : PG} {r nt cr t : Nat → Int} {A : Nat → Nat → Int} {fp : Int} {im : Option DS}

theorem y_ProgX {a : Int} (h : RC K I R N X b many P r k A m nt cr n t fp im pc pu) (a1 : -2147483648 ≤ a) (a2 : a < 2147483648) (hn : ¬ (0 ≤ a ∧ a ≤ n)) : fX12_program b (jI a) (K, I, R, L, N, w) = some (.inl 2, (K, I, R, L, N, w)) := by
  obtain ⟨l, sl, i, sh, pm, -, -, tp, -⟩ := h
  have kb := sh.1
  have i1 := tp.1
  have n7 := tp.2.1
  unfold fX12_program fX12_program_12
  rw [o_gd _ kb]
  by_cases x1 : jI a < 0
  · rw [if_pos x1]
  rw [if_neg x1, o_gI kb, o_ob, i1]
  rw [show (0 : Int32) = jI 0 from rfl, jI_lt (by omega) (by omega) (by omega) (by omega)] at x1
  rw [if_neg (by rw [jI_le (by omega) (by omega) (by omega) (by omega)]; omega)]
/-- a desk is made -/
theorem e_deskinit {d : Nat} (kd : K d = 2) (hd : d < X) (h1 : X + 5 ≤ C) (h2 : U + 479 ≤ Z) : ∃ K' I' R' L' N', fX2_init d (K, I, R, L, N, (X, U, C, Z)) = some (K', I', R', L', N', (X + 5, U + 479, C, Z)) ∧ (∀ y, y < X → K' y = K y) ∧ (∀ y, y < X → N' y = N y) ∧ (∀ y, y < X → I' y = I y) ∧ (∀ y, y < X → y ≠ d → R' y = R y) ∧ (R' d 0 = X ∧ R' d 1 = X + 2 ∧ R' d 4 = X + 3 ∧ R' d 6 = X + 4) ∧ (K' X = 9 ∧ R' X 0 = X + 1 ∧ K' (X + 1) = 101 ∧ N' (X + 1) = 411 ∧ I' (X + 1) = jF (cls emp (fun _ => 0))) ∧ (K' (X + 2) = 103 ∧ N' (X + 2) = 40 ∧ R' (X + 2) = fun _ => 0) ∧ (K' (X + 3) = 101 ∧ N' (X + 3) = 24 ∧ I' (X + 3) = fun _ => 0) ∧ (K' (X + 4) = 101 ∧ N' (X + 4) = 3 ∧ I' (X + 4) = fun _ => 0) := by
  obtain ⟨e1, e2⟩ := e_rowinit (K := K) (I := I) (R := R) (L := L) (N := N) (X := X) (U := U) (C := C) (Z := Z) (by omega) (by omega) (by omega)
  obtain ⟨K1, hK1⟩ : ∃ K1, K1 = va_up (va_up K X 9) (X + 1) 101 := ⟨_, rfl⟩
  obtain ⟨I1, hI1⟩ : ∃ I1, I1 = va_up (va_up I X (fun _ => 0)) (X + 1) (jF (cls emp (fun _ => 0))) := ⟨_, rfl⟩
  obtain ⟨R1, hR1⟩ : ∃ R1, R1 = va_up (va_up R X (va_up (fun _ => 0) 0 (X + 1))) (X + 1) (fun _ => 0) := ⟨_, rfl⟩
  obtain ⟨L1, hL1⟩ : ∃ L1, L1 = va_up (va_up L X (fun _ => 0)) (X + 1) (fun _ => 0) := ⟨_, rfl⟩
  obtain ⟨N1, hN1⟩ : ∃ N1, N1 = va_up (va_up N X 0) (X + 1) 411 := ⟨_, rfl⟩
  rw [← hK1, ← hI1, ← hR1, ← hL1, ← hN1] at e2
  have kd1 : K1 d = 2 := by rw [hK1, va_up_ne _ _ (by omega), va_up_ne _ _ (by omega)]; exact kd
  have ok1 : okA (va_up K X 9, va_up I X (fun _ => 0), va_up R X (fun _ => 0), va_up L X (fun _ => 0), va_up N X 0, (X + 1, U + 1, C, Z)) (K1, I1, R1, L1, N1, (X + 2, U + 412, C, Z)) := okA_of (by omega) (by omega) (by omega) (by omega) (by omega) (by rw [hK1, show X + 2 - 1 = X + 1 by omega, va_up_self]; decide)
  obtain ⟨R2, hR2⟩ : ∃ R2, R2 = va_up R1 d (va_up (R1 d) 0 X) := ⟨_, rfl⟩
  have n1 := o_newA (K := K1) (I := I1) (R := R2) (L := L1) (N := N1) (X := X + 2) (U := U + 412) (C := C) (Z := Z) (c := 103) (z := 4) (n := 40) (by omega) (by omega) (by omega) (by omega) (by omega)
  obtain ⟨K2, hK2⟩ : ∃ K2, K2 = va_up K1 (X + 2) 103 := ⟨_, rfl⟩
  obtain ⟨I2, hI2⟩ : ∃ I2, I2 = va_up I1 (X + 2) (fun _ => 0) := ⟨_, rfl⟩
  obtain ⟨R3, hR3⟩ : ∃ R3, R3 = va_up R2 (X + 2) (fun _ => 0) := ⟨_, rfl⟩
  obtain ⟨L2, hL2⟩ : ∃ L2, L2 = va_up L1 (X + 2) (fun _ => 0) := ⟨_, rfl⟩
  obtain ⟨N2, hN2⟩ : ∃ N2, N2 = va_up N1 (X + 2) 40 := ⟨_, rfl⟩
  rw [← hK2, ← hI2, ← hR3, ← hL2, ← hN2] at n1
  have kd2 : K2 d = 2 := by rw [hK2, va_up_ne _ _ (by omega)]; exact kd1
  obtain ⟨R4, hR4⟩ : ∃ R4, R4 = va_up R3 d (va_up (R3 d) 1 (X + 2)) := ⟨_, rfl⟩
  have n2 := o_newA (K := K2) (I := I2) (R := R4) (L := L2) (N := N2) (X := X + 2 + 1) (U := U + 412 + 40) (C := C) (Z := Z) (c := 101) (z := 4) (n := 24) (by omega) (by omega) (by omega) (by omega) (by omega)
  obtain ⟨K3, hK3⟩ : ∃ K3, K3 = va_up K2 (X + 2 + 1) 101 := ⟨_, rfl⟩
  obtain ⟨I3, hI3⟩ : ∃ I3, I3 = va_up I2 (X + 2 + 1) (fun _ => 0) := ⟨_, rfl⟩
  obtain ⟨R5, hR5⟩ : ∃ R5, R5 = va_up R4 (X + 2 + 1) (fun _ => 0) := ⟨_, rfl⟩
  obtain ⟨L3, hL3⟩ : ∃ L3, L3 = va_up L2 (X + 2 + 1) (fun _ => 0) := ⟨_, rfl⟩
  obtain ⟨N3, hN3⟩ : ∃ N3, N3 = va_up N2 (X + 2 + 1) 24 := ⟨_, rfl⟩
  rw [← hK3, ← hI3, ← hR5, ← hL3, ← hN3] at n2
  have kd3 : K3 d = 2 := by rw [hK3, va_up_ne _ _ (by omega)]; exact kd2
  obtain ⟨R6, hR6⟩ : ∃ R6, R6 = va_up R5 d (va_up (R5 d) 4 (X + 2 + 1)) := ⟨_, rfl⟩
  have n3 := o_newA (K := K3) (I := I3) (R := R6) (L := L3) (N := N3) (X := X + 2 + 1 + 1) (U := U + 412 + 40 + 24) (C := C) (Z := Z) (c := 101) (z := 4) (n := 3) (by omega) (by omega) (by omega) (by omega) (by omega)
  obtain ⟨K4, hK4⟩ : ∃ K4, K4 = va_up K3 (X + 2 + 1 + 1) 101 := ⟨_, rfl⟩
  obtain ⟨I4, hI4⟩ : ∃ I4, I4 = va_up I3 (X + 2 + 1 + 1) (fun _ => 0) := ⟨_, rfl⟩
  obtain ⟨R7, hR7⟩ : ∃ R7, R7 = va_up R6 (X + 2 + 1 + 1) (fun _ => 0) := ⟨_, rfl⟩
  obtain ⟨L4, hL4⟩ : ∃ L4, L4 = va_up L3 (X + 2 + 1 + 1) (fun _ => 0) := ⟨_, rfl⟩
  obtain ⟨N4, hN4⟩ : ∃ N4, N4 = va_up N3 (X + 2 + 1 + 1) 3 := ⟨_, rfl⟩
  rw [← hK4, ← hI4, ← hR7, ← hL4, ← hN4] at n3
  have kd4 : K4 d = 2 := by rw [hK4, va_up_ne _ _ (by omega)]; exact kd3
  have n1 : newA 103 4 40 _ = _ := n1
  have n2 : newA 101 4 24 _ = _ := n2
  have n3 : newA 101 4 3 _ = _ := n3
  refine ⟨K4, I4, va_up R7 d (va_up (R7 d) 6 (X + 2 + 1 + 1)), L4, N4, ?_, fun y hy => ?_, fun y hy => ?_, fun y hy => ?_, fun y hy hy2 => ?_, ⟨?_, ?_, ?_, ?_⟩, ⟨?_, ?_, ?_, ?_, ?_⟩, ⟨?_, ?_, ?_⟩, ⟨?_, ?_, ?_⟩, ?_, ?_, ?_⟩
  · unfold fX2_init
    rw [o_gd _ kd, e1, o_ob2, e2, o_oba ok1, o_pR kd1, o_ob, ← hR2, n1, o_ob2, o_pR kd2, o_ob, ← hR4, n2, o_ob2, o_pR kd3, o_ob, ← hR6, n3, o_ob2, o_pR kd4, o_ob]
  all_goals simp (disch := omega) only [hK4, hK3, hK2, hK1, hI4, hI3, hI2, hI1, hN4, hN3, hN2, hN1, hR7, hR6, hR5, hR4, hR3, hR2, hR1, va_up_self, va_up_ne]
end FCS
