section FSF
variable {K : Nat → Nat} {I : Nat → Nat → Int32} {R : Nat → Nat → Nat} {L : Nat → Nat → Int64} {N : Nat → Nat} {w : Nat × Nat × Nat × Nat} {X U C Z : Nat}
/-! MAKING: what is new, what stays -/
theorem o_nA {c z n : Nat} (hz : z ≤ 8) (hn : n ≤ 1000000) (h0 : 0 < X) (h1 : X + 1 ≤ C) (h2 : U + n ≤ Z) : ∃ K' I' R' L' N', newA c z (jI (n : Int)) (K, I, R, L, N, (X, U, C, Z)) = some (X, (K', I', R', L', N', (X + 1, U + n, C, Z))) ∧ (∀ y, y < X → K' y = K y) ∧ (∀ y, y < X → N' y = N y) ∧ (∀ y, y < X → I' y = I y) ∧ (∀ y, y < X → R' y = R y) ∧ K' X = c ∧ N' X = n ∧ I' X = (fun _ => 0) ∧ R' X = fun _ => 0 :=
  ⟨_, _, _, _, _, o_newA hz hn h0 h1 h2, fun y hy => va_up_ne _ _ (by omega), fun y hy => va_up_ne _ _ (by omega), fun y hy => va_up_ne _ _ (by omega), fun y hy => va_up_ne _ _ (by omega), va_up_self _ _ _, va_up_self _ _ _, va_up_self _ _ _, va_up_self _ _ _⟩
theorem o_nO {c n : Nat} (h0 : 0 < X) (h1 : X + 1 ≤ C) (h2 : U + n ≤ Z) : ∃ K' I' R' L' N', newO c n (K, I, R, L, N, (X, U, C, Z)) = some (X, (K', I', R', L', N', (X + 1, U + n, C, Z))) ∧ (∀ y, y < X → K' y = K y) ∧ (∀ y, y < X → N' y = N y) ∧ (∀ y, y < X → I' y = I y) ∧ (∀ y, y < X → R' y = R y) ∧ K' X = c ∧ N' X = 0 ∧ I' X = (fun _ => 0) ∧ R' X = fun _ => 0 :=
  ⟨_, _, _, _, _, o_newO h0 h1 h2, fun y hy => va_up_ne _ _ (by omega), fun y hy => va_up_ne _ _ (by omega), fun y hy => va_up_ne _ _ (by omega), fun y hy => va_up_ne _ _ (by omega), va_up_self _ _ _, va_up_self _ _ _, va_up_self _ _ _, va_up_self _ _ _⟩
theorem o_wR {c d j v : Nat} (kd : K d = c) : ∃ R', pR c d j v (K, I, R, L, N, w) = some (K, I, R', L, N, w) ∧ (∀ y, y ≠ d → R' y = R y) ∧ R' d j = v ∧ ∀ k, k ≠ j → R' d k = R d k :=
  ⟨_, o_pR kd, fun y hy => va_up_ne _ _ hy, by rw [va_up_self, va_up_self], fun k hk => by rw [va_up_self, va_up_ne _ _ hk]⟩
theorem o_wI {c d j : Nat} {v : Int32} (kd : K d = c) : ∃ I', pI c d j v (K, I, R, L, N, w) = some (K, I', R, L, N, w) ∧ (∀ y, y ≠ d → I' y = I y) ∧ I' d j = v ∧ ∀ k, k ≠ j → I' d k = I d k :=
  ⟨_, o_pI kd, fun y hy => va_up_ne _ _ hy, by rw [va_up_self, va_up_self], fun k hk => by rw [va_up_self, va_up_ne _ _ hk]⟩
theorem o_wS {d i v : Nat} {n : Nat} (kd : K d = 105) (nd : N d = n) (hi : i < n) (hi2 : i < 1000) (v0 : v ≠ 0) (v1 : v ≤ 69) : ∃ R', qS d (jI (i : Int)) v (K, I, R, L, N, w) = some (K, I, R', L, N, w) ∧ (∀ y, y ≠ d → R' y = R y) ∧ R' d i = v ∧ ∀ k, k ≠ i → R' d k = R d k := by
  have e : (jI (i : Int)).toNatClampNeg = i := by rw [jI_nat (by omega) (by omega)]; omega
  have l0 : ¬ jI (i : Int) < 0 := by rw [jI_lit, jI_lt (by omega) (by omega) (by omega) (by omega)]; omega
  refine ⟨va_up R d (va_up (R d) i v), ?_, fun y hy => va_up_ne _ _ hy, by rw [va_up_self, va_up_self], fun k hk => by rw [va_up_self, va_up_ne _ _ hk]⟩
  unfold qS
  rw [e, if_pos ⟨kd, v0, v1, fun q => q.elim l0 (fun q => by have q : N d ≤ i := q; omega)⟩]
  rfl
/-- a row is made -/
theorem e_rwini {d : Nat} (kd : K d = 9) (hd : d + 1 = X) (h1 : X + 1 ≤ C) (h2 : U + 411 ≤ Z) : ∃ K' I' R' L' N', fX10_init d (K, I, R, L, N, (X, U, C, Z)) = some (K', I', R', L', N', (X + 1, U + 411, C, Z)) ∧ (∀ y, y < X → K' y = K y) ∧ (∀ y, y < X → N' y = N y) ∧ (∀ y, y < X → I' y = I y) ∧ (∀ y, y < X → y ≠ d → R' y = R y) ∧ K' X = 101 ∧ N' X = 411 ∧ I' X = jF (cls emp (fun _ => 0)) ∧ R' d 0 = X := by
  obtain ⟨K1, I1, R1, L1, N1, e1, k1, n1, i1, r1, c1, m1, z1, y1⟩ := o_nA (K := K) (I := I) (R := R) (L := L) (N := N) (X := X) (U := U) (C := C) (Z := Z) (c := 101) (z := 4) (n := 411) (by omega) (by omega) (by omega) h1 h2
  have e1 : newA 101 4 411 (K, I, R, L, N, (X, U, C, Z)) = some (X, (K1, I1, R1, L1, N1, (X + 1, U + 411, C, Z))) := e1
  have kd1 : K1 d = 9 := (k1 d (by omega)).trans kd
  obtain ⟨R2, e2, r2, s2, t2⟩ := o_wR (I := I1) (R := R1) (L := L1) (N := N1) (w := (X + 1, U + 411, C, Z)) (j := 0) (v := X) kd1
  have hr : Rw K1 R2 N1 d := ⟨kd1, by rw [s2, hd], by rw [hd]; exact c1, by rw [hd]; exact m1⟩
  have e3 := e_clear (I := I1) (L := L1) (w := (X + 1, U + 411, C, Z)) hr (fun j _ => by rw [hd, z1]; rfl)
  refine ⟨K1, va_up I1 (d + 1) (jF (cls emp (fun _ => 0))), R2, L1, N1, ?_, k1, n1, fun y hy => by rw [va_up_ne _ _ (by omega)]; exact i1 y hy, fun y hy h => by rw [r2 y h]; exact r1 y hy, c1, m1, by rw [hd, va_up_self], s2⟩
  unfold fX10_init
  rw [o_gd _ kd, e1, o_ob2, e2, o_ob, e3, o_obkt]
/-- an instruction is made -/
theorem e_inini {d : Nat} (kd : K d = 5) : ∃ R', fX5_init d (K, I, R, L, N, w) = some (K, I, R', L, N, w) ∧ (∀ y, y ≠ d → R' y = R y) := by
  obtain ⟨R2, e2, r2, s2, t2⟩ := o_wR (I := I) (R := R) (L := L) (N := N) (w := w) (j := 0) (v := 29) kd
  refine ⟨R2, ?_, r2⟩
  unfold fX5_init
  rw [o_gd _ kd, e2, o_ob]
theorem xl {x a b : Nat} (h : Nat.ble (a + 1) b = true) : x + a < x + b := Nat.add_lt_add_left (Nat.le_of_ble_eq_true h) x
theorem xe {x a b : Nat} (h : Nat.ble a b = true) : x + a ≤ x + b := Nat.add_le_add_left (Nat.le_of_ble_eq_true h) x
theorem yl {y x : Nat} (b : Nat) (h : y < x) : y < x + b := Nat.lt_of_lt_of_le h (Nat.le_add_right x b)
theorem xn {d x : Nat} (a : Nat) (h : d < x) : x + a ≠ d := Nat.ne_of_gt (yl a h)
theorem dn {d x : Nat} (a : Nat) (h : d < x) : d ≠ x + a := Nat.ne_of_lt (yl a h)
theorem xc {x a b c : Nat} (h : Nat.ble a b = true) (h1 : x + b ≤ c) : x + a ≤ c := Nat.le_trans (xe h) h1
theorem x0 {d x : Nat} (a : Nat) (h : d < x) : 0 < x + a := Nat.lt_of_le_of_lt (Nat.zero_le d) (yl a h)
theorem xx {x a b : Nat} (h : Nat.beq a b = false) : x + a ≠ x + b := fun e => by
  have := Nat.add_left_cancel e
  rw [this, Nat.beq_refl] at h
  exact absurd h (by decide)
end FSF
