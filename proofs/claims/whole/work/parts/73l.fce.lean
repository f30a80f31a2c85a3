section FCM
variable {K : Nat → Nat} {I : Nat → Nat → Int32} {R : Nat → Nat → Nat} {L : Nat → Nat → Int64} {N : Nat → Nat} {w : Nat × Nat × Nat × Nat} {X U C Z : Nat} {Xo Ko : Nat}
variable {b many k m n pc pu : Nat} {P : PG} {r nt cr t : Nat → Int} {A : Nat → Nat → Int} {fp : Int} {im : Option DS}
/-- the desk remembers -/
theorem y_rem (h : RC K I R N X b many P r k A m nt cr n t fp im pc pu) (h1 : X + pc ≤ C) (h2 : U + pu ≤ Z) (hK0 : TP Xo Ko K X) : ∃ K' I' R' L' N' X' U' pc' pu', fX2_remember (b + 53) (K, I, R, L, N, (X, U, C, Z)) = some (K', I', R', L', N', (X', U', C, Z)) ∧ RC K' I' R' N' X' b many P r (actK k) (actA A k r) m nt cr n t fp im pc' pu' ∧ X' + pc' = X + pc ∧ U' + pu' = U + pu ∧ TP Xo Ko K' X' ∧ X ≤ X' ∧ okA (K, I, R, L, N, (X, U, C, Z)) (K', I', R', L', N', (X', U', C, Z)) ∧ ∀ y, y < X → K' y = K y ∧ N' y = N y := by
  obtain ⟨l, sl, i, sh, pm, ⟨o, g, d0, hr, hI2, dk, dn, rf⟩, ok, tp, hi, z1, z2, po⟩ := id h
  have s11 : (0 < b ∧ b + 59 ≤ X ∧ (i = 0 ∨ (b + 59 ≤ i ∧ i + 6 ≤ X)) ∧ ((l = b + 29 ∧ sl = b + 2) ∨ (l = b + 2 ∧ sl = b + 29))) := sh.2.2.2.2.2.2.2.2.2.2.2.1
  have ei : R b 11 = i := sh.2.2.2.2.2.2.2.2.2.2.1
  have p56 : b + 53 + 3 = b + 56 := by omega
  have po1 := po.1
  have po2 := po.2
  rw [p56] at po1 po2
  have dk : Dk K I R N X (bd b i) (b + 53) (b + 56) o k A := dk
  obtain ⟨K', I', R', L', N', X', U', o', e1, e2, e3, e4, e5, e6, e7⟩ := e_remember (C := C) (Z := Z) (U := U) (L := L) dk d0 hr (by omega) hI2 (fun s hs e => by
    by_cases c : R (b + 56) s = 0
    · omega
    · obtain ⟨-, -, q, -⟩ := dk.2.1 s hs c
      exact q (by rw [← e]; exact Or.inl (by omega))) (by omega) (by omega) (by omega) hK0 (fun y hy c => by unfold bd at c; omega) (by omega) (by omega) (by omega) (by omega)
  obtain ⟨pc', pu', r1, r2, r3⟩ := RC_FD (o' := o') h e3 (fun i' ee => by rw [← ee, ei]; exact e2)
  exact ⟨K', I', R', L', N', X', U', pc', pu', e1, r1, r2, r3, e4, e3.1, e7, fun y hy => ⟨e3.2.1 y hy, e3.2.2.1 y hy⟩⟩
/-- a byte of a row is laid -/
theorem RowOK_by {T : Int} {p v : Nat} (h : RowOK many T r) (hp : p < 256) (hv : v < 256) : RowOK many T (va_up r p (v : Int)) := by
  obtain ⟨a1, a2, a3, a4, a5, a6, a7, a8, a9, a10, a11, a12, a13, a14, a15⟩ := h
  have e : ∀ y, 256 ≤ y → va_up r p (v : Int) y = r y := fun y hy => va_up_ne _ _ (by omega)
  refine ⟨fun j hj => ?_, ?_, by rw [e _ (by omega)]; exact a3, by rw [e _ (by omega)]; exact a4, by rw [e _ (by omega), e _ (by omega)]; exact a5, by rw [e _ (by omega)]; exact a6, fun j h1 h2 => by rw [e _ (by omega)]; exact a7 j h1 h2, by rw [e _ (by omega)]; exact a8, by rw [e _ (by omega), e _ (by omega)]; exact a9, by rw [e _ (by omega)]; exact a10, by rw [e _ (by omega), e _ (by omega)]; exact a11, fun j hj => by rw [e _ (by omega), e _ (by omega)]; exact a12 j hj, by rw [e _ (by omega), e _ (by omega)]; exact a13, by rw [e _ (by omega)]; exact a14, by rw [e 289 (by omega), e 280 (by omega), e 267 (by omega)]; exact a15⟩
  · by_cases c : j = p
    · rw [c, va_up_self]; omega
    · rw [va_up_ne _ _ c]; exact a1 j hj
  · intro j
    by_cases c : j = p
    · rw [c, va_up_self]; omega
    · rw [va_up_ne _ _ c]; exact a2 j
end FCM
