section FCN
variable {K : Nat → Nat} {I : Nat → Nat → Int32} {R : Nat → Nat → Nat} {L : Nat → Nat → Int64} {N : Nat → Nat} {w : Nat × Nat × Nat × Nat} {X U C Z : Nat} {Xo Ko : Nat}
variable {b many k m n pc pu : Nat} {P : PG} {r nt cr t : Nat → Int} {A : Nat → Nat → Int} {fp : Int} {im : Option DS}
theorem RowOK_rg {T : Int} {p : Nat} {v : Int} (h : RowOK many T r) (hp : p < 8) (v1 : -2147483648 ≤ v) (v2 : v < 2147483648) : RowOK many T (va_up r (256 + p) v) := by
  obtain ⟨a1, a2, a3, a4, a5, a6, a7, a8, a9, a10, a11, a12, a13, a14, a15⟩ := h
  have e : ∀ y, 264 ≤ y → va_up r (256 + p) v y = r y := fun y hy => va_up_ne _ _ (by omega)
  refine ⟨fun j hj => ?_, ?_, by rw [e _ (by omega)]; exact a3, by rw [e _ (by omega)]; exact a4, by rw [e _ (by omega), e _ (by omega)]; exact a5, by rw [e _ (by omega)]; exact a6, fun j h1 h2 => by rw [e _ (by omega)]; exact a7 j h1 h2, by rw [e _ (by omega)]; exact a8, by rw [e _ (by omega), e _ (by omega)]; exact a9, by rw [e _ (by omega)]; exact a10, by rw [e _ (by omega), e _ (by omega)]; exact a11, fun j hj => by rw [e _ (by omega), e _ (by omega)]; exact a12 j hj, by rw [e _ (by omega), e _ (by omega)]; exact a13, by rw [e _ (by omega)]; exact a14, by rw [e 289 (by omega), e 280 (by omega), e 267 (by omega)]; exact a15⟩
  · rw [va_up_ne _ _ (by omega)]; exact a1 j hj
  · intro j
    by_cases c : j = 256 + p
    · rw [c, va_up_self]; omega
    · rw [va_up_ne _ _ c]; exact a2 j
/-- the row that is now is written -/
theorem RC_row {r' g' : Nat → Int} (h : RC K I R N X b many P r k A m nt cr n t fp im pc pu) (ho : RowOK many 20000 r') : RC K (va_up I (b + 54 + 1) (jF (cls r' g'))) R N X b many P r' k A m nt cr n t fp im pc pu := by
  have e : ∀ y, y ≠ b + 55 → va_up I (b + 54 + 1) (jF (cls r' g')) y = I y := fun y hy => va_up_ne _ _ (by omega)
  refine RC_dsk h (fun y hy => e y (by omega)) (fun i hd => ?_) (fun ok => ⟨ho, ok.2⟩)
  obtain ⟨o', g, d0, hr, hI2, dk, dn, rf⟩ := hd
  refine ⟨o', g', d0, hr, ?_, Dk_I dk (by rw [e _ (by omega)]) (by rw [e _ (by omega)]) (fun y _ q => e y (fun c => q (by unfold bd; omega))), ?_, ?_⟩
  · rw [show b + 53 + 1 + 1 = b + 54 + 1 by omega, va_up_self]
  · unfold Dn at dn ⊢; rw [e _ (by omega), e _ (by omega)]; exact dn
  · unfold Rfs at rf ⊢; rw [e _ (by omega)]; exact rf
/-- an act is done -/
def ACo (K N : Nat → Nat) (Xo Ko X U C Z b many : Nat) (P : PG) (r : Nat → Int) (k : Nat) (A : Nat → Nat → Int) (m : Nat) (nt cr : Nat → Int) (n : Nat) (t : Nat → Int) (fp : Int) (im : Option DS) (pc pu : Nat) {α : Type} (v : α) (res : Option (α × Hp)) : Prop :=
  ∃ K' I' R' L' N' X' U' pc' pu', res = some (v, (K', I', R', L', N', (X', U', C, Z))) ∧ RC K' I' R' N' X' b many P r k A m nt cr n t fp im pc' pu' ∧ X' + pc' = X + pc ∧ U' + pu' = U + pu ∧ TP Xo Ko K' X' ∧ X ≤ X' ∧ ∀ y, y < X → K' y = K y ∧ N' y = N y
theorem y_Lay1 {p v : Int} (h : RC K I R N X b many P r k A m nt cr n t fp im pc pu) (h1 : X + pc ≤ C) (h2 : U + pu ≤ Z) (hK0 : TP Xo Ko K X) (p1 : 0 ≤ p) (p2 : p < 256) (v1 : 0 ≤ v) (v2 : v < 256) (hv : r p.toNat ≠ v) :
    ACo K N Xo Ko X U C Z b many P (va_up r p.toNat v) (actK k) (actA A k r) m nt cr n t fp im pc pu (jI (r p.toNat)) (fX12_lay b (jI p) (jI v) (K, I, R, L, N, (X, U, C, Z))) := by
  obtain ⟨kb, r10, kd, rd, hr, ⟨g, hI⟩, ok⟩ := RC_now h
  obtain ⟨K', I', R', L', N', X', U', pc', pu', e1, h', q1, q2, q3, q4, q5, q6⟩ := y_rem (L := L) h h1 h2 hK0
  obtain ⟨kb', r10', kd', rd', hr', ⟨g', hI'⟩, ok'⟩ := RC_now h'
  have hby := ok.1 p.toNat (by omega)
  have x1 : ¬ (jI (r p.toNat) = jI v) := by rw [jIe (by omega) (by omega) (by omega) (by omega)]; exact hv
  have ho : RowOK many 20000 (va_up r p.toNat v) := by
    have := RowOK_by (p := p.toNat) (v := v.toNat) ok (by omega) (by omega)
    rw [show ((v.toNat : Nat) : Int) = v by omega] at this
    exact this
  have er := RC_row (g' := g') h' ho
  refine ⟨K', _, R', L', N', X', U', pc', pu', ?_, er, q1, q2, q3, q4, q6⟩
  unfold fX12_lay
  rw [o_gd _ kb, o_gR kb, o_ob, r10, o_gR kd, o_ob, rd, e_isPl (by omega) (by omega), if_pos ⟨p1, p2⟩, o_ob, if_neg (by decide), e_isBt (by omega) (by omega), if_pos ⟨v1, v2⟩, o_ob, if_neg (by decide), e_cell hr p1 (by omega), o_ob, hI, jF_at, cls_lo (by omega) (by omega), if_neg x1, o_ob, e1, o_oba q5, e_cell hr' p1 (by omega), o_ob, hI', jF_at, cls_lo (by omega) (by omega), e_put hr' p1 (by omega), o_obkt, hI', jF_up, cls_up_lo (by omega) (by omega)]
theorem y_Set1 {p v : Int} (h : RC K I R N X b many P r k A m nt cr n t fp im pc pu) (h1 : X + pc ≤ C) (h2 : U + pu ≤ Z) (hK0 : TP Xo Ko K X) (p1 : 0 ≤ p) (p2 : p < 8) (v1 : -2147483648 ≤ v) (v2 : v < 2147483648) (hv : r (256 + p.toNat) ≠ v) :
    ACo K N Xo Ko X U C Z b many P (va_up r (256 + p.toNat) v) (actK k) (actA A k r) m nt cr n t fp im pc pu (jI 1) (fX12_set b (jI p) (jI v) (K, I, R, L, N, (X, U, C, Z))) := by
  obtain ⟨kb, r10, kd, rd, hr, ⟨g, hI⟩, ok⟩ := RC_now h
  obtain ⟨K', I', R', L', N', X', U', pc', pu', e1, h', q1, q2, q3, q4, q5, q6⟩ := y_rem (L := L) h h1 h2 hK0
  obtain ⟨kb', r10', kd', rd', hr', ⟨g', hI'⟩, ok'⟩ := RC_now h'
  have hrg := ok.2.1 (256 + p.toNat)
  have x1 : ¬ (jI (r (256 + p.toNat)) = jI v) := by rw [jIe (by omega) (by omega) (by omega) (by omega)]; exact hv
  have ho := RowOK_rg (p := p.toNat) (v := v) ok (by omega) v1 v2
  have er := RC_row (g' := g') h' ho
  have ea : (256 : Int32) + jI p = jI ((256 + p.toNat : Nat) : Int) := by rw [show (256 : Int32) = jI 256 from rfl, jI_add]; congr 1; omega
  have en : (((256 + p.toNat : Nat) : Int)).toNat = 256 + p.toNat := by omega
  have y1 : ¬ (jI p < 0) := by
    rw [show (0 : Int32) = jI 0 from rfl, jI_lt (by omega) (by omega) (by omega) (by omega)]; omega
  have y2 : ¬ ((7 : Int32) < jI p) := by
    rw [show (7 : Int32) = jI 7 from rfl, jI_lt (by omega) (by omega) (by omega) (by omega)]; omega
  refine ⟨K', _, R', L', N', X', U', pc', pu', ?_, er, q1, q2, q3, q4, q6⟩
  unfold fX12_set
  rw [o_gd _ kb, o_gR kb, o_ob, r10, o_gR kd, o_ob, rd, if_neg y1, if_neg y2, ea, e_cell hr (by omega) (by omega), o_ob, hI, jF_at, en, cls_lo (by omega) (by omega), if_neg x1, o_ob, e1, o_oba q5, e_put hr' (by omega) (by omega), o_obkt, hI', jF_up, en, cls_up_lo (by omega) (by omega)]
  rfl
/-- an act is refused -/
theorem y_rf31 (h : RC K I R N X b many P r k A m nt cr n t fp im pc pu) : ∃ I', fX12_lay_31 b (K, I, R, L, N, w) = some (jI (-1), (K, I', R, L, N, w)) ∧ fX12_set_31 b (K, I, R, L, N, w) = some (jI 0, (K, I', R, L, N, w)) ∧ fX12_next_12 b (K, I, R, L, N, w) = some (jI (-1), (K, I', R, L, N, w)) ∧ fX12_steps_41 b (K, I, R, L, N, w) = some (jI (-1), (K, I', R, L, N, w)) ∧ RC K I' R N X b many P r k A m nt (va_up cr 1 (cr 1 + 1)) n t fp im pc pu := by
  obtain ⟨kb, r10, kd, rd, -⟩ := RC_now h
  obtain ⟨I', e1, e2⟩ := y_refuse (L := L) (w := w) (wh := 1) h (by omega)
  have e1 : fX2_refuse (b + 53) 1 (K, I, R, L, N, w) = some (K, I', R, L, N, w) := e1
  refine ⟨I', ?_, ?_, ?_, ?_, e2⟩
  · unfold fX12_lay_31; rw [o_gR kb, o_ob, r10, e1, o_obkt]; rfl
  · unfold fX12_set_31; rw [o_gR kb, o_ob, r10, e1, o_obkt]; rfl
  · unfold fX12_next_12; rw [o_gR kb, o_ob, r10, e1, o_obkt]; rfl
  · unfold fX12_steps_41; rw [o_gR kb, o_ob, r10, e1, o_obkt]; rfl
end FCN
