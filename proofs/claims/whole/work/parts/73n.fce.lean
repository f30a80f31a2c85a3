section FCO
variable {K : Nat → Nat} {I : Nat → Nat → Int32} {R : Nat → Nat → Nat} {L : Nat → Nat → Int64} {N : Nat → Nat} {w : Nat × Nat × Nat × Nat} {X U C Z : Nat} {Xo Ko : Nat}
variable {b many k m n pc pu : Nat} {P : PG} {r nt cr t : Nat → Int} {A : Nat → Nat → Int} {fp : Int} {im : Option DS}
theorem y_Lay0 {p v : Int} (h : RC K I R N X b many P r k A m nt cr n t fp im pc pu) (p1 : -2147483648 ≤ p) (p2 : p < 2147483648) (v1 : -2147483648 ≤ v) (v2 : v < 2147483648) (hn : ¬ (0 ≤ p ∧ p < 256 ∧ 0 ≤ v ∧ v < 256 ∧ r p.toNat ≠ v)) : ∃ I', fX12_lay b (jI p) (jI v) (K, I, R, L, N, w) = some (jI (-1), (K, I', R, L, N, w)) ∧ RC K I' R N X b many P r k A m nt (va_up cr 1 (cr 1 + 1)) n t fp im pc pu := by
  obtain ⟨kb, r10, kd, rd, hr, ⟨g, hI⟩, ok⟩ := RC_now h
  obtain ⟨I', e1, -, -, -, e5⟩ := y_rf31 (L := L) (w := w) h
  refine ⟨I', ?_, e5⟩
  unfold fX12_lay
  rw [o_gd _ kb, o_gR kb, o_ob, r10, o_gR kd, o_ob, rd, e_isPl p1 p2, o_ob]
  by_cases x1 : 0 ≤ p ∧ p < 256
  rotate_left
  · rw [if_neg x1, if_pos (by decide), e1]
  rw [if_pos x1, if_neg (by decide), e_isBt v1 v2, o_ob]
  by_cases x2 : 0 ≤ v ∧ v < 256
  rotate_left
  · rw [if_neg x2, if_pos (by decide), e1]
  have hby := ok.1 p.toNat (by omega)
  have x3 : r p.toNat = v := by
    by_cases c : r p.toNat = v
    · exact c
    · exact absurd ⟨x1.1, x1.2, x2.1, x2.2, c⟩ hn
  rw [if_pos x2, if_neg (by decide), e_cell hr x1.1 (by omega), o_ob, hI, jF_at, cls_lo (by omega) (by omega), if_pos (by rw [x3]), e1]
theorem y_Set0 {p v : Int} (h : RC K I R N X b many P r k A m nt cr n t fp im pc pu) (p1 : -2147483648 ≤ p) (p2 : p < 2147483648) (v1 : -2147483648 ≤ v) (v2 : v < 2147483648) (hn : ¬ (0 ≤ p ∧ p < 8 ∧ r (256 + p.toNat) ≠ v)) : ∃ I', fX12_set b (jI p) (jI v) (K, I, R, L, N, w) = some (jI 0, (K, I', R, L, N, w)) ∧ RC K I' R N X b many P r k A m nt (va_up cr 1 (cr 1 + 1)) n t fp im pc pu := by
  obtain ⟨kb, r10, kd, rd, hr, ⟨g, hI⟩, ok⟩ := RC_now h
  obtain ⟨I', -, e1, -, -, e5⟩ := y_rf31 (L := L) (w := w) h
  clear ok
  refine ⟨I', ?_, e5⟩
  unfold fX12_set
  rw [o_gd _ kb, o_gR kb, o_ob, r10, o_gR kd, o_ob, rd]
  by_cases x1 : jI p < 0
  · rw [if_pos x1, e1]
  rw [if_neg x1]
  rw [show (0 : Int32) = jI 0 from rfl, jI_lt (by omega) (by omega) (by omega) (by omega)] at x1
  by_cases x2 : (7 : Int32) < jI p
  · rw [if_pos x2, e1]
  rw [if_neg x2]
  rw [show (7 : Int32) = jI 7 from rfl, jI_lt (by omega) (by omega) (by omega) (by omega)] at x2
  have x3 : r (256 + p.toNat) = v := by
    by_cases c : r (256 + p.toNat) = v
    · exact c
    · exact absurd ⟨by omega, by omega, c⟩ hn
  have ea : (256 : Int32) + jI p = jI ((256 + p.toNat : Nat) : Int) := by rw [show (256 : Int32) = jI 256 from rfl, jI_add]; congr 1; omega
  have en : (((256 + p.toNat : Nat) : Int)).toNat = 256 + p.toNat := by omega
  rw [ea, e_cell hr (by omega) (by omega), o_ob, hI, jF_at, en, cls_lo (by omega) (by omega), if_pos (by rw [x3]), e1]
/-- the row when the next instruction is set -/
def nxR (many : Nat) (r : Nat → Int) (a : Nat) : Nat → Int := va_up (va_up r 265 (a : Int)) 276 (if many ≤ a then 1 else 0)
theorem RowOK_nx {T : Int} {a : Nat} (h : RowOK many T r) (ha : a ≤ many) (hm : many ≤ 60) : RowOK many T (nxR many r a) := by
  obtain ⟨a1, a2, a3, a4, a5, a6, a7, a8, a9, a10, a11, a12, a13, a14, a15⟩ := h
  obtain ⟨z, hz⟩ : ∃ z : Int, z = if many ≤ a then 1 else 0 := ⟨_, rfl⟩
  have z1 : z = 0 ∨ z = 1 := by
    by_cases c : many ≤ a
    · rw [if_pos c] at hz; omega
    · rw [if_neg c] at hz; omega
  have z2 : z = 0 → (a : Int) < many := fun e => by
    by_cases c : many ≤ a
    · rw [if_pos c] at hz; omega
    · omega
  have eN : nxR many r a = va_up (va_up r 265 (a : Int)) 276 z := by rw [hz]; rfl
  rw [eN]
  obtain ⟨q, hq⟩ : ∃ q, q = va_up (va_up r 265 (a : Int)) 276 z := ⟨_, rfl⟩
  rw [← hq]
  have e : ∀ y, y ≠ 265 → y ≠ 276 → q y = r y := fun y c d => by rw [hq, va_up_ne _ _ d, va_up_ne _ _ c]
  have e5 : q 265 = a := by rw [hq, va_up_ne _ _ (by omega), va_up_self]
  have e6 : q 276 = z := by rw [hq, va_up_self]
  clear hq eN
  refine ⟨fun j hj => by rw [e j (by omega) (by omega)]; exact a1 j hj, fun j => ?_, by rw [e _ (by omega) (by omega)]; exact a3, by rw [e5]; omega, by rw [e5, e6]; exact z2, by rw [e _ (by omega) (by omega)]; exact a6, fun j h1 h2 => by rw [e _ (by omega) (by omega)]; exact a7 j h1 h2, by rw [e6]; omega, by rw [e _ (by omega) (by omega), e _ (by omega) (by omega)]; exact a9, by rw [e _ (by omega) (by omega)]; exact a10, by rw [e _ (by omega) (by omega), e _ (by omega) (by omega)]; exact a11, fun j hj => by rw [e _ (by omega) (by omega), e _ (by omega) (by omega)]; exact a12 j hj, by rw [e _ (by omega) (by omega), e _ (by omega) (by omega)]; exact a13, by rw [e _ (by omega) (by omega)]; exact a14, by rw [e 289 (by omega) (by omega), e 280 (by omega) (by omega), e 267 (by omega) (by omega)]; exact a15⟩
  by_cases c : j = 265
  · rw [c, e5]; omega
  · by_cases d : j = 276
    · rw [d, e6]; omega
    · rw [e j c d]; exact a2 j
theorem y_Next0 {a : Int} (h : RC K I R N X b many P r k A m nt cr n t fp im pc pu) (p1 : -2147483648 ≤ a) (p2 : a < 2147483648) (hn : ¬ (0 ≤ a ∧ a ≤ many)) : ∃ I', fX12_next b (jI a) (K, I, R, L, N, w) = some (jI (-1), (K, I', R, L, N, w)) ∧ RC K I' R N X b many P r k A m nt (va_up cr 1 (cr 1 + 1)) n t fp im pc pu := by
  obtain ⟨kb, -⟩ := RC_now h
  obtain ⟨I', -, -, e1, -, e5⟩ := y_rf31 (L := L) (w := w) h
  have ei := y_Ins (L := L) (w := w) h
  obtain ⟨l, -, -, -, -, -, -, -, hm⟩ := RC_prog h
  refine ⟨I', ?_, e5⟩
  unfold fX12_next
  rw [o_gd _ kb, ei, o_ob]
  by_cases x1 : jI a < 0
  · rw [if_pos x1, e1]
  rw [if_neg x1]
  rw [show (0 : Int32) = jI 0 from rfl, jI_lt (by omega) (by omega) (by omega) (by omega)] at x1
  rw [if_neg (by rw [jI_le (by omega) (by omega) (by omega) (by omega)]; omega), e1]
theorem y_Next1 {a : Nat} (h : RC K I R N X b many P r k A m nt cr n t fp im pc pu) (h1 : X + pc ≤ C) (h2 : U + pu ≤ Z) (hK0 : TP Xo Ko K X) (ha : a ≤ many) :
    ACo K N Xo Ko X U C Z b many P (nxR many r a) (actK k) (actA A k r) m nt cr n t fp im pc pu (jI (nxR many r a 276)) (fX12_next b (jI (a : Int)) (K, I, R, L, N, (X, U, C, Z))) := by
  obtain ⟨kb, r10, kd, rd, hr, ⟨g, hI⟩, ok⟩ := RC_now h
  have ei := y_Ins (L := L) (w := (X, U, C, Z)) h
  obtain ⟨l, -, -, -, -, -, -, -, hm⟩ := RC_prog h
  obtain ⟨K', I', R', L', N', X', U', pc', pu', e1, h', q1, q2, q3, q4, q5, q6⟩ := y_rem (L := L) h h1 h2 hK0
  obtain ⟨kb', r10', kd', rd', hr', ⟨g', hI'⟩, ok'⟩ := RC_now h'
  have ho := RowOK_nx ok ha hm
  obtain ⟨z, hz⟩ : ∃ z : Int, z = if many ≤ a then 1 else 0 := ⟨_, rfl⟩
  have eN : nxR many r a = va_up (va_up r 265 (a : Int)) 276 z := by rw [hz]; rfl
  have h5 := RowOK_nx (a := 0) ok (by omega) hm
  rw [eN] at ho ⊢
  have er := RC_row (g' := g') h' ho
  refine ⟨K', _, R', L', N', X', U', pc', pu', ?_, er, q1, q2, q3, q4, q6⟩
  have p1 := e_put (I := I') (L := L') (w := (X', U', C, Z)) (v := jI (a : Int)) hr' (show (0 : Int) ≤ 265 by omega) (by omega)
  obtain ⟨J, hJ⟩ : ∃ J, J = va_up I' (b + 54 + 1) (jF (cls (va_up r 265 (a : Int)) g')) := ⟨_, rfl⟩
  have p1' : fX10_put (b + 54) (265 : Int32) (jI (a : Int)) (K', I', R', L', N', (X', U', C, Z)) = some (K', J, R', L', N', (X', U', C, Z)) := by
    rw [show (265 : Int32) = jI 265 from rfl, p1, hI', show (265 : Int).toNat = 265 from rfl, jF_up, cls_up_lo (by omega) (by omega), hJ]
  have hJ1 : J (b + 54 + 1) = jF (cls (va_up r 265 (a : Int)) g') := by rw [hJ, va_up_self]
  have p2 := fun v : Int => e_put (I := J) (L := L') (w := (X', U', C, Z)) (v := jI v) hr' (show (0 : Int) ≤ 267 by omega) (by omega)
  have p2' : fX10_put (b + 54) (267 : Int32) (jI z) (K', J, R', L', N', (X', U', C, Z)) = some (K', va_up I' (b + 54 + 1) (jF (cls (va_up (va_up r 265 (a : Int)) 276 z) g')), R', L', N', (X', U', C, Z)) := by
    rw [show (267 : Int32) = jI 267 from rfl, p2, hJ1, show (267 : Int).toNat = 267 from rfl, jF_up, cls_up_st, hJ]
    congr 3
    funext y
    by_cases c : y = b + 54 + 1
    · rw [c, va_up_self, va_up_self]
    · rw [va_up_ne _ _ c, va_up_ne _ _ c, va_up_ne _ _ c]
  have e66 : fX12_next_66 b (jI z) 267 (b + 54) (K', J, R', L', N', (X', U', C, Z)) = some (jI z, (K', va_up I' (b + 54 + 1) (jF (cls (va_up (va_up r 265 (a : Int)) 276 z) g')), R', L', N', (X', U', C, Z))) := by
    unfold fX12_next_66
    rw [p2', o_obkt, o_gR kb', o_ob, r10', o_gR kd', o_ob, rd', show (267 : Int32) = jI 267 from rfl, e_cell hr' (by omega) (by omega), o_ob, va_up_self, jF_at, show (267 : Int).toNat = 267 from rfl, cls_st, va_up_self]
  have ei' : fX12_instructions b (K', J, R', L', N', (X', U', C, Z)) = some (jI (many : Int)) := by
    have hx : RowOK many 20000 (va_up r 265 (a : Int)) ∨ True := Or.inr trivial
    obtain ⟨l', r5, k4, r0, k8, r5', k6, i2, -⟩ := RC_prog h'
    have el : J l' = I' l' := by rw [hJ]; exact va_up_ne _ _ (fun e => by rw [e] at k6; have := hr'.2.2.1; omega)
    unfold fX12_instructions fX9_instructions fX6_size
    rw [o_gd _ kb', o_gR kb', o_ob, r5, o_gR k4, o_ob, r0, o_gd _ k8, o_gR k8, o_ob, r5', o_gd _ k6, o_gI k6, o_ob, o_ob, o_ob, el, i2]
  have y1 : ¬ (jI (a : Int) < 0) := by
    rw [show (0 : Int32) = jI 0 from rfl, jI_lt (by omega) (by omega) (by omega) (by omega)]; omega
  have y2 : jI (a : Int) ≤ jI (many : Int) := by
    rw [jI_le (by omega) (by omega) (by omega) (by omega)]; omega
  unfold fX12_next
  rw [o_gd _ kb, if_neg y1, ei, o_ob, if_pos y2, o_gR kb, o_ob, r10, e1, o_oba q5, o_gR kb', o_ob, r10', o_gR kd', o_ob, rd', p1', o_obkt, o_gR kb', o_ob, r10', o_gR kd', o_ob, rd', ei', o_ob]
  by_cases c : many ≤ a
  · rw [if_pos c] at hz
    have y3 : jI (many : Int) ≤ jI (a : Int) := by rw [jI_le (by omega) (by omega) (by omega) (by omega)]; omega
    rw [if_pos y3, show (1 : Int32) = jI z by rw [hz]; rfl, e66, va_up_self]
  · rw [if_neg c] at hz
    have y3 : ¬ (jI (many : Int) ≤ jI (a : Int)) := by rw [jI_le (by omega) (by omega) (by omega) (by omega)]; omega
    rw [if_neg y3, show (0 : Int32) = jI z by rw [hz]; rfl, e66, va_up_self]
theorem y_Begin (h : RC K I R N X b many P r k A m nt cr n t fp im pc pu) (h1 : X + pc ≤ C) (h2 : U + pu ≤ Z) (hK0 : TP Xo Ko K X) :
    ACo K N Xo Ko X U C Z b many P (bgn P many r) (actK k) (actA A k r) m nt cr n t fp im pc pu (jI (bgn P many r 276)) (fX12_begin b (K, I, R, L, N, (X, U, C, Z))) := by
  obtain ⟨kb, r10, kd, rd, hr, ⟨g, hI⟩, ok⟩ := RC_now h
  obtain ⟨l, -, -, -, -, -, -, -, hm⟩ := RC_prog h
  obtain ⟨K', I', R', L', N', X', U', pc', pu', e1, h', q1, q2, q3, q4, q5, q6⟩ := y_rem (L := L) h h1 h2 hK0
  obtain ⟨kb', r10', kd', rd', hr', ⟨g', hI'⟩, ok'⟩ := RC_now h'
  obtain ⟨l', gd, fs, ld, -, -, hl, -, r5⟩ := RC_fore h'
  have e2 := e_prestart (L := L') (w := (X', U', C, Z)) gd ⟨hr', by omega⟩ hI' ld (by omega)
  have ho : RowOK many 20000 (bgn P many r) := RowOK_bgn ok hm ld.2
  have er := RC_row (g' := g') h' ho
  refine ⟨K', _, R', L', N', X', U', pc', pu', ?_, er, q1, q2, q3, q4, q6⟩
  unfold fX12_begin
  rw [o_gd _ kb, o_gR kb, o_ob, r10, e1, o_oba q5, o_gR kb', o_ob, r5, o_gR fs.1, o_ob, fs.2.1, o_gR kb', o_ob, r10', o_gR kd', o_ob, rd', e2, o_obkt, o_gR kb', o_ob, r10', o_gR kd', o_ob, rd', show (267 : Int32) = jI 267 from rfl, e_cell hr' (by omega) (by omega), o_ob, va_up_self, jF_at, show (267 : Int).toNat = 267 from rfl, cls_st]
end FCO
