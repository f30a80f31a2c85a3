section FCP
variable {K : Nat → Nat} {I : Nat → Nat → Int32} {R : Nat → Nat → Nat} {L : Nat → Nat → Int64} {N : Nat → Nat} {w : Nat × Nat × Nat × Nat} {X U C Z : Nat} {Xo Ko : Nat}
variable {b many k m n pc pu : Nat} {P : PG} {r nt cr t : Nat → Int} {A : Nat → Nat → Int} {fp : Int} {im : Option DS}
/-- the row that is now has run -/
theorem RC_PIn {I' : Nat → Nat → Int32} {R' : Nat → Nat → Nat} {u : Nat → Int} (h : RC K I R N X b many P r k A m nt cr n t fp im pc pu) (hp : PI (b + 14) (b + 54) I R I' R' u) (ho : RowOK many 20000 u) : RC K I' R' N X b many P u k A m nt cr n t fp im pc pu := by
  obtain ⟨l, -, -, -, z1, z2, -⟩ := RC_fore h
  obtain ⟨⟨g, p1⟩, p2, p3⟩ := hp
  obtain ⟨J, hJ⟩ : ∃ J, J = va_up I' (b + 54 + 1) (I (b + 54 + 1)) := ⟨_, rfl⟩
  have eJ : ∀ y, (y < b + 14 ∨ b + 14 + 15 ≤ y) → J y = I y := fun y hy => by
    rw [hJ]
    by_cases c : y = b + 54 + 1
    · rw [c, va_up_self]
    · rw [va_up_ne _ _ c]; exact p2 y hy c
  have h1 : RC K J R' N X b many P r k A m nt cr n t fp im pc pu := RC_scr h (fun y hy => eJ y (by unfold sc at hy; omega)) p3 (fun j hj => by rw [eJ _ (by omega)]; exact z1 j hj) (fun j hj => by rw [eJ _ (by omega)]; exact z2 j hj)
  have h2 := RC_row (g' := g) h1 ho
  have e : va_up J (b + 54 + 1) (jF (cls u g)) = I' := by
    funext y
    by_cases c : y = b + 54 + 1
    · rw [c, va_up_self, p1]
    · rw [va_up_ne _ _ c, hJ, va_up_ne _ _ c]
  rw [e] at h2
  exact h2
/-- how many of a steps are done -/
def sdn (P : PG) (many : Nat) (r : Nat → Int) (a : Nat) : Nat := if fnd (fun j => stpN P many j r 276 != 0) 0 a = -1 then a else (fnd (fun j => stpN P many j r 276 != 0) 0 a).toNat
theorem sdn_at {P : PG} {a i : Nat} (hi : i < a) (h : stpN P many i r 276 ≠ 0) (h0 : ∀ j, j < i → stpN P many j r 276 = 0) : sdn P many r a = i := by
  unfold sdn
  by_cases c : fnd (fun j => stpN P many j r 276 != 0) 0 a = -1
  · have := fnd_none c i (by omega) (by omega)
    simp at this
    exact absurd this h
  · obtain ⟨q, b1, b2', b3, b4, b5⟩ := fnd_some c
    rw [if_neg c, b3]
    have c1 : ¬ i < q := fun e => by
      have := b5 i (by omega) e
      simp at this
      exact absurd this h
    have c2 : ¬ q < i := fun e => by
      have := h0 q e
      simp at b4
      exact absurd this b4
    omega
theorem sdn_all {P : PG} {a : Nat} (h0 : ∀ j, j < a → stpN P many j r 276 = 0) : sdn P many r a = a := by
  unfold sdn
  by_cases c : fnd (fun j => stpN P many j r 276 != 0) 0 a = -1
  · rw [if_pos c]
  · obtain ⟨q, b1, b2', b3, b4, b5⟩ := fnd_some c
    have := h0 q (by omega)
    simp at b4
    exact absurd this b4
theorem y_lpS {a : Nat} (h : RC K I R N X b many P r k A m nt cr n t fp im pc pu) (ha : a ≤ 50) (ht : r 277 + a ≤ 20000) : ∃ I' R', lp (fun _ _ _ _ _ => none) (fX12_steps_60) FU b (jI (a : Int)) (b + 54) 0 (K, I, R, L, N, w) = some (jI (sdn P many r a : Int), (K, I', R', L, N, w)) ∧ RC K I' R' N X b many P (stpN P many a r) k A m nt cr n t fp im pc pu := by
  obtain ⟨kb, r10, kd, rd, hr, ⟨g, hI⟩, ok⟩ := RC_now h
  obtain ⟨l, gd, fs, -, z1, -, -, -, r5⟩ := RC_fore h
  obtain ⟨pg, hm⟩ := Gd_pg gd
  have ok' : RowOK many (r 277) r := by
    obtain ⟨a1, a2, a3, a4, a5, a6, a7, a8, a9, a10, a11⟩ := ok
    exact ⟨a1, a2, a3, a4, a5, a6, a7, a8, a9, ⟨a10.1, by omega⟩, a11⟩
  have t1 := ok.2.2.2.2.2.2.2.2.2.1
  have hx : Ro K R N (b + 14) (b + 54) := ⟨hr, by omega⟩
  have kp : K (b + 14) = 8 := gd.1.1
  have kf := fs.1
  have key := lp_sr (z := fun _ _ _ _ _ => none) (S := fX12_steps_60) (β := Int32 × Hp) (σ := (Nat → Nat → Int32) × (Nat → Nat → Nat)) (fun kk i s => kk b (jI (a : Int)) (b + 54) (jI (i : Int)) (K, s.1, s.2, L, N, w)) a
    (fun i s => PI (b + 14) (b + 54) I R s.1 s.2 (stpN P many i r) ∧ ∀ j, j < i → stpN P many j r 276 = 0)
    (fun res => ∃ I' R', res = some (jI (sdn P many r a : Int), (K, I', R', L, N, w)) ∧ PI (b + 14) (b + 54) I R I' R' (stpN P many a r)) ?_ ?_ FU 0 (I, R) (by omega) (FU_lt (by omega)) ⟨⟨⟨g, hI⟩, fun _ _ _ => rfl, RFr_rf _ _⟩, fun j hj => by omega⟩
  · obtain ⟨I', R', e1, e2⟩ := key
    refine ⟨I', R', e1, RC_PIn h e2 (RowOK_T (stpN_ok (P := P) ok' pg hm a (by omega)) (by omega))⟩
  · intro i s hi ⟨hp, h0⟩ kk
    obtain ⟨I1, R1⟩ := s
    have hp : PI (b + 14) (b + 54) I R I1 R1 (stpN P many i r) := hp
    have oki := stpN_ok (P := P) ok' pg hm i (by omega)
    have er := e_run1 (L := L) (w := w) gd hx hp oki
    have y1 : ¬ (jI (a : Int) ≤ jI (i : Int)) := by rw [jI_le (by omega) (by omega) (by omega) (by omega)]; omega
    by_cases c : stpN P many i r 276 = 0
    · right
      rw [if_pos c] at er
      obtain ⟨I2, R2, e3, e4⟩ := e_step1 (L := L) (w := w) gd hx hp oki (by omega) c
      refine ⟨(I2, R2), ⟨e4, fun j hj => ?_⟩, ?_⟩
      · by_cases d : j = i
        · rw [d]; exact c
        · exact h0 j (by omega)
      · show fX12_steps_60 kk b (jI (a : Int)) (b + 54) (jI (i : Int)) (K, I1, R1, L, N, w) = kk b (jI (a : Int)) (b + 54) (jI ((i + 1 : Nat) : Int)) (K, I2, R2, L, N, w)
        have rb : R1 b = R b := hp.2.2.1 b (by omega) (by omega)
        have rf : R1 (b + 13) = R (b + 13) := hp.2.2.1 (b + 13) (by omega) (by omega)
        have ei : jI (i : Int) + 1 = jI ((i + 1 : Nat) : Int) := by rw [show (1 : Int32) = jI 1 from rfl, jI_add]; congr 1
        unfold fX12_steps_60
        rw [if_neg y1, er, o_ob, if_neg (by decide), o_gR kb, o_ob, rb, r5, o_gR kf, o_ob, rf, fs.2.1, e3, o_obk2t, o_lt, ei]
    · left
      rw [if_neg c] at er
      show ∃ I' R', fX12_steps_60 kk b (jI (a : Int)) (b + 54) (jI (i : Int)) (K, I1, R1, L, N, w) = _ ∧ _
      refine ⟨I1, R1, ?_, by rw [stpN_st (n := a) (i := i) (by omega) c]; exact hp⟩
      unfold fX12_steps_60
      rw [if_neg y1, er, o_ob, if_pos (by decide), sdn_at hi c h0]
  · intro s ⟨hp, h0⟩ kk
    obtain ⟨I1, R1⟩ := s
    show ∃ I' R', fX12_steps_60 kk b (jI (a : Int)) (b + 54) (jI (a : Int)) (K, I1, R1, L, N, w) = _ ∧ _
    refine ⟨I1, R1, ?_, hp⟩
    unfold fX12_steps_60
    rw [if_pos (show jI (a : Int) ≤ jI (a : Int) from Int32.le_refl _), sdn_all h0]
theorem y_Steps1 {a : Nat} (h : RC K I R N X b many P r k A m nt cr n t fp im pc pu) (h1 : X + pc ≤ C) (h2 : U + pu ≤ Z) (hK0 : TP Xo Ko K X) (hs : r 276 = 0) (a1 : 1 ≤ a) (a2 : a ≤ 50) (ht : r 277 + a ≤ 20000) :
    ACo K N Xo Ko X U C Z b many P (stpN P many a r) (actK k) (actA A k r) m nt cr n t fp im pc pu (jI (sdn P many r a : Int)) (fX12_steps b (jI (a : Int)) (K, I, R, L, N, (X, U, C, Z))) := by
  obtain ⟨kb, r10, kd, rd, hr, ⟨g, hI⟩, ok⟩ := RC_now h
  obtain ⟨K', I', R', L', N', X', U', pc', pu', e1, h', q1, q2, q3, q4, q5, q6⟩ := y_rem (L := L) h h1 h2 hK0
  obtain ⟨I2, R2, e2, h2'⟩ := y_lpS (L := L') (w := (X', U', C, Z)) h' a2 ht
  obtain ⟨l, gd, -⟩ := RC_fore h
  have er := e_run1 (L := L) (w := (X, U, C, Z)) gd ⟨hr, by omega⟩ ⟨⟨g, hI⟩, fun _ _ _ => rfl, RFr_rf _ _⟩ ok
  rw [if_pos hs] at er
  have t1 := ok.2.2.2.2.2.2.2.2.2.1
  have y1 : ¬ (jI (a : Int) < 1) := by
    rw [show (1 : Int32) = jI 1 from rfl, jI_lt (by omega) (by omega) (by omega) (by omega)]; omega
  have y2 : ¬ ((50 : Int32) < jI (a : Int)) := by
    rw [show (50 : Int32) = jI 50 from rfl, jI_lt (by omega) (by omega) (by omega) (by omega)]; omega
  have y3 : jI (r 277) ≤ (20000 : Int32) - jI (a : Int) := by
    rw [show (20000 : Int32) = jI 20000 from rfl, jI_sub, jI_le (by omega) (by omega) (by omega) (by omega)]; omega
  refine ⟨K', I2, R2, L', N', X', U', pc', pu', ?_, h2', q1, q2, q3, q4, q6⟩
  unfold fX12_steps
  rw [o_gd _ kb, o_gR kb, o_ob, r10, o_gR kd, o_ob, rd, er, o_ob, if_neg (by decide), if_neg y1, if_neg y2, show (276 : Int32) = jI 276 from rfl, e_cell hr (by omega) (by omega), o_ob, hI, jF_at, cls_tm (by omega) (by omega), show (276 : Int).toNat + 1 = 277 from rfl, if_pos y3, o_ob, e1, o_oba q5, e2]
theorem y_Steps0 {a : Int} (h : RC K I R N X b many P r k A m nt cr n t fp im pc pu) (a1 : -2147483648 ≤ a) (a2 : a < 2147483648) (hn : ¬ (r 276 = 0 ∧ 1 ≤ a ∧ a ≤ 50 ∧ r 277 + a ≤ 20000)) : ∃ I', fX12_steps b (jI a) (K, I, R, L, N, w) = some (jI (-1), (K, I', R, L, N, w)) ∧ RC K I' R N X b many P r k A m nt (va_up cr 1 (cr 1 + 1)) n t fp im pc pu := by
  obtain ⟨kb, r10, kd, rd, hr, ⟨g, hI⟩, ok⟩ := RC_now h
  obtain ⟨I', -, -, -, e1, e5⟩ := y_rf31 (L := L) (w := w) h
  obtain ⟨l, gd, -⟩ := RC_fore h
  have er := e_run1 (L := L) (w := w) gd ⟨hr, by omega⟩ ⟨⟨g, hI⟩, fun _ _ _ => rfl, RFr_rf _ _⟩ ok
  have t1 := ok.2.2.2.2.2.2.2.2.2.1
  clear ok gd
  refine ⟨I', ?_, e5⟩
  unfold fX12_steps
  rw [o_gd _ kb, o_gR kb, o_ob, r10, o_gR kd, o_ob, rd, er, o_ob]
  by_cases c : r 276 = 0
  rotate_left
  · rw [if_neg c, if_pos (by decide), e1]
  rw [if_pos c, if_neg (by decide)]
  by_cases x1 : jI a < 1
  · rw [if_pos x1, e1]
  rw [if_neg x1]
  rw [show (1 : Int32) = jI 1 from rfl, jI_lt (by omega) (by omega) (by omega) (by omega)] at x1
  by_cases x2 : (50 : Int32) < jI a
  · rw [if_pos x2, e1]
  rw [if_neg x2]
  rw [show (50 : Int32) = jI 50 from rfl, jI_lt (by omega) (by omega) (by omega) (by omega)] at x2
  have y3 : ¬ (jI (r 277) ≤ (20000 : Int32) - jI a) := by
    rw [show (20000 : Int32) = jI 20000 from rfl, jI_sub, jI_le (by omega) (by omega) (by omega) (by omega)]; omega
  rw [show (276 : Int32) = jI 276 from rfl, e_cell hr (by omega) (by omega), o_ob, hI, jF_at, cls_tm (by omega) (by omega), show (276 : Int).toNat + 1 = 277 from rfl, if_neg y3, e1]
end FCP
