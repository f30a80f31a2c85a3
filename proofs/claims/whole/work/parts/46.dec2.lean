section D2
variable {K : Nat → Nat} {I : Nat → Nat → Int32} {R : Nat → Nat → Nat} {L : Nat → Nat → Int64} {N : Nat → Nat} {w : Nat × Nat × Nat × Nat}
/-- the carry into a place -/
def crr (v u i : Nat) : Nat := (v + u) / 10 ^ i - v / 10 ^ i - u / 10 ^ i
theorem crr_all (v u : Nat) : ∀ i, (v + u) / 10 ^ i = v / 10 ^ i + u / 10 ^ i + crr v u i ∧ crr v u i ≤ 1
  | 0 => by unfold crr; rw [div_0, div_0, div_0]; omega
  | i + 1 => by
    have h := crr_all v u i
    unfold crr
    rw [div_s, div_s, div_s]
    omega
theorem crr_s (v u i : Nat) : dg v i + dg u i + crr v u i = dg (v + u) i + 10 * crr v u (i + 1) ∧ crr v u i ≤ 1 ∧ crr v u (i + 1) ≤ 1 := by
  have h := crr_all v u i
  have h2 := crr_all v u (i + 1)
  rw [div_s, div_s, div_s] at h2
  unfold dg
  omega
theorem crr_0 (v u : Nat) : crr v u 0 = 0 := by unfold crr; rw [div_0, div_0, div_0]; omega
theorem DV_at {a v : Nat} {s : Bool} (h : DV I a v s) {k : Nat} (hk : k < 64) : I (a + 1) k = jI (dg v k : Int) := h.1 k hk
theorem e_addDigits {a x y v u : Nat} {s t : Bool} (hd : Dc K R N a) (hx : Dc K R N x) (hy : Dc K R N y) (h1 : x ≠ a) (h2 : y ≠ a) (vx : DV I x v s) (vy : DV I y u t) :
    fX1_addDigits a x y (K, I, R, L, N, w) = some (K, Dl I a (v + u) 64, R, L, N, w) := by
  obtain ⟨k1, r0, k2, n2⟩ := hd
  obtain ⟨k1x, r0x, k2x, n2x⟩ := hx
  obtain ⟨k1y, r0y, k2y, n2y⟩ := hy
  unfold fX1_addDigits
  simp (disch := omega) only [o_gd]
  have key := lp_up (z := fun _ _ _ _ _ _ => none) (S := fX1_addDigits_5) (β := Hp) (fun k (i : Nat) => k a x y (jI (crr v u i : Int)) (jI (i : Int)) (K, Dl I a (v + u) i, R, L, N, w))
    (E := some (K, Dl I a (v + u) 64, R, L, N, w)) (M := 64) ?_ ?_ FU 0 (by omega) (FU_lt (by omega))
  · rw [Dl_0, crr_0] at key
    exact key
  · intro i hi k
    unfold fX1_addDigits_5 fX1_addDigits_43
    have e1 : ((i : Int)).toNat = i := by omega
    have e2 : (i : Int) + 1 = ((i + 1 : Nat) : Int) := by omega
    have q1 := Dl_ne I a (v + u) i (x := x + 1) (by omega)
    have q2 := Dl_ne I a (v + u) i (x := y + 1) (by omega)
    obtain ⟨c1, c2, c3⟩ := crr_s v u i
    have d1 := dg_lt v i
    have d2 := dg_lt u i
    have d3 := dg_lt (v + u) i
    simp (disch := omega) only [jI_lit, jI_le, o_gR, o_ob, r0, r0x, r0y, o_aI, e1, q1, q2, DV_at vx hi, DV_at vy hi, jI_add, o_lt, jI_mul, jI_sub, o_qI]
    rw [if_neg (by omega)]
    by_cases q : crr v u (i + 1) = 0
    · rw [if_pos (by omega), show (dg v i : Int) + dg u i + crr v u i - 10 * 0 = dg (v + u) i by omega, Dl_s, e2, q]; rfl
    · have q3 : crr v u (i + 1) = 1 := by omega
      rw [if_neg (by omega), show (dg v i : Int) + dg u i + crr v u i - 10 * 1 = dg (v + u) i by omega, Dl_s, e2, q3]; rfl
  · intro k
    unfold fX1_addDigits_5
    simp (disch := omega) only [jI_lit, jI_le]
    rfl
theorem e_subDigits {a x y v u : Nat} {s t : Bool} (hd : Dc K R N a) (hx : Dc K R N x) (hy : Dc K R N y) (h1 : x ≠ a) (h2 : y ≠ a) (vx : DV I x v s) (vy : DV I y u t) (hle : u ≤ v) :
    fX1_subtractDigits a x y (K, I, R, L, N, w) = some (K, Dl I a (v - u) 64, R, L, N, w) := by
  obtain ⟨k1, r0, k2, n2⟩ := hd
  obtain ⟨k1x, r0x, k2x, n2x⟩ := hx
  obtain ⟨k1y, r0y, k2y, n2y⟩ := hy
  unfold fX1_subtractDigits
  simp (disch := omega) only [o_gd]
  have key := lp_up (z := fun _ _ _ _ _ _ => none) (S := fX1_subtractDigits_5) (β := Hp) (fun k (i : Nat) => k a x y (jI (crr (v - u) u i : Int)) (jI (i : Int)) (K, Dl I a (v - u) i, R, L, N, w))
    (E := some (K, Dl I a (v - u) 64, R, L, N, w)) (M := 64) ?_ ?_ FU 0 (by omega) (FU_lt (by omega))
  · rw [Dl_0, crr_0] at key
    exact key
  · intro i hi k
    unfold fX1_subtractDigits_5 fX1_subtractDigits_41
    have e1 : ((i : Int)).toNat = i := by omega
    have e2 : (i : Int) + 1 = ((i + 1 : Nat) : Int) := by omega
    have q1 := Dl_ne I a (v - u) i (x := x + 1) (by omega)
    have q2 := Dl_ne I a (v - u) i (x := y + 1) (by omega)
    obtain ⟨c1, c2, c3⟩ := crr_s (v - u) u i
    rw [Nat.sub_add_cancel hle] at c1
    have d1 := dg_lt v i
    have d2 := dg_lt u i
    have d3 := dg_lt (v - u) i
    simp (disch := omega) only [jI_lit, jI_le, o_gR, o_ob, r0, r0x, r0y, o_aI, e1, q1, q2, DV_at vx hi, DV_at vy hi, jI_add, o_lt, jI_mul, jI_sub, o_qI]
    rw [if_neg (by omega)]
    by_cases q : crr (v - u) u (i + 1) = 0
    · rw [if_pos (by omega), show (dg v i : Int) - dg u i - crr (v - u) u i + 10 * 0 = dg (v - u) i by omega, Dl_s, e2, q]; rfl
    · have q3 : crr (v - u) u (i + 1) = 1 := by omega
      rw [if_neg (by omega), show (dg v i : Int) - dg u i - crr (v - u) u i + 10 * 1 = dg (v - u) i by omega, Dl_s, e2, q3]; rfl
  · intro k
    unfold fX1_subtractDigits_5
    simp (disch := omega) only [jI_lit, jI_le]
    rfl
theorem lt_div {v u B : Nat} (h : v / B < u / B) : v < u := by
  apply Decidable.byContradiction
  intro h2
  have := Nat.div_le_div_right (c := B) (show u ≤ v by omega)
  omega
theorem e_isLess {x y v u : Nat} {s t : Bool} (hx : Dc K R N x) (hy : Dc K R N y) (vx : DV I x v s) (vy : DV I y u t) (hv : v < 10 ^ 64) (hu : u < 10 ^ 64) :
    fX1_isLess x y (K, I, R, L, N, w) = some (jI (if v < u then 1 else 0)) := by
  obtain ⟨k1x, r0x, k2x, n2x⟩ := hx
  obtain ⟨k1y, r0y, k2y, n2y⟩ := hy
  unfold fX1_isLess
  have key := lp_g (z := fun _ _ _ => none) (S := fX1_isLess_3 (K, I, R, L, N, w)) (β := Option Int32) (fun k (j : Nat) => k x y (jI ((j : Int) - 1))) (G := fun _ => some (jI (if v < u then 1 else 0)))
    (Inv := fun j => j ≤ 64 ∧ v / 10 ^ j = u / 10 ^ j) (M := fun j => j) ?_ FU 64 ⟨by omega, by rw [Nat.div_eq_of_lt hv, Nat.div_eq_of_lt hu]⟩ (FU_lt (by omega))
  · exact key
  · intro j hj
    obtain ⟨hj1, hj2⟩ := hj
    unfold fX1_isLess_3
    cases j with
    | zero =>
      left; intro k
      rw [div_0, div_0] at hj2
      simp (disch := omega) only [jI_lit, jI_lt]
      rw [if_pos (by omega), if_neg (by omega)]
    | succ j =>
      have e1 : ((j + 1 : Nat) : Int) - 1 = (j : Int) := by omega
      have e3 : ((j : Int)).toNat = j := by omega
      rw [div_s, div_s] at hj2
      have d1 := dg_lt v j
      have d2 := dg_lt u j
      have d3 : dg v j = v / 10 ^ j % 10 := rfl
      have d4 : dg u j = u / 10 ^ j % 10 := rfl
      by_cases q : dg v j = dg u j
      · right
        refine ⟨j, ⟨by omega, by omega⟩, by omega, rfl, fun k => ?_⟩
        simp (disch := omega) only [jI_lit, jI_neg, jI_lt, e1, o_gR, o_ob, r0x, r0y, o_aI, e3, DV_at vx, DV_at vy, jI_eq, o_lt, jI_add]
        rw [if_neg (by omega), if_pos (by omega)]
        rfl
      · left; intro k
        simp (disch := omega) only [jI_lit, jI_neg, jI_lt, e1, o_gR, o_ob, r0x, r0y, o_aI, e3, DV_at vx, DV_at vy, jI_eq, o_lt, jI_add, jI_le]
        rw [if_neg (by omega), if_neg (by omega)]
        by_cases q2 : dg v j < dg u j
        · rw [if_neg (by omega), if_pos (lt_div (B := 10 ^ j) (by omega))]
        · rw [if_pos (by omega), if_neg (fun h => by
            have := lt_div (v := u) (u := v) (B := 10 ^ j) (by omega)
            omega)]
theorem dset_of {a v : Nat} {s : Bool} (hd : Dc K R N a) (hs : I a 2 = jI (b2 s)) : fX1_measure a (K, Dl I a v 64, R, L, N, w) = some (K, dset I a v s, R, L, N, w) := e_endm hd hs
/-- the sum of two signed numbers, as the class has it (a 0 may have a sign below) -/
def csum (s t : Bool) (v u : Nat) : Nat × Bool := if s = t then (v + u, s) else if v < u then (u - v, t) else (v - u, s)
theorem b2_inj {s t : Bool} : (b2 s = b2 t) ↔ s = t := by cases s <;> cases t <;> simp [b2]
theorem e_add {a x y v u : Nat} {s t less : Bool} (hd : Dc K R N a) (hx : Dc K R N x) (hy : Dc K R N y) (h1 : x ≠ a) (h2 : y ≠ a) (h3 : x + 1 ≠ a) (h4 : y + 1 ≠ a) (h5 : x ≠ a + 1) (h6 : y ≠ a + 1) (vx : DV I x v s) (vy : DV I y u t) (hv : v < 10 ^ 64) (hu : u < 10 ^ 64) :
    fX1_add a x y (jI (b2 less)) (K, I, R, L, N, w) = some (K, dset I a (csum s (t != less) v u).1 (csum s (t != less) v u).2, R, L, N, w) := by
  have k1 := hd.1
  have k1x := hx.1
  have k1y := hy.1
  have rs := b2_r s
  have rt := b2_r t
  have rl := b2_r less
  have e13 : fX1_add_13 a x y (jI (b2 (t != less))) (K, I, R, L, N, w) = some (K, dset I a (csum s (t != less) v u).1 (csum s (t != less) v u).2, R, L, N, w) := by
    have rq := b2_r (t != less)
    unfold fX1_add_13 fX1_add_78
    simp (disch := omega) only [o_gI, o_ob, vx.2.2, jI_eq, b2_inj]
    by_cases q : s = (t != less)
    · rw [if_pos q, e_addDigits hd hx hy h1 h2 vx vy, o_ob, o_gI k1x, o_ob, Dl_ne _ _ _ _ h5, vx.2.2]
      unfold csum
      rw [if_pos q]
      exact e_end hd
    · rw [if_neg q, e_isLess hx hy vx vy hv hu, o_ob]
      unfold csum
      rw [if_neg q]
      by_cases q2 : v < u
      · rw [if_pos q2, if_pos q2, if_neg (by decide), e_subDigits hd hy hx h2 h1 vy vx (by omega), o_ob]
        exact e_end hd
      · rw [if_neg q2, if_neg q2, if_pos (by decide), e_subDigits hd hx hy h1 h2 vx vy (by omega), o_ob, o_gI k1x, o_ob, Dl_ne _ _ _ _ h5, vx.2.2]
        exact e_end hd
  unfold fX1_add
  simp (disch := omega) only [o_gd, o_gI, o_ob, vy.2.2, jI_eq, b2_inj]
  by_cases q : t = less
  · rw [if_pos q, ← e13]
    rw [show (t != less) = false by rw [q]; simp]
    rfl
  · rw [if_neg q, ← e13]
    rw [show (t != less) = true by simpa using q]
    rfl
end D2
