section D3
variable {K : Nat → Nat} {I : Nat → Nat → Int32} {R : Nat → Nat → Nat} {L : Nat → Nat → Int64} {N : Nat → Nat} {w : Nat × Nat × Nat × Nat}
theorem cnv_le (v u i : Nat) (h : i < 64) : cnv 10 v u i ≤ 5184 := by
  have h1 : cnv 10 v u i ≤ (i + 1) * 81 := sm_le (fun j hj => by
    have a1 := dg_lt v j
    have a2 := dg_lt u (i - j)
    have : dgb 10 v j * dgb 10 u (i - j) ≤ 9 * 9 := Nat.mul_le_mul (show dg v j ≤ 9 by omega) (show dg u (i - j) ≤ 9 by omega)
    omega)
  omega
theorem car_le (v u : Nat) : ∀ i, i ≤ 64 → prT 10 v u i / 10 ^ i ≤ 600
  | 0, _ => by simp [prT, sm]
  | i + 1, h => by
    have h1 := car_le v u i (by omega)
    have h2 := cnv_le v u i (by omega)
    rw [(prT_dig (by omega) v u i).2]
    omega
/-- the sum of a turn of a product, so far -/
def cps (v u i j : Nat) : Nat := prT 10 v u i / 10 ^ i + sm (fun t => dg v t * dg u (i - t)) j
theorem sm_flat {f : Nat → Nat} {a : Nat} : ∀ d, (∀ t, a ≤ t → t < a + d → f t = 0) → sm f (a + d) = sm f a
  | 0, _ => rfl
  | d + 1, h => by
    show sm f (a + d) + f (a + d) = sm f a
    rw [sm_flat d (fun t h1 h2 => h t h1 (by omega)), h (a + d) (by omega) (by omega)]
    rfl
theorem dg_nd {v j : Nat} (h1 : nd v ≤ j) (h2 : j < 64) : dg v j = 0 := ndk_hi v 64 j h1 h2
theorem e_multiply {a x y v u : Nat} {s t : Bool} (hd : Dc K R N a) (hx : Dc K R N x) (hy : Dc K R N y) (h1 : x ≠ a) (h2 : y ≠ a) (h3 : x ≠ a + 1) (h4 : y ≠ a + 1) (vx : DV I x v s) (vy : DV I y u t) :
    fX1_multiply a x y (K, I, R, L, N, w) = some (K, dset I a (v * u) (s != t), R, L, N, w) := by
  have hd' := hd
  obtain ⟨k1, r0, k2, n2⟩ := hd
  obtain ⟨k1x, r0x, k2x, n2x⟩ := hx
  obtain ⟨k1y, r0y, k2y, n2y⟩ := hy
  have bs := b2_r s
  have bt := b2_r t
  have nv := nd_le v
  have nu := nd_le u
  unfold fX1_multiply
  simp (disch := omega) only [o_gd]
  have key := lp_up (z := fun _ _ _ _ _ _ => none) (S := fX1_multiply_5) (β := Hp) (fun k (i : Nat) => k a x y (jI ((prT 10 v u i / 10 ^ i : Nat) : Int)) (jI (i : Int)) (K, Dl I a (v * u) i, R, L, N, w))
    (E := some (K, dset I a (v * u) (s != t), R, L, N, w)) (M := 64) ?_ ?_ FU 0 (by omega) (FU_lt (by omega))
  · rw [Dl_0, show prT 10 v u 0 / 10 ^ 0 = 0 by simp [prT, sm]] at key
    exact key
  · intro i hi k
    have q0 := Dl_ne I a (v * u) i (x := x) (by omega)
    have q0' := Dl_ne I a (v * u) i (x := y) (by omega)
    have q1 := Dl_ne I a (v * u) i (x := x + 1) (by omega)
    have q2 := Dl_ne I a (v * u) i (x := y + 1) (by omega)
    have hc := car_le v u i (by omega)
    obtain ⟨p1, p2⟩ := prT_dig (B := 10) (by omega) v u i
    -- the inner loop
    have inner : ∀ n j, j ≤ i + 1 → j ≤ max (i + 1 - nd u) (nd v) → i + 1 - nd u ≤ j → i + 1 - j < n → lp (fun _ _ _ _ _ _ _ => none) (fX1_multiply_30 k) n a x y (jI (i : Int)) (jI (cps v u i j : Int)) (jI (j : Int)) (K, Dl I a (v * u) i, R, L, N, w)
        = k a x y (jI ((prT 10 v u (i + 1) / 10 ^ (i + 1) : Nat) : Int)) (jI ((i + 1 : Nat) : Int)) (K, Dl I a (v * u) (i + 1), R, L, N, w) := by
      have fin : cps v u i (i + 1) < 6000 → fX1_multiply_75 k a x y (jI (i : Int)) (jI (cps v u i (i + 1) : Int)) (K, Dl I a (v * u) i, R, L, N, w) = k a x y (jI ((prT 10 v u (i + 1) / 10 ^ (i + 1) : Nat) : Int)) (jI ((i + 1 : Nat) : Int)) (K, Dl I a (v * u) (i + 1), R, L, N, w) := by
        intro hlt
        have e1 : ((i : Int)).toNat = i := by omega
        have e2 : (i : Int) + 1 = ((i + 1 : Nat) : Int) := by omega
        have f1 : (cps v u i (i + 1) : Int) % 10 = (dg (v * u) i : Int) := by
          have : dg (v * u) i = cps v u i (i + 1) % 10 := p1
          omega
        have f2 : (cps v u i (i + 1) : Int) / 10 = ((prT 10 v u (i + 1) / 10 ^ (i + 1) : Nat) : Int) := by
          have : prT 10 v u (i + 1) / 10 ^ (i + 1) = cps v u i (i + 1) / 10 := p2
          omega
        unfold fX1_multiply_75
        simp (disch := omega) only [jI_lit, o_gR, o_ob, r0, jI_rem, o_qI, e1, o_lt, jI_div, jI_add, f1, f2, Dl_s, e2]
      have hb : ∀ j, j ≤ i + 1 → cps v u i j < 6000 := by
        intro j hj
        have : sm (fun t => dg v t * dg u (i - t)) j ≤ j * 81 := sm_le (fun t ht => by
          have a1 := dg_lt v t
          have a2 := dg_lt u (i - t)
          have : dg v t * dg u (i - t) ≤ 9 * 9 := Nat.mul_le_mul (by omega) (by omega)
          omega)
        unfold cps
        omega
      intro n
      induction n with
      | zero => intro j _ _ _ h; omega
      | succ n ih =>
        intro j hj hj2 hj3 hn
        show fX1_multiply_30 k (lp (fun _ _ _ _ _ _ _ => none) (fX1_multiply_30 k) n) a x y (jI (i : Int)) (jI (cps v u i j : Int)) (jI (j : Int)) (K, Dl I a (v * u) i, R, L, N, w) = _
        unfold fX1_multiply_30
        have hbj := hb j hj
        by_cases c1 : i < j
        · have ej : j = i + 1 := by omega
          subst ej
          simp (disch := omega) only [jI_lt]
          rw [if_pos (by omega)]
          exact fin hbj
        · by_cases c2 : nd v ≤ j
          · have e3 : cps v u i j = cps v u i (i + 1) := by
              unfold cps
              have := sm_flat (f := fun t => dg v t * dg u (i - t)) (a := j) (i + 1 - j) (fun t h1 h2 => by show dg v t * dg u (i - t) = 0; rw [dg_nd (v := v) (j := t) (by omega) (by omega), Nat.zero_mul])
              rw [show j + (i + 1 - j) = i + 1 by omega] at this
              rw [this]
            simp (disch := omega) only [jI_lt, o_gI, o_ob, q0, vx.2.1, jI_le]
            rw [if_neg (by omega), if_pos (by omega), e3]
            exact fin (hb _ (by omega))
          · have e4 : ((j : Int)).toNat = j := by omega
            have e5 : ((i : Int) - (j : Int)).toNat = i - j := by omega
            have e6 : (cps v u i j : Int) + (dg v j : Int) * (dg u (i - j) : Int) = (cps v u i (j + 1) : Int) := by
              have : cps v u i (j + 1) = cps v u i j + dg v j * dg u (i - j) := by
                unfold cps
                rw [Nat.add_assoc]
                rfl
              rw [this]
              simp
            have e7 : (j : Int) + 1 = ((j + 1 : Nat) : Int) := by omega
            have g1 := DV_at vx (k := j) (by omega)
            have g2 := DV_at vy (k := i - j) (by omega)
            simp (disch := omega) only [jI_lit, jI_lt, o_gI, o_gR, o_ob, q0, q1, q2, vx.2.1, jI_le, r0x, r0y, o_aI, jI_sub, e4, e5, g1, g2, jI_mul, jI_add, o_lt, e6, e7]
            rw [if_neg (by omega), if_neg (by omega)]
            exact ih (j + 1) (by omega) (by omega) (by omega) (by omega)
    unfold fX1_multiply_5
    have e8 : max 0 ((i : Int) - (nd u : Int) + 1) = ((i + 1 - nd u : Nat) : Int) := by omega
    have e9 : cps v u i (i + 1 - nd u) = prT 10 v u i / 10 ^ i := by
      unfold cps
      have := sm_flat (f := fun t => dg v t * dg u (i - t)) (a := 0) (i + 1 - nd u) (fun t h1 h2 => by show dg v t * dg u (i - t) = 0; rw [dg_nd (v := u) (j := i - t) (by omega) (by omega), Nat.mul_zero])
      rw [Nat.zero_add] at this
      rw [this]
      rfl
    simp (disch := omega) only [jI_lit, jI_le, o_gI, o_ob, q0', vy.2.1, jI_sub, jI_add, jI_max, o_lt, e8]
    rw [if_neg (by omega), ← e9]
    exact inner FU (i + 1 - nd u) (by omega) (by omega) (by omega) (FU_lt (by omega))
  · intro k
    have q0 := Dl_ne I a (v * u) 64 (x := x) (by omega)
    have q0' := Dl_ne I a (v * u) 64 (x := y) (by omega)
    unfold fX1_multiply_5 fX1_multiply_116
    simp (disch := omega) only [jI_lit, jI_le, o_gI, o_ob, q0, q0', vx.2.2, vy.2.2, jI_eq, b2_inj]
    rw [if_pos (by omega)]
    have ee := e_end (I := I) (L := L) (w := w) (v := v * u) (s := s != t) hd'
    by_cases q : s = t
    · rw [if_pos q]
      rw [show (s != t) = false by rw [q]; simp] at ee ⊢
      exact ee
    · rw [if_neg q]
      rw [show (s != t) = true by simpa using q] at ee ⊢
      exact ee
end D3
