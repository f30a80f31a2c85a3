section D4
variable {K : Nat → Nat} {I : Nat → Nat → Int32} {R : Nat → Nat → Nat} {L : Nat → Nat → Int64} {N : Nat → Nat} {w : Nat × Nat × Nat × Nat}
theorem cmp_ge (x y : Int64) : (jI 0 ≤ lg_cmp x y) ↔ y ≤ x := by rw [show jI 0 = (0 : Int32) from (jI_lit 0).symm]; exact lg_cmp_ge x y
theorem cmp_le (x y : Int64) : (lg_cmp x y ≤ jI 0) ↔ x ≤ y := by rw [show jI 0 = (0 : Int32) from (jI_lit 0).symm]; exact lg_cmp_le x y
theorem cmp_gt (x y : Int64) : (jI 0 < lg_cmp x y) ↔ y < x := by rw [show jI 0 = (0 : Int32) from (jI_lit 0).symm]; exact lg_cmp_gt x y
theorem cmp_lt (x y : Int64) : (lg_cmp x y < jI 0) ↔ x < y := by rw [show jI 0 = (0 : Int32) from (jI_lit 0).symm]; exact lg_cmp_lt x y
theorem cmp_eq (x y : Int64) : (lg_cmp x y = jI 0) ↔ x = y := by rw [show jI 0 = (0 : Int32) from (jI_lit 0).symm]; exact lg_cmp_eq x y
theorem e_size {a v : Nat} {s : Bool} (hd : Dc K R N a) (hv : DV I a v s) : fX1_size a (K, I, R, L, N, w) = some (jI (nd v : Int)) := by
  have k1 := hd.1
  unfold fX1_size
  rw [o_gd _ k1, o_gI k1, o_ob, hv.2.1]
theorem e_belowD {a v : Nat} {s : Bool} (hd : Dc K R N a) (hv : DV I a v s) : fX1_below a (K, I, R, L, N, w) = some (jI (b2 s)) := by
  have k1 := hd.1
  unfold fX1_below
  rw [o_gd _ k1, o_gI k1, o_ob, hv.2.2, o_rz _ (b2_01 s)]
theorem e_sign {a v : Nat} {s : Bool} (hd : Dc K R N a) (hv : DV I a v s) (h : v < 10 ^ 64) : fX1_sign a (K, I, R, L, N, w) = some (jI (if s ∧ v ≠ 0 then 13 else 12)) := by
  have k1 := hd.1
  have bs := b2_r s
  have n0 := nd_0 h
  have nl := nd_le v
  unfold fX1_sign
  simp (disch := omega) only [jI_lit, o_gd, o_gI, o_ob, hv.2.2, hv.2.1, jI_eq, jI_le]
  cases s with
  | false => simp [b2]
  | true =>
    by_cases q : v = 0
    · have : nd v = 0 := n0.2 q
      rw [if_neg (by decide), if_pos (by omega), if_neg (by simp [q])]
    · have : nd v ≠ 0 := fun e => q (n0.1 e)
      rw [if_neg (by decide), if_neg (by omega), if_pos (by simp [q])]
theorem e_kind {a v : Nat} {s : Bool} (hd : Dc K R N a) (hv : DV I a v s) (h : v < 10 ^ 64) : fX1_kind a (K, I, R, L, N, w) = some (jI (ccK v s)) := by
  have k1 := hd.1
  have bs := b2_r s
  have n0 := nd_0 h
  have nl := nd_le v
  unfold fX1_kind ccK
  simp (disch := omega) only [jI_lit, o_gd, o_gI, o_ob, hv.2.2, hv.2.1, jI_eq]
  by_cases q : v = 0
  · have : nd v = 0 := n0.2 q
    rw [if_pos (by omega), if_pos q]
  · have : nd v ≠ 0 := fun e => q (n0.1 e)
    rw [if_neg (by omega), if_neg q]
    cases s <;> simp [b2]
theorem e_digit {a v : Nat} {s : Bool} {z : Int} (hd : Dc K R N a) (hv : DV I a v s) (h1 : -2147483648 ≤ z) (h2 : z < 2147483648) : fX1_digit a (jI z) (K, I, R, L, N, w) = some (jI (if 0 ≤ z ∧ z < 64 then (dg v z.toNat : Int) else 0)) := by
  obtain ⟨k1, r0, k2, n2⟩ := hd
  unfold fX1_digit
  by_cases q : 0 ≤ z ∧ z < 64
  · have g := DV_at hv (k := z.toNat) (by omega)
    simp (disch := omega) only [jI_lit, o_gd, jI_lt, jI_le, o_gR, o_ob, r0, o_aI, g]
    rw [if_neg (by omega), if_neg (by omega), if_pos q]
  · simp (disch := omega) only [jI_lit, o_gd, jI_lt, jI_le]
    rw [if_neg q]
    split
    · rfl
    · rw [if_pos (by omega)]
theorem dg_shl (v n i : Nat) : dg (v * 10 ^ n) i = if i < n then 0 else dg v (i - n) := by
  by_cases q : i < n
  · rw [if_pos q]
    have := dgb_hi (B := 10) (by omega) 0 v q
    rw [Nat.zero_add] at this
    show dgb 10 _ _ = 0
    rw [this]
    simp [dgb]
  · rw [if_neg q]
    have e : 10 ^ i = 10 ^ n * 10 ^ (i - n) := by rw [← Nat.pow_add]; congr 1; omega
    unfold dg
    rw [e, Nat.mul_comm v, Nat.mul_div_mul_left _ _ (Nat.pow_pos (by omega))]
theorem dg_shr (v n i : Nat) : dg (v / 10 ^ n) i = dg v (i + n) := by
  unfold dg
  rw [Nat.div_div_eq_div_mul, ← Nat.pow_add, Nat.add_comm]
theorem e_shiftLeft {a x v n : Nat} {s : Bool} (hd : Dc K R N a) (hx : Dc K R N x) (h1 : x ≠ a) (h3 : x ≠ a + 1) (vx : DV I x v s) (hn : n ≤ 31) :
    fX1_shiftLeft a x (jI (n : Int)) (K, I, R, L, N, w) = some (K, dset I a (v * 10 ^ n) s, R, L, N, w) := by
  have hd' := hd
  have hx' := hx
  obtain ⟨k1, r0, k2, n2⟩ := hd
  obtain ⟨k1x, r0x, k2x, n2x⟩ := hx
  unfold fX1_shiftLeft
  simp (disch := omega) only [o_gd]
  have hDV : ∀ i, DV (Dl I a (v * 10 ^ n) i) x v s := fun i => by
    unfold DV
    rw [Dl_ne _ _ _ _ h3, Dl_ne _ _ _ _ (show x + 1 ≠ a + 1 by omega)]
    exact vx
  have key := lp_up (z := fun _ _ _ _ _ => none) (S := fX1_shiftLeft_2) (β := Hp) (fun k (i : Nat) => k a x (jI (n : Int)) (jI (i : Int)) (K, Dl I a (v * 10 ^ n) i, R, L, N, w))
    (E := some (K, dset I a (v * 10 ^ n) s, R, L, N, w)) (M := 64) ?_ ?_ FU 0 (by omega) (FU_lt (by omega))
  · rw [Dl_0] at key
    exact key
  · intro i hi k
    have eg := e_digit (L := L) (w := w) hx' (hDV i) (z := (i : Int) - n) (by omega) (by omega)
    have e1 : ((i : Int)).toNat = i := by omega
    have e2 : (i : Int) + 1 = ((i + 1 : Nat) : Int) := by omega
    have e3 : (if 0 ≤ (i : Int) - n ∧ (i : Int) - n < 64 then (dg v ((i : Int) - n).toNat : Int) else 0) = (dg (v * 10 ^ n) i : Int) := by
      rw [dg_shl]
      by_cases q : i < n
      · rw [if_neg (by omega), if_pos q]; rfl
      · rw [if_pos (by omega), if_neg q, show ((i : Int) - n).toNat = i - n by omega]
    rw [e3] at eg
    unfold fX1_shiftLeft_2
    simp (disch := omega) only [jI_lit, jI_le, o_gR, o_ob, r0, jI_sub, eg, o_qI, e1, jI_add, e2, o_lt, Dl_s]
    rw [if_neg (by omega)]
  · intro k
    unfold fX1_shiftLeft_2
    simp (disch := omega) only [jI_lit, jI_le, o_gI, o_ob, (hDV 64).2.2]
    rw [if_pos (by omega)]
    exact e_end hd'
/-- the carry into a place, when a number is more by c (0 or 1) -/
def cr1 (x c i : Nat) : Nat := (x + c) / 10 ^ i - x / 10 ^ i
theorem cr1_all (x c : Nat) (h : c ≤ 1) : ∀ i, (x + c) / 10 ^ i = x / 10 ^ i + cr1 x c i ∧ cr1 x c i ≤ 1
  | 0 => by unfold cr1; rw [div_0, div_0]; omega
  | i + 1 => by
    have h := cr1_all x c h i
    unfold cr1
    rw [div_s, div_s]
    omega
theorem cr1_s (x c i : Nat) (h : c ≤ 1) : dg x i + cr1 x c i = dg (x + c) i + 10 * cr1 x c (i + 1) ∧ cr1 x c i ≤ 1 ∧ cr1 x c (i + 1) ≤ 1 := by
  have h1 := cr1_all x c h i
  have h2 := cr1_all x c h (i + 1)
  rw [div_s, div_s] at h2
  unfold dg
  omega
theorem e_shiftRight {a x v n r : Nat} {s : Bool} (hd : Dc K R N a) (hx : Dc K R N x) (h1 : x ≠ a) (h3 : x ≠ a + 1) (vx : DV I x v s) (hn : 1 ≤ n) (hn2 : n ≤ 32) (hr : r ≤ 9) (hv : v < 10 ^ 64) :
    fX1_shiftRight a x (jI (n : Int)) (jI (r : Int)) (K, I, R, L, N, w) = some (K, dset I a (rnd v n r) s, R, L, N, w) := by
  have hd' := hd
  have hx' := hx
  obtain ⟨k1, r0, k2, n2⟩ := hd
  obtain ⟨k1x, r0x, k2x, n2x⟩ := hx
  obtain ⟨c, hc, hc1, hrn⟩ : ∃ c : Nat, c = (if 9 < dg v (n - 1) + r then 1 else 0) ∧ c ≤ 1 ∧ rnd v n r = v / 10 ^ n + c := ⟨_, rfl, by split <;> omega, rfl⟩
  have hDV : ∀ i, DV (Dl I a (v / 10 ^ n + c) i) x v s := fun i => by
    unfold DV
    rw [Dl_ne _ _ _ _ h3, Dl_ne _ _ _ _ (show x + 1 ≠ a + 1 by omega)]
    exact vx
  have key := lp_up (z := fun _ _ _ _ _ _ => none) (S := fX1_shiftRight_24) (β := Hp) (fun k (i : Nat) => k a x (jI (n : Int)) (jI (cr1 (v / 10 ^ n) c i : Int)) (jI (i : Int)) (K, Dl I a (v / 10 ^ n + c) i, R, L, N, w))
    (E := some (K, dset I a (v / 10 ^ n + c) s, R, L, N, w)) (M := 64) ?_ ?_ FU 0 (by omega) (FU_lt (by omega))
  · rw [Dl_0, show cr1 (v / 10 ^ n) c 0 = c by unfold cr1; rw [div_0, div_0]; omega] at key
    have eg := e_digit (L := L) (w := w) hx' vx (z := (n : Int) - 1) (by omega) (by omega)
    rw [if_pos (by omega), show ((n : Int) - 1).toNat = n - 1 by omega] at eg
    have d1 := dg_lt v (n - 1)
    unfold fX1_shiftRight
    simp (disch := omega) only [jI_lit, o_gd, jI_sub, eg, o_ob, jI_add, jI_le]
    rw [hrn]
    by_cases q : 9 < dg v (n - 1) + r
    · rw [if_pos q] at hc
      rw [if_neg (by omega)]
      rw [hc] at key ⊢
      exact key
    · rw [if_neg q] at hc
      rw [if_pos (by omega)]
      rw [hc] at key ⊢
      exact key
  · intro i hi k
    have eg := e_digit (L := L) (w := w) hx' (hDV i) (z := (i : Int) + n) (by omega) (by omega)
    have e1 : ((i : Int)).toNat = i := by omega
    have e2 : (i : Int) + 1 = ((i + 1 : Nat) : Int) := by omega
    have e3 : (if 0 ≤ (i : Int) + n ∧ (i : Int) + n < 64 then (dg v ((i : Int) + n).toNat : Int) else 0) = (dg (v / 10 ^ n) i : Int) := by
      rw [dg_shr]
      by_cases q : i + n < 64
      · rw [if_pos (by omega), show ((i : Int) + n).toNat = i + n by omega]
      · rw [if_neg (by omega)]
        have : dg v (i + n) = 0 := dgb_0 (B := 10) (Nat.lt_of_lt_of_le hv (Nat.pow_le_pow_right (by omega) (by omega)))
        rw [this]; rfl
    rw [e3] at eg
    obtain ⟨c1, c2, c3⟩ := cr1_s (v / 10 ^ n) c i hc1
    have d1 := dg_lt (v / 10 ^ n) i
    have d3 := dg_lt (v / 10 ^ n + c) i
    unfold fX1_shiftRight_24 fX1_shiftRight_56
    simp (disch := omega) only [jI_lit, jI_le, o_ob, jI_add, eg, o_lt, o_gR, r0, jI_mul, jI_sub, o_qI, e1, e2]
    rw [if_neg (by omega)]
    by_cases q : cr1 (v / 10 ^ n) c (i + 1) = 0
    · rw [if_pos (by omega), show (dg (v / 10 ^ n) i : Int) + cr1 (v / 10 ^ n) c i - 10 * 0 = dg (v / 10 ^ n + c) i by omega, Dl_s, q]; rfl
    · have q3 : cr1 (v / 10 ^ n) c (i + 1) = 1 := by omega
      rw [if_neg (by omega), show (dg (v / 10 ^ n) i : Int) + cr1 (v / 10 ^ n) c i - 10 * 1 = dg (v / 10 ^ n + c) i by omega, Dl_s, q3]; rfl
  · intro k
    unfold fX1_shiftRight_24
    simp (disch := omega) only [jI_lit, jI_le, o_gI, o_ob, (hDV 64).2.2]
    rw [if_pos (by omega)]
    exact e_end hd'
/-- a number that falls to its quotient by powers of ten -/
def tq (z : Int) (i : Nat) : Int := if z < 0 then -((z.natAbs / 10 ^ i : Nat) : Int) else ((z.natAbs / 10 ^ i : Nat) : Int)
theorem tq_s (z : Int) (i : Nat) : (tq z i).tdiv 10 = tq z (i + 1) := by
  unfold tq
  rw [div_s]
  generalize z.natAbs / 10 ^ i = m
  by_cases q : z < 0
  · rw [if_pos q, if_pos q, Int.neg_tdiv, Int.tdiv_eq_ediv_of_nonneg (by omega)]
    omega
  · rw [if_neg q, if_neg q, Int.tdiv_eq_ediv_of_nonneg (by omega)]
    omega
theorem tq_d (z : Int) (i : Nat) : (((tq z i).tmod 10).natAbs : Int) = (dg z.natAbs i : Int) := by
  unfold tq dg
  generalize z.natAbs / 10 ^ i = m
  rw [Int.natAbs_tmod, show (10 : Int).natAbs = 10 from rfl]
  by_cases q : z < 0
  · rw [if_pos q, Int.natAbs_neg, Int.natAbs_natCast]
  · rw [if_neg q, Int.natAbs_natCast]
theorem tq_le (z : Int) (i : Nat) : (tq z i).natAbs ≤ z.natAbs := by
  have := Nat.div_le_self z.natAbs (10 ^ i)
  unfold tq
  split
  · rw [Int.natAbs_neg, Int.natAbs_natCast]; exact this
  · rw [Int.natAbs_natCast]; exact this
theorem e_takeNumber {a : Nat} {z : Int} (hd : Dc K R N a) (h1 : -9000000000000000000 ≤ z) (h2 : z < 9000000000000000000) :
    fX1_takeNumber a (jL z) (K, I, R, L, N, w) = some (K, dset I a z.natAbs (decide (z < 0)), R, L, N, w) := by
  have hd' := hd
  obtain ⟨k1, r0, k2, n2⟩ := hd
  unfold fX1_takeNumber
  simp (disch := omega) only [o_gd]
  have key := lp_up (z := fun _ _ _ _ _ => none) (S := fX1_takeNumber_5) (β := Hp) (fun k (i : Nat) => k a (jL z) (jL (tq z i)) (jI (i : Int)) (K, Dl I a z.natAbs i, R, L, N, w))
    (E := some (K, dset I a z.natAbs (decide (z < 0)), R, L, N, w)) (M := 64) ?_ ?_ FU 0 (by omega) (FU_lt (by omega))
  · rw [Dl_0, show tq z 0 = z by unfold tq; rw [div_0]; split <;> omega] at key
    exact key
  · intro i hi k
    have e1 : ((i : Int)).toNat = i := by omega
    have e2 : (i : Int) + 1 = ((i + 1 : Nat) : Int) := by omega
    have tl := tq_le z i
    have td := tq_d z i
    have ts := tq_s z i
    have d1 := dg_lt z.natAbs i
    unfold fX1_takeNumber_5
    simp (disch := omega) only [jI_lit, jL_lit, jI_le, o_gR, o_ob, r0, jL_trem, jL_abs, td, jL_short, o_qI, e1, o_lt, jL_tdiv, ts, jI_add, e2, Dl_s]
    rw [if_neg (by omega)]
  · intro k
    unfold fX1_takeNumber_5 fX1_takeNumber_52
    have ee := e_end (I := I) (L := L) (w := w) (v := z.natAbs) (s := decide (z < 0)) hd'
    simp (disch := omega) only [jI_lit, jL_lit, jI_le, cmp_ge, jL_le]
    rw [if_pos (by omega)]
    by_cases q : 0 ≤ z
    · rw [if_pos q]
      rw [show decide (z < 0) = false by simp; omega] at ee ⊢
      exact ee
    · rw [if_neg q]
      rw [show decide (z < 0) = true by simp; omega] at ee ⊢
      exact ee
theorem e_magnitude {a v : Nat} {s : Bool} (hd : Dc K R N a) (hv : DV I a v s) (h : v < 10 ^ 18) : fX1_magnitude a (K, I, R, L, N, w) = some (jL (v : Int)) := by
  obtain ⟨k1, r0, k2, n2⟩ := hd
  have nv : nd v ≤ 18 := by
    apply Decidable.byContradiction
    intro q
    have := (nd_gt (v := v) (n := 18) (by omega)).1 (by omega)
    omega
  have nv2 := nd_lt (v := v) (by omega)
  unfold fX1_magnitude
  have e1 : min (nd v : Int) 18 - 1 = (nd v : Int) - 1 := by omega
  simp (disch := omega) only [jI_lit, o_gd, o_gI, o_ob, hv.2.1, jI_min, jI_sub, o_lt, e1]
  have key := lp_g (z := fun _ _ _ => none) (S := fX1_magnitude_14 (K, I, R, L, N, w)) (β := Option Int64) (ev := fun k (j : Nat) => k a (jL ((v / 10 ^ j : Nat) : Int)) (jI ((j : Int) - 1))) (G := fun _ => some (jL (v : Int)))
    (Inv := fun j => j ≤ 18) (M := fun j => j) ?_ FU (nd v) nv (FU_lt (by omega))
  · rw [Nat.div_eq_of_lt nv2] at key
    exact key
  · intro j hj
    unfold fX1_magnitude_14
    cases j with
    | zero =>
      left; intro k
      simp (disch := omega) only [jI_lit, jI_lt, div_0]
      rw [if_pos (by omega)]
    | succ j =>
      right
      have e1 : ((j + 1 : Nat) : Int) - 1 = (j : Int) := by omega
      have e3 : ((j : Int)).toNat = j := by omega
      have g := DV_at hv (k := j) (by omega)
      have e4 : ((v / 10 ^ (j + 1) : Nat) : Int) * 10 + (dg v j : Int) = ((v / 10 ^ j : Nat) : Int) := by
        rw [div_s]
        unfold dg
        omega
      have e5 : v / 10 ^ j ≤ v := Nat.div_le_self _ _
      have d1 := dg_lt v j
      refine ⟨j, by omega, by omega, rfl, fun k => ?_⟩
      simp (disch := omega) only [jI_lit, jL_lit, jI_neg, jI_lt, e1, o_gR, o_ob, r0, o_aI, e3, g, jL_mul, jI_long, jL_add, o_lt, jI_add, e4]
      rw [if_neg (by omega)]
      rfl
theorem e_value {a v : Nat} {s : Bool} (hd : Dc K R N a) (hv : DV I a v s) (h : v < 10 ^ 18) : fX1_value a (K, I, R, L, N, w) = some (jL (if s then -(v : Int) else v)) := by
  have k1 := hd.1
  have bs := b2_r s
  unfold fX1_value
  simp (disch := omega) only [jI_lit, o_gd, o_gI, o_ob, hv.2.2, jI_eq, e_magnitude hd hv h, jL_neg]
  cases s <;> simp [b2]
theorem dvq {v d j : Nat} (hd : 0 < d) : (10 * (v / 10 ^ (j + 1) % d) + dg v j) / d = dg (v / d) j ∧ (10 * (v / 10 ^ (j + 1) % d) + dg v j) % d = v / 10 ^ j % d := by
  have e : v / 10 ^ j = d * (10 * (v / 10 ^ (j + 1) / d)) + (10 * (v / 10 ^ (j + 1) % d) + dg v j) := by
    have h1 := Nat.div_add_mod (v / 10 ^ (j + 1)) d
    have h2 : v / 10 ^ j = 10 * (v / 10 ^ (j + 1)) + dg v j := by rw [div_s]; unfold dg; omega
    rw [h2]
    have h3 : d * (10 * (v / 10 ^ (j + 1) / d)) = 10 * (d * (v / 10 ^ (j + 1) / d)) := Nat.mul_left_comm _ _ _
    omega
  have hr := Nat.mod_lt (v / 10 ^ (j + 1)) hd
  have d1 := dg_lt v j
  have hq : (10 * (v / 10 ^ (j + 1) % d) + dg v j) / d < 10 := Nat.div_lt_of_lt_mul (by omega)
  constructor
  · have : dg (v / d) j = (v / 10 ^ j) / d % 10 := by
      unfold dg
      rw [Nat.div_div_eq_div_mul, Nat.div_div_eq_div_mul, Nat.mul_comm d]
    rw [this, e, Nat.mul_add_div hd, Nat.mul_add_mod, Nat.mod_eq_of_lt hq]
  · rw [e, Nat.mul_add_mod]
theorem e_divide {a x v d : Nat} {s t : Bool} (hd : Dc K R N a) (hx : Dc K R N x) (h1 : x ≠ a) (h3 : x ≠ a + 1) (vx : DV I x v s) (hs : I a 2 = jI (b2 t)) (hp : 0 < d) (hd1 : d < 100000000000000000) (hv : v < 10 ^ 64) :
    fX1_divide a x (jL (d : Int)) (K, I, R, L, N, w) = some (jL ((v % d : Nat) : Int), (K, dset I a (v / d) t, R, L, N, w)) := by
  have hd' := hd
  obtain ⟨k1, r0, k2, n2⟩ := hd
  obtain ⟨k1x, r0x, k2x, n2x⟩ := hx
  unfold fX1_divide
  simp (disch := omega) only [jI_lit, jL_lit, o_gd, cmp_gt, jL_lt]
  rw [if_pos (by omega)]
  have key := lp_up (z := fun _ _ _ _ _ _ => none) (S := fX1_divide_17) (β := Int64 × Hp) (fun k (i : Nat) => k a x (jL (d : Int)) (jL ((v / 10 ^ (64 - i) % d : Nat) : Int)) (jI (63 - (i : Int))) (K, va_up I (a + 1) (fun k => if k < 64 ∧ 64 - i ≤ k then jI (dg (v / d) k : Int) else I (a + 1) k), R, L, N, w))
    (E := some (jL ((v % d : Nat) : Int), (K, dset I a (v / d) t, R, L, N, w))) (M := 64) ?_ ?_ FU 0 (by omega) (FU_lt (by omega))
  · have z1 : v / 10 ^ (64 - 0) % d = 0 := by rw [Nat.div_eq_of_lt (by omega), Nat.zero_mod]
    have z2 : (fun k => if k < 64 ∧ 64 - 0 ≤ k then jI (dg (v / d) k : Int) else I (a + 1) k) = I (a + 1) := by
      funext k
      rw [if_neg (by omega)]
    rw [z1, z2, up_id] at key
    exact key
  · intro i hi k
    obtain ⟨j, hj⟩ : ∃ j, 64 - i = j + 1 := ⟨63 - i, by omega⟩
    have hj2 : 64 - (i + 1) = j := by omega
    have e0 : 63 - (i : Int) = (j : Int) := by omega
    have e1 : ((j : Int)).toNat = j := by omega
    have e2 : (63 - ((i + 1 : Nat) : Int)) = (j : Int) + -1 := by omega
    rw [hj, hj2, e2, e0]
    have g := DV_at vx (k := j) (by omega)
    obtain ⟨q1, q2⟩ := dvq (v := v) (d := d) (j := j) hp
    have hr := Nat.mod_lt (v / 10 ^ (j + 1)) hp
    have d1 := dg_lt v j
    have d2 := dg_lt (v / d) j
    have e3 : (v / 10 ^ (j + 1) % d : Nat) * (10 : Int) + (dg v j : Int) = ((10 * (v / 10 ^ (j + 1) % d) + dg v j : Nat) : Int) := by omega
    have e4 : ((10 * (v / 10 ^ (j + 1) % d) + dg v j : Nat) : Int) / (d : Int) = (dg (v / d) j : Int) := by rw [← q1]; rfl
    have e5 : ((10 * (v / 10 ^ (j + 1) % d) + dg v j : Nat) : Int) % (d : Int) = ((v / 10 ^ j % d : Nat) : Int) := by rw [← q2]; rfl
    have e6 : ¬ jL (d : Int) = jL 0 := by rw [jL_eq (by omega) (by omega) (by omega) (by omega)]; omega
    have e7 := va_up_ne I (k := a + 1) (j := x + 1) (fun k => if k < 64 ∧ j + 1 ≤ k then jI (dg (v / d) k : Int) else I (a + 1) k) (by omega)
    unfold fX1_divide_17
    simp (disch := omega) only [jI_lit, jL_lit, jI_lt, o_gR, o_ob, r0, r0x, o_aI, e1, e7, g, jI_long, jL_mul, jL_add, o_lt, e3, jL_div, e4, jL_short, o_qI, jL_rem, e5, jI_neg, jI_add]
    rw [if_neg (by omega), o_nz _ e6, o_nz _ e6, va_up_self, upup]
    congr 3
    congr 1
    funext y
    unfold va_up
    by_cases hy : y = j
    · subst hy
      rw [if_pos rfl, if_pos (by omega)]
    · rw [if_neg hy]
      show (if y < 64 ∧ j + 1 ≤ y then jI (dg (v / d) y : Int) else I (a + 1) y) = _
      by_cases hy2 : y < 64 ∧ j + 1 ≤ y
      · rw [if_pos hy2, if_pos (by omega)]
      · rw [if_neg hy2, if_neg (by omega)]
  · intro k
    have z2 : (va_up I (a + 1) (fun k => if k < 64 ∧ 64 - 64 ≤ k then jI (dg (v / d) k : Int) else I (a + 1) k)) = Dl I a (v / d) 64 := by
      unfold Dl
      congr 1
      funext k
      by_cases hk : k < 64
      · rw [if_pos (by omega), if_pos hk]
      · rw [if_neg (by omega), if_neg hk]
    have z3 : v / 10 ^ (64 - 64) % d = v % d := by rw [Nat.sub_self, div_0]
    rw [z2, z3]
    unfold fX1_divide_17
    simp (disch := omega) only [jI_lit, jI_lt]
    rw [if_pos (by omega), e_endm hd' hs, o_ob]
end D4
