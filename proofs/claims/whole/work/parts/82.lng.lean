section LNG
/-! THE REFERENCE'S ROWS OF PARTS, its halves -/
variable {c : MC} {m : Nat} {s t : SI2}
def Lz (f : Nat → Int) (v : Nat) : Nat → Int := fun k => if k < 8 then (dgb 100000000 v k : Int) else f k
def LV (f : Nat → Int) (v : Nat) : Prop := ∀ k, k < 8 → f k = (dgb 100000000 v k : Int)
theorem LV_Lz (f : Nat → Int) (v : Nat) : LV (Lz f v) v := fun k hk => if_pos hk
theorem mLo {j : Nat} (h1 : 18 ≤ j) (h2 : j ≤ 21) : mK j = 102 ∧ mN j = 8 := by
  have cs : j = 18 ∨ j = 19 ∨ j = 20 ∨ j = 21 := by omega
  rcases cs with e | e | e | e <;> (subst e; exact ⟨rfl, rfl⟩)
theorem l_a {j : Nat} {z : Int} (hm : Mo c m) (h1 : 18 ≤ j) (h2 : j ≤ 21) (z0 : 0 ≤ z) (z1 : z < 8) : aL (m + j) (jI z) (MH c m s t) = some (jL (t j z.toNat)) :=
  m_aL hm (by omega) (by omega) (mLo h1 h2).1 z0 (by rw [(mLo h1 h2).2]; exact z1)
theorem l_q {j : Nat} {z v : Int} (hm : Mo c m) (h1 : 18 ≤ j) (h2 : j ≤ 21) (z0 : 0 ≤ z) (z1 : z < 8) : qL (m + j) (jI z) (jL v) (MH c m s t) = some (MH c m s (va_up t j (va_up (t j) z.toNat v))) :=
  m_qL hm (by omega) (by omega) (mLo h1 h2).1 z0 (by rw [(mLo h1 h2).2]; exact z1)
theorem w_isIn {z a b : Int} (z1 : -9223372036854775808 ≤ z) (z2 : z < 9223372036854775808) (a1 : -9223372036854775808 ≤ a) (a2 : a < 9223372036854775808) (b1 : -9223372036854775808 ≤ b) (b2 : b < 9223372036854775808) : fX13_isIn (jL z) (jL a) (jL b) = some (if a ≤ z ∧ z ≤ b then jI 1 else jI 0) := by
  unfold fX13_isIn
  rw [show (0 : Int32) = jI 0 from rfl]
  by_cases x : z < a
  · rw [if_pos ((cmp_lt _ _).2 ((jL_lt z1 z2 a1 a2).2 x)), if_neg (by omega)]
  · rw [if_neg (fun e => x ((jL_lt z1 z2 a1 a2).1 ((cmp_lt _ _).1 e)))]
    by_cases y : b < z
    · rw [if_pos ((cmp_gt _ _).2 ((jL_lt b1 b2 z1 z2).2 y)), if_neg (by omega)]
    · rw [if_neg (fun e => y ((jL_lt b1 b2 z1 z2).1 ((cmp_gt _ _).1 e))), if_pos (by omega)]
      rfl
theorem w_isInI {z a b : Int} (z1 : -2147483648 ≤ z) (z2 : z < 2147483648) (a1 : -2147483648 ≤ a) (a2 : a < 2147483648) (b1 : -2147483648 ≤ b) (b2 : b < 2147483648) : fX13_isIn (Int32.toInt64 (jI z)) (jL a) (jL b) = some (if a ≤ z ∧ z ≤ b then jI 1 else jI 0) := by
  rw [jI_long z1 z2]
  exact w_isIn (by omega) (by omega) (by omega) (by omega) (by omega) (by omega)
theorem w_half {z : Int} (hm : Mo c m) (hb : Byt (s 3)) (h0 : 0 ≤ z) (h1 : z < 512) : fX13_halfAt m (jI z) (MH c m s t) = some (jI (hf (s 3) z.toNat)) := by
  have b := hb (z / 2).toNat (by omega)
  have e2 := ir2 h0 (show z < 2147483648 by omega)
  have e3 := id2 h0 (show z < 2147483648 by omega)
  have e4 : (z / 2).toNat = z.toNat / 2 := by omega
  unfold fX13_halfAt hf
  (rw [m_gd _ hm, e2]; (try rw [e3]))
  by_cases q : z % 2 = 0
  · (rw [if_pos (by rw [q]; rfl)]; (try rw [m_R3 hm]); rw [o_ob, m_a3 hm (by omega) (by omega), o_ob]; (try rw [show ((4 : Int32) &&& 31) = (jI 4 &&& jI 31) from rfl]); rw [jI_shr4 (by omega) (by omega), if_pos (by omega)]; (try rw [e4]))
  · have q1 : z % 2 = 1 := by omega
    (rw [if_neg (by rw [q1]; decide)]; (try rw [m_R3 hm]); rw [o_ob, m_a3 hm (by omega) (by omega), o_ob]; (try rw [show (15 : Int32) = jI 15 from rfl]); rw [jI_and15, if_neg (by omega)]; (try rw [e4]))
theorem w_lay {z v : Int} (hm : Mo c m) (hb : Byt (s 3)) (h0 : 0 ≤ z) (h1 : z < 512) : fX13_layHalf m (jI z) (jI v) (MH c m s t) = some (MH c m (va_up s 3 (pth (s 3) z.toNat v)) t) := by
  have b := hb (z / 2).toNat (by omega)
  have e2 := ir2 h0 (show z < 2147483648 by omega)
  have e3 := id2 h0 (show z < 2147483648 by omega)
  have e4 : (z / 2).toNat = z.toNat / 2 := by omega
  unfold fX13_layHalf fX13_layHalf_46 pth
  (rw [m_gd _ hm, e2]; (try rw [e3]); (try rw [m_R3 hm]); rw [o_ob])
  by_cases q : z % 2 = 0
  · (rw [if_pos (by rw [q]; rfl)]; (try rw [m_R3 hm]); rw [o_ob, m_a3 hm (by omega) (by omega), o_ob]; (try rw [show (15 : Int32) = jI 15 from rfl]); rw [jI_and15]; (try rw [show (16 : Int32) = jI 16 from rfl]); (try rw [jI_mul]); (try rw [jI_add]); rw [m_q3 hm (by omega) (by omega), o_ob, if_pos (by omega)]; (try rw [e4]))
  · have q1 : z % 2 = 1 := by omega
    (rw [if_neg (by rw [q1]; decide)]; (try rw [m_R3 hm]); rw [o_ob, m_a3 hm (by omega) (by omega), o_ob]; (try rw [show (240 : Int32) = jI 240 from rfl]); rw [jI_and240 (by omega) (by omega)]; (try rw [jI_add]); rw [m_q3 hm (by omega) (by omega), o_ob, if_neg (by omega)]; (try rw [e4]))
theorem w_pow {n : Nat} (hn : n < 9) : fX13_powerOf (jI (n : Int)) = some (jL ((10 ^ n : Nat) : Int)) := by
  unfold fX13_powerOf
  have key := lp_up (z := fun _ _ _ => none) (S := fX13_powerOf_4) (β := Int64) (fun k (i : Nat) => k (jI (n : Int)) (jL ((10 ^ i : Nat) : Int)) (jI (i : Int))) (E := some (jL ((10 ^ n : Nat) : Int))) (M := n) ?_ ?_ FU 0 (by omega) (FU_lt (by omega))
  · exact key
  · intro i hi k
    unfold fX13_powerOf_4
    have x1 : ¬ (jI (n : Int) ≤ jI (i : Int)) := by rw [jI_le (by omega) (by omega) (by omega) (by omega)]; omega
    (rw [if_neg x1, o_lt, o_lt]; (try rw [show (10 : Int64) = jL 10 from rfl]); rw [jL_mul]; (try rw [show (1 : Int32) = jI 1 from rfl]); (try rw [jI_add]); rw [Nat.pow_succ])
    rfl
  · intro k
    unfold fX13_powerOf_4
    rw [if_pos (by rw [jI_le (by omega) (by omega) (by omega) (by omega)]; omega)]
theorem Lz_0s (f : Nat → Int) (i : Nat) (hi : i < 8) : va_up (fun k => if k < i then (0 : Int) else f k) i 0 = fun k => if k < i + 1 then 0 else f k := up_lt (fun _ => 0) f i
theorem w_clear {j : Nat} (hm : Mo c m) (h1 : 18 ≤ j) (h2 : j ≤ 21) : fX13_clear (m + j) (MH c m s t) = some (MH c m s (va_up t j (Lz (t j) 0))) := by
  unfold fX13_clear
  have key := lp_up (z := fun _ _ _ => none) (S := fX13_clear_2) (β := Hp) (fun k (i : Nat) => k (m + j) (jI (i : Int)) (MH c m s (va_up t j (fun k => if k < i then (0 : Int) else t j k)))) (E := some (MH c m s (va_up t j (Lz (t j) 0)))) (M := 8) ?_ ?_ FU 0 (by omega) (FU_lt (by omega))
  · rw [show (fun k => if k < 0 then (0 : Int) else t j k) = t j from up_0 (fun _ => 0) (t j), up_id] at key
    exact key
  · intro i hi k
    unfold fX13_clear_2
    (rw [if_neg (by rw [show (8 : Int32) = jI 8 from rfl, jI_le (by omega) (by omega) (by omega) (by omega)]; omega)]; (try rw [show (0 : Int64) = jL 0 from rfl]); rw [l_q hm h1 h2 (by omega) (by omega), o_ob, o_lt]; (try rw [va_up_self]); (try rw [upup]); (try rw [show ((i : Int)).toNat = i by omega]); rw [Lz_0s _ _ hi]; (try rw [show (1 : Int32) = jI 1 from rfl]); (try rw [jI_add]))
    rfl
  · intro k
    unfold fX13_clear_2
    rw [if_pos (by rw [show (8 : Int32) = jI 8 from rfl, jI_le (by omega) (by omega) (by omega) (by omega)]; omega)]
    have e : Lz (t j) 0 = fun k => if k < 8 then (0 : Int) else t j k := by
      funext i
      unfold Lz dgb
      rw [Nat.zero_div, Nat.zero_mod]
      rfl
    rw [e]
theorem w_put {j : Nat} {k d : Int} (hm : Mo c m) (h1 : 18 ≤ j) (h2 : j ≤ 21) (k0 : 0 ≤ k) (k1 : k < 64) (d1 : -2147483648 ≤ d) (d2 : d < 2147483648) : fX13_putDigit (m + j) (jI k) (jI d) (MH c m s t) = some (MH c m s (va_up t j (va_up (t j) (k / 8).toNat (t j (k / 8).toNat + d * ((10 ^ (k % 8).toNat : Nat) : Int))))) := by
  have e1 := id8 k0 (show k < 2147483648 by omega)
  have e2 : irm (jI k) 8 = jI (((k % 8).toNat : Nat) : Int) := by
    rw [show ((((k % 8).toNat : Nat)) : Int) = k % 8 by omega]
    exact ir8 k0 (by omega)
  unfold fX13_putDigit
  ((try rw [e1]); rw [e2, l_a hm h1 h2 (by omega) (by omega), o_ob, w_pow (by omega), o_ob, jI_long d1 d2, jL_mul, jL_add, l_q hm h1 h2 (by omega) (by omega), o_ob])
theorem w_digit {j v : Nat} {k : Int} (hm : Mo c m) (h1 : 18 ≤ j) (h2 : j ≤ 21) (hv : LV (t j) v) (k0 : 0 ≤ k) (k1 : k < 64) : fX13_digitOf (m + j) (jI k) (MH c m s t) = some (jI (dg v k.toNat : Int)) := by
  have e1 := id8 k0 (show k < 2147483648 by omega)
  have e2 : irm (jI k) 8 = jI (((k % 8).toNat : Nat) : Int) := by
    rw [show ((((k % 8).toNat : Nat)) : Int) = k % 8 by omega]
    exact ir8 k0 (by omega)
  obtain ⟨a, ha⟩ : ∃ a, a = (k / 8).toNat := ⟨_, rfl⟩
  obtain ⟨b, hb⟩ : ∃ b, b = (k % 8).toNat := ⟨_, rfl⟩
  have hab : k.toNat = 8 * a + b := by omega
  have e3 := dg8 v a (show b < 8 by omega)
  have e4 := dgb_lt (B := 100000000) (by omega) v a
  have p0 : 0 < 10 ^ b := Nat.pow_pos (by omega)
  have p1 : 10 ^ b < 100000000 := by
    have : 10 ^ b ≤ 10 ^ 7 := Nat.pow_le_pow_right (by omega) (by omega)
    omega
  have e5 : (t j a) = (dgb 100000000 v a : Int) := hv a (by omega)
  have p2 := Nat.div_le_self (dgb 100000000 v a) (10 ^ b)
  unfold fX13_digitOf
  ((try rw [e1]); rw [e2, l_a hm h1 h2 (by omega) (by omega), o_ob]; (try rw [← ha]); (try rw [← hb]); rw [w_pow (by omega), o_ob, o_nz]; (try rw [e5]); rw [jL_div (by omega) (by omega) (by omega) (by omega)]; (try rw [show (10 : Int64) = jL 10 from rfl]); rw [jL_rem (Int.ediv_nonneg (by omega) (by omega)) (by rw [← Int.natCast_ediv]; omega) (by omega) (by omega), jL_short, hab, ← e3])
  · rw [← Int.natCast_ediv]
    rfl
  · rw [show (0 : Int64) = jL 0 from rfl, jL_eq (by omega) (by omega) (by omega) (by omega)]
    omega
theorem w_digits {j v : Nat} (hm : Mo c m) (h1 : 18 ≤ j) (h2 : j ≤ 21) (hv : LV (t j) v) : fX13_digitsOf (m + j) (MH c m s t) = some (jI (nd v : Int)) := by
  unfold fX13_digitsOf
  have key := lp_g (z := fun _ _ => none) (S := fX13_digitsOf_3 (MH c m s t)) (β := Option Int32) (ev := fun k (s : Nat) => k (m + j) (jI (s : Int))) (G := fun i => some (jI (ndk v i : Int))) (Inv := fun i => i ≤ 64) (M := fun i => i) ?_ FU 64 (by omega) (FU_lt (by omega))
  · exact key
  · intro i hi
    unfold fX13_digitsOf_3
    cases i with
    | zero =>
      left; intro k
      rw [if_pos (by rw [show (0 : Int32) = jI 0 from rfl, jI_le (by omega) (by omega) (by omega) (by omega)]; omega)]
      rfl
    | succ i =>
      have e1 : jI ((i + 1 : Nat) : Int) - 1 = jI (i : Int) := by
        rw [show (1 : Int32) = jI 1 from rfl, jI_sub]; congr 1; omega
      have e2 : jI ((i + 1 : Nat) : Int) + -1 = jI (i : Int) := by
        rw [show (-1 : Int32) = jI (-1) from rfl, jI_add]; congr 1; omega
      have x1 : ¬ (jI ((i + 1 : Nat) : Int) ≤ 0) := by rw [show (0 : Int32) = jI 0 from rfl, jI_le (by omega) (by omega) (by omega) (by omega)]; omega
      have d := dg_lt v i
      rw [show (0 : Int32) = jI 0 from rfl] at x1 ⊢
      by_cases q : dg v i = 0
      · right
        refine ⟨i, by omega, by omega, ?_, fun k => ?_⟩
        · show some _ = some _
          rw [show ndk v (i + 1) = ndk v i by unfold ndk; rw [if_pos q]; cases i <;> rfl]
        · (rw [if_neg x1]; (try rw [e1]); rw [w_digit hm h1 h2 hv (by omega) (by omega), o_ob]; (try rw [show ((i : Int)).toNat = i by omega]); rw [if_pos (by rw [q]; rfl), o_lt, e2])
      · left; intro k
        (rw [if_neg x1]; (try rw [e1]); rw [w_digit hm h1 h2 hv (by omega) (by omega), o_ob]; (try rw [show ((i : Int)).toNat = i by omega]); rw [if_neg (by rw [jI_eq (by omega) (by omega) (by omega) (by omega)]; omega)])
        rw [show ndk v (i + 1) = i + 1 by unfold ndk; rw [if_neg q]]
theorem w_noth {j v : Nat} (hm : Mo c m) (h1 : 18 ≤ j) (h2 : j ≤ 21) (hv : LV (t j) v) (hl : v < 10 ^ 64) : fX13_isNothing (m + j) (MH c m s t) = some (jI (if v = 0 then 1 else 0)) := by
  have n0 := nd_0 hl
  have n1 := nd_le v
  unfold fX13_isNothing
  rw [w_digits hm h1 h2 hv, o_ob]
  by_cases q : v = 0
  · rw [if_pos (by rw [n0.2 q]; rfl), if_pos q]; rfl
  · have : nd v ≠ 0 := fun e => q (n0.1 e)
    rw [if_neg (by rw [show (0 : Int32) = jI 0 from rfl, jI_eq (by omega) (by omega) (by omega) (by omega)]; omega), if_neg q]; rfl
theorem w_order {j j2 v u : Nat} (hm : Mo c m) (h1 : 18 ≤ j) (h2 : j ≤ 21) (h3 : 18 ≤ j2) (h4 : j2 ≤ 21) (hv : LV (t j) v) (hu : LV (t j2) u) (lv : v < 10 ^ 64) (lu : u < 10 ^ 64) : fX13_orderOf (m + j) (m + j2) (MH c m s t) = some (jI (if v < u then -1 else if v = u then 0 else 1)) := by
  rw [← b8_64] at lv lu
  unfold fX13_orderOf
  have key := lp_g (z := fun _ _ _ => none) (S := fX13_orderOf_3 (MH c m s t)) (β := Option Int32) (fun k (i : Nat) => k (m + j) (m + j2) (jI ((i : Int) - 1))) (G := fun _ => some (jI (if v < u then -1 else if v = u then 0 else 1)))
    (Inv := fun i => i ≤ 8 ∧ v / 100000000 ^ i = u / 100000000 ^ i) (M := fun i => i) ?_ FU 8 ⟨by omega, by rw [Nat.div_eq_of_lt lv, Nat.div_eq_of_lt lu]⟩ (FU_lt (by omega))
  · exact key
  · intro i hj
    obtain ⟨hj1, hj2⟩ := hj
    unfold fX13_orderOf_3
    cases i with
    | zero =>
      left; intro k
      rw [div_0, div_0] at hj2
      rw [if_pos (by rw [show (0 : Int32) = jI 0 from rfl, jI_lt (by omega) (by omega) (by omega) (by omega)]; omega), if_neg (by omega), if_pos hj2]
      rfl
    | succ i =>
      have e1 : ((i + 1 : Nat) : Int) - 1 = (i : Int) := by omega
      rw [div_s, div_s] at hj2
      have d1 := dgb_lt (B := 100000000) (by omega) v i
      have d2 := dgb_lt (B := 100000000) (by omega) u i
      have d3 : dgb 100000000 v i = v / 100000000 ^ i % 100000000 := rfl
      have d4 : dgb 100000000 u i = u / 100000000 ^ i % 100000000 := rfl
      have x1 : ¬ (jI (i : Int) < 0) := by rw [show (0 : Int32) = jI 0 from rfl, jI_lt (by omega) (by omega) (by omega) (by omega)]; omega
      have f1 : t j i = (dgb 100000000 v i : Int) := hv i (by omega)
      have f2 : t j2 i = (dgb 100000000 u i : Int) := hu i (by omega)
      have l1 : aL (m + j) (jI (i : Int)) (MH c m s t) = some (jL (dgb 100000000 v i : Int)) := by (rw [l_a hm h1 h2 (by omega) (by omega)]; (try rw [show ((i : Int)).toNat = i by omega]); (try rw [f1]))
      have l2 : aL (m + j2) (jI (i : Int)) (MH c m s t) = some (jL (dgb 100000000 u i : Int)) := by (rw [l_a hm h3 h4 (by omega) (by omega)]; (try rw [show ((i : Int)).toNat = i by omega]); (try rw [f2]))
      rw [e1]
      by_cases q : dgb 100000000 v i = dgb 100000000 u i
      · right
        refine ⟨i, ⟨by omega, by omega⟩, by omega, rfl, fun k => ?_⟩
        (rw [if_neg x1]; (try rw [l1]); rw [o_ob]; (try rw [l2]); rw [o_ob]; (try rw [show (0 : Int32) = jI 0 from rfl]); rw [if_pos ((cmp_eq _ _).2 (by rw [q])), o_lt]; (try rw [show (-1 : Int32) = jI (-1) from rfl]); (try rw [jI_add]))
        rfl
      · left; intro k
        (rw [if_neg x1]; (try rw [l1]); rw [o_ob]; (try rw [l2]); rw [o_ob]; (try rw [show (0 : Int32) = jI 0 from rfl]); rw [if_neg (fun e => q (by
          have := (cmp_eq _ _).1 e
          rw [jL_eq (by omega) (by omega) (by omega) (by omega)] at this
          omega)), o_ob, o_ob])
        by_cases q2 : dgb 100000000 v i < dgb 100000000 u i
        · have lt := lt_div (v := v) (u := u) (B := 100000000 ^ i) (by omega)
          rw [if_neg (fun e => by
            have := (cmp_ge _ _).1 e
            rw [jL_le (by omega) (by omega) (by omega) (by omega)] at this
            omega), if_pos lt]
          rfl
        · have lt := lt_div (v := u) (u := v) (B := 100000000 ^ i) (by omega)
          rw [if_pos ((cmp_ge _ _).2 (by rw [jL_le (by omega) (by omega) (by omega) (by omega)]; omega)), if_neg (by omega), if_neg (by omega)]
          rfl
end LNG
