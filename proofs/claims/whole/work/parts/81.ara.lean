section ARB
/-! PARTS OF EIGHT DIGITS -/
theorem p8 (i : Nat) : 100000000 ^ i = 10 ^ (8 * i) := by
  rw [Nat.pow_mul, show (10 : Nat) ^ 8 = 100000000 from rfl]
theorem dg8 (v i : Nat) {j : Nat} (hj : j < 8) : dgb 100000000 v i / 10 ^ j % 10 = dg v (8 * i + j) := by
  have e : dgb 100000000 v i = v / 10 ^ (8 * i) % 10 ^ 8 := by
    unfold dgb
    rw [p8, show (10 : Nat) ^ 8 = 100000000 from rfl]
  have e2 := dgb_mod (B := 10) (v := v / 10 ^ (8 * i)) hj
  unfold dgb at e2
  rw [e, e2]
  unfold dg
  rw [Nat.div_div_eq_div_mul, ← Nat.pow_add]
theorem put_lt {r d b : Nat} (hb : b < 8) (hr : r < 100000000) (h : r / 10 ^ b % 10 + d ≤ 9) : r + d * 10 ^ b < 100000000 := by
  have cs : b = 0 ∨ b = 1 ∨ b = 2 ∨ b = 3 ∨ b = 4 ∨ b = 5 ∨ b = 6 ∨ b = 7 := by omega
  rcases cs with e | e | e | e | e | e | e | e
  all_goals
    subst e
    simp only [Nat.reducePow] at h ⊢
    omega
theorem dgb_put (v d k i : Nat) (h : dg v k + d ≤ 9) : dgb 100000000 (v + d * 10 ^ k) i = dgb 100000000 v i + (if i = k / 8 then d * 10 ^ (k % 8) else 0) := by
  obtain ⟨a, ha⟩ : ∃ a, a = k / 8 := ⟨_, rfl⟩
  obtain ⟨b, hb⟩ : ∃ b, b = k % 8 := ⟨_, rfl⟩
  have hk : k = 8 * a + b := by omega
  have hb8 : b < 8 := by omega
  obtain ⟨y, hy⟩ : ∃ y, y = d * 10 ^ b := ⟨_, rfl⟩
  have e1 : d * 10 ^ k = y * 100000000 ^ a := by
    rw [p8, hy, hk, Nat.pow_add, Nat.mul_assoc, Nat.mul_comm (10 ^ b)]
  rw [← ha, ← hb, ← hy, e1]
  have hd := dg8 v a hb8
  rw [← hk] at hd
  have hr : dgb 100000000 v a + y < 100000000 := by
    rw [hy]
    exact put_lt hb8 (dgb_lt (by omega) v a) (by rw [hd]; exact h)
  clear hd h hy e1 hk ha hb
  have hX : (v + y * 100000000 ^ a) / 100000000 ^ a = v / 100000000 ^ a + y := Nat.add_mul_div_right _ _ (Nat.pow_pos (by omega))
  unfold dgb at hr ⊢
  by_cases c : i < a
  · rw [if_neg (by omega)]
    have := dgb_hi (B := 100000000) (by omega) v y c
    unfold dgb at this
    rw [this, Nat.add_zero]
  · by_cases c2 : i = a
    · subst c2
      rw [if_pos rfl, hX]
      obtain ⟨x, hx⟩ : ∃ x, x = v / 100000000 ^ i := ⟨_, rfl⟩
      rw [← hx] at hr ⊢
      omega
    · rw [if_neg c2, Nat.add_zero]
      obtain ⟨e, rfl⟩ : ∃ e, i = a + 1 + e := ⟨i - a - 1, by omega⟩
      have e1 : ∀ z, z / 100000000 ^ (a + 1 + e) = z / 100000000 ^ a / 100000000 / 100000000 ^ e := fun z => by
        rw [Nat.pow_add, Nat.pow_succ, ← Nat.div_div_eq_div_mul, ← Nat.div_div_eq_div_mul]
      rw [e1, e1 v, hX]
      obtain ⟨x, hx⟩ : ∃ x, x = v / 100000000 ^ a := ⟨_, rfl⟩
      rw [← hx] at hr ⊢
      rw [show (x + y) / 100000000 = x / 100000000 by omega]
-- sums with a carry
def crb (v u i : Nat) : Nat := (v + u) / 100000000 ^ i - v / 100000000 ^ i - u / 100000000 ^ i
theorem crb_all (v u : Nat) : ∀ i, (v + u) / 100000000 ^ i = v / 100000000 ^ i + u / 100000000 ^ i + crb v u i ∧ crb v u i ≤ 1
  | 0 => by unfold crb; rw [div_0, div_0, div_0]; omega
  | i + 1 => by
    have h := crb_all v u i
    unfold crb
    rw [div_s, div_s, div_s]
    omega
theorem crb_s (v u i : Nat) : dgb 100000000 v i + dgb 100000000 u i + crb v u i = dgb 100000000 (v + u) i + 100000000 * crb v u (i + 1) ∧ crb v u i ≤ 1 ∧ crb v u (i + 1) ≤ 1 := by
  have h := crb_all v u i
  have h2 := crb_all v u (i + 1)
  rw [div_s, div_s, div_s] at h2
  unfold dgb
  omega
theorem crb_0 (v u : Nat) : crb v u 0 = 0 := by unfold crb; rw [div_0, div_0, div_0]; omega
theorem cnb_le (v u i : Nat) (h : i < 8) : cnv 100000000 v u i ≤ 80000000000000000 := by
  have h1 : cnv 100000000 v u i ≤ (i + 1) * 9999999800000001 := sm_le (fun j hj => by
    have a1 := dgb_lt (B := 100000000) (by omega) v j
    have a2 := dgb_lt (B := 100000000) (by omega) u (i - j)
    have : dgb 100000000 v j * dgb 100000000 u (i - j) ≤ 99999999 * 99999999 := Nat.mul_le_mul (by omega) (by omega)
    omega)
  omega
theorem cab_le (v u : Nat) : ∀ i, i ≤ 8 → prT 100000000 v u i / 100000000 ^ i ≤ 900000000
  | 0, _ => by simp [prT, sm]
  | i + 1, h => by
    have h1 := cab_le v u i (by omega)
    have h2 := cnb_le v u i (by omega)
    rw [(prT_dig (by omega) v u i).2]
    omega
def cpb (v u i j : Nat) : Nat := prT 100000000 v u i / 100000000 ^ i + sm (fun t => dgb 100000000 v t * dgb 100000000 u (i - t)) j
theorem cpb_le (v u : Nat) {i j : Nat} (hi : i < 8) (hj : j ≤ 8) : cpb v u i j ≤ 90000000000000000 := by
  have h1 := cab_le v u i (by omega)
  have h2 : sm (fun t => dgb 100000000 v t * dgb 100000000 u (i - t)) j ≤ j * 9999999800000001 := sm_le (fun t ht => by
    have a1 := dgb_lt (B := 100000000) (by omega) v t
    have a2 := dgb_lt (B := 100000000) (by omega) u (i - t)
    have : dgb 100000000 v t * dgb 100000000 u (i - t) ≤ 99999999 * 99999999 := Nat.mul_le_mul (by omega) (by omega)
    omega)
  unfold cpb
  omega
theorem b8_64 : 100000000 ^ 8 = 10 ^ 64 := by rw [p8]
theorem ir2 {z : Int} (h1 : 0 ≤ z) (h2 : z < 2147483648) : irm (jI z) (2 : Int32) = jI (z % 2) := by
  rw [show (2 : Int32) = jI 2 from rfl]
  exact jI_rem h1 h2 (by omega) (by omega)
theorem id2 {z : Int} (h1 : 0 ≤ z) (h2 : z < 2147483648) : jI z / (2 : Int32) = jI (z / 2) := by
  rw [show (2 : Int32) = jI 2 from rfl]
  exact jI_div h1 h2 (by omega) (by omega)
theorem ir8 {z : Int} (h1 : 0 ≤ z) (h2 : z < 2147483648) : irm (jI z) (8 : Int32) = jI (z % 8) := by
  rw [show (8 : Int32) = jI 8 from rfl]
  exact jI_rem h1 h2 (by omega) (by omega)
theorem id8 {z : Int} (h1 : 0 ≤ z) (h2 : z < 2147483648) : jI z / (8 : Int32) = jI (z / 8) := by
  rw [show (8 : Int32) = jI 8 from rfl]
  exact jI_div h1 h2 (by omega) (by omega)
end ARB
