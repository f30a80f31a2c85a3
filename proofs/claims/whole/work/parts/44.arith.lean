section AR
/-! DIGITS in any base, and how sums, differences, products and quotients are reckoned digit by digit -/
def dgb (B v k : Nat) : Nat := v / B ^ k % B
theorem dgb_10 (v k : Nat) : dgb 10 v k = dg v k := rfl
theorem div_s (B v k : Nat) : v / B ^ (k + 1) = v / B ^ k / B := by rw [Nat.pow_succ, Nat.div_div_eq_div_mul]
theorem div_0 (B v : Nat) : v / B ^ 0 = v := by rw [Nat.pow_zero, Nat.div_one]
theorem dgb_lt {B : Nat} (h : 0 < B) (v k : Nat) : dgb B v k < B := Nat.mod_lt _ h
theorem dg_lt (v k : Nat) : dg v k < 10 := Nat.mod_lt _ (by omega)
theorem dgb_hi {B : Nat} (hB : 0 < B) (x y : Nat) {k m : Nat} (h : k < m) : dgb B (x + y * B ^ m) k = dgb B x k := by
  obtain ⟨d, rfl⟩ : ∃ d, m = k + (d + 1) := ⟨m - k - 1, by omega⟩
  unfold dgb
  have e : y * B ^ (k + (d + 1)) = B ^ k * (B * (B ^ d * y)) := by
    rw [Nat.pow_add, Nat.pow_succ]
    simp only [Nat.mul_comm, Nat.mul_left_comm]
  rw [e, Nat.add_mul_div_left _ _ (Nat.pow_pos hB), Nat.add_mul_mod_self_left]
theorem dgb_at {B : Nat} (hB : 0 < B) {x y m : Nat} (hx : x < B ^ m) : dgb B (x + y * B ^ m) m = y % B := by
  unfold dgb
  rw [Nat.mul_comm y, Nat.add_mul_div_left _ _ (Nat.pow_pos hB), Nat.div_eq_of_lt hx, Nat.zero_add]
theorem dgb_0 {B v k : Nat} (h : v < B ^ k) : dgb B v k = 0 := by
  unfold dgb
  rw [Nat.div_eq_of_lt h, Nat.zero_mod]
theorem vl10_lt {f : Nat → Nat} : ∀ {m : Nat}, (∀ i, i < m → f i < 10) → vl10 f m < 10 ^ m
  | 0, _ => by simp [vl10]
  | m + 1, h => by
    have h1 := vl10_lt (m := m) (fun i hi => h i (by omega))
    have h2 : f m * 10 ^ m ≤ 9 * 10 ^ m := Nat.mul_le_mul_right _ (by have := h m (by omega); omega)
    have h3 : 10 ^ (m + 1) = 10 ^ m * 10 := Nat.pow_succ _ _
    show vl10 f m + f m * 10 ^ m < _
    omega
theorem dg_vl10 {f : Nat → Nat} : ∀ {m : Nat}, (∀ i, i < m → f i < 10) → ∀ k, dg (vl10 f m) k = if k < m then f k else 0
  | 0, _, k => by simp [vl10, dg]
  | m + 1, h, k => by
    have h0 : ∀ i, i < m → f i < 10 := fun i hi => h i (by omega)
    have h1 := vl10_lt h0
    have h2 := dg_vl10 h0 k
    show dgb 10 (vl10 f m + f m * 10 ^ m) k = _
    by_cases hk : k < m
    · rw [dgb_hi (by omega) _ _ hk, if_pos (by omega)]
      rw [if_pos hk] at h2
      exact h2
    · by_cases hk2 : k = m
      · subst hk2
        rw [dgb_at (by omega) h1, if_pos (by omega), Nat.mod_eq_of_lt (h k (by omega))]
      · rw [if_neg (by omega)]
        have h3 : vl10 f (m + 1) < 10 ^ (m + 1) := vl10_lt h
        exact dgb_0 (Nat.lt_of_lt_of_le h3 (Nat.pow_le_pow_right (by omega) (by omega)))
theorem ndk_le (v : Nat) : ∀ m, ndk v m ≤ m
  | 0 => Nat.le_refl _
  | m + 1 => by
    have := ndk_le v m
    unfold ndk
    split <;> omega
theorem ndk_hi (v : Nat) : ∀ m j, ndk v m ≤ j → j < m → dg v j = 0
  | 0, j, _, h => by omega
  | m + 1, j, h1, h2 => by
    unfold ndk at h1
    split at h1
    · rename_i e
      by_cases hj : j = m
      · rw [hj]; exact e
      · exact ndk_hi v m j h1 (by omega)
    · omega
theorem ndk_top (v : Nat) : ∀ m, ndk v m ≠ 0 → dg v (ndk v m - 1) ≠ 0
  | 0, h => absurd rfl h
  | m + 1, h => by
    unfold ndk at h ⊢
    split at h
    · rename_i e
      rw [if_pos e]
      exact ndk_top v m h
    · rename_i e
      rw [if_neg e]
      exact e
theorem div_hi {v a : Nat} : ∀ d, v < 10 ^ (a + d) → (∀ j, a ≤ j → j < a + d → dg v j = 0) → v < 10 ^ a
  | 0, h, _ => h
  | d + 1, h, hz => by
    apply div_hi d
    · have e : v / 10 ^ (a + d + 1) = 0 := Nat.div_eq_of_lt h
      rw [div_s] at e
      have e2 := hz (a + d) (by omega) (by omega)
      unfold dg at e2
      have e3 : v / 10 ^ (a + d) = 0 := by omega
      exact (Nat.div_eq_zero_iff_lt (Nat.pow_pos (by omega))).mp e3
    · exact fun j h1 h2 => hz j h1 (by omega)
theorem nd_le (v : Nat) : nd v ≤ 64 := ndk_le v 64
theorem nd_lt {v : Nat} (h : v < 10 ^ 64) : v < 10 ^ nd v := by
  have h1 := nd_le v
  have e : nd v + (64 - nd v) = 64 := by omega
  apply div_hi (64 - nd v)
  · rw [e]; exact h
  · intro j h2 h3
    exact ndk_hi v 64 j h2 (by omega)
theorem nd_0 {v : Nat} (h : v < 10 ^ 64) : nd v = 0 ↔ v = 0 := by
  constructor
  · intro e
    have := nd_lt h
    rw [e] at this
    omega
  · intro e
    apply Decidable.byContradiction
    intro h2
    have := ndk_top v 64 h2
    rw [e] at this
    exact this (by simp [dg])
theorem nd_ge {v : Nat} (h : nd v ≠ 0) : 10 ^ (nd v - 1) ≤ v := by
  apply Decidable.byContradiction
  intro h2
  have h3 := ndk_top v 64 h
  have h4 : dg v (nd v - 1) = 0 := dgb_0 (B := 10) (by omega)
  exact h3 h4
theorem nd_gt {v n : Nat} (h : v < 10 ^ 64) : n < nd v ↔ 10 ^ n ≤ v := by
  constructor
  · intro h1
    exact Nat.le_trans (Nat.pow_le_pow_right (by omega) (by omega)) (nd_ge (by omega))
  · intro h1
    apply Decidable.byContradiction
    intro h2
    have h3 := nd_lt h
    have h4 : 10 ^ nd v ≤ 10 ^ n := Nat.pow_le_pow_right (by omega) (by omega)
    omega
-- the reckoning of products in base B: convolutions with a carry
def sm (f : Nat → Nat) : Nat → Nat
  | 0 => 0
  | n + 1 => sm f n + f n
theorem sm_eq {f g : Nat → Nat} : ∀ {n : Nat}, (∀ i, i < n → f i = g i) → sm f n = sm g n
  | 0, _ => rfl
  | n + 1, h => by
    show sm f n + f n = sm g n + g n
    rw [sm_eq (fun i hi => h i (by omega)), h n (by omega)]
theorem sm_add (f g : Nat → Nat) : ∀ n, sm (fun i => f i + g i) n = sm f n + sm g n
  | 0 => rfl
  | n + 1 => by
    show sm (fun i => f i + g i) n + (f n + g n) = (sm f n + f n) + (sm g n + g n)
    rw [sm_add f g n]; omega
theorem sm_mul (f : Nat → Nat) (c : Nat) : ∀ n, sm (fun i => f i * c) n = sm f n * c
  | 0 => by simp [sm]
  | n + 1 => by
    show sm (fun i => f i * c) n + f n * c = (sm f n + f n) * c
    rw [sm_mul f c n, Nat.add_mul]
theorem sm_mod {f g : Nat → Nat} {M : Nat} : ∀ {n : Nat}, (∀ i, i < n → f i % M = g i % M) → sm f n % M = sm g n % M
  | 0, _ => rfl
  | n + 1, h => by
    show (sm f n + f n) % M = (sm g n + g n) % M
    rw [Nat.add_mod, sm_mod (fun i hi => h i (by omega)), h n (by omega), ← Nat.add_mod]
theorem sm_le {f : Nat → Nat} {c : Nat} : ∀ {n : Nat}, (∀ i, i < n → f i ≤ c) → sm f n ≤ n * c
  | 0, _ => by simp [sm]
  | n + 1, h => by
    have h1 := sm_le (n := n) (fun i hi => h i (by omega))
    have h2 := h n (by omega)
    show sm f n + f n ≤ _
    rw [Nat.add_mul]; omega
theorem mod_s (B v k : Nat) : v % B ^ (k + 1) = v % B ^ k + dgb B v k * B ^ k := by
  rw [Nat.mod_pow_succ, Nat.mul_comm]; rfl
theorem sm_val (B v : Nat) : ∀ n, sm (fun j => dgb B v j * B ^ j) n = v % B ^ n
  | 0 => by simp [sm, Nat.mod_one]
  | n + 1 => by
    show sm (fun j => dgb B v j * B ^ j) n + dgb B v n * B ^ n = _
    rw [sm_val B v n, mod_s]
/-- the part of a product that is known after so many turns -/
def prT (B v u i : Nat) : Nat := sm (fun j => dgb B v j * (B ^ j * (u % B ^ (i - j)))) i
def cnv (B v u i : Nat) : Nat := sm (fun j => dgb B v j * dgb B u (i - j)) (i + 1)
theorem prT_s (B v u i : Nat) : prT B v u (i + 1) = prT B v u i + cnv B v u i * B ^ i := by
  show sm _ i + dgb B v i * (B ^ i * (u % B ^ (i + 1 - i))) = _ + (sm _ i + dgb B v i * dgb B u (i - i)) * B ^ i
  have e1 : sm (fun j => dgb B v j * (B ^ j * (u % B ^ (i + 1 - j)))) i = sm (fun j => dgb B v j * (B ^ j * (u % B ^ (i - j))) + dgb B v j * dgb B u (i - j) * B ^ i) i := by
    apply sm_eq
    intro j hj
    have a1 : i + 1 - j = (i - j) + 1 := by omega
    have a2 : B ^ i = B ^ j * B ^ (i - j) := by rw [← Nat.pow_add]; congr 1; omega
    show dgb B v j * (B ^ j * (u % B ^ (i + 1 - j))) = dgb B v j * (B ^ j * (u % B ^ (i - j))) + dgb B v j * dgb B u (i - j) * B ^ i
    rw [a1, mod_s, Nat.mul_add, Nat.mul_add, a2]
    congr 1
    simp only [Nat.mul_comm, Nat.mul_left_comm, Nat.mul_assoc]
  rw [e1, sm_add, sm_mul]
  have a3 : i + 1 - i = 1 := by omega
  have a4 : i - i = 0 := by omega
  have a5 : u % B ^ 1 = dgb B u 0 := by simp [dgb]
  rw [a3, a4, a5, Nat.add_mul]
  show _ + dgb B v i * (B ^ i * dgb B u 0) = prT B v u i + (_ + _)
  unfold prT
  have a6 : dgb B v i * (B ^ i * dgb B u 0) = dgb B v i * dgb B u 0 * B ^ i := by simp only [Nat.mul_comm, Nat.mul_left_comm, Nat.mul_assoc]
  rw [a6]
  omega
theorem prT_mod (B v u i : Nat) : prT B v u i % B ^ i = v * u % B ^ i := by
  have e1 : prT B v u i % B ^ i = sm (fun j => dgb B v j * B ^ j * u) i % B ^ i := by
    apply sm_mod
    intro j hj
    show dgb B v j * (B ^ j * (u % B ^ (i - j))) % B ^ i = dgb B v j * B ^ j * u % B ^ i
    have a2 : B ^ i = B ^ j * B ^ (i - j) := by rw [← Nat.pow_add]; congr 1; omega
    have a3 : B ^ j * (u % B ^ (i - j)) = B ^ j * u % B ^ i := by rw [a2, Nat.mul_mod_mul_left]
    rw [a3, Nat.mul_assoc, Nat.mul_mod, Nat.mod_mod, ← Nat.mul_mod]
  rw [e1, sm_mul, sm_val, Nat.mul_mod, Nat.mod_mod, ← Nat.mul_mod]
theorem dgb_mod {B v k i : Nat} (h : k < i) : dgb B (v % B ^ i) k = dgb B v k := by
  by_cases hB : B = 0
  · subst hB
    unfold dgb
    simp only [Nat.mod_zero]
    rw [Nat.zero_pow (by omega), Nat.mod_zero]
  · have e := Nat.div_add_mod v (B ^ i)
    have e2 : v = v % B ^ i + v / B ^ i * B ^ i := by rw [Nat.mul_comm]; omega
    conv => rhs; rw [e2]
    rw [dgb_hi (by omega) _ _ h]
/-- the digit, and the carry, of a turn -/
theorem prT_dig {B : Nat} (hB : 0 < B) (v u i : Nat) : dgb B (v * u) i = (prT B v u i / B ^ i + cnv B v u i) % B ∧ prT B v u (i + 1) / B ^ (i + 1) = (prT B v u i / B ^ i + cnv B v u i) / B := by
  have e : prT B v u (i + 1) / B ^ i = prT B v u i / B ^ i + cnv B v u i := by
    rw [prT_s, Nat.mul_comm, Nat.add_mul_div_left _ _ (Nat.pow_pos hB)]
  constructor
  · rw [← e]
    show dgb B (v * u) i = dgb B (prT B v u (i + 1)) i
    rw [← dgb_mod (B := B) (v := v * u) (i := i + 1) (by omega), ← prT_mod, dgb_mod (by omega)]
  · rw [div_s, e]
end AR
