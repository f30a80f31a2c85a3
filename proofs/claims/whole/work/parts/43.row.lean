section RW
/-! THE CLASS'S ROWS: what their methods do. A row a has its cells at a + 1. -/
def Rw (K : Nat → Nat) (R : Nat → Nat → Nat) (N : Nat → Nat) (a : Nat) : Prop := K a = 9 ∧ R a 0 = a + 1 ∧ K (a + 1) = 101 ∧ N (a + 1) = 411
variable {K : Nat → Nat} {I : Nat → Nat → Int32} {R : Nat → Nat → Nat} {L : Nat → Nat → Int64} {N : Nat → Nat} {w : Nat × Nat × Nat × Nat}
theorem tn (n : Nat) : Int.toNat (no_index (OfNat.ofNat n : Int)) = (OfNat.ofNat n : Nat) := rfl
theorem e_cell {a : Nat} {z : Int} (hr : Rw K R N a) (h0 : 0 ≤ z) (h1 : z < 411) : fX10_cell a (jI z) (K, I, R, L, N, w) = some (I (a + 1) z.toNat) := by
  obtain ⟨k9, r0, k1, n1⟩ := hr
  unfold fX10_cell
  simp (disch := omega) only [jI_lit, jI_lt, jI_le, o_gd, o_gR, o_ob, o_aI, r0]
  rw [if_neg (by omega), if_neg (by omega)]
theorem e_cellx {a : Nat} {z : Int} (hr : Rw K R N a) (h0 : z < 0 ∨ 411 ≤ z) (h1 : -2147483648 ≤ z) (h2 : z < 2147483648) : fX10_cell a (jI z) (K, I, R, L, N, w) = some (jI 0) := by
  obtain ⟨k9, r0, k1, n1⟩ := hr
  unfold fX10_cell
  simp (disch := omega) only [jI_lit, jI_lt, jI_le, o_gd]
  split
  · rfl
  · rw [if_pos (by omega)]
theorem e_put {a : Nat} {z : Int} {v : Int32} (hr : Rw K R N a) (h0 : 0 ≤ z) (h1 : z < 411) : fX10_put a (jI z) v (K, I, R, L, N, w) = some (K, va_up I (a + 1) (va_up (I (a + 1)) z.toNat v), R, L, N, w) := by
  obtain ⟨k9, r0, k1, n1⟩ := hr
  unfold fX10_put
  simp (disch := omega) only [jI_lit, jI_lt, jI_le, o_gd, o_gR, o_ob, o_qI, r0]
  rw [if_neg (by omega), if_neg (by omega)]
theorem e_place {z : Int} (h0 : 0 ≤ z) (h1 : z < 256) : fX10_isPlace (jI z) = some (jI 1) := by
  unfold fX10_isPlace
  simp (disch := omega) only [jI_lit, jI_lt, jI_le]
  rw [if_neg (by omega), if_neg (by omega)]
theorem e_placex {z : Int} (h1 : -2147483648 ≤ z) (h2 : z < 2147483648) : fX10_isPlace (jI z) = some (jI (if 0 ≤ z ∧ z < 256 then 1 else 0)) := by
  unfold fX10_isPlace
  simp (disch := omega) only [jI_lit, jI_lt, jI_le]
  by_cases q : 0 ≤ z ∧ z < 256
  · rw [if_pos q, if_neg (by omega), if_neg (by omega)]
  · rw [if_neg q]
    split
    · rfl
    · rw [if_pos (by omega)]
theorem e_bytex {z : Int} (h1 : -2147483648 ≤ z) (h2 : z < 2147483648) : fX10_isByte (jI z) = some (jI (if 0 ≤ z ∧ z < 256 then 1 else 0)) := by
  unfold fX10_isByte
  simp (disch := omega) only [jI_lit, jI_lt, jI_le]
  by_cases q : 0 ≤ z ∧ z < 256
  · rw [if_pos q, if_neg (by omega), if_neg (by omega)]
  · rw [if_neg q]
    split
    · rfl
    · rw [if_pos (by omega)]
theorem e_field {p n : Int} (h1 : -2147483648 ≤ p) (h2 : p < 2147483648) (h3 : -2147483648 ≤ n) (h4 : n < 2147483648) : fX10_isField (jI p) (jI n) = some (jI (if 0 ≤ n ∧ n ≤ 256 ∧ 0 ≤ p ∧ p ≤ 256 - n then 1 else 0)) := by
  unfold fX10_isField
  by_cases q : 0 ≤ n ∧ n ≤ 256
  · simp (disch := omega) only [jI_lit, jI_sub, jI_lt, jI_le]
    by_cases q2 : 0 ≤ p ∧ p ≤ 256 - n
    · rw [if_neg (by omega), if_neg (by omega), if_neg (by omega), if_neg (by omega), if_pos (by omega)]
    · rw [if_neg (by omega), if_neg (by omega), if_neg (c := 0 ≤ n ∧ n ≤ 256 ∧ 0 ≤ p ∧ p ≤ 256 - n) (by omega)]
      split
      · rfl
      · rw [if_pos (by omega)]
  · rw [if_neg (c := 0 ≤ n ∧ n ≤ 256 ∧ 0 ≤ p ∧ p ≤ 256 - n) (by omega)]
    simp (disch := omega) only [jI_lit, jI_lt]
    by_cases q2 : n < 0
    · rw [if_pos q2]
    · rw [if_neg q2, if_pos (by omega)]
theorem jF_up (r : Nat → Int) (k : Nat) (v : Int) : va_up (jF r) k (jI v) = jF (va_up r k v) := by
  funext j; show (if j = k then jI v else jI (r j)) = jI (if j = k then v else r j); split <;> rfl
theorem jF_at (r : Nat → Int) (k : Nat) : jF r k = jI (r k) := rfl
theorem hf_lt {c : Nat → Int} (hb : Byt c) {h : Nat} (hh : h < 512) : 0 ≤ hf c h ∧ hf c h < 16 := by
  have := hb (h / 2) (by omega)
  unfold hf
  split <;> omega
theorem e_half {a : Nat} {c : Nat → Int} {z : Int} (hr : Rw K R N a) (hI : I (a + 1) = jF c) (hb : Byt c) (h0 : 0 ≤ z) (h1 : z < 512) : fX10_half a (jI z) (K, I, R, L, N, w) = some (jI (hf c z.toNat)) := by
  obtain ⟨k9, r0, k1, n1⟩ := hr
  have q := hb (z.toNat / 2) (by omega)
  have e : (z / 2).toNat = z.toNat / 2 := by omega
  unfold fX10_half
  simp (disch := omega) only [jI_lit, jI_shr1, o_gd, o_lt, jI_lt, o_gR, o_ob, o_aI, r0, hI, jF_at, e, jI_and1, jI_eq, jI_shr4, jI_shr0, jI_and15]
  rw [if_neg (by omega), if_pos (by omega)]
  unfold hf
  by_cases hz : z % 2 = 0
  · rw [if_pos hz, if_pos (by omega)]
    congr 2; omega
  · rw [if_neg hz, if_neg (by omega)]
theorem e_putHalf {a : Nat} {c : Nat → Int} {z v : Int} (hr : Rw K R N a) (hI : I (a + 1) = jF c) (hb : Byt c) (h0 : 0 ≤ z) (h1 : z < 512) (h2 : 0 ≤ v) (h3 : v < 16) :
    fX10_putHalf a (jI z) (jI v) (K, I, R, L, N, w) = some (K, va_up I (a + 1) (jF (va_up c (z.toNat / 2) (if z % 2 = 0 then 16 * v + c (z.toNat / 2) % 16 else c (z.toNat / 2) / 16 * 16 + v))), R, L, N, w) := by
  obtain ⟨k9, r0, k1, n1⟩ := hr
  have q := hb (z.toNat / 2) (by omega)
  have e : (z / 2).toNat = z.toNat / 2 := by omega
  unfold fX10_putHalf fX10_withHalf
  simp (disch := omega) only [jI_lit, jI_shr1, o_gd, o_lt, jI_lt, jI_le, o_gR, o_ob, o_aI, r0, hI, jF_at, e, jI_and1, jI_eq, jI_and15]
  rw [if_neg (by omega), if_neg (by omega)]
  by_cases hz : z % 2 = 0
  · rw [if_pos hz, if_pos hz]
    simp (disch := omega) only [jI_join, o_ob, o_qI, e, hI, jF_up]
  · rw [if_neg hz, if_neg hz]
    simp (disch := omega) only [jI_hi, o_ob, o_qI, e, hI, jF_up]
theorem e_run {a : Nat} {c : Nat → Int} (hr : Rw K R N a) (hI : I (a + 1) = jF c) (h1 : -2147483648 ≤ c 267) (h2 : c 267 < 2147483648) : fX10_running a (K, I, R, L, N, w) = some (jI (if c 267 = 0 then 1 else 0)) := by
  obtain ⟨k9, r0, k1, n1⟩ := hr
  unfold fX10_running
  simp (disch := omega) only [jI_lit, o_gd, o_gR, o_ob, o_aI, r0, hI, jF_at, tn, jI_eq]
  split <;> rfl
theorem e_become {a b : Nat} (hr : Rw K R N a) (hs : Rw K R N b) : fX10_become a b (K, I, R, L, N, w) = some (K, va_up I (a + 1) (va_cpy (I (b + 1)) (I (a + 1)) 0 0 411), R, L, N, w) := by
  obtain ⟨k9, r0, k1, n1⟩ := hr
  obtain ⟨k9', r0', k1', n1'⟩ := hs
  unfold fX10_become
  simp (disch := omega) only [jI_lit, o_gd, o_gR, o_ob, o_cpA, r0, r0']
  rfl
/-- the first flaw of a field from a half on -/
def flz (c : Nat → Int) (z : Bool) (p n : Nat) (h : Nat) : Bool :=
  if z then (if h == 2 * (p + n) - 2 then hf c h < 10 else if h % 2 == 0 then hf c h != 15 else 9 < hf c h) else (9 < hf c h) != (h == 2 * (p + n) - 1)
theorem fnd_at {q : Nat → Bool} {lo n : Nat} (h : q lo = true) : fnd q lo (n + 1) = lo := by simp [fnd, h]
theorem fnd_nx {q : Nat → Bool} {lo n : Nat} (h : q lo = false) : fnd q lo (n + 1) = fnd q (lo + 1) n := by simp [fnd, h]
theorem fnd_some {q : Nat → Bool} : ∀ {n lo : Nat}, fnd q lo n ≠ -1 → ∃ m, lo ≤ m ∧ m < lo + n ∧ fnd q lo n = m ∧ q m = true ∧ ∀ j, lo ≤ j → j < m → q j = false := by
  intro n
  induction n with
  | zero => intro lo h; exact absurd rfl h
  | succ n ih =>
    intro lo h
    by_cases e : q lo = true
    · exact ⟨lo, by omega, by omega, fnd_at e, e, fun j _ _ => by omega⟩
    · have e : q lo = false := by simpa using e
      rw [fnd_nx e] at h ⊢
      obtain ⟨m, a1, a2, a3, a4, a5⟩ := ih h
      refine ⟨m, by omega, by omega, a3, a4, fun j b1 b2 => ?_⟩
      by_cases hj : j = lo
      · rw [hj]; exact e
      · exact a5 j (by omega) b2
theorem fnd_none {q : Nat → Bool} : ∀ {n lo : Nat}, fnd q lo n = -1 → ∀ j, lo ≤ j → j < lo + n → q j = false := by
  intro n
  induction n with
  | zero => intro lo h j _ _; omega
  | succ n ih =>
    intro lo h j b1 b2
    by_cases e : q lo = true
    · rw [fnd_at e] at h; omega
    · have e : q lo = false := by simpa using e
      rw [fnd_nx e] at h
      by_cases hj : j = lo
      · rw [hj]; exact e
      · exact ih h j (by omega) (by omega)
end RW
