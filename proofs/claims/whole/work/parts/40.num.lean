section NM
/-! NUMBERS: an int of the machine as jI of an integer, a long as jL -/
def jI (z : Int) : Int32 := Int32.ofInt z
def jL (z : Int) : Int64 := Int64.ofInt z
theorem jI_lit (n : Nat) : (OfNat.ofNat n : Int32) = jI (OfNat.ofNat n) := (Int32.ofInt_eq_ofNat (n := n)).symm
theorem jL_lit (n : Nat) : (OfNat.ofNat n : Int64) = jL (OfNat.ofNat n) := (Int64.ofInt_eq_ofNat (n := n)).symm
theorem jI_nI (n : Nat) : Int32.ofNat n = jI n := (Int32.ofInt_eq_ofNat (n := n)).symm
theorem jI_neg (a : Int) : -jI a = jI (-a) := Int32.neg_ofInt
theorem jI_add (a b : Int) : jI a + jI b = jI (a + b) := (Int32.ofInt_add a b).symm
theorem jI_sub (a b : Int) : jI a - jI b = jI (a - b) := (Int32.ofInt_sub a b).symm
theorem jI_mul (a b : Int) : jI a * jI b = jI (a * b) := (Int32.ofInt_mul a b).symm
theorem jL_neg (a : Int) : -jL a = jL (-a) := Int64.neg_ofInt
theorem jL_add (a b : Int) : jL a + jL b = jL (a + b) := (Int64.ofInt_add a b).symm
theorem jL_sub (a b : Int) : jL a - jL b = jL (a - b) := (Int64.ofInt_sub a b).symm
theorem jL_mul (a b : Int) : jL a * jL b = jL (a * b) := (Int64.ofInt_mul a b).symm
theorem jI_int {z : Int} (h1 : -2147483648 ≤ z) (h2 : z < 2147483648) : (jI z).toInt = z := Int32.toInt_ofInt_of_le (by omega) (by omega)
theorem jL_int {z : Int} (h1 : -9223372036854775808 ≤ z) (h2 : z < 9223372036854775808) : (jL z).toInt = z := Int64.toInt_ofInt_of_le (by omega) (by omega)
theorem jI_of (x : Int32) : jI x.toInt = x := Int32.ofInt_toInt x
theorem jL_of (x : Int64) : jL x.toInt = x := Int64.ofInt_toInt x
theorem jI_ex (x : Int32) : ∃ z : Int, -2147483648 ≤ z ∧ z < 2147483648 ∧ x = jI z :=
  ⟨x.toInt, by have := x.le_toInt; omega, by have := x.toInt_lt; omega, (jI_of x).symm⟩
theorem jI_lt {a b : Int} (h1 : -2147483648 ≤ a) (h2 : a < 2147483648) (h3 : -2147483648 ≤ b) (h4 : b < 2147483648) : (jI a < jI b) ↔ a < b := by
  rw [Int32.lt_iff_toInt_lt, jI_int h1 h2, jI_int h3 h4]
theorem jI_le {a b : Int} (h1 : -2147483648 ≤ a) (h2 : a < 2147483648) (h3 : -2147483648 ≤ b) (h4 : b < 2147483648) : (jI a ≤ jI b) ↔ a ≤ b := by
  rw [Int32.le_iff_toInt_le, jI_int h1 h2, jI_int h3 h4]
theorem jI_eq {a b : Int} (h1 : -2147483648 ≤ a) (h2 : a < 2147483648) (h3 : -2147483648 ≤ b) (h4 : b < 2147483648) : (jI a = jI b) ↔ a = b := by
  rw [← Int32.toInt_inj, jI_int h1 h2, jI_int h3 h4]
theorem jL_lt {a b : Int} (h1 : -9223372036854775808 ≤ a) (h2 : a < 9223372036854775808) (h3 : -9223372036854775808 ≤ b) (h4 : b < 9223372036854775808) : (jL a < jL b) ↔ a < b := by
  rw [Int64.lt_iff_toInt_lt, jL_int h1 h2, jL_int h3 h4]
theorem jL_le {a b : Int} (h1 : -9223372036854775808 ≤ a) (h2 : a < 9223372036854775808) (h3 : -9223372036854775808 ≤ b) (h4 : b < 9223372036854775808) : (jL a ≤ jL b) ↔ a ≤ b := by
  rw [Int64.le_iff_toInt_le, jL_int h1 h2, jL_int h3 h4]
theorem jL_eq {a b : Int} (h1 : -9223372036854775808 ≤ a) (h2 : a < 9223372036854775808) (h3 : -9223372036854775808 ≤ b) (h4 : b < 9223372036854775808) : (jL a = jL b) ↔ a = b := by
  rw [← Int64.toInt_inj, jL_int h1 h2, jL_int h3 h4]
theorem jI_nat {z : Int} (h1 : 0 ≤ z) (h2 : z < 2147483648) : (jI z).toNatClampNeg = z.toNat := by
  show (jI z).toInt.toNat = z.toNat
  rw [jI_int (by omega) h2]
theorem jI_div {a b : Int} (h1 : 0 ≤ a) (h2 : a < 2147483648) (h3 : 0 < b) (h4 : b < 2147483648) : jI a / jI b = jI (a / b) := by
  have hb : jI b ≠ -1 := by
    intro e
    have := congrArg Int32.toInt e
    rw [jI_int (by omega) h4] at this
    have e1 : (-1 : Int32).toInt = -1 := by decide
    omega
  apply Int32.toInt_inj.1
  have h5 := Int.ediv_le_self b h1
  have h6 : 0 ≤ a / b := Int.ediv_nonneg h1 (by omega)
  rw [Int32.toInt_div_of_ne_right _ _ hb, jI_int (by omega) h2, jI_int (by omega) h4, jI_int (by omega) (by omega), Int.tdiv_eq_ediv_of_nonneg h1]
theorem jI_rem {a b : Int} (h1 : 0 ≤ a) (h2 : a < 2147483648) (h3 : 0 < b) (h4 : b < 2147483648) : irm (jI a) (jI b) = jI (a % b) := by
  unfold irm
  rw [jI_div h1 h2 h3 h4, jI_mul, jI_sub, Int.emod_def, Int.mul_comm]
theorem jL_tdiv {a b : Int} (h1 : -9223372036854775808 < a) (h2 : a < 9223372036854775808) (h3 : 0 < b) (h4 : b < 9223372036854775808) : jL a / jL b = jL (a.tdiv b) := by
  have hb : jL b ≠ -1 := by
    intro e
    have := congrArg Int64.toInt e
    rw [jL_int (by omega) h4] at this
    have e1 : (-1 : Int64).toInt = -1 := by decide
    omega
  apply Int64.toInt_inj.1
  have h5 := Int.natAbs_tdiv_le_natAbs a b
  have h6 : 0 ≤ a → 0 ≤ a.tdiv b := fun h => Int.tdiv_nonneg h (by omega)
  rw [Int64.toInt_div_of_ne_right _ _ hb, jL_int (by omega) h2, jL_int (by omega) h4, jL_int (by omega) (by omega)]
theorem jL_trem {a b : Int} (h1 : -9223372036854775808 < a) (h2 : a < 9223372036854775808) (h3 : 0 < b) (h4 : b < 9223372036854775808) : lrm (jL a) (jL b) = jL (a.tmod b) := by
  unfold lrm
  rw [jL_tdiv h1 h2 h3 h4, jL_mul, jL_sub, Int.tmod_def, Int.mul_comm]
theorem jL_div {a b : Int} (h1 : 0 ≤ a) (h2 : a < 9223372036854775808) (h3 : 0 < b) (h4 : b < 9223372036854775808) : jL a / jL b = jL (a / b) := by
  rw [jL_tdiv (by omega) h2 h3 h4, Int.tdiv_eq_ediv_of_nonneg h1]
theorem jL_rem {a b : Int} (h1 : 0 ≤ a) (h2 : a < 9223372036854775808) (h3 : 0 < b) (h4 : b < 9223372036854775808) : lrm (jL a) (jL b) = jL (a % b) := by
  rw [jL_trem (by omega) h2 h3 h4, Int.tmod_eq_emod_of_nonneg h1]
theorem jL_abs {a : Int} (h1 : -9223372036854775808 ≤ a) (h2 : a < 9223372036854775808) : labs (jL a) = jL (a.natAbs : Int) := by
  unfold labs
  simp only [jL_lit, jL_lt (show (-9223372036854775808 : Int) ≤ 0 by omega) (show (0 : Int) < 9223372036854775808 by omega) h1 h2, jL_neg]
  split
  · congr 1; omega
  · congr 1; omega
theorem jI_long {a : Int} (h1 : -2147483648 ≤ a) (h2 : a < 2147483648) : Int32.toInt64 (jI a) = jL a := by
  apply Int64.toInt_inj.1
  rw [Int32.toInt_toInt64, jI_int h1 h2, jL_int (by omega) (by omega)]
theorem jL_short (a : Int) : Int64.toInt32 (jL a) = jI a := Int64.toInt32_ofInt
theorem jI_max {a b : Int} (h1 : -2147483648 ≤ a) (h2 : a < 2147483648) (h3 : -2147483648 ≤ b) (h4 : b < 2147483648) : imax (jI a) (jI b) = jI (max a b) := by
  unfold imax
  simp only [jI_lt h1 h2 h3 h4]
  split
  · congr 1; omega
  · congr 1; omega
theorem jI_min {a b : Int} (h1 : -2147483648 ≤ a) (h2 : a < 2147483648) (h3 : -2147483648 ≤ b) (h4 : b < 2147483648) : imin (jI a) (jI b) = jI (min a b) := by
  unfold imin
  simp only [jI_lt h3 h4 h1 h2]
  split
  · congr 1; omega
  · congr 1; omega
theorem jL_cmp {a b : Int} (h1 : -9223372036854775808 ≤ a) (h2 : a < 9223372036854775808) (h3 : -9223372036854775808 ≤ b) (h4 : b < 9223372036854775808) : lg_cmp (jL a) (jL b) = if b < a then jI 1 else if a = b then jI 0 else jI (-1) := by
  unfold lg_cmp
  simp only [gt_iff_lt, jL_lt h3 h4 h1 h2, jL_eq h1 h2 h3 h4]
  rfl
-- shifts and masks
theorem jI_shr1 {z : Int} (h1 : -2147483648 ≤ z) (h2 : z < 2147483648) : jI z >>> (jI 1 &&& jI 31) = jI (z / 2) := by
  apply Int32.toInt_inj.1
  rw [pk_shr _ _ 1 (by decide +kernel), jI_int h1 h2, jI_int (by omega) (by omega), Int.shiftRight_eq_div_pow]
  rfl
theorem jI_shr4 {z : Int} (h1 : -2147483648 ≤ z) (h2 : z < 2147483648) : jI z >>> (jI 4 &&& jI 31) = jI (z / 16) := by
  apply Int32.toInt_inj.1
  rw [pk_shr _ _ 4 (by decide +kernel), jI_int h1 h2, jI_int (by omega) (by omega), Int.shiftRight_eq_div_pow]
  rfl
theorem jI_shr0 (x : Int32) : x >>> (jI 0 &&& jI 31) = x := by
  apply Int32.toInt_inj.1
  rw [pk_shr _ _ 0 (by decide +kernel), Int.shiftRight_eq_div_pow]
  simp
theorem jI_bv (z : Int) : (jI z).toBitVec.toNat = (z % 4294967296).toNat := by
  show (BitVec.ofInt 32 z).toNat = _
  rw [BitVec.toNat_ofInt]
  rfl
theorem jI_and1 (z : Int) : jI z &&& jI 1 = jI (z % 2) := by
  rw [pk_and (jI z) 1 (by decide +kernel), jI_bv]
  show Int32.ofNat _ = _
  rw [jI_nI]
  congr 1
  omega
theorem jI_and15 (z : Int) : jI z &&& jI 15 = jI (z % 16) := by
  rw [pk_and (jI z) 4 (by decide +kernel), jI_bv]
  show Int32.ofNat _ = _
  rw [jI_nI]
  congr 1
  omega
theorem jI_and255 (z : Int) : jI z &&& jI 255 = jI (z % 256) := by
  rw [pk_and (jI z) 8 (by decide +kernel), jI_bv]
  show Int32.ofNat _ = _
  rw [jI_nI]
  congr 1
  omega
theorem jI_and32767 (z : Int) : jI z &&& jI 32767 = jI (z % 32768) := by
  rw [pk_and (jI z) 15 (by decide +kernel), jI_bv]
  show Int32.ofNat _ = _
  rw [jI_nI]
  congr 1
  omega
theorem bts_or : ∀ a : Fin 16, ∀ b : Fin 16, (jI ((a.val : Nat) : Int) <<< (jI 4 &&& jI 31)) ||| jI ((b.val : Nat) : Int) = jI (16 * ((a.val : Nat) : Int) + ((b.val : Nat) : Int)) := by decide +kernel
theorem jI_join {a b : Int} (h1 : 0 ≤ a) (h2 : a < 16) (h3 : 0 ≤ b) (h4 : b < 16) : (jI a <<< (jI 4 &&& jI 31)) ||| jI b = jI (16 * a + b) := by
  obtain ⟨x, rfl⟩ := Int.eq_ofNat_of_zero_le h1
  obtain ⟨y, rfl⟩ := Int.eq_ofNat_of_zero_le h3
  exact bts_or ⟨x, by omega⟩ ⟨y, by omega⟩
theorem bts_hi : ∀ v : Fin 256, ∀ b : Fin 16, (jI ((v.val : Nat) : Int) &&& jI 240) ||| jI ((b.val : Nat) : Int) = jI (((v.val : Nat) : Int) / 16 * 16 + ((b.val : Nat) : Int)) := by decide +kernel
theorem jI_hi {v b : Int} (h1 : 0 ≤ v) (h2 : v < 256) (h3 : 0 ≤ b) (h4 : b < 16) : (jI v &&& jI 240) ||| jI b = jI (v / 16 * 16 + b) := by
  obtain ⟨x, rfl⟩ := Int.eq_ofNat_of_zero_le h1
  obtain ⟨y, rfl⟩ := Int.eq_ofNat_of_zero_le h3
  exact bts_hi ⟨x, by omega⟩ ⟨y, by omega⟩
theorem bts_240 : ∀ b : Fin 16, jI 240 ||| jI ((b.val : Nat) : Int) = jI (240 + ((b.val : Nat) : Int)) := by decide +kernel
theorem jI_240 {b : Int} (h3 : 0 ≤ b) (h4 : b < 16) : jI 240 ||| jI b = jI (240 + b) := by
  obtain ⟨y, rfl⟩ := Int.eq_ofNat_of_zero_le h3
  exact bts_240 ⟨y, by omega⟩
theorem bts_and240 : ∀ v : Fin 256, jI ((v.val : Nat) : Int) &&& jI 240 = jI (((v.val : Nat) : Int) / 16 * 16) := by decide +kernel
theorem jI_and240 {v : Int} (h1 : 0 ≤ v) (h2 : v < 256) : jI v &&& jI 240 = jI (v / 16 * 16) := by
  obtain ⟨x, rfl⟩ := Int.eq_ofNat_of_zero_le h1
  exact bts_and240 ⟨x, by omega⟩
theorem bts_n15 : ∀ v : Fin 256, jI ((v.val : Nat) : Int) &&& (jI 15 ^^^ jI (-1)) = jI (16 * (((v.val : Nat) : Int) / 16)) := by decide +kernel
theorem bts_n240 : ∀ v : Fin 256, jI ((v.val : Nat) : Int) &&& (jI 240 ^^^ jI (-1)) = jI (((v.val : Nat) : Int) % 16) := by decide +kernel
theorem bts_n255 : ∀ v : Fin 256, jI ((v.val : Nat) : Int) &&& (jI 255 ^^^ jI (-1)) = jI 0 := by decide +kernel
theorem bts_or16 : ∀ a : Fin 16, ∀ b : Fin 16, jI (16 * ((a.val : Nat) : Int)) ||| jI ((b.val : Nat) : Int) = jI (16 * ((a.val : Nat) : Int) + ((b.val : Nat) : Int)) := by decide +kernel
theorem bts_ro16 : ∀ a : Fin 16, ∀ b : Fin 16, jI ((b.val : Nat) : Int) ||| jI (16 * ((a.val : Nat) : Int)) = jI (16 * ((a.val : Nat) : Int) + ((b.val : Nat) : Int)) := by decide +kernel
theorem jI_c255 {v w : Int} (h1 : 0 ≤ v) (h2 : v < 256) (h3 : 0 ≤ w) (h4 : w < 256) : (jI v &&& (jI 255 ^^^ jI (-1))) ||| (jI w &&& jI 255) = jI w := by
  obtain ⟨x, rfl⟩ := Int.eq_ofNat_of_zero_le h1
  rw [bts_n255 ⟨x, by omega⟩, jI_and255, Int.emod_eq_of_lt h3 h4]
  exact Int32.zero_or
theorem jI_c15 {v w : Int} (h1 : 0 ≤ v) (h2 : v < 256) (h3 : 0 ≤ w) (h4 : w < 256) : (jI v &&& (jI 15 ^^^ jI (-1))) ||| (jI w &&& jI 15) = jI (v / 16 * 16 + w % 16) := by
  obtain ⟨x, rfl⟩ := Int.eq_ofNat_of_zero_le h1
  obtain ⟨y, rfl⟩ := Int.eq_ofNat_of_zero_le h3
  rw [bts_n15 ⟨x, by omega⟩, jI_and15]
  have h := bts_or16 ⟨x / 16, by omega⟩ ⟨y % 16, by omega⟩
  have e1 : ((x / 16 : Nat) : Int) = (x : Int) / 16 := by omega
  have e2 : ((y % 16 : Nat) : Int) = (y : Int) % 16 := by omega
  simp only [e1, e2] at h
  rw [h, Int.mul_comm]
theorem jI_c240 {v w : Int} (h1 : 0 ≤ v) (h2 : v < 256) (h3 : 0 ≤ w) (h4 : w < 256) : (jI v &&& (jI 240 ^^^ jI (-1))) ||| (jI w &&& jI 240) = jI (w / 16 * 16 + v % 16) := by
  rw [jI_and240 h3 h4]
  obtain ⟨x, rfl⟩ := Int.eq_ofNat_of_zero_le h1
  obtain ⟨y, rfl⟩ := Int.eq_ofNat_of_zero_le h3
  rw [bts_n240 ⟨x, by omega⟩, Int.mul_comm]
  have h := bts_ro16 ⟨y / 16, by omega⟩ ⟨x % 16, by omega⟩
  have e1 : ((y / 16 : Nat) : Int) = (y : Int) / 16 := by omega
  have e2 : ((x % 16 : Nat) : Int) = (x : Int) % 16 := by omega
  simp only [e1, e2] at h
  rw [h]
end NM
