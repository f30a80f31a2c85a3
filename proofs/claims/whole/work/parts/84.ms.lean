section MSS
/-! THE REFERENCE'S MEMORY with its fields f and its row r told apart -/
variable {c : MC} {m : Nat} {f r : Nat → Int} {s t : SI2}
def MS (c : MC) (m : Nat) (f r : Nat → Int) (s t : SI2) : Hp := MH c m (va_up (va_up s 3 r) 0 f) t
theorem MS_of : MH c m s t = MS c m (s 0) (s 3) s t := by
  unfold MS; rw [up_id, up_id]
theorem ms0 : (va_up (va_up s 3 r) 0 f) 0 = f := va_up_self _ _ _
theorem ms3 : (va_up (va_up s 3 r) 0 f) 3 = r := by rw [va_up_ne _ _ (by omega), va_up_self]
theorem msj {j : Nat} (h0 : j ≠ 0) (h3 : j ≠ 3) : (va_up (va_up s 3 r) 0 f) j = s j := by rw [va_up_ne _ _ h0, va_up_ne _ _ h3]
theorem mu0 (g : Nat → Int) : va_up (va_up (va_up s 3 r) 0 f) 0 g = va_up (va_up s 3 r) 0 g := upup _ _ _ _
theorem mu3 (g : Nat → Int) : va_up (va_up (va_up s 3 r) 0 f) 3 g = va_up (va_up s 3 g) 0 f := by rw [up_sw _ _ _ (by omega), upup]
theorem muj {j : Nat} (h0 : j ≠ 0) (h3 : j ≠ 3) (g : Nat → Int) : va_up (va_up (va_up s 3 r) 0 f) j g = va_up (va_up (va_up s j g) 3 r) 0 f := by rw [up_sw _ _ _ (Ne.symm h0), up_sw _ _ _ (Ne.symm h3)]
theorem s_gd {β : Type} (x : Option β) (hm : Mo c m) : gd 11 m (MS c m f r s t) x = x := m_gd x hm
theorem s_gI {k : Nat} (hm : Mo c m) : gI 11 m k (MS c m f r s t) = some (jI (f k)) := by
  unfold MS; rw [m_gI hm, ms0]
theorem s_pI {k : Nat} {v : Int} (hm : Mo c m) : pI 11 m k (jI v) (MS c m f r s t) = some (MS c m (va_up f k v) r s t) := by
  unfold MS; (rw [m_pI hm]; (try rw [ms0]); (try rw [mu0]))
theorem s_pZ {k : Nat} {v : Int} (hm : Mo c m) (hv : jI v = 0 ∨ jI v = 1) : pZ 11 m k (jI v) (MS c m f r s t) = some (MS c m (va_up f k v) r s t) := by
  unfold MS; (rw [m_pZ hm hv]; (try rw [ms0]); (try rw [mu0]))
theorem s_pZ0 {k : Nat} (hm : Mo c m) : pZ 11 m k (jI 0) (MS c m f r s t) = some (MS c m (va_up f k 0) r s t) := s_pZ hm (Or.inl rfl)
theorem s_pZ1 {k : Nat} (hm : Mo c m) : pZ 11 m k (jI 1) (MS c m f r s t) = some (MS c m (va_up f k 1) r s t) := s_pZ hm (Or.inr rfl)
theorem s_pZb {k : Nat} {b : Bool} (hm : Mo c m) : pZ 11 m k (jI (b2 b)) (MS c m f r s t) = some (MS c m (va_up f k (b2 b)) r s t) := s_pZ hm (b2_01 b)
theorem s_a3 {z : Int} (hm : Mo c m) (z0 : 0 ≤ z) (z1 : z < 414) : aI (m + 3) (jI z) (MS c m f r s t) = some (jI (r z.toNat)) := by
  unfold MS; rw [m_a3 hm z0 z1, ms3]
theorem s_q3 {z v : Int} (hm : Mo c m) (z0 : 0 ≤ z) (z1 : z < 414) : qI (m + 3) (jI z) (jI v) (MS c m f r s t) = some (MS c m f (va_up r z.toNat v) s t) := by
  unfold MS; (rw [m_q3 hm z0 z1]; (try rw [ms3]); (try rw [mu3]))
theorem s_aN {j : Nat} (hm : Mo c m) (h0 : 0 < j) (hj : j < 37) (hk : mK j = 101) : aN 101 (m + j) (MS c m f r s t) = some (jI (mN j : Int)) := m_aN hm h0 hj hk
theorem s_aR1 {z : Int} (hm : Mo c m) (z0 : 0 ≤ z) (z1 : z < 25) : aR 105 (m + 1) (jI z) (MS c m f r s t) = some (41 + z.toNat) := m_aR1 hm z0 z1
theorem s_aR2 {z : Int} (hm : Mo c m) (z0 : 0 ≤ z) (z1 : z < 4) : aR 105 (m + 2) (jI z) (MS c m f r s t) = some (66 + z.toNat) := m_aR2 hm z0 z1
theorem s_aN1 (hm : Mo c m) : aN 105 (m + 1) (MS c m f r s t) = some (jI 25) := m_aN1 hm
theorem s_aN2 (hm : Mo c m) : aN 105 (m + 2) (MS c m f r s t) = some (jI 4) := m_aN2 hm
theorem s_R0 (hm : Mo c m) : gR 11 m 0 (MS c m f r s t) = some (m + 1) := m_R0 hm
theorem s_R1 (hm : Mo c m) : gR 11 m 1 (MS c m f r s t) = some (m + 2) := m_R1 hm
theorem s_R3 (hm : Mo c m) : gR 11 m 3 (MS c m f r s t) = some (m + 3) := m_R3 hm
theorem s_R4 (hm : Mo c m) : gR 11 m 4 (MS c m f r s t) = some (m + 4) := m_R4 hm
theorem s_R5 (hm : Mo c m) : gR 11 m 5 (MS c m f r s t) = some (m + 5) := m_R5 hm
theorem s_R6 (hm : Mo c m) : gR 11 m 6 (MS c m f r s t) = some (m + 6) := m_R6 hm
theorem s_R7 (hm : Mo c m) : gR 11 m 7 (MS c m f r s t) = some (m + 7) := m_R7 hm
theorem s_R8 (hm : Mo c m) : gR 11 m 8 (MS c m f r s t) = some (m + 8) := m_R8 hm
theorem s_R9 (hm : Mo c m) : gR 11 m 9 (MS c m f r s t) = some (m + 9) := m_R9 hm
theorem s_R10 (hm : Mo c m) : gR 11 m 10 (MS c m f r s t) = some (m + 10) := m_R10 hm
theorem s_R11 (hm : Mo c m) : gR 11 m 11 (MS c m f r s t) = some (m + 11) := m_R11 hm
theorem s_R12 (hm : Mo c m) : gR 11 m 12 (MS c m f r s t) = some (m + 12) := m_R12 hm
theorem s_R15 (hm : Mo c m) : gR 11 m 15 (MS c m f r s t) = some (m + 13) := m_R15 hm
theorem s_R26 (hm : Mo c m) : gR 11 m 26 (MS c m f r s t) = some (m + 14) := m_R26 hm
theorem s_R27 (hm : Mo c m) : gR 11 m 27 (MS c m f r s t) = some (m + 15) := m_R27 hm
theorem s_R28 (hm : Mo c m) : gR 11 m 28 (MS c m f r s t) = some (m + 16) := m_R28 hm
theorem s_R29 (hm : Mo c m) : gR 11 m 29 (MS c m f r s t) = some (m + 17) := m_R29 hm
theorem s_R30 (hm : Mo c m) : gR 11 m 30 (MS c m f r s t) = some (m + 18) := m_R30 hm
theorem s_R31 (hm : Mo c m) : gR 11 m 31 (MS c m f r s t) = some (m + 19) := m_R31 hm
theorem s_R32 (hm : Mo c m) : gR 11 m 32 (MS c m f r s t) = some (m + 20) := m_R32 hm
theorem s_R33 (hm : Mo c m) : gR 11 m 33 (MS c m f r s t) = some (m + 21) := m_R33 hm
theorem s_R45 (hm : Mo c m) : gR 11 m 45 (MS c m f r s t) = some (m + 22) := m_R45 hm
theorem s_R52 (hm : Mo c m) : gR 11 m 52 (MS c m f r s t) = some (m + 23) := m_R52 hm
theorem s_R55 (hm : Mo c m) : gR 11 m 55 (MS c m f r s t) = some (m + 24) := m_R55 hm
theorem s_R60 (hm : Mo c m) : gR 11 m 60 (MS c m f r s t) = some (m + 25) := m_R60 hm
theorem s_R61 (hm : Mo c m) : gR 11 m 61 (MS c m f r s t) = some (m + 26) := m_R61 hm
theorem s_R62 (hm : Mo c m) : gR 11 m 62 (MS c m f r s t) = some (m + 27) := m_R62 hm
theorem s_R63 (hm : Mo c m) : gR 11 m 63 (MS c m f r s t) = some (m + 28) := m_R63 hm
theorem s_R64 (hm : Mo c m) : gR 11 m 64 (MS c m f r s t) = some (m + 29) := m_R64 hm
theorem s_R65 (hm : Mo c m) : gR 11 m 65 (MS c m f r s t) = some (m + 30) := m_R65 hm
theorem s_R70 (hm : Mo c m) : gR 11 m 70 (MS c m f r s t) = some (m + 31) := m_R70 hm
theorem s_R71 (hm : Mo c m) : gR 11 m 71 (MS c m f r s t) = some (m + 32) := m_R71 hm
theorem s_R72 (hm : Mo c m) : gR 11 m 72 (MS c m f r s t) = some (m + 33) := m_R72 hm
theorem s_R73 (hm : Mo c m) : gR 11 m 73 (MS c m f r s t) = some (m + 34) := m_R73 hm
theorem s_R74 (hm : Mo c m) : gR 11 m 74 (MS c m f r s t) = some (m + 35) := m_R74 hm
theorem s_R75 (hm : Mo c m) : gR 11 m 75 (MS c m f r s t) = some (m + 36) := m_R75 hm
theorem s_a4 {z : Int} (hm : Mo c m) (z0 : 0 ≤ z) (z1 : z < 3) : aI (m + 4) (jI z) (MS c m f r s t) = some (jI (s 4 z.toNat)) := by
  unfold MS; rw [m_a4 hm z0 z1, msj (by omega) (by omega)]
theorem s_q4 {z v : Int} (hm : Mo c m) (z0 : 0 ≤ z) (z1 : z < 3) : qI (m + 4) (jI z) (jI v) (MS c m f r s t) = some (MS c m f r (va_up s 4 (va_up (s 4) z.toNat v)) t) := by
  unfold MS; rw [m_q4 hm z0 z1, msj (by omega) (by omega), muj (by omega) (by omega)]
theorem s_a5 {z : Int} (hm : Mo c m) (z0 : 0 ≤ z) (z1 : z < 120) : aI (m + 5) (jI z) (MS c m f r s t) = some (jI (s 5 z.toNat)) := by
  unfold MS; rw [m_a5 hm z0 z1, msj (by omega) (by omega)]
theorem s_q5 {z v : Int} (hm : Mo c m) (z0 : 0 ≤ z) (z1 : z < 120) : qI (m + 5) (jI z) (jI v) (MS c m f r s t) = some (MS c m f r (va_up s 5 (va_up (s 5) z.toNat v)) t) := by
  unfold MS; rw [m_q5 hm z0 z1, msj (by omega) (by omega), muj (by omega) (by omega)]
theorem s_a6 {z : Int} (hm : Mo c m) (z0 : 0 ≤ z) (z1 : z < 240) : aI (m + 6) (jI z) (MS c m f r s t) = some (jI (s 6 z.toNat)) := by
  unfold MS; rw [m_a6 hm z0 z1, msj (by omega) (by omega)]
theorem s_q6 {z v : Int} (hm : Mo c m) (z0 : 0 ≤ z) (z1 : z < 240) : qI (m + 6) (jI z) (jI v) (MS c m f r s t) = some (MS c m f r (va_up s 6 (va_up (s 6) z.toNat v)) t) := by
  unfold MS; rw [m_q6 hm z0 z1, msj (by omega) (by omega), muj (by omega) (by omega)]
theorem s_a7 {z : Int} (hm : Mo c m) (z0 : 0 ≤ z) (z1 : z < 240) : aI (m + 7) (jI z) (MS c m f r s t) = some (jI (s 7 z.toNat)) := by
  unfold MS; rw [m_a7 hm z0 z1, msj (by omega) (by omega)]
theorem s_q7 {z v : Int} (hm : Mo c m) (z0 : 0 ≤ z) (z1 : z < 240) : qI (m + 7) (jI z) (jI v) (MS c m f r s t) = some (MS c m f r (va_up s 7 (va_up (s 7) z.toNat v)) t) := by
  unfold MS; rw [m_q7 hm z0 z1, msj (by omega) (by omega), muj (by omega) (by omega)]
theorem s_a8 {z : Int} (hm : Mo c m) (z0 : 0 ≤ z) (z1 : z < 240) : aI (m + 8) (jI z) (MS c m f r s t) = some (jI (s 8 z.toNat)) := by
  unfold MS; rw [m_a8 hm z0 z1, msj (by omega) (by omega)]
theorem s_q8 {z v : Int} (hm : Mo c m) (z0 : 0 ≤ z) (z1 : z < 240) : qI (m + 8) (jI z) (jI v) (MS c m f r s t) = some (MS c m f r (va_up s 8 (va_up (s 8) z.toNat v)) t) := by
  unfold MS; rw [m_q8 hm z0 z1, msj (by omega) (by omega), muj (by omega) (by omega)]
theorem s_a9 {z : Int} (hm : Mo c m) (z0 : 0 ≤ z) (z1 : z < 120) : aI (m + 9) (jI z) (MS c m f r s t) = some (jI (s 9 z.toNat)) := by
  unfold MS; rw [m_a9 hm z0 z1, msj (by omega) (by omega)]
theorem s_q9 {z v : Int} (hm : Mo c m) (z0 : 0 ≤ z) (z1 : z < 120) : qI (m + 9) (jI z) (jI v) (MS c m f r s t) = some (MS c m f r (va_up s 9 (va_up (s 9) z.toNat v)) t) := by
  unfold MS; rw [m_q9 hm z0 z1, msj (by omega) (by omega), muj (by omega) (by omega)]
theorem s_a10 {z : Int} (hm : Mo c m) (z0 : 0 ≤ z) (z1 : z < 120) : aI (m + 10) (jI z) (MS c m f r s t) = some (jI (s 10 z.toNat)) := by
  unfold MS; rw [m_a10 hm z0 z1, msj (by omega) (by omega)]
theorem s_q10 {z v : Int} (hm : Mo c m) (z0 : 0 ≤ z) (z1 : z < 120) : qI (m + 10) (jI z) (jI v) (MS c m f r s t) = some (MS c m f r (va_up s 10 (va_up (s 10) z.toNat v)) t) := by
  unfold MS; rw [m_q10 hm z0 z1, msj (by omega) (by omega), muj (by omega) (by omega)]
theorem s_a11 {z : Int} (hm : Mo c m) (z0 : 0 ≤ z) (z1 : z < 120) : aI (m + 11) (jI z) (MS c m f r s t) = some (jI (s 11 z.toNat)) := by
  unfold MS; rw [m_a11 hm z0 z1, msj (by omega) (by omega)]
theorem s_q11 {z v : Int} (hm : Mo c m) (z0 : 0 ≤ z) (z1 : z < 120) : qI (m + 11) (jI z) (jI v) (MS c m f r s t) = some (MS c m f r (va_up s 11 (va_up (s 11) z.toNat v)) t) := by
  unfold MS; rw [m_q11 hm z0 z1, msj (by omega) (by omega), muj (by omega) (by omega)]
theorem s_a12 {z : Int} (hm : Mo c m) (z0 : 0 ≤ z) (z1 : z < 512) : aI (m + 12) (jI z) (MS c m f r s t) = some (jI (s 12 z.toNat)) := by
  unfold MS; rw [m_a12 hm z0 z1, msj (by omega) (by omega)]
theorem s_q12 {z v : Int} (hm : Mo c m) (z0 : 0 ≤ z) (z1 : z < 512) : qI (m + 12) (jI z) (jI v) (MS c m f r s t) = some (MS c m f r (va_up s 12 (va_up (s 12) z.toNat v)) t) := by
  unfold MS; rw [m_q12 hm z0 z1, msj (by omega) (by omega), muj (by omega) (by omega)]
theorem s_a13 {z : Int} (hm : Mo c m) (z0 : 0 ≤ z) (z1 : z < 700) : aI (m + 13) (jI z) (MS c m f r s t) = some (jI (s 13 z.toNat)) := by
  unfold MS; rw [m_a13 hm z0 z1, msj (by omega) (by omega)]
theorem s_q13 {z v : Int} (hm : Mo c m) (z0 : 0 ≤ z) (z1 : z < 700) : qI (m + 13) (jI z) (jI v) (MS c m f r s t) = some (MS c m f r (va_up s 13 (va_up (s 13) z.toNat v)) t) := by
  unfold MS; rw [m_q13 hm z0 z1, msj (by omega) (by omega), muj (by omega) (by omega)]
theorem s_a14 {z : Int} (hm : Mo c m) (z0 : 0 ≤ z) (z1 : z < 61) : aI (m + 14) (jI z) (MS c m f r s t) = some (jI (s 14 z.toNat)) := by
  unfold MS; rw [m_a14 hm z0 z1, msj (by omega) (by omega)]
theorem s_q14 {z v : Int} (hm : Mo c m) (z0 : 0 ≤ z) (z1 : z < 61) : qI (m + 14) (jI z) (jI v) (MS c m f r s t) = some (MS c m f r (va_up s 14 (va_up (s 14) z.toNat v)) t) := by
  unfold MS; rw [m_q14 hm z0 z1, msj (by omega) (by omega), muj (by omega) (by omega)]
theorem s_a15 {z : Int} (hm : Mo c m) (z0 : 0 ≤ z) (z1 : z < 61) : aI (m + 15) (jI z) (MS c m f r s t) = some (jI (s 15 z.toNat)) := by
  unfold MS; rw [m_a15 hm z0 z1, msj (by omega) (by omega)]
theorem s_q15 {z v : Int} (hm : Mo c m) (z0 : 0 ≤ z) (z1 : z < 61) : qI (m + 15) (jI z) (jI v) (MS c m f r s t) = some (MS c m f r (va_up s 15 (va_up (s 15) z.toNat v)) t) := by
  unfold MS; rw [m_q15 hm z0 z1, msj (by omega) (by omega), muj (by omega) (by omega)]
theorem s_a16 {z : Int} (hm : Mo c m) (z0 : 0 ≤ z) (z1 : z < 61) : aI (m + 16) (jI z) (MS c m f r s t) = some (jI (s 16 z.toNat)) := by
  unfold MS; rw [m_a16 hm z0 z1, msj (by omega) (by omega)]
theorem s_q16 {z v : Int} (hm : Mo c m) (z0 : 0 ≤ z) (z1 : z < 61) : qI (m + 16) (jI z) (jI v) (MS c m f r s t) = some (MS c m f r (va_up s 16 (va_up (s 16) z.toNat v)) t) := by
  unfold MS; rw [m_q16 hm z0 z1, msj (by omega) (by omega), muj (by omega) (by omega)]
theorem s_a17 {z : Int} (hm : Mo c m) (z0 : 0 ≤ z) (z1 : z < 61) : aI (m + 17) (jI z) (MS c m f r s t) = some (jI (s 17 z.toNat)) := by
  unfold MS; rw [m_a17 hm z0 z1, msj (by omega) (by omega)]
theorem s_q17 {z v : Int} (hm : Mo c m) (z0 : 0 ≤ z) (z1 : z < 61) : qI (m + 17) (jI z) (jI v) (MS c m f r s t) = some (MS c m f r (va_up s 17 (va_up (s 17) z.toNat v)) t) := by
  unfold MS; rw [m_q17 hm z0 z1, msj (by omega) (by omega), muj (by omega) (by omega)]
theorem s_a18 {z : Int} (hm : Mo c m) (z0 : 0 ≤ z) (z1 : z < 8) : aL (m + 18) (jI z) (MS c m f r s t) = some (jL (t 18 z.toNat)) := m_a18 hm z0 z1
theorem s_q18 {z v : Int} (hm : Mo c m) (z0 : 0 ≤ z) (z1 : z < 8) : qL (m + 18) (jI z) (jL v) (MS c m f r s t) = some (MS c m f r s (va_up t 18 (va_up (t 18) z.toNat v))) := m_q18 hm z0 z1
theorem s_a19 {z : Int} (hm : Mo c m) (z0 : 0 ≤ z) (z1 : z < 8) : aL (m + 19) (jI z) (MS c m f r s t) = some (jL (t 19 z.toNat)) := m_a19 hm z0 z1
theorem s_q19 {z v : Int} (hm : Mo c m) (z0 : 0 ≤ z) (z1 : z < 8) : qL (m + 19) (jI z) (jL v) (MS c m f r s t) = some (MS c m f r s (va_up t 19 (va_up (t 19) z.toNat v))) := m_q19 hm z0 z1
theorem s_a20 {z : Int} (hm : Mo c m) (z0 : 0 ≤ z) (z1 : z < 8) : aL (m + 20) (jI z) (MS c m f r s t) = some (jL (t 20 z.toNat)) := m_a20 hm z0 z1
theorem s_q20 {z v : Int} (hm : Mo c m) (z0 : 0 ≤ z) (z1 : z < 8) : qL (m + 20) (jI z) (jL v) (MS c m f r s t) = some (MS c m f r s (va_up t 20 (va_up (t 20) z.toNat v))) := m_q20 hm z0 z1
theorem s_a21 {z : Int} (hm : Mo c m) (z0 : 0 ≤ z) (z1 : z < 8) : aL (m + 21) (jI z) (MS c m f r s t) = some (jL (t 21 z.toNat)) := m_a21 hm z0 z1
theorem s_q21 {z v : Int} (hm : Mo c m) (z0 : 0 ≤ z) (z1 : z < 8) : qL (m + 21) (jI z) (jL v) (MS c m f r s t) = some (MS c m f r s (va_up t 21 (va_up (t 21) z.toNat v))) := m_q21 hm z0 z1
theorem s_a22 {z : Int} (hm : Mo c m) (z0 : 0 ≤ z) (z1 : z < 64) : aI (m + 22) (jI z) (MS c m f r s t) = some (jI (s 22 z.toNat)) := by
  unfold MS; rw [m_a22 hm z0 z1, msj (by omega) (by omega)]
theorem s_q22 {z v : Int} (hm : Mo c m) (z0 : 0 ≤ z) (z1 : z < 64) : qI (m + 22) (jI z) (jI v) (MS c m f r s t) = some (MS c m f r (va_up s 22 (va_up (s 22) z.toNat v)) t) := by
  unfold MS; rw [m_q22 hm z0 z1, msj (by omega) (by omega), muj (by omega) (by omega)]
theorem s_a23 {z : Int} (hm : Mo c m) (z0 : 0 ≤ z) (z1 : z < 132) : aL (m + 23) (jI z) (MS c m f r s t) = some (jL (t 23 z.toNat)) := m_a23 hm z0 z1
theorem s_q23 {z v : Int} (hm : Mo c m) (z0 : 0 ≤ z) (z1 : z < 132) : qL (m + 23) (jI z) (jL v) (MS c m f r s t) = some (MS c m f r s (va_up t 23 (va_up (t 23) z.toNat v))) := m_q23 hm z0 z1
theorem s_a24 {z : Int} (hm : Mo c m) (z0 : 0 ≤ z) (z1 : z < 32) : aI (m + 24) (jI z) (MS c m f r s t) = some (jI (s 24 z.toNat)) := by
  unfold MS; rw [m_a24 hm z0 z1, msj (by omega) (by omega)]
theorem s_q24 {z v : Int} (hm : Mo c m) (z0 : 0 ≤ z) (z1 : z < 32) : qI (m + 24) (jI z) (jI v) (MS c m f r s t) = some (MS c m f r (va_up s 24 (va_up (s 24) z.toNat v)) t) := by
  unfold MS; rw [m_q24 hm z0 z1, msj (by omega) (by omega), muj (by omega) (by omega)]
theorem s_a25 {z : Int} (hm : Mo c m) (z0 : 0 ≤ z) (z1 : z < 16560) : aI (m + 25) (jI z) (MS c m f r s t) = some (jI (s 25 z.toNat)) := by
  unfold MS; rw [m_a25 hm z0 z1, msj (by omega) (by omega)]
theorem s_q25 {z v : Int} (hm : Mo c m) (z0 : 0 ≤ z) (z1 : z < 16560) : qI (m + 25) (jI z) (jI v) (MS c m f r s t) = some (MS c m f r (va_up s 25 (va_up (s 25) z.toNat v)) t) := by
  unfold MS; rw [m_q25 hm z0 z1, msj (by omega) (by omega), muj (by omega) (by omega)]
theorem s_a26 {z : Int} (hm : Mo c m) (z0 : 0 ≤ z) (z1 : z < 414) : aI (m + 26) (jI z) (MS c m f r s t) = some (jI (s 26 z.toNat)) := by
  unfold MS; rw [m_a26 hm z0 z1, msj (by omega) (by omega)]
theorem s_q26 {z v : Int} (hm : Mo c m) (z0 : 0 ≤ z) (z1 : z < 414) : qI (m + 26) (jI z) (jI v) (MS c m f r s t) = some (MS c m f r (va_up s 26 (va_up (s 26) z.toNat v)) t) := by
  unfold MS; rw [m_q26 hm z0 z1, msj (by omega) (by omega), muj (by omega) (by omega)]
theorem s_a27 {z : Int} (hm : Mo c m) (z0 : 0 ≤ z) (z1 : z < 414) : aI (m + 27) (jI z) (MS c m f r s t) = some (jI (s 27 z.toNat)) := by
  unfold MS; rw [m_a27 hm z0 z1, msj (by omega) (by omega)]
theorem s_q27 {z v : Int} (hm : Mo c m) (z0 : 0 ≤ z) (z1 : z < 414) : qI (m + 27) (jI z) (jI v) (MS c m f r s t) = some (MS c m f r (va_up s 27 (va_up (s 27) z.toNat v)) t) := by
  unfold MS; rw [m_q27 hm z0 z1, msj (by omega) (by omega), muj (by omega) (by omega)]
theorem s_a28 {z : Int} (hm : Mo c m) (z0 : 0 ≤ z) (z1 : z < 8) : aI (m + 28) (jI z) (MS c m f r s t) = some (jI (s 28 z.toNat)) := by
  unfold MS; rw [m_a28 hm z0 z1, msj (by omega) (by omega)]
theorem s_q28 {z v : Int} (hm : Mo c m) (z0 : 0 ≤ z) (z1 : z < 8) : qI (m + 28) (jI z) (jI v) (MS c m f r s t) = some (MS c m f r (va_up s 28 (va_up (s 28) z.toNat v)) t) := by
  unfold MS; rw [m_q28 hm z0 z1, msj (by omega) (by omega), muj (by omega) (by omega)]
theorem s_a29 {z : Int} (hm : Mo c m) (z0 : 0 ≤ z) (z1 : z < 8) : aI (m + 29) (jI z) (MS c m f r s t) = some (jI (s 29 z.toNat)) := by
  unfold MS; rw [m_a29 hm z0 z1, msj (by omega) (by omega)]
theorem s_q29 {z v : Int} (hm : Mo c m) (z0 : 0 ≤ z) (z1 : z < 8) : qI (m + 29) (jI z) (jI v) (MS c m f r s t) = some (MS c m f r (va_up s 29 (va_up (s 29) z.toNat v)) t) := by
  unfold MS; rw [m_q29 hm z0 z1, msj (by omega) (by omega), muj (by omega) (by omega)]
theorem s_a30 {z : Int} (hm : Mo c m) (z0 : 0 ≤ z) (z1 : z < 8) : aI (m + 30) (jI z) (MS c m f r s t) = some (jI (s 30 z.toNat)) := by
  unfold MS; rw [m_a30 hm z0 z1, msj (by omega) (by omega)]
theorem s_q30 {z v : Int} (hm : Mo c m) (z0 : 0 ≤ z) (z1 : z < 8) : qI (m + 30) (jI z) (jI v) (MS c m f r s t) = some (MS c m f r (va_up s 30 (va_up (s 30) z.toNat v)) t) := by
  unfold MS; rw [m_q30 hm z0 z1, msj (by omega) (by omega), muj (by omega) (by omega)]
theorem s_a31 {z : Int} (hm : Mo c m) (z0 : 0 ≤ z) (z1 : z < 414) : aI (m + 31) (jI z) (MS c m f r s t) = some (jI (s 31 z.toNat)) := by
  unfold MS; rw [m_a31 hm z0 z1, msj (by omega) (by omega)]
theorem s_q31 {z v : Int} (hm : Mo c m) (z0 : 0 ≤ z) (z1 : z < 414) : qI (m + 31) (jI z) (jI v) (MS c m f r s t) = some (MS c m f r (va_up s 31 (va_up (s 31) z.toNat v)) t) := by
  unfold MS; rw [m_q31 hm z0 z1, msj (by omega) (by omega), muj (by omega) (by omega)]
theorem s_a32 {z : Int} (hm : Mo c m) (z0 : 0 ≤ z) (z1 : z < 16560) : aI (m + 32) (jI z) (MS c m f r s t) = some (jI (s 32 z.toNat)) := by
  unfold MS; rw [m_a32 hm z0 z1, msj (by omega) (by omega)]
theorem s_q32 {z v : Int} (hm : Mo c m) (z0 : 0 ≤ z) (z1 : z < 16560) : qI (m + 32) (jI z) (jI v) (MS c m f r s t) = some (MS c m f r (va_up s 32 (va_up (s 32) z.toNat v)) t) := by
  unfold MS; rw [m_q32 hm z0 z1, msj (by omega) (by omega), muj (by omega) (by omega)]
theorem s_a33 {z : Int} (hm : Mo c m) (z0 : 0 ≤ z) (z1 : z < 8) : aI (m + 33) (jI z) (MS c m f r s t) = some (jI (s 33 z.toNat)) := by
  unfold MS; rw [m_a33 hm z0 z1, msj (by omega) (by omega)]
theorem s_q33 {z v : Int} (hm : Mo c m) (z0 : 0 ≤ z) (z1 : z < 8) : qI (m + 33) (jI z) (jI v) (MS c m f r s t) = some (MS c m f r (va_up s 33 (va_up (s 33) z.toNat v)) t) := by
  unfold MS; rw [m_q33 hm z0 z1, msj (by omega) (by omega), muj (by omega) (by omega)]
theorem s_a34 {z : Int} (hm : Mo c m) (z0 : 0 ≤ z) (z1 : z < 8) : aI (m + 34) (jI z) (MS c m f r s t) = some (jI (s 34 z.toNat)) := by
  unfold MS; rw [m_a34 hm z0 z1, msj (by omega) (by omega)]
theorem s_q34 {z v : Int} (hm : Mo c m) (z0 : 0 ≤ z) (z1 : z < 8) : qI (m + 34) (jI z) (jI v) (MS c m f r s t) = some (MS c m f r (va_up s 34 (va_up (s 34) z.toNat v)) t) := by
  unfold MS; rw [m_q34 hm z0 z1, msj (by omega) (by omega), muj (by omega) (by omega)]
theorem s_a35 {z : Int} (hm : Mo c m) (z0 : 0 ≤ z) (z1 : z < 8) : aI (m + 35) (jI z) (MS c m f r s t) = some (jI (s 35 z.toNat)) := by
  unfold MS; rw [m_a35 hm z0 z1, msj (by omega) (by omega)]
theorem s_q35 {z v : Int} (hm : Mo c m) (z0 : 0 ≤ z) (z1 : z < 8) : qI (m + 35) (jI z) (jI v) (MS c m f r s t) = some (MS c m f r (va_up s 35 (va_up (s 35) z.toNat v)) t) := by
  unfold MS; rw [m_q35 hm z0 z1, msj (by omega) (by omega), muj (by omega) (by omega)]
theorem s_a36 {z : Int} (hm : Mo c m) (z0 : 0 ≤ z) (z1 : z < 3) : aI (m + 36) (jI z) (MS c m f r s t) = some (jI (s 36 z.toNat)) := by
  unfold MS; rw [m_a36 hm z0 z1, msj (by omega) (by omega)]
theorem s_q36 {z v : Int} (hm : Mo c m) (z0 : 0 ≤ z) (z1 : z < 3) : qI (m + 36) (jI z) (jI v) (MS c m f r s t) = some (MS c m f r (va_up s 36 (va_up (s 36) z.toNat v)) t) := by
  unfold MS; rw [m_q36 hm z0 z1, msj (by omega) (by omega), muj (by omega) (by omega)]
theorem s_half {z : Int} (hm : Mo c m) (hb : Byt r) (h0 : 0 ≤ z) (h1 : z < 512) : fX13_halfAt m (jI z) (MS c m f r s t) = some (jI (hf r z.toNat)) := by
  unfold MS; rw [w_half hm (by rw [ms3]; exact hb) h0 h1, ms3]
theorem s_lay {z v : Int} (hm : Mo c m) (hb : Byt r) (h0 : 0 ≤ z) (h1 : z < 512) : fX13_layHalf m (jI z) (jI v) (MS c m f r s t) = some (MS c m f (pth r z.toNat v) s t) := by
  unfold MS; (rw [w_lay hm (by rw [ms3]; exact hb) h0 h1]; (try rw [ms3]); (try rw [mu3]))
theorem s_clear {j : Nat} (hm : Mo c m) (h1 : 18 ≤ j) (h2 : j ≤ 21) : fX13_clear (m + j) (MS c m f r s t) = some (MS c m f r s (va_up t j (Lz (t j) 0))) := w_clear hm h1 h2
theorem s_put {j : Nat} {k d : Int} (hm : Mo c m) (h1 : 18 ≤ j) (h2 : j ≤ 21) (k0 : 0 ≤ k) (k1 : k < 64) (d1 : -2147483648 ≤ d) (d2 : d < 2147483648) : fX13_putDigit (m + j) (jI k) (jI d) (MS c m f r s t) = some (MS c m f r s (va_up t j (va_up (t j) (k / 8).toNat (t j (k / 8).toNat + d * ((10 ^ (k % 8).toNat : Nat) : Int))))) := w_put hm h1 h2 k0 k1 d1 d2
theorem s_digit {j v : Nat} {k : Int} (hm : Mo c m) (h1 : 18 ≤ j) (h2 : j ≤ 21) (hv : LV (t j) v) (k0 : 0 ≤ k) (k1 : k < 64) : fX13_digitOf (m + j) (jI k) (MS c m f r s t) = some (jI (dg v k.toNat : Int)) := w_digit hm h1 h2 hv k0 k1
theorem s_digits {j v : Nat} (hm : Mo c m) (h1 : 18 ≤ j) (h2 : j ≤ 21) (hv : LV (t j) v) : fX13_digitsOf (m + j) (MS c m f r s t) = some (jI (nd v : Int)) := w_digits hm h1 h2 hv
theorem s_noth {j v : Nat} (hm : Mo c m) (h1 : 18 ≤ j) (h2 : j ≤ 21) (hv : LV (t j) v) (hl : v < 10 ^ 64) : fX13_isNothing (m + j) (MS c m f r s t) = some (jI (if v = 0 then 1 else 0)) := w_noth hm h1 h2 hv hl
theorem s_order {j j2 v u : Nat} (hm : Mo c m) (h1 : 18 ≤ j) (h2 : j ≤ 21) (h3 : 18 ≤ j2) (h4 : j2 ≤ 21) (hv : LV (t j) v) (hu : LV (t j2) u) (lv : v < 10 ^ 64) (lu : u < 10 ^ 64) : fX13_orderOf (m + j) (m + j2) (MS c m f r s t) = some (jI (if v < u then -1 else if v = u then 0 else 1)) := w_order hm h1 h2 h3 h4 hv hu lv lu
theorem s_sum {j a b v u : Nat} (hm : Mo c m) (h1 : 18 ≤ j) (h2 : j ≤ 21) (h3 : 18 ≤ a) (h4 : a ≤ 21) (h5 : 18 ≤ b) (h6 : b ≤ 21) (ha : LV (t a) v) (hb : LV (t b) u) : fX13_sum (m + j) (m + a) (m + b) (MS c m f r s t) = some (MS c m f r s (va_up t j (Lz (t j) (v + u)))) := w_sum hm h1 h2 h3 h4 h5 h6 ha hb
theorem s_less {j a b v u : Nat} (hm : Mo c m) (h1 : 18 ≤ j) (h2 : j ≤ 21) (h3 : 18 ≤ a) (h4 : a ≤ 21) (h5 : 18 ≤ b) (h6 : b ≤ 21) (ha : LV (t a) v) (hb : LV (t b) u) (hle : u ≤ v) : fX13_less (m + j) (m + a) (m + b) (MS c m f r s t) = some (MS c m f r s (va_up t j (Lz (t j) (v - u)))) := w_less hm h1 h2 h3 h4 h5 h6 ha hb hle
theorem s_product {j a b v u : Nat} (hm : Mo c m) (h1 : 18 ≤ j) (h2 : j ≤ 21) (h3 : 18 ≤ a) (h4 : a ≤ 21) (h5 : 18 ≤ b) (h6 : b ≤ 21) (n1 : a ≠ j) (n2 : b ≠ j) (ha : LV (t a) v) (hb : LV (t b) u) : fX13_product (m + j) (m + a) (m + b) (MS c m f r s t) = some (MS c m f r s (va_up t j (Lz (t j) (v * u)))) := w_product hm h1 h2 h3 h4 h5 h6 n1 n2 ha hb
theorem s_loadA {j p n : Nat} (hm : Mo c m) (hb : Byt r) (h1 : 18 ≤ j) (h2 : j ≤ 21) (hp : p + n ≤ 256) (n1 : 1 ≤ n) (n2 : n ≤ 16) : ∃ g, fX13_load m (m + j) (jI (p : Int)) (jI (n : Int)) (MS c m f r s t) = some (MS c m f r s (va_up t j g)) := w_loadA hm (by rw [ms3]; exact hb) h1 h2 hp n1 n2
theorem s_load {j p n : Nat} (hm : Mo c m) (hb : Byt r) (h1 : 18 ≤ j) (h2 : j ≤ 21) (hp : p + n ≤ 256) (n1 : 1 ≤ n) (n2 : n ≤ 16) (hs : Snd r p n) : fX13_load m (m + j) (jI (p : Int)) (jI (n : Int)) (MS c m f r s t) = some (MS c m f r s (va_up t j (Lz (t j) (pkv r p n)))) := by
  unfold MS; rw [w_load hm (by rw [ms3]; exact hb) h1 h2 hp n1 n2 (by rw [ms3]; exact hs), ms3]
theorem s_store {j p n v : Nat} {sg : Bool} (hm : Mo c m) (hb : Byt r) (h1 : 18 ≤ j) (h2 : j ≤ 21) (hp : p + n ≤ 256) (n1 : 1 ≤ n) (n2 : n ≤ 16) (hv : LV (t j) v) : fX13_store m (jI (p : Int)) (jI (n : Int)) (m + j) (jI (b2 sg)) (MS c m f r s t) = some (MS c m f (sto r p n v (if sg then 13 else 12)) s t) := by
  unfold MS; (rw [w_store hm (by rw [ms3]; exact hb) h1 h2 hp n1 n2 hv]; (try rw [ms3]); (try rw [mu3]))
theorem s_sign {p n : Nat} (hm : Mo c m) (hb : Byt r) (hp : p + n ≤ 256) (n1 : 1 ≤ n) : fX13_signAt m (jI (p : Int)) (jI (n : Int)) (MS c m f r s t) = some (jI (hf r (2 * (p + n) - 1))) := by
  unfold MS; rw [w_sign hm (by rw [ms3]; exact hb) hp n1, ms3]
theorem s_flaw {p n : Nat} (hm : Mo c m) (hb : Byt r) (hp : p + n ≤ 256) (n1 : 1 ≤ n) : fX13_flawOf m (jI (p : Int)) (jI (n : Int)) (MS c m f r s t) = some (jI (flp r p n)) := by
  unfold MS; rw [w_flaw hm (by rw [ms3]; exact hb) hp n1, ms3]
end MSS
