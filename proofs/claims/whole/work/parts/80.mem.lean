section RM
/-! THE REFERENCE'S MEMORY: one object at m, its arrays behind it; ints and longs of it as integers -/
abbrev MC : Type := (Nat → Nat) × (Nat → Nat → Nat) × (Nat → Nat) × (Nat × Nat × Nat × Nat) × (Nat → Nat → Int32) × (Nat → Nat → Int64)
abbrev SI2 : Type := Nat → Nat → Int
def MH (c : MC) (m : Nat) (s t : SI2) : Hp := (c.1, fun y k => if m ≤ y ∧ y < m + 37 then jI (s (y - m) k) else c.2.2.2.2.1 y k, c.2.1, fun y k => if m ≤ y ∧ y < m + 37 then jL (t (y - m) k) else c.2.2.2.2.2 y k, c.2.2.1, c.2.2.2.1)
def mK (j : Nat) : Nat := if j = 0 then 11 else if j = 1 ∨ j = 2 then 105 else if (18 ≤ j ∧ j ≤ 21) ∨ j = 23 then 102 else 101
def mN (j : Nat) : Nat := if j = 1 then 25 else if j = 2 then 4 else if j = 3 then 414 else if j = 4 then 3 else if j = 5 then 120 else if j = 6 then 240 else if j = 7 then 240 else if j = 8 then 240 else if j = 9 then 120 else if j = 10 then 120 else if j = 11 then 120 else if j = 12 then 512 else if j = 13 then 700 else if j = 14 then 61 else if j = 15 then 61 else if j = 16 then 61 else if j = 17 then 61 else if j = 18 then 8 else if j = 19 then 8 else if j = 20 then 8 else if j = 21 then 8 else if j = 22 then 64 else if j = 23 then 132 else if j = 24 then 32 else if j = 25 then 16560 else if j = 26 then 414 else if j = 27 then 414 else if j = 28 then 8 else if j = 29 then 8 else if j = 30 then 8 else if j = 31 then 414 else if j = 32 then 16560 else if j = 33 then 8 else if j = 34 then 8 else if j = 35 then 8 else if j = 36 then 3 else 0
def mR (k : Nat) : Nat := if k = 0 then 1 else if k = 1 then 2 else if k = 3 then 3 else if k = 4 then 4 else if k = 5 then 5 else if k = 6 then 6 else if k = 7 then 7 else if k = 8 then 8 else if k = 9 then 9 else if k = 10 then 10 else if k = 11 then 11 else if k = 12 then 12 else if k = 15 then 13 else if k = 26 then 14 else if k = 27 then 15 else if k = 28 then 16 else if k = 29 then 17 else if k = 30 then 18 else if k = 31 then 19 else if k = 32 then 20 else if k = 33 then 21 else if k = 45 then 22 else if k = 52 then 23 else if k = 55 then 24 else if k = 60 then 25 else if k = 61 then 26 else if k = 62 then 27 else if k = 63 then 28 else if k = 64 then 29 else if k = 65 then 30 else if k = 70 then 31 else if k = 71 then 32 else if k = 72 then 33 else if k = 73 then 34 else if k = 74 then 35 else if k = 75 then 36 else 0
def Mo (c : MC) (m : Nat) : Prop := (∀ j, j < 37 → c.1 (m + j) = mK j) ∧ (∀ j, 0 < j → j < 37 → c.2.2.1 (m + j) = mN j) ∧ (∀ k, mR k ≠ 0 → c.2.1 m k = m + mR k) ∧ (∀ k, k < 25 → c.2.1 (m + 1) k = 41 + k) ∧ (∀ k, k < 4 → c.2.1 (m + 2) k = 66 + k)
variable {c : MC} {m : Nat} {s t : SI2}
theorem MH_I {j : Nat} (hj : j < 37) (k : Nat) : hI (MH c m s t) (m + j) k = jI (s j k) := by
  show (if m ≤ m + j ∧ m + j < m + 37 then jI (s (m + j - m) k) else c.2.2.2.2.1 (m + j) k) = _
  rw [if_pos (by omega), show m + j - m = j by omega]
theorem MH_L {j : Nat} (hj : j < 37) (k : Nat) : hL (MH c m s t) (m + j) k = jL (t j k) := by
  show (if m ≤ m + j ∧ m + j < m + 37 then jL (t (m + j - m) k) else c.2.2.2.2.2 (m + j) k) = _
  rw [if_pos (by omega), show m + j - m = j by omega]
theorem MH_sI {j k : Nat} {v : Int} (hj : j < 37) : sI (MH c m s t) (m + j) k (jI v) = MH c m (va_up s j (va_up (s j) k v)) t := by
  unfold sI MH
  refine congrArg (fun f => (c.1, f, c.2.1, (fun y k => if m ≤ y ∧ y < m + 37 then jL (t (y - m) k) else c.2.2.2.2.2 y k), c.2.2.1, c.2.2.2.1)) ?_
  funext y i
  by_cases e : y = m + j
  · subst e
    rw [va_up_self, if_pos (by omega), show m + j - m = j by omega, va_up_self]
    by_cases e2 : i = k
    · subst e2; rw [va_up_self, va_up_self]
    · rw [va_up_ne _ _ e2, va_up_ne _ _ e2]
      show (if m ≤ m + j ∧ m + j < m + 37 then jI (s (m + j - m) i) else c.2.2.2.2.1 (m + j) i) = _
      rw [if_pos (by omega), show m + j - m = j by omega]
  · rw [va_up_ne _ _ e]
    show (if m ≤ y ∧ y < m + 37 then jI (s (y - m) i) else c.2.2.2.2.1 y i) = _
    by_cases q : m ≤ y ∧ y < m + 37
    · rw [if_pos q, if_pos q, va_up_ne _ _ (by omega)]
    · rw [if_neg q, if_neg q]
theorem MH_sL {j k : Nat} {v : Int} (hj : j < 37) : sL (MH c m s t) (m + j) k (jL v) = MH c m s (va_up t j (va_up (t j) k v)) := by
  unfold sL MH
  refine congrArg (fun f => (c.1, (fun y k => if m ≤ y ∧ y < m + 37 then jI (s (y - m) k) else c.2.2.2.2.1 y k), c.2.1, f, c.2.2.1, c.2.2.2.1)) ?_
  funext y i
  by_cases e : y = m + j
  · subst e
    rw [va_up_self, if_pos (by omega), show m + j - m = j by omega, va_up_self]
    by_cases e2 : i = k
    · subst e2; rw [va_up_self, va_up_self]
    · rw [va_up_ne _ _ e2, va_up_ne _ _ e2]
      show (if m ≤ m + j ∧ m + j < m + 37 then jL (t (m + j - m) i) else c.2.2.2.2.2 (m + j) i) = _
      rw [if_pos (by omega), show m + j - m = j by omega]
  · rw [va_up_ne _ _ e]
    show (if m ≤ y ∧ y < m + 37 then jL (t (y - m) i) else c.2.2.2.2.2 y i) = _
    by_cases q : m ≤ y ∧ y < m + 37
    · rw [if_pos q, if_pos q, va_up_ne _ _ (by omega)]
    · rw [if_neg q, if_neg q]
theorem m_k {j : Nat} (hm : Mo c m) (hj : j < 37) : hK (MH c m s t) (m + j) = mK j := hm.1 j hj
theorem m_n {j : Nat} (hm : Mo c m) (h0 : 0 < j) (hj : j < 37) : hN (MH c m s t) (m + j) = mN j := hm.2.1 j h0 hj
theorem m_k0 (hm : Mo c m) : hK (MH c m s t) m = 11 := hm.1 0 (by omega)
theorem m_gd {β : Type} (x : Option β) (hm : Mo c m) : gd 11 m (MH c m s t) x = x := if_pos (m_k0 hm)
theorem m_gI {k : Nat} (hm : Mo c m) : gI 11 m k (MH c m s t) = some (jI (s 0 k)) := by
  unfold gI; rw [if_pos (m_k0 hm)]; exact congrArg some (MH_I (j := 0) (by omega) k)
theorem m_pI {k : Nat} {v : Int} (hm : Mo c m) : pI 11 m k (jI v) (MH c m s t) = some (MH c m (va_up s 0 (va_up (s 0) k v)) t) := by
  unfold pI; rw [if_pos (m_k0 hm)]; exact congrArg some (MH_sI (j := 0) (by omega))
theorem m_pZ {k : Nat} {v : Int} (hm : Mo c m) (hv : jI v = 0 ∨ jI v = 1) : pZ 11 m k (jI v) (MH c m s t) = some (MH c m (va_up s 0 (va_up (s 0) k v)) t) := by
  unfold pZ; rw [if_pos ⟨m_k0 hm, hv⟩]; exact congrArg some (MH_sI (j := 0) (by omega))
theorem m_pZ0 {k : Nat} (hm : Mo c m) : pZ 11 m k (jI 0) (MH c m s t) = some (MH c m (va_up s 0 (va_up (s 0) k 0)) t) := m_pZ hm (Or.inl rfl)
theorem m_pZ1 {k : Nat} (hm : Mo c m) : pZ 11 m k (jI 1) (MH c m s t) = some (MH c m (va_up s 0 (va_up (s 0) k 1)) t) := m_pZ hm (Or.inr rfl)
theorem m_pZb {k : Nat} {b : Bool} (hm : Mo c m) : pZ 11 m k (jI (b2 b)) (MH c m s t) = some (MH c m (va_up s 0 (va_up (s 0) k (b2 b))) t) := m_pZ hm (b2_01 b)
theorem m_gR {k : Nat} (hm : Mo c m) (hk : mR k ≠ 0) : gR 11 m k (MH c m s t) = some (m + mR k) := by
  unfold gR; rw [if_pos (m_k0 hm)]; exact congrArg some (hm.2.2.1 k hk)
theorem mN_lt {j : Nat} (h : j < 37) : mN j < 20000 := (by decide : ∀ i : Fin 37, mN i.val < 20000) ⟨j, h⟩
theorem m_aI {j : Nat} {z : Int} (hm : Mo c m) (h0 : 0 < j) (hj : j < 37) (hk : mK j = 101) (z0 : 0 ≤ z) (z1 : z < mN j) : aI (m + j) (jI z) (MH c m s t) = some (jI (s j z.toNat)) := by
  have l := mN_lt hj
  unfold aI
  rw [m_k hm hj, m_n hm h0 hj, if_pos ⟨hk, j_in z0 (by omega) (by omega)⟩, jI_nat z0 (by omega), MH_I hj]
theorem m_qI {j : Nat} {z v : Int} (hm : Mo c m) (h0 : 0 < j) (hj : j < 37) (hk : mK j = 101) (z0 : 0 ≤ z) (z1 : z < mN j) : qI (m + j) (jI z) (jI v) (MH c m s t) = some (MH c m (va_up s j (va_up (s j) z.toNat v)) t) := by
  have l := mN_lt hj
  unfold qI
  rw [m_k hm hj, m_n hm h0 hj, if_pos ⟨hk, j_in z0 (by omega) (by omega)⟩, jI_nat z0 (by omega), MH_sI hj]
theorem m_aL {j : Nat} {z : Int} (hm : Mo c m) (h0 : 0 < j) (hj : j < 37) (hk : mK j = 102) (z0 : 0 ≤ z) (z1 : z < mN j) : aL (m + j) (jI z) (MH c m s t) = some (jL (t j z.toNat)) := by
  have l := mN_lt hj
  unfold aL
  rw [m_k hm hj, m_n hm h0 hj, if_pos ⟨hk, j_in z0 (by omega) (by omega)⟩, jI_nat z0 (by omega), MH_L hj]
theorem m_qL {j : Nat} {z v : Int} (hm : Mo c m) (h0 : 0 < j) (hj : j < 37) (hk : mK j = 102) (z0 : 0 ≤ z) (z1 : z < mN j) : qL (m + j) (jI z) (jL v) (MH c m s t) = some (MH c m s (va_up t j (va_up (t j) z.toNat v))) := by
  have l := mN_lt hj
  unfold qL
  rw [m_k hm hj, m_n hm h0 hj, if_pos ⟨hk, j_in z0 (by omega) (by omega)⟩, jI_nat z0 (by omega), MH_sL hj]
theorem m_aN {j : Nat} (hm : Mo c m) (h0 : 0 < j) (hj : j < 37) (hk : mK j = 101) : aN 101 (m + j) (MH c m s t) = some (jI (mN j : Int)) := by
  unfold aN
  rw [m_k hm hj, m_n hm h0 hj, if_pos hk, jI_nI]
theorem m_aR1 {z : Int} (hm : Mo c m) (z0 : 0 ≤ z) (z1 : z < 25) : aR 105 (m + 1) (jI z) (MH c m s t) = some (41 + z.toNat) := by
  unfold aR
  rw [m_k hm (by omega), m_n hm (by omega) (by omega), if_pos ⟨rfl, j_in z0 (show z < (25 : Nat) by omega) (by omega)⟩, jI_nat z0 (by omega)]
  exact congrArg some (hm.2.2.2.1 z.toNat (by omega))
theorem m_aR2 {z : Int} (hm : Mo c m) (z0 : 0 ≤ z) (z1 : z < 4) : aR 105 (m + 2) (jI z) (MH c m s t) = some (66 + z.toNat) := by
  unfold aR
  rw [m_k hm (by omega), m_n hm (by omega) (by omega), if_pos ⟨rfl, j_in z0 (show z < (4 : Nat) by omega) (by omega)⟩, jI_nat z0 (by omega)]
  exact congrArg some (hm.2.2.2.2 z.toNat (by omega))
theorem m_aN1 (hm : Mo c m) : aN 105 (m + 1) (MH c m s t) = some (jI 25) := by
  unfold aN
  rw [m_k hm (by omega), m_n hm (by omega) (by omega), if_pos (show mK 1 = 105 from rfl), jI_nI]; rfl
theorem m_aN2 (hm : Mo c m) : aN 105 (m + 2) (MH c m s t) = some (jI 4) := by
  unfold aN
  rw [m_k hm (by omega), m_n hm (by omega) (by omega), if_pos (show mK 2 = 105 from rfl), jI_nI]; rfl
theorem m_R0 (hm : Mo c m) : gR 11 m 0 (MH c m s t) = some (m + 1) := m_gR hm (by decide)
theorem m_R1 (hm : Mo c m) : gR 11 m 1 (MH c m s t) = some (m + 2) := m_gR hm (by decide)
theorem m_R3 (hm : Mo c m) : gR 11 m 3 (MH c m s t) = some (m + 3) := m_gR hm (by decide)
theorem m_R4 (hm : Mo c m) : gR 11 m 4 (MH c m s t) = some (m + 4) := m_gR hm (by decide)
theorem m_R5 (hm : Mo c m) : gR 11 m 5 (MH c m s t) = some (m + 5) := m_gR hm (by decide)
theorem m_R6 (hm : Mo c m) : gR 11 m 6 (MH c m s t) = some (m + 6) := m_gR hm (by decide)
theorem m_R7 (hm : Mo c m) : gR 11 m 7 (MH c m s t) = some (m + 7) := m_gR hm (by decide)
theorem m_R8 (hm : Mo c m) : gR 11 m 8 (MH c m s t) = some (m + 8) := m_gR hm (by decide)
theorem m_R9 (hm : Mo c m) : gR 11 m 9 (MH c m s t) = some (m + 9) := m_gR hm (by decide)
theorem m_R10 (hm : Mo c m) : gR 11 m 10 (MH c m s t) = some (m + 10) := m_gR hm (by decide)
theorem m_R11 (hm : Mo c m) : gR 11 m 11 (MH c m s t) = some (m + 11) := m_gR hm (by decide)
theorem m_R12 (hm : Mo c m) : gR 11 m 12 (MH c m s t) = some (m + 12) := m_gR hm (by decide)
theorem m_R15 (hm : Mo c m) : gR 11 m 15 (MH c m s t) = some (m + 13) := m_gR hm (by decide)
theorem m_R26 (hm : Mo c m) : gR 11 m 26 (MH c m s t) = some (m + 14) := m_gR hm (by decide)
theorem m_R27 (hm : Mo c m) : gR 11 m 27 (MH c m s t) = some (m + 15) := m_gR hm (by decide)
theorem m_R28 (hm : Mo c m) : gR 11 m 28 (MH c m s t) = some (m + 16) := m_gR hm (by decide)
theorem m_R29 (hm : Mo c m) : gR 11 m 29 (MH c m s t) = some (m + 17) := m_gR hm (by decide)
theorem m_R30 (hm : Mo c m) : gR 11 m 30 (MH c m s t) = some (m + 18) := m_gR hm (by decide)
theorem m_R31 (hm : Mo c m) : gR 11 m 31 (MH c m s t) = some (m + 19) := m_gR hm (by decide)
theorem m_R32 (hm : Mo c m) : gR 11 m 32 (MH c m s t) = some (m + 20) := m_gR hm (by decide)
theorem m_R33 (hm : Mo c m) : gR 11 m 33 (MH c m s t) = some (m + 21) := m_gR hm (by decide)
theorem m_R45 (hm : Mo c m) : gR 11 m 45 (MH c m s t) = some (m + 22) := m_gR hm (by decide)
theorem m_R52 (hm : Mo c m) : gR 11 m 52 (MH c m s t) = some (m + 23) := m_gR hm (by decide)
theorem m_R55 (hm : Mo c m) : gR 11 m 55 (MH c m s t) = some (m + 24) := m_gR hm (by decide)
theorem m_R60 (hm : Mo c m) : gR 11 m 60 (MH c m s t) = some (m + 25) := m_gR hm (by decide)
theorem m_R61 (hm : Mo c m) : gR 11 m 61 (MH c m s t) = some (m + 26) := m_gR hm (by decide)
theorem m_R62 (hm : Mo c m) : gR 11 m 62 (MH c m s t) = some (m + 27) := m_gR hm (by decide)
theorem m_R63 (hm : Mo c m) : gR 11 m 63 (MH c m s t) = some (m + 28) := m_gR hm (by decide)
theorem m_R64 (hm : Mo c m) : gR 11 m 64 (MH c m s t) = some (m + 29) := m_gR hm (by decide)
theorem m_R65 (hm : Mo c m) : gR 11 m 65 (MH c m s t) = some (m + 30) := m_gR hm (by decide)
theorem m_R70 (hm : Mo c m) : gR 11 m 70 (MH c m s t) = some (m + 31) := m_gR hm (by decide)
theorem m_R71 (hm : Mo c m) : gR 11 m 71 (MH c m s t) = some (m + 32) := m_gR hm (by decide)
theorem m_R72 (hm : Mo c m) : gR 11 m 72 (MH c m s t) = some (m + 33) := m_gR hm (by decide)
theorem m_R73 (hm : Mo c m) : gR 11 m 73 (MH c m s t) = some (m + 34) := m_gR hm (by decide)
theorem m_R74 (hm : Mo c m) : gR 11 m 74 (MH c m s t) = some (m + 35) := m_gR hm (by decide)
theorem m_R75 (hm : Mo c m) : gR 11 m 75 (MH c m s t) = some (m + 36) := m_gR hm (by decide)
theorem m_a3 {z : Int} (hm : Mo c m) (z0 : 0 ≤ z) (z1 : z < 414) : aI (m + 3) (jI z) (MH c m s t) = some (jI (s 3 z.toNat)) := m_aI hm (by omega) (by omega) rfl z0 z1
theorem m_q3 {z v : Int} (hm : Mo c m) (z0 : 0 ≤ z) (z1 : z < 414) : qI (m + 3) (jI z) (jI v) (MH c m s t) = some (MH c m (va_up s 3 (va_up (s 3) z.toNat v)) t) := m_qI hm (by omega) (by omega) rfl z0 z1
theorem m_a4 {z : Int} (hm : Mo c m) (z0 : 0 ≤ z) (z1 : z < 3) : aI (m + 4) (jI z) (MH c m s t) = some (jI (s 4 z.toNat)) := m_aI hm (by omega) (by omega) rfl z0 z1
theorem m_q4 {z v : Int} (hm : Mo c m) (z0 : 0 ≤ z) (z1 : z < 3) : qI (m + 4) (jI z) (jI v) (MH c m s t) = some (MH c m (va_up s 4 (va_up (s 4) z.toNat v)) t) := m_qI hm (by omega) (by omega) rfl z0 z1
theorem m_a5 {z : Int} (hm : Mo c m) (z0 : 0 ≤ z) (z1 : z < 120) : aI (m + 5) (jI z) (MH c m s t) = some (jI (s 5 z.toNat)) := m_aI hm (by omega) (by omega) rfl z0 z1
theorem m_q5 {z v : Int} (hm : Mo c m) (z0 : 0 ≤ z) (z1 : z < 120) : qI (m + 5) (jI z) (jI v) (MH c m s t) = some (MH c m (va_up s 5 (va_up (s 5) z.toNat v)) t) := m_qI hm (by omega) (by omega) rfl z0 z1
theorem m_a6 {z : Int} (hm : Mo c m) (z0 : 0 ≤ z) (z1 : z < 240) : aI (m + 6) (jI z) (MH c m s t) = some (jI (s 6 z.toNat)) := m_aI hm (by omega) (by omega) rfl z0 z1
theorem m_q6 {z v : Int} (hm : Mo c m) (z0 : 0 ≤ z) (z1 : z < 240) : qI (m + 6) (jI z) (jI v) (MH c m s t) = some (MH c m (va_up s 6 (va_up (s 6) z.toNat v)) t) := m_qI hm (by omega) (by omega) rfl z0 z1
theorem m_a7 {z : Int} (hm : Mo c m) (z0 : 0 ≤ z) (z1 : z < 240) : aI (m + 7) (jI z) (MH c m s t) = some (jI (s 7 z.toNat)) := m_aI hm (by omega) (by omega) rfl z0 z1
theorem m_q7 {z v : Int} (hm : Mo c m) (z0 : 0 ≤ z) (z1 : z < 240) : qI (m + 7) (jI z) (jI v) (MH c m s t) = some (MH c m (va_up s 7 (va_up (s 7) z.toNat v)) t) := m_qI hm (by omega) (by omega) rfl z0 z1
theorem m_a8 {z : Int} (hm : Mo c m) (z0 : 0 ≤ z) (z1 : z < 240) : aI (m + 8) (jI z) (MH c m s t) = some (jI (s 8 z.toNat)) := m_aI hm (by omega) (by omega) rfl z0 z1
theorem m_q8 {z v : Int} (hm : Mo c m) (z0 : 0 ≤ z) (z1 : z < 240) : qI (m + 8) (jI z) (jI v) (MH c m s t) = some (MH c m (va_up s 8 (va_up (s 8) z.toNat v)) t) := m_qI hm (by omega) (by omega) rfl z0 z1
theorem m_a9 {z : Int} (hm : Mo c m) (z0 : 0 ≤ z) (z1 : z < 120) : aI (m + 9) (jI z) (MH c m s t) = some (jI (s 9 z.toNat)) := m_aI hm (by omega) (by omega) rfl z0 z1
theorem m_q9 {z v : Int} (hm : Mo c m) (z0 : 0 ≤ z) (z1 : z < 120) : qI (m + 9) (jI z) (jI v) (MH c m s t) = some (MH c m (va_up s 9 (va_up (s 9) z.toNat v)) t) := m_qI hm (by omega) (by omega) rfl z0 z1
theorem m_a10 {z : Int} (hm : Mo c m) (z0 : 0 ≤ z) (z1 : z < 120) : aI (m + 10) (jI z) (MH c m s t) = some (jI (s 10 z.toNat)) := m_aI hm (by omega) (by omega) rfl z0 z1
theorem m_q10 {z v : Int} (hm : Mo c m) (z0 : 0 ≤ z) (z1 : z < 120) : qI (m + 10) (jI z) (jI v) (MH c m s t) = some (MH c m (va_up s 10 (va_up (s 10) z.toNat v)) t) := m_qI hm (by omega) (by omega) rfl z0 z1
theorem m_a11 {z : Int} (hm : Mo c m) (z0 : 0 ≤ z) (z1 : z < 120) : aI (m + 11) (jI z) (MH c m s t) = some (jI (s 11 z.toNat)) := m_aI hm (by omega) (by omega) rfl z0 z1
theorem m_q11 {z v : Int} (hm : Mo c m) (z0 : 0 ≤ z) (z1 : z < 120) : qI (m + 11) (jI z) (jI v) (MH c m s t) = some (MH c m (va_up s 11 (va_up (s 11) z.toNat v)) t) := m_qI hm (by omega) (by omega) rfl z0 z1
theorem m_a12 {z : Int} (hm : Mo c m) (z0 : 0 ≤ z) (z1 : z < 512) : aI (m + 12) (jI z) (MH c m s t) = some (jI (s 12 z.toNat)) := m_aI hm (by omega) (by omega) rfl z0 z1
theorem m_q12 {z v : Int} (hm : Mo c m) (z0 : 0 ≤ z) (z1 : z < 512) : qI (m + 12) (jI z) (jI v) (MH c m s t) = some (MH c m (va_up s 12 (va_up (s 12) z.toNat v)) t) := m_qI hm (by omega) (by omega) rfl z0 z1
theorem m_a13 {z : Int} (hm : Mo c m) (z0 : 0 ≤ z) (z1 : z < 700) : aI (m + 13) (jI z) (MH c m s t) = some (jI (s 13 z.toNat)) := m_aI hm (by omega) (by omega) rfl z0 z1
theorem m_q13 {z v : Int} (hm : Mo c m) (z0 : 0 ≤ z) (z1 : z < 700) : qI (m + 13) (jI z) (jI v) (MH c m s t) = some (MH c m (va_up s 13 (va_up (s 13) z.toNat v)) t) := m_qI hm (by omega) (by omega) rfl z0 z1
theorem m_a14 {z : Int} (hm : Mo c m) (z0 : 0 ≤ z) (z1 : z < 61) : aI (m + 14) (jI z) (MH c m s t) = some (jI (s 14 z.toNat)) := m_aI hm (by omega) (by omega) rfl z0 z1
theorem m_q14 {z v : Int} (hm : Mo c m) (z0 : 0 ≤ z) (z1 : z < 61) : qI (m + 14) (jI z) (jI v) (MH c m s t) = some (MH c m (va_up s 14 (va_up (s 14) z.toNat v)) t) := m_qI hm (by omega) (by omega) rfl z0 z1
theorem m_a15 {z : Int} (hm : Mo c m) (z0 : 0 ≤ z) (z1 : z < 61) : aI (m + 15) (jI z) (MH c m s t) = some (jI (s 15 z.toNat)) := m_aI hm (by omega) (by omega) rfl z0 z1
theorem m_q15 {z v : Int} (hm : Mo c m) (z0 : 0 ≤ z) (z1 : z < 61) : qI (m + 15) (jI z) (jI v) (MH c m s t) = some (MH c m (va_up s 15 (va_up (s 15) z.toNat v)) t) := m_qI hm (by omega) (by omega) rfl z0 z1
theorem m_a16 {z : Int} (hm : Mo c m) (z0 : 0 ≤ z) (z1 : z < 61) : aI (m + 16) (jI z) (MH c m s t) = some (jI (s 16 z.toNat)) := m_aI hm (by omega) (by omega) rfl z0 z1
theorem m_q16 {z v : Int} (hm : Mo c m) (z0 : 0 ≤ z) (z1 : z < 61) : qI (m + 16) (jI z) (jI v) (MH c m s t) = some (MH c m (va_up s 16 (va_up (s 16) z.toNat v)) t) := m_qI hm (by omega) (by omega) rfl z0 z1
theorem m_a17 {z : Int} (hm : Mo c m) (z0 : 0 ≤ z) (z1 : z < 61) : aI (m + 17) (jI z) (MH c m s t) = some (jI (s 17 z.toNat)) := m_aI hm (by omega) (by omega) rfl z0 z1
theorem m_q17 {z v : Int} (hm : Mo c m) (z0 : 0 ≤ z) (z1 : z < 61) : qI (m + 17) (jI z) (jI v) (MH c m s t) = some (MH c m (va_up s 17 (va_up (s 17) z.toNat v)) t) := m_qI hm (by omega) (by omega) rfl z0 z1
theorem m_a18 {z : Int} (hm : Mo c m) (z0 : 0 ≤ z) (z1 : z < 8) : aL (m + 18) (jI z) (MH c m s t) = some (jL (t 18 z.toNat)) := m_aL hm (by omega) (by omega) rfl z0 z1
theorem m_q18 {z v : Int} (hm : Mo c m) (z0 : 0 ≤ z) (z1 : z < 8) : qL (m + 18) (jI z) (jL v) (MH c m s t) = some (MH c m s (va_up t 18 (va_up (t 18) z.toNat v))) := m_qL hm (by omega) (by omega) rfl z0 z1
theorem m_a19 {z : Int} (hm : Mo c m) (z0 : 0 ≤ z) (z1 : z < 8) : aL (m + 19) (jI z) (MH c m s t) = some (jL (t 19 z.toNat)) := m_aL hm (by omega) (by omega) rfl z0 z1
theorem m_q19 {z v : Int} (hm : Mo c m) (z0 : 0 ≤ z) (z1 : z < 8) : qL (m + 19) (jI z) (jL v) (MH c m s t) = some (MH c m s (va_up t 19 (va_up (t 19) z.toNat v))) := m_qL hm (by omega) (by omega) rfl z0 z1
theorem m_a20 {z : Int} (hm : Mo c m) (z0 : 0 ≤ z) (z1 : z < 8) : aL (m + 20) (jI z) (MH c m s t) = some (jL (t 20 z.toNat)) := m_aL hm (by omega) (by omega) rfl z0 z1
theorem m_q20 {z v : Int} (hm : Mo c m) (z0 : 0 ≤ z) (z1 : z < 8) : qL (m + 20) (jI z) (jL v) (MH c m s t) = some (MH c m s (va_up t 20 (va_up (t 20) z.toNat v))) := m_qL hm (by omega) (by omega) rfl z0 z1
theorem m_a21 {z : Int} (hm : Mo c m) (z0 : 0 ≤ z) (z1 : z < 8) : aL (m + 21) (jI z) (MH c m s t) = some (jL (t 21 z.toNat)) := m_aL hm (by omega) (by omega) rfl z0 z1
theorem m_q21 {z v : Int} (hm : Mo c m) (z0 : 0 ≤ z) (z1 : z < 8) : qL (m + 21) (jI z) (jL v) (MH c m s t) = some (MH c m s (va_up t 21 (va_up (t 21) z.toNat v))) := m_qL hm (by omega) (by omega) rfl z0 z1
theorem m_a22 {z : Int} (hm : Mo c m) (z0 : 0 ≤ z) (z1 : z < 64) : aI (m + 22) (jI z) (MH c m s t) = some (jI (s 22 z.toNat)) := m_aI hm (by omega) (by omega) rfl z0 z1
theorem m_q22 {z v : Int} (hm : Mo c m) (z0 : 0 ≤ z) (z1 : z < 64) : qI (m + 22) (jI z) (jI v) (MH c m s t) = some (MH c m (va_up s 22 (va_up (s 22) z.toNat v)) t) := m_qI hm (by omega) (by omega) rfl z0 z1
theorem m_a23 {z : Int} (hm : Mo c m) (z0 : 0 ≤ z) (z1 : z < 132) : aL (m + 23) (jI z) (MH c m s t) = some (jL (t 23 z.toNat)) := m_aL hm (by omega) (by omega) rfl z0 z1
theorem m_q23 {z v : Int} (hm : Mo c m) (z0 : 0 ≤ z) (z1 : z < 132) : qL (m + 23) (jI z) (jL v) (MH c m s t) = some (MH c m s (va_up t 23 (va_up (t 23) z.toNat v))) := m_qL hm (by omega) (by omega) rfl z0 z1
theorem m_a24 {z : Int} (hm : Mo c m) (z0 : 0 ≤ z) (z1 : z < 32) : aI (m + 24) (jI z) (MH c m s t) = some (jI (s 24 z.toNat)) := m_aI hm (by omega) (by omega) rfl z0 z1
theorem m_q24 {z v : Int} (hm : Mo c m) (z0 : 0 ≤ z) (z1 : z < 32) : qI (m + 24) (jI z) (jI v) (MH c m s t) = some (MH c m (va_up s 24 (va_up (s 24) z.toNat v)) t) := m_qI hm (by omega) (by omega) rfl z0 z1
theorem m_a25 {z : Int} (hm : Mo c m) (z0 : 0 ≤ z) (z1 : z < 16560) : aI (m + 25) (jI z) (MH c m s t) = some (jI (s 25 z.toNat)) := m_aI hm (by omega) (by omega) rfl z0 z1
theorem m_q25 {z v : Int} (hm : Mo c m) (z0 : 0 ≤ z) (z1 : z < 16560) : qI (m + 25) (jI z) (jI v) (MH c m s t) = some (MH c m (va_up s 25 (va_up (s 25) z.toNat v)) t) := m_qI hm (by omega) (by omega) rfl z0 z1
theorem m_a26 {z : Int} (hm : Mo c m) (z0 : 0 ≤ z) (z1 : z < 414) : aI (m + 26) (jI z) (MH c m s t) = some (jI (s 26 z.toNat)) := m_aI hm (by omega) (by omega) rfl z0 z1
theorem m_q26 {z v : Int} (hm : Mo c m) (z0 : 0 ≤ z) (z1 : z < 414) : qI (m + 26) (jI z) (jI v) (MH c m s t) = some (MH c m (va_up s 26 (va_up (s 26) z.toNat v)) t) := m_qI hm (by omega) (by omega) rfl z0 z1
theorem m_a27 {z : Int} (hm : Mo c m) (z0 : 0 ≤ z) (z1 : z < 414) : aI (m + 27) (jI z) (MH c m s t) = some (jI (s 27 z.toNat)) := m_aI hm (by omega) (by omega) rfl z0 z1
theorem m_q27 {z v : Int} (hm : Mo c m) (z0 : 0 ≤ z) (z1 : z < 414) : qI (m + 27) (jI z) (jI v) (MH c m s t) = some (MH c m (va_up s 27 (va_up (s 27) z.toNat v)) t) := m_qI hm (by omega) (by omega) rfl z0 z1
theorem m_a28 {z : Int} (hm : Mo c m) (z0 : 0 ≤ z) (z1 : z < 8) : aI (m + 28) (jI z) (MH c m s t) = some (jI (s 28 z.toNat)) := m_aI hm (by omega) (by omega) rfl z0 z1
theorem m_q28 {z v : Int} (hm : Mo c m) (z0 : 0 ≤ z) (z1 : z < 8) : qI (m + 28) (jI z) (jI v) (MH c m s t) = some (MH c m (va_up s 28 (va_up (s 28) z.toNat v)) t) := m_qI hm (by omega) (by omega) rfl z0 z1
theorem m_a29 {z : Int} (hm : Mo c m) (z0 : 0 ≤ z) (z1 : z < 8) : aI (m + 29) (jI z) (MH c m s t) = some (jI (s 29 z.toNat)) := m_aI hm (by omega) (by omega) rfl z0 z1
theorem m_q29 {z v : Int} (hm : Mo c m) (z0 : 0 ≤ z) (z1 : z < 8) : qI (m + 29) (jI z) (jI v) (MH c m s t) = some (MH c m (va_up s 29 (va_up (s 29) z.toNat v)) t) := m_qI hm (by omega) (by omega) rfl z0 z1
theorem m_a30 {z : Int} (hm : Mo c m) (z0 : 0 ≤ z) (z1 : z < 8) : aI (m + 30) (jI z) (MH c m s t) = some (jI (s 30 z.toNat)) := m_aI hm (by omega) (by omega) rfl z0 z1
theorem m_q30 {z v : Int} (hm : Mo c m) (z0 : 0 ≤ z) (z1 : z < 8) : qI (m + 30) (jI z) (jI v) (MH c m s t) = some (MH c m (va_up s 30 (va_up (s 30) z.toNat v)) t) := m_qI hm (by omega) (by omega) rfl z0 z1
theorem m_a31 {z : Int} (hm : Mo c m) (z0 : 0 ≤ z) (z1 : z < 414) : aI (m + 31) (jI z) (MH c m s t) = some (jI (s 31 z.toNat)) := m_aI hm (by omega) (by omega) rfl z0 z1
theorem m_q31 {z v : Int} (hm : Mo c m) (z0 : 0 ≤ z) (z1 : z < 414) : qI (m + 31) (jI z) (jI v) (MH c m s t) = some (MH c m (va_up s 31 (va_up (s 31) z.toNat v)) t) := m_qI hm (by omega) (by omega) rfl z0 z1
theorem m_a32 {z : Int} (hm : Mo c m) (z0 : 0 ≤ z) (z1 : z < 16560) : aI (m + 32) (jI z) (MH c m s t) = some (jI (s 32 z.toNat)) := m_aI hm (by omega) (by omega) rfl z0 z1
theorem m_q32 {z v : Int} (hm : Mo c m) (z0 : 0 ≤ z) (z1 : z < 16560) : qI (m + 32) (jI z) (jI v) (MH c m s t) = some (MH c m (va_up s 32 (va_up (s 32) z.toNat v)) t) := m_qI hm (by omega) (by omega) rfl z0 z1
theorem m_a33 {z : Int} (hm : Mo c m) (z0 : 0 ≤ z) (z1 : z < 8) : aI (m + 33) (jI z) (MH c m s t) = some (jI (s 33 z.toNat)) := m_aI hm (by omega) (by omega) rfl z0 z1
theorem m_q33 {z v : Int} (hm : Mo c m) (z0 : 0 ≤ z) (z1 : z < 8) : qI (m + 33) (jI z) (jI v) (MH c m s t) = some (MH c m (va_up s 33 (va_up (s 33) z.toNat v)) t) := m_qI hm (by omega) (by omega) rfl z0 z1
theorem m_a34 {z : Int} (hm : Mo c m) (z0 : 0 ≤ z) (z1 : z < 8) : aI (m + 34) (jI z) (MH c m s t) = some (jI (s 34 z.toNat)) := m_aI hm (by omega) (by omega) rfl z0 z1
theorem m_q34 {z v : Int} (hm : Mo c m) (z0 : 0 ≤ z) (z1 : z < 8) : qI (m + 34) (jI z) (jI v) (MH c m s t) = some (MH c m (va_up s 34 (va_up (s 34) z.toNat v)) t) := m_qI hm (by omega) (by omega) rfl z0 z1
theorem m_a35 {z : Int} (hm : Mo c m) (z0 : 0 ≤ z) (z1 : z < 8) : aI (m + 35) (jI z) (MH c m s t) = some (jI (s 35 z.toNat)) := m_aI hm (by omega) (by omega) rfl z0 z1
theorem m_q35 {z v : Int} (hm : Mo c m) (z0 : 0 ≤ z) (z1 : z < 8) : qI (m + 35) (jI z) (jI v) (MH c m s t) = some (MH c m (va_up s 35 (va_up (s 35) z.toNat v)) t) := m_qI hm (by omega) (by omega) rfl z0 z1
theorem m_a36 {z : Int} (hm : Mo c m) (z0 : 0 ≤ z) (z1 : z < 3) : aI (m + 36) (jI z) (MH c m s t) = some (jI (s 36 z.toNat)) := m_aI hm (by omega) (by omega) rfl z0 z1
theorem m_q36 {z v : Int} (hm : Mo c m) (z0 : 0 ≤ z) (z1 : z < 3) : qI (m + 36) (jI z) (jI v) (MH c m s t) = some (MH c m (va_up s 36 (va_up (s 36) z.toNat v)) t) := m_qI hm (by omega) (by omega) rfl z0 z1
end RM
