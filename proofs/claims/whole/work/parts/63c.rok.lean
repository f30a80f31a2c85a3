section ROK
/-- a fault as it may be told -/
def FOK (f : FT6) : Prop := (1 ≤ f.1 ∧ f.1 ≤ 8) ∧ (f.2.1 = 0 ∨ f.2.1 = 1) ∧ (-2147483648 ≤ f.2.2.1 ∧ f.2.2.1 < 2147483648) ∧ (0 ≤ f.2.2.2.1 ∧ f.2.2.2.1 ≤ 64) ∧ ((f.1 = 4 ∨ f.1 = 5) ↔ f.2.2.2.2.1 ≠ -1) ∧ (f.2.2.2.2.1 ≠ -1 → 0 ≤ f.2.2.2.2.1 ∧ f.2.2.2.2.1 < 512 ∧ 0 ≤ f.2.2.2.2.2 ∧ f.2.2.2.2.2 < 16)
theorem chk_FOK {o : Int} {r : Nat → Int} {a n b m : Int} {f : FT6} (hb : Byt r) (a1 : -2147483648 ≤ a) (a2 : a < 2147483648) (b1 : -2147483648 ≤ b) (b2 : b < 2147483648) (n1 : 0 ≤ n) (n2 : n ≤ 64) (m1 : 0 ≤ m) (m2 : m ≤ 64) (h : chk o r a n b m = some f) : FOK f := by
  rw [chk_eq] at h
  by_cases c1 : o ≤ 17 ∧ isF a n = false
  · rw [if_pos c1] at h; cases h; exact ⟨by simp, by simp, ⟨a1, a2⟩, ⟨n1, n2⟩, by simp, fun q => absurd rfl q⟩
  rw [if_neg c1] at h
  by_cases c2 : o ≤ 11 ∧ isF b m = false
  · rw [if_pos c2] at h; cases h; exact ⟨by simp, by simp, ⟨b1, b2⟩, ⟨m1, m2⟩, by simp, fun q => absurd rfl q⟩
  rw [if_neg c2] at h
  by_cases c3 : (o = 7 ∨ o = 8) ∧ (8 < m ∨ n ≤ m)
  · rw [if_pos c3] at h; cases h; exact ⟨by simp, by simp, ⟨b1, b2⟩, ⟨m1, m2⟩, by simp, fun q => absurd rfl q⟩
  rw [if_neg c3] at h
  by_cases c4 : (o = 4 ∨ o = 5 ∨ o = 7 ∨ o = 8) ∧ (a < b + m ∧ b < a + n) ∧ a + n ≠ b + m
  · rw [if_pos c4] at h; cases h; exact ⟨by simp, by simp, ⟨b1, b2⟩, ⟨m1, m2⟩, by simp, fun q => absurd rfl q⟩
  rw [if_neg c4] at h
  by_cases c5 : o = 3 ∧ (a < b + m ∧ b < a + n) ∧ a + n < b + m
  · rw [if_pos c5] at h; cases h; exact ⟨by simp, by simp, ⟨b1, b2⟩, ⟨m1, m2⟩, by simp, fun q => absurd rfl q⟩
  rw [if_neg c5] at h
  have fl : ∀ (x : Int) (l : Int), (o ≤ 17 → 0 ≤ x → x ≤ 256 - l → 0 ≤ l → flp r x.toNat l.toNat ≠ -1 → 0 ≤ flp r x.toNat l.toNat ∧ flp r x.toNat l.toNat < 512 ∧ 0 ≤ hf r (flp r x.toNat l.toNat).toNat ∧ hf r (flp r x.toNat l.toNat).toNat < 16) := by
    intro x l q x1 x2 l1 q2
    have := flp_r q2
    have := hf_lt hb (h := (flp r x.toNat l.toNat).toNat) (by omega)
    omega
  by_cases c6 : ((4 ≤ o ∧ o ≤ 8) ∨ o = 14 ∨ o = 16) ∧ flp r a.toNat n.toNat ≠ -1
  · rw [if_pos c6] at h
    cases h
    have hA : 0 ≤ a ∧ a ≤ 256 - n := by
      apply Decidable.byContradiction
      intro q; exact c1 ⟨by omega, (isF_no _ _).2 q⟩
    exact ⟨by simp, by simp, ⟨a1, a2⟩, ⟨n1, n2⟩, by simpa using c6.2, fun q => fl a n (by omega) hA.1 hA.2 n1 q⟩
  rw [if_neg c6] at h
  by_cases c7 : (3 ≤ o ∧ o ≤ 8) ∧ flp r b.toNat m.toNat ≠ -1
  · rw [if_pos c7] at h
    cases h
    have hB : 0 ≤ b ∧ b ≤ 256 - m := by
      apply Decidable.byContradiction
      intro q; exact c2 ⟨by omega, (isF_no _ _).2 q⟩
    exact ⟨by simp, by simp, ⟨b1, b2⟩, ⟨m1, m2⟩, by simpa using c7.2, fun q => fl b m (by omega) hB.1 hB.2 m1 q⟩
  rw [if_neg c7] at h
  exact nomatch h
end ROK
