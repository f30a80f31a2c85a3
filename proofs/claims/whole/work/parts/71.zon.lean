section ZON
variable {K : Nat → Nat} {I : Nat → Nat → Int32} {R : Nat → Nat → Nat} {L : Nat → Nat → Int64} {N : Nat → Nat} {w : Nat × Nat × Nat × Nat}
/-- a zoned field's number and its sign -/
def zkv (r : Nat → Int) (p n : Nat) : Nat := vl10 (fun i => (hf r (2 * (p + n) - 1 - 2 * i)).toNat) n
def zks (r : Nat → Int) (p n : Nat) : Bool := bel (hf r (2 * (p + n) - 2))
def Snz (c : Nat → Int) (p n : Nat) : Prop := ∀ i, i < n → hf c (2 * (p + n) - 1 - 2 * i) < 10
theorem zkv_dg {c : Nat → Int} (hb : Byt c) {p n : Nat} (hp : p + n ≤ 256) (hs : Snz c p n) (k : Nat) : (dg (zkv c p n) k : Int) = if k < n then hf c (2 * (p + n) - 1 - 2 * k) else 0 := by
  have h0 : ∀ i, i < n → (hf c (2 * (p + n) - 1 - 2 * i)).toNat < 10 := by
    intro i hi
    have := hs i hi
    omega
  unfold zkv
  rw [dg_vl10 h0]
  by_cases q : k < n
  · rw [if_pos q, if_pos q]
    have := hf_lt hb (h := 2 * (p + n) - 1 - 2 * k) (by omega)
    omega
  · rw [if_neg q, if_neg q]; rfl
theorem zkv_lt {c : Nat → Int} (hb : Byt c) {p n : Nat} (hp : p + n ≤ 256) (hs : Snz c p n) : zkv c p n < 10 ^ n :=
  vl10_lt (fun i hi => by have := hs i hi; have := hf_lt hb (h := 2 * (p + n) - 1 - 2 * i) (by omega); omega)
theorem e_takeZoned {a x : Nat} {c : Nat → Int} {p n : Nat} (hd : Dc K R N a) (hr : Rw K R N x) (hI : I (x + 1) = jF c) (hb : Byt c) (hp : p + n ≤ 256) (hn : 1 ≤ n) (hn2 : n ≤ 64) (hs : Snz c p n) (hx : x ≠ a) :
    fX1_takeZoned a x (jI (p : Int)) (jI (n : Int)) (K, I, R, L, N, w) = some (K, dset I a (zkv c p n) (zks c p n), R, L, N, w) := by
  have hd' := hd
  obtain ⟨k1, r0, k2, n2⟩ := hd
  have hJ : ∀ i, Dl I a (zkv c p n) i (x + 1) = jF c := fun i => (Dl_ne _ _ _ _ (by omega)).trans hI
  unfold fX1_takeZoned
  simp (disch := omega) only [jI_lit, jI_add, jI_sub, jI_mul, o_gd, o_lt]
  have key := lp_g (z := fun _ _ _ _ _ _ => none) (S := fX1_takeZoned_12) (β := Option Hp) (ev := fun k (i : Nat) => k a x (jI (n : Int)) (jI (2 * ((p : Int) + n) - 1)) (jI (i : Int)) (K, Dl I a (zkv c p n) i, R, L, N, w))
    (G := fun _ => some (K, dset I a (zkv c p n) (zks c p n), R, L, N, w)) (Inv := fun i => i ≤ 64) (M := fun i => 64 - i) ?_ FU 0 (by omega) (FU_lt (by omega))
  · rw [Dl_0] at key
    exact key
  · intro i hi
    unfold fX1_takeZoned_12 fX1_takeZoned_46
    by_cases h64 : i = 64
    · left; intro k
      subst h64
      have eh := e_half (L := L) (w := w) hr (hJ 64) hb (z := 2 * ((p : Int) + n) - 1 - 1) (by omega) (by omega)
      have hl := hf_lt hb (h := (2 * ((p : Int) + n) - 1 - 1).toNat) (by omega)
      have et : (2 * ((p : Int) + n) - 1 - 1).toNat = 2 * (p + n) - 2 := by omega
      simp (disch := omega) only [jI_lit, jI_sub, jI_le, eh, o_ob, e_below]
      rw [if_pos (by omega)]
      have ee := e_end (I := I) (L := L) (w := w) (v := zkv c p n) (s := zks c p n) hd'
      unfold zks at ee ⊢
      rw [et]
      exact ee
    · right
      refine ⟨i + 1, by omega, by omega, rfl, fun k => ?_⟩
      have e1 : ((i : Int)).toNat = i := by omega
      have e2 : (i : Int) + 1 = ((i + 1 : Nat) : Int) := by omega
      have ed := zkv_dg hb hp hs i
      by_cases q : i < n
      · have eh := e_half (L := L) (w := w) hr (hJ i) hb (z := 2 * ((p : Int) + n) - 1 - 2 * (i : Int)) (by omega) (by omega)
        have et : (2 * ((p : Int) + n) - 1 - 2 * (i : Int)).toNat = 2 * (p + n) - 1 - 2 * i := by omega
        rw [if_pos q] at ed
        simp (disch := omega) only [jI_lit, jI_add, jI_sub, jI_mul, jI_le, o_gR, o_ob, r0, eh, o_qI, o_lt, et, e1, e2, ← ed, Dl_s]
        rw [if_neg (by omega), if_neg (by omega)]
      · rw [if_neg q] at ed
        simp (disch := omega) only [jI_lit, jI_add, jI_sub, jI_mul, jI_le, o_gR, o_ob, r0, o_qI, o_lt, e1, e2]
        rw [if_neg (by omega), if_pos (by omega)]
        rw [show jI 0 = jI (dg (zkv c p n) i : Int) by rw [ed], Dl_s]
/-- the flaws of a field, one behind another -/
def flw (q : Nat → Bool) (lo n : Nat) : Nat → Int
  | 0 => fnd q lo n
  | j + 1 => if flw q lo n j = -1 then -1 else fnd q ((flw q lo n j).toNat + 1) (lo + n - ((flw q lo n j).toNat + 1))
theorem flw_at {q : Nat → Bool} {lo n : Nat} : ∀ j, (flw q lo n j = -1 → cnt (fun i => q (lo + i)) n ≤ j) ∧ (flw q lo n j ≠ -1 → ∃ m : Nat, flw q lo n j = (m : Int) ∧ lo ≤ m ∧ m < lo + n ∧ q m = true ∧ cnt (fun i => q (lo + i)) (m - lo) = j ∧ j < cnt (fun i => q (lo + i)) n) := by
  have none0 : ∀ a b, a ≤ b → (∀ i, a ≤ i → i < b → q (lo + i) = false) → cnt (fun i => q (lo + i)) b = cnt (fun i => q (lo + i)) a := by
    intro a b hab h
    induction b with
    | zero => rw [show a = 0 by omega]
    | succ b ih =>
      by_cases c : a = b + 1
      · rw [c]
      · rw [cnt_f (q := fun i => q (lo + i)) (m := b) (h b (by omega) (by omega)), ih (by omega) (fun i h1 h2 => h i h1 (by omega))]
  have mono : ∀ a b, a ≤ b → cnt (fun i => q (lo + i)) a ≤ cnt (fun i => q (lo + i)) b := by
    intro a b hab
    induction b with
    | zero => rw [show a = 0 by omega]; exact Nat.le_refl _
    | succ b ih =>
      by_cases c : a = b + 1
      · rw [c]; exact Nat.le_refl _
      · have := ih (by omega)
        show _ ≤ cnt (fun i => q (lo + i)) b + (if q (lo + b) then 1 else 0)
        omega
  intro j
  induction j with
  | zero =>
    refine ⟨fun h => ?_, fun h => ?_⟩
    · have h' := fnd_none (show fnd q lo n = -1 from h)
      rw [none0 0 n (by omega) (fun i _ h2 => h' (lo + i) (by omega) (by omega))]
      exact Nat.le_refl _
    · obtain ⟨m, a1, a2, a3, a4, a5⟩ := fnd_some (show fnd q lo n ≠ -1 from h)
      have e0 : cnt (fun i => q (lo + i)) (m - lo) = 0 := none0 0 (m - lo) (by omega) (fun i _ h2 => a5 (lo + i) (by omega) (by omega))
      refine ⟨m, a3, a1, a2, a4, e0, ?_⟩
      have := cnt_t (q := fun i => q (lo + i)) (m := m - lo) (by show q (lo + (m - lo)) = true; rw [show lo + (m - lo) = m by omega]; exact a4)
      have := mono (m - lo + 1) n (by omega)
      omega
  | succ j ih =>
    have e : flw q lo n (j + 1) = if flw q lo n j = -1 then -1 else fnd q ((flw q lo n j).toNat + 1) (lo + n - ((flw q lo n j).toNat + 1)) := rfl
    by_cases c : flw q lo n j = -1
    · rw [e, if_pos c]
      exact ⟨fun _ => by have := ih.1 c; omega, fun h => absurd rfl h⟩
    · obtain ⟨m, b1, b2, b3, b4, b5, b6⟩ := ih.2 c
      have ct := cnt_t (q := fun i => q (lo + i)) (m := m - lo) (by show q (lo + (m - lo)) = true; rw [show lo + (m - lo) = m by omega]; exact b4)
      rw [e, if_neg c, b1, show ((m : Int)).toNat = m by omega]
      refine ⟨fun h => ?_, fun h => ?_⟩
      · have h' := fnd_none h
        rw [none0 (m - lo + 1) n (by omega) (fun i h1 h2 => h' (lo + i) (by omega) (by omega))]
        omega
      · obtain ⟨m', a1, a2, a3, a4, a5⟩ := fnd_some h
        have e0 : cnt (fun i => q (lo + i)) (m' - lo) = cnt (fun i => q (lo + i)) (m - lo + 1) := none0 (m - lo + 1) (m' - lo) (by omega) (fun i h1 h2 => a5 (lo + i) (by omega) (by omega))
        have ct' := cnt_t (q := fun i => q (lo + i)) (m := m' - lo) (by show q (lo + (m' - lo)) = true; rw [show lo + (m' - lo) = m' by omega]; exact a4)
        have := mono (m' - lo + 1) n (by omega)
        exact ⟨m', a3, by omega, by omega, a4, by omega, by omega⟩
end ZON
