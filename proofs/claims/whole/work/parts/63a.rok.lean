section ROK
/-! WHAT STAYS TRUE OF A ROW, step by step -/
/-- a row of a program of so many instructions, at a TIME of T at most -/
def RowOK (many : Nat) (T : Int) (r : Nat → Int) : Prop :=
  Byt r ∧ Rng r ∧ (0 ≤ r 264 ∧ r 264 ≤ 3) ∧ (0 ≤ r 265 ∧ r 265 ≤ many) ∧ (r 276 = 0 → r 265 < many) ∧ (-1 ≤ r 266 ∧ r 266 < many) ∧ (∀ j, 1 ≤ j → j ≤ 8 → -1 ≤ r (267 + j) ∧ r (267 + j) < many) ∧ (0 ≤ r 276 ∧ r 276 ≤ 2) ∧ r 279 = r 277 ∧ (0 ≤ r 277 ∧ r 277 ≤ T) ∧ (0 ≤ r 278 ∧ r 278 ≤ r 277) ∧ (∀ j, j < 60 → 0 ≤ r (354 + j) ∧ r (354 + j) ≤ r 277) ∧ (r 278 = 0 ↔ r 280 = 0) ∧ (0 ≤ r 280 ∧ r 280 ≤ 8) ∧ (r 289 = if r 280 = 4 ∨ r 280 = 5 then 1 else 0) ∧ r 267 = -1
def RQ (many : Nat) (r u : Nat → Int) : Prop :=
  Byt u ∧ (∀ j, 256 ≤ j → j < 264 → -2147483648 ≤ u j ∧ u j < 2147483648) ∧ (0 ≤ u 264 ∧ u 264 ≤ 3) ∧ (∀ j, 1 ≤ j → j ≤ 8 → -1 ≤ u (267 + j) ∧ u (267 + j) < many) ∧ (∀ j, 265 ≤ j → (j < 268 ∨ 276 ≤ j) → u j = r j)
theorem RQ_rf {many : Nat} {T : Int} {r : Nat → Int} (h : RowOK many T r) : RQ many r r := by
  obtain ⟨h1, h2, h3, h4, h5, h6, h7, -⟩ := h
  exact ⟨h1, fun j _ _ => h2 j, h3, h7, fun _ _ _ => rfl⟩
theorem RQ_st {many : Nat} {r u v : Nat → Int} (h : RQ many r u) (hv : ∀ j, 256 ≤ j → v j = u j) (hb : Byt v) : RQ many r v := by
  obtain ⟨h1, h2, h3, h4, h5⟩ := h
  refine ⟨hb, fun j a b => by rw [hv j a]; exact h2 j a b, by rw [hv _ (by omega)]; exact h3, fun j a b => by rw [hv _ (by omega)]; exact h4 j a b, fun j a b => by rw [hv j (by omega)]; exact h5 j a b⟩
theorem RQ_cc {many : Nat} {r u : Nat → Int} {z : Int} (h : RQ many r u) (h1 : 0 ≤ z) (h2 : z ≤ 3) : RQ many r (va_up u 264 z) := by
  obtain ⟨a1, a2, a3, a4, a5⟩ := h
  refine ⟨Byt_hi a1 (by omega) _, fun j b c => by rw [va_up_ne _ _ (by omega)]; exact a2 j b c, by rw [va_up_self]; exact ⟨h1, h2⟩, fun j b c => by rw [va_up_ne _ _ (by omega)]; exact a4 j b c, fun j b c => by rw [va_up_ne _ _ (by omega)]; exact a5 j b c⟩
theorem RQ_reg {many : Nat} {r u : Nat → Int} {z : Int} {q : Nat} (h : RQ many r u) (hq : q < 8) (h1 : -2147483648 ≤ z) (h2 : z < 2147483648) : RQ many r (va_up u (256 + q) z) := by
  obtain ⟨a1, a2, a3, a4, a5⟩ := h
  refine ⟨Byt_hi a1 (by omega) _, fun j b c => ?_, by rw [va_up_ne _ _ (by omega)]; exact a3, fun j b c => by rw [va_up_ne _ _ (by omega)]; exact a4 j b c, fun j b c => by rw [va_up_ne _ _ (by omega)]; exact a5 j b c⟩
  by_cases hj : j = 256 + q
  · rw [hj, va_up_self]; exact ⟨h1, h2⟩
  · rw [va_up_ne _ _ hj]; exact a2 j b c
theorem RQ_gd {many : Nat} {r u : Nat → Int} {z : Int} {q : Nat} (h : RQ many r u) (hq1 : 1 ≤ q) (hq : q ≤ 8) (h1 : -1 ≤ z) (h2 : z < many) : RQ many r (va_up u (267 + q) z) := by
  obtain ⟨a1, a2, a3, a4, a5⟩ := h
  refine ⟨Byt_hi a1 (by omega) _, fun j b c => by rw [va_up_ne _ _ (by omega)]; exact a2 j b c, by rw [va_up_ne _ _ (by omega)]; exact a3, fun j b c => ?_, fun j b c => by rw [va_up_ne _ _ (by omega)]; exact a5 j b c⟩
  by_cases hj : j = q
  · rw [hj, va_up_self]; exact ⟨h1, h2⟩
  · rw [va_up_ne _ _ (by omega)]; exact a4 j b c
theorem sto_hi {r : Nat → Int} {p n v j : Nat} {s : Int} (h : p + n ≤ j) : sto r p n v s j = r j := by
  unfold sto; rw [if_neg (by omega)]
theorem pkS_hi {r : Nat → Int} {p n q m k : Nat} (hp : p + n ≤ 256) (hn : 1 ≤ n) (hk : 256 ≤ k) : ∀ j, pkS r p n q m j k = r k
  | 0 => by show pk0 r p n q m k = r k; unfold pk0; rw [va_up_ne _ _ (by omega)]
  | j + 1 => by rw [pkS_s, va_up_ne _ _ (by omega), pkS_hi hp hn hk j]
theorem upS_hi {r : Nat → Int} {p n q m k : Nat} (hp : p + n ≤ 256) (hn : 1 ≤ n) (hk : 256 ≤ k) : ∀ j, (upS r p n q m j).1 k = r k
  | 0 => by show pk0 r p n q m k = r k; unfold pk0; rw [va_up_ne _ _ (by omega)]
  | j + 1 => by rw [upS_s1, va_up_ne _ _ (by omega), upS_hi hp hn hk j]
theorem ofS_hi {r : Nat → Int} {p n q m k : Nat} (hp : p + n ≤ 256) (hn : 1 ≤ n) (hk : 256 ≤ k) : ∀ j, (ofS r p n q m j).1 k = r k
  | 0 => rfl
  | j + 1 => by rw [ofS_s1, va_up_ne _ _ (by omega), ofS_hi hp hn hk j]
theorem cpS_hi (o : Nat) {r : Nat → Int} {p n q k : Nat} (hp : p + n ≤ 256) (hk : 256 ≤ k) : ∀ j, j ≤ n → cpS o r p q j k = r k
  | 0, _ => rfl
  | j + 1, hj => by rw [cpS_s, va_up_ne _ _ (by omega), cpS_hi o hp hk j (by omega)]
theorem edS_ok {c : Nat → Int} (hb : Byt c) {p n : Nat} {src : Int} (hp : p + n ≤ 256) (hn : 1 ≤ n) : ∀ j, j ≤ n → ∀ t, edS c p src j = .inr t → Byt t.1 ∧ (-1 ≤ t.2.2.1 ∧ t.2.2.1 < 10) ∧ ∀ k, 256 ≤ k → t.1 k = c k := by
  intro j
  induction j with
  | zero => intro _ t h; cases h; exact ⟨hb, ⟨by show (-1 : Int) ≤ -1; omega, by show (-1 : Int) < 10; omega⟩, fun _ _ => rfl⟩
  | succ j ih =>
    intro hj t h
    rw [edS_s] at h
    cases hS : edS c p src j with
    | inl a => rw [hS] at h; exact nomatch h
    | inr s =>
      rw [hS] at h
      obtain ⟨i1, ⟨i2, i3⟩, i4⟩ := ih (by omega) s hS
      have h' : edB (c p) (p + j) s = .inr t := h
      have hrow := edB_row i1 (hb p (by omega)).1 (hb p (by omega)).2 i2 i3 h'
      refine ⟨hrow.1, ?_, fun k hk => by rw [hrow.2 k (by omega)]; exact i4 k hk⟩
      obtain ⟨r, src', waits, seen, any, mark⟩ := s
      by_cases c1 : r (p + j) = 32 ∨ r (p + j) = 33
      · have e : edB (c p) (p + j) (r, src', waits, seen, any, mark) = match edD r src' waits with
          | .inl (c', x) => .inl (c', x, r)
          | .inr (d, above, src'', waits') =>
            .inr (va_up r (p + j) (if d = 0 ∧ seen = false then c p else 240 + d), src'', waits', !above && (seen || d != 0 || r (p + j) == 33), any || d != 0, if d ≠ 0 ∧ seen = false then ((p + j : Nat) : Int) else mark) := by
          unfold edB
          exact if_pos c1
        rw [e] at h'
        cases hD : edD r src' waits with
        | inl a => rw [hD] at h'; exact nomatch h'
        | inr a =>
          obtain ⟨d, above, src'', waits'⟩ := a
          rw [hD] at h'
          cases h'
          unfold edD at hD
          by_cases a1 : waits ≠ -1
          · rw [if_pos a1] at hD; cases hD; exact ⟨by show (-1 : Int) ≤ -1; omega, by show (-1 : Int) < 10; omega⟩
          · rw [if_neg a1] at hD
            by_cases a2 : src' < 0 ∨ 255 < src'
            · rw [if_pos a2] at hD; exact nomatch hD
            · rw [if_neg a2] at hD
              by_cases a3 : 9 < r src'.toNat / 16
              · rw [if_pos a3] at hD; exact nomatch hD
              · rw [if_neg a3] at hD
                cases hD
                have i9 : 0 ≤ r src'.toNat ∧ r src'.toNat < 256 := i1 src'.toNat (by omega)
                show (-1 : Int) ≤ (if r src'.toNat % 16 < 10 then r src'.toNat % 16 else -1) ∧ (if r src'.toNat % 16 < 10 then r src'.toNat % 16 else -1) < 10
                split <;> omega
      · by_cases c2 : r (p + j) = 34
        · have e : edB (c p) (p + j) (r, src', waits, seen, any, mark) = .inr (va_up r (p + j) (c p), src', waits, false, false, mark) := by
            unfold edB
            exact (if_neg c1).trans (if_pos c2)
          rw [e] at h'
          cases h'
          exact ⟨i2, i3⟩
        · have e : edB (c p) (p + j) (r, src', waits, seen, any, mark) = .inr ((if seen then r else va_up r (p + j) (c p)), src', waits, seen, any, mark) := by
            unfold edB
            exact (if_neg c1).trans (if_neg c2)
          rw [e] at h'
          cases h'
          exact ⟨i2, i3⟩
end ROK
