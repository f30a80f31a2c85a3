section ROK
/-- the kind of an edit's fault, and where it looked -/
theorem edS_kind {c u : Nat → Int} {p n : Nat} {src cc sx : Int} (s1 : -2147483648 ≤ src) (s2 : src < 2147483648) (h : edS c p src n = .inl (cc, sx, u)) : (cc = 1 ∨ cc = 4) ∧ -2147483648 ≤ sx ∧ sx < 2147483648 := by
  have inv : ∀ j, (∀ t, edS c p src j = .inr t → -2147483648 ≤ t.2.1 ∧ t.2.1 < 2147483648) ∧ (∀ cc sx u, edS c p src j = .inl (cc, sx, u) → (cc = 1 ∨ cc = 4) ∧ -2147483648 ≤ sx ∧ sx < 2147483648) := by
    intro j
    induction j with
    | zero => exact ⟨fun t h => by cases h; exact ⟨s1, s2⟩, (fun _ _ _ h => nomatch h)⟩
    | succ j ih =>
      cases hS : edS c p src j with
      | inl a =>
        refine ⟨fun t h => ?_, fun cc sx u h => ?_⟩
        · rw [edS_s, hS] at h; exact nomatch h
        · rw [edS_s, hS] at h; exact ih.2 cc sx u (hS.trans h)
      | inr s =>
        obtain ⟨r, src', waits, seen, any, mark⟩ := s
        have i1 : -2147483648 ≤ src' ∧ src' < 2147483648 := ih.1 _ hS
        have hd : (∀ cc sx, edD r src' waits = .inl (cc, sx) → (cc = 1 ∨ cc = 4) ∧ sx = src') ∧ (∀ d a' s'' w', edD r src' waits = .inr (d, a', s'', w') → -2147483648 ≤ s'' ∧ s'' < 2147483648) := by
          unfold edD
          by_cases a1 : waits ≠ -1
          · rw [if_pos a1]
            exact ⟨(fun _ _ h => nomatch h), fun d a' s'' w' h => by cases h; exact i1⟩
          · rw [if_neg a1]
            by_cases a2 : src' < 0 ∨ 255 < src'
            · rw [if_pos a2]
              exact ⟨fun cc sx h => by cases h; exact ⟨Or.inl rfl, rfl⟩, (fun _ _ _ _ h => nomatch h)⟩
            · rw [if_neg a2]
              by_cases a3 : 9 < r src'.toNat / 16
              · rw [if_pos a3]
                exact ⟨fun cc sx h => by cases h; exact ⟨Or.inr rfl, rfl⟩, (fun _ _ _ _ h => nomatch h)⟩
              · rw [if_neg a3]
                exact ⟨(fun _ _ h => nomatch h), fun d a' s'' w' h => by cases h; omega⟩
        by_cases c1 : r (p + j) = 32 ∨ r (p + j) = 33
        · have e : edB (c p) (p + j) (r, src', waits, seen, any, mark) = match edD r src' waits with
            | .inl (c', x) => .inl (c', x, r)
            | .inr (d, above, src'', waits') =>
              .inr (va_up r (p + j) (if d = 0 ∧ seen = false then c p else 240 + d), src'', waits', !above && (seen || d != 0 || r (p + j) == 33), any || d != 0, if d ≠ 0 ∧ seen = false then ((p + j : Nat) : Int) else mark) := by
            unfold edB
            exact if_pos c1
          cases hD : edD r src' waits with
          | inl a =>
            obtain ⟨c', x'⟩ := a
            obtain ⟨d1, d2⟩ := hd.1 _ _ hD
            refine ⟨fun t h => ?_, fun cc sx u h => ?_⟩
            · rw [edS_s, hS] at h
              have h' : edB (c p) (p + j) (r, src', waits, seen, any, mark) = .inr t := h
              rw [e, hD] at h'; exact nomatch h'
            · rw [edS_s, hS] at h
              have h' : edB (c p) (p + j) (r, src', waits, seen, any, mark) = .inl (cc, sx, u) := h
              rw [e, hD] at h'
              cases h'
              exact ⟨d1, by omega, by omega⟩
          | inr a =>
            obtain ⟨d, above, src'', waits'⟩ := a
            have d1 := hd.2 _ _ _ _ hD
            refine ⟨fun t h => ?_, fun cc sx u h => ?_⟩
            · rw [edS_s, hS] at h
              have h' : edB (c p) (p + j) (r, src', waits, seen, any, mark) = .inr t := h
              rw [e, hD] at h'
              cases h'
              exact d1
            · rw [edS_s, hS] at h
              have h' : edB (c p) (p + j) (r, src', waits, seen, any, mark) = .inl (cc, sx, u) := h
              rw [e, hD] at h'; exact nomatch h'
        · have e : ∃ v any' seen', edB (c p) (p + j) (r, src', waits, seen, any, mark) = .inr (v, src', waits, seen', any', mark) := by
            by_cases c2 : r (p + j) = 34
            · exact ⟨va_up r (p + j) (c p), false, false, by unfold edB; exact (if_neg c1).trans (if_pos c2)⟩
            · exact ⟨if seen then r else va_up r (p + j) (c p), any, seen, by unfold edB; exact (if_neg c1).trans (if_neg c2)⟩
          obtain ⟨v, any', seen', e⟩ := e
          refine ⟨fun t h => ?_, fun cc sx u h => ?_⟩
          · rw [edS_s, hS] at h
            have h' : edB (c p) (p + j) (r, src', waits, seen, any, mark) = .inr t := h
            rw [e] at h'
            cases h'
            exact i1
          · rw [edS_s, hS] at h
            have h' : edB (c p) (p + j) (r, src', waits, seen, any, mark) = .inl (cc, sx, u) := h
            rw [e] at h'; exact nomatch h'
  exact (inv n).2 _ _ _ h
end ROK
