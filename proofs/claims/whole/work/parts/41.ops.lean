section OPS
/-! WHAT THE OPERATIONS DO on a heap that is written out (kinds K, ints I, refs R, longs L, lengths N, counters w) -/
theorem o_ob {α β : Type} (a : α) (f : α → Option β) : ob (some a) f = f a := rfl
theorem o_ob2 {α γ β : Type} (a : α) (b : γ) (f : α → γ → Option β) : ob2 (some (a, b)) f = f a b := rfl
theorem o_lt {α β : Type} (a : α) (f : α → Option β) : lt a f = f a := rfl
theorem o_nz {β : Type} {P : Prop} [Decidable P] (x : Option β) (h : ¬ P) : nz P x = x := if_neg h
theorem o_rz {β : Type} {v : Int32} (x : Option β) (h : v = 0 ∨ v = 1) : rz v x = x := if_pos h
theorem o_oei {α β : Type} (k : Nat) (g : Nat → Option β) (f : α → Option β) : oe (some (.inl k)) g f = g k := rfl
theorem o_oer {α β : Type} (v : α) (g : Nat → Option β) (f : α → Option β) : oe (some (.inr v)) g f = f v := rfl
variable {K : Nat → Nat} {I : Nat → Nat → Int32} {R : Nat → Nat → Nat} {L : Nat → Nat → Int64} {N : Nat → Nat} {w : Nat × Nat × Nat × Nat}
theorem o_gd {β : Type} {c a : Nat} (x : Option β) (e : K a = c) : gd c a (K, I, R, L, N, w) x = x := if_pos e
theorem o_gI {c a k : Nat} (e : K a = c) : gI c a k (K, I, R, L, N, w) = some (I a k) := if_pos e
theorem o_gR {c a k : Nat} (e : K a = c) : gR c a k (K, I, R, L, N, w) = some (R a k) := if_pos e
theorem o_pI {c a k : Nat} {v : Int32} (e : K a = c) : pI c a k v (K, I, R, L, N, w) = some (K, va_up I a (va_up (I a) k v), R, L, N, w) := if_pos e
theorem o_pZ {c a k : Nat} {v : Int32} (e : K a = c) (h : v = 0 ∨ v = 1) : pZ c a k v (K, I, R, L, N, w) = some (K, va_up I a (va_up (I a) k v), R, L, N, w) := if_pos ⟨e, h⟩
theorem o_pR {c a k v : Nat} (e : K a = c) : pR c a k v (K, I, R, L, N, w) = some (K, I, va_up R a (va_up (R a) k v), L, N, w) := if_pos e
theorem o_aN {c a : Nat} (e : K a = c) : aN c a (K, I, R, L, N, w) = some (jI (N a)) := by
  unfold aN
  rw [if_pos (show hK (K, I, R, L, N, w) a = c from e), jI_nI]
  rfl
theorem j_in {z : Int} {n : Nat} (h0 : 0 ≤ z) (h1 : z < n) (h2 : z < 2147483648) : ¬ (jI z < 0 ∨ n ≤ (jI z).toNatClampNeg) := by
  rw [jI_nat h0 h2, jI_lit, jI_lt (by omega) h2 (by omega) (by omega)]
  omega
theorem o_aI {a : Nat} {z : Int} (e : K a = 101) (h0 : 0 ≤ z) (h1 : z < N a) (h2 : z < 2147483648) : aI a (jI z) (K, I, R, L, N, w) = some (I a z.toNat) := by
  unfold aI
  rw [if_pos (show hK (K, I, R, L, N, w) a = 101 ∧ ¬ (jI z < 0 ∨ hN (K, I, R, L, N, w) a ≤ (jI z).toNatClampNeg) from ⟨e, j_in h0 h1 h2⟩), jI_nat h0 h2]
  rfl
theorem o_aL {a : Nat} {z : Int} (e : K a = 102) (h0 : 0 ≤ z) (h1 : z < N a) (h2 : z < 2147483648) : aL a (jI z) (K, I, R, L, N, w) = some (L a z.toNat) := by
  unfold aL
  rw [if_pos (show hK (K, I, R, L, N, w) a = 102 ∧ ¬ (jI z < 0 ∨ hN (K, I, R, L, N, w) a ≤ (jI z).toNatClampNeg) from ⟨e, j_in h0 h1 h2⟩), jI_nat h0 h2]
  rfl
theorem o_aR {c a : Nat} {z : Int} (e : K a = c) (h0 : 0 ≤ z) (h1 : z < N a) (h2 : z < 2147483648) : aR c a (jI z) (K, I, R, L, N, w) = some (R a z.toNat) := by
  unfold aR
  rw [if_pos (show hK (K, I, R, L, N, w) a = c ∧ ¬ (jI z < 0 ∨ hN (K, I, R, L, N, w) a ≤ (jI z).toNatClampNeg) from ⟨e, j_in h0 h1 h2⟩), jI_nat h0 h2]
  rfl
theorem o_qI {a : Nat} {z : Int} {v : Int32} (e : K a = 101) (h0 : 0 ≤ z) (h1 : z < N a) (h2 : z < 2147483648) : qI a (jI z) v (K, I, R, L, N, w) = some (K, va_up I a (va_up (I a) z.toNat v), R, L, N, w) := by
  unfold qI
  rw [if_pos (show hK (K, I, R, L, N, w) a = 101 ∧ ¬ (jI z < 0 ∨ hN (K, I, R, L, N, w) a ≤ (jI z).toNatClampNeg) from ⟨e, j_in h0 h1 h2⟩), jI_nat h0 h2]
  rfl
theorem o_qL {a : Nat} {z : Int} {v : Int64} (e : K a = 102) (h0 : 0 ≤ z) (h1 : z < N a) (h2 : z < 2147483648) : qL a (jI z) v (K, I, R, L, N, w) = some (K, I, R, va_up L a (va_up (L a) z.toNat v), N, w) := by
  unfold qL
  rw [if_pos (show hK (K, I, R, L, N, w) a = 102 ∧ ¬ (jI z < 0 ∨ hN (K, I, R, L, N, w) a ≤ (jI z).toNatClampNeg) from ⟨e, j_in h0 h1 h2⟩), jI_nat h0 h2]
  rfl
theorem o_qR {c d a v : Nat} {z : Int} (e : K a = c) (e2 : K v = d) (h0 : 0 ≤ z) (h1 : z < N a) (h2 : z < 2147483648) : qR c d a (jI z) v (K, I, R, L, N, w) = some (K, I, va_up R a (va_up (R a) z.toNat v), L, N, w) := by
  unfold qR
  rw [if_pos (show hK (K, I, R, L, N, w) a = c ∧ hK (K, I, R, L, N, w) v = d ∧ ¬ (jI z < 0 ∨ hN (K, I, R, L, N, w) a ≤ (jI z).toNatClampNeg) from ⟨e, e2, j_in h0 h1 h2⟩), jI_nat h0 h2]
  rfl
theorem o_qS {a v : Nat} {z : Int} (e : K a = 105) (e2 : v ≠ 0) (e3 : v ≤ 69) (h0 : 0 ≤ z) (h1 : z < N a) (h2 : z < 2147483648) : qS a (jI z) v (K, I, R, L, N, w) = some (K, I, va_up R a (va_up (R a) z.toNat v), L, N, w) := by
  unfold qS
  rw [if_pos (show hK (K, I, R, L, N, w) a = 105 ∧ v ≠ 0 ∧ v ≤ 69 ∧ ¬ (jI z < 0 ∨ hN (K, I, R, L, N, w) a ≤ (jI z).toNatClampNeg) from ⟨e, e2, e3, j_in h0 h1 h2⟩), jI_nat h0 h2]
  rfl
theorem o_cpA {a b : Nat} {i j n : Int} (e : K a = 101) (e2 : K b = 101) (h0 : 0 ≤ i) (h1 : 0 ≤ j) (h2 : 0 ≤ n) (h3 : i + n ≤ N a) (h4 : j + n ≤ N b) (h5 : i < 2147483648) (h6 : j < 2147483648) (h7 : n < 2147483648) :
    cpA a (jI i) b (jI j) (jI n) (K, I, R, L, N, w) = some (K, va_up I b (va_cpy (I a) (I b) i.toNat j.toNat n.toNat), R, L, N, w) := by
  unfold cpA
  have l0 : ∀ z : Int, 0 ≤ z → z < 2147483648 → ¬ jI z < 0 := fun z p q => by rw [jI_lit, jI_lt (by omega) q (by omega) (by omega)]; omega
  rw [if_pos, jI_nat h0 h5, jI_nat h1 h6, jI_nat h2 h7]
  · rfl
  · refine ⟨e, e2, l0 _ h0 h5, l0 _ h1 h6, l0 _ h2 h7, ?_, ?_⟩
    · show _ ≤ N a
      rw [jI_nat h0 h5, jI_nat h2 h7]; omega
    · show _ ≤ N b
      rw [jI_nat h1 h6, jI_nat h2 h7]; omega
theorem o_obk {β : Type} {h : Hp} {h' : Hp} {f : Hp → Option β} (e : okc h h') : obk h (some h') f = f h' := if_pos e
theorem o_obk2 {α β : Type} {h : Hp} {v : α} {h' : Hp} {f : α → Hp → Option β} (e : okc h h') : obk2 h (some (v, h')) f = f v h' := if_pos e
theorem o_oba {β : Type} {h : Hp} {h' : Hp} {f : Hp → Option β} (e : okA h h') : oba h (some h') f = f h' := if_pos e
theorem o_oba2 {α β : Type} {h : Hp} {v : α} {h' : Hp} {f : α → Hp → Option β} (e : okA h h') : oba2 h (some (v, h')) f = f v h' := if_pos e
theorem okc_t {I' : Nat → Nat → Int32} {R' : Nat → Nat → Nat} {L' : Nat → Nat → Int64} : okc (K, I, R, L, N, w) (K, I', R', L', N, w) := ⟨rfl, rfl, rfl, rfl, rfl⟩
theorem o_obkt {β : Type} {I' : Nat → Nat → Int32} {R' : Nat → Nat → Nat} {L' : Nat → Nat → Int64} {f : Hp → Option β} : obk (K, I, R, L, N, w) (some (K, I', R', L', N, w)) f = f (K, I', R', L', N, w) := o_obk okc_t
theorem o_obk2t {α β : Type} {v : α} {I' : Nat → Nat → Int32} {R' : Nat → Nat → Nat} {L' : Nat → Nat → Int64} {f : α → Hp → Option β} : obk2 (K, I, R, L, N, w) (some (v, (K, I', R', L', N, w))) f = f v (K, I', R', L', N, w) := o_obk2 okc_t
-- turns of a loop
theorem FU_lt {n : Nat} (h : n < 1099511627776) : n < FU := h
theorem lp_up {τ β : Type} {z : τ} {S : τ → τ} (ev : τ → Nat → Option β) {E : Option β} {M : Nat} (step : ∀ i, i < M → ∀ k, ev (S k) i = ev k (i + 1)) (fin : ∀ k, ev (S k) M = E) :
    ∀ n i, i ≤ M → M - i < n → ev (lp z S n) i = E := by
  intro n
  induction n with
  | zero => intro i h1 h2; omega
  | succ n ih =>
    intro i h1 h2
    show ev (S (lp z S n)) i = E
    by_cases h : i = M
    · subst h; exact fin _
    · rw [step i (by omega)]
      exact ih (i + 1) (by omega) (by omega)
/-- a loop of at most M turns that may end sooner -/
theorem lp_ex {τ β : Type} {z : τ} {S : τ → τ} (ev : τ → Nat → Option β) (E : Nat → Option β) (M : Nat) (stop : Nat → Prop) (step : ∀ i, i ≤ M → ¬ stop i → i < M ∧ ∀ k, ev (S k) i = ev k (i + 1)) (fin : ∀ i, i ≤ M → stop i → ∀ k, ev (S k) i = E i) :
    ∀ n i, i ≤ M → M - i < n → ∃ m, i ≤ m ∧ m ≤ M ∧ stop m ∧ (∀ j, i ≤ j → j < m → ¬ stop j) ∧ ev (lp z S n) i = E m := by
  intro n
  induction n with
  | zero => intro i h1 h2; omega
  | succ n ih =>
    intro i h1 h2
    by_cases h : stop i
    · exact ⟨i, by omega, h1, h, fun j _ _ => by omega, fin i h1 h _⟩
    · obtain ⟨h3, h4⟩ := step i h1 h
      obtain ⟨m, e1, e2, e3, e4, e5⟩ := ih (i + 1) (by omega) (by omega)
      refine ⟨m, by omega, e2, e3, fun j q1 q2 => ?_, (h4 _).trans e5⟩
      by_cases hj : j = i
      · rw [hj]; exact h
      · exact e4 j (by omega) q2
/-- a loop over any states, by a measure -/
theorem lp_w {τ σ β : Type} {z : τ} {S : τ → τ} (ev : τ → σ → Option β) (Inv : σ → Prop) (M : σ → Nat) (Q : σ → Prop) (E : σ → Option β)
    (step : ∀ s, Inv s → (Q s ∧ ∀ k, ev (S k) s = E s) ∨ ∃ s', Inv s' ∧ M s' < M s ∧ ∀ k, ev (S k) s = ev k s') :
    ∀ n s, Inv s → M s < n → ∃ s', Inv s' ∧ Q s' ∧ ev (lp z S n) s = E s' := by
  intro n
  induction n with
  | zero => intro s h1 h2; omega
  | succ n ih =>
    intro s h1 h2
    rcases step s h1 with ⟨q, e⟩ | ⟨s', i', m', e⟩
    · exact ⟨s, h1, q, e _⟩
    · obtain ⟨s'', a, b, c⟩ := ih s' i' (by omega)
      exact ⟨s'', a, b, (e _).trans c⟩
-- rows of numbers that are written turn by turn
theorem up_lt {α : Type} (f g : Nat → α) (i : Nat) : va_up (fun k => if k < i then f k else g k) i (f i) = fun k => if k < i + 1 then f k else g k := by
  funext k
  unfold va_up
  by_cases h : k = i
  · subst h; simp
  · have : (k < i + 1) = (k < i) := by apply propext; omega
    simp only [if_neg h, this]
theorem up_0 {α : Type} (f g : Nat → α) : (fun k => if k < 0 then f k else g k) = g := by funext k; simp
theorem upup {α : Type} (f : Nat → α) (a : Nat) (u v : α) : va_up (va_up f a u) a v = va_up f a v := by
  funext k; unfold va_up; split <;> rfl
theorem up_id {α : Type} (f : Nat → α) (a : Nat) : va_up f a (f a) = f := by
  funext k; unfold va_up; split
  · rename_i h; rw [h]
  · rfl
theorem up_sw {α : Type} (f : Nat → α) {a b : Nat} (u v : α) (h : a ≠ b) : va_up (va_up f a u) b v = va_up (va_up f b v) a u := by
  funext k; unfold va_up
  by_cases h1 : k = a
  · subst h1; simp [h]
  · by_cases h2 : k = b <;> simp [h1, h2, Ne.symm h]
end OPS
