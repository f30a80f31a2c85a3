section ZTA
/-! BOTH TOGETHER: what a call of the law sees -/
variable {K : Nat → Nat} {I : Nat → Nat → Int32} {R : Nat → Nat → Nat} {L : Nat → Nat → Int64} {N : Nat → Nat} {w : Nat × Nat × Nat × Nat} {X U C Z : Nat}
variable {b mm ao many k m n pc pu : Nat} {P : PG} {r nt cr tp : Nat → Int} {A : Nat → Nat → Int} {fp : Int} {im : Option DS} {c : MC} {f : Nat → Int} {s t : SI2} {h g : Hp}
theorem i32 (z : Int32) : ∃ a : Int, z = jI a ∧ -2147483648 ≤ a ∧ a < 2147483648 := by
  have h1 := Int32.le_toInt z
  have h2 := Int32.toInt_lt z
  exact ⟨z.toInt, (Int32.ofInt_toInt z).symm, by omega, by omega⟩
/-- the engine at b and the reference at mm hold the same; out is at ao -/
def IV (b mm ao X pc pu : Nat) (h g : Hp) : Prop := ∃ c f r s t many P k A m nt cr n tp fp im, g = MS c mm f r s t ∧ hK h ao = 102 ∧ hN h ao = 1 ∧ ao < X ∧ RC (hK h) (hI h) (hR h) (hN h) X b many P r k A m nt cr n tp fp im pc pu ∧ RF c mm f r s many P k A m nt cr n tp fp im
/-- what a helper and the reference answer -/
def HR (b mm ao X pc pu : Nat) (fh fr : Option (Int32 × Hp)) : Prop := ∃ kk h' v g', fh = some (kk, h') ∧ fr = some (v, g') ∧ fX13_thrown mm g' = some kk ∧ (kk = 0 → hL h' ao 0 = Int32.toInt64 v) ∧ IV b mm ao X pc pu h' g'
def HRL (b mm ao X pc pu : Nat) (fh : Option (Int32 × Hp)) (fr : Option (Int64 × Hp)) : Prop := ∃ kk h' v g', fh = some (kk, h') ∧ fr = some (v, g') ∧ fX13_thrown mm g' = some kk ∧ (kk = 0 → hL h' ao 0 = v) ∧ IV b mm ao X pc pu h' g'
def DR (b mm ao X pc pu : Nat) (fc fr : Option (Int32 × Hp)) : Prop := ∃ v h' g', fc = some (v, h') ∧ fr = some (v, g') ∧ IV b mm ao X pc pu h' g'
def DA (b mm ao X pc pu : Nat) (fc fr : Option (Int32 × Hp)) : Prop := ∃ v h' g' pc' pu', fc = some (v, h') ∧ fr = some (v, g') ∧ hX h' + pc' = X + pc ∧ hU h' + pu' = pu ∧ X ≤ hX h' ∧ IV b mm ao (hX h') pc' pu' h' g'
theorem s_thrown (hm : Mo c mm) : fX13_thrown mm (MS c mm f r s t) = some (jI (f 2)) := by
  unfold fX13_thrown
  (rw [s_gd _ hm]; (try rw [s_gI hm]); rw [o_ob])
theorem qL_out (ho : K ao = 102) (hn : N ao = 1) (v : Int64) : qL ao 0 v (K, I, R, L, N, w) = some (K, I, R, va_up L ao (va_up (L ao) 0 v), N, w) := o_qL (z := 0) ho (by omega) (by rw [hn]; decide) (by omega)
theorem jk_ne {k : Nat} (h1 : 1 ≤ k) (h2 : k ≤ 3) : ¬ jI (k : Int) = 0 := by
  rw [show (0 : Int32) = jI 0 from rfl, jI_eq (by omega) (by omega) (by omega) (by omega)]; omega
theorem hr_of {fh fr : Option (Int32 × Hp)} {ans : Nat ⊕ Int32} (ho : K ao = 102) (hn : N ao = 1) (hx : ao < X) (rc : RC K I R N X b many P r k A m nt cr n tp fp im pc pu) (rf : RF c mm f r s many P k A m nt cr n tp fp im) (hr : Rk c mm f r s fr ans)
    (h1 : ∀ k', ans = .inl k' → 1 ≤ k' ∧ k' ≤ 3 ∧ fh = some (jI (k' : Int), (K, I, R, L, N, w))) (h2 : ∀ x, ans = .inr x → fh = ob (qL ao 0 (Int32.toInt64 x) (K, I, R, L, N, w)) fun h => some (0, h)) : HR b mm ao X pc pu fh fr := by
  obtain ⟨v, f', s', t', e, kf, ks, hm⟩ := hr
  have rf' := RF_k rf kf ks
  cases ans with
  | inl k' =>
    obtain ⟨q1, q2, q3⟩ := h1 k' rfl
    have hm : f' 2 = (k' : Int) := hm
    exact ⟨_, _, v, _, q3, e, by rw [s_thrown rf.1, hm], fun q => absurd q (jk_ne q1 q2), c, f', r, s', t', many, P, k, A, m, nt, cr, n, tp, fp, im, rfl, ho, hn, hx, rc, rf'⟩
  | inr x =>
    have hm : f' 2 = 0 ∧ v = x := hm
    have q := h2 x rfl
    rw [qL_out ho hn, o_ob] at q
    refine ⟨_, _, v, _, q, e, by rw [s_thrown rf.1, hm.1]; rfl, fun _ => ?_, c, f', r, s', t', many, P, k, A, m, nt, cr, n, tp, fp, im, rfl, ho, hn, hx, rc, rf'⟩
    show va_up L ao (va_up (L ao) 0 (Int32.toInt64 x)) ao 0 = _
    ((try rw [va_up_self]); (try rw [va_up_self]); rw [hm.2])
theorem hr_ofL {fh : Option (Int32 × Hp)} {fr : Option (Int64 × Hp)} {ans : Nat ⊕ Int64} (ho : K ao = 102) (hn : N ao = 1) (hx : ao < X) (rc : RC K I R N X b many P r k A m nt cr n tp fp im pc pu) (rf : RF c mm f r s many P k A m nt cr n tp fp im) (hr : Rk c mm f r s fr ans)
    (h1 : ∀ k', ans = .inl k' → 1 ≤ k' ∧ k' ≤ 3 ∧ fh = some (jI (k' : Int), (K, I, R, L, N, w))) (h2 : ∀ x, ans = .inr x → fh = ob (qL ao 0 x (K, I, R, L, N, w)) fun h => some (0, h)) : HRL b mm ao X pc pu fh fr := by
  obtain ⟨v, f', s', t', e, kf, ks, hm⟩ := hr
  have rf' := RF_k rf kf ks
  cases ans with
  | inl k' =>
    obtain ⟨q1, q2, q3⟩ := h1 k' rfl
    have hm : f' 2 = (k' : Int) := hm
    exact ⟨_, _, v, _, q3, e, by rw [s_thrown rf.1, hm], fun q => absurd q (jk_ne q1 q2), c, f', r, s', t', many, P, k, A, m, nt, cr, n, tp, fp, im, rfl, ho, hn, hx, rc, rf'⟩
  | inr x =>
    have hm : f' 2 = 0 ∧ v = x := hm
    have q := h2 x rfl
    rw [qL_out ho hn, o_ob] at q
    refine ⟨_, _, v, _, q, e, by rw [s_thrown rf.1, hm.1]; rfl, fun _ => ?_, c, f', r, s', t', many, P, k, A, m, nt, cr, n, tp, fp, im, rfl, ho, hn, hx, rc, rf'⟩
    show va_up L ao (va_up (L ao) 0 x) ao 0 = _
    ((try rw [va_up_self]); (try rw [va_up_self]); rw [hm.2])
end ZTA
