section RTQ
variable {c : MC} {m : Nat} {f r : Nat → Int} {s t : SI2} {n : Nat} {tx : Nat → Int}
def FrP (f f' : Nat → Int) : Prop := ∀ j, j < 17 ∨ 24 < j ∨ j = 18 → f' j = f j
theorem FrP_rf (f : Nat → Int) : FrP f f := fun _ _ => rfl
theorem FrP_tr {f f1 f2 : Nat → Int} (h : FrP f f1) (h' : FrP f1 f2) : FrP f f2 := fun j hj => (h' j hj).trans (h j hj)
/-- the text that the reference reads -/
def TxR (s : SI2) (tx : Nat → Int) (n : Nat) : Prop := n ≤ 700 ∧ ∀ j, j < 700 → s 13 j = tx j ∧ 0 ≤ tx j ∧ tx j < 256
/-- no fault so far, and the token that stands next -/
def LvR (f tx : Nat → Int) (n : Nat) (T : TK) : Prop := f 23 = 0 ∧ f 19 = tyR T.1 ∧ f 21 = (T.2.1 : Nat) ∧ f 22 = (T.2.2 : Nat) ∧ f 17 = (T.2.2 : Nat) ∧ f 18 = (n : Int) ∧ TOK tx n T ∧ (T.1 = 2 → f 20 = nvl tx T.2.1 (T.2.2 - T.2.1))
def SmR (f tx : Nat → Int) (n : Nat) : MD → Prop
  | .inl x => f 23 = x.1 ∧ f 24 = x.2 ∧ 1 ≤ x.1 ∧ x.1 ≤ 4 ∧ f 18 = (n : Int)
  | .inr T => LvR f tx n T
theorem SmR_18 {x : MD} (h : SmR f tx n x) : f 18 = (n : Int) := by
  cases x with
  | inl x => exact h.2.2.2.2
  | inr T => exact h.2.2.2.2.2.1
theorem s_wrong0 {T : TK} {k : Int} (hm : Mo c m) (h : LvR f tx n T) (k1 : 1 ≤ k) (k2 : k ≤ 4) : ∃ f', fX13_wrong m (jI k) (MS c m f r s t) = some (MS c m f' r s t) ∧ SmR f' tx n (.inl (k, (T.2.1 : Nat))) ∧ FrP f f' := by
  obtain ⟨h1, h2, h3, h4, h5, h6, -⟩ := h
  unfold fX13_wrong
  (rw [s_gd _ hm]; (try rw [s_gI hm]); rw [o_ob]; (try rw [h1]); rw [if_pos (by rfl), s_pI hm, o_ob]; (try rw [s_gI hm]); rw [o_ob]; (try rw [va_up_ne _ _ (show (21 : Nat) ≠ 23 by omega)]); (try rw [h3]); rw [s_pI hm, o_ob])
  refine ⟨_, rfl, ⟨?_, va_up_self _ _ _, k1, k2, ?_⟩, fun j hj => ?_⟩
  · rw [va_up_ne _ _ (by omega), va_up_self]
  · rw [va_up_ne _ _ (by omega), va_up_ne _ _ (by omega)]; exact h6
  · rw [va_up_ne _ _ (by omega), va_up_ne _ _ (by omega)]
theorem s_wrong1 {x : Int × Int} {k : Int} (hm : Mo c m) (h : SmR f tx n (.inl x)) : fX13_wrong m (jI k) (MS c m f r s t) = some (MS c m f r s t) := by
  obtain ⟨h1, h2, h3, h4, -⟩ := h
  unfold fX13_wrong
  (rw [s_gd _ hm]; (try rw [s_gI hm]); rw [o_ob]; (try rw [h1]); rw [if_neg (show ¬ jI x.1 = 0 by rw [show (0 : Int32) = jI 0 from rfl, jI_eq (by omega) (by omega) (by omega) (by omega)]; omega)])
theorem s_step {T : TK} (hm : Mo c m) (ht : TxR s tx n) (h : LvR f tx n T) : ∃ f', fX13_stepOn m (MS c m f r s t) = some (MS c m f' r s t) ∧ LvR f' tx n (tok tx n T.2.2) ∧ FrP f f' := by
  obtain ⟨h1, h2, h3, h4, h5, h6, h7, -⟩ := h
  have tr := TOK_r h7
  obtain ⟨f', e, a1, a2, a3, a4, a5, a6⟩ := s_stepOn (f := f) (r := r) (t := t) hm h6 ht.1 h5 tr.2.1 ht.2
  refine ⟨f', e, ⟨(a6 23 (by omega)).trans h1, a2, a3, a4, a1, (a6 18 (by omega)).trans h6, TOK_tok tr.2.1, fun q => by rw [a5, if_pos q]⟩, fun j hj => a6 j (by omega)⟩
theorem tyR_eq {k z : Nat} (h1 : 1 ≤ k) (h2 : k ≤ 6) (z1 : 1 ≤ z) (z2 : z ≤ 4) : (tyR k = (z : Int)) ↔ k = z := by unfold tyR; split <;> (try split) <;> omega
theorem tyR_r {k : Nat} (h2 : k ≤ 6) : 0 ≤ tyR k ∧ tyR k ≤ 5 := by unfold tyR; split <;> (try split) <;> omega
theorem nvl_min {b : Nat} : ∀ {i : Nat}, (∀ j, b ≤ j → j < b + i → isDg (tx j) = true) → nvl tx b i = min 100000 (nval tx b i)
  | 0, _ => rfl
  | i + 1, h => by
    have ih := nvl_min (i := i) (fun j x y => h j x (by omega))
    have nn := nval_nn (t := tx) (s := b) (m := i) (fun j x y => h j x (by omega))
    have hd := h (b + i) (by omega) (by omega)
    unfold isDg at hd
    have hd := of_decide_eq_true hd
    show min 100000 (10 * nvl tx b i + tx (b + i) - 48) = min 100000 (nval tx b i * 10 + (tx (b + i) - 48))
    rw [ih]
    omega
/-- a number, between two bounds -/
def numR (tx : Nat → Int) (n : Nat) (x : MD) (lo hi : Int) : MD × Int := match x with
  | .inl e => (.inl e, 0)
  | .inr T => mnum tx n T lo hi
theorem s_num {x : MD} {lo hi : Int} (hm : Mo c m) (ht : TxR s tx n) (h : SmR f tx n x) (l0 : 0 ≤ lo) (l1 : lo ≤ 10) (h0 : 0 ≤ hi) (h1 : hi < 10000) : ∃ f', fX13_readNumber m (jI lo) (jI hi) (MS c m f r s t) = some (jI (numR tx n x lo hi).2, MS c m f' r s t) ∧ SmR f' tx n (numR tx n x lo hi).1 ∧ FrP f f' := by
  cases x with
  | inl e =>
    have hh := h
    obtain ⟨e1, e2, e3, e4, -⟩ := h
    unfold fX13_readNumber
    (rw [s_gd _ hm]; (try rw [s_gI hm]); rw [o_ob]; (try rw [e1]); rw [if_neg (show ¬ jI e.1 = 0 by rw [show (0 : Int32) = jI 0 from rfl, jI_eq (by omega) (by omega) (by omega) (by omega)]; omega)])
    exact ⟨f, rfl, hh, FrP_rf f⟩
  | inr T =>
    have hL : LvR f tx n T := h
    obtain ⟨a1, a2, a3, a4, a5, a6, a7, a8⟩ := hL
    have tr := TOK_r a7
    have ty := tyR_r tr.2.2.2.1
    -- a fault
    have bad : ∀ k : Int, 1 ≤ k → k ≤ 4 → mnum tx n T lo hi = (.inl (k, (T.2.1 : Nat)), 0) → ∃ f', ob (fX13_wrong m (jI k) (MS c m f r s t)) (fun h => fX13_readNumber_46 m h) = some (jI (numR tx n (.inr T) lo hi).2, MS c m f' r s t) ∧ SmR f' tx n (numR tx n (.inr T) lo hi).1 ∧ FrP f f' := by
      intro k k1 k2 hk
      obtain ⟨f', w1, w2, w3⟩ := s_wrong0 (r := r) (s := s) (t := t) (k := k) hm h k1 k2
      have e : numR tx n (.inr T) lo hi = (.inl (k, (T.2.1 : Nat)), 0) := hk
      have g23 : f' 23 = k := w2.1
      have nk : ¬ jI k = 0 := by rw [show (0 : Int32) = jI 0 from rfl, jI_eq (by omega) (by omega) (by omega) (by omega)]; omega
      unfold fX13_readNumber_46 fX13_readNumber_61
      ((try rw [w1]); rw [o_ob]; (try rw [s_gI hm]); rw [o_ob]; (try rw [g23]); rw [if_neg nk]; (try rw [s_gI hm]); rw [o_ob]; (try rw [g23]); rw [if_neg nk, e])
      exact ⟨f', rfl, w2, w3⟩
    unfold fX13_readNumber fX13_readNumber_41
    (rw [s_gd _ hm]; (try rw [s_gI hm]); rw [o_ob]; (try rw [a1]); rw [if_pos (by rfl)]; (try rw [s_gI hm]); rw [o_ob]; (try rw [a2]))
    by_cases q : T.1 = 2
    · obtain ⟨q1, q2⟩ := tr.2.2.2.2.2.1 q
      have dg : ∀ j, T.2.1 ≤ j → j < T.2.1 + (T.2.2 - T.2.1) → isDg (tx j) = true := fun j x y => q2 j x (by omega)
      have e20 := a8 q
      rw [nvl_min dg] at e20
      have nn := nval_nn dg
      obtain ⟨v, hv⟩ : ∃ v, v = nval tx T.2.1 (T.2.2 - T.2.1) := ⟨_, rfl⟩
      rw [← hv] at e20 nn
      have em : mnum tx n T lo hi = if v < lo ∨ hi < v then (.inl (2, (T.2.1 : Nat)), 0) else (.inr (tok tx n T.2.2), v) := by
        unfold mnum
        rw [if_neg (fun z => z q), ← hv]
      (rw [if_pos (by rw [q]; rfl)]; (try rw [s_gI hm]); rw [o_ob, e20])
      by_cases b1 : v < lo
      · rw [if_pos (by rw [jI_lt (by omega) (by omega) (by omega) (by omega)]; omega)]
        exact bad 2 (by omega) (by omega) (by rw [em, if_pos (Or.inl b1)])
      · (rw [if_neg (by rw [jI_lt (by omega) (by omega) (by omega) (by omega)]; omega)]; (try rw [s_gI hm]); rw [o_ob])
        (try rw [e20])
        by_cases b2' : hi < v
        · rw [if_neg (by rw [jI_le (by omega) (by omega) (by omega) (by omega)]; omega)]
          exact bad 2 (by omega) (by omega) (by rw [em, if_pos (Or.inr b2')])
        · have ev : min 100000 v = v := by omega
          obtain ⟨f', w1, w2, w3⟩ := s_step (r := r) (t := t) hm ht h
          have e : numR tx n (.inr T) lo hi = (.inr (tok tx n T.2.2), v) := by show mnum tx n T lo hi = _; rw [em, if_neg (by omega)]
          rw [if_pos (by rw [jI_le (by omega) (by omega) (by omega) (by omega)]; omega)]
          unfold fX13_readNumber_46 fX13_readNumber_61
          ((try rw [s_gI hm]); rw [o_ob]; (try rw [a1]); rw [if_pos (by rfl)]; (try rw [s_gI hm]); rw [o_ob, e20, ev]; (try rw [s_gI hm]); rw [o_ob]; (try rw [a1]); rw [if_pos (by rfl)]; (try rw [w1]); rw [o_ob, e])
          exact ⟨f', rfl, w2, w3⟩
    · have nq : ¬ jI (tyR T.1) = 2 := by
        rw [show (2 : Int32) = jI 2 from rfl, jI_eq (by omega) (by omega) (by omega) (by omega)]
        intro z
        exact q ((tyR_eq (z := 2) tr.2.2.1 tr.2.2.2.1 (by omega) (by omega)).1 z)
      rw [if_neg nq]
      exact bad 1 (by omega) (by omega) (by unfold mnum; rw [if_pos q])
theorem s_isMarked {T : TK} {k : Int} (hm : Mo c m) (ht : TxR s tx n) (h : LvR f tx n T) (k1 : 0 ≤ k) (k2 : k < 256) : fX13_isMarked m (jI k) (MS c m f r s t) = some (jI (b2 (T.1 == 4 && tx T.2.1 == k))) := by
  obtain ⟨a1, a2, a3, a4, a5, a6, a7, a8⟩ := h
  have tr := TOK_r a7
  have ty := tyR_r tr.2.2.2.1
  have hn := ht.1
  unfold fX13_isMarked
  (rw [s_gd _ hm]; (try rw [s_gI hm]); rw [o_ob]; (try rw [a1]); rw [if_pos (by rfl)]; (try rw [s_gI hm]); rw [o_ob]; (try rw [a2]))
  by_cases q : T.1 = 4
  · have lt := tr.2.2.2.2.2.2.2 (by omega)
    obtain ⟨x1, x2, x3⟩ := ht.2 T.2.1 (by omega)
    (rw [if_pos (by rw [q]; rfl)]; (try rw [s_R15 hm]); rw [o_ob]; (try rw [s_gI hm]); rw [o_ob]; (try rw [a3]); rw [s_a13 hm (by omega) (by omega), o_ob, Int.toNat_natCast]; (try rw [x1]))
    by_cases g : tx T.2.1 = k
    · rw [if_pos (by rw [g]), q, g]; simp; rfl
    · have e : (tx T.2.1 == k) = false := by simpa using g
      rw [if_neg (by rw [jI_eq (by omega) (by omega) (by omega) (by omega)]; exact g), e, Bool.and_false]; rfl
  · have nq : ¬ jI (tyR T.1) = 4 := by
      rw [show (4 : Int32) = jI 4 from rfl, jI_eq (by omega) (by omega) (by omega) (by omega)]
      intro z
      exact q ((tyR_eq (z := 4) tr.2.2.1 tr.2.2.2.1 (by omega) (by omega)).1 z)
    have e : (T.1 == 4) = false := by simpa using q
    rw [if_neg nq, e, Bool.false_and]; rfl
theorem s_mark {x : MD} {k : Int} (hm : Mo c m) (ht : TxR s tx n) (h : SmR f tx n x) (k1 : 0 ≤ k) (k2 : k < 256) : ∃ f', fX13_mark m (jI k) (MS c m f r s t) = some (MS c m f' r s t) ∧ SmR f' tx n (msg tx n x k) ∧ FrP f f' := by
  cases x with
  | inl e =>
    have hh := h
    obtain ⟨e1, e2, e3, e4, -⟩ := h
    have ne : ¬ jI e.1 = 0 := by rw [show (0 : Int32) = jI 0 from rfl, jI_eq (by omega) (by omega) (by omega) (by omega)]; omega
    unfold fX13_mark fX13_mark_20
    (rw [s_gd _ hm]; (try rw [s_gI hm]); rw [o_ob]; (try rw [e1]); rw [if_neg ne]; (try rw [s_gI hm]); rw [o_ob]; (try rw [e1]); rw [if_neg ne])
    exact ⟨f, rfl, hh, FrP_rf f⟩
  | inr T =>
    have hL : LvR f tx n T := h
    have a1 := hL.1
    unfold fX13_mark fX13_mark_20
    (rw [s_gd _ hm]; (try rw [s_gI hm]); rw [o_ob]; (try rw [a1]); rw [if_pos (by rfl), s_isMarked hm ht hL k1 k2, o_ob])
    have em : msg tx n (.inr T) k = if (T.1 == 4 && tx T.2.1 == k) = true then .inr (tok tx n T.2.2) else .inl (1, (T.2.1 : Nat)) := rfl
    cases q : (T.1 == 4 && tx T.2.1 == k) with
    | true =>
      obtain ⟨f', w1, w2, w3⟩ := s_step (r := r) (t := t) hm ht hL
      (rw [if_neg (by decide)]; (try rw [s_gI hm]); rw [o_ob]; (try rw [a1]); rw [if_pos (by rfl)]; (try rw [w1]); rw [o_ob, em, q, if_pos rfl])
      exact ⟨f', rfl, w2, w3⟩
    | false =>
      obtain ⟨f', w1, w2, w3⟩ := s_wrong0 (r := r) (s := s) (t := t) (k := 1) hm hL (by omega) (by omega)
      have g23 : f' 23 = 1 := w2.1
      (rw [if_pos (by rfl)]; (try rw [show (1 : Int32) = jI 1 from rfl]); (try rw [w1]); rw [o_ob]; (try rw [s_gI hm]); rw [o_ob]; (try rw [g23]); rw [if_neg (by decide), em, q, if_neg (by decide)])
      exact ⟨f', rfl, w2, w3⟩
end RTQ
