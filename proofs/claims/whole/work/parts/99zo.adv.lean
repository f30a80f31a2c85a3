section RUO
variable {n : Nat} {tx : Nat → Int}
/-- the reading has come to a place at least -/
def Ad (tx : Nat → Int) (n a : Nat) (x : MD) : Prop := ∀ T, x = .inr T → a ≤ T.2.1 ∧ TOK tx n T
theorem Ad_l {a : Nat} {e : Int × Int} : Ad tx n a (.inl e) := fun T h => absurd h (by simp)
theorem tok_ge {p : Nat} : p ≤ (tok tx n p).2.1 := by
  have := spn_r (q := isBk) (t := tx) (m := n - p) (p := p)
  rw [tok_2]
  by_cases c : spn isBk tx (n - p) p ≤ n
  · rw [(tk2_r (t := tx) c).1]; exact this.1
  · unfold tk2
    rw [if_pos (by omega)]
    exact this.1
theorem Ad_k {a : Nat} {T : TK} (h : a ≤ T.2.1 ∧ TOK tx n T) : Ad tx n a (.inr (tok tx n T.2.2)) := by
  intro T1 h1
  have h1 := Sum.inr.inj h1
  have r := TOK_r h.2
  rw [← h1]
  have := tok_ge (tx := tx) (n := n) (p := T.2.2)
  exact ⟨by omega, TOK_tok r.2.1⟩
theorem Ad_n {a : Nat} {T : TK} {lo hi : Int} (h : a ≤ T.2.1 ∧ TOK tx n T) : Ad tx n a (mnum tx n T lo hi).1 := by
  unfold mnum
  by_cases c : T.1 ≠ 2
  · rw [if_pos c]; exact Ad_l
  · rw [if_neg c]
    by_cases c2 : nval tx T.2.1 (T.2.2 - T.2.1) < lo ∨ hi < nval tx T.2.1 (T.2.2 - T.2.1)
    · rw [if_pos c2]; exact Ad_l
    · rw [if_neg c2]; exact Ad_k h
theorem Ad_nk {a : Nat} {T : TK} {lo hi : Int} (h : a ≤ T.2.1 ∧ TOK tx n T) : Ad tx n a (mnum tx n (tok tx n T.2.2) lo hi).1 := Ad_n (Ad_k h _ rfl)
theorem Ad_r {a : Nat} {T : TK} (h : a ≤ T.2.1 ∧ TOK tx n T) : Ad tx n a (.inr T) := fun T1 h1 => by rw [← Sum.inr.inj h1]; exact h
theorem Ad_m {a : Nat} {T : TK} {k : Int} (h : a ≤ T.2.1 ∧ TOK tx n T) : Ad tx n a (msg tx n (.inr T) k) := by
  show Ad tx n a (if (T.1 == 4 && tx T.2.1 == k) = true then .inr (tok tx n T.2.2) else .inl (1, (T.2.1 : Nat)))
  split
  · exact Ad_k h
  · exact Ad_l
/-- behind a sign it has come farther -/
theorem Ad_m1 {a : Nat} {x : MD} {k : Int} (h : Ad tx n a x) : Ad tx n (a + 1) (msg tx n x k) := by
  cases x with
  | inl e => exact Ad_l
  | inr T =>
    obtain ⟨h1, h2⟩ := h T rfl
    show Ad tx n (a + 1) (if (T.1 == 4 && tx T.2.1 == k) = true then .inr (tok tx n T.2.2) else .inl (1, (T.2.1 : Nat)))
    cases e : (T.1 == 4 && tx T.2.1 == k) with
    | false => rw [if_neg (by decide)]; exact Ad_l
    | true =>
      rw [if_pos rfl]
      have r := TOK_r h2
      have t4 : T.1 = 4 := by
        simp only [Bool.and_eq_true] at e
        exact eq_of_beq e.1
      have lt := r.2.2.2.2.2.2.2 (by omega)
      intro T1 e1
      have e1 := Sum.inr.inj e1
      rw [← e1]
      have := tok_ge (tx := tx) (n := n) (p := T.2.2)
      exact ⟨by omega, TOK_tok r.2.1⟩
theorem Ad_ms {a : Nat} {T : TK} {k : Int} (h : a ≤ T.2.1 ∧ TOK tx n T) : a ≤ (mps tx n T k).2.1 ∧ TOK tx n (mps tx n T k) := by
  unfold mps
  split
  · exact Ad_k h _ rfl
  · exact h
theorem Ad_tg {a : Nat} {T : TK} {F : Nat → Int} {v q : Int} (h : a ≤ T.2.1 ∧ TOK tx n T) : Ad tx n a (tgP tx n T F v q).1 := by
  cases em : mnm tx T with
  | inl e =>
    have e1 : tgP tx n T F v q = (Sum.inl e, F, v, q) := by simp only [tgP, em]
    rw [e1]; exact Ad_l
  | inr z =>
    have e1 : tgP tx n T F v q = (Sum.inr (tok tx n T.2.2), F, z, ((T.2.1 : Nat) : Int)) := by simp only [tgP, em]
    rw [e1]; exact Ad_k h
theorem Ad_if {a : Nat} {p : Prop} [Decidable p] {x y : PS} (hx : Ad tx n a x.1) (hy : Ad tx n a y.1) : Ad tx n a (if p then x else y).1 := by
  by_cases c : p
  · rw [if_pos c]; exact hx
  · rw [if_neg c]; exact hy
theorem Ad_pc {a c : Nat} {T : TK} {F : Nat → Int} {v q : Int} (h : a ≤ T.2.1 ∧ TOK tx n T) : Ad tx n a (pce tx n c T F v q).1 := by
  unfold pce
  have A1 : ∀ lo hi j, Ad tx n a (nmP (mnum tx n T lo hi) F j v q).1 := fun lo hi j => Ad_n h
  have A2 : ∀ lo hi j, Ad tx n a (nmP (mnum tx n (tok tx n T.2.2) lo hi) F j v q).1 := fun lo hi j => Ad_nk h
  have A3 : ∀ lo hi j, Ad tx n a (ngP (mnum tx n (tok tx n T.2.2) lo hi) F j v q).1 := fun lo hi j => Ad_nk h
  have A4 : ∀ G, Ad tx n a ((.inr T, G, v, q) : PS).1 := fun G => Ad_r h
  have A5 : ∀ k G, Ad tx n a ((msg tx n (.inr T) k, G, v, q) : PS).1 := fun k G => Ad_m h
  have A6 : Ad tx n a (tgP tx n T F v q).1 := Ad_tg h
  exact Ad_if (A1 _ _ _) (Ad_if (Ad_if (A2 _ _ _) (A4 _)) (Ad_if (A1 _ _ _) (Ad_if (Ad_if (A2 _ _ _) (A4 _)) (Ad_if (A5 _ _) (Ad_if (A1 _ _ _) (Ad_if (A1 _ _ _) (Ad_if (A1 _ _ _) (Ad_if (A4 _) (Ad_if (A4 _) (Ad_if (A5 _ _) (Ad_if (A1 _ _ _) (Ad_if (Ad_if (A3 _ _ _) (A1 _ _ _)) (Ad_if (A1 _ _ _) (Ad_if (Ad_if (A3 _ _ _) (A1 _ _ _)) (Ad_if (A1 _ _ _) (Ad_if (A1 _ _ _) (Ad_if A6 (Ad_if A6 (A4 _)))))))))))))))))))
theorem Ad_prI {a : Nat} {l : List Nat} {s : PS} (h : Ad tx n a s.1) : ∀ i, Ad tx n a (prI tx n l s i).1
  | 0 => h
  | i + 1 => by
    have ih := Ad_prI (l := l) h i
    rw [prI_pc]
    cases e : (prI tx n l s i).1 with
    | inl x => rw [pcM_l e, e]; exact Ad_l
    | inr T => rw [pcM_r e]; exact Ad_pc (ih T e)
theorem Ad_rdI {a : Nat} {T : TK} {z : Int} {l : LNS} (h : a ≤ T.2.1 ∧ TOK tx n T) : Ad tx n a (rdI tx n T z l).1 := by
  unfold rdI
  by_cases c1 : wrd tx T ≤ 4
  · rw [if_pos c1]; exact Ad_l
  · rw [if_neg c1]
    by_cases c2 : l.1 = 60
    · rw [if_pos c2]; exact Ad_l
    · rw [if_neg c2]
      exact Ad_prI (Ad_k h) _
theorem Ad_rdL {a k : Nat} {T : TK} {nms : Nat → Int} (h : a ≤ T.2.1 ∧ TOK tx n T) : Ad tx n a (rdL tx n T nms k).1 := by
  unfold rdL
  split
  · exact Ad_r h
  · split
    · exact Ad_l
    · split
      · exact Ad_l
      · have := Ad_k h _ rfl
        exact Ad_m this
theorem Ad_rdA {a : Nat} {T : TK} {Q : Nat → Int} (h : a ≤ T.2.1 ∧ TOK tx n T) : Ad tx n a (rdA tx n T Q).1 := by
  unfold rdA
  have h1 := Ad_n (lo := 0) (hi := 255) h
  cases e : mnum tx n T 0 255 with
  | mk x v =>
    rw [e] at h1
    cases x with
    | inl y => exact Ad_l
    | inr T1 =>
      have h1 := h1 T1 rfl
      show Ad tx n a (if T1.1 = 3 then mhx tx n T1 v.toNat Q else rdD tx n T1 v.toNat Q).1
      split
      · unfold mhx
        split
        · exact Ad_l
        · exact Ad_k h1
      · unfold rdD
        split
        · exact Ad_l
        · have h2 := Ad_ms (k := 45) (Ad_k h1 _ rfl)
          unfold rd5
          split
          · exact Ad_l
          · have h3 := Ad_k h2 _ rfl
            split
            · exact Ad_l
            · have h4 := Ad_k h3 _ rfl
              have h5 := fun lo hi => Ad_n (lo := lo) (hi := hi) h4
              split
              · exact Ad_l
              · rename_i T5 v5 e5
                have h6 := h5 _ _ T5 (by rw [e5])
                exact Ad_r h6
theorem Ad_lne {a : Nat} {T : TK} {l : LNS} {Q : Nat → Int} (h : a ≤ T.2.1 ∧ TOK tx n T) : Ad tx n (a + 1) (lne tx n T l Q).1 := by
  by_cases c : wrd tx T = 1
  · have el : lne tx n T l Q = (msg tx n (rdA tx n (tok tx n T.2.2) Q).1 59, l, (rdA tx n (tok tx n T.2.2) Q).2) := by unfold lne; rw [if_pos c]
    rw [el]
    exact Ad_m1 (Ad_rdA (Ad_k h _ rfl))
  · rw [lne_X c]
    refine Ad_m1 ?_
    have h1 := Ad_rdL (k := l.1) (nms := l.2.2.2.1) h
    cases e : (rdL tx n T l.2.2.2.1 l.1).1 with
    | inl x => exact Ad_l
    | inr T1 => exact Ad_rdI (h1 T1 e)
end RUO
