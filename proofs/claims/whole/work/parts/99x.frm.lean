section RTX
variable {n : Nat} {tx : Nat → Int}
/-- a piece of a form, unless there is a fault -/
def pcM (tx : Nat → Int) (n : Nat) (s : PS) (c : Nat) : PS := match s.1 with
  | .inl _ => s
  | .inr T => pce tx n c T s.2.1 s.2.2.1 s.2.2.2
theorem prI_pc {l : List Nat} {s : PS} {i : Nat} : prI tx n l s (i + 1) = pcM tx n (prI tx n l s i) (l.getD i 0) := rfl
theorem pcM_l {c : Nat} {s : PS} {e : Int × Int} (h : s.1 = .inl e) : pcM tx n s c = s := by unfold pcM; rw [h]
theorem pcM_r {c : Nat} {s : PS} {T : TK} (h : s.1 = .inr T) : pcM tx n s c = pce tx n c T s.2.1 s.2.2.1 s.2.2.2 := by unfold pcM; rw [h]
/-- a number as a piece -/
theorem pcM_num {c j : Nat} {lo hi : Int} {s : PS} (hc : ∀ T f v q, pce tx n c T f v q = nmP (mnum tx n T lo hi) f j v q) : (pcM tx n s c).1 = (numR tx n s.1 lo hi).1 ∧ (pcM tx n s c).2.2 = s.2.2 ∧ (∀ T, s.1 = .inr T → (pcM tx n s c).2.1 = va_up s.2.1 j (numR tx n s.1 lo hi).2) := by
  obtain ⟨x, f, v, q⟩ := s
  cases x with
  | inl e =>
    rw [pcM_l (e := e) rfl]
    exact ⟨rfl, rfl, fun T h => absurd h (by simp)⟩
  | inr T =>
    rw [pcM_r (T := T) rfl, hc]
    exact ⟨rfl, rfl, fun _ _ => rfl⟩
theorem pcM_col {s : PS} : (pcM tx n s 58).1 = msg tx n s.1 58 ∧ (pcM tx n s 58).2 = s.2 := by
  obtain ⟨x, f, v, q⟩ := s
  cases x with
  | inl e => rw [pcM_l (e := e) rfl]; exact ⟨rfl, rfl⟩
  | inr T => rw [pcM_r (T := T) rfl]; exact ⟨rfl, rfl⟩
/-- an address as two pieces -/
theorem pcM_ad {c d j : Nat} {s : PS} (hc : ∀ T f v q, pce tx n c T f v q = nmP (mnum tx n T 0 255) f j v q) (hd : ∀ T f v q, pce tx n d T f v q = if hre tx T 37 = true then nmP (mnum tx n (tok tx n T.2.2) 0 7) f (j + 1) v q else (.inr T, va_up f (j + 1) (-1), v, q)) :
    (pcM tx n (pcM tx n s c) d).1 = (adM tx n s.1).1 ∧ (pcM tx n (pcM tx n s c) d).2.2 = s.2.2 ∧ (∀ T, (pcM tx n (pcM tx n s c) d).1 = .inr T → (pcM tx n (pcM tx n s c) d).2.1 = va_up (va_up s.2.1 j (adM tx n s.1).2.1) (j + 1) (adM tx n s.1).2.2) := by
  obtain ⟨a1, a2, a3⟩ := pcM_num (s := s) hc
  obtain ⟨u, hu⟩ : ∃ u, u = pcM tx n s c := ⟨_, rfl⟩
  rw [← hu] at a1 a2 a3 ⊢
  unfold adM
  rw [← a1]
  cases e1 : u.1 with
  | inl e =>
    have x : (psM tx n (.inl e) 37).2 = false := rfl
    rw [pcM_l e1, x, if_neg (show ¬ false = true by decide)]
    exact ⟨e1, a2, fun T h => absurd (e1.symm.trans h) (by simp)⟩
  | inr T1 =>
    have live : ∃ T0, s.1 = .inr T0 := by
      cases e0 : s.1 with
      | inl e => rw [e0] at a1; rw [e1] at a1; exact absurd a1 (by simp [numR])
      | inr T0 => exact ⟨T0, rfl⟩
    obtain ⟨T0, h0⟩ := live
    have a3 := a3 T0 h0
    have x : (psM tx n (.inr T1) 37).2 = hre tx T1 37 := rfl
    (rw [pcM_r e1, hd, x]; (try rw [a3]))
    cases g : hre tx T1 37 with
    | false =>
      rw [if_neg (show ¬ false = true by decide), if_neg (show ¬ false = true by decide)]
      exact ⟨rfl, a2, fun _ _ => rfl⟩
    | true =>
      have gm : msg tx n (.inr T1) 37 = .inr (tok tx n T1.2.2) := by
        show (if (T1.1 == 4 && tx T1.2.1 == 37) = true then _ else _) = _
        exact if_pos g
      rw [if_pos rfl, if_pos rfl, gm]
      exact ⟨rfl, a2, fun _ _ => rfl⟩
end RTX
