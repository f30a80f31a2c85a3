section RTY
variable {n : Nat} {tx : Nat → Int}
theorem numR_live {x : MD} {lo hi : Int} {T : TK} (h : (numR tx n x lo hi).1 = .inr T) : ∃ T0, x = .inr T0 := by
  cases x with
  | inl e => exact absurd h (by simp [numR])
  | inr T0 => exact ⟨T0, rfl⟩
theorem msg_live {x : MD} {k : Int} {T : TK} (h : msg tx n x k = .inr T) : ∃ T0, x = .inr T0 := by
  cases x with
  | inl e => exact absurd h (by simp [msg])
  | inr T0 => exact ⟨T0, rfl⟩
/-- a field as four pieces -/
theorem pcM_fd {c d e j jl : Nat} {hi : Int} {s : PS} (hc : ∀ T f v q, pce tx n c T f v q = nmP (mnum tx n T 0 255) f j v q) (hd : ∀ T f v q, pce tx n d T f v q = if hre tx T 37 = true then nmP (mnum tx n (tok tx n T.2.2) 0 7) f (j + 1) v q else (.inr T, va_up f (j + 1) (-1), v, q)) (he : ∀ T f v q, pce tx n e T f v q = nmP (mnum tx n T 1 hi) f jl v q) :
    (pcM tx n (pcM tx n (pcM tx n (pcM tx n s c) d) 58) e).1 = (fdM tx n s.1 hi).1 ∧ (pcM tx n (pcM tx n (pcM tx n (pcM tx n s c) d) 58) e).2.2 = s.2.2 ∧ (∀ T, (pcM tx n (pcM tx n (pcM tx n (pcM tx n s c) d) 58) e).1 = .inr T → (pcM tx n (pcM tx n (pcM tx n (pcM tx n s c) d) 58) e).2.1 = va_up (va_up (va_up s.2.1 j (fdM tx n s.1 hi).2.1) (j + 1) (fdM tx n s.1 hi).2.2.1) jl (fdM tx n s.1 hi).2.2.2) := by
  obtain ⟨a1, a2, a3⟩ := pcM_ad (s := s) hc hd
  obtain ⟨a, ha⟩ : ∃ a, a = pcM tx n (pcM tx n s c) d := ⟨_, rfl⟩
  rw [← ha] at a1 a2 a3 ⊢
  obtain ⟨b1, b2'⟩ := pcM_col (tx := tx) (n := n) (s := a)
  obtain ⟨b, hb⟩ : ∃ b, b = pcM tx n a 58 := ⟨_, rfl⟩
  rw [← hb] at b1 b2' ⊢
  obtain ⟨u1, u2, u3⟩ := pcM_num (s := b) he
  obtain ⟨u, hu⟩ : ∃ u, u = pcM tx n b e := ⟨_, rfl⟩
  rw [← hu] at u1 u2 u3 ⊢
  rw [b1, a1] at u1
  refine ⟨u1, u2.trans ((congrArg Prod.snd b2').trans a2), fun T h => ?_⟩
  have h1 : (numR tx n (msg tx n (adM tx n s.1).1 58) 1 hi).1 = .inr T := u1.symm.trans h
  obtain ⟨T1, hT1⟩ := numR_live h1
  obtain ⟨T2, hT2⟩ := msg_live hT1
  have e1 := u3 T1 (by rw [b1, a1]; exact hT1)
  have e2 := a3 T2 (by rw [a1]; exact hT2)
  ((try rw [e1]); rw [congrArg Prod.fst b2', e2]; (try rw [b1]); (try rw [a1]))
  rfl
/-- the form of an operation on two fields -/
theorem wfm_two : ∀ i : Fin 9, wfm (i.val + 5) = [112, 120, 58, 108, 113, 121, 58, 109] := by decide +kernel
theorem prI_two {s : PS} {W : Nat} (h1 : 5 ≤ W) (h2 : W ≤ 13) : prI tx n (wfm W) s (wfm W).length = pcM tx n (pcM tx n (pcM tx n (pcM tx n (pcM tx n (pcM tx n (pcM tx n (pcM tx n s 112) 120) 58) 108) 113) 121) 58) 109 := by
  have e := wfm_two ⟨W - 5, by omega⟩
  have e : wfm (W - 5 + 5) = [112, 120, 58, 108, 113, 121, 58, 109] := e
  rw [show W - 5 + 5 = W by omega] at e
  rw [e]
  rfl
end RTY
