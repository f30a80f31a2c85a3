section RUF
variable {n : Nat} {tx : Nat → Int}
theorem mnum_r2 {T T' : TK} {lo hi : Int} (h : (mnum tx n T lo hi).1 = .inr T') : lo ≤ (mnum tx n T lo hi).2 ∧ (mnum tx n T lo hi).2 ≤ hi := by
  unfold mnum at h ⊢
  by_cases c : T.1 ≠ 2
  · rw [if_pos c] at h; exact absurd h (by simp)
  · rw [if_neg c] at h ⊢
    by_cases c2 : nval tx T.2.1 (T.2.2 - T.2.1) < lo ∨ hi < nval tx T.2.1 (T.2.2 - T.2.1)
    · rw [if_pos c2] at h; exact absurd h (by simp)
    · rw [if_neg c2]
      show lo ≤ nval tx T.2.1 (T.2.2 - T.2.1) ∧ nval tx T.2.1 (T.2.2 - T.2.1) ≤ hi
      omega
theorem numR_r {x : MD} {lo hi : Int} {T : TK} (h : (numR tx n x lo hi).1 = .inr T) : lo ≤ (numR tx n x lo hi).2 ∧ (numR tx n x lo hi).2 ≤ hi := by
  cases x with
  | inl e => exact absurd h (by simp [numR])
  | inr T0 => exact mnum_r2 (T' := T) h
theorem adM_r {x : MD} {T : TK} (h : (adM tx n x).1 = .inr T) : (0 ≤ (adM tx n x).2.1 ∧ (adM tx n x).2.1 ≤ 255 ∧ -1 ≤ (adM tx n x).2.2 ∧ (adM tx n x).2.2 ≤ 7) ∧ ∃ T0, x = .inr T0 := by
  unfold adM at h ⊢
  by_cases c : (psM tx n (numR tx n x 0 255).1 37).2 = true
  · rw [if_pos c] at h ⊢
    have h : (numR tx n (msg tx n (numR tx n x 0 255).1 37) 0 7).1 = .inr T := h
    obtain ⟨T1, h1⟩ := numR_live h
    obtain ⟨T2, h2⟩ := msg_live h1
    have r1 := numR_r h
    have r2 := numR_r h2
    refine ⟨?_, numR_live h2⟩
    show 0 ≤ (numR tx n x 0 255).2 ∧ (numR tx n x 0 255).2 ≤ 255 ∧ -1 ≤ (numR tx n (msg tx n (numR tx n x 0 255).1 37) 0 7).2 ∧ (numR tx n (msg tx n (numR tx n x 0 255).1 37) 0 7).2 ≤ 7
    omega
  · rw [if_neg c] at h ⊢
    have h : (numR tx n x 0 255).1 = .inr T := h
    have r2 := numR_r h
    refine ⟨?_, numR_live h⟩
    show 0 ≤ (numR tx n x 0 255).2 ∧ (numR tx n x 0 255).2 ≤ 255 ∧ (-1 : Int) ≤ -1 ∧ (-1 : Int) ≤ 7
    omega
theorem fdM_r {x : MD} {hi : Int} {T : TK} (h : (fdM tx n x hi).1 = .inr T) : (0 ≤ (fdM tx n x hi).2.1 ∧ (fdM tx n x hi).2.1 ≤ 255 ∧ -1 ≤ (fdM tx n x hi).2.2.1 ∧ (fdM tx n x hi).2.2.1 ≤ 7 ∧ 1 ≤ (fdM tx n x hi).2.2.2 ∧ (fdM tx n x hi).2.2.2 ≤ hi) ∧ ∃ T0, x = .inr T0 := by
  have h : (numR tx n (msg tx n (adM tx n x).1 58) 1 hi).1 = .inr T := h
  obtain ⟨T1, h1⟩ := numR_live h
  obtain ⟨T2, h2⟩ := msg_live h1
  obtain ⟨r1, r3⟩ := adM_r h2
  have r2 := numR_r h
  refine ⟨?_, r3⟩
  show 0 ≤ (adM tx n x).2.1 ∧ (adM tx n x).2.1 ≤ 255 ∧ -1 ≤ (adM tx n x).2.2 ∧ (adM tx n x).2.2 ≤ 7 ∧ 1 ≤ (numR tx n (msg tx n (adM tx n x).1 58) 1 hi).2 ∧ (numR tx n (msg tx n (adM tx n x).1 58) 1 hi).2 ≤ hi
  omega
theorem rgM_r {x : MD} {T : TK} (h : (rgM tx n x).1 = .inr T) : (0 ≤ (rgM tx n x).2 ∧ (rgM tx n x).2 ≤ 7) ∧ ∃ T0, x = .inr T0 := by
  have h : (numR tx n (msg tx n x 37) 0 7).1 = .inr T := h
  obtain ⟨T1, h1⟩ := numR_live h
  exact ⟨numR_r h, msg_live h1⟩
theorem psM_live {x : MD} {k : Int} {T : TK} (h : (psM tx n x k).1 = .inr T) : ∃ T0, x = .inr T0 := by
  cases x with
  | inl e => exact absurd h (by simp [psM])
  | inr T0 => exact ⟨T0, rfl⟩
theorem sgM_r {x : MD} {hi hi2 : Int} {T : TK} (h : (sgM tx n x hi hi2).1 = .inr T) (h1 : 0 ≤ hi) (h2 : 0 ≤ hi2) : (-hi2 ≤ (sgM tx n x hi hi2).2 ∧ (sgM tx n x hi hi2).2 ≤ hi) ∧ ∃ T0, x = .inr T0 := by
  unfold sgM at h ⊢
  by_cases c : (psM tx n x 45).2 = true
  · rw [if_pos c] at h ⊢
    have h : (numR tx n (psM tx n x 45).1 0 hi2).1 = .inr T := h
    obtain ⟨T1, h1'⟩ := numR_live h
    have r := numR_r h
    refine ⟨?_, psM_live h1'⟩
    show -hi2 ≤ -(numR tx n (psM tx n x 45).1 0 hi2).2 ∧ -(numR tx n (psM tx n x 45).1 0 hi2).2 ≤ hi
    omega
  · rw [if_neg c] at h ⊢
    obtain ⟨T1, h1'⟩ := numR_live h
    have r := numR_r h
    exact ⟨by omega, psM_live h1'⟩
theorem pcM_37 {s : PS} : (pcM tx n s 37).1 = msg tx n s.1 37 ∧ (pcM tx n s 37).2 = s.2 := by
  obtain ⟨x, f, v, q⟩ := s
  cases x with
  | inl e => rw [pcM_l (e := e) rfl]; exact ⟨rfl, rfl⟩
  | inr T => rw [pcM_r (T := T) rfl]; exact ⟨rfl, rfl⟩
theorem pcM_rg {s : PS} : (pcM tx n (pcM tx n s 37) 114).1 = (rgM tx n s.1).1 ∧ (pcM tx n (pcM tx n s 37) 114).2.2 = s.2.2 ∧ (∀ T, (pcM tx n (pcM tx n s 37) 114).1 = .inr T → (pcM tx n (pcM tx n s 37) 114).2.1 = va_up s.2.1 7 (rgM tx n s.1).2) := by
  obtain ⟨a1, a2⟩ := pcM_37 (tx := tx) (n := n) (s := s)
  obtain ⟨b, hb⟩ : ∃ b, b = pcM tx n s 37 := ⟨_, rfl⟩
  rw [← hb] at a1 a2 ⊢
  obtain ⟨u1, u2, u3⟩ := pcM_num (tx := tx) (n := n) (c := 114) (j := 7) (lo := 0) (hi := 7) (s := b) (fun _ _ _ _ => rfl)
  rw [a1] at u1 u3
  refine ⟨u1, u2.trans (congrArg Prod.snd a2), fun T h => ?_⟩
  obtain ⟨T1, h1⟩ := numR_live (u1.symm.trans h)
  rw [u3 T1 h1, congrArg Prod.fst a2]
  rfl
theorem pcM_61 {s : PS} : (pcM tx n s 61).1 = s.1 ∧ (pcM tx n s 61).2.2 = s.2.2 ∧ (∀ T, s.1 = .inr T → (pcM tx n s 61).2.1 = va_up s.2.1 6 (s.2.1 3)) := by
  obtain ⟨x, f, v, q⟩ := s
  cases x with
  | inl e => rw [pcM_l (e := e) rfl]; exact ⟨rfl, rfl, fun T h => absurd h (by simp)⟩
  | inr T => rw [pcM_r (T := T) rfl]; exact ⟨rfl, rfl, fun _ _ => rfl⟩
theorem pcM_56 {s : PS} : (pcM tx n s 56).1 = s.1 ∧ (pcM tx n s 56).2.2 = s.2.2 ∧ (∀ T, s.1 = .inr T → (pcM tx n s 56).2.1 = va_up s.2.1 3 8) := by
  obtain ⟨x, f, v, q⟩ := s
  cases x with
  | inl e => rw [pcM_l (e := e) rfl]; exact ⟨rfl, rfl, fun T h => absurd h (by simp)⟩
  | inr T => rw [pcM_r (T := T) rfl]; exact ⟨rfl, rfl, fun _ _ => rfl⟩
theorem pcM_sg {c : Nat} {hi hi2 : Int} {s : PS} (hc : ∀ T f v q, pce tx n c T f v q = if hre tx T 45 = true then ngP (mnum tx n (tok tx n T.2.2) 0 hi2) f 8 v q else nmP (mnum tx n T 0 hi) f 8 v q) : (pcM tx n s c).1 = (sgM tx n s.1 hi hi2).1 ∧ (pcM tx n s c).2.2 = s.2.2 ∧ (∀ T, s.1 = .inr T → (pcM tx n s c).2.1 = va_up s.2.1 8 (sgM tx n s.1 hi hi2).2) := by
  obtain ⟨x, f, v, q⟩ := s
  cases x with
  | inl e => rw [pcM_l (e := e) rfl]; exact ⟨rfl, rfl, fun T h => absurd h (by simp)⟩
  | inr T =>
    rw [pcM_r (T := T) rfl, hc]
    unfold sgM
    have e2 : (psM tx n (.inr T) 45) = (.inr (mps tx n T 45), hre tx T 45) := rfl
    show (if hre tx T 45 = true then ngP (mnum tx n (tok tx n T.2.2) 0 hi2) f 8 v q else nmP (mnum tx n T 0 hi) f 8 v q).1 = (if (psM tx n (.inr T) 45).2 = true then ((numR tx n (psM tx n (.inr T) 45).1 0 hi2).1, -(numR tx n (psM tx n (.inr T) 45).1 0 hi2).2) else numR tx n (psM tx n (.inr T) 45).1 0 hi).1 ∧ (if hre tx T 45 = true then ngP (mnum tx n (tok tx n T.2.2) 0 hi2) f 8 v q else nmP (mnum tx n T 0 hi) f 8 v q).2.2 = (v, q) ∧ ∀ T', (Sum.inr T : MD) = .inr T' → (if hre tx T 45 = true then ngP (mnum tx n (tok tx n T.2.2) 0 hi2) f 8 v q else nmP (mnum tx n T 0 hi) f 8 v q).2.1 = va_up f 8 (if (psM tx n (.inr T) 45).2 = true then ((numR tx n (psM tx n (.inr T) 45).1 0 hi2).1, -(numR tx n (psM tx n (.inr T) 45).1 0 hi2).2) else numR tx n (psM tx n (.inr T) 45).1 0 hi).2
    rw [e2]
    cases g : hre tx T 45 with
    | false =>
      rw [if_neg (show ¬ false = true by decide), if_neg (show ¬ false = true by decide), mps_f g]
      exact ⟨rfl, rfl, fun _ _ => rfl⟩
    | true =>
      rw [if_pos rfl, if_pos rfl, mps_t g]
      exact ⟨rfl, rfl, fun _ _ => rfl⟩
theorem pcM_tg {s : PS} : (pcM tx n s 110).1 = (tgM tx n s.1).1 ∧ (∀ T, (pcM tx n s 110).1 = .inr T → (pcM tx n s 110).2.1 = s.2.1 ∧ (pcM tx n s 110).2.2.1 = (tgM tx n s.1).2 ∧ ∃ T0, s.1 = .inr T0 ∧ (pcM tx n s 110).2.2.2 = (T0.2.1 : Nat)) := by
  obtain ⟨x, f, v, q⟩ := s
  cases x with
  | inl e => rw [pcM_l (e := e) rfl]; exact ⟨rfl, fun T h => absurd h (by simp)⟩
  | inr T =>
    rw [pcM_r (T := T) rfl]
    show (tgP tx n T f v q).1 = (tgM tx n (.inr T)).1 ∧ ∀ T', (tgP tx n T f v q).1 = .inr T' → (tgP tx n T f v q).2.1 = f ∧ (tgP tx n T f v q).2.2.1 = (tgM tx n (.inr T)).2 ∧ ∃ T0, (Sum.inr T : MD) = .inr T0 ∧ (tgP tx n T f v q).2.2.2 = (T0.2.1 : Nat)
    cases em : mnm tx T with
    | inl e =>
      have e1 : tgP tx n T f v q = (Sum.inl e, f, v, q) := by simp only [tgP, em]
      have e2 : tgM tx n (.inr T) = (.inl e, 0) := by simp only [tgM, em]
      rw [e1, e2]
      exact ⟨rfl, fun T' h => absurd h (by simp)⟩
    | inr z =>
      have e1 : tgP tx n T f v q = (Sum.inr (tok tx n T.2.2), f, z, ((T.2.1 : Nat) : Int)) := by simp only [tgP, em]
      have e2 : tgM tx n (.inr T) = (.inr (tok tx n T.2.2), z) := by simp only [tgM, em]
      rw [e1, e2]
      exact ⟨rfl, fun T' h => ⟨rfl, rfl, T, rfl, rfl⟩⟩
theorem msg_neg {T : TK} {k : Int} (h : (T.1 == 4 && tx T.2.1 == k) = false) : msg tx n (.inr T) k = .inl (1, (T.2.1 : Nat)) := by
  show (if (T.1 == 4 && tx T.2.1 == k) = true then _ else _) = _
  rw [h]
  exact if_neg (by decide)
theorem pcM_gd {s : PS} (h0 : s.2.2.1 = 0) : msg tx n (pcM tx n s 78).1 59 = msg tx n (gdM tx n s.1).1 59 ∧ (∀ T, msg tx n (pcM tx n s 78).1 59 = .inr T → (pcM tx n s 78).2.1 = s.2.1 ∧ (pcM tx n s 78).2.2.1 = (gdM tx n s.1).2 ∧ ((gdM tx n s.1).2 ≠ 0 → ∃ T0, s.1 = .inr T0 ∧ (pcM tx n s 78).2.2.2 = (T0.2.1 : Nat))) := by
  obtain ⟨x, f, v, q⟩ := s
  have h0 : v = 0 := h0
  cases x with
  | inl e => rw [pcM_l (e := e) rfl]; exact ⟨rfl, fun T h => absurd h (by simp [msg])⟩
  | inr T =>
    rw [pcM_r (T := T) rfl]
    have ep : pce tx n 78 T f v q = if T.1 = 1 then tgP tx n T f v q else (.inr T, f, v, q) := rfl
    have eg : gdM tx n (.inr T) = if (T.1 == 4 && tx T.2.1 == 59) = true then (.inr T, 0) else tgM tx n (.inr T) := rfl
    show msg tx n (pce tx n 78 T f v q).1 59 = msg tx n (gdM tx n (.inr T)).1 59 ∧ ∀ T', msg tx n (pce tx n 78 T f v q).1 59 = .inr T' → (pce tx n 78 T f v q).2.1 = f ∧ (pce tx n 78 T f v q).2.2.1 = (gdM tx n (.inr T)).2 ∧ ((gdM tx n (.inr T)).2 ≠ 0 → ∃ T0, (Sum.inr T : MD) = .inr T0 ∧ (pce tx n 78 T f v q).2.2.2 = (T0.2.1 : Nat))
    rw [ep, eg]
    by_cases c1 : T.1 = 1
    · have c4 : (T.1 == 4 && tx T.2.1 == 59) = false := by rw [c1]; rfl
      (rw [if_pos c1]; (try rw [c4]); rw [if_neg (show ¬ false = true by decide)])
      cases em : mnm tx T with
      | inl e =>
        have e1 : tgP tx n T f v q = (Sum.inl e, f, v, q) := by simp only [tgP, em]
        have e2 : tgM tx n (.inr T) = (.inl e, 0) := by simp only [tgM, em]
        rw [e1, e2]
        exact ⟨rfl, fun T' h => absurd h (by simp [msg])⟩
      | inr z =>
        have e1 : tgP tx n T f v q = (Sum.inr (tok tx n T.2.2), f, z, ((T.2.1 : Nat) : Int)) := by simp only [tgP, em]
        have e2 : tgM tx n (.inr T) = (.inr (tok tx n T.2.2), z) := by simp only [tgM, em]
        rw [e1, e2]
        exact ⟨rfl, fun T' h => ⟨rfl, rfl, fun _ => ⟨T, rfl, rfl⟩⟩⟩
    · rw [if_neg c1]
      cases g : (T.1 == 4 && tx T.2.1 == 59) with
      | true =>
        rw [if_pos rfl]
        exact ⟨rfl, fun T' h => ⟨rfl, h0, fun z => absurd rfl z⟩⟩
      | false =>
        have em : mnm tx T = .inl (1, (T.2.1 : Nat)) := by unfold mnm; rw [if_pos (Or.inl c1)]
        have e2 : tgM tx n (.inr T) = (.inl (1, (T.2.1 : Nat)), 0) := by simp only [tgM, em]
        rw [if_neg (show ¬ false = true by decide), e2]
        have em2 := msg_neg (n := n) g
        refine ⟨em2, fun T' h => ?_⟩
        have h : msg tx n (.inr T) 59 = .inr T' := h
        rw [em2] at h
        exact absurd h (by simp)
end RUF
