section LIN
/-! A LINE; A TEXT -/
variable {K : Nat → Nat} {I : Nat → Nat → Int32} {R : Nat → Nat → Nat} {L : Nat → Nat → Int64} {N : Nat → Nat} {w : Nat × Nat × Nat × Nat} {X U C Z : Nat} {Xo Ko : Nat}
def lne (t : Nat → Int) (n : Nat) (T : TK) (s : LNS) (Q : Nat → Int) : MD × LNS × (Nat → Int) :=
  if wrd t T = 1 then (msg t n (rdA t n (tok t n T.2.2) Q).1 59, s, (rdA t n (tok t n T.2.2) Q).2)
  else match rdL t n T s.2.2.2.1 s.1 with
    | (.inl x, _) => (.inl x, s, Q)
    | (.inr T1, z) => (msg t n (rdI t n T1 z s).1 59, (rdI t n T1 z s).2, Q)
theorem PrS_PL {bad : Nat → Prop} {a nm wt wp l : Nat} {s : LNS} {Q Q' : Nat → Int} {I' : Nat → Nat → Int32} {R' : Nat → Nat → Nat} (h : PrS K I R L N X bad a nm wt wp l s Q) (p : PL a l I R I' R') (hwl : wp ≠ l + 2) (hq : I' (l + 2) = jF Q') (hb : Byz Q') : PrS K I' R' L N X bad a nm wt wp l s Q' := by
  obtain ⟨htb, r5, hl, ⟨hn1, hn2⟩, i2, hm, hI, hQ, hins, hnm, hwt⟩ := h
  have ka := htb.1
  have k3 := htb.2.2.2.2.2.2.2.2.1
  have hl' := PL_Ls hl ka p
  obtain ⟨k6, -, -, k1, -, k2, -⟩ := hl
  have e1 : R' (l + 1) = R (l + 1) := p.2.1 _ (fun q => by rw [q, ka] at k1; omega)
  refine ⟨Tb_fr htb p.2.2.1, by rw [p.2.2.1 5 (by omega)]; exact r5, hl', ⟨fun s hs c => by rw [e1] at c ⊢; exact hn1 s hs c, fun s s' hs hs' hne c => by rw [e1] at c ⊢; exact hn2 s s' hs hs' hne c⟩, by rw [p.1 l (fun q => by rw [q, ka] at k6; omega) (by omega)]; exact i2, hm, hq, hb, fun k hk => ?_, hnm, fun k hk => ?_⟩
  · rw [e1]
    obtain ⟨a1, a2, a3, a4⟩ := hins k hk
    have ki := (hn1 k (by omega) a1).1
    have ni : R (l + 1) k ≠ a := fun q => by rw [q, ka] at ki; omega
    have ni2 : R (l + 1) k ≠ l + 2 := fun q => by rw [q, k2] at ki; omega
    exact ⟨a1, by rw [p.2.1 _ ni]; exact a2, a3, fun j j1 j2 => by rw [p.1 _ ni ni2]; exact a4 j j1 j2⟩
  · obtain ⟨b1, b3, b4, b2⟩ := hwt k hk
    exact ⟨b1, b3, b4, fun c => by rw [p.1 wp (fun q => by rw [q, ka] at k3; omega) hwl]; exact b2 c⟩
theorem e_lne {bad : Nat → Prop} {a nm wt wp tp l n : Nat} {t Q : Nat → Int} {T : TK} {s : LNS} (h : Lv K I R N a tp t n T) (hs : PrS K I R L N X bad a nm wt wp l s Q) (hx : PX2 X a nm wt wp tp l) (h0 : 0 < X) (hK0 : TP Xo Ko K X) (hb : ∀ y, X ≤ y → ¬ bad y) (h1 : X + nul6 R l ≤ C) (h2 : U + 11 * nul6 R l ≤ Z) (hXC : X ≤ C) (hUZ : U ≤ Z) :
    ∃ K' I' R' L' N' X' U', fX8_readLine a (K, I, R, L, N, (X, U, C, Z)) = some (K', I', R', L', N', (X', U', C, Z)) ∧ Smd K' I' R' N' a tp t n (lne t n T s Q).1 ∧ PrS K' I' R' L' N' X' bad a nm wt wp l (lne t n T s Q).2.1 (lne t n T s Q).2.2 ∧ PFr X K I R L N U a nm wt wp l K' I' R' L' N' X' U' ∧ X' ≤ C ∧ U' ≤ Z ∧ TP Xo Ko K' X' := by
  have ka := h.1
  have r7 := h.2.2.2.2.2.2.2.2.1
  have w29 := wrd_r t T
  obtain ⟨htb, r5, hl, hn, i2, hm, hI, hQ, hins, hnm, hwt⟩ := id hs
  have hal : tp ≠ l + 2 := hx.2.2.2.2.2.2.2.2.1
  have hwl : wp ≠ l + 2 := hx.2.2.2.2.2.2.2.2.2
  unfold lne
  by_cases c : wrd t T = 1
  · rw [if_pos c]
    obtain ⟨I1, R1, ea, l1, p1⟩ := e_adv (L := L) (w := (X, U, C, Z)) h
    have s1 := PrS_PF hs p1
    obtain ⟨I2, R2, m, Q', er, p2, st, hI2, hQ2, hm2⟩ := e_rdA (L := L) (w := (X, U, C, Z)) l1 s1.2.1 s1.2.2.1 s1.2.2.2.2.2.2.1 s1.2.2.2.2.2.2.2.1 hal
    have s2 := PrS_PL s1 p2 hwl hI2 hQ2
    obtain ⟨I3, R3, es, st3, p3⟩ := e_msg (L := L) (w := (X, U, C, Z)) (c := 59) st (by omega) (by omega)
    have s3 := PrS_PF s2 p3
    have e1 : m = (rdA t n (tok t n T.2.2) Q).1 := by rw [← hm2]
    have e2 : Q' = (rdA t n (tok t n T.2.2) Q).2 := by rw [← hm2]
    rw [← e1, ← e2]
    refine ⟨K, I3, R3, L, N, X, U, ?_, st3, s3, PFr_PF hl ka (PL_tr (PL_tr (PL_PF p1) p2) (PL_PF p3)), hXC, hUZ, hK0⟩
    rw [c] at r7
    unfold fX8_readLine fX8_readLine_31
    rw [o_gd _ ka, o_gR ka, o_ob, r7]
    refine q_wk (by omega) (by omega) ?_
    rw [if_pos rfl, ea, o_obkt, er, o_obkt, show (59 : Int32) = jI 59 from rfl, es, o_obkt]
  · rw [if_neg c]
    obtain ⟨I1, R1, z, er, p1, st1, hz⟩ := e_rdL (L := L) (w := (X, U, C, Z)) h htb r5 hl.1 i2 hm hnm
    have s1 := PrS_PF hs p1
    obtain ⟨⟨m, z0⟩, hmz⟩ : ∃ y, y = rdL t n T s.2.2.2.1 s.1 := ⟨_, rfl⟩
    rw [← hmz] at st1 hz ⊢
    have ego : ∀ res, oba (K, I1, R1, L, N, (X, U, C, Z)) (fX8_readInstruction a (jL z) (K, I1, R1, L, N, (X, U, C, Z))) (fun h => fX8_readLine_31 a h) = res → fX8_readLine a (K, I, R, L, N, (X, U, C, Z)) = res := fun res hres => by
      unfold fX8_readLine
      rw [o_gd _ ka, o_gR ka, o_ob, r7]
      refine q_wk w29 (by omega) ?_
      rw [if_neg c, er, o_obk2t]
      exact hres
    cases m with
    | inl x =>
      obtain ⟨kd, pl⟩ := x
      have st1 : Smd K I1 R1 N a tp t n (.inl (kd, pl)) := st1
      obtain ⟨I3, R3, es, st3, p3⟩ := e_msg (L := L) (w := (X, U, C, Z)) (c := 59) st1 (by omega) (by omega)
      refine ⟨K, I3, R3, L, N, X, U, ego _ ?_, st3, PrS_PF s1 p3, PFr_PF hl ka (PL_PF (PF_tr p1 p3)), hXC, hUZ, hK0⟩
      obtain ⟨-, i10, c1, c2, -⟩ := st1
      have ei : fX8_readInstruction a (jL z) (K, I1, R1, L, N, (X, U, C, Z)) = some (K, I1, R1, L, N, (X, U, C, Z)) := by
        have c0 : ¬ (jI kd = 0) := by rw [jI_lit, jI_eq (by omega) (by omega) (by omega) (by omega)]; omega
        unfold fX8_readInstruction
        rw [o_gd _ ka, o_gI ka, o_ob, i10, if_neg c0]
      unfold fX8_readLine_31
      rw [ei, o_oba (okA_tp hK0 h0 (Nat.le_refl _) (Nat.le_refl _) hXC hUZ hK0), show (59 : Int32) = jI 59 from rfl, es, o_obkt]
    | inr T1 =>
      obtain ⟨ez, z1, z2⟩ := hz T1 rfl
      have ez : z = z0 := ez
      subst ez
      have f1 := PFr_PF (X := X) (U := U) (L := L) (N := N) (nm := nm) (wt := wt) (wp := wp) hl ka (PL_PF (l := l) p1)
      have e1 : nul6 R1 l = nul6 R l := by
        have k1 := hl.2.2.2.1
        unfold nul6; rw [p1.2.1 (l + 1) (fun q => by rw [q, ka] at k1; omega)]
      obtain ⟨K2, I2, R2, L2, N2, X2, U2, ei, st2, s2, f2, c1, c2, c3⟩ := e_rdI (L := L) (U := U) (C := C) (Z := Z) (z := z) st1 s1 hx z1 z2 h0 hK0 hb (by rw [e1]; exact h1) (by rw [e1]; exact h2) hXC hUZ
      obtain ⟨I3, R3, es, st3, p3⟩ := e_msg (L := L2) (w := (X2, U2, C, Z)) (c := 59) st2 (by omega) (by omega)
      have ka2 : K2 a = 7 := s2.1.1
      refine ⟨K2, I3, R3, L2, N2, X2, U2, ego _ ?_, st3, PrS_PF s2 p3, PFr_tr (PFr_tr f1 f2) (PFr_PF s2.2.2.1 ka2 (PL_PF p3)), c1, c2, c3⟩
      unfold fX8_readLine_31
      rw [ei, o_oba (okA_tp hK0 h0 f2.2.2.2.2.2.2.2.1 f2.2.2.2.2.2.2.2.2.2.2.2.2 c1 c2 c3), show (59 : Int32) = jI 59 from rfl, es, o_obkt]
/-- lines, up to a fault or the end -/
def prsL (t : Nat → Int) (n : Nat) : Nat → TK → LNS → (Nat → Int) → MD × LNS × (Nat → Int)
  | 0, T, s, Q => (.inr T, s, Q)
  | k + 1, T, s, Q => if T.1 = 5 then (.inr T, s, Q) else match lne t n T s Q with
    | (.inl x, s', Q') => (.inl x, s', Q')
    | (.inr T', s', Q') => prsL t n k T' s' Q'
theorem prsL_e {t : Nat → Int} {n k : Nat} {T : TK} {s : LNS} {Q : Nat → Int} (h : T.1 = 5) : prsL t n k T s Q = (.inr T, s, Q) := by
  cases k with
  | zero => rfl
  | succ k => show (if T.1 = 5 then _ else _) = _; rw [if_pos h]
theorem prsL_f {t : Nat → Int} {n k : Nat} {T : TK} {s s' : LNS} {Q Q' : Nat → Int} {x : Int × Int} (h : T.1 ≠ 5) (hl : lne t n T s Q = (.inl x, s', Q')) : prsL t n (k + 1) T s Q = (.inl x, s', Q') := by
  show (if T.1 = 5 then _ else match lne t n T s Q with | (.inl x, s', Q') => _ | (.inr T', s', Q') => prsL t n k T' s' Q') = _
  rw [if_neg h, hl]
theorem prsL_s {t : Nat → Int} {n k : Nat} {T T' : TK} {s s' : LNS} {Q Q' : Nat → Int} (h : T.1 ≠ 5) (hl : lne t n T s Q = (.inr T', s', Q')) : prsL t n (k + 1) T s Q = prsL t n k T' s' Q' := by
  show (if T.1 = 5 then _ else match lne t n T s Q with | (.inl x, s', Q') => _ | (.inr T', s', Q') => prsL t n k T' s' Q') = _
  rw [if_neg h, hl]
end LIN
