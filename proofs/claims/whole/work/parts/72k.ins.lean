section INS
variable {K : Nat → Nat} {I : Nat → Nat → Int32} {R : Nat → Nat → Nat} {L : Nat → Nat → Int64} {N : Nat → Nat} {w : Nat × Nat × Nat × Nat} {X U C Z : Nat} {Xo Ko : Nat}
/-- what is read so far: how many instructions, their operations, fields, names, wanted names, where those stand -/
abbrev LNS : Type := Nat × (Nat → Nat) × (Nat → Nat → Int) × (Nat → Int) × (Nat → Int) × (Nat → Int)
def rdI (t : Nat → Int) (n : Nat) (T : TK) (z : Int) (s : LNS) : MD × LNS :=
  if wrd t T ≤ 4 then (.inl (1, (T.2.1 : Nat)), s) else if s.1 = 60 then (.inl (2, (T.2.1 : Nat)), s)
  else ((prI t n (wfm (wrd t T)) (.inr (tok t n T.2.2), dfl, 0, 0) (wfm (wrd t T)).length).1,
    (s.1 + 1, va_up s.2.1 s.1 (wrd t T - 5), va_up s.2.2.1 s.1 (prI t n (wfm (wrd t T)) (.inr (tok t n T.2.2), dfl, 0, 0) (wfm (wrd t T)).length).2.1, va_up s.2.2.2.1 s.1 z,
     va_up s.2.2.2.2.1 s.1 (prI t n (wfm (wrd t T)) (.inr (tok t n T.2.2), dfl, 0, 0) (wfm (wrd t T)).length).2.2.1, va_up s.2.2.2.2.2 s.1 (prI t n (wfm (wrd t T)) (.inr (tok t n T.2.2), dfl, 0, 0) (wfm (wrd t T)).length).2.2.2))
/-- the parser's tables and its listing hold what is read so far -/
def PrS (K : Nat → Nat) (I : Nat → Nat → Int32) (R : Nat → Nat → Nat) (L : Nat → Nat → Int64) (N : Nat → Nat) (X : Nat) (bad : Nat → Prop) (a nm wt wp l : Nat) (s : LNS) (Q : Nat → Int) : Prop :=
  Tb K R N a nm wt wp ∧ R a 5 = l ∧ Ls K R N l ∧ Ln K R X bad l ∧ I l 2 = jI (s.1 : Nat) ∧ s.1 ≤ 60 ∧ I (l + 2) = jF Q ∧ Byz Q ∧
  (∀ k, k < s.1 → R (l + 1) k ≠ 0 ∧ R (R (l + 1) k) 0 = s.2.1 k + 5 ∧ s.2.1 k ≤ 24 ∧ ∀ j, 1 ≤ j → j ≤ 10 → I (R (l + 1) k) j = jI (s.2.2.1 k j)) ∧
  (∀ k, k < s.1 → L nm k = jL (s.2.2.2.1 k) ∧ 0 ≤ s.2.2.2.1 k ∧ s.2.2.2.1 k < 282429536481) ∧ (∀ k, k < s.1 → L wt k = jL (s.2.2.2.2.1 k) ∧ (0 ≤ s.2.2.2.2.1 k ∧ s.2.2.2.2.1 k < 282429536481) ∧ s.2.2.1 k 10 = -1 ∧ (s.2.2.2.2.1 k ≠ 0 → I wp k = jI (s.2.2.2.2.2 k)))
/-- what reading changes of the heap -/
def PFr (X : Nat) (K : Nat → Nat) (I : Nat → Nat → Int32) (R : Nat → Nat → Nat) (L : Nat → Nat → Int64) (N : Nat → Nat) (U a nm wt wp l : Nat) (K' : Nat → Nat) (I' : Nat → Nat → Int32) (R' : Nat → Nat → Nat) (L' : Nat → Nat → Int64) (N' : Nat → Nat) (X' U' : Nat) : Prop :=
  (∀ y, y < X → K' y = K y) ∧ (∀ y, y < X → N' y = N y) ∧ (∀ y, y < X → y ≠ nm → y ≠ wt → L' y = L y) ∧ (∀ y, y < X → y ≠ a → y ≠ l + 1 → (∀ s, s < 60 → R (l + 1) s = 0 ∨ y ≠ R (l + 1) s) → R' y = R y) ∧
  (∀ y, y < X → y ≠ a → y ≠ l → y ≠ l + 2 → y ≠ wp → (∀ s, s < 60 → R (l + 1) s = 0 ∨ y ≠ R (l + 1) s) → I' y = I y) ∧ (∀ j, j ≠ 7 → R' a j = R a j) ∧ (∀ j, j < 6 → I' a j = I a j) ∧ X ≤ X' ∧
  (∀ s, s < 60 → R (l + 1) s ≠ 0 → R' (l + 1) s = R (l + 1) s) ∧ (∀ s, s < 60 → R (l + 1) s = 0 → R' (l + 1) s = 0 ∨ X ≤ R' (l + 1) s) ∧ X' + nul6 R' l = X + nul6 R l ∧ U' + 11 * nul6 R' l = U + 11 * nul6 R l ∧ U ≤ U'
theorem PFr_tr {a nm wt wp l X1 X2 U1 U2 : Nat} {K1 K2 : Nat → Nat} {I1 I2 : Nat → Nat → Int32} {R1 R2 : Nat → Nat → Nat} {L1 L2 : Nat → Nat → Int64} {N1 N2 : Nat → Nat} (h : PFr X K I R L N U a nm wt wp l K1 I1 R1 L1 N1 X1 U1) (h' : PFr X1 K1 I1 R1 L1 N1 U1 a nm wt wp l K2 I2 R2 L2 N2 X2 U2) : PFr X K I R L N U a nm wt wp l K2 I2 R2 L2 N2 X2 U2 := by
  obtain ⟨a1, a2, a3, a4, a5, a6, a7, a8, a9, a10, a11, a12, a13⟩ := h
  obtain ⟨b1, b2, b3, b4, b5, b6, b7, b8, b9, b10, b11, b12, b13⟩ := h'
  have sl : ∀ y, y < X → (∀ s, s < 60 → R (l + 1) s = 0 ∨ y ≠ R (l + 1) s) → ∀ s, s < 60 → R1 (l + 1) s = 0 ∨ y ≠ R1 (l + 1) s := fun y hy hs s hs60 => by
    by_cases c : R (l + 1) s = 0
    · rcases a10 s hs60 c with e | e
      · exact Or.inl e
      · exact Or.inr (by omega)
    · rw [a9 s hs60 c]
      exact hs s hs60
  refine ⟨fun y hy => ?_, fun y hy => ?_, fun y hy y1 y2 => ?_, fun y hy y1 y2 y3 => ?_, fun y hy y1 y2 y3 y4 y5 => ?_, fun j hj => ?_, fun j hj => ?_, by omega, fun s hs c => ?_, fun s hs c => ?_, by omega, by omega, by omega⟩
  · rw [b1 y (by omega), a1 y hy]
  · rw [b2 y (by omega), a2 y hy]
  · rw [b3 y (by omega) y1 y2, a3 y hy y1 y2]
  · rw [b4 y (by omega) y1 y2 (sl y hy y3), a4 y hy y1 y2 y3]
  · rw [b5 y (by omega) y1 y2 y3 y4 (sl y hy y5), a5 y hy y1 y2 y3 y4 y5]
  · rw [b6 j hj, a6 j hj]
  · rw [b7 j hj, a7 j hj]
  · have e := a9 s hs c
    rw [b9 s hs (by rw [e]; exact c), e]
  · rcases a10 s hs c with e | e
    · rcases b10 s hs e with e2 | e2
      · exact Or.inl e2
      · exact Or.inr (by omega)
    · by_cases cz : R1 (l + 1) s = 0
      · omega
      · rw [b9 s hs cz]; exact Or.inr e
/-- where all of it lies -/
def PX2 (X a nm wt wp tp l : Nat) : Prop := a < X ∧ nm < X ∧ wt < X ∧ wp < X ∧ tp < X ∧ l + 2 < X ∧ nm ≠ wt ∧ wp ≠ tp ∧ tp ≠ l + 2 ∧ wp ≠ l + 2
/-- reading that only goes on in the text -/
theorem PFr_PF {a nm wt wp l : Nat} {I' : Nat → Nat → Int32} {R' : Nat → Nat → Nat} (hl : Ls K R N l) (ka : K a = 7) (p : PL a l I R I' R') : PFr X K I R L N U a nm wt wp l K I' R' L N X U := by
  have k1 := hl.2.2.2.1
  have e : R' (l + 1) = R (l + 1) := p.2.1 _ (fun q => by rw [q, ka] at k1; omega)
  exact ⟨fun _ _ => rfl, fun _ _ => rfl, fun _ _ _ _ => rfl, fun y _ y1 _ _ => p.2.1 y y1, fun y _ y1 _ y3 _ _ => p.1 y y1 y3, p.2.2.1, p.2.2.2, Nat.le_refl _, fun s _ _ => by rw [e], fun s _ c => Or.inl (by rw [e]; exact c), by unfold nul6; rw [e], by unfold nul6; rw [e], Nat.le_refl _⟩
theorem PrS_PF {bad : Nat → Prop} {a nm wt wp l : Nat} {s : LNS} {Q : Nat → Int} {I' : Nat → Nat → Int32} {R' : Nat → Nat → Nat} (h : PrS K I R L N X bad a nm wt wp l s Q) (p : PF a I R I' R') : PrS K I' R' L N X bad a nm wt wp l s Q := by
  obtain ⟨hb, r5, hl, ⟨hn1, hn2⟩, i2, hm, hI, hQ, hins, hnm, hwt⟩ := h
  have ka := hb.1
  have k3 := hb.2.2.2.2.2.2.2.2.1
  have hl' := PL_Ls hl ka (PL_PF (l := l) p)
  obtain ⟨k6, -, -, k1, -, k2, -⟩ := hl
  have e1 : R' (l + 1) = R (l + 1) := p.2.1 _ (fun q => by rw [q, ka] at k1; omega)
  refine ⟨Tb_fr hb p.2.2.1, by rw [p.2.2.1 5 (by omega)]; exact r5, hl', ⟨fun s hs c => by rw [e1] at c ⊢; exact hn1 s hs c, fun s s' hs hs' hne c => by rw [e1] at c ⊢; exact hn2 s s' hs hs' hne c⟩, by rw [p.1 l (fun q => by rw [q, ka] at k6; omega)]; exact i2, hm, by rw [p.1 (l + 2) (fun q => by rw [q, ka] at k2; omega)]; exact hI, hQ, fun k hk => ?_, hnm, fun k hk => ?_⟩
  · rw [e1]
    obtain ⟨a1, a2, a3, a4⟩ := hins k hk
    have ki := (hn1 k (by omega) a1).1
    have ni : R (l + 1) k ≠ a := fun q => by rw [q, ka] at ki; omega
    exact ⟨a1, by rw [p.2.1 _ ni]; exact a2, a3, fun j j1 j2 => by rw [p.1 _ ni]; exact a4 j j1 j2⟩
  · obtain ⟨b1, b3, b4, b2⟩ := hwt k hk
    exact ⟨b1, b3, b4, fun c => by rw [p.1 wp (fun q => by rw [q, ka] at k3; omega)]; exact b2 c⟩
set_option maxHeartbeats 4000000 in
theorem e_rdI {bad : Nat → Prop} {a nm wt wp tp l n : Nat} {t Q : Nat → Int} {T : TK} {z : Int} {s : LNS} (h : Lv K I R N a tp t n T) (hs : PrS K I R L N X bad a nm wt wp l s Q) (hx : PX2 X a nm wt wp tp l) (z1 : 0 ≤ z) (z2 : z < 282429536481) (h0 : 0 < X) (hK0 : TP Xo Ko K X) (hb : ∀ y, X ≤ y → ¬ bad y) (h1 : X + nul6 R l ≤ C) (h2 : U + 11 * nul6 R l ≤ Z) (hXC : X ≤ C) (hUZ : U ≤ Z) :
    ∃ K' I' R' L' N' X' U', fX8_readInstruction a (jL z) (K, I, R, L, N, (X, U, C, Z)) = some (K', I', R', L', N', (X', U', C, Z)) ∧ Smd K' I' R' N' a tp t n (rdI t n T z s).1 ∧ PrS K' I' R' L' N' X' bad a nm wt wp l (rdI t n T z s).2 Q ∧ PFr X K I R L N U a nm wt wp l K' I' R' L' N' X' U' ∧ X' ≤ C ∧ U' ≤ Z ∧ TP Xo Ko K' X' := by
  have hs0 := hs
  obtain ⟨htb, r5, hl, hn, i2, hm, hI, hQ, hins, hnm, hwt⟩ := hs
  obtain ⟨m, op, f, nms, wv, wq⟩ := s
  have i2 : I l 2 = jI (m : Int) := i2
  have hm : m ≤ 60 := hm
  have ka := htb.1
  have i10 := h.2.2.2.2.2.2.1
  have r7 := h.2.2.2.2.2.2.2.2.1
  have w29 := wrd_r t T
  obtain ⟨k6, q0, q1, k1, n1, k2, n2⟩ := id hl
  obtain ⟨x1, x2, x3, x4, x5, x6, x7, x8, x9, x10⟩ := hx
  obtain ⟨W, hW⟩ : ∃ W, W = wrd t T := ⟨_, rfl⟩
  have es : fX6_size l (K, I, R, L, N, (X, U, C, Z)) = some (jI (m : Int)) := by
    unfold fX6_size
    rw [o_gd _ k6, o_gI k6, o_ob, i2]
  unfold rdI
  rw [← hW] at r7 w29 ⊢
  have c00 : (jI 0 : Int32) = 0 := rfl
  have en0 : ∀ V, 1 ≤ V → V ≤ 29 → wdI V = some (jI (if V ≤ 4 then 0 else 1)) := fun V v1 v2 => by
    have := (wfm_all ⟨V - 1, by omega⟩).2.2.2
    have e : wdI (V - 1 + 1) = some (jI (if V - 1 < 4 then 0 else 1)) := this
    rw [show V - 1 + 1 = V by omega] at e
    rw [e]
    by_cases c : V ≤ 4
    · rw [if_pos c, if_pos (by omega)]
    · rw [if_neg c, if_neg (by omega)]
  by_cases c4 : W ≤ 4
  · rw [if_pos c4]
    obtain ⟨I1, ef, st, pf⟩ := e_fail (L := L) (w := (X, U, C, Z)) (c := 1) h (by omega) (by omega)
    refine ⟨K, I1, R, L, N, X, U, ?_, st, PrS_PF hs0 pf, PFr_PF hl ka (PL_PF pf), hXC, hUZ, hK0⟩
    have e25 : fX8_readInstruction_25 a (K, I, R, L, N, (X, U, C, Z)) = some (K, I1, R, L, N, (X, U, C, Z)) := by
      unfold fX8_readInstruction_25
      rw [show (1 : Int32) = jI 1 from rfl, ef, o_obkt]
    unfold fX8_readInstruction
    rw [o_gd _ ka, o_gI ka, o_ob, i10, if_pos c00, o_gR ka, o_ob, r7]
    by_cases cz : W = 0
    · rw [if_pos cz]; exact e25
    · have e4 := en0 W (by omega) w29
      rw [if_pos c4] at e4
      rw [if_neg cz, o_ob, e4, o_ob, if_pos c00]; exact e25
  rw [if_neg c4]
  have e4 := en0 W (by omega) w29
  rw [if_neg c4] at e4
  have c10 : ¬ ((jI 1 : Int32) = 0) := by decide
  have cz : ¬ (W = 0) := by omega
  by_cases c60 : m = 60
  · rw [if_pos c60]
    obtain ⟨I1, ef, st, pf⟩ := e_fail (L := L) (w := (X, U, C, Z)) (c := 2) h (by omega) (by omega)
    refine ⟨K, I1, R, L, N, X, U, ?_, st, PrS_PF hs0 pf, PFr_PF hl ka (PL_PF pf), hXC, hUZ, hK0⟩
    have e66 : fX8_readInstruction_66 a (K, I, R, L, N, (X, U, C, Z)) = some (K, I1, R, L, N, (X, U, C, Z)) := by
      unfold fX8_readInstruction_66
      rw [show (2 : Int32) = jI 2 from rfl, ef, o_obkt]
    have eo : fX6_opened l W (K, I, R, L, N, (X, U, C, Z)) = some (0, (K, I, R, L, N, (X, U, C, Z))) := by
      have c : ¬ (jI (m : Int) < 60) := by rw [jI_lit, jI_lt (by omega) (by omega) (by omega) (by omega)]; omega
      unfold fX6_opened
      rw [o_gd _ k6, o_gI k6, o_ob, i2, if_neg c]
    have okK : okA (K, I, R, L, N, (X, U, C, Z)) (K, I, R, L, N, (X, U, C, Z)) := okA_tp hK0 h0 (Nat.le_refl _) (Nat.le_refl _) hXC hUZ hK0
    unfold fX8_readInstruction
    rw [o_gd _ ka, o_gI ka, o_ob, i10, if_pos c00, o_gR ka, o_ob, r7, if_neg cz, o_ob, e4, o_ob, if_neg c10, o_gR ka, o_ob, r5, es, o_ob, o_ob, o_ob, eo, o_oba2 okK, if_pos rfl]
    exact e66
  rw [if_neg c60]
  have hm60 : m < 60 := by omega
  obtain ⟨K1, I1, R1, L1, N1, X1, U1, ia, eo, ia0, kia, rl1, ria, fia, il2, hn', oK, oN, oL, oR, oRl, oI, oX, oc1, oc2, oU, oXC, oUZ, oK0, oia⟩ := e_opened (L := L) (U := U) (C := C) (Z := Z) (W := W) hl hn i2 hm60 (by omega) h0 hK0 hb h1 h2 hXC hUZ
  -- the new heap is as the old one where it matters
  have ka1 : K1 a = 7 := by rw [oK a x1]; exact ka
  obtain ⟨-, t0, t1, t2, kn, nn, kw, nw', kp, np⟩ := id htb
  have kn1 : K1 nm = 102 := by rw [oK nm x2]; exact kn
  have kw1 : K1 wt = 102 := by rw [oK wt x3]; exact kw
  have kp1 : K1 wp = 101 := by rw [oK wp x4]; exact kp
  have kl1 : K1 l = 6 := by rw [oK l (by omega)]; exact k6
  have kl11 : K1 (l + 1) = 104 := by rw [oK _ (by omega)]; exact k1
  have kl21 : K1 (l + 2) = 101 := by rw [oK _ (by omega)]; exact k2
  have nia : ia ≠ a := fun q => by rw [q, ka1] at kia; omega
  have nil : ia ≠ l := fun q => by rw [q, kl1] at kia; omega
  have nil2 : ia ≠ l + 2 := fun q => by rw [q, kl21] at kia; omega
  have niwp : ia ≠ wp := fun q => by rw [q, kp1] at kia; omega
  have nla : l ≠ a := fun q => by rw [q, ka] at k6; omega
  have nl1a : l + 1 ≠ a := fun q => by rw [q, ka] at k1; omega
  have nl2a : l + 2 ≠ a := fun q => by rw [q, ka] at k2; omega
  have nwpa : wp ≠ a := fun q => by rw [q, ka] at kp; omega
  have nwpl : wp ≠ l := fun q => by rw [q, k6] at kp; omega
  have Ra1 : R1 a = R a := oR a x1 (Ne.symm nl1a) (Ne.symm nia)
  have Ia1 : I1 a = I a := oI a x1 (Ne.symm nla) (Ne.symm nia)
  have Rl1' : R1 l = R l := oR l (by omega) (by omega) (Ne.symm nil)
  have ntl : tp ≠ l := fun q => by have := h.2.2.2.1.1; rw [q, k6] at this; omega
  have kt1 : K1 tp = 101 := by rw [oK tp x5]; exact h.2.2.2.1.1
  have nit : ia ≠ tp := fun q => by rw [q, kt1] at kia; omega
  have It1 : I1 tp = I tp := oI tp x5 ntl (Ne.symm nit)
  have hL1 : Lv K1 I1 R1 N1 a tp t n T := by
    obtain ⟨-, r3, hat, hxx, i4, hn7, -, hT, -, htok⟩ := h
    refine ⟨ka1, by rw [Ra1]; exact r3, hat, ⟨kt1, by rw [oN tp x5]; exact hxx.2.1, fun j hj => by rw [It1]; exact hxx.2.2 j hj⟩, by rw [Ia1]; exact i4, hn7, by rw [Ia1]; exact i10, by rw [Ia1]; exact hT, by rw [Ra1, r7, hW], htok⟩
  -- names
  obtain ⟨L2, hL2⟩ : ∃ L2, L2 = va_up (va_up L1 nm (va_up (L1 nm) m (jL z))) wt (va_up (L1 wt) m (jL 0)) := ⟨_, rfl⟩
  have L2nm : L2 nm = va_up (L nm) m (jL z) := by rw [hL2, va_up_ne _ _ x7, va_up_self, oL nm x2]
  have L2wt : L2 wt = va_up (L wt) m (jL 0) := by rw [hL2, va_up_self, oL wt x3]
  have hg : Ig K1 I1 R1 N1 a nm wt wp tp l ia m := ⟨⟨ka1, by rw [Ra1]; exact t0, by rw [Ra1]; exact t1, by rw [Ra1]; exact t2, kn1, by rw [oN nm x2]; exact nn, kw1, by rw [oN wt x3]; exact nw', kp1, by rw [oN wp x4]; exact np⟩, by rw [Ra1]; exact r5, kl1, il2, hm60, kia, x8⟩
  obtain ⟨I3, R3, ea, l3, p3⟩ := e_adv (L := L2) (w := (X1, U1, C, Z)) hL1
  have hg3 : Ig K1 I3 R3 N1 a nm wt wp tp l ia m := ⟨Tb_fr hg.1 p3.2.2.1, by rw [p3.2.2.1 5 (by omega)]; exact hg.2.1, kl1, by rw [p3.1 l nla]; exact il2, hm60, kia, x8⟩
  have iv3 : Iv I3 L2 wt wp ia m dfl 0 0 := ⟨fun j j1 j2 => by rw [p3.1 ia nia]; exact fia j j1 j2, by rw [L2wt, va_up_self], fun c => absurd rfl c, ⟨by omega, by omega⟩, rfl⟩
  obtain ⟨I4, R4, L4, ef, p4, st4, iv4⟩ := e_form (w := (X1, U1, C, Z)) hg3 iv3 (m := .inr (tok t n T.2.2)) l3 (show 1 ≤ W by omega) w29
  obtain ⟨ps, hps⟩ : ∃ ps, ps = prI t n (wfm W) (.inr (tok t n T.2.2), dfl, 0, 0) (wfm W).length := ⟨_, rfl⟩
  rw [← hps] at st4 iv4 ⊢
  have p3' : PI2 a wt wp ia m I1 R1 L2 I3 R3 L2 := PI2_PF p3 nwpa
  have pt := PI2_tr p3' p4
  obtain ⟨b1, b2, b3, b4, b5, b6, b7⟩ := pt
  have R4l1 : R4 (l + 1) = R1 (l + 1) := b2 _ nl1a
  have R4l : R4 l = R l := by rw [b2 l nla, Rl1']
  have nwtnm : nm ≠ wt := x7
  have okK : okA (K, I, R, L, N, (X, U, C, Z)) (K1, I1, R1, L1, N1, (X1, U1, C, Z)) := okA_tp hK0 h0 oX oU oXC oUZ oK0
  have slm : ∀ k, k < m → R1 (l + 1) k = R (l + 1) k := fun k hk => oRl k (by omega)
  refine ⟨K1, I4, R4, L4, N1, X1, U1, ?_, st4, ⟨⟨ka1, ?_, ?_, ?_, kn1, by rw [oN nm x2]; exact nn, kw1, by rw [oN wt x3]; exact nw', kp1, by rw [oN wp x4]; exact np⟩, ?_, ⟨kl1, by rw [R4l]; exact q0, by rw [R4l]; exact q1, kl11, by rw [oN _ (by omega)]; exact n1, kl21, by rw [oN _ (by omega)]; exact n2⟩, ⟨fun s hs c => ?_, fun s s' hs hs' hne c => ?_⟩, ?_, ?_, ?_, hQ, fun k hk => ?_, fun k hk => ?_, fun k hk => ?_⟩, ⟨oK, oN, fun y hy y1 y2 => ?_, fun y hy y1 y2 y3 => ?_, fun y hy y1 y2 y3 y4 y5 => ?_, fun j hj => ?_, fun j hj => ?_, oX, fun s hs c => ?_, fun s hs c => ?_, ?_, ?_, oU⟩, oXC, oUZ, oK0⟩
  · rw [← ef]
    have c60' : jI (m : Int) < jI ((60 : Nat) : Int) := by rw [jI_lt (by omega) (by omega) (by omega) (by omega)]; omega
    have t0' : R1 a 0 = nm := by rw [Ra1]; exact t0
    have t1' : R1 a 1 = wt := by rw [Ra1]; exact t1
    have t7' : R1 a 7 = W := by rw [Ra1]; exact r7
    have nn' : N1 nm = 60 := by rw [oN nm x2]; exact nn
    have nw1 : N1 wt = 60 := by rw [oN wt x3]; exact nw'
    have em : ((m : Int)).toNat = m := by omega
    have eq1 : qL nm (jI (m : Int)) (jL z) (K1, I1, R1, L1, N1, (X1, U1, C, Z)) = some (K1, I1, R1, va_up L1 nm (va_up (L1 nm) m (jL z)), N1, (X1, U1, C, Z)) := by rw [o_qL kn1 (by omega) (by omega) (by omega), em]
    have eq2 : qL wt (jI (m : Int)) (jL 0) (K1, I1, R1, va_up L1 nm (va_up (L1 nm) m (jL z)), N1, (X1, U1, C, Z)) = some (K1, I1, R1, L2, N1, (X1, U1, C, Z)) := by rw [o_qL kw1 (by omega) (by omega) (by omega), em, va_up_ne _ _ (Ne.symm nwtnm), hL2]
    have ewf : wdF W = some (wFm.getD (W - 1) 0 + 1) := by
      have := (wfm_all ⟨W - 1, by omega⟩).1
      have e : wdF (W - 1 + 1) = some (wFm.getD (W - 1) 0 + 1) := this
      rw [show W - 1 + 1 = W by omega] at e
      exact e
    unfold fX8_readInstruction
    rw [o_gd _ ka, o_gI ka, o_ob, i10, if_pos c00, o_gR ka, o_ob, r7, if_neg cz, o_ob, e4, o_ob, if_neg c10, o_gR ka, o_ob, r5, es, o_ob, o_ob, o_ob, eo, o_oba2 okK, if_neg ia0, o_gR ka1, o_ob, t0', o_aN kn1, o_ob, nn', if_pos c60', o_ob, eq1, o_ob, o_gR ka1, o_ob, t1', show (0 : Int64) = jL 0 from rfl, eq2, o_ob, o_gR ka1, o_ob, t7', ewf, o_ob, ea, o_obkt]
    rfl
  · rw [b3 0 (by omega), Ra1]; exact t0
  · rw [b3 1 (by omega), Ra1]; exact t1
  · rw [b3 2 (by omega), Ra1]; exact t2
  · rw [b3 5 (by omega), Ra1]; exact r5
  · rw [R4l1] at c ⊢; exact hn'.1 s hs c
  · rw [R4l1] at c ⊢; exact hn'.2 s s' hs hs' hne c
  · show I4 l 2 = jI ((m + 1 : Nat) : Int)
    rw [b1 l nla (Ne.symm nil) (Ne.symm nwpl)]; exact il2
  · show m + 1 ≤ 60; omega
  · rw [b1 (l + 2) nl2a (Ne.symm nil2) (Ne.symm x10), oI (l + 2) (by omega) (by omega) (Ne.symm nil2)]; exact hI
  · have hk : k < m + 1 := hk
    rw [R4l1]
    by_cases ck : k = m
    · subst ck
      rw [rl1]
      refine ⟨ia0, ?_, ?_, fun j j1 j2 => ?_⟩
      · show R4 ia 0 = va_up op k (W - 5) k + 5
        rw [va_up_self, b2 ia nia, ria]; omega
      · show va_up op k (W - 5) k ≤ 24
        rw [va_up_self]; omega
      · show I4 ia j = jI (va_up f k ps.2.1 k j)
        rw [va_up_self]; exact iv4.1 j j1 j2
    · have hkm : k < m := by omega
      obtain ⟨a1, a2, a3, a4⟩ := hins k hkm
      rw [slm k hkm]
      have hki := hn.1 k (by omega) a1
      have nk : R (l + 1) k ≠ a := fun q => by have := hki.1; rw [q, ka] at this; omega
      have nki : R (l + 1) k ≠ ia := by
        rcases oia with ⟨_, e⟩ | ⟨_, e⟩
        · rw [e]
          by_cases cz' : R (l + 1) m = 0
          · rw [cz']; exact a1
          · exact hn.2 k m (by omega) (by omega) ck a1
        · have := hki.2.2; omega
      have nkw : R (l + 1) k ≠ wp := fun q => by have := hki.1; rw [q, kp] at this; omega
      have nkl : R (l + 1) k ≠ l := fun q => by have := hki.1; rw [q, k6] at this; omega
      have nkl1 : R (l + 1) k ≠ l + 1 := fun q => by have := hki.1; rw [q, k1] at this; omega
      refine ⟨a1, ?_, ?_, fun j j1 j2 => ?_⟩
      · show R4 (R (l + 1) k) 0 = va_up op m (W - 5) k + 5
        rw [va_up_ne _ _ ck, b2 _ nk, oR _ hki.2.2 nkl1 nki]; exact a2
      · show va_up op m (W - 5) k ≤ 24
        rw [va_up_ne _ _ ck]; exact a3
      · show I4 (R (l + 1) k) j = jI (va_up f m ps.2.1 k j)
        rw [va_up_ne _ _ ck, b1 _ nk nki nkw, oI _ hki.2.2 nkl nki]; exact a4 j j1 j2
  · have hk : k < m + 1 := hk
    show L4 nm k = jL (va_up nms m z k) ∧ 0 ≤ va_up nms m z k ∧ va_up nms m z k < 282429536481
    rw [b6 nm nwtnm, L2nm]
    by_cases ck : k = m
    · rw [ck, va_up_self, va_up_self]; exact ⟨rfl, z1, z2⟩
    · rw [va_up_ne _ _ ck, va_up_ne _ _ ck]; exact hnm k (by show k < m; omega)
  · have hk : k < m + 1 := hk
    show L4 wt k = jL (va_up wv m ps.2.2.1 k) ∧ (0 ≤ va_up wv m ps.2.2.1 k ∧ va_up wv m ps.2.2.1 k < 282429536481) ∧ va_up f m ps.2.1 k 10 = -1 ∧ (va_up wv m ps.2.2.1 k ≠ 0 → I4 wp k = jI (va_up wq m ps.2.2.2 k))
    by_cases ck : k = m
    · rw [ck, va_up_self, va_up_self, va_up_self]; exact ⟨iv4.2.1, iv4.2.2.2.1, iv4.2.2.2.2, iv4.2.2.1⟩
    · rw [va_up_ne _ _ ck, va_up_ne _ _ ck, va_up_ne _ _ ck, b7 k ck, b5 k ck, L2wt, va_up_ne _ _ ck, oI wp x4 nwpl (Ne.symm niwp)]
      exact hwt k (by show k < m; omega)
  · rw [b6 y y2, hL2, va_up_ne _ _ y2, va_up_ne _ _ y1, oL y hy]
  · have yi : y ≠ ia := by
      rcases oia with ⟨_, e⟩ | ⟨_, e⟩
      · rcases y3 m hm60 with q | q
        · rw [← e] at q; omega
        · rw [e]; exact q
      · omega
    rw [b2 y y1, oR y hy y2 yi]
  · have yi : y ≠ ia := by
      rcases oia with ⟨_, e⟩ | ⟨_, e⟩
      · rcases y5 m hm60 with q | q
        · rw [← e] at q; omega
        · rw [e]; exact q
      · omega
    rw [b1 y y1 yi y4, oI y hy y2 yi]
  · rw [b3 j hj, Ra1]
  · rw [b4 j hj, Ia1]
  · rw [R4l1]
    by_cases cs : s = m
    · rw [cs] at c ⊢
      rw [rl1]
      rcases oia with ⟨_, e⟩ | ⟨e0, _⟩
      · exact e
      · exact absurd e0 c
    · exact oRl s cs
  · rw [R4l1]
    by_cases cs : s = m
    · rw [cs] at c ⊢
      rw [rl1]
      rcases oia with ⟨e0, _⟩ | ⟨_, e⟩
      · exact absurd c e0
      · exact Or.inr e
    · rw [oRl s cs]; exact Or.inl c
  · unfold nul6 at *; rw [R4l1]; exact oc1
  · unfold nul6 at *; rw [R4l1]; exact oc2
end INS
