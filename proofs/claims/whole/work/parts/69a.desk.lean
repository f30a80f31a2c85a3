section DK
/-! THE CLASS'S DESK -/
variable {K : Nat → Nat} {I : Nat → Nat → Int32} {R : Nat → Nat → Nat} {L : Nat → Nat → Int64} {N : Nat → Nat} {w : Nat × Nat × Nat × Nat} {X U C Z : Nat} {Xo Ko : Nat}
/-- the topmost cell: a new one, or as it was -/
def TP (Xo Ko : Nat) (K : Nat → Nat) (X : Nat) : Prop := (Xo < X ∧ K (X - 1) ≠ 0) ∨ (X = Xo ∧ K (Xo - 1) = Ko)
theorem TP_nw {X' : Nat} {K' : Nat → Nat} (h : TP Xo Ko K X) (hX : X < X') (e : K' (X' - 1) ≠ 0) : TP Xo Ko K' X' := Or.inl ⟨by rcases h with ⟨q, -⟩ | ⟨q, -⟩ <;> omega, e⟩
theorem TP_rf (K : Nat → Nat) (X : Nat) : TP X (K (X - 1)) K X := Or.inr ⟨rfl, rfl⟩
theorem o_newO {c n : Nat} (h0 : 0 < X) (h1 : X + 1 ≤ C) (h2 : U + n ≤ Z) : newO c n (K, I, R, L, N, (X, U, C, Z)) = some (X, (va_up K X c, va_up I X (fun _ => 0), va_up R X (fun _ => 0), va_up L X (fun _ => 0), va_up N X 0, (X + 1, U + n, C, Z))) := if_pos ⟨h0, h1, h2⟩
theorem o_newA {c z : Nat} {n : Nat} (hz : z ≤ 8) (hn : n ≤ 1000000) (h0 : 0 < X) (h1 : X + 1 ≤ C) (h2 : U + n ≤ Z) : newA c z (jI (n : Int)) (K, I, R, L, N, (X, U, C, Z)) = some (X, (va_up K X c, va_up I X (fun _ => 0), va_up R X (fun _ => 0), va_up L X (fun _ => 0), va_up N X n, (X + 1, U + n, C, Z))) := by
  have e : (jI (n : Int)).toNatClampNeg = n := by rw [jI_nat (by omega) (by omega)]; omega
  have l0 : ¬ jI (n : Int) < 0 := by rw [jI_lit, jI_lt (by omega) (by omega) (by omega) (by omega)]; omega
  have m : n * z ≤ 536870912 := Nat.le_trans (Nat.mul_le_mul hn hz) (by omega)
  unfold newA
  rw [e, if_pos ⟨h0, l0, m, h1, h2⟩]
  rfl
/-- a new row -/
theorem e_rowinit (h0 : 0 < X) (h1 : X + 2 ≤ C) (h2 : U + 412 ≤ Z) :
    newO 9 1 (K, I, R, L, N, (X, U, C, Z)) = some (X, (va_up K X 9, va_up I X (fun _ => 0), va_up R X (fun _ => 0), va_up L X (fun _ => 0), va_up N X 0, (X + 1, U + 1, C, Z))) ∧
    fX10_init X (va_up K X 9, va_up I X (fun _ => 0), va_up R X (fun _ => 0), va_up L X (fun _ => 0), va_up N X 0, (X + 1, U + 1, C, Z)) =
      some (va_up (va_up K X 9) (X + 1) 101, va_up (va_up I X (fun _ => 0)) (X + 1) (jF (cls emp (fun _ => 0))), va_up (va_up R X (va_up (fun _ => 0) 0 (X + 1))) (X + 1) (fun _ => 0), va_up (va_up L X (fun _ => 0)) (X + 1) (fun _ => 0), va_up (va_up N X 0) (X + 1) 411, (X + 2, U + 412, C, Z)) := by
  refine ⟨o_newO h0 (by omega) (by omega), ?_⟩
  have ea := o_newA (K := va_up K X 9) (I := va_up I X (fun _ => 0)) (R := va_up R X (fun _ => 0)) (L := va_up L X (fun _ => 0)) (N := va_up N X 0) (X := X + 1) (U := U + 1) (C := C) (Z := Z) (c := 101) (z := 4) (n := 411) (by omega) (by omega) (by omega) (by omega) (by omega)
  have ea : newA 101 4 411 (va_up K X 9, va_up I X (fun _ => 0), va_up R X (fun _ => 0), va_up L X (fun _ => 0), va_up N X 0, (X + 1, U + 1, C, Z)) = _ := ea
  have kx : (va_up (va_up K X 9) (X + 1) 101) X = 9 := by rw [va_up_ne _ _ (by omega), va_up_self]
  have hr : Rw (va_up (va_up K X 9) (X + 1) 101) (va_up (va_up R X (va_up (fun _ => 0) 0 (X + 1))) (X + 1) (fun _ => 0)) (va_up (va_up N X 0) (X + 1) 411) X := by
    refine ⟨kx, ?_, va_up_self _ _ _, va_up_self _ _ _⟩
    rw [va_up_ne _ _ (by omega), va_up_self, va_up_self]
  have ec := e_clear (I := va_up (va_up I X (fun _ => 0)) (X + 1) (fun _ => 0)) (L := va_up (va_up L X (fun _ => 0)) (X + 1) (fun _ => 0)) (w := (X + 2, U + 412, C, Z)) hr (fun j _ => by rw [va_up_self]; rfl)
  rw [upup] at ec
  unfold fX10_init
  rw [o_gd _ (va_up_self _ _ _), ea, o_ob2, o_pR kx, o_ob]
  have er : va_up (va_up (va_up R X (fun _ => 0)) (X + 1) (fun _ => 0)) X (va_up ((va_up (va_up R X (fun _ => 0)) (X + 1) (fun _ => 0)) X) 0 (X + 1)) = va_up (va_up R X (va_up (fun _ => 0) 0 (X + 1))) (X + 1) (fun _ => 0) := by
    rw [va_up_ne _ _ (show X ≠ X + 1 by omega), va_up_self, ← up_sw (va_up R X (fun _ => 0)) _ _ (show X ≠ X + 1 by omega), upup]
  rw [er]
  have ec : fX10_clear X (va_up (va_up K X 9) (X + 1) 101, va_up (va_up I X (fun _ => 0)) (X + 1) (fun _ => 0), va_up (va_up R X (va_up (fun _ => 0) 0 (X + 1))) (X + 1) (fun _ => 0), va_up (va_up L X (fun _ => 0)) (X + 1) (fun _ => 0), va_up (va_up N X 0) (X + 1) 411, (X + 1 + 1, U + 1 + 411, C, Z)) = _ := ec
  rw [ec, o_obkt]
/-- the rows that a desk keeps; nothing of them lies where it may not -/
def Dk (K : Nat → Nat) (I : Nat → Nat → Int32) (R : Nat → Nat → Nat) (N : Nat → Nat) (X : Nat) (bad : Nat → Prop) (d ar o k : Nat) (A : Nat → Nat → Int) : Prop :=
  (K d = 2 ∧ R d 1 = ar ∧ K ar = 103 ∧ N ar = 40 ∧ I d 2 = jI (o : Int) ∧ I d 3 = jI (k : Int) ∧ o < 40 ∧ k ≤ 40) ∧
  (∀ s, s < 40 → R ar s ≠ 0 → Rw K R N (R ar s) ∧ Zr I (R ar s) ∧ ¬ bad (R ar s) ∧ ¬ bad (R ar s + 1) ∧ R ar s + 1 < X) ∧
  (∀ s s', s < 40 → s' < 40 → s ≠ s' → R ar s ≠ 0 → R ar s ≠ R ar s') ∧
  (∀ i, i < k → R ar ((o + i) % 40) ≠ 0 ∧ ∃ g, I (R ar ((o + i) % 40) + 1) = jF (cls (A i) g))
/-- what a call leaves as it was: all below X but so many -/
def Fr (X : Nat) (K : Nat → Nat) (R : Nat → Nat → Nat) (L : Nat → Nat → Int64) (N : Nat → Nat) (ar s : Nat) (K' : Nat → Nat) (R' : Nat → Nat → Nat) (L' : Nat → Nat → Int64) (N' : Nat → Nat) : Prop :=
  (∀ y, y < X → K' y = K y) ∧ (∀ y, y < X → N' y = N y) ∧ (∀ y, y < X → L' y = L y) ∧ (∀ y, y < X → y ≠ ar → R' y = R y) ∧ (∀ j, j ≠ s → R' ar j = R ar j)
theorem e_dkeep {bad : Nat → Prop} {d ar o k q idx : Nat} {A : Nat → Nat → Int} {v gv : Nat → Int} (h : Dk K I R N X bad d ar o k A) (hq : Rw K R N q) (hqX : q + 1 < X) (hqI : I (q + 1) = jF (cls v gv)) (hqs : q ≠ R ar (idx % 40)) (hid : idx < 1000) (hdX : d < X) (haX : ar < X) (h0 : 0 < X) (hK0 : TP Xo Ko K X) (h1 : R ar (idx % 40) = 0 → X + 2 ≤ C) (h2 : R ar (idx % 40) = 0 → U + 412 ≤ Z) (hXC : X ≤ C) (hUZ : U ≤ Z) :
    ∃ K' I' R' L' N' X' U' a, fX2_keep d (jI (idx : Int)) q (K, I, R, L, N, (X, U, C, Z)) = some (K', I', R', L', N', (X', U', C, Z)) ∧ R' ar (idx % 40) = a ∧ a ≠ 0 ∧ Rw K' R' N' a ∧ I' (a + 1) = jF (cls v gv) ∧ Fr X K R L N ar (idx % 40) K' R' L' N' ∧ (∀ y, y < X → y ≠ a + 1 → I' y = I y) ∧ TP Xo Ko K' X' ∧ X' ≤ C ∧ U' ≤ Z ∧
      ((R ar (idx % 40) ≠ 0 ∧ a = R ar (idx % 40) ∧ X' = X ∧ U' = U) ∨ (R ar (idx % 40) = 0 ∧ a = X ∧ X' = X + 2 ∧ U' = U + 412)) := by
  obtain ⟨⟨k2, r1, k103, n40, i2, i3, ho, hk⟩, hrow, hinj, hact⟩ := h
  obtain ⟨s, hs⟩ : ∃ s, s = idx % 40 := ⟨_, rfl⟩
  have hs40 : s < 40 := by omega
  rw [← hs] at hqs h1 h2 ⊢
  have er : irm (jI (idx : Int)) (jI 40) = jI (s : Int) := by rw [jI_rem (by omega) (by omega) (by omega) (by omega)]; congr 1; omega
  have es : ((s : Int)).toNat = s := by omega
  have kq : K q = 9 := hq.1
  have ned : d ≠ ar := fun e => by rw [e, k103] at k2; omega
  by_cases c : R ar s = 0
  · obtain ⟨en, ei⟩ := e_rowinit (K := K) (I := I) (R := R) (L := L) (N := N) (U := U) h0 (h1 c) (h2 c)
    obtain ⟨K2, hK2⟩ : ∃ K2, K2 = va_up (va_up K X 9) (X + 1) 101 := ⟨_, rfl⟩
    obtain ⟨I2, hI2⟩ : ∃ I2, I2 = va_up (va_up I X (fun _ => 0)) (X + 1) (jF (cls emp (fun _ => 0))) := ⟨_, rfl⟩
    obtain ⟨R2, hR2⟩ : ∃ R2, R2 = va_up (va_up R X (va_up (fun _ => 0) 0 (X + 1))) (X + 1) (fun _ => 0) := ⟨_, rfl⟩
    obtain ⟨L2, hL2⟩ : ∃ L2, L2 = va_up (va_up L X (fun _ => 0)) (X + 1) (fun _ => 0) := ⟨_, rfl⟩
    obtain ⟨N2, hN2⟩ : ∃ N2, N2 = va_up (va_up N X 0) (X + 1) 411 := ⟨_, rfl⟩
    rw [← hK2, ← hI2, ← hR2, ← hL2, ← hN2] at ei
    have K2n : ∀ y, y < X → K2 y = K y := fun y hy => by rw [hK2, va_up_ne _ _ (by omega), va_up_ne _ _ (by omega)]
    have I2n : ∀ y, y < X → I2 y = I y := fun y hy => by rw [hI2, va_up_ne _ _ (by omega), va_up_ne _ _ (by omega)]
    have R2n : ∀ y, y < X → R2 y = R y := fun y hy => by rw [hR2, va_up_ne _ _ (by omega), va_up_ne _ _ (by omega)]
    have L2n : ∀ y, y < X → L2 y = L y := fun y hy => by rw [hL2, va_up_ne _ _ (by omega), va_up_ne _ _ (by omega)]
    have N2n : ∀ y, y < X → N2 y = N y := fun y hy => by rw [hN2, va_up_ne _ _ (by omega), va_up_ne _ _ (by omega)]
    have K2X : K2 X = 9 := by rw [hK2, va_up_ne _ _ (by omega), va_up_self]
    have K2X1 : K2 (X + 1) = 101 := by rw [hK2, va_up_self]
    have N2X1 : N2 (X + 1) = 411 := by rw [hN2, va_up_self]
    have R2X : R2 X 0 = X + 1 := by rw [hR2, va_up_ne _ _ (by omega), va_up_self, va_up_self]
    have I2X1 : I2 (X + 1) = jF (cls emp (fun _ => 0)) := by rw [hI2, va_up_self]
    have okI : okA (va_up K X 9, va_up I X (fun _ => 0), va_up R X (fun _ => 0), va_up L X (fun _ => 0), va_up N X 0, (X + 1, U + 1, C, Z)) (K2, I2, R2, L2, N2, (X + 2, U + 412, C, Z)) := by
      have h1c := h1 c
      have h2c := h2 c
      refine ⟨by show X + 1 ≤ X + 2; omega, by show U + 1 ≤ U + 412; omega, h1c, h2c, rfl, rfl, Or.inr ⟨by show 0 < X + 2; omega, ?_⟩⟩
      show K2 (X + 2 - 1) ≠ 0
      rw [show X + 2 - 1 = X + 1 by omega, K2X1]; decide
    clear hK2 hI2 hR2 hL2 hN2
    obtain ⟨R3, hR3⟩ : ∃ R3, R3 = va_up R2 ar (va_up (R2 ar) s X) := ⟨_, rfl⟩
    have k103' : K2 ar = 103 := by rw [K2n ar haX]; exact k103
    have k2' : K2 d = 2 := by rw [K2n d hdX]; exact k2
    have R2d1 : R2 d 1 = ar := by rw [R2n d hdX]; exact r1
    have R3d1 : R3 d 1 = ar := by rw [hR3, va_up_ne _ _ ned]; exact R2d1
    have R3s : R3 ar s = X := by rw [hR3, va_up_self, va_up_self]
    have R3n : ∀ y, y ≠ ar → R3 y = R2 y := fun y hy => by rw [hR3, va_up_ne _ _ hy]
    have hrX : Rw K2 R3 N2 X := ⟨K2X, by rw [R3n X (by omega)]; exact R2X, K2X1, N2X1⟩
    have hrq : Rw K2 R3 N2 q := ⟨by rw [K2n q (by omega)]; exact hq.1, by rw [R3n q (fun e => by rw [e, k103] at kq; omega), R2n q (by omega)]; exact hq.2.1, by rw [K2n _ hqX]; exact hq.2.2.1, by rw [N2n _ hqX]; exact hq.2.2.2⟩
    have eb := e_cpR (L := L2) (w := (X + 2, U + 412, C, Z)) hrX hrq (by rw [I2n _ hqX]; exact hqI) (Zr_of I2X1)
    have n40' : N2 ar = 40 := by rw [N2n ar haX]; exact n40
    refine ⟨K2, va_up I2 (X + 1) (jF (cls v gv)), R3, L2, N2, X + 2, U + 412, X, ?_, R3s, by omega, hrX, va_up_self _ _ _, ⟨K2n, N2n, L2n, fun y hy hya => by rw [R3n y hya, R2n y hy], fun j hj => by rw [hR3, va_up_self, va_up_ne _ _ hj, R2n ar haX]⟩, fun y hy hy1 => by rw [va_up_ne _ _ hy1, I2n y hy], TP_nw hK0 (by omega) (by rw [show X + 2 - 1 = X + 1 by omega, K2X1]; decide), h1 c, h2 c, Or.inr ⟨c, rfl, rfl, rfl⟩⟩
    have e32 : fX2_keep_32 d q (jI (s : Int)) (K2, I2, R3, L2, N2, (X + 2, U + 412, C, Z)) = some (K2, va_up I2 (X + 1) (jF (cls v gv)), R3, L2, N2, (X + 2, U + 412, C, Z)) := by
      unfold fX2_keep_32
      rw [o_gR k2', o_ob, R3d1, o_aR k103' (by omega) (by omega) (by omega), o_ob, es, R3s, eb, o_obkt]
    unfold fX2_keep
    rw [o_gd _ k2, o_lt, show (40 : Int32) = jI 40 from rfl, er]
    have c0 : (0 : Int32) ≤ jI (s : Int) := by rw [jI_lit, jI_le (by omega) (by omega) (by omega) (by omega)]; omega
    rw [if_pos c0, o_gR k2, o_ob, r1, o_aR k103 (by omega) (by omega) (by omega), o_ob, es, if_pos c, o_ob, en, o_ob2, ei, o_oba okI, o_qR k103' K2X (by omega) (by omega) (by omega), o_ob, es, ← hR3]
    exact e32
  · have hrs := (hrow s hs40 c).1
    have hzs := (hrow s hs40 c).2.1
    have eb := e_cpR (L := L) (w := (X, U, C, Z)) hrs hq hqI hzs
    refine ⟨K, va_up I (R ar s + 1) (jF (cls v gv)), R, L, N, X, U, R ar s, ?_, rfl, c, hrs, va_up_self _ _ _, ⟨fun _ _ => rfl, fun _ _ => rfl, fun _ _ => rfl, fun _ _ _ => rfl, fun _ _ => rfl⟩, fun y _ hy1 => va_up_ne _ _ hy1, hK0, hXC, hUZ, Or.inl ⟨c, rfl, rfl, rfl⟩⟩
    have e32 : fX2_keep_32 d q (jI (s : Int)) (K, I, R, L, N, (X, U, C, Z)) = some (K, va_up I (R ar s + 1) (jF (cls v gv)), R, L, N, (X, U, C, Z)) := by
      unfold fX2_keep_32
      rw [o_gR k2, o_ob, r1, o_aR k103 (by omega) (by omega) (by omega), o_ob, es, eb, o_obkt]
    unfold fX2_keep
    have c0 : (0 : Int32) ≤ jI (s : Int) := by rw [jI_lit, jI_le (by omega) (by omega) (by omega) (by omega)]; omega
    rw [o_gd _ k2, o_lt, show (40 : Int32) = jI 40 from rfl, er, if_pos c0, o_gR k2, o_ob, r1, o_aR k103 (by omega) (by omega) (by omega), o_ob, es, if_neg c]
    exact e32
end DK
