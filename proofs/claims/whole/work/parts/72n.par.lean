section PAR
variable {K : Nat → Nat} {I : Nat → Nat → Int32} {R : Nat → Nat → Nat} {L : Nat → Nat → Int64} {N : Nat → Nat} {w : Nat × Nat × Nat × Nat} {X U C Z : Nat} {Xo Ko : Nat}
def s00 : LNS := (0, fun _ => 0, fun _ _ => 0, fun _ => 0, fun _ => 0, fun _ => 0)
/-- a text: its first fault, or what it tells -/
def par (t : Nat → Int) (n : Nat) : (Int × Int) ⊕ (LNS × (Nat → Int)) := match prsL t n (n + 1) (tok t n 0) s00 (fun _ => 0) with
  | (.inl x, _, _) => .inl x
  | (.inr _, s, Q) => if fnd (bdq s) 0 s.1 = -1 then .inr (s, Q) else .inl (3, s.2.2.2.2.2 (fnd (bdq s) 0 s.1).toNat)
/-- a listing holds a program that was read -/
def Pg (K : Nat → Nat) (I : Nat → Nat → Int32) (R : Nat → Nat → Nat) (l : Nat) (s : LNS) (Q : Nat → Int) : Prop :=
  I l 2 = jI (s.1 : Nat) ∧ s.1 ≤ 60 ∧ I (l + 2) = jF Q ∧ Byz Q ∧ (∀ k, k < s.1 → R (l + 1) k ≠ 0 ∧ R (R (l + 1) k) 0 = s.2.1 k + 5 ∧ s.2.1 k ≤ 24 ∧ (∀ j, 1 ≤ j → j ≤ 9 → I (R (l + 1) k) j = jI (s.2.2.1 k j)) ∧ I (R (l + 1) k) 10 = jI (tgt s k))
/-- what is always so behind a parse -/
def PaI (K : Nat → Nat) (I : Nat → Nat → Int32) (R : Nat → Nat → Nat) (N : Nat → Nat) (X : Nat) (bad : Nat → Prop) (a nm wt wp l : Nat) : Prop :=
  Tb K R N a nm wt wp ∧ R a 5 = l ∧ Ls K R N l ∧ Ln K R X bad l ∧ ∀ j, 256 ≤ j → I (l + 2) j = jI 0
/-- what a parse changes -/
def PFs (X : Nat) (K : Nat → Nat) (I : Nat → Nat → Int32) (R : Nat → Nat → Nat) (L : Nat → Nat → Int64) (N : Nat → Nat) (U a nm wt wp l : Nat) (K' : Nat → Nat) (I' : Nat → Nat → Int32) (R' : Nat → Nat → Nat) (L' : Nat → Nat → Int64) (N' : Nat → Nat) (X' U' : Nat) : Prop :=
  (∀ y, y < X → K' y = K y) ∧ (∀ y, y < X → N' y = N y) ∧ (∀ y, y < X → y ≠ nm → y ≠ wt → L' y = L y) ∧ (∀ y, y < X → y ≠ a → y ≠ l + 1 → (∀ s, s < 60 → R (l + 1) s = 0 ∨ y ≠ R (l + 1) s) → R' y = R y) ∧
  (∀ y, y < X → y ≠ a → y ≠ l → y ≠ l + 2 → y ≠ wp → (∀ s, s < 60 → R (l + 1) s = 0 ∨ y ≠ R (l + 1) s) → I' y = I y) ∧ X ≤ X' ∧
  (∀ s, s < 60 → R (l + 1) s ≠ 0 → R' (l + 1) s = R (l + 1) s) ∧ (∀ s, s < 60 → R (l + 1) s = 0 → R' (l + 1) s = 0 ∨ X ≤ R' (l + 1) s) ∧ X' + nul6 R' l = X + nul6 R l ∧ U' + 11 * nul6 R' l = U + 11 * nul6 R l ∧ U ≤ U'
theorem PFs_of {a nm wt wp l X' U' : Nat} {K' : Nat → Nat} {I' : Nat → Nat → Int32} {R' : Nat → Nat → Nat} {L' : Nat → Nat → Int64} {N' : Nat → Nat} (h : PFr X K I R L N U a nm wt wp l K' I' R' L' N' X' U') : PFs X K I R L N U a nm wt wp l K' I' R' L' N' X' U' := by
  obtain ⟨a1, a2, a3, a4, a5, a6, a7, a8, a9, a10, a11, a12, a13⟩ := h
  exact ⟨a1, a2, a3, a4, a5, a8, a9, a10, a11, a12, a13⟩
/-- what comes of a parse -/
def PaO (Xo Ko X : Nat) (K : Nat → Nat) (I : Nat → Nat → Int32) (R : Nat → Nat → Nat) (L : Nat → Nat → Int64) (N : Nat → Nat) (U C Z : Nat) (bad : Nat → Prop) (a nm wt wp l : Nat) (t : Nat → Int) (n : Nat) (res : Option (Int32 × Hp)) : Prop :=
  ∃ kd K' I' R' L' N' X' U', res = some (jI kd, (K', I', R', L', N', (X', U', C, Z))) ∧ PaI K' I' R' N' X' bad a nm wt wp l ∧ PFs X K I R L N U a nm wt wp l K' I' R' L' N' X' U' ∧ X' ≤ C ∧ U' ≤ Z ∧ TP Xo Ko K' X' ∧
    (∀ c pl, par t n = .inl (c, pl) → kd = c ∧ 1 ≤ c ∧ c ≤ 4 ∧ I' a 11 = jI pl) ∧ (∀ s Q, par t n = .inr (s, Q) → kd = 0 ∧ Pg K' I' R' l s Q)
theorem e_p81 {bad : Nat → Prop} {a nm wt wp tp l n X' U' : Nat} {t Q : Nat → Int} {m : MD} {s : LNS} {K' : Nat → Nat} {I' : Nat → Nat → Int32} {R' : Nat → Nat → Nat} {L' : Nat → Nat → Int64} {N' : Nat → Nat} (hx : PX2 X a nm wt wp tp l) (st : Smd K' I' R' N' a tp t n m) (hs : PrS K' I' R' L' N' X' bad a nm wt wp l s Q) (hF : PFr X K I R L N U a nm wt wp l K' I' R' L' N' X' U') (hn : Ln K R X bad l) (c1 : X' ≤ C) (c2 : U' ≤ Z) (c3 : TP Xo Ko K' X') (htot : prsL t n (n + 1) (tok t n 0) s00 (fun _ => 0) = (m, s, Q)) :
    PaO Xo Ko X K I R L N U C Z bad a nm wt wp l t n (fX8_parse_81 a (K', I', R', L', N', (X', U', C, Z))) := by
  have epar : par t n = match ((m, s, Q) : MD × LNS × (Nat → Int)) with
    | (.inl x, _, _) => .inl x
    | (.inr _, s, Q) => if fnd (bdq s) 0 s.1 = -1 then .inr (s, Q) else .inl (3, s.2.2.2.2.2 (fnd (bdq s) 0 s.1).toNat) := by unfold par; rw [htot]
  obtain ⟨htb, r5, hl, hn', i2, hm, hI, hQ, hins, hnm, hwt⟩ := id hs
  have ka := htb.1
  cases m with
  | inl x =>
    obtain ⟨kd, pl⟩ := x
    obtain ⟨-, i10, k1, k2, i11⟩ := st
    have epar : par t n = .inl (kd, pl) := epar
    refine ⟨kd, K', I', R', L', N', X', U', ?_, ⟨htb, r5, hl, hn', fun j hj => by rw [hI, jF_at, hQ.2 j hj]⟩, PFs_of hF, c1, c2, c3, fun c p e => ?_, fun s Q e => ?_⟩
    · have c0 : ¬ (jI kd = 0) := by rw [jI_lit, jI_eq (by omega) (by omega) (by omega) (by omega)]; omega
      unfold fX8_parse_81
      rw [o_gI ka, o_ob, i10, if_neg c0, o_ob]
    · rw [epar] at e; cases e; exact ⟨rfl, k1, k2, i11⟩
    · rw [epar] at e; cases e
  | inr T =>
    have i10 : I' a 10 = jI 0 := st.2.2.2.2.2.2.1
    have epar : par t n = if fnd (bdq s) 0 s.1 = -1 then .inr (s, Q) else .inl (3, s.2.2.2.2.2 (fnd (bdq s) 0 s.1).toNat) := epar
    obtain ⟨J, eb, b1, b2, b3, b4⟩ := e_bind (w := (X', U', C, Z)) hs i10
    obtain ⟨kd, hkd⟩ : ∃ kd : Int, J a 10 = jI kd ∧ kd = (if fnd (bdq s) 0 s.1 = -1 then 0 else 3) := by
      by_cases q : fnd (bdq s) 0 s.1 = -1
      · exact ⟨0, (b1 q).2, by rw [if_pos q]⟩
      · exact ⟨3, (b2 q).1, by rw [if_neg q]⟩
    have nsl : ∀ y, y < X → (∀ s', s' < 60 → R (l + 1) s' = 0 ∨ y ≠ R (l + 1) s') → ∀ k, k < s.1 → y ≠ R' (l + 1) k := fun y hy hy2 k hk e => by
      have hk60 : k < 60 := by omega
      by_cases c : R (l + 1) k = 0
      · rcases hF.2.2.2.2.2.2.2.2.2.1 k hk60 c with q | q
        · exact (hins k hk).1 q
        · omega
      · rw [hF.2.2.2.2.2.2.2.2.1 k hk60 c] at e
        rcases hy2 k hk60 with q | q
        · exact c q
        · exact q e
    have kp := htb.2.2.2.2.2.2.2.2.1
    have sl5 : ∀ k, k < s.1 → K' (R' (l + 1) k) = 5 := fun k hk => (hn'.1 k (by omega) (hins k hk).1).1
    have Jl : J l = I' l := b3 l (fun q => by have := hl.1; rw [q, ka] at this; omega) (fun k hk q => by have := sl5 k hk; rw [← q, hl.1] at this; omega)
    have Jl2 : J (l + 2) = I' (l + 2) := b3 (l + 2) (fun q => by have := hl.2.2.2.2.2.1; rw [q, ka] at this; omega) (fun k hk q => by have := sl5 k hk; rw [← q, hl.2.2.2.2.2.1] at this; omega)
    refine ⟨kd, K', J, R', L', N', X', U', ?_, ⟨htb, r5, hl, hn', fun j hj => by rw [Jl2, hI, jF_at, hQ.2 j hj]⟩, ?_, c1, c2, c3, fun c p e => ?_, fun s' Q' e => ?_⟩
    · have c00 : (jI 0 : Int32) = 0 := rfl
      unfold fX8_parse_81
      rw [o_gI ka, o_ob, i10, if_pos c00, eb, o_obkt, o_gI ka, o_ob, hkd.1]
    · obtain ⟨a1, a2, a3, a4, a5, a6, a7, a8, a9, a10, a11, a12, a13⟩ := hF
      exact ⟨a1, a2, a3, a4, fun y hy y1 y2 y3 y4 y5 => by rw [b3 y y1 (nsl y hy y5)]; exact a5 y hy y1 y2 y3 y4 y5, a8, a9, a10, a11, a12, a13⟩
    · rw [epar] at e
      by_cases q : fnd (bdq s) 0 s.1 = -1
      · rw [if_pos q] at e; cases e
      · rw [if_neg q] at e
        cases e
        rw [if_neg q] at hkd
        exact ⟨hkd.2, by omega, by omega, (b2 q).2⟩
    · rw [epar] at e
      by_cases q : fnd (bdq s) 0 s.1 = -1
      · rw [if_pos q] at e
        cases e
        rw [if_pos q] at hkd
        obtain ⟨g1, g2, g3, g4, g5⟩ := (b1 q).1
        refine ⟨hkd.2, by rw [Jl]; exact i2, hm, by rw [Jl2]; exact hI, hQ, fun k hk => ?_⟩
        obtain ⟨h1, h2, h3, h4⟩ := hins k hk
        exact ⟨h1, h2, h3, fun j j1 j2 => by rw [g3 k hk j (by omega)]; exact h4 j j1 (by omega), g4 k hk hk⟩
      · rw [if_neg q] at e; cases e
/-- a listing is cleared -/
theorem e_lclear {l : Nat} (hl : Ls K R N l) (hz : ∀ j, 256 ≤ j → I (l + 2) j = jI 0) : fX6_clear l (K, I, R, L, N, w) = some (K, va_up (va_up I l (va_up (I l) 2 (jI 0))) (l + 2) (jF (fun _ => 0)), R, L, N, w) := by
  obtain ⟨k6, r0, r1, k1, n1, k2, n2⟩ := hl
  obtain ⟨I1, hI1⟩ : ∃ I1, I1 = va_up I l (va_up (I l) 2 (jI 0)) := ⟨_, rfl⟩
  have I1l : I1 (l + 2) = I (l + 2) := by rw [hI1, va_up_ne _ _ (by omega)]
  rw [← hI1]
  have fin : (fun j => if 0 ≤ j ∧ j < 0 + 256 then jI 0 else I1 (l + 2) j) = jF (fun _ => 0) := by
    funext j
    by_cases c : j < 256
    · rw [if_pos (by omega)]; rfl
    · rw [if_neg (by omega), I1l, hz j (by omega)]; rfl
  have key := lp_up (z := fun _ _ _ => none) (S := fX6_clear_7) (β := Hp) (fun k i => k l (jI ((0 + i : Nat) : Int)) (K, va_up I1 (l + 2) (fun j => if 0 ≤ j ∧ j < 0 + i then jI 0 else I1 (l + 2) j), R, L, N, w)) (E := some (K, va_up I1 (l + 2) (jF (fun _ => 0)), R, L, N, w)) (M := 256) ?_ ?_ FU 0 (by omega) (FU_lt (by omega))
  · have z0 : (fun j => if 0 ≤ j ∧ j < 0 + 0 then jI 0 else I1 (l + 2) j) = I1 (l + 2) := rg_0 (fun _ => jI 0) _ _
    rw [z0, up_id] at key
    rw [← key, hI1]
    clear fin key I1l hz hI1
    unfold fX6_clear
    ((repeat (first | (with_reducible apply q_gd; · (first | assumption | omega)) | (with_reducible apply q_ob; · (first | with_reducible rfl | ((simp (disch := omega) only [jI_lit, jI_neg, jI_add, jI_sub, jI_mul, o_gI, o_gR, o_pI, o_pZ0, o_pZ1, o_pZb, o_pR, o_aI, o_qI, o_aN, tn, va_up_self, va_up_ne, upup, jI_shr1, jI_shr4, jI_shr0, jI_and1, jI_and15, jI_join, jI_240, jI_hi, jF_at, jF_up, jI_max, jI_min, b2_t, b2_f, Bool.not_true, Bool.not_false, eq_self, true_or, or_true]) <;> with_reducible rfl))) | (with_reducible apply q_ob2; · (first | with_reducible rfl | ((simp (disch := omega) only [jI_lit, jI_neg, jI_add, jI_sub, jI_mul, o_gI, o_gR, o_pI, o_pZ0, o_pZ1, o_pZb, o_pR, o_aI, o_qI, o_aN, tn, va_up_self, va_up_ne, upup, jI_shr1, jI_shr4, jI_shr0, jI_and1, jI_and15, jI_join, jI_240, jI_hi, jF_at, jF_up, jI_max, jI_min, b2_t, b2_f, Bool.not_true, Bool.not_false, eq_self, true_or, or_true]) <;> with_reducible rfl))) | (with_reducible apply q_lt; · (first | with_reducible rfl | ((simp (disch := omega) only [jI_lit, jI_neg, jI_add, jI_sub, jI_mul, o_gI, o_gR, o_pI, o_pZ0, o_pZ1, o_pZb, o_pR, o_aI, o_qI, o_aN, tn, va_up_self, va_up_ne, upup, jI_shr1, jI_shr4, jI_shr0, jI_and1, jI_and15, jI_join, jI_240, jI_hi, jF_at, jF_up, jI_max, jI_min, b2_t, b2_f, Bool.not_true, Bool.not_false, eq_self, true_or, or_true]) <;> with_reducible rfl))) | (with_reducible apply q_ifp; · (first | ((simp (disch := omega) only [jI_lit, jI_neg, jI_add, jI_sub, jI_mul, jI_lt, jI_le, jI_eq, va_up_self, va_up_ne, jI_shr1, jI_shr4, jI_shr0, jI_and1, jI_and15, jF_at, tn, b2_t, b2_f, cmp_ge, cmp_gt, cmp_le, cmp_lt, cmp_eq, jL_lit, jL_lt, jL_le, jL_eq]) <;> omega) | omega)) | (with_reducible apply q_ifn; · (first | ((simp (disch := omega) only [jI_lit, jI_neg, jI_add, jI_sub, jI_mul, jI_lt, jI_le, jI_eq, va_up_self, va_up_ne, jI_shr1, jI_shr4, jI_shr0, jI_and1, jI_and15, jF_at, tn, b2_t, b2_f, cmp_ge, cmp_gt, cmp_le, cmp_lt, cmp_eq, jL_lit, jL_lt, jL_le, jL_eq]) <;> omega) | omega)) | (with_reducible apply q_obk; · (first | with_reducible rfl | ((simp (disch := omega) only [jI_lit, jI_neg, jI_add, jI_sub, jI_mul, o_gI, o_gR, o_pI, o_pZ0, o_pZ1, o_pZb, o_pR, o_aI, o_qI, o_aN, tn, va_up_self, va_up_ne, upup, jI_shr1, jI_shr4, jI_shr0, jI_and1, jI_and15, jI_join, jI_240, jI_hi, jF_at, jF_up, jI_max, jI_min, b2_t, b2_f, Bool.not_true, Bool.not_false, eq_self, true_or, or_true]) <;> with_reducible rfl))) | (with_reducible apply q_nz; · (first | ((simp (disch := omega) only [jI_lit, jI_neg, jI_add, jI_sub, jI_mul, jI_lt, jI_le, jI_eq, va_up_self, va_up_ne, jI_shr1, jI_shr4, jI_shr0, jI_and1, jI_and15, jF_at, tn, b2_t, b2_f, cmp_ge, cmp_gt, cmp_le, cmp_lt, cmp_eq, jL_lit, jL_lt, jL_le, jL_eq]) <;> omega) | omega)) | (with_reducible apply q_rz; · (first | exact b2_01 _ | decide)))) <;> (first | with_reducible rfl | ((simp (disch := omega) only [jI_lit, jI_neg, jI_add, jI_sub, jI_mul, o_gI, o_gR, o_pI, o_pZ0, o_pZ1, o_pZb, o_pR, o_aI, o_qI, o_aN, tn, va_up_self, va_up_ne, upup, jI_shr1, jI_shr4, jI_shr0, jI_and1, jI_and15, jI_join, jI_240, jI_hi, jF_at, jF_up, jI_max, jI_min, b2_t, b2_f, Bool.not_true, Bool.not_false, eq_self, true_or, or_true]) <;> with_reducible rfl) | rfl))
  · intro i hi k'
    have e1 : (((0 + i : Nat) : Int)).toNat = 0 + i := by omega
    have e2 : ((0 + i : Nat) : Int) + 1 = ((0 + (i + 1) : Nat) : Int) := by omega
    have eu : va_up (fun j => if 0 ≤ j ∧ j < 0 + i then jI 0 else I1 (l + 2) j) (0 + i) (jI 0) = fun j => if 0 ≤ j ∧ j < 0 + (i + 1) then jI 0 else I1 (l + 2) j := up_rg (fun _ => jI 0) _ _ _
    clear fin I1l hz hI1
    unfold fX6_clear_7
    ((repeat (first | (with_reducible apply q_gd; · (first | assumption | omega)) | (with_reducible apply q_ob; · (first | with_reducible rfl | ((simp (disch := omega) only [jI_lit, jI_neg, jI_add, jI_sub, jI_mul, o_gI, o_gR, o_pI, o_pZ0, o_pZ1, o_pZb, o_pR, o_aI, o_qI, o_aN, tn, va_up_self, va_up_ne, upup, jI_shr1, jI_shr4, jI_shr0, jI_and1, jI_and15, jI_join, jI_240, jI_hi, jF_at, jF_up, jI_max, jI_min, b2_t, b2_f, Bool.not_true, Bool.not_false, eq_self, true_or, or_true, r1, n2, e1, e2, eu]) <;> with_reducible rfl))) | (with_reducible apply q_ob2; · (first | with_reducible rfl | ((simp (disch := omega) only [jI_lit, jI_neg, jI_add, jI_sub, jI_mul, o_gI, o_gR, o_pI, o_pZ0, o_pZ1, o_pZb, o_pR, o_aI, o_qI, o_aN, tn, va_up_self, va_up_ne, upup, jI_shr1, jI_shr4, jI_shr0, jI_and1, jI_and15, jI_join, jI_240, jI_hi, jF_at, jF_up, jI_max, jI_min, b2_t, b2_f, Bool.not_true, Bool.not_false, eq_self, true_or, or_true, r1, n2, e1, e2, eu]) <;> with_reducible rfl))) | (with_reducible apply q_lt; · (first | with_reducible rfl | ((simp (disch := omega) only [jI_lit, jI_neg, jI_add, jI_sub, jI_mul, o_gI, o_gR, o_pI, o_pZ0, o_pZ1, o_pZb, o_pR, o_aI, o_qI, o_aN, tn, va_up_self, va_up_ne, upup, jI_shr1, jI_shr4, jI_shr0, jI_and1, jI_and15, jI_join, jI_240, jI_hi, jF_at, jF_up, jI_max, jI_min, b2_t, b2_f, Bool.not_true, Bool.not_false, eq_self, true_or, or_true, r1, n2, e1, e2, eu]) <;> with_reducible rfl))) | (with_reducible apply q_ifp; · (first | ((simp (disch := omega) only [jI_lit, jI_neg, jI_add, jI_sub, jI_mul, jI_lt, jI_le, jI_eq, va_up_self, va_up_ne, jI_shr1, jI_shr4, jI_shr0, jI_and1, jI_and15, jF_at, tn, b2_t, b2_f, cmp_ge, cmp_gt, cmp_le, cmp_lt, cmp_eq, jL_lit, jL_lt, jL_le, jL_eq, r1, n2, e1, e2, eu]) <;> omega) | omega)) | (with_reducible apply q_ifn; · (first | ((simp (disch := omega) only [jI_lit, jI_neg, jI_add, jI_sub, jI_mul, jI_lt, jI_le, jI_eq, va_up_self, va_up_ne, jI_shr1, jI_shr4, jI_shr0, jI_and1, jI_and15, jF_at, tn, b2_t, b2_f, cmp_ge, cmp_gt, cmp_le, cmp_lt, cmp_eq, jL_lit, jL_lt, jL_le, jL_eq, r1, n2, e1, e2, eu]) <;> omega) | omega)) | (with_reducible apply q_obk; · (first | with_reducible rfl | ((simp (disch := omega) only [jI_lit, jI_neg, jI_add, jI_sub, jI_mul, o_gI, o_gR, o_pI, o_pZ0, o_pZ1, o_pZb, o_pR, o_aI, o_qI, o_aN, tn, va_up_self, va_up_ne, upup, jI_shr1, jI_shr4, jI_shr0, jI_and1, jI_and15, jI_join, jI_240, jI_hi, jF_at, jF_up, jI_max, jI_min, b2_t, b2_f, Bool.not_true, Bool.not_false, eq_self, true_or, or_true, r1, n2, e1, e2, eu]) <;> with_reducible rfl))) | (with_reducible apply q_nz; · (first | ((simp (disch := omega) only [jI_lit, jI_neg, jI_add, jI_sub, jI_mul, jI_lt, jI_le, jI_eq, va_up_self, va_up_ne, jI_shr1, jI_shr4, jI_shr0, jI_and1, jI_and15, jF_at, tn, b2_t, b2_f, cmp_ge, cmp_gt, cmp_le, cmp_lt, cmp_eq, jL_lit, jL_lt, jL_le, jL_eq, r1, n2, e1, e2, eu]) <;> omega) | omega)) | (with_reducible apply q_rz; · (first | exact b2_01 _ | decide)))) <;> (first | with_reducible rfl | ((simp (disch := omega) only [jI_lit, jI_neg, jI_add, jI_sub, jI_mul, o_gI, o_gR, o_pI, o_pZ0, o_pZ1, o_pZb, o_pR, o_aI, o_qI, o_aN, tn, va_up_self, va_up_ne, upup, jI_shr1, jI_shr4, jI_shr0, jI_and1, jI_and15, jI_join, jI_240, jI_hi, jF_at, jF_up, jI_max, jI_min, b2_t, b2_f, Bool.not_true, Bool.not_false, eq_self, true_or, or_true, r1, n2, e1, e2, eu]) <;> with_reducible rfl) | rfl))
  · intro k'
    rw [← fin]
    clear fin I1l hz hI1
    unfold fX6_clear_7
    ((repeat (first | (with_reducible apply q_gd; · (first | assumption | omega)) | (with_reducible apply q_ob; · (first | with_reducible rfl | ((simp (disch := omega) only [jI_lit, jI_neg, jI_add, jI_sub, jI_mul, o_gI, o_gR, o_pI, o_pZ0, o_pZ1, o_pZb, o_pR, o_aI, o_qI, o_aN, tn, va_up_self, va_up_ne, upup, jI_shr1, jI_shr4, jI_shr0, jI_and1, jI_and15, jI_join, jI_240, jI_hi, jF_at, jF_up, jI_max, jI_min, b2_t, b2_f, Bool.not_true, Bool.not_false, eq_self, true_or, or_true, r1, n2]) <;> with_reducible rfl))) | (with_reducible apply q_ob2; · (first | with_reducible rfl | ((simp (disch := omega) only [jI_lit, jI_neg, jI_add, jI_sub, jI_mul, o_gI, o_gR, o_pI, o_pZ0, o_pZ1, o_pZb, o_pR, o_aI, o_qI, o_aN, tn, va_up_self, va_up_ne, upup, jI_shr1, jI_shr4, jI_shr0, jI_and1, jI_and15, jI_join, jI_240, jI_hi, jF_at, jF_up, jI_max, jI_min, b2_t, b2_f, Bool.not_true, Bool.not_false, eq_self, true_or, or_true, r1, n2]) <;> with_reducible rfl))) | (with_reducible apply q_lt; · (first | with_reducible rfl | ((simp (disch := omega) only [jI_lit, jI_neg, jI_add, jI_sub, jI_mul, o_gI, o_gR, o_pI, o_pZ0, o_pZ1, o_pZb, o_pR, o_aI, o_qI, o_aN, tn, va_up_self, va_up_ne, upup, jI_shr1, jI_shr4, jI_shr0, jI_and1, jI_and15, jI_join, jI_240, jI_hi, jF_at, jF_up, jI_max, jI_min, b2_t, b2_f, Bool.not_true, Bool.not_false, eq_self, true_or, or_true, r1, n2]) <;> with_reducible rfl))) | (with_reducible apply q_ifp; · (first | ((simp (disch := omega) only [jI_lit, jI_neg, jI_add, jI_sub, jI_mul, jI_lt, jI_le, jI_eq, va_up_self, va_up_ne, jI_shr1, jI_shr4, jI_shr0, jI_and1, jI_and15, jF_at, tn, b2_t, b2_f, cmp_ge, cmp_gt, cmp_le, cmp_lt, cmp_eq, jL_lit, jL_lt, jL_le, jL_eq, r1, n2]) <;> omega) | omega)) | (with_reducible apply q_ifn; · (first | ((simp (disch := omega) only [jI_lit, jI_neg, jI_add, jI_sub, jI_mul, jI_lt, jI_le, jI_eq, va_up_self, va_up_ne, jI_shr1, jI_shr4, jI_shr0, jI_and1, jI_and15, jF_at, tn, b2_t, b2_f, cmp_ge, cmp_gt, cmp_le, cmp_lt, cmp_eq, jL_lit, jL_lt, jL_le, jL_eq, r1, n2]) <;> omega) | omega)) | (with_reducible apply q_obk; · (first | with_reducible rfl | ((simp (disch := omega) only [jI_lit, jI_neg, jI_add, jI_sub, jI_mul, o_gI, o_gR, o_pI, o_pZ0, o_pZ1, o_pZb, o_pR, o_aI, o_qI, o_aN, tn, va_up_self, va_up_ne, upup, jI_shr1, jI_shr4, jI_shr0, jI_and1, jI_and15, jI_join, jI_240, jI_hi, jF_at, jF_up, jI_max, jI_min, b2_t, b2_f, Bool.not_true, Bool.not_false, eq_self, true_or, or_true, r1, n2]) <;> with_reducible rfl))) | (with_reducible apply q_nz; · (first | ((simp (disch := omega) only [jI_lit, jI_neg, jI_add, jI_sub, jI_mul, jI_lt, jI_le, jI_eq, va_up_self, va_up_ne, jI_shr1, jI_shr4, jI_shr0, jI_and1, jI_and15, jF_at, tn, b2_t, b2_f, cmp_ge, cmp_gt, cmp_le, cmp_lt, cmp_eq, jL_lit, jL_lt, jL_le, jL_eq, r1, n2]) <;> omega) | omega)) | (with_reducible apply q_rz; · (first | exact b2_01 _ | decide)))) <;> (first | with_reducible rfl | ((simp (disch := omega) only [jI_lit, jI_neg, jI_add, jI_sub, jI_mul, o_gI, o_gR, o_pI, o_pZ0, o_pZ1, o_pZb, o_pR, o_aI, o_qI, o_aN, tn, va_up_self, va_up_ne, upup, jI_shr1, jI_shr4, jI_shr0, jI_and1, jI_and15, jI_join, jI_240, jI_hi, jF_at, jF_up, jI_max, jI_min, b2_t, b2_f, Bool.not_true, Bool.not_false, eq_self, true_or, or_true, r1, n2]) <;> with_reducible rfl) | rfl))
theorem e_parse {bad : Nat → Prop} {a nm wt wp tp l n : Nat} {t : Nat → Int} (htb : Tb K R N a nm wt wp) (hat : a ≠ tp) (htx : Tx K I N tp t) (hn : n ≤ 700) (hl : Ls K R N l) (hln : Ln K R X bad l) (hz : ∀ j, 256 ≤ j → I (l + 2) j = jI 0) (hx : PX2 X a nm wt wp tp l) (h0 : 0 < X) (hK0 : TP Xo Ko K X) (hb : ∀ y, X ≤ y → ¬ bad y) (h1 : X + nul6 R l ≤ C) (h2 : U + 11 * nul6 R l ≤ Z) (hXC : X ≤ C) (hUZ : U ≤ Z) :
    PaO Xo Ko X K I R L N U C Z bad a nm wt wp l t n (fX8_parse a tp (jI (n : Int)) l (K, I, R, L, N, (X, U, C, Z))) := by
  obtain ⟨ka, t0, t1, t2, kn, nn, kw, nw', kp, np⟩ := id htb
  obtain ⟨k6, q0, q1, k1, n1, k2, n2⟩ := id hl
  obtain ⟨x1, x2, x3, x4, x5, x6, x7, x8, x9, x10⟩ := id hx
  have nla : l ≠ a := fun q => by rw [q, ka] at k6; omega
  have nl1a : l + 1 ≠ a := fun q => by rw [q, ka] at k1; omega
  have nl2a : l + 2 ≠ a := fun q => by rw [q, ka] at k2; omega
  have ntl : tp ≠ l := fun q => by have := htx.1; rw [q, k6] at this; omega
  -- the heap when the reading begins
  obtain ⟨R1, hR1⟩ : ∃ R1, R1 = va_up R a (va_up (va_up (R a) 3 tp) 5 l) := ⟨_, rfl⟩
  have R1n : ∀ y, y ≠ a → R1 y = R y := fun y hy => by rw [hR1, va_up_ne _ _ hy]
  have R1a : ∀ j, j ≠ 3 → j ≠ 5 → R1 a j = R a j := fun j j1 j2 => by rw [hR1, va_up_self, va_up_ne _ _ j2, va_up_ne _ _ j1]
  have R1l1 : R1 (l + 1) = R (l + 1) := R1n _ nl1a
  have hl1 : Ls K R1 N l := ⟨k6, by rw [R1n l nla]; exact q0, by rw [R1n l nla]; exact q1, k1, n1, k2, n2⟩
  obtain ⟨I1, hI1⟩ : ∃ I1, I1 = va_up I a (va_up (I a) 4 (jI (n : Int))) := ⟨_, rfl⟩
  have I1n : ∀ y, y ≠ a → I1 y = I y := fun y hy => by rw [hI1, va_up_ne _ _ hy]
  have ec := e_lclear (I := I1) (L := L) (w := (X, U, C, Z)) hl1 (fun j hj => by rw [I1n _ nl2a]; exact hz j hj)
  obtain ⟨I2, hI2⟩ : ∃ I2, I2 = va_up (va_up I1 l (va_up (I1 l) 2 (jI 0))) (l + 2) (jF (fun _ => 0)) := ⟨_, rfl⟩
  rw [← hI2] at ec
  have I2a : I2 a = I1 a := by rw [hI2, va_up_ne _ _ (Ne.symm nl2a), va_up_ne _ _ (Ne.symm nla)]
  obtain ⟨I3, hI3⟩ : ∃ I3, I3 = va_up I2 a (va_up (va_up (I2 a) 10 (jI 0)) 9 (jI 0)) := ⟨_, rfl⟩
  have I3n : ∀ y, y ≠ a → y ≠ l → y ≠ l + 2 → I3 y = I y := fun y y1 y2 y3 => by rw [hI3, va_up_ne _ _ y1, hI2, va_up_ne _ _ y3, va_up_ne _ _ y2, I1n y y1]
  have I3l2 : I3 (l + 2) = jF (fun _ => 0) := by rw [hI3, va_up_ne _ _ nl2a, hI2, va_up_self]
  have I3l : I3 l 2 = jI ((0 : Nat) : Int) := by rw [hI3, va_up_ne _ _ nla, hI2, va_up_ne _ _ (by omega), va_up_self, va_up_self]; rfl
  have I34 : I3 a 4 = jI (n : Int) := by rw [hI3, va_up_self, va_up_ne _ _ (by omega), va_up_ne _ _ (by omega), I2a, hI1, va_up_self, va_up_self]
  have I39 : I3 a 9 = jI ((0 : Nat) : Int) := by rw [hI3, va_up_self, va_up_self]; rfl
  have I310 : I3 a 10 = jI 0 := by rw [hI3, va_up_self, va_up_ne _ _ (by omega), va_up_self]
  have hx3 : Tx K I3 N tp t := ⟨htx.1, htx.2.1, fun j hj => by rw [I3n tp (Ne.symm hat) ntl x9]; exact htx.2.2 j hj⟩
  have r13 : R1 a 3 = tp := by rw [hR1, va_up_self, va_up_ne _ _ (by omega), va_up_self]
  obtain ⟨F, G, e1, e2, e3, e4, e5⟩ := e_advance (L := L) (w := (X, U, C, Z)) ka hat r13 hx3 I34 I39 (Nat.zero_le n) hn
  obtain ⟨I4, hI4⟩ : ∃ I4, I4 = va_up I3 a F := ⟨_, rfl⟩
  obtain ⟨R4, hR4⟩ : ∃ R4, R4 = va_up R1 a G := ⟨_, rfl⟩
  rw [← hI4, ← hR4] at e1
  have I4n : ∀ y, y ≠ a → I4 y = I3 y := fun y hy => by rw [hI4, va_up_ne _ _ hy]
  have R4n : ∀ y, y ≠ a → R4 y = R y := fun y hy => by rw [hR4, va_up_ne _ _ hy, R1n y hy]
  have R4a : ∀ j, j ≠ 3 → j ≠ 5 → j ≠ 7 → R4 a j = R a j := fun j j1 j2 j3 => by rw [hR4, va_up_self, e5 j j3, R1a j j1 j2]
  have R45 : R4 a 5 = l := by rw [hR4, va_up_self, e5 5 (by omega), hR1, va_up_self, va_up_self]
  have hl4 : Ls K R4 N l := ⟨k6, by rw [R4n l nla]; exact q0, by rw [R4n l nla]; exact q1, k1, n1, k2, n2⟩
  have R4l1 : R4 (l + 1) = R (l + 1) := R4n _ nl1a
  have L4 : Lv K I4 R4 N a tp t n (tok t n 0) := by
    refine ⟨ka, by rw [hR4, va_up_self, e5 3 (by omega)]; exact r13, hat, ⟨htx.1, htx.2.1, fun j hj => by rw [I4n tp (Ne.symm hat)]; exact hx3.2.2 j hj⟩, by rw [hI4, va_up_self, e3 4 (by omega) (by omega) (by omega)]; exact I34, hn, by rw [hI4, va_up_self, e3 10 (by omega) (by omega) (by omega)]; exact I310, by rw [hI4, va_up_self]; exact e2, by rw [hR4, va_up_self]; exact e4, TOK_tok (Nat.zero_le n)⟩
  have P4 : PrS K I4 R4 L N X bad a nm wt wp l s00 (fun _ => 0) := by
    refine ⟨⟨ka, by rw [R4a 0 (by omega) (by omega) (by omega)]; exact t0, by rw [R4a 1 (by omega) (by omega) (by omega)]; exact t1, by rw [R4a 2 (by omega) (by omega) (by omega)]; exact t2, kn, nn, kw, nw', kp, np⟩, R45, hl4, ⟨fun s hs c => by rw [R4l1] at c ⊢; exact hln.1 s hs c, fun s s' hs hs' hne c => by rw [R4l1] at c ⊢; exact hln.2 s s' hs hs' hne c⟩, by rw [I4n l nla]; exact I3l, Nat.zero_le _, by rw [I4n _ nl2a]; exact I3l2, ⟨fun j _ => ⟨by show (0 : Int) ≤ 0; omega, by show (0 : Int) < 256; omega⟩, fun _ _ => rfl⟩, fun k hk => absurd hk (Nat.not_lt_zero k), fun k hk => absurd hk (Nat.not_lt_zero k), fun k hk => absurd hk (Nat.not_lt_zero k)⟩
  have e6 : nul6 R4 l = nul6 R l := by unfold nul6; rw [R4l1]
  have F4 : PFr X K I4 R4 L N U a nm wt wp l K I4 R4 L N X U := PFr_PF hl4 ka (PL_PF PF_rf)
  -- from the beginning of the reading to that of the call
  have back : ∀ res, PaO Xo Ko X K I4 R4 L N U C Z bad a nm wt wp l t n res → PaO Xo Ko X K I R L N U C Z bad a nm wt wp l t n res := by
    intro res ⟨kd, K', I', R', L', N', X', U', g1, g2, g3, g4⟩
    refine ⟨kd, K', I', R', L', N', X', U', g1, g2, ?_, g4⟩
    obtain ⟨a1, a2, a3, a4, a5, a6, a7, a8, a9, a10, a11⟩ := g3
    rw [R4l1] at a4 a5 a7 a8
    rw [e6] at a9 a10
    exact ⟨a1, a2, a3, fun y hy y1 y2 y3 => by rw [a4 y hy y1 y2 y3]; exact R4n y y1, fun y hy y1 y2 y3 y4 y5 => by rw [a5 y hy y1 y2 y3 y4 y5, I4n y y1]; exact I3n y y1 y2 y3, a6, a7, a8, a9, a10, a11⟩
  have hln4 : Ln K R4 X bad l := P4.2.2.2.1
  have key := lp_sr (z := fun _ _ _ => none) (S := fX8_parse_47) (β := Int32 × Hp) (σ := HH) (fun kk i s => kk a (jI (i : Int)) (hh C Z s)) (n + 1)
    (fun i s => ∃ m st Q, Smd s.1 s.2.1 s.2.2.1 s.2.2.2.2.1 a tp t n m ∧ PrS s.1 s.2.1 s.2.2.1 s.2.2.2.1 s.2.2.2.2.1 s.2.2.2.2.2.1 bad a nm wt wp l st Q ∧ PFr X K I4 R4 L N U a nm wt wp l s.1 s.2.1 s.2.2.1 s.2.2.2.1 s.2.2.2.2.1 s.2.2.2.2.2.1 s.2.2.2.2.2.2 ∧ s.2.2.2.2.2.1 ≤ C ∧ s.2.2.2.2.2.2 ≤ Z ∧ TP Xo Ko s.1 s.2.2.2.2.2.1 ∧
      (∀ x, m = .inl x → prsL t n (n + 1) (tok t n 0) s00 (fun _ => 0) = (m, st, Q)) ∧ (∀ T, m = .inr T → prsL t n (n + 1) (tok t n 0) s00 (fun _ => 0) = prsL t n (n + 1 - i) T st Q))
    (fun res => PaO Xo Ko X K I4 R4 L N U C Z bad a nm wt wp l t n res) ?_ ?_ FU 0 (K, I4, R4, L, N, X, U) (by omega) (FU_lt (by omega)) ⟨.inr (tok t n 0), s00, fun _ => 0, L4, P4, F4, hXC, hUZ, hK0, (fun x q => nomatch q), fun T q => by cases q; rfl⟩
  · refine back _ ?_
    have e : fX8_parse a tp (jI (n : Int)) l (K, I, R, L, N, (X, U, C, Z)) = lp (fun _ _ _ => none) (fX8_parse_47) FU a (jI ((0 : Nat) : Int)) (K, I4, R4, L, N, (X, U, C, Z)) := by
      have em : imin (jI (n : Int)) (jI ((700 : Nat) : Int)) = jI (n : Int) := by rw [jI_min (by omega) (by omega) (by omega) (by omega)]; congr 1; omega
      have r3' : (va_up R a (va_up (R a) 3 tp)) a 3 = tp := by rw [va_up_self, va_up_self]
      have r5' : R1 a 5 = l := by rw [hR1, va_up_self, va_up_self]
      have eR : va_up (va_up R a (va_up (R a) 3 tp)) a (va_up ((va_up R a (va_up (R a) 3 tp)) a) 5 l) = R1 := by rw [va_up_self, upup, hR1]
      unfold fX8_parse
      rw [o_gd _ ka, o_pR ka, o_ob, o_gR ka, o_ob, r3', o_aN htx.1, o_ob, htx.2.1, em, o_pI ka, o_ob, ← hI1, o_pR ka, o_ob, eR, o_gR ka, o_ob, r5', ec, o_obkt, show (0 : Int32) = jI 0 from rfl, o_pI ka, o_ob, o_pI ka, o_ob, va_up_self, upup, ← hI3, e1, o_obkt]
      rfl
    rw [e]; exact key
  · intro i s hi hs kk
    obtain ⟨K5, I5, R5, L5, N5, X5, U5⟩ := s
    obtain ⟨m, st, Q, h5, p5, f5, c1, c2, c3, ht1, ht2⟩ := hs
    have h5 : Smd K5 I5 R5 N5 a tp t n m := h5
    have p5 : PrS K5 I5 R5 L5 N5 X5 bad a nm wt wp l st Q := p5
    have f5 : PFr X K I4 R4 L N U a nm wt wp l K5 I5 R5 L5 N5 X5 U5 := f5
    have c1 : X5 ≤ C := c1
    have c2 : U5 ≤ Z := c2
    have c3 : TP Xo Ko K5 X5 := c3
    have ka5 := p5.1.1
    have i4 : I5 a 4 = jI (n : Int) := by rw [f5.2.2.2.2.2.2.1 4 (by omega), hI4, va_up_self, e3 4 (by omega) (by omega) (by omega)]; exact I34
    have cn : ¬ (jI (n : Int) < jI (i : Int)) := by rw [jI_lt (by omega) (by omega) (by omega) (by omega)]; omega
    have e2' : (i : Int) + 1 = ((i + 1 : Nat) : Int) := by omega
    cases m with
    | inl x =>
      left
      have e81 := e_p81 (C := C) (Z := Z) hx h5 p5 f5 hln4 c1 c2 c3 (ht1 x rfl)
      obtain ⟨kd, pl⟩ := x
      obtain ⟨-, i10, k1', k2', -⟩ := h5
      have c0 : ¬ (jI kd = 0) := by rw [jI_lit, jI_eq (by omega) (by omega) (by omega) (by omega)]; omega
      have e : fX8_parse_47 kk a (jI (i : Int)) (K5, I5, R5, L5, N5, (X5, U5, C, Z)) = fX8_parse_81 a (K5, I5, R5, L5, N5, (X5, U5, C, Z)) := by
        unfold fX8_parse_47
        rw [o_gI ka5, o_ob, i4, if_neg cn, o_gI ka5, o_ob, i10, if_neg c0]
      show PaO Xo Ko X K I4 R4 L N U C Z bad a nm wt wp l t n (fX8_parse_47 kk a (jI (i : Int)) (K5, I5, R5, L5, N5, (X5, U5, C, Z)))
      rw [e]; exact e81
    | inr T =>
      have h5' : Lv K5 I5 R5 N5 a tp t n T := h5
      have i10 := h5'.2.2.2.2.2.2.1
      have i6 := h5'.2.2.2.2.2.2.2.1.1
      have hr6 := (TOK_r h5'.2.2.2.2.2.2.2.2.2).2.2.2.1
      have c00 : (jI 0 : Int32) = 0 := rfl
      have htt := ht2 T rfl
      by_cases c5 : T.1 = 5
      · left
        have e81 := e_p81 (C := C) (Z := Z) hx h5 p5 f5 hln4 c1 c2 c3 (by rw [htt, prsL_e c5])
        have e : fX8_parse_47 kk a (jI (i : Int)) (K5, I5, R5, L5, N5, (X5, U5, C, Z)) = fX8_parse_81 a (K5, I5, R5, L5, N5, (X5, U5, C, Z)) := by
          rw [c5] at i6
          have i6 : I5 a 6 = 5 := i6
          unfold fX8_parse_47
          rw [o_gI ka5, o_ob, i4, if_neg cn, o_gI ka5, o_ob, i10, if_pos c00, o_gI ka5, o_ob, i6, if_pos rfl]
        show PaO Xo Ko X K I4 R4 L N U C Z bad a nm wt wp l t n (fX8_parse_47 kk a (jI (i : Int)) (K5, I5, R5, L5, N5, (X5, U5, C, Z)))
        rw [e]; exact e81
      · right
        have hx5 : PX2 X5 a nm wt wp tp l := by
          have := f5.2.2.2.2.2.2.2.1
          exact ⟨by omega, by omega, by omega, by omega, by omega, by omega, x7, x8, x9, x10⟩
        have hXX := f5.2.2.2.2.2.2.2.1
        have hc1 := f5.2.2.2.2.2.2.2.2.2.2.1
        have hc2 := f5.2.2.2.2.2.2.2.2.2.2.2.1
        obtain ⟨K6, I6, R6, L6, N6, X6, U6, el, h6, p6, f6, d1, d2, d3⟩ := e_lne (L := L5) (U := U5) (C := C) (Z := Z) h5' p5 hx5 (by omega) c3 (fun y hy => hb y (by omega)) (by omega) (by omega) c1 c2
        obtain ⟨⟨m', st', Q'⟩, hlm⟩ : ∃ z, z = lne t n T st Q := ⟨_, rfl⟩
        rw [← hlm] at h6 p6
        have eqn : n + 1 - i = (n + 1 - (i + 1)) + 1 := by omega
        refine ⟨(K6, I6, R6, L6, N6, X6, U6), ⟨m', st', Q', h6, p6, PFr_tr f5 f6, d1, d2, d3, fun x q => ?_, fun T' q => ?_⟩, ?_⟩
        · rw [htt, eqn]
          have q : m' = .inl x := q
          rw [q] at hlm ⊢
          exact prsL_f c5 hlm.symm
        · rw [htt, eqn]
          have q : m' = .inr T' := q
          rw [q] at hlm
          exact prsL_s c5 hlm.symm
        · show fX8_parse_47 kk a (jI (i : Int)) (K5, I5, R5, L5, N5, (X5, U5, C, Z)) = kk a (jI ((i + 1 : Nat) : Int)) (K6, I6, R6, L6, N6, (X6, U6, C, Z))
          have c55 : ¬ (jI (T.1 : Nat) = 5) := by rw [show (5 : Int32) = jI 5 from rfl, jI_eq (by omega) (by omega) (by omega) (by omega)]; omega
          unfold fX8_parse_47
          rw [o_gI ka5, o_ob, i4, if_neg cn, o_gI ka5, o_ob, i10, if_pos c00, o_gI ka5, o_ob, i6, if_neg c55, el, o_oba (okA_tp c3 (by omega) f6.2.2.2.2.2.2.2.1 f6.2.2.2.2.2.2.2.2.2.2.2.2 d1 d2 d3), o_lt, show (1 : Int32) = jI 1 from rfl, jI_add, e2']
  · intro s hs kk
    obtain ⟨K5, I5, R5, L5, N5, X5, U5⟩ := s
    obtain ⟨m, st, Q, h5, p5, f5, c1, c2, c3, ht1, ht2⟩ := hs
    have h5 : Smd K5 I5 R5 N5 a tp t n m := h5
    have p5 : PrS K5 I5 R5 L5 N5 X5 bad a nm wt wp l st Q := p5
    have f5 : PFr X K I4 R4 L N U a nm wt wp l K5 I5 R5 L5 N5 X5 U5 := f5
    have ka5 := p5.1.1
    have i4 : I5 a 4 = jI (n : Int) := by rw [f5.2.2.2.2.2.2.1 4 (by omega), hI4, va_up_self, e3 4 (by omega) (by omega) (by omega)]; exact I34
    have cn : (jI (n : Int) < jI ((n + 1 : Nat) : Int)) := by rw [jI_lt (by omega) (by omega) (by omega) (by omega)]; omega
    have htot : prsL t n (n + 1) (tok t n 0) s00 (fun _ => 0) = (m, st, Q) := by
      cases m with
      | inl x => exact ht1 x rfl
      | inr T =>
        have := ht2 T rfl
        rw [this, Nat.sub_self]; rfl
    have e81 := e_p81 (C := C) (Z := Z) hx h5 p5 f5 hln4 c1 c2 c3 htot
    have e : fX8_parse_47 kk a (jI ((n + 1 : Nat) : Int)) (K5, I5, R5, L5, N5, (X5, U5, C, Z)) = fX8_parse_81 a (K5, I5, R5, L5, N5, (X5, U5, C, Z)) := by
      unfold fX8_parse_47
      rw [o_gI ka5, o_ob, i4, if_pos cn]
    show PaO Xo Ko X K I4 R4 L N U C Z bad a nm wt wp l t n (fX8_parse_47 kk a (jI ((n + 1 : Nat) : Int)) (K5, I5, R5, L5, N5, (X5, U5, C, Z)))
    rw [e]; exact e81
end PAR
