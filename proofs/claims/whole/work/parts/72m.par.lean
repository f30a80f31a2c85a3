section PAR
variable {K : Nat → Nat} {I : Nat → Nat → Int32} {R : Nat → Nat → Nat} {L : Nat → Nat → Int64} {N : Nat → Nat} {w : Nat × Nat × Nat × Nat} {X U C Z : Nat}
/-- a wanted name that nothing has -/
def bdq (s : LNS) (i : Nat) : Bool := s.2.2.2.2.1 i != 0 && nmd s.2.2.2.1 s.1 (s.2.2.2.2.1 i) == -1
def tgt (s : LNS) (k : Nat) : Int := if s.2.2.2.2.1 k = 0 then -1 else nmd s.2.2.2.1 s.1 (s.2.2.2.2.1 k)
/-- how it stands while names are bound -/
def Bn (K : Nat → Nat) (I : Nat → Nat → Int32) (R : Nat → Nat → Nat) (a l i : Nat) (s : LNS) (J : Nat → Nat → Int32) : Prop :=
  (∀ y, y ≠ a → (∀ k, k < s.1 → y ≠ R (l + 1) k) → J y = I y) ∧ (∀ j, j ≠ 10 → j ≠ 11 → J a j = I a j) ∧ (∀ k, k < s.1 → ∀ j, j ≠ 10 → J (R (l + 1) k) j = I (R (l + 1) k) j) ∧ (∀ k, k < s.1 → k < i → J (R (l + 1) k) 10 = jI (tgt s k)) ∧ (∀ k, k < s.1 → i ≤ k → J (R (l + 1) k) 10 = I (R (l + 1) k) 10)
theorem e_bind {bad : Nat → Prop} {a nm wt wp l : Nat} {s : LNS} {Q : Nat → Int} (hs : PrS K I R L N X bad a nm wt wp l s Q) (i10 : I a 10 = jI 0) :
    ∃ J, fX8_bindNames a (K, I, R, L, N, w) = some (K, J, R, L, N, w) ∧ (fnd (bdq s) 0 s.1 = -1 → Bn K I R a l s.1 s J ∧ J a 10 = jI 0) ∧ (fnd (bdq s) 0 s.1 ≠ -1 → J a 10 = jI 3 ∧ J a 11 = jI (s.2.2.2.2.2 (fnd (bdq s) 0 s.1).toNat)) ∧ (∀ y, y ≠ a → (∀ k, k < s.1 → y ≠ R (l + 1) k) → J y = I y) ∧ (∀ j, j ≠ 10 → j ≠ 11 → J a j = I a j) := by
  obtain ⟨htb, r5, hl, ⟨hn1, hn2⟩, i2, hm, hI, hQ, hins, hnm, hwt⟩ := id hs
  obtain ⟨ka, t0, t1, t2, kn, nn, kw, nw', kp, np⟩ := id htb
  obtain ⟨k6, q0, q1, k1, n1, k2, n2⟩ := id hl
  have nla : l ≠ a := fun q => by rw [q, ka] at k6; omega
  have nwpa : wp ≠ a := fun q => by rw [q, ka] at kp; omega
  obtain ⟨m, hm0⟩ : ∃ m, m = s.1 := ⟨_, rfl⟩
  rw [← hm0] at i2 hm hins hnm hwt
  have slot : ∀ k, k < m → K (R (l + 1) k) = 5 ∧ R (l + 1) k ≠ a ∧ R (l + 1) k ≠ l ∧ R (l + 1) k ≠ wp ∧ R (l + 1) k ≠ 0 := fun k hk => by
    have a1 := (hins k hk).1
    have ki := (hn1 k (by omega) a1).1
    exact ⟨ki, fun q => by rw [q, ka] at ki; omega, fun q => by rw [q, k6] at ki; omega, fun q => by rw [q, kp] at ki; omega, a1⟩
  have es : ∀ J : Nat → Nat → Int32, J l = I l → fX6_size l (K, J, R, L, N, w) = some (jI (m : Int)) := fun J hJ => by
    unfold fX6_size
    rw [o_gd _ k6, o_gI k6, o_ob, hJ, i2]
  have et : ∀ (J : Nat → Nat → Int32) (i : Nat), J l = I l → i < m → fX6_told l (jI (i : Int)) (K, J, R, L, N, w) = some (R (l + 1) i) := fun J i hJ hi => by
    have e1 : ((i : Int)).toNat = i := by omega
    have i2' : J l 2 = jI (m : Int) := by rw [hJ]; exact i2
    clear hs htb hl hn1 hn2 hins hnm hwt slot es
    unfold fX6_told
    ((repeat (first | (with_reducible apply q_gd; · (first | assumption | omega)) | (with_reducible apply q_ob; · (first | with_reducible rfl | ((simp (disch := omega) only [jI_lit, jI_neg, jI_add, jI_sub, jI_mul, o_gI, o_gR, o_pI, o_pZ0, o_pZ1, o_pZb, o_pR, o_aI, o_qI, o_aN, tn, va_up_self, va_up_ne, upup, jI_shr1, jI_shr4, jI_shr0, jI_and1, jI_and15, jI_join, jI_240, jI_hi, jF_at, jF_up, jI_max, jI_min, b2_t, b2_f, Bool.not_true, Bool.not_false, eq_self, true_or, or_true, i2', q0, o_aR, e1]) <;> with_reducible rfl))) | (with_reducible apply q_ob2; · (first | with_reducible rfl | ((simp (disch := omega) only [jI_lit, jI_neg, jI_add, jI_sub, jI_mul, o_gI, o_gR, o_pI, o_pZ0, o_pZ1, o_pZb, o_pR, o_aI, o_qI, o_aN, tn, va_up_self, va_up_ne, upup, jI_shr1, jI_shr4, jI_shr0, jI_and1, jI_and15, jI_join, jI_240, jI_hi, jF_at, jF_up, jI_max, jI_min, b2_t, b2_f, Bool.not_true, Bool.not_false, eq_self, true_or, or_true, i2', q0, o_aR, e1]) <;> with_reducible rfl))) | (with_reducible apply q_lt; · (first | with_reducible rfl | ((simp (disch := omega) only [jI_lit, jI_neg, jI_add, jI_sub, jI_mul, o_gI, o_gR, o_pI, o_pZ0, o_pZ1, o_pZb, o_pR, o_aI, o_qI, o_aN, tn, va_up_self, va_up_ne, upup, jI_shr1, jI_shr4, jI_shr0, jI_and1, jI_and15, jI_join, jI_240, jI_hi, jF_at, jF_up, jI_max, jI_min, b2_t, b2_f, Bool.not_true, Bool.not_false, eq_self, true_or, or_true, i2', q0, o_aR, e1]) <;> with_reducible rfl))) | (with_reducible apply q_ifp; · (first | ((simp (disch := omega) only [jI_lit, jI_neg, jI_add, jI_sub, jI_mul, jI_lt, jI_le, jI_eq, va_up_self, va_up_ne, jI_shr1, jI_shr4, jI_shr0, jI_and1, jI_and15, jF_at, tn, b2_t, b2_f, cmp_ge, cmp_gt, cmp_le, cmp_lt, cmp_eq, jL_lit, jL_lt, jL_le, jL_eq, i2', q0, o_aR, e1]) <;> omega) | omega)) | (with_reducible apply q_ifn; · (first | ((simp (disch := omega) only [jI_lit, jI_neg, jI_add, jI_sub, jI_mul, jI_lt, jI_le, jI_eq, va_up_self, va_up_ne, jI_shr1, jI_shr4, jI_shr0, jI_and1, jI_and15, jF_at, tn, b2_t, b2_f, cmp_ge, cmp_gt, cmp_le, cmp_lt, cmp_eq, jL_lit, jL_lt, jL_le, jL_eq, i2', q0, o_aR, e1]) <;> omega) | omega)) | (with_reducible apply q_obk; · (first | with_reducible rfl | ((simp (disch := omega) only [jI_lit, jI_neg, jI_add, jI_sub, jI_mul, o_gI, o_gR, o_pI, o_pZ0, o_pZ1, o_pZb, o_pR, o_aI, o_qI, o_aN, tn, va_up_self, va_up_ne, upup, jI_shr1, jI_shr4, jI_shr0, jI_and1, jI_and15, jI_join, jI_240, jI_hi, jF_at, jF_up, jI_max, jI_min, b2_t, b2_f, Bool.not_true, Bool.not_false, eq_self, true_or, or_true, i2', q0, o_aR, e1]) <;> with_reducible rfl))) | (with_reducible apply q_nz; · (first | ((simp (disch := omega) only [jI_lit, jI_neg, jI_add, jI_sub, jI_mul, jI_lt, jI_le, jI_eq, va_up_self, va_up_ne, jI_shr1, jI_shr4, jI_shr0, jI_and1, jI_and15, jF_at, tn, b2_t, b2_f, cmp_ge, cmp_gt, cmp_le, cmp_lt, cmp_eq, jL_lit, jL_lt, jL_le, jL_eq, i2', q0, o_aR, e1]) <;> omega) | omega)) | (with_reducible apply q_rz; · (first | exact b2_01 _ | decide)))) <;> (first | with_reducible rfl | ((simp (disch := omega) only [jI_lit, jI_neg, jI_add, jI_sub, jI_mul, o_gI, o_gR, o_pI, o_pZ0, o_pZ1, o_pZb, o_pR, o_aI, o_qI, o_aN, tn, va_up_self, va_up_ne, upup, jI_shr1, jI_shr4, jI_shr0, jI_and1, jI_and15, jI_join, jI_240, jI_hi, jF_at, jF_up, jI_max, jI_min, b2_t, b2_f, Bool.not_true, Bool.not_false, eq_self, true_or, or_true, i2', q0, o_aR, e1]) <;> with_reducible rfl) | rfl))
  obtain ⟨A, hA⟩ : ∃ A, A = fnd (bdq s) 0 m := ⟨_, rfl⟩
  rw [← hm0, ← hA]
  have key := lp_sr (z := fun _ _ _ => none) (S := fX8_bindNames_2) (β := Hp) (σ := Nat → Nat → Int32) (fun kk i J => kk a (jI (i : Int)) (K, J, R, L, N, w)) m
    (fun i J => Bn K I R a l i s J ∧ ((J a 10 = jI 0 ∧ ∀ j, 0 ≤ j → j < i → bdq s j = false) ∨ (A ≠ -1 ∧ J a 10 = jI 3 ∧ J a 11 = jI (s.2.2.2.2.2 A.toNat))))
    (fun res => ∃ J, res = some (K, J, R, L, N, w) ∧ (A = -1 → Bn K I R a l m s J ∧ J a 10 = jI 0) ∧ (A ≠ -1 → J a 10 = jI 3 ∧ J a 11 = jI (s.2.2.2.2.2 A.toNat)) ∧ (∀ y, y ≠ a → (∀ k, k < m → y ≠ R (l + 1) k) → J y = I y) ∧ (∀ j, j ≠ 10 → j ≠ 11 → J a j = I a j)) ?_ ?_ FU 0 I (by omega) (FU_lt (by omega)) ⟨⟨fun _ _ _ => rfl, fun _ _ _ => rfl, fun _ _ _ _ => rfl, fun _ _ h => absurd h (by omega), fun _ _ _ => rfl⟩, Or.inl ⟨i10, fun j _ h => absurd h (by omega)⟩⟩
  · obtain ⟨J, e1, e2⟩ := key
    refine ⟨J, ?_, e2⟩
    rw [← e1]
    unfold fX8_bindNames
    rw [o_gd _ ka]
    rfl
  · intro i J hi hJ kk
    obtain ⟨hB, hc⟩ := hJ
    obtain ⟨g1, g2, g3, g4, g5⟩ := id hB
    rw [← hm0] at g1 g3 g4 g5
    have Jl : J l = I l := g1 l nla (fun k hk => Ne.symm (slot k hk).2.2.1)
    have Jwp : J wp = I wp := g1 wp nwpa (fun k hk => Ne.symm (slot k hk).2.2.2.1)
    have esJ := es J Jl
    have etJ := et J i Jl hi
    obtain ⟨s1, s2, s3, s4, s5⟩ := slot i hi
    obtain ⟨b1, ⟨b2, b3⟩, b4, b5⟩ := hwt i hi
    have e1 : ((i : Int)).toNat = i := by omega
    have e2 : (i : Int) + 1 = ((i + 1 : Nat) : Int) := by omega
    have cm : ¬ (jI (m : Int) ≤ jI (i : Int)) := by rw [jI_le (by omega) (by omega) (by omega) (by omega)]; omega
    have c60 : ¬ (jI ((60 : Nat) : Int) ≤ jI (i : Int)) := by rw [jI_le (by omega) (by omega) (by omega) (by omega)]; omega
    have ew : aL wt (jI (i : Int)) (K, J, R, L, N, w) = some (jL (s.2.2.2.2.1 i)) := by rw [o_aL kw (by omega) (by omega) (by omega), e1, b1]
    have ecm : (lg_cmp (jL (s.2.2.2.2.1 i)) 0 = 0) ↔ s.2.2.2.2.1 i = 0 := by
      rw [show (0 : Int32) = jI 0 from rfl, cmp_eq, show (0 : Int64) = jL 0 from rfl, jL_eq (by omega) (by omega) (by omega) (by omega)]
    rcases hc with ⟨c0, hq⟩ | ⟨cA, c3, c11⟩
    · have c00 : (jI 0 : Int32) = 0 := rfl
      have hqi : bdq s i = (s.2.2.2.2.1 i != 0 && nmd s.2.2.2.1 s.1 (s.2.2.2.2.1 i) == -1) := rfl
      right
      by_cases cw : s.2.2.2.2.1 i = 0
      · have hqf : bdq s i = false := by rw [hqi, cw]; rfl
        have J10 : J (R (l + 1) i) 10 = jI (tgt s i) := by
          rw [g5 i hi (Nat.le_refl _), (hins i hi).2.2.2 10 (by omega) (by omega), b4]
          unfold tgt
          rw [if_pos cw]
        refine ⟨J, ⟨⟨by rw [← hm0]; exact g1, g2, by rw [← hm0]; exact g3, fun k hk hki => ?_, fun k hk hki => ?_⟩, Or.inl ⟨c0, fun j _ hj => ?_⟩⟩, ?_⟩
        · rw [← hm0] at hk
          by_cases ck : k = i
          · rw [ck]; exact J10
          · exact g4 k hk (by omega)
        · rw [← hm0] at hk
          exact g5 k hk (by omega)
        · by_cases cj : j = i
          · rw [cj]; exact hqf
          · exact hq j (by omega) (by omega)
        · show fX8_bindNames_2 kk a (jI (i : Int)) (K, J, R, L, N, w) = kk a (jI ((i + 1 : Nat) : Int)) (K, J, R, L, N, w)
          unfold fX8_bindNames_2
          rw [o_gR ka, o_ob, r5, esJ, o_ob, if_neg cm, o_gR ka, o_ob, t1, o_aN kw, o_ob, nw', if_neg c60, o_gI ka, o_ob, c0, if_pos c00, o_ob, etJ, o_ob, if_neg s5, o_ob, ew, o_ob, if_pos (ecm.2 cw), o_lt, show (1 : Int32) = jI 1 from rfl, jI_add, e2]
      · have i2J : J l 2 = jI (m : Int) := by rw [Jl]; exact i2
        have end_ := e_named (I := J) (w := w) (v := s.2.2.2.2.1 i) htb r5 k6 i2J hm hnm b2 b3
        have nr := fnd_m (q := fun j => s.2.2.2.1 j == s.2.2.2.2.1 i) (lo := 0) (m := m)
        obtain ⟨d, hd⟩ : ∃ d, d = nmd s.2.2.2.1 m (s.2.2.2.2.1 i) := ⟨_, rfl⟩
        have hdr : -1 ≤ d ∧ d < 60 := by rw [hd]; unfold nmd; omega
        have td : tgt s i = d := by unfold tgt; rw [if_neg cw, ← hm0, hd]
        rw [← hd] at end_
        obtain ⟨J2, hJ2⟩ : ∃ J2, J2 = va_up J (R (l + 1) i) (va_up (J (R (l + 1) i)) 10 (jI d)) := ⟨_, rfl⟩
        have J2n : ∀ y, y ≠ R (l + 1) i → J2 y = J y := fun y hy => by rw [hJ2, va_up_ne _ _ hy]
        have nsk : ∀ k, k < m → k ≠ i → R (l + 1) k ≠ R (l + 1) i := fun k hk hki => hn2 k i (by omega) (by omega) hki (hins k hk).1
        have B2 : Bn K I R a l (i + 1) s J2 := by
          refine ⟨fun y y1 y2 => ?_, fun j j1 j2 => by rw [J2n a (Ne.symm s2)]; exact g2 j j1 j2, fun k hk j hj => ?_, fun k hk hki => ?_, fun k hk hki => ?_⟩
          · rw [← hm0] at y2
            rw [J2n y (y2 i hi)]; exact g1 y y1 y2
          · rw [← hm0] at hk
            by_cases ck : k = i
            · rw [ck, hJ2, va_up_self, va_up_ne _ _ hj]; exact g3 i hi j hj
            · rw [J2n _ (nsk k hk ck)]; exact g3 k hk j hj
          · rw [← hm0] at hk
            by_cases ck : k = i
            · rw [ck, hJ2, va_up_self, va_up_self, td]
            · rw [J2n _ (nsk k hk ck)]; exact g4 k hk (by omega)
          · rw [← hm0] at hk
            rw [J2n _ (nsk k hk (by omega))]; exact g5 k hk (by omega)
        have ego : fX8_bindNames_2 kk a (jI (i : Int)) (K, J, R, L, N, w) = if jI d = (-1 : Int32) then ob (pI 7 a 10 3 (K, J2, R, L, N, w)) fun h => ob (gR 7 a 2 h) fun v23 => ob (aI v23 (jI (i : Int)) h) fun v24 => ob (pI 7 a 11 v24 h) fun h => lt (jI (i : Int) + 1) fun z25 => kk a z25 h else lt (jI (i : Int) + 1) fun z22 => kk a z22 (K, J2, R, L, N, w) := by
          have g10 : J2 (R (l + 1) i) 10 = jI d := by rw [hJ2, va_up_self, va_up_self]
          unfold fX8_bindNames_2
          rw [o_gR ka, o_ob, r5, esJ, o_ob, if_neg cm, o_gR ka, o_ob, t1, o_aN kw, o_ob, nw', if_neg c60, o_gI ka, o_ob, c0, if_pos c00, o_ob, etJ, o_ob, if_neg s5, o_ob, ew, o_ob, if_neg (fun q => cw (ecm.1 q)), o_ob, ew, o_ob, end_, o_ob, o_pI s1, o_ob, ← hJ2, o_gI s1, o_ob, g10]
        by_cases cd : d = -1
        · have hqt : bdq s i = true := by
            rw [hqi, ← hm0, ← hd, cd]
            simp [cw]
          have eA : A = (i : Int) := by rw [hA]; exact fnd_is (by omega) (by omega) hqt hq
          have cn1 : jI d = (-1 : Int32) := by rw [cd]; rfl
          obtain ⟨J3, hJ3⟩ : ∃ J3, J3 = va_up J2 a (va_up (va_up (J2 a) 10 (jI 3)) 11 (jI (s.2.2.2.2.2 i))) := ⟨_, rfl⟩
          have J3n : ∀ y, y ≠ a → J3 y = J2 y := fun y hy => by rw [hJ3, va_up_ne _ _ hy]
          obtain ⟨w1, w2, w3, w4, w5⟩ := B2
          refine ⟨J3, ⟨⟨fun y y1 y2 => by rw [J3n y y1]; exact w1 y y1 y2, fun j j1 j2 => by rw [hJ3, va_up_self, va_up_ne _ _ j2, va_up_ne _ _ j1]; exact w2 j j1 j2, fun k hk j hj => by rw [J3n _ (slot k (by omega)).2.1]; exact w3 k hk j hj, fun k hk hki => by rw [J3n _ (slot k (by omega)).2.1]; exact w4 k hk hki, fun k hk hki => by rw [J3n _ (slot k (by omega)).2.1]; exact w5 k hk hki⟩, Or.inr ⟨by omega, by rw [hJ3, va_up_self, va_up_ne _ _ (by omega), va_up_self], by rw [hJ3, va_up_self, va_up_self, eA]; congr 1⟩⟩, ?_⟩
          show fX8_bindNames_2 kk a (jI (i : Int)) (K, J, R, L, N, w) = kk a (jI ((i + 1 : Nat) : Int)) (K, J3, R, L, N, w)
          have wpi : (va_up J2 a (va_up (J2 a) 10 (jI 3))) wp i = jI (s.2.2.2.2.2 i) := by
            rw [va_up_ne _ _ nwpa, J2n wp (Ne.symm s4), Jwp]; exact b5 cw
          rw [ego, if_pos cn1, show (3 : Int32) = jI 3 from rfl, o_pI ka, o_ob, o_gR ka, o_ob, t2, o_aI kp (by omega) (by omega) (by omega), o_ob, e1, wpi, o_pI ka, o_ob, va_up_self, upup, ← hJ3, o_lt, show (1 : Int32) = jI 1 from rfl, jI_add, e2]
        · have hqf : bdq s i = false := by
            rw [hqi, ← hm0, ← hd]
            simp [cd]
          have cn1 : ¬ (jI d = (-1 : Int32)) := by rw [show (-1 : Int32) = jI (-1) from rfl, jI_eq (by omega) (by omega) (by omega) (by omega)]; exact cd
          refine ⟨J2, ⟨B2, Or.inl ⟨by rw [J2n a (Ne.symm s2)]; exact c0, fun j _ hj => ?_⟩⟩, ?_⟩
          · by_cases cj : j = i
            · rw [cj]; exact hqf
            · exact hq j (by omega) (by omega)
          · show fX8_bindNames_2 kk a (jI (i : Int)) (K, J, R, L, N, w) = kk a (jI ((i + 1 : Nat) : Int)) (K, J2, R, L, N, w)
            rw [ego, if_neg cn1, o_lt, show (1 : Int32) = jI 1 from rfl, jI_add, e2]
    · left
      have c30 : ¬ ((jI 3 : Int32) = 0) := by decide
      refine ⟨J, ?_, fun q => absurd q cA, fun _ => ⟨c3, c11⟩, g1, g2⟩
      show fX8_bindNames_2 kk a (jI (i : Int)) (K, J, R, L, N, w) = _
      unfold fX8_bindNames_2
      rw [o_gR ka, o_ob, r5, esJ, o_ob, if_neg cm, o_gR ka, o_ob, t1, o_aN kw, o_ob, nw', if_neg c60, o_gI ka, o_ob, c3, if_neg c30]
  · intro J hJ kk
    obtain ⟨hB, hc⟩ := hJ
    obtain ⟨g1, g2, g3, g4, g5⟩ := id hB
    rw [← hm0] at g1
    have Jl : J l = I l := g1 l nla (fun k hk => Ne.symm (slot k hk).2.2.1)
    have cm : (jI (m : Int) ≤ jI (m : Int)) := by rw [jI_le (by omega) (by omega) (by omega) (by omega)]; omega
    refine ⟨J, ?_, fun q => ?_, fun q => ?_, g1, g2⟩
    · show fX8_bindNames_2 kk a (jI (m : Int)) (K, J, R, L, N, w) = _
      unfold fX8_bindNames_2
      rw [o_gR ka, o_ob, r5, es J Jl, o_ob, if_pos cm]
    · rcases hc with ⟨c0, _⟩ | ⟨cA, _⟩
      · exact ⟨hB, c0⟩
      · exact absurd q cA
    · rcases hc with ⟨c0, hq⟩ | ⟨_, c3, c11⟩
      · exact absurd (by rw [hA]; exact fnd_no (fun j x y => hq j x (by omega))) q
      · exact ⟨c3, c11⟩
end PAR
