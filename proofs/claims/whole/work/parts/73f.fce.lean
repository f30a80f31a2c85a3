section FCG
variable {K : Nat → Nat} {I : Nat → Nat → Int32} {R : Nat → Nat → Nat} {L : Nat → Nat → Int64} {N : Nat → Nat} {w : Nat × Nat × Nat × Nat} {X U C Z : Nat}
variable {b many k m n pc pu : Nat} {P : PG} {r nt cr t : Nat → Int} {A : Nat → Nat → Int} {fp : Int} {im : Option DS}
/-- the flaws of a field: their number, or one of them -/
def flQ (q : Nat → Bool) (lo c : Nat) (wh : Int) : Nat ⊕ Int32 := if wh = -1 then .inr (jI (cnt (fun i => q (lo + i)) c : Nat)) else if 0 ≤ wh ∧ wh < (cnt (fun i => q (lo + i)) c : Nat) then .inr (jI (flw q lo c wh.toNat)) else .inl 1
theorem flw_r {q : Nat → Bool} {lo c : Nat} (j : Nat) : flw q lo c j = -1 ∨ ∃ m : Nat, flw q lo c j = (m : Int) ∧ lo ≤ m ∧ m < lo + c := by
  by_cases h : flw q lo c j = -1
  · exact Or.inl h
  · obtain ⟨m', a1, a2, a3, -⟩ := (flw_at j).2 h
    exact Or.inr ⟨m', a1, a2, a3⟩
theorem e_fl81 {q : Nat → Bool} {lo c j : Nat} {wh : Int} {h : Hp} (w1 : -2147483648 ≤ wh) (w2 : wh < 2147483648) (hlo : lo + c ≤ 512) (hj : j ≤ c) (st : c ≤ j ∨ flw q lo c j = -1 ∨ (j : Int) = wh) (hs : j = 0 ∨ flw q lo c (j - 1) ≠ -1) (hw : 0 ≤ wh → (j : Int) ≤ wh) : fX12_flaws_81 h (jI wh) (jI (flw q lo c j)) (jI (j : Int)) = some (flQ q lo c wh) := by
  have nn := flw_at (q := q) (lo := lo) (n := c) j
  have cl := cnt_le (fun i => q (lo + i)) c
  have rb : -1 ≤ flw q lo c j ∧ flw q lo c j < 512 := by
    rcases flw_r (q := q) (lo := lo) (c := c) j with e | ⟨m', e, f⟩ <;> omega
  have lw : j ≤ cnt (fun i => q (lo + i)) c := by
    rcases hs with e | e
    · omega
    · obtain ⟨m', -, -, -, -, -, e6⟩ := (flw_at (j - 1)).2 e
      omega
  obtain ⟨ct, hct⟩ : ∃ ct, ct = cnt (fun i => q (lo + i)) c := ⟨_, rfl⟩
  have nn1 : flw q lo c j = -1 → ct = j := fun e => by have := nn.1 e; omega
  have nn2 : flw q lo c j ≠ -1 → j < ct := fun e => by obtain ⟨m', -, -, -, -, -, e6⟩ := nn.2 e; omega
  unfold fX12_flaws_81 fX12_flaws_101 flQ
  rw [← hct] at cl lw ⊢
  clear nn hs
  by_cases x : wh = -1
  · have f1 : flw q lo c j = -1 := by
      by_cases e : flw q lo c j = -1
      · exact e
      · have := nn2 e; omega
    rw [if_pos x, if_pos (show jI wh = -1 by rw [x]; rfl), nn1 f1]
  have x1 : ¬ (jI wh = -1) := by
    rw [show (-1 : Int32) = jI (-1) from rfl, jIe w1 w2 (by omega) (by omega)]; exact x
  rw [if_neg x, if_neg x1]
  by_cases y : wh < 0
  · have y1 : jI wh < 0 := by
      clear nn1 nn2
      simp (disch := omega) only [jI_lit, jI_neg, jI_add, jI_sub, jI_mul, jI_lt, jI_le, jI_eq, va_up_self, va_up_ne, jI_shr1, jI_shr4, jI_shr0, jI_and1, jI_and15, jF_at, tn, b2_t, b2_f, cmp_ge, cmp_gt, cmp_le, cmp_lt, cmp_eq, jL_lit, jL_lt, jL_le, jL_eq]; omega
    rw [if_pos y1, if_neg (by omega)]
  have y1 : ¬ (jI wh < 0) := by
    clear nn1 nn2
    simp (disch := omega) only [jI_lit, jI_neg, jI_add, jI_sub, jI_mul, jI_lt, jI_le, jI_eq, va_up_self, va_up_ne, jI_shr1, jI_shr4, jI_shr0, jI_and1, jI_and15, jF_at, tn, b2_t, b2_f, cmp_ge, cmp_gt, cmp_le, cmp_lt, cmp_eq, jL_lit, jL_lt, jL_le, jL_eq]; omega
  have hw' := hw (by omega)
  rw [if_neg y1]
  by_cases f : flw q lo c j = -1
  · have e := nn1 f
    rw [if_pos (show jI (flw q lo c j) = -1 by rw [f]; rfl), if_neg (by omega)]
  · have e := nn2 f
    have ej : (j : Int) = wh := by omega
    have f1 : ¬ (jI (flw q lo c j) = -1) := by
      rw [show (-1 : Int32) = jI (-1) from rfl, jIe (by omega) (by omega) (by omega) (by omega)]; exact f
    rw [if_neg f1, if_pos (by omega), show wh.toNat = j by omega]
theorem y_Flaws {p l wh : Int} {z : Bool} (h : RC K I R N X b many P r k A m nt cr n t fp im pc pu) (p1 : -2147483648 ≤ p) (p2 : p < 2147483648) (l1 : -2147483648 ≤ l) (l2 : l < 2147483648) (w1 : -2147483648 ≤ wh) (w2 : wh < 2147483648) : fX12_flaws b (jI p) (jI l) (jI (b2 z)) (jI wh) (K, I, R, L, N, w) = some (if 1 ≤ l ∧ l ≤ 64 ∧ 0 ≤ p ∧ p + l ≤ 256 then flQ (flz r z p.toNat l.toNat) (2 * p.toNat) (2 * l.toNat) wh else .inl 2) := by
  obtain ⟨kb, r10, kd, rd, hr, ⟨g, hI⟩, ok⟩ := RC_now h
  have e := e_nFd (I := I) (R := R) (L := L) (N := N) (w := w) (mx := 64) kb p1 p2 l1 l2 (by omega) (by omega)
  unfold fX12_flaws
  rw [o_gd _ kb, show (64 : Int32) = jI 64 from rfl, e]
  by_cases c : 1 ≤ l ∧ l ≤ 64 ∧ 0 ≤ p ∧ p + l ≤ 256
  · obtain ⟨p', hp'⟩ : ∃ p' : Nat, p = (p' : Int) := ⟨p.toNat, by omega⟩
    obtain ⟨l', hl'⟩ : ∃ l' : Nat, l = (l' : Int) := ⟨l.toNat, by omega⟩
    subst hp' hl'
    rw [if_pos c, if_pos c, o_oer, show ((p' : Int)).toNat = p' by omega, show ((l' : Int)).toNat = l' by omega]
    have ff : ∀ f, f ≤ 2 * (p' + l') → fX10_firstFlaw (b + 54) (jI (p' : Int)) (jI (l' : Int)) (jI (b2 z)) (jI (f : Int)) (K, I, R, L, N, w) = some (jI (fnd (flz r z p' l') f (2 * (p' + l') - f))) := fun f hf => by
      rw [e_flaw (L := L) (w := w) (z := z) (f := f) hr hI (cls_byt ok.1) (by omega) (by omega) hf, flz_cls (by omega)]
    clear ok h e hI hr
    obtain ⟨q, hq⟩ : ∃ q, q = flz r z p' l' := ⟨_, rfl⟩
    rw [← hq] at ff ⊢
    have f0 := ff (2 * p') (by omega)
    rw [show 2 * (p' + l') - 2 * p' = 2 * l' by omega] at f0
    have e2 : (2 : Int32) * jI (p' : Int) = jI ((2 * p' : Nat) : Int) := by rw [show (2 : Int32) = jI 2 from rfl, jI_mul]; congr 1
    have e3 : (2 : Int32) * jI (l' : Int) = jI ((2 * l' : Nat) : Int) := by rw [show (2 : Int32) = jI 2 from rfl, jI_mul]; congr 1
    rw [o_gR kb, o_ob, r10, o_gR kd, o_ob, rd, e2, f0, o_ob]
    have key := lp_sr (z := fun _ _ _ _ _ _ _ _ => none) (S := fX12_flaws_32 (K, I, R, L, N, w)) (β := Nat ⊕ Int32) (σ := Unit) (fun kk j _ => kk b (jI (p' : Int)) (jI (l' : Int)) (jI (b2 z)) (jI wh) (jI (flw q (2 * p') (2 * l') j)) (jI (j : Int)) (jI (j : Int))) (2 * l')
      (fun j _ => (j = 0 ∨ flw q (2 * p') (2 * l') (j - 1) ≠ -1) ∧ (0 ≤ wh → (j : Int) ≤ wh)) (fun res => res = some (flQ q (2 * p') (2 * l') wh)) ?_ ?_ FU 0 () (by omega) (FU_lt (by omega)) ⟨Or.inl rfl, fun h => h⟩
    · exact key
    · intro j _ hj ⟨i1, i2⟩ kk
      have rg := flw_r (q := q) (lo := 2 * p') (c := 2 * l') j
      by_cases s1 : flw q (2 * p') (2 * l') j = -1
      · left
        show fX12_flaws_32 _ kk _ _ _ _ _ _ _ _ = _
        have x0 : ¬ (jI ((2 * l' : Nat) : Int) ≤ jI (j : Int)) := by
          clear ff i1 i2 rg
          simp (disch := omega) only [jI_lit, jI_neg, jI_add, jI_sub, jI_mul, jI_lt, jI_le, jI_eq, va_up_self, va_up_ne, jI_shr1, jI_shr4, jI_shr0, jI_and1, jI_and15, jF_at, tn, b2_t, b2_f, cmp_ge, cmp_gt, cmp_le, cmp_lt, cmp_eq, jL_lit, jL_lt, jL_le, jL_eq]; omega
        unfold fX12_flaws_32
        rw [e3, if_neg x0, if_pos (show jI (flw q (2 * p') (2 * l') j) = -1 by rw [s1]; rfl)]
        exact e_fl81 w1 w2 (by omega) (by omega) (Or.inr (Or.inl s1)) i1 i2
      · obtain ⟨m', g1, g2, g3⟩ : ∃ m' : Nat, flw q (2 * p') (2 * l') j = (m' : Int) ∧ 2 * p' ≤ m' ∧ m' < 2 * p' + 2 * l' := by
          rcases rg with q' | q'
          · exact absurd q' s1
          · exact q'
        have x0 : ¬ (jI ((2 * l' : Nat) : Int) ≤ jI (j : Int)) := by
          clear ff i1 i2 rg
          simp (disch := omega) only [jI_lit, jI_neg, jI_add, jI_sub, jI_mul, jI_lt, jI_le, jI_eq, va_up_self, va_up_ne, jI_shr1, jI_shr4, jI_shr0, jI_and1, jI_and15, jF_at, tn, b2_t, b2_f, cmp_ge, cmp_gt, cmp_le, cmp_lt, cmp_eq, jL_lit, jL_lt, jL_le, jL_eq]; omega
        have x1 : ¬ (jI (flw q (2 * p') (2 * l') j) = -1) := by
          rw [show (-1 : Int32) = jI (-1) from rfl, jIe (by omega) (by omega) (by omega) (by omega)]; exact s1
        by_cases s2 : (j : Int) = wh
        · left
          show fX12_flaws_32 _ kk _ _ _ _ _ _ _ _ = _
          unfold fX12_flaws_32
          rw [e3, if_neg x0, if_neg x1, if_pos (show jI (j : Int) = jI wh by rw [s2])]
          exact e_fl81 w1 w2 (by omega) (by omega) (Or.inr (Or.inr s2)) i1 i2
        · right
          refine ⟨(), ⟨Or.inr (by rw [show j + 1 - 1 = j by omega]; exact s1), fun h0 => by have := i2 h0; omega⟩, ?_⟩
          show fX12_flaws_32 _ kk _ _ _ _ _ _ _ _ = _
          have x2 : ¬ (jI (j : Int) = jI wh) := by
            rw [jIe (by omega) (by omega) w1 w2]; exact s2
          have e4 : jI (j : Int) + 1 = jI ((j + 1 : Nat) : Int) := by rw [show (1 : Int32) = jI 1 from rfl, jI_add]; congr 1
          have e5 : jI (flw q (2 * p') (2 * l') j) + 1 = jI ((m' + 1 : Nat) : Int) := by rw [show (1 : Int32) = jI 1 from rfl, g1, jI_add]; congr 1
          have e6 : flw q (2 * p') (2 * l') (j + 1) = fnd q (m' + 1) (2 * (p' + l') - (m' + 1)) := by
            show (if flw q (2 * p') (2 * l') j = -1 then -1 else fnd q ((flw q (2 * p') (2 * l') j).toNat + 1) (2 * p' + 2 * l' - ((flw q (2 * p') (2 * l') j).toNat + 1))) = _
            rw [if_neg s1, g1, show ((m' : Int)).toNat = m' by omega, show 2 * p' + 2 * l' = 2 * (p' + l') by omega]
          have f1 := ff (m' + 1) (by omega)
          unfold fX12_flaws_32
          rw [e3, if_neg x0, if_neg x1, if_neg x2, o_lt, o_gR kb, o_ob, r10, o_gR kd, o_ob, rd, e5, f1, o_ob, o_lt, e4, e6]
    · intro _ ⟨i1, i2⟩ kk
      show fX12_flaws_32 _ kk _ _ _ _ _ _ _ _ = _
      unfold fX12_flaws_32
      rw [e3, if_pos (show jI ((2 * l' : Nat) : Int) ≤ jI ((2 * l' : Nat) : Int) from Int32.le_refl _)]
      exact e_fl81 w1 w2 (by omega) (by omega) (Or.inl (Nat.le_refl _)) i1 i2
  · rw [if_neg c, if_neg c, o_oei]
end FCG
