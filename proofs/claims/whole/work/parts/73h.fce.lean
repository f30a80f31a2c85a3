section FCI
variable {K : Nat → Nat} {I : Nat → Nat → Int32} {R : Nat → Nat → Nat} {L : Nat → Nat → Int64} {N : Nat → Nat} {w : Nat × Nat × Nat × Nat} {X U C Z : Nat}
variable {b many k m n pc pu : Nat} {P : PG} {r nt cr t : Nat → Int} {A : Nat → Nat → Int} {fp : Int} {im : Option DS}
/-- which addends round up at a digit -/
def rnM (d : Nat) : Nat → Int
  | 0 => 0
  | i + 1 => if d + i ≤ 9 then rnM d i else rnM d i + 2 ^ i
theorem rn_or : ∀ d : Fin 10, ∀ i : Fin 10, jI (rnM d.val i.val) ||| (jI 1 <<< (jI ((i.val : Nat) : Int) &&& jI 31)) = jI (rnM d.val i.val + 2 ^ i.val) := by decide +kernel
theorem y_Rounds {p l a : Int} (h : RC K I R N X b many P r k A m nt cr n t fp im pc pu) (p1 : -2147483648 ≤ p) (p2 : p < 2147483648) (l1 : -2147483648 ≤ l) (l2 : l < 2147483648) (a1 : -2147483648 ≤ a) (a2 : a < 2147483648) : SCo K N w X b many P r k A m nt cr n t fp im pc pu (if 1 ≤ a ∧ a ≤ 32 then (if 1 ≤ l ∧ l ≤ 16 ∧ 0 ≤ p ∧ p + l ≤ 256 then (if fnd (flz r false p.toNat l.toNat) (2 * p.toNat) (2 * l.toNat) = -1 then (.inr (jI (rnM (dg (pkv r p.toNat l.toNat) (a - 1).toNat) 10)) : Nat ⊕ Int32) else .inl 1) else .inl 2) else .inl 2) (fX12_rounds b (jI p) (jI l) (jI a) (K, I, R, L, N, w)) := by
  obtain ⟨kb, r10, kd, rd, hr, ⟨g, hI⟩, ok⟩ := RC_now h
  obtain ⟨r7, -, -, d1, -⟩ := RC_decs h
  have e1 := e_nFd (I := I) (R := R) (L := L) (N := N) (w := w) (mx := 16) kb p1 p2 l1 l2 (by omega) (by omega)
  have hb := ok.1
  clear ok
  unfold fX12_rounds fX12_rounds_11
  rw [o_gd _ kb, show (16 : Int32) = jI 16 from rfl, e1]
  by_cases x : 1 ≤ a ∧ a ≤ 32
  rotate_left
  · rw [if_neg x]
    refine ⟨I, R, L, ?_, h⟩
    by_cases y : a < 1
    · have y1 : jI a < 1 := by simp (disch := omega) only [jI_lit, jI_neg, jI_add, jI_sub, jI_mul, jI_lt, jI_le, jI_eq, va_up_self, va_up_ne, jI_shr1, jI_shr4, jI_shr0, jI_and1, jI_and15, jF_at, tn, b2_t, b2_f, cmp_ge, cmp_gt, cmp_le, cmp_lt, cmp_eq, jL_lit, jL_lt, jL_le, jL_eq]; omega
      rw [if_pos y1]
    · have y1 : ¬ (jI a < 1) := by simp (disch := omega) only [jI_lit, jI_neg, jI_add, jI_sub, jI_mul, jI_lt, jI_le, jI_eq, va_up_self, va_up_ne, jI_shr1, jI_shr4, jI_shr0, jI_and1, jI_and15, jF_at, tn, b2_t, b2_f, cmp_ge, cmp_gt, cmp_le, cmp_lt, cmp_eq, jL_lit, jL_lt, jL_le, jL_eq]; omega
      have y2 : ¬ (jI a ≤ 32) := by simp (disch := omega) only [jI_lit, jI_neg, jI_add, jI_sub, jI_mul, jI_lt, jI_le, jI_eq, va_up_self, va_up_ne, jI_shr1, jI_shr4, jI_shr0, jI_and1, jI_and15, jF_at, tn, b2_t, b2_f, cmp_ge, cmp_gt, cmp_le, cmp_lt, cmp_eq, jL_lit, jL_lt, jL_le, jL_eq]; omega
      rw [if_neg y1, if_neg y2]
  have y1 : ¬ (jI a < 1) := by simp (disch := omega) only [jI_lit, jI_neg, jI_add, jI_sub, jI_mul, jI_lt, jI_le, jI_eq, va_up_self, va_up_ne, jI_shr1, jI_shr4, jI_shr0, jI_and1, jI_and15, jF_at, tn, b2_t, b2_f, cmp_ge, cmp_gt, cmp_le, cmp_lt, cmp_eq, jL_lit, jL_lt, jL_le, jL_eq]; omega
  have y2 : jI a ≤ 32 := by simp (disch := omega) only [jI_lit, jI_neg, jI_add, jI_sub, jI_mul, jI_lt, jI_le, jI_eq, va_up_self, va_up_ne, jI_shr1, jI_shr4, jI_shr0, jI_and1, jI_and15, jF_at, tn, b2_t, b2_f, cmp_ge, cmp_gt, cmp_le, cmp_lt, cmp_eq, jL_lit, jL_lt, jL_le, jL_eq]; omega
  rw [if_pos x, if_neg y1, if_pos y2]
  by_cases f : 1 ≤ l ∧ l ≤ 16 ∧ 0 ≤ p ∧ p + l ≤ 256
  rotate_left
  · rw [if_neg f, if_neg f, o_oei]
    exact ⟨I, R, L, rfl, h⟩
  have es := e_nSo (L := L) (w := w) (z := false) (p := p.toNat) (q := l.toNat) h (by omega) (by omega)
  rw [show ((p.toNat : Nat) : Int) = p by omega, show ((l.toNat : Nat) : Int) = l by omega] at es
  rw [if_pos f, if_pos f, o_oer, show (0 : Int32) = jI (b2 false) from rfl, es]
  by_cases s : fnd (flz r false p.toNat l.toNat) (2 * p.toNat) (2 * l.toNat) = -1
  rotate_left
  · rw [if_neg s, if_neg s, o_oei]
    exact ⟨I, R, L, rfl, h⟩
  have t1 := e_pkd (L := L) (w := w) (p := p.toNat) (q := l.toNat) d1 hr hI hb (by omega) (by omega) s (by omega)
  obtain ⟨v, hv⟩ : ∃ v, v = pkv r p.toNat l.toNat := ⟨_, rfl⟩
  rw [← hv, show ((p.toNat : Nat) : Int) = p by omega, show ((l.toNat : Nat) : Int) = l by omega] at t1
  obtain ⟨I1, hI1⟩ : ∃ I1, I1 = dset I (b + 47) v (pks r p.toNat l.toNat) := ⟨_, rfl⟩
  rw [← hI1] at t1
  have dv1 : DV I1 (b + 47) v (pks r p.toNat l.toNat) := by rw [hI1]; exact DV_dset _ _ _ _
  have h1 : RC K I1 R N X b many P r k A m nt cr n t fp im pc pu := RC_I h (fun y hy => by rw [hI1]; exact dset_ne _ _ _ _ (by omega) (by omega))
  rw [if_pos s, if_pos s, o_oer, o_gR kb, o_ob, r7, o_gR kb, o_ob, r10, o_gR kd, o_ob, rd, t1, o_ob, ← hv]
  refine ⟨I1, R, L, ?_, h1⟩
  have ed := e_digit (L := L) (w := w) (z := a - 1) d1 dv1 (by omega) (by omega)
  rw [if_pos (by omega)] at ed
  have d9 := dg_lt v (a - 1).toNat
  obtain ⟨d, hd⟩ : ∃ d, d = dg v (a - 1).toNat := ⟨_, rfl⟩
  rw [← hd] at ed d9 ⊢
  have ea : jI a - 1 = jI (a - 1) := by simp (disch := omega) only [jI_lit, jI_neg, jI_add, jI_sub, jI_mul, o_gI, o_gR, o_pI, o_pZ0, o_pZ1, o_pZb, o_pR, o_aI, o_qI, o_aN, tn, va_up_self, va_up_ne, upup, jI_shr1, jI_shr4, jI_shr0, jI_and1, jI_and15, jI_join, jI_240, jI_hi, jF_at, jF_up, jI_max, jI_min, b2_t, b2_f, Bool.not_true, Bool.not_false, eq_self, true_or, or_true]
  clear es e1 t1 hv hI1 dv1 h1 hb s h hI hr d1 f y1 y2 x
  have key := lp_up (z := fun _ _ _ _ _ => none) (S := fX12_rounds_58) (β := (Nat ⊕ Int32) × Hp) (fun kk i => kk b (jI a) (jI (rnM d i)) (jI ((i : Nat) : Int)) (K, I1, R, L, N, w)) (E := some (.inr (jI (rnM d 10)), (K, I1, R, L, N, w))) (M := 10) ?_ ?_ FU 0 (by omega) (FU_lt (by omega))
  · exact key
  · intro i hi kk
    show fX12_rounds_58 kk _ _ _ _ _ = _
    have x1 : ¬ ((9 : Int32) < jI ((i : Nat) : Int)) := by simp (disch := omega) only [jI_lit, jI_neg, jI_add, jI_sub, jI_mul, jI_lt, jI_le, jI_eq, va_up_self, va_up_ne, jI_shr1, jI_shr4, jI_shr0, jI_and1, jI_and15, jF_at, tn, b2_t, b2_f, cmp_ge, cmp_gt, cmp_le, cmp_lt, cmp_eq, jL_lit, jL_lt, jL_le, jL_eq]; omega
    have e2 : jI ((i : Nat) : Int) + 1 = jI ((i + 1 : Nat) : Int) := by rw [show (1 : Int32) = jI 1 from rfl, jI_add]; congr 1
    have er : rnM d (i + 1) = if d + i ≤ 9 then rnM d i else rnM d i + 2 ^ i := rfl
    unfold fX12_rounds_58
    rw [if_neg x1, o_gR kb, o_ob, r7, ea, ed, o_ob]
    by_cases c : d + i ≤ 9
    · have x2 : jI (d : Int) + jI ((i : Nat) : Int) ≤ 9 := by simp (disch := omega) only [jI_lit, jI_neg, jI_add, jI_sub, jI_mul, jI_lt, jI_le, jI_eq, va_up_self, va_up_ne, jI_shr1, jI_shr4, jI_shr0, jI_and1, jI_and15, jF_at, tn, b2_t, b2_f, cmp_ge, cmp_gt, cmp_le, cmp_lt, cmp_eq, jL_lit, jL_lt, jL_le, jL_eq]; omega
      rw [if_pos x2, o_lt, e2, er, if_pos c]
    · have x2 : ¬ (jI (d : Int) + jI ((i : Nat) : Int) ≤ 9) := by simp (disch := omega) only [jI_lit, jI_neg, jI_add, jI_sub, jI_mul, jI_lt, jI_le, jI_eq, va_up_self, va_up_ne, jI_shr1, jI_shr4, jI_shr0, jI_and1, jI_and15, jF_at, tn, b2_t, b2_f, cmp_ge, cmp_gt, cmp_le, cmp_lt, cmp_eq, jL_lit, jL_lt, jL_le, jL_eq]; omega
      have x3 := rn_or ⟨d, d9⟩ ⟨i, by omega⟩
      have x4 : jI (rnM d i) ||| ((1 : Int32) <<< (jI ((i : Nat) : Int) &&& 31)) = jI (rnM d i + 2 ^ i) := x3
      rw [if_neg x2, o_lt, x4, o_lt, e2, er, if_neg c]
  · intro kk
    show fX12_rounds_58 kk _ _ _ _ _ = _
    unfold fX12_rounds_58
    rw [if_pos (show (9 : Int32) < jI ((10 : Nat) : Int) by decide)]
/-- what unedited answers -/
def unQ (r : Nat → Int) (p n q : Nat) (wt : Int) : Nat ⊕ Int64 :=
  if wt = -1 then .inr (jL ((wy (fun k => r (p + k)) (fun k => r (q + k)) n n false false + wy (fun k => r (p + k)) (fun k => r (q + k)) n n false true : Nat) : Int))
  else if wy (fun k => r (p + k)) (fun k => r (q + k)) n n false false + wy (fun k => r (p + k)) (fun k => r (q + k)) n n false true = 0 then .inl 1
  else if -2 ≤ wt ∧ wt < (cnt (fun k => isD (r (p + k))) n : Nat) then .inr (jL (fsA (fun k => r (p + k)) (fun k => r (q + k)) n wt)) else .inl 1
theorem fsA_r (c v : Nat → Int) (q : Nat) (wt : Int) : 0 ≤ fsA c v q wt ∧ fsA c v q wt < 10 := by
  unfold fsA
  by_cases x : fnd (fsq c v q wt) 0 q = -1
  · rw [if_pos x]
    by_cases y : (fsO c v q q).1.isSome = true
    · rw [if_pos y]; omega
    · rw [if_neg y]; omega
  · rw [if_neg x]
    have := fdg_r c v q (fnd (fsq c v q wt) 0 q).toNat (fsO c v q (fnd (fsq c v q wt) 0 q).toNat).1 (fsO c v q (fnd (fsq c v q wt) 0 q).toNat).2.1
    omega
theorem y_Unedited {p l q wt : Int} (h : RC K I R N X b many P r k A m nt cr n t fp im pc pu) (p1 : -2147483648 ≤ p) (p2 : p < 2147483648) (l1 : -2147483648 ≤ l) (l2 : l < 2147483648) (q1 : -2147483648 ≤ q) (q2 : q < 2147483648) (w1 : -2147483648 ≤ wt) (w2 : wt < 2147483648) : SCo K N w X b many P r k A m nt cr n t fp im pc pu (if 1 ≤ l ∧ l ≤ 32 ∧ 0 ≤ p ∧ p + l ≤ 256 then (if 1 ≤ l ∧ l ≤ 32 ∧ 0 ≤ q ∧ q + l ≤ 256 then unQ r p.toNat l.toNat q.toNat wt else .inl 2) else .inl 2) (fX12_unedited b (jI p) (jI l) (jI q) (jI wt) (K, I, R, L, N, w)) := by
  obtain ⟨kb, r10, kd, rd, hr, ⟨g, hI⟩, ok⟩ := RC_now h
  obtain ⟨-, -, -, -, -, -, r6, ed⟩ := RC_decs h
  have e1 := e_nFd (I := I) (R := R) (L := L) (N := N) (w := w) (mx := 32) kb p1 p2 l1 l2 (by omega) (by omega)
  have e2 := e_nFd (I := I) (R := R) (L := L) (N := N) (w := w) (mx := 32) kb q1 q2 l1 l2 (by omega) (by omega)
  have hb := ok.1
  clear ok
  unfold fX12_unedited fX12_unedited_70
  rw [o_gd _ kb, show (32 : Int32) = jI 32 from rfl, e1, e2]
  by_cases f : 1 ≤ l ∧ l ≤ 32 ∧ 0 ≤ p ∧ p + l ≤ 256
  rotate_left
  · rw [if_neg f, if_neg f, o_oei]
    exact ⟨I, R, L, rfl, h⟩
  by_cases f2 : 1 ≤ l ∧ l ≤ 32 ∧ 0 ≤ q ∧ q + l ≤ 256
  rotate_left
  · rw [if_pos f, if_pos f, if_neg f2, if_neg f2, o_oer, o_oei]
    exact ⟨I, R, L, rfl, h⟩
  obtain ⟨I', L', es, sr, i15, hL, fr, -⟩ := e_sources (L := L) (w := w) (pp := p.toNat) (n := l.toNat) (q := q.toNat) ed hr hI hb (by omega) (by omega) (by omega) (by omega) (by omega)
  rw [show ((p.toNat : Nat) : Int) = p by omega, show ((l.toNat : Nat) : Int) = l by omega, show ((q.toNat : Nat) : Int) = q by omega] at es
  have h1 : RC K I' R N X b many P r k A m nt cr n t fp im pc pu := RC_I h (fun y hy => fr y (by omega) (by omega) (by omega))
  have k3 : K (b + 40) = 3 := ed.1
  have cl := cnt_le (fun k => isD (r (p.toNat + k))) l.toNat
  have b1 := wy_le (fun k => r (p.toNat + k)) (fun k => r (q.toNat + k)) l.toNat l.toNat false false
  have b2' := wy_le (fun k => r (p.toNat + k)) (fun k => r (q.toNat + k)) l.toNat l.toNat false true
  have b3 : 2 ^ l.toNat ≤ 2 ^ 32 := Nat.pow_le_pow_right (by omega) (by omega)
  have fs := fun c1 c2 => e_firstSource (L := L') (w := w) (wt := wt) sr hL c1 c2
  have fr2 := fsA_r (fun k => r (p.toNat + k)) (fun k => r (q.toNat + k)) l.toNat wt
  rw [if_pos f, if_pos f, if_pos f2, if_pos f2, o_oer, o_oer, o_gR kb, o_ob, r6, o_gR kb, o_ob, r10, o_gR kd, o_ob, rd, es, o_ob2]
  unfold unQ
  obtain ⟨tot, htot⟩ : ∃ tot, tot = wy (fun k => r (p.toNat + k)) (fun k => r (q.toNat + k)) l.toNat l.toNat false false + wy (fun k => r (p.toNat + k)) (fun k => r (q.toNat + k)) l.toNat l.toNat false true := ⟨_, rfl⟩
  have tb : tot < 2 ^ 40 := by rw [htot]; omega
  obtain ⟨ct, hct⟩ : ∃ ct, ct = cnt (fun k => isD (r (p.toNat + k))) l.toNat := ⟨_, rfl⟩
  obtain ⟨fv, hfv⟩ : ∃ fv, fv = fsA (fun k => r (p.toNat + k)) (fun k => r (q.toNat + k)) l.toNat wt := ⟨_, rfl⟩
  rw [← hfv] at fs fr2
  rw [← hct] at i15 cl
  rw [← htot, ← hct, ← hfv]
  refine ⟨I', R, L', ?_, h1⟩
  clear htot hct hfv b1 b2' b3 hL sr es h h1 hb hI hr e1 e2 f2
  by_cases x : wt = -1
  · rw [if_pos (show jI wt = -1 by rw [x]; rfl), if_pos x]
  rw [if_neg (show ¬ jI wt = -1 by rw [show (-1 : Int32) = jI (-1) from rfl, jIe w1 w2 (by omega) (by omega)]; exact x), if_neg x]
  by_cases y : tot = 0
  · have y1 : lg_cmp (jL (tot : Int)) 0 = 0 := by rw [y]; decide
    rw [if_pos y1, if_pos y]
  have y1 : ¬ (lg_cmp (jL (tot : Int)) 0 = 0) := by
    rw [show (0 : Int32) = jI 0 from rfl, cmp_eq, show (0 : Int64) = jL 0 from rfl, jL_eq (by omega) (by omega) (by omega) (by omega)]
    omega
  rw [if_neg y1, if_neg y]
  by_cases u : wt < -2
  · have u1 : jI wt < -2 := by
      clear fs
      rw [show (-2 : Int32) = jI (-2) from rfl, jI_lt w1 w2 (by omega) (by omega)]; omega
    rw [if_pos u1, if_neg (by omega)]
  have u1 : ¬ (jI wt < -2) := by
    clear fs
    rw [show (-2 : Int32) = jI (-2) from rfl, jI_lt w1 w2 (by omega) (by omega)]; omega
  have edg : fX3_digits (b + 40) (K, I', R, L', N, w) = some (jI (ct : Int)) := by
    unfold fX3_digits
    rw [o_gd _ k3, o_gI k3, o_ob, i15]
  rw [if_neg u1, o_gR kb, o_ob, r6, edg, o_ob]
  by_cases v : wt < ct
  · have v1 : jI wt < jI (ct : Int) := by
      clear fs
      rw [jI_lt w1 w2 (by omega) (by omega)]; omega
    rw [if_pos v1, o_ob, fs (by omega) (by omega), o_ob, jI_long (by omega) (by omega), if_pos (by omega)]
  · have v1 : ¬ (jI wt < jI (ct : Int)) := by
      clear fs
      rw [jI_lt w1 w2 (by omega) (by omega)]; omega
    rw [if_neg v1, if_neg (by omega)]
end FCI
