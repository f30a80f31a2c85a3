section FCB
variable {K : Nat → Nat} {I : Nat → Nat → Int32} {R : Nat → Nat → Nat} {L : Nat → Nat → Int64} {N : Nat → Nat} {w : Nat × Nat × Nat × Nat} {X U C Z : Nat}
variable {b many k m n pc pu : Nat} {P : PG} {r nt cr t : Nat → Int} {A : Nat → Nat → Int} {fp : Int} {im : Option DS}
def cau (r : Nat → Int) : Int := if r 278 = 0 then 0 else if r 280 = 4 ∨ r 280 = 5 then 3 else 2
theorem cau_le (r : Nat → Int) : 0 ≤ cau r ∧ cau r ≤ 3 := by
  unfold cau
  by_cases q : r 278 = 0
  · rw [if_pos q]; omega
  · rw [if_neg q]
    by_cases q2 : r 280 = 4 ∨ r 280 = 5
    · rw [if_pos q2]; omega
    · rw [if_neg q2]; omega
theorem y_Why {a c : Int} (h : RC K I R N X b many P r k A m nt cr n t fp im pc pu) (a1 : -2147483648 ≤ a) (a2 : a < 2147483648) (c1 : -2147483648 ≤ c) (c2 : c < 2147483648) : fX12_why b (jI a) (jI c) (K, I, R, L, N, w) = some (if 0 ≤ a ∧ a < cau r ∧ 0 ≤ c ∧ c < 3 then .inr (jI (r (280 + 3 * a.toNat + c.toNat))) else .inl 1) := by
  obtain ⟨kb, r10, kd, rd, hr, ⟨g, hI⟩, ok⟩ := RC_now h
  obtain ⟨-, -, -, -, -, -, -, -, -, ⟨t1, t2⟩, ⟨t3, t4⟩, -, t5, ⟨t6, t7⟩, t8, -⟩ := ok
  have e : fX10_causes (b + 54) (K, I, R, L, N, w) = some (jI (cau r)) := e_causes (L := L) (w := w) hr hI t3 (by omega) t6 t7
  obtain ⟨q0, q2⟩ := cau_le r
  have q3 : cau r = 3 → r 289 = 1 := fun q => by
    rw [t8, if_pos]
    unfold cau at q
    split at q
    · omega
    · split at q
      · assumption
      · omega
  clear t8 t5
  obtain ⟨q, hq⟩ : ∃ q, q = cau r := ⟨_, rfl⟩
  rw [← hq] at e q2 q0 q3 ⊢
  unfold fX12_why fX12_why_33
  rw [o_gd _ kb, o_gR kb, o_ob, r10, o_gR kd, o_ob, rd, e, o_ob]
  by_cases d : 0 ≤ a ∧ a < q ∧ 0 ≤ c ∧ c < 3
  · obtain ⟨d1, d2, d3, d4⟩ := id d
    have ea : (278 : Int32) + 3 * jI a + jI c = jI (278 + 3 * a + c) := by simp (disch := omega) only [jI_lit, jI_neg, jI_add, jI_sub, jI_mul, o_gI, o_gR, o_pI, o_pZ0, o_pZ1, o_pZb, o_pR, o_aI, o_qI, o_aN, tn, va_up_self, va_up_ne, upup, jI_shr1, jI_shr4, jI_shr0, jI_and1, jI_and15, jI_join, jI_240, jI_hi, jF_at, jF_up, jI_max, jI_min, b2_t, b2_f, Bool.not_true, Bool.not_false, eq_self, true_or, or_true]
    have en : (278 + 3 * a + c).toNat + 2 = 280 + 3 * a.toNat + c.toNat := by omega
    have x1 : ¬ (jI a < 0) := by simp (disch := omega) only [jI_lit, jI_neg, jI_add, jI_sub, jI_mul, jI_lt, jI_le, jI_eq, va_up_self, va_up_ne, jI_shr1, jI_shr4, jI_shr0, jI_and1, jI_and15, jF_at, tn, b2_t, b2_f, cmp_ge, cmp_gt, cmp_le, cmp_lt, cmp_eq, jL_lit, jL_lt, jL_le, jL_eq]; omega
    have x2 : ¬ (jI q ≤ jI a) := by simp (disch := omega) only [jI_lit, jI_neg, jI_add, jI_sub, jI_mul, jI_lt, jI_le, jI_eq, va_up_self, va_up_ne, jI_shr1, jI_shr4, jI_shr0, jI_and1, jI_and15, jF_at, tn, b2_t, b2_f, cmp_ge, cmp_gt, cmp_le, cmp_lt, cmp_eq, jL_lit, jL_lt, jL_le, jL_eq]; omega
    have x3 : ¬ (jI c < 0) := by simp (disch := omega) only [jI_lit, jI_neg, jI_add, jI_sub, jI_mul, jI_lt, jI_le, jI_eq, va_up_self, va_up_ne, jI_shr1, jI_shr4, jI_shr0, jI_and1, jI_and15, jF_at, tn, b2_t, b2_f, cmp_ge, cmp_gt, cmp_le, cmp_lt, cmp_eq, jL_lit, jL_lt, jL_le, jL_eq]; omega
    have x4 : jI c ≤ 2 := by simp (disch := omega) only [jI_lit, jI_neg, jI_add, jI_sub, jI_mul, jI_lt, jI_le, jI_eq, va_up_self, va_up_ne, jI_shr1, jI_shr4, jI_shr0, jI_and1, jI_and15, jF_at, tn, b2_t, b2_f, cmp_ge, cmp_gt, cmp_le, cmp_lt, cmp_eq, jL_lit, jL_lt, jL_le, jL_eq]; omega
    rw [if_pos d, if_neg x1, if_neg x2, if_neg x3, if_pos x4, ea, e_cell hr (by omega) (by omega), o_ob, hI, jF_at]
    by_cases f : a < 2
    · rw [cls_wy (by omega) (by omega), en]
    · have r9 := q3 (by omega)
      rw [cls_hf (by omega) (by omega), if_neg (by rw [r9]; decide), en]
  · rw [if_neg d]
    clear q3
    by_cases d1 : a < 0
    · have x1 : jI a < 0 := by simp (disch := omega) only [jI_lit, jI_neg, jI_add, jI_sub, jI_mul, jI_lt, jI_le, jI_eq, va_up_self, va_up_ne, jI_shr1, jI_shr4, jI_shr0, jI_and1, jI_and15, jF_at, tn, b2_t, b2_f, cmp_ge, cmp_gt, cmp_le, cmp_lt, cmp_eq, jL_lit, jL_lt, jL_le, jL_eq]; omega
      rw [if_pos x1]
    · have x1 : ¬ (jI a < 0) := by simp (disch := omega) only [jI_lit, jI_neg, jI_add, jI_sub, jI_mul, jI_lt, jI_le, jI_eq, va_up_self, va_up_ne, jI_shr1, jI_shr4, jI_shr0, jI_and1, jI_and15, jF_at, tn, b2_t, b2_f, cmp_ge, cmp_gt, cmp_le, cmp_lt, cmp_eq, jL_lit, jL_lt, jL_le, jL_eq]; omega
      rw [if_neg x1]
      by_cases d2 : q ≤ a
      · have x2 : jI q ≤ jI a := by simp (disch := omega) only [jI_lit, jI_neg, jI_add, jI_sub, jI_mul, jI_lt, jI_le, jI_eq, va_up_self, va_up_ne, jI_shr1, jI_shr4, jI_shr0, jI_and1, jI_and15, jF_at, tn, b2_t, b2_f, cmp_ge, cmp_gt, cmp_le, cmp_lt, cmp_eq, jL_lit, jL_lt, jL_le, jL_eq]; omega
        rw [if_pos x2]
      · have x2 : ¬ (jI q ≤ jI a) := by simp (disch := omega) only [jI_lit, jI_neg, jI_add, jI_sub, jI_mul, jI_lt, jI_le, jI_eq, va_up_self, va_up_ne, jI_shr1, jI_shr4, jI_shr0, jI_and1, jI_and15, jF_at, tn, b2_t, b2_f, cmp_ge, cmp_gt, cmp_le, cmp_lt, cmp_eq, jL_lit, jL_lt, jL_le, jL_eq]; omega
        rw [if_neg x2]
        by_cases d3 : c < 0
        · have x3 : jI c < 0 := by simp (disch := omega) only [jI_lit, jI_neg, jI_add, jI_sub, jI_mul, jI_lt, jI_le, jI_eq, va_up_self, va_up_ne, jI_shr1, jI_shr4, jI_shr0, jI_and1, jI_and15, jF_at, tn, b2_t, b2_f, cmp_ge, cmp_gt, cmp_le, cmp_lt, cmp_eq, jL_lit, jL_lt, jL_le, jL_eq]; omega
          rw [if_pos x3]
        · have x3 : ¬ (jI c < 0) := by simp (disch := omega) only [jI_lit, jI_neg, jI_add, jI_sub, jI_mul, jI_lt, jI_le, jI_eq, va_up_self, va_up_ne, jI_shr1, jI_shr4, jI_shr0, jI_and1, jI_and15, jF_at, tn, b2_t, b2_f, cmp_ge, cmp_gt, cmp_le, cmp_lt, cmp_eq, jL_lit, jL_lt, jL_le, jL_eq]; omega
          have x4 : ¬ (jI c ≤ 2) := by simp (disch := omega) only [jI_lit, jI_neg, jI_add, jI_sub, jI_mul, jI_lt, jI_le, jI_eq, va_up_self, va_up_ne, jI_shr1, jI_shr4, jI_shr0, jI_and1, jI_and15, jF_at, tn, b2_t, b2_f, cmp_ge, cmp_gt, cmp_le, cmp_lt, cmp_eq, jL_lit, jL_lt, jL_le, jL_eq]; omega
          rw [if_neg x3, if_neg x4]
/-- what count answers -/
def cnQ (many : Nat) (r : Nat → Int) (k m : Nat) (cr : Nat → Int) (n : Nat) (c : Int) : Nat ⊕ Int32 :=
  if c = 0 then .inr (jI (r 277)) else if c = 1 then .inr (jI (r 276)) else if c = 2 then .inr (jI (r 265)) else if c = 3 then .inr (jI (r 264)) else if c = 4 then .inr (jI (r 266)) else if c = 5 then .inr (jI (many : Int)) else if c = 6 then .inr (jI (r 278)) else if c = 7 then .inr (jI (cnt (fun i => r (354 + i) == 0) many : Nat)) else if c = 8 then .inr (jI (min (r 277) 64)) else if c = 9 then .inr (jI (k : Int)) else if c = 10 then .inr (jI (m : Int)) else if c = 11 then .inr (jI (n : Int)) else if c = 12 then .inr (jI (cr 0)) else if c = 13 then .inr (jI (cr 1)) else if c = 14 then .inr (jI (cr 2)) else .inl 1
theorem jIe {a c : Int} (a1 : -2147483648 ≤ a) (a2 : a < 2147483648) (c1 : -2147483648 ≤ c) (c2 : c < 2147483648) : (jI a = jI c) = (a = c) := propext (jI_eq (by omega) (by omega) (by omega) (by omega))
theorem y_Cnt {c : Int} (h : RC K I R N X b many P r k A m nt cr n t fp im pc pu) (c1 : -2147483648 ≤ c) (c2 : c < 2147483648) : fX12_count b (jI c) (K, I, R, L, N, w) = some (cnQ many r k m cr n c) := by
  obtain ⟨kb, r10, kd, rd, hr, ⟨g, hI⟩, ok⟩ := RC_now h
  obtain ⟨-, rg, -, -, -, -, -, -, -, ⟨t1, t2⟩, -⟩ := ok
  have e5 := y_Ins (L := L) (w := w) h
  obtain ⟨l, -, -, -, -, -, -, -, hm⟩ := RC_prog h
  obtain ⟨l', sl, i, -, -, ⟨o, g2, -, -, -, dk, dn, rf⟩, -, tp, -⟩ := h
  have e7 := e_neverDone (L := L) (w := w) hr hI hm rg
  have e8 := e_traced (L := L) (w := w) hr hI t1 (by omega)
  have e9 := e_kept (I := I) (R := R) (L := L) (N := N) (w := w) kd dk.1.2.2.2.2.2.1
  have e10 := e_noted (I := I) (R := R) (L := L) (N := N) (w := w) kd dn.2.2.2.2.1
  have e12 := e_refused (L := L) (w := w) (wh := 0) rf (by omega)
  have e13 := e_refused (L := L) (w := w) (wh := 1) rf (by omega)
  have e14 := e_refused (L := L) (w := w) (wh := 2) rf (by omega)
  have i1 := tp.1
  have ce : ∀ z : Int, 0 ≤ z → z < 411 → fX10_cell (b + 54) (jI z) (K, I, R, L, N, w) = some (jI (cls r g z.toNat)) := fun z a1 a2 => by rw [e_cell hr a1 a2, hI, jF_at]
  clear rg dk dn rf tp hr
  unfold fX12_count cnQ
  rw [o_gd _ kb, o_gR kb, o_ob, r10, o_gR kd, o_ob, rd]
  by_cases x0 : c = 0
  · rw [if_pos (show jI c = 0 by rw [x0]; rfl), if_pos x0, show (276 : Int32) = jI 276 from rfl, ce 276 (by omega) (by omega), o_ob, cls_tm (by omega) (by omega)]
    rfl
  rw [if_neg (show ¬ jI c = 0 by rw [show (0 : Int32) = jI 0 from rfl, jIe c1 c2 (by omega) (by omega)]; exact x0), if_neg x0]
  by_cases x1 : c = 1
  · rw [if_pos (show jI c = 1 by rw [x1]; rfl), if_pos x1, show (267 : Int32) = jI 267 from rfl, ce 267 (by omega) (by omega), o_ob, show (267 : Int).toNat = 267 from rfl, cls_st]
  rw [if_neg (show ¬ jI c = 1 by rw [show (1 : Int32) = jI 1 from rfl, jIe c1 c2 (by omega) (by omega)]; exact x1), if_neg x1]
  by_cases x2 : c = 2
  · rw [if_pos (show jI c = 2 by rw [x2]; rfl), if_pos x2, show (265 : Int32) = jI 265 from rfl, ce 265 (by omega) (by omega), o_ob, cls_lo (by omega) (by omega)]
    rfl
  rw [if_neg (show ¬ jI c = 2 by rw [show (2 : Int32) = jI 2 from rfl, jIe c1 c2 (by omega) (by omega)]; exact x2), if_neg x2]
  by_cases x3 : c = 3
  · rw [if_pos (show jI c = 3 by rw [x3]; rfl), if_pos x3, show (264 : Int32) = jI 264 from rfl, ce 264 (by omega) (by omega), o_ob, cls_lo (by omega) (by omega)]
    rfl
  rw [if_neg (show ¬ jI c = 3 by rw [show (3 : Int32) = jI 3 from rfl, jIe c1 c2 (by omega) (by omega)]; exact x3), if_neg x3]
  by_cases x4 : c = 4
  · rw [if_pos (show jI c = 4 by rw [x4]; rfl), if_pos x4, show (266 : Int32) = jI 266 from rfl, ce 266 (by omega) (by omega), o_ob, cls_lo (by omega) (by omega)]
    rfl
  rw [if_neg (show ¬ jI c = 4 by rw [show (4 : Int32) = jI 4 from rfl, jIe c1 c2 (by omega) (by omega)]; exact x4), if_neg x4]
  by_cases x5 : c = 5
  · rw [if_pos (show jI c = 5 by rw [x5]; rfl), if_pos x5, e5, o_ob]
  rw [if_neg (show ¬ jI c = 5 by rw [show (5 : Int32) = jI 5 from rfl, jIe c1 c2 (by omega) (by omega)]; exact x5), if_neg x5]
  by_cases x6 : c = 6
  · rw [if_pos (show jI c = 6 by rw [x6]; rfl), if_pos x6, show (277 : Int32) = jI 277 from rfl, ce 277 (by omega) (by omega), o_ob, cls_tm (by omega) (by omega)]
    rfl
  rw [if_neg (show ¬ jI c = 6 by rw [show (6 : Int32) = jI 6 from rfl, jIe c1 c2 (by omega) (by omega)]; exact x6), if_neg x6]
  by_cases x7 : c = 7
  · rw [if_pos (show jI c = 7 by rw [x7]; rfl), if_pos x7, e5, o_ob, e7, o_ob]
  rw [if_neg (show ¬ jI c = 7 by rw [show (7 : Int32) = jI 7 from rfl, jIe c1 c2 (by omega) (by omega)]; exact x7), if_neg x7]
  by_cases x8 : c = 8
  · rw [if_pos (show jI c = 8 by rw [x8]; rfl), if_pos x8, e8, o_ob]
  rw [if_neg (show ¬ jI c = 8 by rw [show (8 : Int32) = jI 8 from rfl, jIe c1 c2 (by omega) (by omega)]; exact x8), if_neg x8]
  by_cases x9 : c = 9
  · rw [if_pos (show jI c = 9 by rw [x9]; rfl), if_pos x9, o_ob, e9, o_ob]
  rw [if_neg (show ¬ jI c = 9 by rw [show (9 : Int32) = jI 9 from rfl, jIe c1 c2 (by omega) (by omega)]; exact x9), if_neg x9]
  by_cases x10 : c = 10
  · rw [if_pos (show jI c = 10 by rw [x10]; rfl), if_pos x10, o_ob, e10, o_ob]
  rw [if_neg (show ¬ jI c = 10 by rw [show (10 : Int32) = jI 10 from rfl, jIe c1 c2 (by omega) (by omega)]; exact x10), if_neg x10]
  by_cases x11 : c = 11
  · rw [if_pos (show jI c = 11 by rw [x11]; rfl), if_pos x11, o_gI kb, o_ob, i1]
  rw [if_neg (show ¬ jI c = 11 by rw [show (11 : Int32) = jI 11 from rfl, jIe c1 c2 (by omega) (by omega)]; exact x11), if_neg x11]
  by_cases x12 : c = 12
  · rw [if_pos (show jI c = 12 by rw [x12]; rfl), if_pos x12, o_ob, show (0 : Int32) = jI ((0 : Nat) : Int) from rfl, e12, o_ob]
  rw [if_neg (show ¬ jI c = 12 by rw [show (12 : Int32) = jI 12 from rfl, jIe c1 c2 (by omega) (by omega)]; exact x12), if_neg x12]
  by_cases x13 : c = 13
  · rw [if_pos (show jI c = 13 by rw [x13]; rfl), if_pos x13, o_ob, show (1 : Int32) = jI ((1 : Nat) : Int) from rfl, e13, o_ob]
  rw [if_neg (show ¬ jI c = 13 by rw [show (13 : Int32) = jI 13 from rfl, jIe c1 c2 (by omega) (by omega)]; exact x13), if_neg x13]
  by_cases x14 : c = 14
  · rw [if_pos (show jI c = 14 by rw [x14]; rfl), if_pos x14, o_ob, show (2 : Int32) = jI ((2 : Nat) : Int) from rfl, e14, o_ob]
  rw [if_neg (show ¬ jI c = 14 by rw [show (14 : Int32) = jI 14 from rfl, jIe c1 c2 (by omega) (by omega)]; exact x14), if_neg x14]
end FCB
