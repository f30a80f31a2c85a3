section RCK
/-! THE REFERENCE: what is raised, operands, checks -/
variable {c : MC} {m : Nat} {f r : Nat → Int} {s t : SI2}
def rsv (f : Nat → Int) (k w a n : Int) : Nat → Int := va_up (va_up (va_up (va_up (va_up f 38 k) 39 w) 40 a) 41 n) 42 (-1)
def rsw (f : Nat → Int) (k w a n h v : Int) : Nat → Int := va_up (va_up (rsv f k w a n) 42 h) 43 v
/-- how a fault stands in the fields -/
def FtR (f : Nat → Int) (o : Option FT6) : Prop := match o with
  | none => f 38 = 0
  | some (k, w, a, n, h, v) => f 38 = k ∧ f 39 = w ∧ f 40 = a ∧ f 41 = n ∧ f 42 = h ∧ (h ≠ -1 → f 43 = v)
theorem FtR_v {k w a n v : Int} : FtR (rsv f k w a n) (some (k, w, a, n, -1, v)) := by
  unfold rsv
  refine ⟨?_, ?_, ?_, ?_, ?_, fun x => absurd rfl x⟩ <;> simp (disch := omega) only [va_up_self, va_up_ne]
theorem FtR_w {k w a n h v : Int} : FtR (rsw f k w a n h v) (some (k, w, a, n, h, v)) := by
  unfold rsw rsv
  refine ⟨?_, ?_, ?_, ?_, ?_, fun x => ?_⟩ <;> simp (disch := omega) only [va_up_self, va_up_ne]
theorem rsv_lo {k w a n : Int} {j : Nat} (h : j < 38 ∨ 42 < j) : rsv f k w a n j = f j := by
  unfold rsv; simp (disch := omega) only [va_up_ne]
theorem rsw_lo {k w a n h v : Int} {j : Nat} (q : j < 38 ∨ 43 < j) : rsw f k w a n h v j = f j := by
  unfold rsw; ((try rw [va_up_ne _ _ (by omega)]); (try rw [va_up_ne _ _ (by omega)]); rw [rsv_lo (by omega)])
theorem rsv_38 {k w a n : Int} : rsv f k w a n 38 = k := by
  unfold rsv; simp (disch := omega) only [va_up_self, va_up_ne]
theorem rsw_38 {k w a n h v : Int} : rsw f k w a n h v 38 = k := by
  unfold rsw; ((try rw [va_up_ne _ _ (by omega)]); (try rw [va_up_ne _ _ (by omega)]); rw [rsv_38])
theorem s_raise0 {k : Int} (hm : Mo c m) (h0 : f 38 = 0) : fX13_raise m (jI k) (jI 0) (MS c m f r s t) = some (MS c m (rsv f k 0 (f 34) (f 35)) r s t) := by
  unfold fX13_raise fX13_raise_34 fX13_raise_53 rsv
  ((repeat (first | (with_reducible refine (s_gd _ hm).trans ?_) | (with_reducible apply q_ob; · (first | with_reducible rfl | ((simp (disch := omega) only [jI_lit, jI_neg, jI_add, jI_sub, jI_mul, s_gI hm, s_pI hm, s_pZ0 hm, s_pZ1 hm, s_pZb hm, tn, va_up_self, va_up_ne, upup, eq_self, h0]) <;> with_reducible rfl))) | (with_reducible apply q_ob2; · (first | with_reducible rfl | ((simp (disch := omega) only [jI_lit, jI_neg, jI_add, jI_sub, jI_mul, s_gI hm, s_pI hm, s_pZ0 hm, s_pZ1 hm, s_pZb hm, tn, va_up_self, va_up_ne, upup, eq_self, h0]) <;> with_reducible rfl))) | (with_reducible apply q_lt; · (first | with_reducible rfl | ((simp (disch := omega) only [jI_lit, jI_neg, jI_add, jI_sub, jI_mul, s_gI hm, s_pI hm, s_pZ0 hm, s_pZ1 hm, s_pZb hm, tn, va_up_self, va_up_ne, upup, eq_self, h0]) <;> with_reducible rfl))) | (with_reducible apply q_ifp; · (first | ((simp (disch := omega) only [jI_lit, jI_neg, jI_add, jI_sub, jI_mul, s_gI hm, s_pI hm, s_pZ0 hm, s_pZ1 hm, s_pZb hm, tn, va_up_self, va_up_ne, upup, eq_self, h0, jI_lt, jI_le, jI_eq, true_or, or_true]) <;> omega) | omega)) | (with_reducible apply q_ifn; · (first | ((simp (disch := omega) only [jI_lit, jI_neg, jI_add, jI_sub, jI_mul, s_gI hm, s_pI hm, s_pZ0 hm, s_pZ1 hm, s_pZb hm, tn, va_up_self, va_up_ne, upup, eq_self, h0, jI_lt, jI_le, jI_eq, true_or, or_true]) <;> omega) | omega)) | (with_reducible apply q_nz; · (first | ((simp (disch := omega) only [jI_lit, jI_neg, jI_add, jI_sub, jI_mul, s_gI hm, s_pI hm, s_pZ0 hm, s_pZ1 hm, s_pZb hm, tn, va_up_self, va_up_ne, upup, eq_self, h0, jI_lt, jI_le, jI_eq, true_or, or_true]) <;> omega) | omega)) | (with_reducible apply q_rz; · (first | exact b2_01 _ | decide)))) <;> (first | with_reducible rfl | ((simp (disch := omega) only [jI_lit, jI_neg, jI_add, jI_sub, jI_mul, s_gI hm, s_pI hm, s_pZ0 hm, s_pZ1 hm, s_pZb hm, tn, va_up_self, va_up_ne, upup, eq_self, h0]) <;> with_reducible rfl) | rfl))
theorem s_raise1 {k : Int} (hm : Mo c m) (h0 : f 38 = 0) : fX13_raise m (jI k) (jI 1) (MS c m f r s t) = some (MS c m (rsv f k 1 (f 36) (f 37)) r s t) := by
  unfold fX13_raise fX13_raise_34 fX13_raise_53 rsv
  ((repeat (first | (with_reducible refine (s_gd _ hm).trans ?_) | (with_reducible apply q_ob; · (first | with_reducible rfl | ((simp (disch := omega) only [jI_lit, jI_neg, jI_add, jI_sub, jI_mul, s_gI hm, s_pI hm, s_pZ0 hm, s_pZ1 hm, s_pZb hm, tn, va_up_self, va_up_ne, upup, eq_self, h0]) <;> with_reducible rfl))) | (with_reducible apply q_ob2; · (first | with_reducible rfl | ((simp (disch := omega) only [jI_lit, jI_neg, jI_add, jI_sub, jI_mul, s_gI hm, s_pI hm, s_pZ0 hm, s_pZ1 hm, s_pZb hm, tn, va_up_self, va_up_ne, upup, eq_self, h0]) <;> with_reducible rfl))) | (with_reducible apply q_lt; · (first | with_reducible rfl | ((simp (disch := omega) only [jI_lit, jI_neg, jI_add, jI_sub, jI_mul, s_gI hm, s_pI hm, s_pZ0 hm, s_pZ1 hm, s_pZb hm, tn, va_up_self, va_up_ne, upup, eq_self, h0]) <;> with_reducible rfl))) | (with_reducible apply q_ifp; · (first | ((simp (disch := omega) only [jI_lit, jI_neg, jI_add, jI_sub, jI_mul, s_gI hm, s_pI hm, s_pZ0 hm, s_pZ1 hm, s_pZb hm, tn, va_up_self, va_up_ne, upup, eq_self, h0, jI_lt, jI_le, jI_eq, true_or, or_true]) <;> omega) | omega)) | (with_reducible apply q_ifn; · (first | ((simp (disch := omega) only [jI_lit, jI_neg, jI_add, jI_sub, jI_mul, s_gI hm, s_pI hm, s_pZ0 hm, s_pZ1 hm, s_pZb hm, tn, va_up_self, va_up_ne, upup, eq_self, h0, jI_lt, jI_le, jI_eq, true_or, or_true]) <;> omega) | omega)) | (with_reducible apply q_nz; · (first | ((simp (disch := omega) only [jI_lit, jI_neg, jI_add, jI_sub, jI_mul, s_gI hm, s_pI hm, s_pZ0 hm, s_pZ1 hm, s_pZb hm, tn, va_up_self, va_up_ne, upup, eq_self, h0, jI_lt, jI_le, jI_eq, true_or, or_true]) <;> omega) | omega)) | (with_reducible apply q_rz; · (first | exact b2_01 _ | decide)))) <;> (first | with_reducible rfl | ((simp (disch := omega) only [jI_lit, jI_neg, jI_add, jI_sub, jI_mul, s_gI hm, s_pI hm, s_pZ0 hm, s_pZ1 hm, s_pZb hm, tn, va_up_self, va_up_ne, upup, eq_self, h0]) <;> with_reducible rfl) | rfl))
theorem s_raiseX {k w : Int} (hm : Mo c m) (h0 : 1 ≤ f 38) (h1 : f 38 ≤ 8) : fX13_raise m (jI k) (jI w) (MS c m f r s t) = some (MS c m f r s t) := by
  unfold fX13_raise
  ((repeat (first | (with_reducible refine (s_gd _ hm).trans ?_) | (with_reducible apply q_ob; · (first | with_reducible rfl | ((simp (disch := omega) only [jI_lit, jI_neg, jI_add, jI_sub, jI_mul, s_gI hm, s_pI hm, s_pZ0 hm, s_pZ1 hm, s_pZb hm, tn, va_up_self, va_up_ne, upup, eq_self]) <;> with_reducible rfl))) | (with_reducible apply q_ob2; · (first | with_reducible rfl | ((simp (disch := omega) only [jI_lit, jI_neg, jI_add, jI_sub, jI_mul, s_gI hm, s_pI hm, s_pZ0 hm, s_pZ1 hm, s_pZb hm, tn, va_up_self, va_up_ne, upup, eq_self]) <;> with_reducible rfl))) | (with_reducible apply q_lt; · (first | with_reducible rfl | ((simp (disch := omega) only [jI_lit, jI_neg, jI_add, jI_sub, jI_mul, s_gI hm, s_pI hm, s_pZ0 hm, s_pZ1 hm, s_pZb hm, tn, va_up_self, va_up_ne, upup, eq_self]) <;> with_reducible rfl))) | (with_reducible apply q_ifp; · (first | ((simp (disch := omega) only [jI_lit, jI_neg, jI_add, jI_sub, jI_mul, s_gI hm, s_pI hm, s_pZ0 hm, s_pZ1 hm, s_pZb hm, tn, va_up_self, va_up_ne, upup, eq_self, jI_lt, jI_le, jI_eq, true_or, or_true]) <;> omega) | omega)) | (with_reducible apply q_ifn; · (first | ((simp (disch := omega) only [jI_lit, jI_neg, jI_add, jI_sub, jI_mul, s_gI hm, s_pI hm, s_pZ0 hm, s_pZ1 hm, s_pZb hm, tn, va_up_self, va_up_ne, upup, eq_self, jI_lt, jI_le, jI_eq, true_or, or_true]) <;> omega) | omega)) | (with_reducible apply q_nz; · (first | ((simp (disch := omega) only [jI_lit, jI_neg, jI_add, jI_sub, jI_mul, s_gI hm, s_pI hm, s_pZ0 hm, s_pZ1 hm, s_pZb hm, tn, va_up_self, va_up_ne, upup, eq_self, jI_lt, jI_le, jI_eq, true_or, or_true]) <;> omega) | omega)) | (with_reducible apply q_rz; · (first | exact b2_01 _ | decide)))) <;> (first | with_reducible rfl | ((simp (disch := omega) only [jI_lit, jI_neg, jI_add, jI_sub, jI_mul, s_gI hm, s_pI hm, s_pZ0 hm, s_pZ1 hm, s_pZb hm, tn, va_up_self, va_up_ne, upup, eq_self]) <;> with_reducible rfl) | rfl))
theorem s_raiseH0 {k h : Int} (hm : Mo c m) (hb : Byt r) (h0 : f 38 = 0) (q0 : 0 ≤ h) (q1 : h < 512) : fX13_raiseHalf m (jI k) (jI 0) (jI h) (MS c m f r s t) = some (MS c m (rsw f k 0 (f 34) (f 35) h (hf r h.toNat)) r s t) := by
  unfold fX13_raiseHalf rsw
  (rw [s_gd _ hm]; (try rw [s_gI hm]); rw [o_ob, h0, if_pos (by decide), s_raise0 hm h0, o_ob, s_pI hm, o_ob, s_half hm hb q0 q1, o_ob, s_pI hm, o_ob])
theorem s_raiseH1 {k h : Int} (hm : Mo c m) (hb : Byt r) (h0 : f 38 = 0) (q0 : 0 ≤ h) (q1 : h < 512) : fX13_raiseHalf m (jI k) (jI 1) (jI h) (MS c m f r s t) = some (MS c m (rsw f k 1 (f 36) (f 37) h (hf r h.toNat)) r s t) := by
  unfold fX13_raiseHalf rsw
  (rw [s_gd _ hm]; (try rw [s_gI hm]); rw [o_ob, h0, if_pos (by decide), s_raise1 hm h0, o_ob, s_pI hm, o_ob, s_half hm hb q0 q1, o_ob, s_pI hm, o_ob])
-- the program
def Pr (f : Nat → Int) (s : SI2) (P : PG) (many : Nat) : Prop := f 13 = (many : Int) ∧ many ≤ 60 ∧ (∀ k, k < many → PGk P many k ∧ s 5 k = P 0 k ∧ (P 0 k ≤ 18 → s 6 (2 * k) = P 1 (2 * k) ∧ s 7 (2 * k) = P 2 (2 * k)) ∧ (P 0 k ≤ 13 → s 6 (2 * k + 1) = P 1 (2 * k + 1) ∧ s 7 (2 * k + 1) = P 2 (2 * k + 1)) ∧ (P 0 k ≤ 15 → s 8 (2 * k) = P 3 (2 * k)) ∧ (P 0 k ≤ 8 → s 8 (2 * k + 1) = P 3 (2 * k + 1)) ∧ (P 0 k = 14 ∨ (16 ≤ P 0 k ∧ P 0 k ≤ 22) → s 9 k = P 4 k) ∧ (P 0 k = 14 ∨ P 0 k = 19 → s 10 k = P 5 k) ∧ (20 ≤ P 0 k ∧ P 0 k ≤ 22 → s 11 k = P 6 k)) ∧ ∀ j, j < 256 → s 12 j = P 7 j ∧ 0 ≤ P 7 j ∧ P 7 j < 256
theorem s_adr {P : PG} {k j : Nat} (hm : Mo c m) (hk : k < 60) (hj : j < 2) (h1 : s 6 (2 * k + j) = P 1 (2 * k + j)) (h2 : s 7 (2 * k + j) = P 2 (2 * k + j)) (h3 : -1 ≤ P 2 (2 * k + j)) (h4 : P 2 (2 * k + j) ≤ 7) : fX13_addressOf m (jI (k : Int)) (jI (j : Int)) (MS c m f r s t) = some (jI (adr P r k j)) := by
  have e : (2 * (k : Int) + (j : Int)).toNat = 2 * k + j := by omega
  unfold fX13_addressOf
  (rw [s_gd _ hm]; (try rw [show (2 : Int32) = jI 2 from rfl]); (try rw [jI_mul]); (try rw [jI_add]); rw [o_lt]; (try rw [s_R6 hm]); rw [o_ob, s_a6 hm (by omega) (by omega), o_ob]; (try rw [s_R7 hm]); rw [o_ob, s_a7 hm (by omega) (by omega), o_ob, e]; (try rw [h1]); (try rw [h2]))
  unfold adr
  by_cases q : P 2 (2 * k + j) = -1
  · (rw [if_pos (by rw [q]; rfl)]; (try rw [show (0 : Int32) = jI 0 from rfl]); (try rw [jI_add]); rw [jI_bm, if_pos q])
  · (rw [if_neg (by rw [show (-1 : Int32) = jI (-1) from rfl, jI_eq (by omega) (by omega) (by omega) (by omega)]; exact q)]; (try rw [s_R3 hm]); rw [o_ob]; (try rw [s_R7 hm]); rw [o_ob, s_a7 hm (by omega) (by omega), o_ob, e]; (try rw [h2]); (try rw [show (256 : Int32) = jI 256 from rfl]); (try rw [jI_add]); rw [s_a3 hm (by omega) (by omega), o_ob]; (try rw [jI_add]); rw [jI_bm, if_neg q]; (try rw [show (256 + P 2 (2 * k + j)).toNat = 256 + (P 2 (2 * k + j)).toNat by omega]))
theorem s_two {o : Int} (h1 : 0 ≤ o) (h2 : o ≤ 24) : fX13_isTwofold (jI o) = some (if o ≤ 13 then jI 1 else jI 0) := by
  unfold fX13_isTwofold
  by_cases q : o ≤ 13
  · rw [if_neg (by rw [show (13 : Int32) = jI 13 from rfl, jI_lt (by omega) (by omega) (by omega) (by omega)]; omega), if_pos q]; rfl
  · rw [if_pos (by rw [show (13 : Int32) = jI 13 from rfl, jI_lt (by omega) (by omega) (by omega) (by omega)]; omega), if_neg q]; rfl
theorem s_edt {o : Int} (h1 : 0 ≤ o) (h2 : o ≤ 24) : fX13_isEditing (jI o) = some (if o = 12 ∨ o = 13 then jI 1 else jI 0) := by
  unfold fX13_isEditing
  by_cases q : o = 12
  · rw [if_pos (by rw [q]; rfl), if_pos (Or.inl q)]; rfl
  · rw [if_neg (by rw [show (12 : Int32) = jI 12 from rfl, jI_eq (by omega) (by omega) (by omega) (by omega)]; omega)]
    by_cases q2 : o = 13
    · rw [if_pos (by rw [q2]; rfl), if_pos (Or.inr q2)]; rfl
    · rw [if_neg (by rw [show (13 : Int32) = jI 13 from rfl, jI_eq (by omega) (by omega) (by omega) (by omega)]; omega), if_neg (by omega)]; rfl
theorem s_fo123x {o : Int} (hm : Mo c m) (o0 : 0 ≤ o) (o1 : o ≤ 24) (h0 : 1 ≤ f 38) (h1 : f 38 ≤ 8) (b0 : -2147483648 ≤ f 36) (b1 : f 36 < 2147483648) (l0 : o ≤ 11 → 0 ≤ f 37 ∧ f 37 ≤ 64) : fX13_findOperands_123 m (jI o) (MS c m f r s t) = some (MS c m f r s t) := by
  unfold fX13_findOperands_123
  rw [s_two o0 o1, o_ob]
  by_cases c1 : o ≤ 13
  · rw [if_pos c1, if_neg (by decide), s_edt o0 o1, o_ob]
    by_cases c2 : o = 12 ∨ o = 13
    · rw [if_pos c2, if_neg (by decide)]
    · have l := l0 (by omega)
      (rw [if_neg c2, if_pos (by decide)]; (try rw [s_gI hm]); rw [o_ob]; (try rw [s_gI hm]); rw [o_ob, w_there b0 b1 (by omega) (by omega), o_ob])
      by_cases c3 : isF (f 36) (f 37) = true
      · rw [if_pos c3, if_neg (by decide)]
      · (rw [if_neg c3, if_pos (by decide)]; (try rw [show (1 : Int32) = jI 1 from rfl]); rw [s_raiseX hm h0 h1, o_ob])
  · rw [if_neg c1, if_pos (by decide)]
theorem s_fo123 {o : Int} (hm : Mo c m) (o0 : 0 ≤ o) (o1 : o ≤ 24) (h0 : f 38 = 0) (b0 : -2147483648 ≤ f 36) (b1 : f 36 < 2147483648) (l0 : o ≤ 11 → 0 ≤ f 37 ∧ f 37 ≤ 64) : fX13_findOperands_123 m (jI o) (MS c m f r s t) = some (MS c m (if o ≤ 11 ∧ isF (f 36) (f 37) = false then rsv f 1 1 (f 36) (f 37) else f) r s t) := by
  unfold fX13_findOperands_123
  rw [s_two o0 o1, o_ob]
  by_cases c1 : o ≤ 13
  · rw [if_pos c1, if_neg (by decide), s_edt o0 o1, o_ob]
    by_cases c2 : o = 12 ∨ o = 13
    · rw [if_pos c2, if_neg (by decide), if_neg (by omega)]
    · have l := l0 (by omega)
      (rw [if_neg c2, if_pos (by decide)]; (try rw [s_gI hm]); rw [o_ob]; (try rw [s_gI hm]); rw [o_ob, w_there b0 b1 (by omega) (by omega), o_ob])
      by_cases c3 : isF (f 36) (f 37) = true
      · rw [if_pos c3, if_neg (by decide), if_neg (fun e => by rw [c3] at e; exact absurd e.2 (by decide))]
      · have c4 : isF (f 36) (f 37) = false := by simpa using c3
        (rw [if_neg c3, if_pos (by decide)]; (try rw [show (1 : Int32) = jI 1 from rfl]); rw [s_raise1 hm h0, o_ob, if_pos ⟨by omega, c4⟩])
  · rw [if_neg c1, if_pos (by decide), if_neg (by omega)]
def chk1 (o a n b l : Int) : Option FT6 := if o ≤ 17 ∧ isF a n = false then some (1, 0, a, n, -1, 0) else if o ≤ 11 ∧ isF b l = false then some (1, 1, b, l, -1, 0) else none
theorem s_fo94 {o l : Int} (hm : Mo c m) (o0 : 0 ≤ o) (o1 : o ≤ 24) (h0 : f 38 = 0) (a0 : -2147483648 ≤ f 34) (a1 : f 34 < 2147483648) (n0 : o ≤ 17 → 0 ≤ f 35 ∧ f 35 ≤ 64) (b0 : -2147483648 ≤ f 36) (b1 : f 36 < 2147483648) (l0 : o ≤ 11 → 0 ≤ l ∧ l ≤ 64) :
    ∃ f', fX13_findOperands_94 m (jI o) (jI l) m (MS c m f r s t) = some (MS c m f' r s t) ∧ (∀ j, j < 37 ∨ 43 < j → f' j = f j) ∧ f' 37 = l ∧ FtR f' (chk1 o (f 34) (f 35) (f 36) l) := by
  unfold fX13_findOperands_94
  rw [s_pI hm, o_ob]
  obtain ⟨g, hg⟩ : ∃ g, g = va_up f 37 l := ⟨_, rfl⟩
  have gn : ∀ j, j ≠ 37 → g j = f j := fun j hj => by rw [hg]; exact va_up_ne _ _ hj
  have g37 : g 37 = l := by rw [hg, va_up_self]
  rw [← hg]
  have g38 : g 38 = 0 := by rw [gn _ (by omega)]; exact h0
  have e34 := gn 34 (by omega)
  have e35 := gn 35 (by omega)
  have e36 := gn 36 (by omega)
  have fin := s_fo123 (r := r) (s := s) (t := t) hm o0 o1 g38 (by omega) (by omega) (by rw [g37]; exact l0)
  unfold chk1
  have done : ¬ (o ≤ 17 ∧ isF (f 34) (f 35) = false) → ∃ f', (some (MS c m (if o ≤ 11 ∧ isF (g 36) (g 37) = false then rsv g 1 1 (g 36) (g 37) else g) r s t) : Option Hp) = some (MS c m f' r s t) ∧ (∀ j, j < 37 ∨ 43 < j → f' j = f j) ∧ f' 37 = l ∧ FtR f' (if o ≤ 17 ∧ isF (f 34) (f 35) = false then some (1, 0, f 34, f 35, -1, 0) else if o ≤ 11 ∧ isF (f 36) l = false then some (1, 1, f 36, l, -1, 0) else none) := by
    intro q
    refine ⟨_, rfl, ?_⟩
    ((try rw [e36]); (try rw [g37]); rw [if_neg q])
    by_cases q2 : o ≤ 11 ∧ isF (f 36) l = false
    · rw [if_pos q2, if_pos q2]
      exact ⟨fun j hj => by rw [rsv_lo (by omega)]; exact gn j (by omega), by rw [rsv_lo (by omega)]; exact g37, FtR_v⟩
    · rw [if_neg q2, if_neg q2]
      exact ⟨fun j hj => gn j (by omega), g37, g38⟩
  by_cases c1 : o ≤ 17
  · have n1 := n0 c1
    (rw [if_neg (by rw [show (17 : Int32) = jI 17 from rfl, jI_lt (by omega) (by omega) (by omega) (by omega)]; omega)]; (try rw [s_gI hm]); rw [o_ob]; (try rw [s_gI hm]); rw [o_ob, w_there (by omega) (by omega) (by omega) (by omega), o_ob]; (try rw [e34]); (try rw [e35]))
    by_cases c2 : isF (f 34) (f 35) = true
    · rw [if_pos c2, if_neg (by decide), fin]
      exact done (fun e => by rw [c2] at e; exact absurd e.2 (by decide))
    · have c3 : isF (f 34) (f 35) = false := by simpa using c2
      (rw [if_neg c2, if_pos (by decide)]; (try rw [show (1 : Int32) = jI 1 from rfl]); (try rw [show (0 : Int32) = jI 0 from rfl]); rw [s_raise0 hm g38, o_ob, s_fo123x hm o0 o1 (by rw [rsv_38]; omega) (by rw [rsv_38]; omega) (by rw [rsv_lo (by omega)]; omega) (by rw [rsv_lo (by omega)]; omega) (by rw [rsv_lo (by omega), g37]; exact l0), if_pos ⟨c1, c3⟩]; (try rw [e34]); (try rw [e35]))
      exact ⟨_, rfl, fun j hj => by rw [rsv_lo (by omega)]; exact gn j (by omega), by rw [rsv_lo (by omega)]; exact g37, FtR_v⟩
  · rw [if_pos (by rw [show (17 : Int32) = jI 17 from rfl, jI_lt (by omega) (by omega) (by omega) (by omega)]; omega), fin]
    exact done (fun e => c1 e.1)
/-- where the operands are -/
def Opn (f : Nat → Int) (P : PG) (r : Nat → Int) (k : Nat) : Prop := f 34 = opA P r k ∧ (P 0 k ≤ 17 → f 35 = lnA P k) ∧ f 36 = opB P r k ∧ (P 0 k ≤ 11 → f 37 = lnB P k) ∧ (12 ≤ P 0 k → f 37 = f 35)
theorem opA_r (P : PG) (r : Nat → Int) (k : Nat) : -2147483648 ≤ opA P r k ∧ opA P r k < 2147483648 := by
  unfold opA
  split
  · exact adr_r P r k 0
  · omega
theorem lnA_r {P : PG} {many k : Nat} (h : PGk P many k) : P 0 k ≤ 17 → 1 ≤ lnA P k ∧ lnA P k ≤ 64 := by
  intro q
  obtain ⟨h1, -, -, h4, h5, h6, -⟩ := h
  unfold lnA
  by_cases c : P 0 k = 16 ∨ P 0 k = 17
  · rw [if_pos c]; omega
  · rw [if_neg c, if_pos (by omega)]
    by_cases c2 : P 0 k ≤ 8
    · have := h4 c2; omega
    · by_cases c3 : P 0 k ≤ 13
      · have := h5 (by omega) c3; omega
      · have := h6 (by omega) (by omega); omega
theorem lnB_r {P : PG} {many k : Nat} (h : PGk P many k) : P 0 k ≤ 11 → 1 ≤ lnB P k ∧ lnB P k ≤ 64 := by
  intro q
  have hA := lnA_r h (by omega)
  obtain ⟨h1, -, -, h4, -⟩ := h
  unfold lnB
  by_cases c2 : P 0 k ≤ 8
  · rw [if_pos c2]; have := h4 c2; omega
  · rw [if_neg c2, if_pos q]; exact hA
theorem s_find {P : PG} {many k : Nat} (hm : Mo c m) (hp : Pr f s P many) (hk : k < many) (h0 : f 38 = 0) : ∃ f', fX13_findOperands m (jI (k : Int)) (jI (P 0 k)) (MS c m f r s t) = some (MS c m f' r s t) ∧ (∀ j, j < 34 ∨ 43 < j → f' j = f j) ∧ Opn f' P r k ∧ FtR f' (chk1 (P 0 k) (opA P r k) (lnA P k) (opB P r k) (lnB P k)) := by
  obtain ⟨-, hm60, hins, -⟩ := hp
  obtain ⟨pg, i5, i6, i7, i8, i9, -, -, -⟩ := hins k hk
  have lA := lnA_r pg
  have lB := lnB_r pg
  have rA := opA_r P r k
  have rB := opB_r P r k
  obtain ⟨⟨o0, o1⟩, g1, g2, -⟩ := pg
  clear hins
  -- the first address
  have e1 : P 0 k ≤ 17 → fX13_addressOf m (jI (k : Int)) 0 (MS c m f r s t) = some (jI (opA P r k)) := fun q => by
    have a := i6 (by omega)
    have b := g1 (by omega)
    have := s_adr (f := f) (r := r) (t := t) (P := P) (k := k) (j := 0) hm (by omega) (by omega) a.1 a.2 b.2.2.1 b.2.2.2
    rw [show opA P r k = adr P r k 0 by unfold opA; rw [if_pos q]]
    exact this
  -- behind the second address
  have s67 : ∀ g : Nat → Int, g 34 = opA P r k → (P 0 k ≤ 17 → g 35 = lnA P k) → (∀ j, j < 34 ∨ 43 < j → g j = f j) → g 38 = 0 → ∃ f', fX13_findOperands_67 m (jI (k : Int)) (jI (P 0 k)) (jI (opB P r k)) m (MS c m g r s t) = some (MS c m f' r s t) ∧ (∀ j, j < 34 ∨ 43 < j → f' j = f j) ∧ Opn f' P r k ∧ FtR f' (chk1 (P 0 k) (opA P r k) (lnA P k) (opB P r k) (lnB P k)) := by
    intro g x34 x35 xf x38
    unfold fX13_findOperands_67
    rw [s_pI hm, o_ob]
    obtain ⟨u, hu⟩ : ∃ u, u = va_up g 36 (opB P r k) := ⟨_, rfl⟩
    have un : ∀ j, j ≠ 36 → u j = g j := fun j hj => by rw [hu]; exact va_up_ne _ _ hj
    have u36 : u 36 = opB P r k := by rw [hu, va_up_self]
    have u34 : u 34 = opA P r k := (un 34 (by omega)).trans x34
    have u35 := un 35 (by omega)
    rw [← hu]
    have tail : ∀ l : Int, (P 0 k ≤ 11 → l = lnB P k) → (12 ≤ P 0 k → l = u 35) → ∃ f', fX13_findOperands_94 m (jI (P 0 k)) (jI l) m (MS c m u r s t) = some (MS c m f' r s t) ∧ (∀ j, j < 34 ∨ 43 < j → f' j = f j) ∧ Opn f' P r k ∧ FtR f' (chk1 (P 0 k) (opA P r k) (lnA P k) (opB P r k) (lnB P k)) := by
      intro l hl hl2
      obtain ⟨f', e, b1, b2', b3⟩ := s_fo94 (f := u) (r := r) (s := s) (t := t) (o := P 0 k) (l := l) hm o0 o1 (by rw [un _ (by omega)]; exact x38) (by omega) (by omega) (fun q => by have := x35 q; have := lA q; omega) (by omega) (by omega) (fun q => by have := hl q; have := lB q; omega)
      refine ⟨f', e, fun j hj => by rw [b1 j (by omega), un j (by omega)]; exact xf j hj, ⟨by rw [b1 _ (by omega)]; exact u34, fun q => by rw [b1 _ (by omega), u35]; exact x35 q, by rw [b1 _ (by omega)]; exact u36, fun q => by rw [b2']; exact hl q, fun q => by rw [b2', b1 _ (by omega)]; exact hl2 q⟩, ?_⟩
      have ec : chk1 (P 0 k) (u 34) (u 35) (u 36) l = chk1 (P 0 k) (opA P r k) (lnA P k) (opB P r k) (lnB P k) := by
        unfold chk1
        ((try rw [u34]); (try rw [u36]); (try rw [u35]))
        by_cases q17 : P 0 k ≤ 17
        · rw [x35 q17]
          by_cases q11 : P 0 k ≤ 11
          · rw [hl q11]
          · simp only [q11, false_and, if_false]
        · have q11 : ¬ P 0 k ≤ 11 := by omega
          simp only [q17, q11, false_and, if_false]
      rw [← ec]
      exact b3
    by_cases c8 : P 0 k ≤ 8
    · (rw [if_neg (by rw [show (8 : Int32) = jI 8 from rfl, jI_lt (by omega) (by omega) (by omega) (by omega)]; omega)]; (try rw [s_R8 hm]); rw [o_ob]; (try rw [show (2 : Int32) = jI 2 from rfl]); (try rw [show (1 : Int32) = jI 1 from rfl]); (try rw [jI_mul]); (try rw [jI_add]); rw [s_a8 hm (by omega) (by omega), o_ob]; (try rw [show (2 * (k : Int) + 1).toNat = 2 * k + 1 by omega]); rw [i9 c8])
      exact tail _ (fun _ => by unfold lnB; rw [if_pos c8]) (fun q => by omega)
    · (rw [if_pos (by rw [show (8 : Int32) = jI 8 from rfl, jI_lt (by omega) (by omega) (by omega) (by omega)]; omega)]; (try rw [s_gI hm]); rw [o_ob])
      exact tail _ (fun q => by unfold lnB; (rw [if_neg c8, if_pos q]; (try rw [u35])); exact x35 (by omega)) (fun _ => rfl)
  -- behind the first length
  have s46 : ∀ g : Nat → Int, ∀ l : Int, g 34 = opA P r k → (P 0 k ≤ 17 → l = lnA P k) → (∀ j, j < 34 ∨ 43 < j → g j = f j) → g 38 = 0 → ∃ f', fX13_findOperands_46 m (jI (k : Int)) (jI (P 0 k)) (jI l) m (MS c m g r s t) = some (MS c m f' r s t) ∧ (∀ j, j < 34 ∨ 43 < j → f' j = f j) ∧ Opn f' P r k ∧ FtR f' (chk1 (P 0 k) (opA P r k) (lnA P k) (opB P r k) (lnB P k)) := by
    intro g l x34 hl xf x38
    unfold fX13_findOperands_46
    rw [s_pI hm, o_ob, s_two o0 o1, o_ob]
    have nx := s67 (va_up g 35 l) (by rw [va_up_ne _ _ (by omega)]; exact x34) (fun q => by rw [va_up_self]; exact hl q) (fun j hj => by rw [va_up_ne _ _ (by omega)]; exact xf j hj) (by rw [va_up_ne _ _ (by omega)]; exact x38)
    by_cases c13 : P 0 k ≤ 13
    · have a := i7 c13
      have b := g2 c13
      have ea := s_adr (f := va_up g 35 l) (r := r) (t := t) (P := P) (k := k) (j := 1) hm (by omega) (by omega) a.1 a.2 b.2.2.1 b.2.2.2
      (rw [if_pos c13, if_neg (by decide)]; (try rw [show (1 : Int32) = jI ((1 : Nat) : Int) from rfl]); rw [ea, o_ob]; (try rw [show adr P r k 1 = opB P r k by unfold opB; rw [if_pos c13]]))
      exact nx
    · (rw [if_neg c13, if_pos (by decide)]; (try rw [show (0 : Int32) = jI (opB P r k) by unfold opB; rw [if_neg c13]; rfl]))
      exact nx
  have s17 : ∃ f', fX13_findOperands_17 m (jI (k : Int)) (jI (P 0 k)) (jI (opA P r k)) m (MS c m f r s t) = some (MS c m f' r s t) ∧ (∀ j, j < 34 ∨ 43 < j → f' j = f j) ∧ Opn f' P r k ∧ FtR f' (chk1 (P 0 k) (opA P r k) (lnA P k) (opB P r k) (lnB P k)) := by
    unfold fX13_findOperands_17 fX13_findOperands_33
    rw [s_pI hm, o_ob]
    have nx := fun l hl => s46 (va_up f 34 (opA P r k)) l (va_up_self _ _ _) hl (fun j hj => va_up_ne _ _ (by omega)) (by rw [va_up_ne _ _ (by omega)]; exact h0)
    by_cases c16 : P 0 k = 16
    · rw [if_pos (by rw [c16]; rfl), show (8 : Int32) = jI 8 from rfl]
      exact nx 8 (fun _ => by unfold lnA; rw [if_pos (Or.inl c16)])
    · rw [if_neg (by rw [show (16 : Int32) = jI 16 from rfl, jI_eq (by omega) (by omega) (by omega) (by omega)]; omega)]
      by_cases c17 : P 0 k = 17
      · rw [if_pos (by rw [c17]; rfl), show (8 : Int32) = jI 8 from rfl]
        exact nx 8 (fun _ => by unfold lnA; rw [if_pos (Or.inr c17)])
      · (rw [if_neg (by rw [show (17 : Int32) = jI 17 from rfl, jI_eq (by omega) (by omega) (by omega) (by omega)]; omega)]; (try rw [s_R8 hm]); rw [o_ob]; (try rw [show (2 : Int32) = jI 2 from rfl]); (try rw [jI_mul]); rw [s_a8 hm (by omega) (by omega), o_ob]; (try rw [show (2 * (k : Int)).toNat = 2 * k by omega]))
        exact nx _ (fun q => by unfold lnA; rw [if_neg (by omega), if_pos (by omega)]; exact i8 (by omega))
  unfold fX13_findOperands
  rw [s_gd _ hm]
  by_cases c : P 0 k ≤ 17
  · rw [if_neg (by rw [show (17 : Int32) = jI 17 from rfl, jI_lt (by omega) (by omega) (by omega) (by omega)]; omega), e1 c, o_ob]
    exact s17
  · rw [if_pos (by rw [show (17 : Int32) = jI 17 from rfl, jI_lt (by omega) (by omega) (by omega) (by omega)]; omega), show (0 : Int32) = jI (opA P r k) by unfold opA; rw [if_neg c]; rfl]
    exact s17
end RCK
