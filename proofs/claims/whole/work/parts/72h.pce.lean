section PCE
/-! THE PIECES OF AN INSTRUCTION -/
variable {K : Nat → Nat} {I : Nat → Nat → Int32} {R : Nat → Nat → Nat} {L : Nat → Nat → Int64} {N : Nat → Nat} {w : Nat × Nat × Nat × Nat}
/-- an instruction that is read: how the reading stands, its fields, the name that it wants (0 none), where that stands -/
abbrev PS : Type := MD × (Nat → Int) × Int × Int
def nmP (x : MD × Int) (f : Nat → Int) (j : Nat) (v q : Int) : PS := (x.1, va_up f j x.2, v, q)
def ngP (x : MD × Int) (f : Nat → Int) (j : Nat) (v q : Int) : PS := (x.1, va_up f j (-x.2), v, q)
def tgP (t : Nat → Int) (n : Nat) (T : TK) (f : Nat → Int) (v q : Int) : PS := match mnm t T with
  | .inl x => (.inl x, f, v, q)
  | .inr z => (.inr (tok t n T.2.2), f, z, (T.2.1 : Nat))
def hre (t : Nat → Int) (T : TK) (c : Int) : Bool := T.1 == 4 && t T.2.1 == c
def pce (t : Nat → Int) (n : Nat) (c : Nat) (T : TK) (f : Nat → Int) (v q : Int) : PS :=
  if c = 112 then nmP (mnum t n T 0 255) f 1 v q
  else if c = 120 then (if hre t T 37 = true then nmP (mnum t n (tok t n T.2.2) 0 7) f 2 v q else (.inr T, va_up f 2 (-1), v, q))
  else if c = 113 then nmP (mnum t n T 0 255) f 4 v q
  else if c = 121 then (if hre t T 37 = true then nmP (mnum t n (tok t n T.2.2) 0 7) f 5 v q else (.inr T, va_up f 5 (-1), v, q))
  else if c = 58 then (msg t n (.inr T) 58, f, v, q)
  else if c = 108 then nmP (mnum t n T 1 16) f 3 v q
  else if c = 76 then nmP (mnum t n T 1 64) f 3 v q
  else if c = 109 then nmP (mnum t n T 1 16) f 6 v q
  else if c = 61 then (.inr T, va_up f 6 (f 3), v, q)
  else if c = 56 then (.inr T, va_up f 3 8, v, q)
  else if c = 37 then (msg t n (.inr T) 37, f, v, q)
  else if c = 114 then nmP (mnum t n T 0 7) f 7 v q
  else if c = 115 then (if hre t T 45 = true then ngP (mnum t n (tok t n T.2.2) 0 32) f 8 v q else nmP (mnum t n T 0 31) f 8 v q)
  else if c = 100 then nmP (mnum t n T 0 9) f 9 v q
  else if c = 43 then (if hre t T 45 = true then ngP (mnum t n (tok t n T.2.2) 0 9999) f 8 v q else nmP (mnum t n T 0 9999) f 8 v q)
  else if c = 111 then nmP (mnum t n T 0 15) f 8 v q
  else if c = 103 then nmP (mnum t n T 1 8) f 8 v q
  else if c = 110 then tgP t n T f v q
  else if T.1 = 1 then tgP t n T f v q else (.inr T, f, v, q)
/-- where an instruction is read into -/
def Ig (K : Nat → Nat) (I : Nat → Nat → Int32) (R : Nat → Nat → Nat) (N : Nat → Nat) (a nm wt wp tp l ia k : Nat) : Prop :=
  Tb K R N a nm wt wp ∧ R a 5 = l ∧ K l = 6 ∧ I l 2 = jI ((k + 1 : Nat) : Int) ∧ k < 60 ∧ K ia = 5 ∧ wp ≠ tp
def Iv (I : Nat → Nat → Int32) (L : Nat → Nat → Int64) (wt wp ia k : Nat) (f : Nat → Int) (v q : Int) : Prop :=
  (∀ j, 1 ≤ j → j ≤ 10 → I ia j = jI (f j)) ∧ L wt k = jL v ∧ (v ≠ 0 → I wp k = jI q) ∧ (0 ≤ v ∧ v < 282429536481) ∧ f 10 = -1
def PI2 (a wt wp ia k : Nat) (I : Nat → Nat → Int32) (R : Nat → Nat → Nat) (L : Nat → Nat → Int64) (I' : Nat → Nat → Int32) (R' : Nat → Nat → Nat) (L' : Nat → Nat → Int64) : Prop :=
  (∀ y, y ≠ a → y ≠ ia → y ≠ wp → I' y = I y) ∧ (∀ y, y ≠ a → R' y = R y) ∧ (∀ j, j ≠ 7 → R' a j = R a j) ∧ (∀ j, j < 6 → I' a j = I a j) ∧ (∀ j, j ≠ k → I' wp j = I wp j) ∧ (∀ y, y ≠ wt → L' y = L y) ∧ (∀ j, j ≠ k → L' wt j = L wt j)
theorem PI2_rf {a wt wp ia k : Nat} : PI2 a wt wp ia k I R L I R L := ⟨fun _ _ _ _ => rfl, fun _ _ => rfl, fun _ _ => rfl, fun _ _ => rfl, fun _ _ => rfl, fun _ _ => rfl, fun _ _ => rfl⟩
theorem PI2_tr {a wt wp ia k : Nat} {I1 I2 : Nat → Nat → Int32} {R1 R2 : Nat → Nat → Nat} {L1 L2 : Nat → Nat → Int64} (h : PI2 a wt wp ia k I R L I1 R1 L1) (h' : PI2 a wt wp ia k I1 R1 L1 I2 R2 L2) : PI2 a wt wp ia k I R L I2 R2 L2 := by
  obtain ⟨a1, a2, a3, a4, a5, a6, a7⟩ := h
  obtain ⟨b1, b2, b3, b4, b5, b6, b7⟩ := h'
  exact ⟨fun y q1 q2 q3 => (b1 y q1 q2 q3).trans (a1 y q1 q2 q3), fun y q => (b2 y q).trans (a2 y q), fun j q => (b3 j q).trans (a3 j q), fun j q => (b4 j q).trans (a4 j q), fun j q => (b5 j q).trans (a5 j q), fun y q => (b6 y q).trans (a6 y q), fun j q => (b7 j q).trans (a7 j q)⟩
theorem PI2_PF {a wt wp ia k : Nat} {I' : Nat → Nat → Int32} {R' : Nat → Nat → Nat} (h : PF a I R I' R') (hw : wp ≠ a) : PI2 a wt wp ia k I R L I' R' L :=
  ⟨fun y q _ _ => h.1 y q, h.2.1, h.2.2.1, h.2.2.2, fun j _ => by rw [h.1 wp hw], fun _ _ => rfl, fun _ _ => rfl⟩
theorem PI2_ia {a wt wp ia k : Nat} {F : Nat → Int32} (h1 : ia ≠ a) (h2 : ia ≠ wp) : PI2 a wt wp ia k I R L (va_up I ia F) R L :=
  ⟨fun y _ q _ => va_up_ne _ _ q, fun _ _ => rfl, fun _ _ => rfl, fun j _ => by rw [va_up_ne _ _ (Ne.symm h1)], fun j _ => by rw [va_up_ne _ _ (Ne.symm h2)], fun _ _ => rfl, fun _ _ => rfl⟩
theorem Smd_up {a tp n y : Nat} {t : Nat → Int} {m : MD} {F : Nat → Int32} (h : Smd K I R N a tp t n m) (h1 : a ≠ y) (h2 : tp ≠ y) : Smd K (va_up I y F) R N a tp t n m := by
  cases m with
  | inl x =>
    obtain ⟨c, pl⟩ := x
    obtain ⟨ka, i10, c1, c2, i11⟩ := h
    exact ⟨ka, by rw [va_up_ne _ _ h1]; exact i10, c1, c2, by rw [va_up_ne _ _ h1]; exact i11⟩
  | inr T => exact Lv_up h h1 h2
/-- what a piece leaves -/
def PcO (K : Nat → Nat) (I : Nat → Nat → Int32) (R : Nat → Nat → Nat) (L : Nat → Nat → Int64) (N : Nat → Nat) (w : Nat × Nat × Nat × Nat) (a wt wp tp ia k : Nat) (t : Nat → Int) (n : Nat) (res : Option Hp) (s : PS) : Prop :=
  ∃ I' R' L', res = some (K, I', R', L', N, w) ∧ PI2 a wt wp ia k I R L I' R' L' ∧ Smd K I' R' N a tp t n s.1 ∧ Iv I' L' wt wp ia k s.2.1 s.2.2.1 s.2.2.2
/-- a number, then a field of the instruction -/
theorem p_num {a nm wt wp tp l ia k n : Nat} {t f : Nat → Int} {v q lo hi : Int} {T : TK} {j : Nat} {I1 : Nat → Nat → Int32} {R1 : Nat → Nat → Nat} {res : Option Hp} (hg : Ig K I R N a nm wt wp tp l ia k) (hv0 : Iv I L wt wp ia k f v q) (p1 : PF a I R I1 R1) (h : Lv K I1 R1 N a tp t n T) (hj : 1 ≤ j ∧ j ≤ 9) (b1 : -1000 ≤ lo) (b2' : hi < 100000) (b3 : -1000 ≤ hi) (b4 : lo < 100000)
    (e : ∀ (z : Int) I2 R2, fX8_passNumber a (jI lo) (jI hi) (K, I1, R1, L, N, w) = some (jI z, (K, I2, R2, L, N, w)) → res = some (K, va_up I2 ia (va_up (I2 ia) j (jI z)), R2, L, N, w)) : PcO K I R L N w a wt wp tp ia k t n res (nmP (mnum t n T lo hi) f j v q) := by
  obtain ⟨hb, r5, k6, i2, hk, ki, nwt⟩ := hg
  obtain ⟨ka, r0, r1, r2, k1, n1, k2, n2, k3, n3⟩ := hb
  have nia : ia ≠ a := fun q => by rw [q, ka] at ki; omega
  have niw : ia ≠ wp := fun q => by rw [q, k3] at ki; omega
  have nwa : wp ≠ a := fun q => by rw [q, ka] at k3; omega
  have nit : tp ≠ ia := fun q => by
    have := h.2.2.2.1.1
    rw [q, ki] at this; omega
  obtain ⟨I2, R2, en, st, p2⟩ := e_mnum (L := L) (w := w) (lo := lo) (hi := hi) h b1 b2' b3 b4
  have pt := PF_tr p1 p2
  refine ⟨_, R2, L, e _ _ _ en, PI2_tr (PI2_PF pt nwa) (PI2_ia nia niw), Smd_up st (Ne.symm nia) nit, ⟨fun i h1 h2 => ?_, hv0.2.1, fun hv => ?_, hv0.2.2.2.1, by show va_up f j _ 10 = -1; rw [va_up_ne _ _ (by omega)]; exact hv0.2.2.2.2⟩⟩
  · show va_up I2 ia _ ia i = jI (va_up f j _ i)
    rw [va_up_self]
    unfold va_up
    by_cases c : i = j
    · rw [if_pos c, if_pos c]
    · rw [if_neg c, if_neg c, pt.1 ia nia]; exact hv0.1 i h1 h2
  · rw [va_up_ne _ _ (Ne.symm niw), pt.1 wp nwa]; exact hv0.2.2.1 hv
theorem p_neg {a nm wt wp tp l ia k n : Nat} {t f : Nat → Int} {v q lo hi : Int} {T : TK} {j : Nat} {I1 : Nat → Nat → Int32} {R1 : Nat → Nat → Nat} {res : Option Hp} (hg : Ig K I R N a nm wt wp tp l ia k) (hv0 : Iv I L wt wp ia k f v q) (p1 : PF a I R I1 R1) (h : Lv K I1 R1 N a tp t n T) (hj : 1 ≤ j ∧ j ≤ 9) (b1 : -1000 ≤ lo) (b2' : hi < 100000) (b3 : -1000 ≤ hi) (b4 : lo < 100000)
    (e : ∀ (z : Int) I2 R2, fX8_passNumber a (jI lo) (jI hi) (K, I1, R1, L, N, w) = some (jI z, (K, I2, R2, L, N, w)) → res = some (K, va_up I2 ia (va_up (I2 ia) j (jI (-z))), R2, L, N, w)) : PcO K I R L N w a wt wp tp ia k t n res (ngP (mnum t n T lo hi) f j v q) := by
  obtain ⟨hb, r5, k6, i2, hk, ki, nwt⟩ := hg
  obtain ⟨ka, r0, r1, r2, k1, n1, k2, n2, k3, n3⟩ := hb
  have nia : ia ≠ a := fun q => by rw [q, ka] at ki; omega
  have niw : ia ≠ wp := fun q => by rw [q, k3] at ki; omega
  have nwa : wp ≠ a := fun q => by rw [q, ka] at k3; omega
  have nit : tp ≠ ia := fun q => by
    have := h.2.2.2.1.1
    rw [q, ki] at this; omega
  obtain ⟨I2, R2, en, st, p2⟩ := e_mnum (L := L) (w := w) (lo := lo) (hi := hi) h b1 b2' b3 b4
  have pt := PF_tr p1 p2
  refine ⟨_, R2, L, e _ _ _ en, PI2_tr (PI2_PF pt nwa) (PI2_ia nia niw), Smd_up st (Ne.symm nia) nit, ⟨fun i h1 h2 => ?_, hv0.2.1, fun hv => ?_, hv0.2.2.2.1, by show va_up f j _ 10 = -1; rw [va_up_ne _ _ (by omega)]; exact hv0.2.2.2.2⟩⟩
  · show va_up I2 ia _ ia i = jI (va_up f j _ i)
    rw [va_up_self]
    unfold va_up
    by_cases c : i = j
    · rw [if_pos c, if_pos c]
    · rw [if_neg c, if_neg c, pt.1 ia nia]; exact hv0.1 i h1 h2
  · rw [va_up_ne _ _ (Ne.symm niw), pt.1 wp nwa]; exact hv0.2.2.1 hv
/-- a field alone -/
theorem p_set {a nm wt wp tp l ia k n : Nat} {t f : Nat → Int} {v q z : Int} {T : TK} {j : Nat} {res : Option Hp} (hj : j ≠ 10) (hg : Ig K I R N a nm wt wp tp l ia k) (hi : Iv I L wt wp ia k f v q) (h : Lv K I R N a tp t n T) (e : res = some (K, va_up I ia (va_up (I ia) j (jI z)), R, L, N, w)) : PcO K I R L N w a wt wp tp ia k t n res (.inr T, va_up f j z, v, q) := by
  obtain ⟨hb, r5, k6, i2, hk, ki, nwt⟩ := hg
  obtain ⟨ka, r0, r1, r2, k1, n1, k2, n2, k3, n3⟩ := hb
  have nia : ia ≠ a := fun q => by rw [q, ka] at ki; omega
  have niw : ia ≠ wp := fun q => by rw [q, k3] at ki; omega
  have nit : tp ≠ ia := fun q => by
    have := h.2.2.2.1.1
    rw [q, ki] at this; omega
  refine ⟨_, R, L, e, PI2_ia nia niw, Lv_up h (Ne.symm nia) nit, ⟨fun i h1 h2 => ?_, hi.2.1, fun hv => ?_, hi.2.2.2.1, by show va_up f j z 10 = -1; rw [va_up_ne _ _ (Ne.symm hj)]; exact hi.2.2.2.2⟩⟩
  · show va_up I ia _ ia i = jI (va_up f j z i)
    rw [va_up_self]
    unfold va_up
    by_cases c : i = j
    · rw [if_pos c, if_pos c]
    · rw [if_neg c, if_neg c]; exact hi.1 i h1 h2
  · rw [va_up_ne _ _ (Ne.symm niw)]; exact hi.2.2.1 hv
/-- signs alone -/
theorem p_sgn {a nm wt wp tp l ia k n : Nat} {t f : Nat → Int} {v q : Int} {m : MD} {I1 : Nat → Nat → Int32} {R1 : Nat → Nat → Nat} {res : Option Hp} (hg : Ig K I R N a nm wt wp tp l ia k) (hi : Iv I L wt wp ia k f v q) (p1 : PF a I R I1 R1) (st : Smd K I1 R1 N a tp t n m) (e : res = some (K, I1, R1, L, N, w)) : PcO K I R L N w a wt wp tp ia k t n res (m, f, v, q) := by
  obtain ⟨hb, r5, k6, i2, hk, ki, nwt⟩ := hg
  obtain ⟨ka, r0, r1, r2, k1, n1, k2, n2, k3, n3⟩ := hb
  have nia : ia ≠ a := fun q => by rw [q, ka] at ki; omega
  have nwa : wp ≠ a := fun q => by rw [q, ka] at k3; omega
  exact ⟨I1, R1, L, e, PI2_PF p1 nwa, st, ⟨fun i h1 h2 => by rw [p1.1 ia nia]; exact hi.1 i h1 h2, hi.2.1, fun hv => by rw [p1.1 wp nwa]; exact hi.2.2.1 hv, hi.2.2.2⟩⟩
theorem e_rdT {a nm wt wp tp l ia k n : Nat} {t f : Nat → Int} {v q : Int} {T : TK} (hg : Ig K I R N a nm wt wp tp l ia k) (hi : Iv I L wt wp ia k f v q) (h : Lv K I R N a tp t n T) : PcO K I R L N w a wt wp tp ia k t n (fX8_readTarget a (K, I, R, L, N, w)) (tgP t n T f v q) := by
  have hgg := hg
  obtain ⟨hb, r5, k6, i2, hk, ki, nwt⟩ := hg
  obtain ⟨ka, r0, r1, r2, k1, n1, k2, n2, k3, n3⟩ := hb
  have nia : ia ≠ a := fun q => by rw [q, ka] at ki; omega
  have niw : ia ≠ wp := fun q => by rw [q, k3] at ki; omega
  have nwa : wp ≠ a := fun q => by rw [q, ka] at k3; omega
  have nla : l ≠ a := fun q => by rw [q, ka] at k6; omega
  obtain ⟨I1, z, en, pf, hf, hv⟩ := e_mnm (L := L) (w := w) h
  have es : fX6_size l (K, I1, R, L, N, w) = some (jI ((k + 1 : Nat) : Int)) := by
    have i2' : I1 l 2 = jI ((k + 1 : Nat) : Int) := by rw [pf.1 l nla]; exact i2
    unfold fX6_size
    ((repeat (first | (with_reducible apply q_gd; · (first | assumption | omega)) | (with_reducible apply q_ob; · (first | with_reducible rfl | ((simp (disch := omega) only [jI_lit, jI_neg, jI_add, jI_sub, jI_mul, o_gI, o_gR, o_pI, o_pZ0, o_pZ1, o_pZb, o_pR, o_aI, o_qI, o_aN, tn, va_up_self, va_up_ne, upup, jI_shr1, jI_shr4, jI_shr0, jI_and1, jI_and15, jI_join, jI_240, jI_hi, jF_at, jF_up, jI_max, jI_min, b2_t, b2_f, Bool.not_true, Bool.not_false, eq_self, true_or, or_true, i2']) <;> with_reducible rfl))) | (with_reducible apply q_ob2; · (first | with_reducible rfl | ((simp (disch := omega) only [jI_lit, jI_neg, jI_add, jI_sub, jI_mul, o_gI, o_gR, o_pI, o_pZ0, o_pZ1, o_pZb, o_pR, o_aI, o_qI, o_aN, tn, va_up_self, va_up_ne, upup, jI_shr1, jI_shr4, jI_shr0, jI_and1, jI_and15, jI_join, jI_240, jI_hi, jF_at, jF_up, jI_max, jI_min, b2_t, b2_f, Bool.not_true, Bool.not_false, eq_self, true_or, or_true, i2']) <;> with_reducible rfl))) | (with_reducible apply q_lt; · (first | with_reducible rfl | ((simp (disch := omega) only [jI_lit, jI_neg, jI_add, jI_sub, jI_mul, o_gI, o_gR, o_pI, o_pZ0, o_pZ1, o_pZb, o_pR, o_aI, o_qI, o_aN, tn, va_up_self, va_up_ne, upup, jI_shr1, jI_shr4, jI_shr0, jI_and1, jI_and15, jI_join, jI_240, jI_hi, jF_at, jF_up, jI_max, jI_min, b2_t, b2_f, Bool.not_true, Bool.not_false, eq_self, true_or, or_true, i2']) <;> with_reducible rfl))) | (with_reducible apply q_ifp; · (first | ((simp (disch := omega) only [jI_lit, jI_neg, jI_add, jI_sub, jI_mul, jI_lt, jI_le, jI_eq, va_up_self, va_up_ne, jI_shr1, jI_shr4, jI_shr0, jI_and1, jI_and15, jF_at, tn, b2_t, b2_f, cmp_ge, cmp_gt, cmp_le, cmp_lt, cmp_eq, jL_lit, jL_lt, jL_le, jL_eq, i2']) <;> omega) | omega)) | (with_reducible apply q_ifn; · (first | ((simp (disch := omega) only [jI_lit, jI_neg, jI_add, jI_sub, jI_mul, jI_lt, jI_le, jI_eq, va_up_self, va_up_ne, jI_shr1, jI_shr4, jI_shr0, jI_and1, jI_and15, jF_at, tn, b2_t, b2_f, cmp_ge, cmp_gt, cmp_le, cmp_lt, cmp_eq, jL_lit, jL_lt, jL_le, jL_eq, i2']) <;> omega) | omega)) | (with_reducible apply q_obk; · (first | with_reducible rfl | ((simp (disch := omega) only [jI_lit, jI_neg, jI_add, jI_sub, jI_mul, o_gI, o_gR, o_pI, o_pZ0, o_pZ1, o_pZb, o_pR, o_aI, o_qI, o_aN, tn, va_up_self, va_up_ne, upup, jI_shr1, jI_shr4, jI_shr0, jI_and1, jI_and15, jI_join, jI_240, jI_hi, jF_at, jF_up, jI_max, jI_min, b2_t, b2_f, Bool.not_true, Bool.not_false, eq_self, true_or, or_true, i2']) <;> with_reducible rfl))) | (with_reducible apply q_nz; · (first | ((simp (disch := omega) only [jI_lit, jI_neg, jI_add, jI_sub, jI_mul, jI_lt, jI_le, jI_eq, va_up_self, va_up_ne, jI_shr1, jI_shr4, jI_shr0, jI_and1, jI_and15, jF_at, tn, b2_t, b2_f, cmp_ge, cmp_gt, cmp_le, cmp_lt, cmp_eq, jL_lit, jL_lt, jL_le, jL_eq, i2']) <;> omega) | omega)) | (with_reducible apply q_rz; · (first | exact b2_01 _ | decide)))) <;> (first | with_reducible rfl | ((simp (disch := omega) only [jI_lit, jI_neg, jI_add, jI_sub, jI_mul, o_gI, o_gR, o_pI, o_pZ0, o_pZ1, o_pZb, o_pR, o_aI, o_qI, o_aN, tn, va_up_self, va_up_ne, upup, jI_shr1, jI_shr4, jI_shr0, jI_and1, jI_and15, jI_join, jI_240, jI_hi, jF_at, jF_up, jI_max, jI_min, b2_t, b2_f, Bool.not_true, Bool.not_false, eq_self, true_or, or_true, i2']) <;> with_reducible rfl) | rfl))
  have e1 : ((k + 1 : Nat) : Int) - 1 = (k : Int) := by omega
  unfold tgP
  cases hm : mnm t T with
  | inl x =>
    have st := hf x hm
    refine p_sgn hgg hi pf st ?_
    obtain ⟨kd, pl⟩ := x
    obtain ⟨-, i10, c1, c2, -⟩ := st
    clear hgg hi h hf hv hm pf
    unfold fX8_readTarget
    ((repeat (first | (with_reducible apply q_gd; · (first | assumption | omega)) | (with_reducible apply q_ob; · (first | with_reducible rfl | ((simp (disch := omega) only [jI_lit, jI_neg, jI_add, jI_sub, jI_mul, o_gI, o_gR, o_pI, o_pZ0, o_pZ1, o_pZb, o_pR, o_aI, o_qI, o_aN, tn, va_up_self, va_up_ne, upup, jI_shr1, jI_shr4, jI_shr0, jI_and1, jI_and15, jI_join, jI_240, jI_hi, jF_at, jF_up, jI_max, jI_min, b2_t, b2_f, Bool.not_true, Bool.not_false, eq_self, true_or, or_true, en, r5, es, i10, e1]) <;> with_reducible rfl))) | (with_reducible apply q_ob2; · (first | with_reducible rfl | ((simp (disch := omega) only [jI_lit, jI_neg, jI_add, jI_sub, jI_mul, o_gI, o_gR, o_pI, o_pZ0, o_pZ1, o_pZb, o_pR, o_aI, o_qI, o_aN, tn, va_up_self, va_up_ne, upup, jI_shr1, jI_shr4, jI_shr0, jI_and1, jI_and15, jI_join, jI_240, jI_hi, jF_at, jF_up, jI_max, jI_min, b2_t, b2_f, Bool.not_true, Bool.not_false, eq_self, true_or, or_true, en, r5, es, i10, e1]) <;> with_reducible rfl))) | (with_reducible apply q_lt; · (first | with_reducible rfl | ((simp (disch := omega) only [jI_lit, jI_neg, jI_add, jI_sub, jI_mul, o_gI, o_gR, o_pI, o_pZ0, o_pZ1, o_pZb, o_pR, o_aI, o_qI, o_aN, tn, va_up_self, va_up_ne, upup, jI_shr1, jI_shr4, jI_shr0, jI_and1, jI_and15, jI_join, jI_240, jI_hi, jF_at, jF_up, jI_max, jI_min, b2_t, b2_f, Bool.not_true, Bool.not_false, eq_self, true_or, or_true, en, r5, es, i10, e1]) <;> with_reducible rfl))) | (with_reducible apply q_ifp; · (first | ((simp (disch := omega) only [jI_lit, jI_neg, jI_add, jI_sub, jI_mul, jI_lt, jI_le, jI_eq, va_up_self, va_up_ne, jI_shr1, jI_shr4, jI_shr0, jI_and1, jI_and15, jF_at, tn, b2_t, b2_f, cmp_ge, cmp_gt, cmp_le, cmp_lt, cmp_eq, jL_lit, jL_lt, jL_le, jL_eq, en, r5, es, i10, e1]) <;> omega) | omega)) | (with_reducible apply q_ifn; · (first | ((simp (disch := omega) only [jI_lit, jI_neg, jI_add, jI_sub, jI_mul, jI_lt, jI_le, jI_eq, va_up_self, va_up_ne, jI_shr1, jI_shr4, jI_shr0, jI_and1, jI_and15, jF_at, tn, b2_t, b2_f, cmp_ge, cmp_gt, cmp_le, cmp_lt, cmp_eq, jL_lit, jL_lt, jL_le, jL_eq, en, r5, es, i10, e1]) <;> omega) | omega)) | (with_reducible apply q_obk; · (first | with_reducible rfl | ((simp (disch := omega) only [jI_lit, jI_neg, jI_add, jI_sub, jI_mul, o_gI, o_gR, o_pI, o_pZ0, o_pZ1, o_pZb, o_pR, o_aI, o_qI, o_aN, tn, va_up_self, va_up_ne, upup, jI_shr1, jI_shr4, jI_shr0, jI_and1, jI_and15, jI_join, jI_240, jI_hi, jF_at, jF_up, jI_max, jI_min, b2_t, b2_f, Bool.not_true, Bool.not_false, eq_self, true_or, or_true, en, r5, es, i10, e1]) <;> with_reducible rfl))) | (with_reducible apply q_nz; · (first | ((simp (disch := omega) only [jI_lit, jI_neg, jI_add, jI_sub, jI_mul, jI_lt, jI_le, jI_eq, va_up_self, va_up_ne, jI_shr1, jI_shr4, jI_shr0, jI_and1, jI_and15, jF_at, tn, b2_t, b2_f, cmp_ge, cmp_gt, cmp_le, cmp_lt, cmp_eq, jL_lit, jL_lt, jL_le, jL_eq, en, r5, es, i10, e1]) <;> omega) | omega)) | (with_reducible apply q_rz; · (first | exact b2_01 _ | decide)))) <;> (first | with_reducible rfl | ((simp (disch := omega) only [jI_lit, jI_neg, jI_add, jI_sub, jI_mul, o_gI, o_gR, o_pI, o_pZ0, o_pZ1, o_pZb, o_pR, o_aI, o_qI, o_aN, tn, va_up_self, va_up_ne, upup, jI_shr1, jI_shr4, jI_shr0, jI_and1, jI_and15, jI_join, jI_240, jI_hi, jF_at, jF_up, jI_max, jI_min, b2_t, b2_f, Bool.not_true, Bool.not_false, eq_self, true_or, or_true, en, r5, es, i10, e1]) <;> with_reducible rfl) | rfl))
  | inr vz =>
    obtain ⟨eI, ez, v1, v2⟩ := hv vz hm
    subst eI
    subst ez
    have i10 := h.2.2.2.2.2.2.1
    have i8 := h.2.2.2.2.2.2.2.1.2.1
    have ntw : tp ≠ wp := Ne.symm nwt
    have ek : ((k : Int)).toNat = k := by omega
    obtain ⟨s, hs⟩ : ∃ s, s = T.2.1 := ⟨_, rfl⟩
    have h2 : Lv K (va_up I1 wp (va_up (I1 wp) k (jI (T.2.1 : Nat)))) R N a tp t n T := Lv_up h (Ne.symm nwa) ntw
    obtain ⟨I3, R3, ea, l3, p3⟩ := e_adv (L := va_up L wt (va_up (L wt) k (jL z))) (w := w) h2
    have nwwt : wp ≠ wt := fun q => by rw [q, k2] at k3; omega
    rw [← hs] at i8 ea p3
    refine ⟨I3, R3, va_up L wt (va_up (L wt) k (jL z)), ?_, ⟨fun y y1 y2 y3 => ?_, p3.2.1, p3.2.2.1, fun j hj => ?_, fun j hj => ?_, fun y hy => va_up_ne _ _ hy, fun j hj => ?_⟩, l3, ⟨fun i q1 q2 => ?_, ?_, fun _ => ?_, ⟨by show 0 ≤ z; omega, v2⟩, hi.2.2.2.2⟩⟩
    · clear hgg hi h hf hv hm pf h2 l3 p3 hs
      unfold fX8_readTarget
      ((repeat (first | (with_reducible apply q_gd; · (first | assumption | omega)) | (with_reducible apply q_ob; · (first | with_reducible rfl | ((simp (disch := omega) only [jI_lit, jI_neg, jI_add, jI_sub, jI_mul, o_gI, o_gR, o_pI, o_pZ0, o_pZ1, o_pZb, o_pR, o_aI, o_qI, o_aN, tn, va_up_self, va_up_ne, upup, jI_shr1, jI_shr4, jI_shr0, jI_and1, jI_and15, jI_join, jI_240, jI_hi, jF_at, jF_up, jI_max, jI_min, b2_t, b2_f, Bool.not_true, Bool.not_false, eq_self, true_or, or_true, en, r5, es, i10, e1, r1, n2, o_qL, ek, r2, i8, ea]) <;> with_reducible rfl))) | (with_reducible apply q_ob2; · (first | with_reducible rfl | ((simp (disch := omega) only [jI_lit, jI_neg, jI_add, jI_sub, jI_mul, o_gI, o_gR, o_pI, o_pZ0, o_pZ1, o_pZb, o_pR, o_aI, o_qI, o_aN, tn, va_up_self, va_up_ne, upup, jI_shr1, jI_shr4, jI_shr0, jI_and1, jI_and15, jI_join, jI_240, jI_hi, jF_at, jF_up, jI_max, jI_min, b2_t, b2_f, Bool.not_true, Bool.not_false, eq_self, true_or, or_true, en, r5, es, i10, e1, r1, n2, o_qL, ek, r2, i8, ea]) <;> with_reducible rfl))) | (with_reducible apply q_lt; · (first | with_reducible rfl | ((simp (disch := omega) only [jI_lit, jI_neg, jI_add, jI_sub, jI_mul, o_gI, o_gR, o_pI, o_pZ0, o_pZ1, o_pZb, o_pR, o_aI, o_qI, o_aN, tn, va_up_self, va_up_ne, upup, jI_shr1, jI_shr4, jI_shr0, jI_and1, jI_and15, jI_join, jI_240, jI_hi, jF_at, jF_up, jI_max, jI_min, b2_t, b2_f, Bool.not_true, Bool.not_false, eq_self, true_or, or_true, en, r5, es, i10, e1, r1, n2, o_qL, ek, r2, i8, ea]) <;> with_reducible rfl))) | (with_reducible apply q_ifp; · (first | ((simp (disch := omega) only [jI_lit, jI_neg, jI_add, jI_sub, jI_mul, jI_lt, jI_le, jI_eq, va_up_self, va_up_ne, jI_shr1, jI_shr4, jI_shr0, jI_and1, jI_and15, jF_at, tn, b2_t, b2_f, cmp_ge, cmp_gt, cmp_le, cmp_lt, cmp_eq, jL_lit, jL_lt, jL_le, jL_eq, en, r5, es, i10, e1, r1, n2, o_qL, ek, r2, i8, ea]) <;> omega) | omega)) | (with_reducible apply q_ifn; · (first | ((simp (disch := omega) only [jI_lit, jI_neg, jI_add, jI_sub, jI_mul, jI_lt, jI_le, jI_eq, va_up_self, va_up_ne, jI_shr1, jI_shr4, jI_shr0, jI_and1, jI_and15, jF_at, tn, b2_t, b2_f, cmp_ge, cmp_gt, cmp_le, cmp_lt, cmp_eq, jL_lit, jL_lt, jL_le, jL_eq, en, r5, es, i10, e1, r1, n2, o_qL, ek, r2, i8, ea]) <;> omega) | omega)) | (with_reducible apply q_obk; · (first | with_reducible rfl | ((simp (disch := omega) only [jI_lit, jI_neg, jI_add, jI_sub, jI_mul, o_gI, o_gR, o_pI, o_pZ0, o_pZ1, o_pZb, o_pR, o_aI, o_qI, o_aN, tn, va_up_self, va_up_ne, upup, jI_shr1, jI_shr4, jI_shr0, jI_and1, jI_and15, jI_join, jI_240, jI_hi, jF_at, jF_up, jI_max, jI_min, b2_t, b2_f, Bool.not_true, Bool.not_false, eq_self, true_or, or_true, en, r5, es, i10, e1, r1, n2, o_qL, ek, r2, i8, ea]) <;> with_reducible rfl))) | (with_reducible apply q_nz; · (first | ((simp (disch := omega) only [jI_lit, jI_neg, jI_add, jI_sub, jI_mul, jI_lt, jI_le, jI_eq, va_up_self, va_up_ne, jI_shr1, jI_shr4, jI_shr0, jI_and1, jI_and15, jF_at, tn, b2_t, b2_f, cmp_ge, cmp_gt, cmp_le, cmp_lt, cmp_eq, jL_lit, jL_lt, jL_le, jL_eq, en, r5, es, i10, e1, r1, n2, o_qL, ek, r2, i8, ea]) <;> omega) | omega)) | (with_reducible apply q_rz; · (first | exact b2_01 _ | decide)))) <;> (first | with_reducible rfl | ((simp (disch := omega) only [jI_lit, jI_neg, jI_add, jI_sub, jI_mul, o_gI, o_gR, o_pI, o_pZ0, o_pZ1, o_pZb, o_pR, o_aI, o_qI, o_aN, tn, va_up_self, va_up_ne, upup, jI_shr1, jI_shr4, jI_shr0, jI_and1, jI_and15, jI_join, jI_240, jI_hi, jF_at, jF_up, jI_max, jI_min, b2_t, b2_f, Bool.not_true, Bool.not_false, eq_self, true_or, or_true, en, r5, es, i10, e1, r1, n2, o_qL, ek, r2, i8, ea]) <;> with_reducible rfl) | rfl))
    · rw [p3.1 y y1, va_up_ne _ _ y3]
    · rw [p3.2.2.2 j hj, va_up_ne _ _ (Ne.symm nwa)]
    · rw [p3.1 wp nwa, va_up_self, va_up_ne _ _ hj]
    · rw [va_up_self, va_up_ne _ _ hj]
    · rw [p3.1 ia nia, va_up_ne _ _ niw]; exact hi.1 i q1 q2
    · rw [va_up_self, va_up_self]
    · rw [p3.1 wp nwa, va_up_self, va_up_self, hs]
end PCE
