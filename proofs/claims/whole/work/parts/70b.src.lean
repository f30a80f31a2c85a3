section SRC
variable {K : Nat → Nat} {I : Nat → Nat → Int32} {R : Nat → Nat → Nat} {L : Nat → Nat → Int64} {N : Nat → Nat} {w : Nat × Nat × Nat × Nat}
theorem e_srcin {e n idx : Nat} {c v : Nat → Int} {Lq : Nat → Int64} (h : Sr K I R N e n c v) (hk : idx ≤ n) (hL : ∀ m, 4 * (idx + 1) ≤ m → m < 4 * (n + 1) → Lq m = jL (wvt c v n m : Nat)) (k113 : Nat → Int32 → Hp → Option (Int64 × Hp)) :
    lp (fun _ _ _ _ => none) (fX3_sources_121 k113) FU e (jI (idx : Int)) (jI ((0 : Nat) : Int)) (K, I, R, va_up L (e + 4) Lq, N, w) = k113 e (jI ((idx : Int) + -1)) (K, I, R, va_up L (e + 4) (fun m => if 4 * idx ≤ m ∧ m < 4 * idx + 4 then jL (wvt c v n m : Nat) else Lq m), N, w) := by
  have hh := h
  obtain ⟨ed, hn, hc, hv, i5, i14, i16, hr⟩ := hh
  obtain ⟨k3, r0, r1, r2, r3, k1, n1, k2, n2, k3', n3, k4, n4⟩ := ed
  have key := lp_up (z := fun _ _ _ _ => none) (S := fX3_sources_121 k113) (β := Int64 × Hp) (fun kk s => kk e (jI (idx : Int)) (jI (s : Int)) (K, I, R, va_up L (e + 4) (fun m => if 4 * idx ≤ m ∧ m < 4 * idx + s then jL (wvt c v n m : Nat) else Lq m), N, w)) (E := k113 e (jI ((idx : Int) + -1)) (K, I, R, va_up L (e + 4) (fun m => if 4 * idx ≤ m ∧ m < 4 * idx + 4 then jL (wvt c v n m : Nat) else Lq m), N, w)) (M := 4) ?_ ?_ FU 0 (by omega) (FU_lt (by omega))
  · have z0 : (fun m => if 4 * idx ≤ m ∧ m < 4 * idx + 0 then jL (wvt c v n m : Nat) else Lq m) = Lq := rg_0 (fun m => jL (wvt c v n m : Nat)) _ _
    rw [z0] at key
    exact key
  · intro s hs kk
    obtain ⟨G, hG⟩ : ∃ G : Nat → Int64, G = fun m => if 4 * idx ≤ m ∧ m < 4 * idx + s then jL (wvt c v n m : Nat) else Lq m := ⟨_, rfl⟩
    have eu : va_up G (4 * idx + s) (jL (wvt c v n (4 * idx + s) : Nat)) = fun m => if 4 * idx ≤ m ∧ m < 4 * idx + (s + 1) then jL (wvt c v n m : Nat) else Lq m := by rw [hG]; exact up_rg (fun m => jL (wvt c v n m : Nat)) _ _ _
    show fX3_sources_121 k113 kk e (jI (idx : Int)) (jI (s : Int)) (K, I, R, va_up L (e + 4) (fun m => if 4 * idx ≤ m ∧ m < 4 * idx + s then jL (wvt c v n m : Nat) else Lq m), N, w) = kk e (jI (idx : Int)) (jI ((s + 1 : Nat) : Int)) (K, I, R, va_up L (e + 4) (fun m => if 4 * idx ≤ m ∧ m < 4 * idx + (s + 1) then jL (wvt c v n m : Nat) else Lq m), N, w)
    rw [← eu, ← hG]
    obtain ⟨is, his⟩ : ∃ is, is = decide (s % 2 = 1) := ⟨_, rfl⟩
    obtain ⟨be, hbe⟩ : ∃ be, be = decide (s / 2 % 2 = 1) := ⟨_, rfl⟩
    have est : stn is be = s := by
      rw [his, hbe]
      have : s = 0 ∨ s = 1 ∨ s = 2 ∨ s = 3 := by omega
      rcases this with q | q | q | q <;> subst q <;> rfl
    have ev : ((4 * (idx : Int) + (s : Int))).toNat = 4 * idx + s := by omega
    have es : (s : Int) + 1 = ((s + 1 : Nat) : Int) := by omega
    have eq : ∀ z, qL (e + 4) (jI (4 * (idx : Int) + (s : Int))) z (K, I, R, va_up L (e + 4) G, N, w) = some (K, I, R, va_up L (e + 4) (va_up G (4 * idx + s) z), N, w) := fun z => by
      rw [o_qL k4 (by omega) (by omega) (by omega), va_up_self, upup, ev]
    by_cases q : idx = n
    · have w1 : jL (wvt c v n (4 * idx + s) : Nat) = 1 := by
        rw [← est, wvt_at, q, Nat.sub_self]; rfl
      have eq1 := eq 1
      rw [w1]
      rw [← q] at i14
      clear hc hv hr hL h hG eu w1 his hbe est eq q
      unfold fX3_sources_121 fX3_sources_159
      ((repeat (first | (with_reducible apply q_gd; · (first | assumption | omega)) | (with_reducible apply q_ob; · (first | with_reducible rfl | ((simp (disch := omega) only [jI_lit, jI_neg, jI_add, jI_sub, jI_mul, o_gI, o_gR, o_pI, o_pZ0, o_pZ1, o_pZb, o_pR, o_aI, o_qI, o_aN, tn, va_up_self, va_up_ne, upup, jI_shr1, jI_shr4, jI_shr0, jI_and1, jI_and15, jI_join, jI_240, jI_hi, jF_at, jF_up, jI_max, jI_min, b2_t, b2_f, Bool.not_true, Bool.not_false, eq_self, true_or, or_true, r3, i14, eq1, es]) <;> with_reducible rfl))) | (with_reducible apply q_ob2; · (first | with_reducible rfl | ((simp (disch := omega) only [jI_lit, jI_neg, jI_add, jI_sub, jI_mul, o_gI, o_gR, o_pI, o_pZ0, o_pZ1, o_pZb, o_pR, o_aI, o_qI, o_aN, tn, va_up_self, va_up_ne, upup, jI_shr1, jI_shr4, jI_shr0, jI_and1, jI_and15, jI_join, jI_240, jI_hi, jF_at, jF_up, jI_max, jI_min, b2_t, b2_f, Bool.not_true, Bool.not_false, eq_self, true_or, or_true, r3, i14, eq1, es]) <;> with_reducible rfl))) | (with_reducible apply q_lt; · (first | with_reducible rfl | ((simp (disch := omega) only [jI_lit, jI_neg, jI_add, jI_sub, jI_mul, o_gI, o_gR, o_pI, o_pZ0, o_pZ1, o_pZb, o_pR, o_aI, o_qI, o_aN, tn, va_up_self, va_up_ne, upup, jI_shr1, jI_shr4, jI_shr0, jI_and1, jI_and15, jI_join, jI_240, jI_hi, jF_at, jF_up, jI_max, jI_min, b2_t, b2_f, Bool.not_true, Bool.not_false, eq_self, true_or, or_true, r3, i14, eq1, es]) <;> with_reducible rfl))) | (with_reducible apply q_ifp; · (first | ((simp (disch := omega) only [jI_lit, jI_neg, jI_add, jI_sub, jI_mul, jI_lt, jI_le, jI_eq, va_up_self, va_up_ne, jI_shr1, jI_shr4, jI_shr0, jI_and1, jI_and15, jF_at, tn, b2_t, b2_f, cmp_ge, cmp_gt, cmp_le, cmp_lt, cmp_eq, jL_lit, jL_lt, jL_le, jL_eq, r3, i14, eq1, es]) <;> omega) | omega)) | (with_reducible apply q_ifn; · (first | ((simp (disch := omega) only [jI_lit, jI_neg, jI_add, jI_sub, jI_mul, jI_lt, jI_le, jI_eq, va_up_self, va_up_ne, jI_shr1, jI_shr4, jI_shr0, jI_and1, jI_and15, jF_at, tn, b2_t, b2_f, cmp_ge, cmp_gt, cmp_le, cmp_lt, cmp_eq, jL_lit, jL_lt, jL_le, jL_eq, r3, i14, eq1, es]) <;> omega) | omega)) | (with_reducible apply q_obk; · (first | with_reducible rfl | ((simp (disch := omega) only [jI_lit, jI_neg, jI_add, jI_sub, jI_mul, o_gI, o_gR, o_pI, o_pZ0, o_pZ1, o_pZb, o_pR, o_aI, o_qI, o_aN, tn, va_up_self, va_up_ne, upup, jI_shr1, jI_shr4, jI_shr0, jI_and1, jI_and15, jI_join, jI_240, jI_hi, jF_at, jF_up, jI_max, jI_min, b2_t, b2_f, Bool.not_true, Bool.not_false, eq_self, true_or, or_true, r3, i14, eq1, es]) <;> with_reducible rfl))) | (with_reducible apply q_nz; · (first | ((simp (disch := omega) only [jI_lit, jI_neg, jI_add, jI_sub, jI_mul, jI_lt, jI_le, jI_eq, va_up_self, va_up_ne, jI_shr1, jI_shr4, jI_shr0, jI_and1, jI_and15, jF_at, tn, b2_t, b2_f, cmp_ge, cmp_gt, cmp_le, cmp_lt, cmp_eq, jL_lit, jL_lt, jL_le, jL_eq, r3, i14, eq1, es]) <;> omega) | omega)) | (with_reducible apply q_rz; · (first | exact b2_01 _ | decide)))) <;> (first | with_reducible rfl | ((simp (disch := omega) only [jI_lit, jI_neg, jI_add, jI_sub, jI_mul, o_gI, o_gR, o_pI, o_pZ0, o_pZ1, o_pZb, o_pR, o_aI, o_qI, o_aN, tn, va_up_self, va_up_ne, upup, jI_shr1, jI_shr4, jI_shr0, jI_and1, jI_and15, jI_join, jI_240, jI_hi, jF_at, jF_up, jI_max, jI_min, b2_t, b2_f, Bool.not_true, Bool.not_false, eq_self, true_or, or_true, r3, i14, eq1, es]) <;> with_reducible rfl) | rfl))
    · have ew := e_waysFrom (L := va_up L (e + 4) G) (w := w) (is := is) (be := be) (k := idx) h (by omega) (fun m h1 h2 => by
        rw [va_up_self, hG]
        show (if _ then _ else _) = _
        rw [if_neg (by omega)]
        exact hL m h1 h2)
      rw [est] at ew
      have w1 : wvt c v n (4 * idx + s) = wy c v n (n - idx) is be := by rw [← est, wvt_at]
      rw [← w1] at ew
      have eq1 := eq (jL (wvt c v n (4 * idx + s) : Nat))
      clear hc hv hr hL h hG eu w1 his hbe est eq
      unfold fX3_sources_121 fX3_sources_159
      ((repeat (first | (with_reducible apply q_gd; · (first | assumption | omega)) | (with_reducible apply q_ob; · (first | with_reducible rfl | ((simp (disch := omega) only [jI_lit, jI_neg, jI_add, jI_sub, jI_mul, o_gI, o_gR, o_pI, o_pZ0, o_pZ1, o_pZb, o_pR, o_aI, o_qI, o_aN, tn, va_up_self, va_up_ne, upup, jI_shr1, jI_shr4, jI_shr0, jI_and1, jI_and15, jI_join, jI_240, jI_hi, jF_at, jF_up, jI_max, jI_min, b2_t, b2_f, Bool.not_true, Bool.not_false, eq_self, true_or, or_true, r3, i14, ew, eq1, es]) <;> with_reducible rfl))) | (with_reducible apply q_ob2; · (first | with_reducible rfl | ((simp (disch := omega) only [jI_lit, jI_neg, jI_add, jI_sub, jI_mul, o_gI, o_gR, o_pI, o_pZ0, o_pZ1, o_pZb, o_pR, o_aI, o_qI, o_aN, tn, va_up_self, va_up_ne, upup, jI_shr1, jI_shr4, jI_shr0, jI_and1, jI_and15, jI_join, jI_240, jI_hi, jF_at, jF_up, jI_max, jI_min, b2_t, b2_f, Bool.not_true, Bool.not_false, eq_self, true_or, or_true, r3, i14, ew, eq1, es]) <;> with_reducible rfl))) | (with_reducible apply q_lt; · (first | with_reducible rfl | ((simp (disch := omega) only [jI_lit, jI_neg, jI_add, jI_sub, jI_mul, o_gI, o_gR, o_pI, o_pZ0, o_pZ1, o_pZb, o_pR, o_aI, o_qI, o_aN, tn, va_up_self, va_up_ne, upup, jI_shr1, jI_shr4, jI_shr0, jI_and1, jI_and15, jI_join, jI_240, jI_hi, jF_at, jF_up, jI_max, jI_min, b2_t, b2_f, Bool.not_true, Bool.not_false, eq_self, true_or, or_true, r3, i14, ew, eq1, es]) <;> with_reducible rfl))) | (with_reducible apply q_ifp; · (first | ((simp (disch := omega) only [jI_lit, jI_neg, jI_add, jI_sub, jI_mul, jI_lt, jI_le, jI_eq, va_up_self, va_up_ne, jI_shr1, jI_shr4, jI_shr0, jI_and1, jI_and15, jF_at, tn, b2_t, b2_f, cmp_ge, cmp_gt, cmp_le, cmp_lt, cmp_eq, jL_lit, jL_lt, jL_le, jL_eq, r3, i14, ew, eq1, es]) <;> omega) | omega)) | (with_reducible apply q_ifn; · (first | ((simp (disch := omega) only [jI_lit, jI_neg, jI_add, jI_sub, jI_mul, jI_lt, jI_le, jI_eq, va_up_self, va_up_ne, jI_shr1, jI_shr4, jI_shr0, jI_and1, jI_and15, jF_at, tn, b2_t, b2_f, cmp_ge, cmp_gt, cmp_le, cmp_lt, cmp_eq, jL_lit, jL_lt, jL_le, jL_eq, r3, i14, ew, eq1, es]) <;> omega) | omega)) | (with_reducible apply q_obk; · (first | with_reducible rfl | ((simp (disch := omega) only [jI_lit, jI_neg, jI_add, jI_sub, jI_mul, o_gI, o_gR, o_pI, o_pZ0, o_pZ1, o_pZb, o_pR, o_aI, o_qI, o_aN, tn, va_up_self, va_up_ne, upup, jI_shr1, jI_shr4, jI_shr0, jI_and1, jI_and15, jI_join, jI_240, jI_hi, jF_at, jF_up, jI_max, jI_min, b2_t, b2_f, Bool.not_true, Bool.not_false, eq_self, true_or, or_true, r3, i14, ew, eq1, es]) <;> with_reducible rfl))) | (with_reducible apply q_nz; · (first | ((simp (disch := omega) only [jI_lit, jI_neg, jI_add, jI_sub, jI_mul, jI_lt, jI_le, jI_eq, va_up_self, va_up_ne, jI_shr1, jI_shr4, jI_shr0, jI_and1, jI_and15, jF_at, tn, b2_t, b2_f, cmp_ge, cmp_gt, cmp_le, cmp_lt, cmp_eq, jL_lit, jL_lt, jL_le, jL_eq, r3, i14, ew, eq1, es]) <;> omega) | omega)) | (with_reducible apply q_rz; · (first | exact b2_01 _ | decide)))) <;> (first | with_reducible rfl | ((simp (disch := omega) only [jI_lit, jI_neg, jI_add, jI_sub, jI_mul, o_gI, o_gR, o_pI, o_pZ0, o_pZ1, o_pZb, o_pR, o_aI, o_qI, o_aN, tn, va_up_self, va_up_ne, upup, jI_shr1, jI_shr4, jI_shr0, jI_and1, jI_and15, jI_join, jI_240, jI_hi, jF_at, jF_up, jI_max, jI_min, b2_t, b2_f, Bool.not_true, Bool.not_false, eq_self, true_or, or_true, r3, i14, ew, eq1, es]) <;> with_reducible rfl) | rfl))
  · intro kk
    clear hc hv hr hL h
    unfold fX3_sources_121
    ((repeat (first | (with_reducible apply q_gd; · (first | assumption | omega)) | (with_reducible apply q_ob; · (first | with_reducible rfl | ((simp (disch := omega) only [jI_lit, jI_neg, jI_add, jI_sub, jI_mul, o_gI, o_gR, o_pI, o_pZ0, o_pZ1, o_pZb, o_pR, o_aI, o_qI, o_aN, tn, va_up_self, va_up_ne, upup, jI_shr1, jI_shr4, jI_shr0, jI_and1, jI_and15, jI_join, jI_240, jI_hi, jF_at, jF_up, jI_max, jI_min, b2_t, b2_f, Bool.not_true, Bool.not_false, eq_self, true_or, or_true]) <;> with_reducible rfl))) | (with_reducible apply q_ob2; · (first | with_reducible rfl | ((simp (disch := omega) only [jI_lit, jI_neg, jI_add, jI_sub, jI_mul, o_gI, o_gR, o_pI, o_pZ0, o_pZ1, o_pZb, o_pR, o_aI, o_qI, o_aN, tn, va_up_self, va_up_ne, upup, jI_shr1, jI_shr4, jI_shr0, jI_and1, jI_and15, jI_join, jI_240, jI_hi, jF_at, jF_up, jI_max, jI_min, b2_t, b2_f, Bool.not_true, Bool.not_false, eq_self, true_or, or_true]) <;> with_reducible rfl))) | (with_reducible apply q_lt; · (first | with_reducible rfl | ((simp (disch := omega) only [jI_lit, jI_neg, jI_add, jI_sub, jI_mul, o_gI, o_gR, o_pI, o_pZ0, o_pZ1, o_pZb, o_pR, o_aI, o_qI, o_aN, tn, va_up_self, va_up_ne, upup, jI_shr1, jI_shr4, jI_shr0, jI_and1, jI_and15, jI_join, jI_240, jI_hi, jF_at, jF_up, jI_max, jI_min, b2_t, b2_f, Bool.not_true, Bool.not_false, eq_self, true_or, or_true]) <;> with_reducible rfl))) | (with_reducible apply q_ifp; · (first | ((simp (disch := omega) only [jI_lit, jI_neg, jI_add, jI_sub, jI_mul, jI_lt, jI_le, jI_eq, va_up_self, va_up_ne, jI_shr1, jI_shr4, jI_shr0, jI_and1, jI_and15, jF_at, tn, b2_t, b2_f, cmp_ge, cmp_gt, cmp_le, cmp_lt, cmp_eq, jL_lit, jL_lt, jL_le, jL_eq]) <;> omega) | omega)) | (with_reducible apply q_ifn; · (first | ((simp (disch := omega) only [jI_lit, jI_neg, jI_add, jI_sub, jI_mul, jI_lt, jI_le, jI_eq, va_up_self, va_up_ne, jI_shr1, jI_shr4, jI_shr0, jI_and1, jI_and15, jF_at, tn, b2_t, b2_f, cmp_ge, cmp_gt, cmp_le, cmp_lt, cmp_eq, jL_lit, jL_lt, jL_le, jL_eq]) <;> omega) | omega)) | (with_reducible apply q_obk; · (first | with_reducible rfl | ((simp (disch := omega) only [jI_lit, jI_neg, jI_add, jI_sub, jI_mul, o_gI, o_gR, o_pI, o_pZ0, o_pZ1, o_pZb, o_pR, o_aI, o_qI, o_aN, tn, va_up_self, va_up_ne, upup, jI_shr1, jI_shr4, jI_shr0, jI_and1, jI_and15, jI_join, jI_240, jI_hi, jF_at, jF_up, jI_max, jI_min, b2_t, b2_f, Bool.not_true, Bool.not_false, eq_self, true_or, or_true]) <;> with_reducible rfl))) | (with_reducible apply q_nz; · (first | ((simp (disch := omega) only [jI_lit, jI_neg, jI_add, jI_sub, jI_mul, jI_lt, jI_le, jI_eq, va_up_self, va_up_ne, jI_shr1, jI_shr4, jI_shr0, jI_and1, jI_and15, jF_at, tn, b2_t, b2_f, cmp_ge, cmp_gt, cmp_le, cmp_lt, cmp_eq, jL_lit, jL_lt, jL_le, jL_eq]) <;> omega) | omega)) | (with_reducible apply q_rz; · (first | exact b2_01 _ | decide)))) <;> (first | with_reducible rfl | ((simp (disch := omega) only [jI_lit, jI_neg, jI_add, jI_sub, jI_mul, o_gI, o_gR, o_pI, o_pZ0, o_pZ1, o_pZb, o_pR, o_aI, o_qI, o_aN, tn, va_up_self, va_up_ne, upup, jI_shr1, jI_shr4, jI_shr0, jI_and1, jI_and15, jI_join, jI_240, jI_hi, jF_at, jF_up, jI_max, jI_min, b2_t, b2_f, Bool.not_true, Bool.not_false, eq_self, true_or, or_true]) <;> with_reducible rfl) | rfl))
theorem e_tab {e n : Nat} {c v : Nat → Int} (h : Sr K I R N e n c v) :
    lp (fun _ _ _ => none) (fX3_sources_113) FU e (jI (n : Int)) (K, I, R, L, N, w) = some (jL ((wy c v n n false false + wy c v n n false true : Nat) : Int), (K, I, R, va_up L (e + 4) (fun m => if m < 4 * (n + 1) then jL (wvt c v n m : Nat) else L (e + 4) m), N, w)) := by
  have hh := h
  obtain ⟨ed, hn, hc, hv, i5, i14, i16, hr⟩ := hh
  obtain ⟨k3, r0, r1, r2, r3, k1, n1, k2, n2, k3', n3, k4, n4⟩ := ed
  obtain ⟨LG, hLG⟩ : ∃ LG : Nat → Nat → Int64, LG = fun i m => if 4 * (n + 1 - i) ≤ m ∧ m < 4 * (n + 1) then jL (wvt c v n m : Nat) else L (e + 4) m := ⟨_, rfl⟩
  have f1 : LG (n + 1) = fun m => if m < 4 * (n + 1) then jL (wvt c v n m : Nat) else L (e + 4) m := by
    rw [hLG]; funext m
    show (if _ then _ else _) = _
    by_cases q : m < 4 * (n + 1)
    · rw [if_pos q, if_pos (by omega)]
    · rw [if_neg q, if_neg (by omega)]
  rw [← f1]
  have key := lp_up (z := fun _ _ _ => none) (S := fX3_sources_113) (β := Int64 × Hp) (fun kk i => kk e (jI ((n : Int) - (i : Int))) (K, I, R, va_up L (e + 4) (LG i), N, w)) (E := some (jL ((wy c v n n false false + wy c v n n false true : Nat) : Int), (K, I, R, va_up L (e + 4) (LG (n + 1)), N, w))) (M := n + 1) ?_ ?_ FU 0 (by omega) (FU_lt (by omega))
  · have z0 : LG 0 = L (e + 4) := by
      rw [hLG]; funext m
      show (if _ then _ else _) = _
      rw [if_neg (by omega)]
    have z1 : (n : Int) - ((0 : Nat) : Int) = (n : Int) := by omega
    rw [z0, up_id, z1] at key
    exact key
  · intro i hi kk
    show fX3_sources_113 kk e (jI ((n : Int) - (i : Int))) (K, I, R, va_up L (e + 4) (LG i), N, w) = kk e (jI ((n : Int) - ((i + 1 : Nat) : Int))) (K, I, R, va_up L (e + 4) (LG (i + 1)), N, w)
    have ein := e_srcin (L := L) (w := w) (idx := n - i) (Lq := LG i) h (by omega) (fun m h1 h2 => by
      rw [hLG]
      show (if _ then _ else _) = _
      rw [if_pos (by omega)]) kk
    have e1 : ((n - i : Nat) : Int) = (n : Int) - (i : Int) := by omega
    have e2 : (n : Int) - (i : Int) + -1 = (n : Int) - ((i + 1 : Nat) : Int) := by omega
    have f2 : (fun m => if 4 * (n - i) ≤ m ∧ m < 4 * (n - i) + 4 then jL (wvt c v n m : Nat) else LG i m) = LG (i + 1) := by
      rw [hLG]; funext m
      show (if _ then _ else if _ then _ else _) = (if _ then _ else _)
      by_cases q : 4 * (n - i) ≤ m ∧ m < 4 * (n - i) + 4
      · rw [if_pos q, if_pos (by omega)]
      · rw [if_neg q]
        by_cases q2 : 4 * (n + 1 - i) ≤ m ∧ m < 4 * (n + 1)
        · rw [if_pos q2, if_pos (by omega)]
        · rw [if_neg q2, if_neg (by omega)]
    rw [e1, e2, f2] at ein
    have c0 : ¬ (jI ((n : Int) - (i : Int)) < 0) := by rw [jI_lit, jI_lt (by omega) (by omega) (by omega) (by omega)]; omega
    unfold fX3_sources_113
    rw [if_neg c0]
    exact ein
  · intro kk
    have c0 : jI ((n : Int) - ((n + 1 : Nat) : Int)) < 0 := by rw [jI_lit, jI_lt (by omega) (by omega) (by omega) (by omega)]; omega
    have l0 : LG (n + 1) 0 = jL (wy c v n n false false : Nat) := by
      rw [f1]
      show (if _ then _ else _) = _
      rw [if_pos (by omega)]
      rfl
    have l2 : LG (n + 1) 2 = jL (wy c v n n false true : Nat) := by
      rw [f1]
      show (if _ then _ else _) = _
      rw [if_pos (by omega)]
      rfl
    have a0 : aL (e + 4) 0 (K, I, R, va_up L (e + 4) (LG (n + 1)), N, w) = some (jL (wy c v n n false false : Nat)) := by
      have := o_aL (K := K) (I := I) (R := R) (L := va_up L (e + 4) (LG (n + 1))) (N := N) (w := w) (a := e + 4) (z := 0) k4 (by omega) (by omega) (by omega)
      rw [va_up_self] at this
      exact this.trans (congrArg some l0)
    have a2 : aL (e + 4) 2 (K, I, R, va_up L (e + 4) (LG (n + 1)), N, w) = some (jL (wy c v n n false true : Nat)) := by
      have := o_aL (K := K) (I := I) (R := R) (L := va_up L (e + 4) (LG (n + 1))) (N := N) (w := w) (a := e + 4) (z := 2) k4 (by omega) (by omega) (by omega)
      rw [va_up_self] at this
      exact this.trans (congrArg some l2)
    show fX3_sources_113 kk e (jI ((n : Int) - ((n + 1 : Nat) : Int))) (K, I, R, va_up L (e + 4) (LG (n + 1)), N, w) = _
    unfold fX3_sources_113
    rw [if_pos c0, o_gR k3, o_ob, r3, a0, o_ob, o_ob, a2, o_ob, jL_add]
    congr 2
theorem e_sources {e x n pp q : Nat} {r g : Nat → Int} (ed : Ed K R N e) (hr : Rw K R N x) (hI : I (x + 1) = jF (cls r g)) (hb : Byt r) (hx : x + 1 < e ∨ e + 5 ≤ x + 1) (hn1 : 1 ≤ n) (hn : n ≤ 32) (hp : pp + n ≤ 256) (hq : q + n ≤ 256) :
    ∃ I' L', fX3_sources e x (jI (pp : Int)) (jI (n : Int)) (jI (q : Int)) (K, I, R, L, N, w) = some (jL ((wy (fun k => r (pp + k)) (fun k => r (q + k)) n n false false + wy (fun k => r (pp + k)) (fun k => r (q + k)) n n false true : Nat) : Int), (K, I', R, L', N, w)) ∧ Sr K I' R N e n (fun k => r (pp + k)) (fun k => r (q + k)) ∧ I' e 15 = jI (cnt (fun k => isD (r (pp + k))) n : Nat) ∧ (∀ m, m < 4 * (n + 1) → L' (e + 4) m = jL (wvt (fun k => r (pp + k)) (fun k => r (q + k)) n m : Nat)) ∧ (∀ y, y ≠ e → y ≠ e + 2 → y ≠ e + 3 → I' y = I y) ∧ (∀ y, y ≠ e + 4 → L' y = L y) := by
  obtain ⟨c, hc⟩ : ∃ c : Nat → Int, c = fun k => r (pp + k) := ⟨_, rfl⟩
  obtain ⟨v, hv⟩ : ∃ v : Nat → Int, v = fun k => r (q + k) := ⟨_, rfl⟩
  have hcq : cnt (fun k => isD (r (pp + k))) n = cnt (fun k => isD (c k)) n := by rw [hc]
  rw [hcq, ← hc, ← hv]
  have hed := ed
  obtain ⟨k3, r0, r1, r2, r3, k1, n1, k2, n2, k3', n3, k4, n4⟩ := ed
  have hcr : ∀ k, k < n → 0 ≤ c k ∧ c k < 256 := fun k hk => by rw [hc]; exact hb _ (by omega)
  have hvr : ∀ k, k < n → 0 ≤ v k ∧ v k < 256 := fun k hk => by rw [hv]; exact hb _ (by omega)
  obtain ⟨Ie, hIe⟩ : ∃ Ie : Nat → Nat → Int32, Ie = fun i => va_up (va_up (va_up (va_up (I e) 14 (jI (n : Int))) 5 (jI (c 0))) 15 (jI (cnt (fun k => isD (c k)) i : Nat))) 16 (jI (lstD c i)) := ⟨_, rfl⟩
  obtain ⟨Ii, hIi⟩ : ∃ Ii : Nat → Nat → Nat → Int32, Ii = fun i => va_up (va_up (va_up I (e + 2) (fun j => if 0 ≤ j ∧ j < 0 + i then jI (c j) else I (e + 2) j)) (e + 3) (fun j => if 0 ≤ j ∧ j < 0 + i then jI (v j) else I (e + 3) j)) e (Ie i) := ⟨_, rfl⟩
  have hcell : ∀ (i a : Nat), a < 256 → fX10_cell x (jI (a : Int)) (K, Ii i, R, L, N, w) = some (jI (r a)) := fun i a ha => by
    rw [e_cell hr (by omega) (by omega), hIi]
    show some (va_up (va_up (va_up I (e + 2) _) (e + 3) _) e (Ie i) (x + 1) _) = _
    rw [va_up_ne _ _ (by omega), va_up_ne _ _ (by omega), va_up_ne _ _ (by omega), hI, jF_at, show ((a : Int)).toNat = a by omega, cls_lo (by omega) (by omega)]
  have hSr : Sr K (Ii n) R N e n c v := by
    refine ⟨hed, hn, fun k hk => ?_, fun k hk => ?_, ?_, ?_, ?_, fun k hk => ⟨(hcr k hk).1, (hcr k hk).2, (hvr k hk).1, (hvr k hk).2⟩⟩
    · rw [hIi]
      show va_up (va_up (va_up I (e + 2) _) (e + 3) _) e _ (e + 2) k = _
      rw [va_up_ne _ _ (by omega), va_up_ne _ _ (by omega), va_up_self]
      show (if _ then _ else _) = _
      rw [if_pos (by omega)]
    · rw [hIi]
      show va_up (va_up (va_up I (e + 2) _) (e + 3) _) e _ (e + 3) k = _
      rw [va_up_ne _ _ (by omega), va_up_self]
      show (if _ then _ else _) = _
      rw [if_pos (by omega)]
    · rw [hIi]
      show va_up _ e (Ie n) e 5 = _
      rw [va_up_self, hIe]
      show va_up (va_up (va_up _ 5 _) 15 _) 16 _ 5 = _
      rw [va_up_ne _ _ (by omega), va_up_ne _ _ (by omega), va_up_self]
    · rw [hIi]
      show va_up _ e (Ie n) e 14 = _
      rw [va_up_self, hIe]
      show va_up (va_up (va_up (va_up _ 14 _) 5 _) 15 _) 16 _ 14 = _
      rw [va_up_ne _ _ (by omega), va_up_ne _ _ (by omega), va_up_ne _ _ (by omega), va_up_self]
    · rw [hIi]
      show va_up _ e (Ie n) e 16 = _
      rw [va_up_self, hIe]
      show va_up _ 16 _ 16 = _
      rw [va_up_self]
  have etab := e_tab (L := L) (w := w) hSr
  have key := lp_up (z := fun _ _ _ _ _ _ => none) (S := fX3_sources_32) (β := Int64 × Hp) (fun kk i => kk e x (jI (pp : Int)) (jI (q : Int)) (jI (i : Int)) (K, Ii i, R, L, N, w)) (E := some (jL ((wy c v n n false false + wy c v n n false true : Nat) : Int), (K, Ii n, R, va_up L (e + 4) (fun m => if m < 4 * (n + 1) then jL (wvt c v n m : Nat) else L (e + 4) m), N, w))) (M := n) ?_ ?_ FU 0 (by omega) (FU_lt (by omega))
  · refine ⟨Ii n, va_up L (e + 4) (fun m => if m < 4 * (n + 1) then jL (wvt c v n m : Nat) else L (e + 4) m), ?_, hSr, ?_, fun m hm => ?_, fun y y1 y2 y3 => ?_, fun y y1 => va_up_ne _ _ y1⟩
    · rw [← key]
      have z2 : (fun j => if 0 ≤ j ∧ j < 0 + 0 then jI (c j) else I (e + 2) j) = I (e + 2) := rg_0 (fun j => jI (c j)) _ _
      have z3 : (fun j => if 0 ≤ j ∧ j < 0 + 0 then jI (v j) else I (e + 3) j) = I (e + 3) := rg_0 (fun j => jI (v j)) _ _
      have i0 : Ii 0 = va_up I e (va_up (va_up (va_up (va_up (I e) 14 (jI (n : Int))) 5 (jI (c 0))) 15 (jI 0)) 16 (jI (-1))) := by
        rw [hIi]
        show va_up (va_up (va_up I (e + 2) (fun j => if 0 ≤ j ∧ j < 0 + 0 then jI (c j) else I (e + 2) j)) (e + 3) (fun j => if 0 ≤ j ∧ j < 0 + 0 then jI (v j) else I (e + 3) j)) e (Ie 0) = _
        rw [z2, z3, up_id, up_id, hIe]
        rfl
      have ec : ∀ J : Nat → Nat → Int32, J (x + 1) = I (x + 1) → fX10_cell x (jI (pp : Int)) (K, J, R, L, N, w) = some (jI (c 0)) := fun J hJ => by
        rw [e_cell hr (by omega) (by omega), hJ, hI, jF_at, show ((pp : Int)).toNat = pp by omega, cls_lo (by omega) (by omega), hc]
        rfl
      have ec2 := ec (va_up I e (va_up (I e) 14 (jI (n : Int)))) (va_up_ne _ _ (by omega))
      have em : min (n : Int) 32 = (n : Int) := by omega
      rw [i0]
      clear key etab hSr hcell hIi hIe hI hb hcr hvr ec hc hv hcq z2 z3 i0
      unfold fX3_sources
      ((repeat (first | (with_reducible apply q_gd; · (first | assumption | omega)) | (with_reducible apply q_ob; · (first | with_reducible rfl | ((simp (disch := omega) only [jI_lit, jI_neg, jI_add, jI_sub, jI_mul, o_gI, o_gR, o_pI, o_pZ0, o_pZ1, o_pZb, o_pR, o_aI, o_qI, o_aN, tn, va_up_self, va_up_ne, upup, jI_shr1, jI_shr4, jI_shr0, jI_and1, jI_and15, jI_join, jI_240, jI_hi, jF_at, jF_up, jI_max, jI_min, b2_t, b2_f, Bool.not_true, Bool.not_false, eq_self, true_or, or_true, em, ec2]) <;> with_reducible rfl))) | (with_reducible apply q_ob2; · (first | with_reducible rfl | ((simp (disch := omega) only [jI_lit, jI_neg, jI_add, jI_sub, jI_mul, o_gI, o_gR, o_pI, o_pZ0, o_pZ1, o_pZb, o_pR, o_aI, o_qI, o_aN, tn, va_up_self, va_up_ne, upup, jI_shr1, jI_shr4, jI_shr0, jI_and1, jI_and15, jI_join, jI_240, jI_hi, jF_at, jF_up, jI_max, jI_min, b2_t, b2_f, Bool.not_true, Bool.not_false, eq_self, true_or, or_true, em, ec2]) <;> with_reducible rfl))) | (with_reducible apply q_lt; · (first | with_reducible rfl | ((simp (disch := omega) only [jI_lit, jI_neg, jI_add, jI_sub, jI_mul, o_gI, o_gR, o_pI, o_pZ0, o_pZ1, o_pZb, o_pR, o_aI, o_qI, o_aN, tn, va_up_self, va_up_ne, upup, jI_shr1, jI_shr4, jI_shr0, jI_and1, jI_and15, jI_join, jI_240, jI_hi, jF_at, jF_up, jI_max, jI_min, b2_t, b2_f, Bool.not_true, Bool.not_false, eq_self, true_or, or_true, em, ec2]) <;> with_reducible rfl))) | (with_reducible apply q_ifp; · (first | ((simp (disch := omega) only [jI_lit, jI_neg, jI_add, jI_sub, jI_mul, jI_lt, jI_le, jI_eq, va_up_self, va_up_ne, jI_shr1, jI_shr4, jI_shr0, jI_and1, jI_and15, jF_at, tn, b2_t, b2_f, cmp_ge, cmp_gt, cmp_le, cmp_lt, cmp_eq, jL_lit, jL_lt, jL_le, jL_eq, em, ec2]) <;> omega) | omega)) | (with_reducible apply q_ifn; · (first | ((simp (disch := omega) only [jI_lit, jI_neg, jI_add, jI_sub, jI_mul, jI_lt, jI_le, jI_eq, va_up_self, va_up_ne, jI_shr1, jI_shr4, jI_shr0, jI_and1, jI_and15, jF_at, tn, b2_t, b2_f, cmp_ge, cmp_gt, cmp_le, cmp_lt, cmp_eq, jL_lit, jL_lt, jL_le, jL_eq, em, ec2]) <;> omega) | omega)) | (with_reducible apply q_obk; · (first | with_reducible rfl | ((simp (disch := omega) only [jI_lit, jI_neg, jI_add, jI_sub, jI_mul, o_gI, o_gR, o_pI, o_pZ0, o_pZ1, o_pZb, o_pR, o_aI, o_qI, o_aN, tn, va_up_self, va_up_ne, upup, jI_shr1, jI_shr4, jI_shr0, jI_and1, jI_and15, jI_join, jI_240, jI_hi, jF_at, jF_up, jI_max, jI_min, b2_t, b2_f, Bool.not_true, Bool.not_false, eq_self, true_or, or_true, em, ec2]) <;> with_reducible rfl))) | (with_reducible apply q_nz; · (first | ((simp (disch := omega) only [jI_lit, jI_neg, jI_add, jI_sub, jI_mul, jI_lt, jI_le, jI_eq, va_up_self, va_up_ne, jI_shr1, jI_shr4, jI_shr0, jI_and1, jI_and15, jF_at, tn, b2_t, b2_f, cmp_ge, cmp_gt, cmp_le, cmp_lt, cmp_eq, jL_lit, jL_lt, jL_le, jL_eq, em, ec2]) <;> omega) | omega)) | (with_reducible apply q_rz; · (first | exact b2_01 _ | decide)))) <;> (first | with_reducible rfl | ((simp (disch := omega) only [jI_lit, jI_neg, jI_add, jI_sub, jI_mul, o_gI, o_gR, o_pI, o_pZ0, o_pZ1, o_pZb, o_pR, o_aI, o_qI, o_aN, tn, va_up_self, va_up_ne, upup, jI_shr1, jI_shr4, jI_shr0, jI_and1, jI_and15, jI_join, jI_240, jI_hi, jF_at, jF_up, jI_max, jI_min, b2_t, b2_f, Bool.not_true, Bool.not_false, eq_self, true_or, or_true, em, ec2]) <;> with_reducible rfl) | rfl))
    · rw [hIi]
      show va_up _ e (Ie n) e 15 = _
      rw [va_up_self, hIe]
      show va_up (va_up _ 15 _) 16 _ 15 = _
      rw [va_up_ne _ _ (by omega), va_up_self]
    · rw [va_up_self]
      show (if _ then _ else _) = _
      rw [if_pos hm]
    · rw [hIi]
      show va_up (va_up (va_up I (e + 2) _) (e + 3) _) e _ y = _
      rw [va_up_ne _ _ y1, va_up_ne _ _ y3, va_up_ne _ _ y2]
  · intro i hi kk
    show fX3_sources_32 kk e x (jI (pp : Int)) (jI (q : Int)) (jI (i : Int)) (K, Ii i, R, L, N, w) = kk e x (jI (pp : Int)) (jI (q : Int)) (jI ((i + 1 : Nat) : Int)) (K, Ii (i + 1), R, L, N, w)
    have e1 : ((i : Int)).toNat = i := by omega
    have e2 : (i : Int) + 1 = ((i + 1 : Nat) : Int) := by omega
    obtain ⟨F2, hF2⟩ : ∃ F2 : Nat → Int32, F2 = fun j => if 0 ≤ j ∧ j < 0 + i then jI (c j) else I (e + 2) j := ⟨_, rfl⟩
    obtain ⟨F3, hF3⟩ : ∃ F3 : Nat → Int32, F3 = fun j => if 0 ≤ j ∧ j < 0 + i then jI (v j) else I (e + 3) j := ⟨_, rfl⟩
    have u2 : va_up F2 i (jI (c i)) = fun j => if 0 ≤ j ∧ j < 0 + (i + 1) then jI (c j) else I (e + 2) j := by
      have := up_rg (fun j => jI (c j)) (I (e + 2)) 0 i
      rw [hF2, show 0 + i = i by omega] at *
      rw [show i = 0 + i by omega] at *
      exact this
    have u3 : va_up F3 i (jI (v i)) = fun j => if 0 ≤ j ∧ j < 0 + (i + 1) then jI (v j) else I (e + 3) j := by
      have := up_rg (fun j => jI (v j)) (I (e + 3)) 0 i
      rw [hF3, show 0 + i = i by omega] at *
      rw [show i = 0 + i by omega] at *
      exact this
    have Ieq : Ii i = va_up (va_up (va_up I (e + 2) F2) (e + 3) F3) e (Ie i) := by rw [hIi, hF2, hF3]
    have Ieq1 : Ii (i + 1) = va_up (va_up (va_up I (e + 2) (va_up F2 i (jI (c i)))) (e + 3) (va_up F3 i (jI (v i)))) e (Ie (i + 1)) := by rw [hIi, u2, u3]
    have g14 : Ie i 14 = jI (n : Int) := by
      rw [hIe]
      show va_up (va_up (va_up (va_up _ 14 _) 5 _) 15 _) 16 _ 14 = _
      rw [va_up_ne _ _ (by omega), va_up_ne _ _ (by omega), va_up_ne _ _ (by omega), va_up_self]
    have g15 : Ie i 15 = jI (cnt (fun k => isD (c k)) i : Nat) := by
      rw [hIe]
      show va_up (va_up _ 15 _) 16 _ 15 = _
      rw [va_up_ne _ _ (by omega), va_up_self]
    obtain ⟨ci1, ci2⟩ := hcr i hi
    have et := e_takesD ci1 ci2
    -- the row's cells, whatever of the editing's is written
    have hcl : ∀ J : Nat → Nat → Int32, J (x + 1) = I (x + 1) → ∀ a : Nat, a < 256 → fX10_cell x (jI (a : Int)) (K, J, R, L, N, w) = some (jI (r a)) := fun J hJ a ha => by
      rw [e_cell hr (by omega) (by omega), hJ, hI, jF_at, show ((a : Int)).toNat = a by omega, cls_lo (by omega) (by omega)]
    have epi : (pp : Int) + (i : Int) = ((pp + i : Nat) : Int) := by omega
    have eqi : (q : Int) + (i : Int) = ((q + i : Nat) : Int) := by omega
    obtain ⟨J1, hJ1⟩ : ∃ J1, J1 = va_up (va_up (va_up I (e + 2) (va_up F2 i (jI (c i)))) (e + 3) F3) e (Ie i) := ⟨_, rfl⟩
    obtain ⟨J2, hJ2⟩ : ∃ J2, J2 = va_up (va_up (va_up I (e + 2) (va_up F2 i (jI (c i)))) (e + 3) (va_up F3 i (jI (v i)))) e (Ie i) := ⟨_, rfl⟩
    have c1 : fX10_cell x (jI ((pp + i : Nat) : Int)) (K, Ii i, R, L, N, w) = some (jI (c i)) := by
      rw [hcl (Ii i) (by rw [Ieq, va_up_ne _ _ (by omega), va_up_ne _ _ (by omega), va_up_ne _ _ (by omega)]) _ (by omega), hc]
    have c2 : fX10_cell x (jI ((q + i : Nat) : Int)) (K, J1, R, L, N, w) = some (jI (v i)) := by
      rw [hcl J1 (by rw [hJ1, va_up_ne _ _ (by omega), va_up_ne _ _ (by omega), va_up_ne _ _ (by omega)]) _ (by omega), hv]
    have s1 : va_up (Ii i) (e + 2) (va_up ((Ii i) (e + 2)) i (jI (c i))) = J1 := by
      have q1 : (Ii i) (e + 2) = F2 := by rw [Ieq, va_up_ne _ _ (by omega), va_up_ne _ _ (by omega), va_up_self]
      rw [q1, Ieq, hJ1, ← up_sw _ _ _ (show e + 2 ≠ e by omega), ← up_sw _ _ _ (show e + 2 ≠ e + 3 by omega), upup]
    have s2 : va_up J1 (e + 3) (va_up (J1 (e + 3)) i (jI (v i))) = J2 := by
      have q1 : J1 (e + 3) = F3 := by rw [hJ1, va_up_ne _ _ (by omega), va_up_self]
      rw [q1, hJ1, hJ2, ← up_sw _ _ _ (show e + 3 ≠ e by omega), upup]
    have s3 : ∀ f, va_up J2 e f = va_up (va_up (va_up I (e + 2) (va_up F2 i (jI (c i)))) (e + 3) (va_up F3 i (jI (v i)))) e f := fun f => by rw [hJ2, upup]
    have j1e : J1 e 14 = jI (n : Int) := by rw [hJ1, va_up_self]; exact g14
    have ie14 : Ii i e 14 = jI (n : Int) := by rw [Ieq, va_up_self]; exact g14
    have j2c : J2 (e + 2) i = jI (c i) := by rw [hJ2, va_up_ne _ _ (by omega), va_up_ne _ _ (by omega), va_up_self, va_up_self]
    have j2e : J2 e = Ie i := by rw [hJ2, va_up_self]
    have q1 : qI (e + 2) (jI (i : Int)) (jI (c i)) (K, Ii i, R, L, N, w) = some (K, J1, R, L, N, w) := by rw [o_qI k2 (by omega) (by omega) (by omega), e1, s1]
    have q2 : qI (e + 3) (jI (i : Int)) (jI (v i)) (K, J1, R, L, N, w) = some (K, J2, R, L, N, w) := by rw [o_qI k3' (by omega) (by omega) (by omega), e1, s2]
    cases hD : isD (c i) with
    | true =>
      rw [hD, b2_t] at et
      have hcn : cnt (fun k => isD (c k)) (i + 1) = cnt (fun k => isD (c k)) i + 1 := cnt_t hD
      have hln : lstD c (i + 1) = (i : Int) := by unfold lstD; rw [if_pos hD]
      have s4 : va_up (va_up (Ie i) 15 (jI ((cnt (fun k => isD (c k)) i : Nat) + 1))) 16 (jI (i : Int)) = Ie (i + 1) := by
        rw [hIe]
        show va_up (va_up (va_up (va_up (va_up _ 5 _) 15 _) 16 _) 15 _) 16 _ = va_up (va_up (va_up _ 5 _) 15 _) 16 _
        rw [hcn, hln, ← up_sw _ _ _ (show 15 ≠ 16 by omega), upup, upup]
        rfl
      have s5 : va_up (va_up J2 e (va_up (J2 e) 15 (jI ((cnt (fun k => isD (c k)) i : Nat) + 1)))) e (va_up (va_up (J2 e) 15 (jI ((cnt (fun k => isD (c k)) i : Nat) + 1))) 16 (jI (i : Int))) = Ii (i + 1) := by
        rw [upup, j2e, s4, s3, Ieq1]
      have g15' : J2 e 15 = jI (cnt (fun k => isD (c k)) i : Nat) := by rw [j2e]; exact g15
      rw [← s5]
      clear etab hSr hcell hIi hIe hI hb hcr hvr hc hv hcq hF2 hF3 u2 u3 Ieq Ieq1 g14 g15 hcl hJ1 hJ2 s1 s2 s3 s4 s5 j1e j2e hcn hln hD
      unfold fX3_sources_32
      ((repeat (first | (with_reducible apply q_gd; · (first | assumption | omega)) | (with_reducible apply q_ob; · (first | with_reducible rfl | ((simp (disch := omega) only [jI_lit, jI_neg, jI_add, jI_sub, jI_mul, o_gI, o_gR, o_pI, o_pZ0, o_pZ1, o_pZb, o_pR, o_aI, o_qI, o_aN, tn, va_up_self, va_up_ne, upup, jI_shr1, jI_shr4, jI_shr0, jI_and1, jI_and15, jI_join, jI_240, jI_hi, jF_at, jF_up, jI_max, jI_min, b2_t, b2_f, Bool.not_true, Bool.not_false, eq_self, true_or, or_true, ie14, r1, epi, c1, q1, r2, eqi, c2, q2, e1, j2c, et, g15', e2]) <;> with_reducible rfl))) | (with_reducible apply q_ob2; · (first | with_reducible rfl | ((simp (disch := omega) only [jI_lit, jI_neg, jI_add, jI_sub, jI_mul, o_gI, o_gR, o_pI, o_pZ0, o_pZ1, o_pZb, o_pR, o_aI, o_qI, o_aN, tn, va_up_self, va_up_ne, upup, jI_shr1, jI_shr4, jI_shr0, jI_and1, jI_and15, jI_join, jI_240, jI_hi, jF_at, jF_up, jI_max, jI_min, b2_t, b2_f, Bool.not_true, Bool.not_false, eq_self, true_or, or_true, ie14, r1, epi, c1, q1, r2, eqi, c2, q2, e1, j2c, et, g15', e2]) <;> with_reducible rfl))) | (with_reducible apply q_lt; · (first | with_reducible rfl | ((simp (disch := omega) only [jI_lit, jI_neg, jI_add, jI_sub, jI_mul, o_gI, o_gR, o_pI, o_pZ0, o_pZ1, o_pZb, o_pR, o_aI, o_qI, o_aN, tn, va_up_self, va_up_ne, upup, jI_shr1, jI_shr4, jI_shr0, jI_and1, jI_and15, jI_join, jI_240, jI_hi, jF_at, jF_up, jI_max, jI_min, b2_t, b2_f, Bool.not_true, Bool.not_false, eq_self, true_or, or_true, ie14, r1, epi, c1, q1, r2, eqi, c2, q2, e1, j2c, et, g15', e2]) <;> with_reducible rfl))) | (with_reducible apply q_ifp; · (first | ((simp (disch := omega) only [jI_lit, jI_neg, jI_add, jI_sub, jI_mul, jI_lt, jI_le, jI_eq, va_up_self, va_up_ne, jI_shr1, jI_shr4, jI_shr0, jI_and1, jI_and15, jF_at, tn, b2_t, b2_f, cmp_ge, cmp_gt, cmp_le, cmp_lt, cmp_eq, jL_lit, jL_lt, jL_le, jL_eq, ie14, r1, epi, c1, q1, r2, eqi, c2, q2, e1, j2c, et, g15', e2]) <;> omega) | omega)) | (with_reducible apply q_ifn; · (first | ((simp (disch := omega) only [jI_lit, jI_neg, jI_add, jI_sub, jI_mul, jI_lt, jI_le, jI_eq, va_up_self, va_up_ne, jI_shr1, jI_shr4, jI_shr0, jI_and1, jI_and15, jF_at, tn, b2_t, b2_f, cmp_ge, cmp_gt, cmp_le, cmp_lt, cmp_eq, jL_lit, jL_lt, jL_le, jL_eq, ie14, r1, epi, c1, q1, r2, eqi, c2, q2, e1, j2c, et, g15', e2]) <;> omega) | omega)) | (with_reducible apply q_obk; · (first | with_reducible rfl | ((simp (disch := omega) only [jI_lit, jI_neg, jI_add, jI_sub, jI_mul, o_gI, o_gR, o_pI, o_pZ0, o_pZ1, o_pZb, o_pR, o_aI, o_qI, o_aN, tn, va_up_self, va_up_ne, upup, jI_shr1, jI_shr4, jI_shr0, jI_and1, jI_and15, jI_join, jI_240, jI_hi, jF_at, jF_up, jI_max, jI_min, b2_t, b2_f, Bool.not_true, Bool.not_false, eq_self, true_or, or_true, ie14, r1, epi, c1, q1, r2, eqi, c2, q2, e1, j2c, et, g15', e2]) <;> with_reducible rfl))) | (with_reducible apply q_nz; · (first | ((simp (disch := omega) only [jI_lit, jI_neg, jI_add, jI_sub, jI_mul, jI_lt, jI_le, jI_eq, va_up_self, va_up_ne, jI_shr1, jI_shr4, jI_shr0, jI_and1, jI_and15, jF_at, tn, b2_t, b2_f, cmp_ge, cmp_gt, cmp_le, cmp_lt, cmp_eq, jL_lit, jL_lt, jL_le, jL_eq, ie14, r1, epi, c1, q1, r2, eqi, c2, q2, e1, j2c, et, g15', e2]) <;> omega) | omega)) | (with_reducible apply q_rz; · (first | exact b2_01 _ | decide)))) <;> (first | with_reducible rfl | ((simp (disch := omega) only [jI_lit, jI_neg, jI_add, jI_sub, jI_mul, o_gI, o_gR, o_pI, o_pZ0, o_pZ1, o_pZb, o_pR, o_aI, o_qI, o_aN, tn, va_up_self, va_up_ne, upup, jI_shr1, jI_shr4, jI_shr0, jI_and1, jI_and15, jI_join, jI_240, jI_hi, jF_at, jF_up, jI_max, jI_min, b2_t, b2_f, Bool.not_true, Bool.not_false, eq_self, true_or, or_true, ie14, r1, epi, c1, q1, r2, eqi, c2, q2, e1, j2c, et, g15', e2]) <;> with_reducible rfl) | rfl))
    | false =>
      rw [hD, b2_f] at et
      have hcn : cnt (fun k => isD (c k)) (i + 1) = cnt (fun k => isD (c k)) i := cnt_f hD
      have hln : lstD c (i + 1) = lstD c i := by
        show (if isD (c i) then _ else _) = _
        rw [hD]; rfl
      have s4 : Ie i = Ie (i + 1) := by rw [hIe]; show va_up (va_up _ 15 _) 16 _ = va_up (va_up _ 15 _) 16 _; rw [hcn, hln]
      have s5 : J2 = Ii (i + 1) := by rw [Ieq1, ← s4, hJ2]
      rw [← s5]
      clear etab hSr hcell hIi hIe hI hb hcr hvr hc hv hcq hF2 hF3 u2 u3 Ieq Ieq1 g14 g15 hcl hJ1 hJ2 s1 s2 s3 s4 s5 j1e j2e hcn hln hD
      unfold fX3_sources_32
      ((repeat (first | (with_reducible apply q_gd; · (first | assumption | omega)) | (with_reducible apply q_ob; · (first | with_reducible rfl | ((simp (disch := omega) only [jI_lit, jI_neg, jI_add, jI_sub, jI_mul, o_gI, o_gR, o_pI, o_pZ0, o_pZ1, o_pZb, o_pR, o_aI, o_qI, o_aN, tn, va_up_self, va_up_ne, upup, jI_shr1, jI_shr4, jI_shr0, jI_and1, jI_and15, jI_join, jI_240, jI_hi, jF_at, jF_up, jI_max, jI_min, b2_t, b2_f, Bool.not_true, Bool.not_false, eq_self, true_or, or_true, ie14, r1, epi, c1, q1, r2, eqi, c2, q2, e1, j2c, et, e2]) <;> with_reducible rfl))) | (with_reducible apply q_ob2; · (first | with_reducible rfl | ((simp (disch := omega) only [jI_lit, jI_neg, jI_add, jI_sub, jI_mul, o_gI, o_gR, o_pI, o_pZ0, o_pZ1, o_pZb, o_pR, o_aI, o_qI, o_aN, tn, va_up_self, va_up_ne, upup, jI_shr1, jI_shr4, jI_shr0, jI_and1, jI_and15, jI_join, jI_240, jI_hi, jF_at, jF_up, jI_max, jI_min, b2_t, b2_f, Bool.not_true, Bool.not_false, eq_self, true_or, or_true, ie14, r1, epi, c1, q1, r2, eqi, c2, q2, e1, j2c, et, e2]) <;> with_reducible rfl))) | (with_reducible apply q_lt; · (first | with_reducible rfl | ((simp (disch := omega) only [jI_lit, jI_neg, jI_add, jI_sub, jI_mul, o_gI, o_gR, o_pI, o_pZ0, o_pZ1, o_pZb, o_pR, o_aI, o_qI, o_aN, tn, va_up_self, va_up_ne, upup, jI_shr1, jI_shr4, jI_shr0, jI_and1, jI_and15, jI_join, jI_240, jI_hi, jF_at, jF_up, jI_max, jI_min, b2_t, b2_f, Bool.not_true, Bool.not_false, eq_self, true_or, or_true, ie14, r1, epi, c1, q1, r2, eqi, c2, q2, e1, j2c, et, e2]) <;> with_reducible rfl))) | (with_reducible apply q_ifp; · (first | ((simp (disch := omega) only [jI_lit, jI_neg, jI_add, jI_sub, jI_mul, jI_lt, jI_le, jI_eq, va_up_self, va_up_ne, jI_shr1, jI_shr4, jI_shr0, jI_and1, jI_and15, jF_at, tn, b2_t, b2_f, cmp_ge, cmp_gt, cmp_le, cmp_lt, cmp_eq, jL_lit, jL_lt, jL_le, jL_eq, ie14, r1, epi, c1, q1, r2, eqi, c2, q2, e1, j2c, et, e2]) <;> omega) | omega)) | (with_reducible apply q_ifn; · (first | ((simp (disch := omega) only [jI_lit, jI_neg, jI_add, jI_sub, jI_mul, jI_lt, jI_le, jI_eq, va_up_self, va_up_ne, jI_shr1, jI_shr4, jI_shr0, jI_and1, jI_and15, jF_at, tn, b2_t, b2_f, cmp_ge, cmp_gt, cmp_le, cmp_lt, cmp_eq, jL_lit, jL_lt, jL_le, jL_eq, ie14, r1, epi, c1, q1, r2, eqi, c2, q2, e1, j2c, et, e2]) <;> omega) | omega)) | (with_reducible apply q_obk; · (first | with_reducible rfl | ((simp (disch := omega) only [jI_lit, jI_neg, jI_add, jI_sub, jI_mul, o_gI, o_gR, o_pI, o_pZ0, o_pZ1, o_pZb, o_pR, o_aI, o_qI, o_aN, tn, va_up_self, va_up_ne, upup, jI_shr1, jI_shr4, jI_shr0, jI_and1, jI_and15, jI_join, jI_240, jI_hi, jF_at, jF_up, jI_max, jI_min, b2_t, b2_f, Bool.not_true, Bool.not_false, eq_self, true_or, or_true, ie14, r1, epi, c1, q1, r2, eqi, c2, q2, e1, j2c, et, e2]) <;> with_reducible rfl))) | (with_reducible apply q_nz; · (first | ((simp (disch := omega) only [jI_lit, jI_neg, jI_add, jI_sub, jI_mul, jI_lt, jI_le, jI_eq, va_up_self, va_up_ne, jI_shr1, jI_shr4, jI_shr0, jI_and1, jI_and15, jF_at, tn, b2_t, b2_f, cmp_ge, cmp_gt, cmp_le, cmp_lt, cmp_eq, jL_lit, jL_lt, jL_le, jL_eq, ie14, r1, epi, c1, q1, r2, eqi, c2, q2, e1, j2c, et, e2]) <;> omega) | omega)) | (with_reducible apply q_rz; · (first | exact b2_01 _ | decide)))) <;> (first | with_reducible rfl | ((simp (disch := omega) only [jI_lit, jI_neg, jI_add, jI_sub, jI_mul, o_gI, o_gR, o_pI, o_pZ0, o_pZ1, o_pZb, o_pR, o_aI, o_qI, o_aN, tn, va_up_self, va_up_ne, upup, jI_shr1, jI_shr4, jI_shr0, jI_and1, jI_and15, jI_join, jI_240, jI_hi, jF_at, jF_up, jI_max, jI_min, b2_t, b2_f, Bool.not_true, Bool.not_false, eq_self, true_or, or_true, ie14, r1, epi, c1, q1, r2, eqi, c2, q2, e1, j2c, et, e2]) <;> with_reducible rfl) | rfl))
  · intro kk
    show fX3_sources_32 kk e x (jI (pp : Int)) (jI (q : Int)) (jI (n : Int)) (K, Ii n, R, L, N, w) = _
    have i14 := hSr.2.2.2.2.2.1
    rw [← etab]
    clear etab hSr hcell hIi hIe hI hb hcr hvr hc hv hcq
    unfold fX3_sources_32
    ((repeat (first | (with_reducible apply q_gd; · (first | assumption | omega)) | (with_reducible apply q_ob; · (first | with_reducible rfl | ((simp (disch := omega) only [jI_lit, jI_neg, jI_add, jI_sub, jI_mul, o_gI, o_gR, o_pI, o_pZ0, o_pZ1, o_pZb, o_pR, o_aI, o_qI, o_aN, tn, va_up_self, va_up_ne, upup, jI_shr1, jI_shr4, jI_shr0, jI_and1, jI_and15, jI_join, jI_240, jI_hi, jF_at, jF_up, jI_max, jI_min, b2_t, b2_f, Bool.not_true, Bool.not_false, eq_self, true_or, or_true, i14]) <;> with_reducible rfl))) | (with_reducible apply q_ob2; · (first | with_reducible rfl | ((simp (disch := omega) only [jI_lit, jI_neg, jI_add, jI_sub, jI_mul, o_gI, o_gR, o_pI, o_pZ0, o_pZ1, o_pZb, o_pR, o_aI, o_qI, o_aN, tn, va_up_self, va_up_ne, upup, jI_shr1, jI_shr4, jI_shr0, jI_and1, jI_and15, jI_join, jI_240, jI_hi, jF_at, jF_up, jI_max, jI_min, b2_t, b2_f, Bool.not_true, Bool.not_false, eq_self, true_or, or_true, i14]) <;> with_reducible rfl))) | (with_reducible apply q_lt; · (first | with_reducible rfl | ((simp (disch := omega) only [jI_lit, jI_neg, jI_add, jI_sub, jI_mul, o_gI, o_gR, o_pI, o_pZ0, o_pZ1, o_pZb, o_pR, o_aI, o_qI, o_aN, tn, va_up_self, va_up_ne, upup, jI_shr1, jI_shr4, jI_shr0, jI_and1, jI_and15, jI_join, jI_240, jI_hi, jF_at, jF_up, jI_max, jI_min, b2_t, b2_f, Bool.not_true, Bool.not_false, eq_self, true_or, or_true, i14]) <;> with_reducible rfl))) | (with_reducible apply q_ifp; · (first | ((simp (disch := omega) only [jI_lit, jI_neg, jI_add, jI_sub, jI_mul, jI_lt, jI_le, jI_eq, va_up_self, va_up_ne, jI_shr1, jI_shr4, jI_shr0, jI_and1, jI_and15, jF_at, tn, b2_t, b2_f, cmp_ge, cmp_gt, cmp_le, cmp_lt, cmp_eq, jL_lit, jL_lt, jL_le, jL_eq, i14]) <;> omega) | omega)) | (with_reducible apply q_ifn; · (first | ((simp (disch := omega) only [jI_lit, jI_neg, jI_add, jI_sub, jI_mul, jI_lt, jI_le, jI_eq, va_up_self, va_up_ne, jI_shr1, jI_shr4, jI_shr0, jI_and1, jI_and15, jF_at, tn, b2_t, b2_f, cmp_ge, cmp_gt, cmp_le, cmp_lt, cmp_eq, jL_lit, jL_lt, jL_le, jL_eq, i14]) <;> omega) | omega)) | (with_reducible apply q_obk; · (first | with_reducible rfl | ((simp (disch := omega) only [jI_lit, jI_neg, jI_add, jI_sub, jI_mul, o_gI, o_gR, o_pI, o_pZ0, o_pZ1, o_pZb, o_pR, o_aI, o_qI, o_aN, tn, va_up_self, va_up_ne, upup, jI_shr1, jI_shr4, jI_shr0, jI_and1, jI_and15, jI_join, jI_240, jI_hi, jF_at, jF_up, jI_max, jI_min, b2_t, b2_f, Bool.not_true, Bool.not_false, eq_self, true_or, or_true, i14]) <;> with_reducible rfl))) | (with_reducible apply q_nz; · (first | ((simp (disch := omega) only [jI_lit, jI_neg, jI_add, jI_sub, jI_mul, jI_lt, jI_le, jI_eq, va_up_self, va_up_ne, jI_shr1, jI_shr4, jI_shr0, jI_and1, jI_and15, jF_at, tn, b2_t, b2_f, cmp_ge, cmp_gt, cmp_le, cmp_lt, cmp_eq, jL_lit, jL_lt, jL_le, jL_eq, i14]) <;> omega) | omega)) | (with_reducible apply q_rz; · (first | exact b2_01 _ | decide)))) <;> (first | with_reducible rfl | ((simp (disch := omega) only [jI_lit, jI_neg, jI_add, jI_sub, jI_mul, o_gI, o_gR, o_pI, o_pZ0, o_pZ1, o_pZb, o_pR, o_aI, o_qI, o_aN, tn, va_up_self, va_up_ne, upup, jI_shr1, jI_shr4, jI_shr0, jI_and1, jI_and15, jI_join, jI_240, jI_hi, jF_at, jF_up, jI_max, jI_min, b2_t, b2_f, Bool.not_true, Bool.not_false, eq_self, true_or, or_true, i14]) <;> with_reducible rfl) | rfl))
end SRC
