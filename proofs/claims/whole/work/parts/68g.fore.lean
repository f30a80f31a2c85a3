section FS
variable {K : Nat → Nat} {I : Nat → Nat → Int32} {R : Nat → Nat → Nat} {L : Nat → Nat → Int64} {N : Nat → Nat} {w : Nat × Nat × Nat × Nat}
theorem ius_16 (z : Int) : ius (jI z) (jI 16) = jI (z % 4294967296 / 65536) := by
  apply Int32.toBitVec_inj.1
  apply BitVec.eq_of_toNat_eq
  rw [jI_bv]
  have e : (jI 16).toUInt32 &&& Int32.toUInt32 31 = 16 := by decide +kernel
  unfold ius
  rw [e]
  show ((jI z).toUInt32 >>> (16 : UInt32)).toNat = _
  rw [UInt32.toNat_shiftRight]
  show (jI z).toBitVec.toNat >>> 16 = _
  rw [jI_bv, Nat.shiftRight_eq_div_pow]
  show (z % 4294967296).toNat / 65536 = _
  omega
theorem ius_24 (z : Int) : ius (jI z) (jI 24) = jI (z % 4294967296 / 16777216) := by
  apply Int32.toBitVec_inj.1
  apply BitVec.eq_of_toNat_eq
  rw [jI_bv]
  have e : (jI 24).toUInt32 &&& Int32.toUInt32 31 = 24 := by decide +kernel
  unfold ius
  rw [e]
  show ((jI z).toUInt32 >>> (24 : UInt32)).toNat = _
  rw [UInt32.toNat_shiftRight]
  show (jI z).toBitVec.toNat >>> 24 = _
  rw [jI_bv, Nat.shiftRight_eq_div_pow]
  show (z % 4294967296).toNat / 16777216 = _
  omega
theorem ius_8 (z : Int) : ius (jI z) (jI 8) = jI (z % 4294967296 / 256) := by
  apply Int32.toBitVec_inj.1
  apply BitVec.eq_of_toNat_eq
  rw [jI_bv]
  have e : (jI 8).toUInt32 &&& Int32.toUInt32 31 = 8 := by decide +kernel
  unfold ius
  rw [e]
  show ((jI z).toUInt32 >>> (8 : UInt32)).toNat = _
  rw [UInt32.toNat_shiftRight]
  show (jI z).toBitVec.toNat >>> 8 = _
  rw [jI_bv, Nat.shiftRight_eq_div_pow]
  show (z % 4294967296).toNat / 256 = _
  omega
theorem ius_0 (z : Int) : ius (jI z) (jI 0) = jI z := by
  apply Int32.toBitVec_inj.1
  apply BitVec.eq_of_toNat_eq
  have e : (jI 0).toUInt32 &&& Int32.toUInt32 31 = 0 := by decide +kernel
  unfold ius
  rw [e]
  show ((jI z).toUInt32 >>> (0 : UInt32)).toNat = _
  rw [UInt32.toNat_shiftRight]
  rfl
def nxt (s : Int) : Int := bm (s * 1103515245 + 12345)
def drw (s n : Int) : Int := s / 65536 % 32768 % n
theorem drw_r {s n : Int} (h : 0 < n) : 0 ≤ drw s n ∧ drw s n < n := by
  unfold drw
  exact ⟨Int.emod_nonneg _ (by omega), Int.emod_lt_of_pos _ h⟩
theorem e_draw {f : Nat} {n sd : Int} (k4 : K f = 4) (i4 : I f 4 = jI sd) (h1 : 1 ≤ n) (h2 : n ≤ 256) : fX4_draw f (jI n) (K, I, R, L, N, w) = some (jI (drw (nxt sd) n), (K, va_up I f (va_up (I f) 4 (jI (nxt sd))), R, L, N, w)) := by
  have e1 : jI (sd * 1103515245 + 12345) = jI (nxt sd) := jI_bm _
  have e2 : irm (ius (jI (nxt sd)) (jI 16) &&& jI 32767) (jI n) = jI (drw (nxt sd) n) := by
    have hb := bm_r (sd * 1103515245 + 12345)
    have hn : -2147483648 ≤ nxt sd ∧ nxt sd < 2147483648 := hb
    rw [ius_16, jI_and32767, jI_rem (by omega) (by omega) (by omega) (by omega)]
    unfold drw
    have : nxt sd % 4294967296 / 65536 % 32768 = nxt sd / 65536 % 32768 := by omega
    rw [this]
  have n0 : n ≠ 0 := by omega
  unfold fX4_draw
  ((repeat (first | (with_reducible apply q_gd; · (first | assumption | omega)) | (with_reducible apply q_ob; · (first | with_reducible rfl | ((simp (disch := omega) only [jI_lit, jI_neg, jI_add, jI_sub, jI_mul, o_gI, o_gR, o_pI, o_pZ0, o_pZ1, o_pZb, o_pR, o_aI, o_qI, o_aN, tn, va_up_self, va_up_ne, upup, jI_shr1, jI_shr4, jI_shr0, jI_and1, jI_and15, jI_join, jI_240, jI_hi, jF_at, jF_up, jI_max, jI_min, b2_t, b2_f, Bool.not_true, Bool.not_false, eq_self, true_or, or_true, i4, e1, e2]) <;> with_reducible rfl))) | (with_reducible apply q_ob2; · (first | with_reducible rfl | ((simp (disch := omega) only [jI_lit, jI_neg, jI_add, jI_sub, jI_mul, o_gI, o_gR, o_pI, o_pZ0, o_pZ1, o_pZb, o_pR, o_aI, o_qI, o_aN, tn, va_up_self, va_up_ne, upup, jI_shr1, jI_shr4, jI_shr0, jI_and1, jI_and15, jI_join, jI_240, jI_hi, jF_at, jF_up, jI_max, jI_min, b2_t, b2_f, Bool.not_true, Bool.not_false, eq_self, true_or, or_true, i4, e1, e2]) <;> with_reducible rfl))) | (with_reducible apply q_lt; · (first | with_reducible rfl | ((simp (disch := omega) only [jI_lit, jI_neg, jI_add, jI_sub, jI_mul, o_gI, o_gR, o_pI, o_pZ0, o_pZ1, o_pZb, o_pR, o_aI, o_qI, o_aN, tn, va_up_self, va_up_ne, upup, jI_shr1, jI_shr4, jI_shr0, jI_and1, jI_and15, jI_join, jI_240, jI_hi, jF_at, jF_up, jI_max, jI_min, b2_t, b2_f, Bool.not_true, Bool.not_false, eq_self, true_or, or_true, i4, e1, e2]) <;> with_reducible rfl))) | (with_reducible apply q_ifp; · (first | ((simp (disch := omega) only [jI_lit, jI_neg, jI_add, jI_sub, jI_mul, jI_lt, jI_le, jI_eq, va_up_self, va_up_ne, jI_shr1, jI_shr4, jI_shr0, jI_and1, jI_and15, jF_at, tn, b2_t, b2_f, cmp_ge, cmp_gt, cmp_le, cmp_lt, cmp_eq, jL_lit, jL_lt, jL_le, jL_eq, i4, e1, e2]) <;> omega) | omega)) | (with_reducible apply q_ifn; · (first | ((simp (disch := omega) only [jI_lit, jI_neg, jI_add, jI_sub, jI_mul, jI_lt, jI_le, jI_eq, va_up_self, va_up_ne, jI_shr1, jI_shr4, jI_shr0, jI_and1, jI_and15, jF_at, tn, b2_t, b2_f, cmp_ge, cmp_gt, cmp_le, cmp_lt, cmp_eq, jL_lit, jL_lt, jL_le, jL_eq, i4, e1, e2]) <;> omega) | omega)) | (with_reducible apply q_obk; · (first | with_reducible rfl | ((simp (disch := omega) only [jI_lit, jI_neg, jI_add, jI_sub, jI_mul, o_gI, o_gR, o_pI, o_pZ0, o_pZ1, o_pZb, o_pR, o_aI, o_qI, o_aN, tn, va_up_self, va_up_ne, upup, jI_shr1, jI_shr4, jI_shr0, jI_and1, jI_and15, jI_join, jI_240, jI_hi, jF_at, jF_up, jI_max, jI_min, b2_t, b2_f, Bool.not_true, Bool.not_false, eq_self, true_or, or_true, i4, e1, e2]) <;> with_reducible rfl))) | (with_reducible apply q_nz; · (first | ((simp (disch := omega) only [jI_lit, jI_neg, jI_add, jI_sub, jI_mul, jI_lt, jI_le, jI_eq, va_up_self, va_up_ne, jI_shr1, jI_shr4, jI_shr0, jI_and1, jI_and15, jF_at, tn, b2_t, b2_f, cmp_ge, cmp_gt, cmp_le, cmp_lt, cmp_eq, jL_lit, jL_lt, jL_le, jL_eq, i4, e1, e2]) <;> omega) | omega)) | (with_reducible apply q_rz; · (first | exact b2_01 _ | decide)))) <;> (first | with_reducible rfl | ((simp (disch := omega) only [jI_lit, jI_neg, jI_add, jI_sub, jI_mul, o_gI, o_gR, o_pI, o_pZ0, o_pZ1, o_pZb, o_pR, o_aI, o_qI, o_aN, tn, va_up_self, va_up_ne, upup, jI_shr1, jI_shr4, jI_shr0, jI_and1, jI_and15, jI_join, jI_240, jI_hi, jF_at, jF_up, jI_max, jI_min, b2_t, b2_f, Bool.not_true, Bool.not_false, eq_self, true_or, or_true, i4, e1, e2]) <;> with_reducible rfl) | rfl))
/-- what happens in a year, ahead of its steps: row, seed, how often begun anew -/
def hpn (P : PG) (many : Nat) (u : Nat → Int) (sd an : Int) : (Nat → Int) × Int × Int :=
  if drw (nxt sd) 3 = 0 then (va_up u (drw (nxt (nxt sd)) 256).toNat (drw (nxt (nxt (nxt sd))) 256), nxt (nxt (nxt sd)), an)
  else if drw (nxt sd) 3 = 1 ∧ u 276 ≠ 0 then (bgn P many u, nxt sd, an + 1) else (u, nxt sd, an)
def yr (P : PG) (many : Nat) (s : (Nat → Int) × Int × Int) : (Nat → Int) × Int × Int := (stpN P many 5 (hpn P many s.1 s.2.1 s.2.2).1, (hpn P many s.1 s.2.1 s.2.2).2)
def yrs (P : PG) (many : Nat) (r : Nat → Int) (sd : Int) : Nat → (Nat → Int) × Int × Int
  | 0 => (r, sd, 0)
  | n + 1 => yr P many (yrs P many r sd n)
def agd (P : PG) (many : Nat) (r : Nat → Int) (sd : Int) (n : Nat) (what : Int) : Int :=
  if what = 0 then (yrs P many r sd n).1 278 - r 278 else if what = 1 then (yrs P many r sd n).2.2 else (cnt (fun i => (yrs P many r sd n).1 i != r i) 256 : Nat)
theorem RowOK_bgn {P : PG} {many : Nat} {T : Int} {u : Nat → Int} (h : RowOK many T u) (hm : many ≤ 60) (hP : ∀ k, k < 256 → 0 ≤ P 7 k ∧ P 7 k < 256) : RowOK many T (bgn P many u) := by
  obtain ⟨a1, a2, a3, a4, a5, a6, a7, a8, a9, a10, a11, a12, a13, a14, a15, a16⟩ := h
  have e0 : ∀ j, j < 256 → bgn P many u j = P 7 j := fun j hj => by unfold bgn; rw [if_pos hj]
  have e1 : ∀ j, 256 ≤ j → j < 266 → bgn P many u j = 0 := fun j h1 h2 => by unfold bgn; rw [if_neg (by omega), if_pos h2]
  have e2 : ∀ j, 266 ≤ j → j < 276 → bgn P many u j = -1 := fun j h1 h2 => by unfold bgn; rw [if_neg (by omega), if_neg (by omega), if_pos h2]
  have e3 : bgn P many u 276 = if many = 0 then 1 else 0 := by unfold bgn; rw [if_neg (by omega), if_neg (by omega), if_neg (by omega), if_pos rfl]
  have e : ∀ j, 277 ≤ j → bgn P many u j = u j := fun j hj => by unfold bgn; rw [if_neg (by omega), if_neg (by omega), if_neg (by omega), if_neg (by omega)]
  have e3r : 0 ≤ bgn P many u 276 ∧ bgn P many u 276 ≤ 1 ∧ (bgn P many u 276 = 0 → 0 < many) := by
    rw [e3]
    by_cases c : many = 0
    · rw [if_pos c]; omega
    · rw [if_neg c]; omega
  refine ⟨fun j hj => by rw [e0 j hj]; exact hP j hj, fun j => ?_, ?_, ?_, ?_, ?_, fun j j1 j2 => ?_, ?_, ?_, ?_, ?_, fun j hj => ?_, ?_, ?_, ?_, ?_⟩
  · by_cases c0 : j < 256
    · rw [e0 j c0]; have := hP j c0; omega
    · by_cases c1 : j < 266
      · rw [e1 j (by omega) c1]; omega
      · by_cases c2 : j < 276
        · rw [e2 j (by omega) c2]; omega
        · by_cases c3 : j = 276
          · rw [c3]; omega
          · rw [e j (by omega)]; exact a2 j
  · rw [e1 264 (by omega) (by omega)]; omega
  · rw [e1 265 (by omega) (by omega)]; omega
  · rw [e1 265 (by omega) (by omega)]; intro q; have := e3r.2.2 q; omega
  · rw [e2 266 (by omega) (by omega)]; omega
  · rw [e2 (267 + j) (by omega) (by omega)]; omega
  · omega
  · rw [e 279 (by omega), e 277 (by omega)]; exact a9
  · rw [e 277 (by omega)]; exact a10
  · rw [e 278 (by omega), e 277 (by omega)]; exact a11
  · rw [e (354 + j) (by omega), e 277 (by omega)]; exact a12 j hj
  · rw [e 278 (by omega), e 280 (by omega)]; exact a13
  · rw [e 280 (by omega)]; exact a14
  · rw [e 289 (by omega), e 280 (by omega)]; exact a15
  · exact e2 267 (by omega) (by omega)
theorem RowOK_T {many : Nat} {T T' : Int} {u : Nat → Int} (h : RowOK many T u) (hT : T ≤ T') : RowOK many T' u := by
  obtain ⟨a1, a2, a3, a4, a5, a6, a7, a8, a9, a10, a11⟩ := h
  exact ⟨a1, a2, a3, a4, a5, a6, a7, a8, a9, ⟨a10.1, by omega⟩, a11⟩
theorem hpn_ok {P : PG} {many : Nat} {T sd an : Int} {u : Nat → Int} (h : RowOK many T u) (hm : many ≤ 60) (hP : ∀ k, k < 256 → 0 ≤ P 7 k ∧ P 7 k < 256) : RowOK many T (hpn P many u sd an).1 ∧ (hpn P many u sd an).1 278 = u 278 := by
  have d1 := drw_r (s := nxt (nxt sd)) (n := 256) (by omega)
  have d2 := drw_r (s := nxt (nxt (nxt sd))) (n := 256) (by omega)
  unfold hpn
  by_cases c : drw (nxt sd) 3 = 0
  · rw [if_pos c]
    exact ⟨RowOK_lay h (by omega) d2.1 d2.2, va_up_ne _ _ (by omega)⟩
  · rw [if_neg c]
    by_cases c2 : drw (nxt sd) 3 = 1 ∧ u 276 ≠ 0
    · rw [if_pos c2]
      exact ⟨RowOK_bgn h hm hP, by show bgn P many u 278 = _; unfold bgn; rw [if_neg (by omega), if_neg (by omega), if_neg (by omega), if_neg (by omega)]⟩
    · rw [if_neg c2]; exact ⟨h, rfl⟩
theorem yrs_ok {P : PG} {many : Nat} {T sd : Int} {r : Nat → Int} (h : RowOK many T r) (pg : ∀ k, k < many → PGk P many k) (hm : many ≤ 60) (hP : ∀ k, k < 256 → 0 ≤ P 7 k ∧ P 7 k < 256) (hT : T < 800000) : ∀ n : Nat, n ≤ 100 → RowOK many (T + 5 * n) (yrs P many r sd n).1
  | 0, _ => by
    have : T + 5 * (0 : Nat) = T := by omega
    rw [this]; exact h
  | n + 1, hn => by
    have ih := yrs_ok (sd := sd) h pg hm hP hT n (by omega)
    have hp := (hpn_ok (sd := (yrs P many r sd n).2.1) (an := (yrs P many r sd n).2.2) ih hm hP).1
    have := stpN_ok hp pg hm 5 (by omega)
    rw [show T + 5 * ((n + 1 : Nat) : Int) = T + 5 * (n : Int) + (5 : Nat) by omega]
    exact this
theorem stp_278 {P : PG} {many : Nat} {T : Int} {u : Nat → Int} (ok : RowOK many T u) (pg : ∀ k, k < many → PGk P many k) (hs : u 276 = 0) : stp P many u 278 = u 278 + if knd P u = 0 then 0 else 1 := by
  obtain ⟨k, hk⟩ : ∃ k, k = (u 265).toNat := ⟨_, rfl⟩
  have h1 := ok.2.2.2.1
  have h2 := ok.2.2.2.2.1 hs
  obtain ⟨hr, hx, -⟩ := exe_ok ok (pg k (by omega)) (by omega)
  obtain ⟨⟨v, fo, nx⟩, ho⟩ : ∃ z, z = exe P u k := ⟨_, rfl⟩
  rw [← ho] at hx hr
  have v278 : v 278 = u 278 := hr.2.2.2.2 278 (by omega) (by omega)
  have r278 : rec6 v k 278 = v 278 := by
    have := Nat.mod_lt (v 279).toNat (show 64 > 0 by omega)
    unfold rec6
    simp (disch := omega) only [va_up_ne]
  cases fo with
  | none =>
    rw [knd_none hk ho.symm, if_pos rfl, stp_none hs hk ho.symm, va_up_ne _ _ (by omega), va_up_ne _ _ (by omega), va_up_ne _ _ (by omega), r278, v278]
    omega
  | some f =>
    have hF := (hx f rfl).1.1
    have hw : why6 (rec6 v k) k f 278 = v 278 + 1 := by
      obtain ⟨c, w', a, n, hh, x⟩ := f
      unfold why6
      simp (disch := omega) only [va_up_ne, va_up_self]
      rw [r278]
    have hkn := knd_some hk ho.symm
    have hk0 : ¬ knd P u = 0 := by omega
    rw [if_neg hk0, stp_some hs hk ho.symm (by omega), va_up_ne _ _ (by omega), flt6_why (by omega)]
    split
    · rw [va_up_ne _ _ (by omega), hw, v278]
    · rw [va_up_ne _ _ (by omega), va_up_ne _ _ (by omega), hw, v278]
end FS
