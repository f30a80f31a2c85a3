section RAK
variable {c : MC} {m : Nat} {f r : Nat → Int} {s t : SI2} {many k mm n : Nat} {P : PG} {A : Nat → Nat → Int} {nt cr tp : Nat → Int} {fp : Int} {im : Option DS}
theorem gsp_278 {T : Int} (ok : RowOK many T r) (pg : ∀ k, k < many → PGk P many k) (hm : many ≤ 60) : ∀ i : Nat, T + i < 900000 → (gsp P many r i).1 278 = r 278 + (if (gsp P many r i).2 = true then 0 else 1)
  | 0, _ => by show r 278 = r 278 + (if true = true then 0 else 1); rw [if_pos rfl]; omega
  | i + 1, h => by
    have ih := gsp_278 ok pg hm i (by omega)
    by_cases c : (gsp P many r i).2 = true ∧ (gsp P many r i).1 276 = 0
    · rw [if_pos c.1] at ih
      rw [gsp_go c.1 c.2]
      have := stp_278 (gsp_ok ok pg hm i (by omega)) pg c.2
      show stp P many (gsp P many r i).1 278 = r 278 + (if (knd P (gsp P many r i).1 == 0) = true then 0 else 1)
      rw [this, ih]
      by_cases q : knd P (gsp P many r i).1 = 0
      · rw [if_pos q, if_pos (by rw [q]; rfl)]; omega
      · rw [if_neg q, if_neg (by simpa using q)]; omega
    · rw [gsp_no c]; exact ih
theorem gsp_hi {T : Int} {j : Nat} (ok : RowOK many T r) (pg : ∀ k, k < many → PGk P many k) (hm : many ≤ 60) (hj : 414 ≤ j) : ∀ i : Nat, T + i < 900000 → (gsp P many r i).1 j = r j
  | 0, _ => rfl
  | i + 1, h => by
    have ih := gsp_hi ok pg hm hj i (by omega)
    by_cases c : (gsp P many r i).2 = true ∧ (gsp P many r i).1 276 = 0
    · rw [gsp_go c.1 c.2]
      show stp P many (gsp P many r i).1 j = r j
      rw [stp_hi (gsp_ok ok pg hm i (by omega)) pg hm hj, ih]
    · rw [gsp_no c]; exact ih
theorem gsp_stp {i : Nat} (h2 : (gsp P many r i).2 = true) : stp P many (gsp P many r i).1 = (gsp P many r (i + 1)).1 := by
  by_cases c : (gsp P many r i).1 276 = 0
  · rw [gsp_go h2 c]
  · rw [gsp_no (fun q => c q.2), stp_st c]
/-- one note, and those that have been looked at -/
def ntq (P : PG) (many : Nat) (nt : Nat → Int) (u : Nat → Int) (i : Nat) : Prop := (gsp P many u (nt (3 * i)).toNat).1 (nt (3 * i + 1)).toNat = nt (3 * i + 2)
def ntb (P : PG) (many : Nat) (nt : Nat → Int) (mm : Nat) (u : Nat → Int) (x3 x4 : Nat) (b : Bool) : Prop := b = true ↔ ∀ i, i < mm → (nt (3 * i) < x3 ∨ (nt (3 * i) = x3 ∧ i < x4)) → ntq P many nt u i
theorem s_noted {u : Nat → Int} {x : (Nat → Int) × SI2 × SI2} (h : RF c m f r s many P k A mm nt cr n tp fp im) (hx : LA f s r x.1 x.2.1) (ok : RowOK many 20000 u) (zu : Zt u) : ∃ y : (Nat → Int) × SI2 × SI2, LA f s r y.1 y.2.1 ∧ (∀ j, j ≠ 22 → y.2.1 j = x.2.1 j) ∧ fX13_isAsNoted m (MS c m x.1 u x.2.1 x.2.2) = some (jI (b2 (brn P many nt mm u)), MS c m y.1 r y.2.1 y.2.2) := by
  have hm := h.1
  have pr := h.2.1
  have zt := h.2.2.2.1
  obtain ⟨e59, nok, hN⟩ := h.2.2.2.2.2.1
  have hpg : ∀ k, k < many → PGk P many k := fun k hk => (pr.2.2.1 k hk).1
  have h60 := pr.2.1
  have b0 := ok.2.1 278
  have ouN : ∀ i : Nat, i ≤ 61 → RowOK many (20000 + i) (gsp P many u i).1 := fun i hi => gsp_ok ok hpg h60 i (by omega)
  have m8 := nok.1
  unfold fX13_isAsNoted
  (rw [s_gd _ hm]; (try rw [s_R3 hm]); rw [o_ob]; (try rw [show (278 : Int32) = jI 278 from rfl]); rw [s_a3 hm (by omega) (by omega), o_ob]; (try rw [show (278 : Int).toNat = 278 from rfl]))
  have key := lp_sr (z := fun _ _ _ _ _ => none) (S := fX13_isAsNoted_13) (β := Int32 × Hp) (ev := fun kk (i : Nat) (y : Bool × (Nat → Int) × SI2 × SI2) => kk m (jI (b2 y.1)) (jI (u 278)) (jI (i : Int)) (MS c m y.2.1 (gsp P many u i).1 y.2.2.1 y.2.2.2)) (hi := 61) (Inv := fun i y => LA f s r y.2.1 y.2.2.1 ∧ (∀ j, j ≠ 22 → y.2.2.1 j = x.2.1 j) ∧ ntb P many nt mm u i 0 y.1) (Post := fun q => ∃ y : (Nat → Int) × SI2 × SI2, LA f s r y.1 y.2.1 ∧ (∀ j, j ≠ 22 → y.2.1 j = x.2.1 j) ∧ q = some (jI (b2 (brn P many nt mm u)), MS c m y.1 r y.2.1 y.2.2)) ?_ ?_ FU 0 (true, x) (by omega) (FU_lt (by omega)) ⟨hx, fun _ _ => rfl, ?_⟩
  · exact key
  · intro i y hi ⟨l1, fr1, nb1⟩ kk
    right
    obtain ⟨b, y⟩ := y
    have l1 : LA f s r y.1 y.2.1 := l1
    have fr1 : ∀ j, j ≠ 22 → y.2.1 j = x.2.1 j := fr1
    have nb1 : ntb P many nt mm u i 0 b := nb1
    have oki := ouN i (by omega)
    have e8 := gsp_278 ok hpg h60 i (by omega)
    have bi := oki.2.1 278
    show ∃ y' : Bool × (Nat → Int) × SI2 × SI2, _ ∧ fX13_isAsNoted_13 kk m (jI (b2 b)) (jI (u 278)) (jI (i : Int)) (MS c m y.1 (gsp P many u i).1 y.2.1 y.2.2) = kk m (jI (b2 y'.1)) (jI (u 278)) (jI ((i + 1 : Nat) : Int)) (MS c m y'.2.1 (gsp P many u (i + 1)).1 y'.2.2.1 y'.2.2.2)
    unfold fX13_isAsNoted_13
    rw [if_neg (by first | ((simp (disch := omega) only [jI_lit, jI_neg, jI_add, jI_sub, jI_mul, jI_lt, jI_le, jI_eq, jL_lit, jL_lt, jL_le, jL_eq]) <;> omega) | omega)]
    have g59 : y.1 59 = (mm : Int) := (l1.2.1 59 (by omega) (by omega) (by omega)).trans e59
    have g28 : y.2.1 28 = s 28 := l1.2.2.1 28 (by omega) (by omega) (by omega) (by omega)
    have g29 : y.2.1 29 = s 29 := l1.2.2.1 29 (by omega) (by omega) (by omega) (by omega)
    have g30 : y.2.1 30 = s 30 := l1.2.2.1 30 (by omega) (by omega) (by omega) (by omega)
    have inn := lp_sr (z := fun _ _ _ _ _ _ => none) (S := fX13_isAsNoted_22 kk) (β := Int32 × Hp) (ev := fun k2 (z : Nat) (b' : Bool) => k2 m (jI (b2 b')) (jI (u 278)) (jI (i : Int)) (jI (z : Int)) (MS c m y.1 (gsp P many u i).1 y.2.1 y.2.2)) (hi := mm) (Inv := fun z b' => ntb P many nt mm u i z b') (Post := fun q => ∃ y' : Bool × (Nat → Int) × SI2 × SI2, (LA f s r y'.2.1 y'.2.2.1 ∧ (∀ j, j ≠ 22 → y'.2.2.1 j = x.2.1 j) ∧ ntb P many nt mm u (i + 1) 0 y'.1) ∧ q = kk m (jI (b2 y'.1)) (jI (u 278)) (jI ((i + 1 : Nat) : Int)) (MS c m y'.2.1 (gsp P many u (i + 1)).1 y'.2.2.1 y'.2.2.2)) ?_ ?_ FU 0 b (by omega) (FU_lt (by omega)) nb1
    · exact inn
    · intro z b' hz nb k2
      right
      have nb : ntb P many nt mm u i z b' := nb
      have nz := nok.2 z hz
      obtain ⟨n1, n2, n3⟩ := hN z hz
      have bp := oki.1 (nt (3 * z + 1)).toNat (by omega)
      show ∃ b'' : Bool, ntb P many nt mm u i (z + 1) b'' ∧ fX13_isAsNoted_22 kk k2 m (jI (b2 b')) (jI (u 278)) (jI (i : Int)) (jI (z : Int)) (MS c m y.1 (gsp P many u i).1 y.2.1 y.2.2) = k2 m (jI (b2 b'')) (jI (u 278)) (jI (i : Int)) (jI ((z + 1 : Nat) : Int)) (MS c m y.1 (gsp P many u i).1 y.2.1 y.2.2)
      have ez : jI (z : Int) + 1 = jI ((z + 1 : Nat) : Int) := by rw [show (1 : Int32) = jI 1 from rfl, jI_add]; rfl
      unfold fX13_isAsNoted_22
      ((try rw [s_gI hm]); rw [o_ob]; (try rw [g59]); rw [if_neg (by first | ((simp (disch := omega) only [jI_lit, jI_neg, jI_add, jI_sub, jI_mul, jI_lt, jI_le, jI_eq, jL_lit, jL_lt, jL_le, jL_eq]) <;> omega) | omega)])
      have weak : b' = false → ntb P many nt mm u i (z + 1) false := fun hb => by
        unfold ntb at nb ⊢
        constructor
        · intro q; exact absurd q (by decide)
        · intro q
          have := nb.2 (fun j hj hq => q j hj (by omega))
          rw [hb] at this; exact this
      cases b' with
      | false =>
        refine ⟨false, weak rfl, ?_⟩
        rw [if_pos (by rfl), o_lt, ez]
        rfl
      | true =>
        have all := nb.1 rfl
        (rw [if_neg (by decide)]; (try rw [s_R63 hm]); rw [o_ob, s_a28 hm (by omega) (by omega), o_ob]; (try rw [show ((z : Int)).toNat = z by omega]); (try rw [g28]); (try rw [n1]))
        by_cases q : nt (3 * z) = (i : Int)
        · (rw [if_pos (by rw [q])]; (try rw [s_R3 hm]); rw [o_ob]; (try rw [s_R64 hm]); rw [o_ob, s_a29 hm (by omega) (by omega), o_ob]; (try rw [show ((z : Int)).toNat = z by omega]); (try rw [g29]); (try rw [n2]); rw [s_a3 hm (by omega) (by omega), o_ob]; (try rw [s_R65 hm]); rw [o_ob, s_a30 hm (by omega) (by omega), o_ob]; (try rw [show ((z : Int)).toNat = z by omega]); (try rw [g30]); (try rw [n3]))
          have ei : (nt (3 * z)).toNat = i := by omega
          by_cases v : (gsp P many u i).1 (nt (3 * z + 1)).toNat = nt (3 * z + 2)
          · refine ⟨true, ?_, ?_⟩
            · unfold ntb
              refine ⟨fun _ j hj hq => ?_, fun _ => rfl⟩
              by_cases d : j = z
              · rw [d]; unfold ntq; rw [ei]; exact v
              · exact all j hj (by omega)
            · rw [if_pos (by rw [v]), o_lt, ez]
              rfl
          · refine ⟨false, ?_, ?_⟩
            · unfold ntb
              refine ⟨fun q => absurd q (by decide), fun q2 => ?_⟩
              have := q2 z hz (by omega)
              unfold ntq at this
              rw [ei] at this
              exact absurd this v
            · rw [if_neg (by rw [jI_eq (by omega) (by omega) (by omega) (by omega)]; exact v), o_lt, ez]
              rfl
        · refine ⟨true, ?_, ?_⟩
          · unfold ntb
            refine ⟨fun _ j hj hq => ?_, fun _ => rfl⟩
            by_cases d : j = z
            · rw [d] at hq
              exact all j hj (by rw [d]; omega)
            · exact all j hj (by omega)
          · rw [if_neg (by rw [jI_eq (by omega) (by omega) (by omega) (by omega)]; exact q), o_lt, ez]
            rfl
    · intro b' nb k2
      have nb : ntb P many nt mm u i mm b' := nb
      have nb' : ntb P many nt mm u (i + 1) 0 b' := by
        unfold ntb at nb ⊢
        rw [nb]
        exact ⟨fun q j hj hq => q j hj (by omega), fun q j hj hq => q j hj (by omega)⟩
      show ∃ y' : Bool × (Nat → Int) × SI2 × SI2, _ ∧ fX13_isAsNoted_22 kk k2 m (jI (b2 b')) (jI (u 278)) (jI (i : Int)) (jI (mm : Int)) (MS c m y.1 (gsp P many u i).1 y.2.1 y.2.2) = _
      unfold fX13_isAsNoted_22
      ((try rw [s_gI hm]); rw [o_ob]; (try rw [g59]); rw [if_pos (by first | ((simp (disch := omega) only [jI_lit, jI_neg, jI_add, jI_sub, jI_mul, jI_lt, jI_le, jI_eq, jL_lit, jL_lt, jL_le, jL_eq]) <;> omega) | omega)]; (try rw [s_R3 hm]); rw [o_ob]; (try rw [show (278 : Int32) = jI 278 from rfl]); rw [s_a3 hm (by omega) (by omega), o_ob]; (try rw [show (278 : Int).toNat = 278 from rfl]))
      have ei : jI (i : Int) + 1 = jI ((i + 1 : Nat) : Int) := by rw [show (1 : Int32) = jI 1 from rfl, jI_add]; rfl
      by_cases q : (gsp P many u i).2 = true
      · rw [if_pos q] at e8
        obtain ⟨f2, s2, t2, b1, b2', b3⟩ := s_aStep (t := y.2.2) hm (LA_Pr l1 pr) oki (by omega)
        refine ⟨(b', f2, s2, t2), ⟨LA_sq l1 b2' b3, fun j hj => (b3 j hj).trans (fr1 j hj), nb'⟩, ?_⟩
        (rw [if_pos (show jI ((gsp P many u i).1 278) = jI (u 278) by rw [e8]; congr 1; omega)]; (try rw [b1]); rw [o_ob, o_lt, ei, gsp_stp q])
      · rw [if_neg q] at e8
        refine ⟨(b', y), ⟨l1, fr1, nb'⟩, ?_⟩
        rw [if_neg (by rw [jI_eq (by omega) (by omega) (by omega) (by omega)]; omega), o_lt, ei, gsp_no (fun z => q z.1)]
  · intro y ⟨l1, fr1, nb1⟩ kk
    obtain ⟨b, y⟩ := y
    have l1 : LA f s r y.1 y.2.1 := l1
    have nb1 : ntb P many nt mm u 61 0 b := nb1
    have ztu : Zt (gsp P many u 61).1 := fun j hj => by rw [gsp_hi ok hpg h60 hj 61 (by omega)]; exact zu j hj
    have eb : b = brn P many nt mm u := by
      have : b = true ↔ brn P many nt mm u = true := by
        have nb2 := nb1
        unfold ntb at nb2
        unfold brn
        rw [nb2, allb_iff]
        constructor
        · intro q i hi
          have := nok.2 i hi
          have := q i hi (by omega)
          unfold ntq at this
          simpa using this
        · intro q i hi _
          have := q i hi
          unfold ntq
          simpa using this
      cases b <;> cases hbr : brn P many nt mm u <;> simp_all
    refine ⟨y, l1, fr1, ?_⟩
    show fX13_isAsNoted_13 kk m (jI (b2 b)) (jI (u 278)) (jI ((61 : Nat) : Int)) (MS c m y.1 (gsp P many u 61).1 y.2.1 y.2.2) = _
    unfold fX13_isAsNoted_13
    (rw [if_pos (by first | ((simp (disch := omega) only [jI_lit, jI_neg, jI_add, jI_sub, jI_mul, jI_lt, jI_le, jI_eq, jL_lit, jL_lt, jL_le, jL_eq]) <;> omega) | omega)]; (try rw [show (0 : Int32) = jI 0 from rfl]); rw [LA_bk hm l1 zt ztu, o_ob2, o_rz _ (b2_01 b), eb])
  · show ntb P many nt mm u 0 0 true
    unfold ntb
    exact ⟨fun _ i hi hq => by have := nok.2 i hi; omega, fun _ => rfl⟩
theorem z_Blamed {p l w : Int} (h : RF c m f r s many P k A mm nt cr n tp fp im) (p1 : -2147483648 ≤ p) (p2 : p < 2147483648) (l1 : -2147483648 ≤ l) (l2 : l < 2147483648) (w1 : -2147483648 ≤ w) (w2 : w < 2147483648) : Rk c m f r s (fX13_blamed m (jI p) (jI l) (jI w) (MS c m f r s t)) (if 0 ≤ w ∧ w ≤ 2 then (if 1 ≤ l ∧ l ≤ 3 ∧ 0 ≤ p ∧ p + l ≤ 256 then .inr (jI (blm P many nt mm r p.toNat l.toNat w)) else .inl 2) else .inl 1) := by
  have hm := h.1
  have pr := h.2.1
  have ok := h.2.2.1
  have zt := h.2.2.2.1
  unfold fX13_blamed
  (rw [s_gd _ hm, i0_2 w1 w2]; (try rw [show (0 : Int32) = jI 0 from rfl]); rw [s_pI hm, o_ob, o_ob])
  by_cases cw : 0 ≤ w ∧ w ≤ 2
  rotate_left
  · rw [if_neg cw, if_neg cw, if_pos (by decide)]
    exact Rk_fl (k := 1) hm Kf_2 (Ks_rf s)
  (rw [if_pos cw, if_pos cw, if_neg (by decide)]; (try rw [show (3 : Int32) = jI 3 from rfl]); rw [s_isField (mx := 3) hm p1 p2 l1 l2 (by omega) (by omega), o_ob])
  by_cases cl : 1 ≤ l ∧ l ≤ 3 ∧ 0 ≤ p ∧ p + l ≤ 256
  rotate_left
  · rw [if_neg cl, if_neg cl, if_pos (by decide)]
    exact Rk_fl (k := 2) hm Kf_2 (Ks_rf s)
  rw [if_pos cl, if_pos cl, if_neg (by decide), s_remember hm, o_ob]
  obtain ⟨pl, rfl⟩ : ∃ pl : Nat, p = pl := ⟨p.toNat, by omega⟩
  obtain ⟨ln, rfl⟩ : ∃ ln : Nat, l = ln := ⟨l.toNat, by omega⟩
  simp only [Int.toNat_natCast]
  have g3 : LA f s r (va_up f 2 0) (va_up s 26 (fun x => if x < 414 then r x else s 26 x)) := LA_in
  by_cases cw2 : w = 2
  · obtain ⟨y, hy, -, e⟩ := s_noted (x := (va_up f 2 0, va_up s 26 (fun x => if x < 414 then r x else s 26 x), t)) h g3 ok zt
    have e : fX13_isAsNoted m (MS c m (va_up f 2 0) r (va_up s 26 (fun x => if x < 414 then r x else s 26 x)) t) = _ := e
    rw [if_pos (by rw [cw2]; rfl), e, o_ob2]
    have eb : blm P many nt mm r pl ln w = b2 (brn P many nt mm r) := by unfold blm; rw [if_neg (by omega), if_neg (by omega)]
    rw [eb]
    cases brn P many nt mm r with
    | false => rw [if_pos (by rfl)]; exact LA_Rk hy rfl
    | true => rw [if_neg (by decide)]; exact LA_Rk hy rfl
  (rw [if_neg (show ¬ jI w = 2 by rw [show (2 : Int32) = jI 2 from rfl, jI_eq (by omega) (by omega) (by omega) (by omega)]; exact cw2)]; (try rw [show (2 : Int32) = jI 2 from rfl]); (try rw [jI_mul]); rw [o_lt])
  obtain ⟨Q, hQ⟩ : ∃ Q, Q = bQ P many nt mm r pl := ⟨_, rfl⟩
  have eQ : blm P many nt mm r pl ln w = if w = 0 then ((cnt Q (32 * ln) : Nat) : Int) else fstv pl Q (32 * ln) := by
    rw [hQ]
    unfold blm
    by_cases q : w = 0
    · rw [if_pos q, if_pos q]
    · rw [if_neg q, if_neg q, if_pos (by omega)]
  have bfst : ∀ j, j < 100000 → -1 ≤ fstv pl Q j ∧ fstv pl Q j < 2147483648 := fun j hj => fstv_r (by omega) hj
  have bcnt : ∀ j, (cnt Q j : Int) ≤ j := fun j => by have := cnt_le Q j; omega
  have key := lp_sr (z := fun _ _ _ _ _ _ _ _ => none) (S := fX13_blamed_72) (β := Int32 × Hp) (ev := fun kk (i : Nat) (x : (Nat → Int) × SI2 × SI2) => kk m (jI (pl : Int)) (jI (ln : Int)) (jI w) (jI (cnt Q (16 * i) : Nat)) (jI (fstv pl Q (16 * i))) (jI ((2 * pl + i : Nat) : Int)) (MS c m x.1 r x.2.1 x.2.2)) (hi := 2 * ln) (Inv := fun _ x => LA f s r x.1 x.2.1) (Post := fun q => Rk c m f r s q (.inr (jI (blm P many nt mm r pl ln w)))) ?_ ?_ FU 0 (_, _, t) (by omega) (FU_lt (by omega)) g3
  · have e1 : jI (fstv pl Q (16 * 0)) = -1 := rfl
    have e2 : jI (cnt Q (16 * 0) : Nat) = 0 := rfl
    rw [e1, e2] at key
    exact key
  · intro i x hi hx kk
    right
    show ∃ y : (Nat → Int) × SI2 × SI2, LA f s r y.1 y.2.1 ∧ fX13_blamed_72 kk m (jI (pl : Int)) (jI (ln : Int)) (jI w) (jI (cnt Q (16 * i) : Nat)) (jI (fstv pl Q (16 * i))) (jI ((2 * pl + i : Nat) : Int)) (MS c m x.1 r x.2.1 x.2.2) = kk m (jI (pl : Int)) (jI (ln : Int)) (jI w) (jI (cnt Q (16 * (i + 1)) : Nat)) (jI (fstv pl Q (16 * (i + 1)))) (jI ((2 * pl + (i + 1) : Nat) : Int)) (MS c m y.1 r y.2.1 y.2.2)
    unfold fX13_blamed_72
    rw [if_neg (by first | ((simp (disch := omega) only [jI_lit, jI_neg, jI_add, jI_sub, jI_mul, jI_lt, jI_le, jI_eq, jL_lit, jL_lt, jL_le, jL_eq]) <;> omega) | omega)]
    have hh : 2 * pl + i < 512 := by omega
    have inn := lp_sr (z := fun _ _ _ _ _ _ _ _ _ => none) (S := fX13_blamed_85 kk) (β := Int32 × Hp) (ev := fun k2 (z : Nat) (x : (Nat → Int) × SI2 × SI2) => k2 m (jI (pl : Int)) (jI (ln : Int)) (jI w) (jI (cnt Q (16 * i + z) : Nat)) (jI (fstv pl Q (16 * i + z))) (jI ((2 * pl + i : Nat) : Int)) (jI (z : Int)) (MS c m x.1 r x.2.1 x.2.2)) (hi := 16) (Inv := fun _ x => LA f s r x.1 x.2.1) (Post := fun q => ∃ y : (Nat → Int) × SI2 × SI2, LA f s r y.1 y.2.1 ∧ q = kk m (jI (pl : Int)) (jI (ln : Int)) (jI w) (jI (cnt Q (16 * (i + 1)) : Nat)) (jI (fstv pl Q (16 * (i + 1)))) (jI ((2 * pl + (i + 1) : Nat) : Int)) (MS c m y.1 r y.2.1 y.2.2)) ?_ ?_ FU 0 x (by omega) (FU_lt (by omega)) hx
    · exact inn
    · intro z y hz hy k2
      right
      have hy : LA f s r y.1 y.2.1 := hy
      have bc := bcnt (16 * i + z)
      have bf := bfst (16 * i + z) (by omega)
      have hfb := ok.1 ((2 * pl + i) / 2) (by omega)
      have hfr : 0 ≤ hf r (2 * pl + i) ∧ hf r (2 * pl + i) < 16 := by unfold hf; split <;> omega
      have m16 : (16 * i + z) / 16 = i := by omega
      have r16 : (16 * i + z) % 16 = z := by omega
      show ∃ y' : (Nat → Int) × SI2 × SI2, LA f s r y'.1 y'.2.1 ∧ fX13_blamed_85 kk k2 m (jI (pl : Int)) (jI (ln : Int)) (jI w) (jI (cnt Q (16 * i + z) : Nat)) (jI (fstv pl Q (16 * i + z))) (jI ((2 * pl + i : Nat) : Int)) (jI (z : Int)) (MS c m y.1 r y.2.1 y.2.2) = k2 m (jI (pl : Int)) (jI (ln : Int)) (jI w) (jI (cnt Q (16 * i + (z + 1)) : Nat)) (jI (fstv pl Q (16 * i + (z + 1)))) (jI ((2 * pl + i : Nat) : Int)) (jI ((z + 1 : Nat) : Int)) (MS c m y'.1 r y'.2.1 y'.2.2)
      have ez : jI (z : Int) + 1 = jI ((z + 1 : Nat) : Int) := by rw [show (1 : Int32) = jI 1 from rfl, jI_add]; rfl
      rw [show 16 * i + (z + 1) = 16 * i + z + 1 by omega]
      unfold fX13_blamed_85
      (rw [if_neg (by first | ((simp (disch := omega) only [jI_lit, jI_neg, jI_add, jI_sub, jI_mul, jI_lt, jI_le, jI_eq, jL_lit, jL_lt, jL_le, jL_eq]) <;> omega) | omega), s_half hm ok.1 (by omega) (by omega), o_ob]; (try rw [show (((2 * pl + i : Nat) : Int)).toNat = 2 * pl + i by omega]))
      by_cases q : (z : Int) = hf r (2 * pl + i)
      · have n0 : Q (16 * i + z) = false := by rw [hQ]; unfold bQ; ((try rw [m16]); (try rw [r16]); rw [q]); simp
        refine ⟨y, hy, ?_⟩
        rw [if_pos (by rw [q]), o_lt, cnt_f n0, fstv_f n0, ez]
      · have okp := RowOK_pth (z := (z : Int)) ok hh (by omega) (by omega)
        have ztp : Zt (pth r (2 * pl + i) (z : Int)) := Zt_up zt (by omega)
        obtain ⟨y', hy', -, e'⟩ := s_noted h hy okp ztp
        have qv : Q (16 * i + z) = brn P many nt mm (pth r (2 * pl + i) (z : Int)) := by
          rw [hQ]
          unfold bQ
          rw [m16, r16]
          have : ((z : Int) != hf r (2 * pl + i)) = true := by simpa using q
          rw [this, Bool.true_and]
        refine ⟨y', hy', ?_⟩
        (rw [if_neg (by rw [jI_eq (by omega) (by omega) (by omega) (by omega)]; exact q), s_lay hm ok.1 (by omega) (by omega), o_ob]; (try rw [show (((2 * pl + i : Nat) : Int)).toNat = 2 * pl + i by omega]); rw [e', o_ob2])
        cases cb : brn P many nt mm (pth r (2 * pl + i) (z : Int)) with
        | false =>
          rw [cb] at qv
          rw [if_pos (by rfl), o_lt, ez, cnt_f qv, fstv_f qv]
        | true =>
          rw [cb] at qv
          have e1 : jI ((cnt Q (16 * i + z) : Nat) : Int) + 1 = jI ((cnt Q (16 * i + z) + 1 : Nat) : Int) := by rw [show (1 : Int32) = jI 1 from rfl, jI_add]; rfl
          (rw [if_neg (by decide), o_lt, cnt_t qv, fstv_t qv]; (try rw [e1]))
          by_cases c3 : fstv pl Q (16 * i + z) = -1
          · (rw [if_pos c3, if_pos (by rw [c3]; rfl), o_lt, o_lt, ez]; (try rw [show (100 : Int32) = jI 100 from rfl]); (try rw [jI_mul]); (try rw [jI_add]); (try rw [show 100 * ((2 * pl + i : Nat) : Int) + (z : Int) = 100 * (2 * (pl : Int) + ((16 * i + z : Nat) : Int) / 16) + ((16 * i + z : Nat) : Int) % 16 by omega]))
          · rw [if_neg c3, if_neg (show ¬ jI (fstv pl Q (16 * i + z)) = -1 by rw [show (-1 : Int32) = jI (-1) from rfl, jI_eq (by omega) (by omega) (by omega) (by omega)]; exact c3), o_lt, ez]
    · intro y hy k2
      refine ⟨y, hy, ?_⟩
      show fX13_blamed_85 kk k2 m (jI (pl : Int)) (jI (ln : Int)) (jI w) (jI (cnt Q (16 * i + 16) : Nat)) (jI (fstv pl Q (16 * i + 16))) (jI ((2 * pl + i : Nat) : Int)) (jI ((16 : Nat) : Int)) (MS c m y.1 r y.2.1 y.2.2) = _
      unfold fX13_blamed_85
      (rw [if_pos (by first | ((simp (disch := omega) only [jI_lit, jI_neg, jI_add, jI_sub, jI_mul, jI_lt, jI_le, jI_eq, jL_lit, jL_lt, jL_le, jL_eq]) <;> omega) | omega), o_lt]; (try rw [show (1 : Int32) = jI 1 from rfl]); (try rw [jI_add]); (try rw [show 16 * (i + 1) = 16 * i + 16 by omega]))
      rfl
  · intro x hx kk
    show Rk c m f r s (fX13_blamed_72 kk m (jI (pl : Int)) (jI (ln : Int)) (jI w) (jI (cnt Q (16 * (2 * ln)) : Nat)) (jI (fstv pl Q (16 * (2 * ln)))) (jI ((2 * pl + 2 * ln : Nat) : Int)) (MS c m x.1 r x.2.1 x.2.2)) _
    unfold fX13_blamed_72
    (rw [if_pos (by first | ((simp (disch := omega) only [jI_lit, jI_neg, jI_add, jI_sub, jI_mul, jI_lt, jI_le, jI_eq, jL_lit, jL_lt, jL_le, jL_eq]) <;> omega) | omega), eQ]; (try rw [show 16 * (2 * ln) = 32 * ln by omega]))
    by_cases c3 : w = 0
    · rw [if_pos c3, if_pos (by rw [c3]; rfl)]
      exact LA_Rk hx rfl
    · rw [if_neg c3, if_neg (show ¬ jI w = 0 by rw [show (0 : Int32) = jI 0 from rfl, jI_eq (by omega) (by omega) (by omega) (by omega)]; exact c3)]
      exact LA_Rk hx rfl
end RAK
