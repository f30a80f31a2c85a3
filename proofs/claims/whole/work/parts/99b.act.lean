section RAC
variable {c : MC} {m : Nat} {f r : Nat → Int} {s t : SI2} {many k mm n : Nat} {P : PG} {A : Nat → Nat → Int} {nt cr tp : Nat → Int} {fp : Int} {im : Option DS}
theorem stp_hi {T : Int} {j : Nat} (ok : RowOK many T r) (pg : ∀ k, k < many → PGk P many k) (hm : many ≤ 60) (hj : 414 ≤ j) : stp P many r j = r j := by
  by_cases hs : r 276 = 0
  · obtain ⟨k, hk⟩ : ∃ k, k = (r 265).toNat := ⟨_, rfl⟩
    have h1 := ok.2.2.2.1
    have h2 := ok.2.2.2.2.1 hs
    obtain ⟨rq, fk, -⟩ := exe_ok ok (pg k (by omega)) (by omega)
    obtain ⟨⟨u, fo, nx⟩, ho⟩ : ∃ z, z = exe P r k := ⟨_, rfl⟩
    rw [← ho] at rq fk
    have uj : u j = r j := rq.2.2.2.2 j (by omega) (by omega)
    have rj : rec6 u k j = u j := by
      have := Nat.mod_lt (u 279).toNat (show 64 > 0 by omega)
      unfold rec6
      simp (disch := omega) only [va_up_ne]
    cases hfo : fo with
    | none =>
      rw [hfo] at ho
      (rw [stp_none hs hk ho.symm]; (try rw [va_up_ne _ _ (by omega)]); (try rw [va_up_ne _ _ (by omega)]); (try rw [va_up_ne _ _ (by omega)]); rw [rj, uj])
    | some x =>
      have fx : FOK x := (fk x hfo).1
      rw [hfo] at ho
      (rw [stp_some hs hk ho.symm (by have := fx.1; omega)]; (try rw [va_up_ne _ _ (by omega)]); rw [flt6_why (by have := fx.1; omega)])
      split
      · ((try rw [va_up_ne _ _ (by omega)]); rw [why6_ne (by omega), rj, uj])
      · ((try rw [va_up_ne _ _ (by omega)]); (try rw [va_up_ne _ _ (by omega)]); rw [why6_ne (by omega), rj, uj])
  · rw [stp_st hs]
theorem stpN_hi {T : Int} {j : Nat} (ok : RowOK many T r) (pg : ∀ k, k < many → PGk P many k) (hm : many ≤ 60) (hj : 414 ≤ j) : ∀ i : Nat, T + i < 1000000 → stpN P many i r j = r j
  | 0, _ => rfl
  | i + 1, h => by
    show stp P many (stpN P many i r) j = _
    rw [stp_hi (stpN_ok ok pg hm i (by omega)) pg hm hj, stpN_hi ok pg hm hj i (by omega)]
theorem Zt_stpN {T : Int} {i : Nat} (ok : RowOK many T r) (pg : ∀ k, k < many → PGk P many k) (hm : many ≤ 60) (hz : Zt r) (h : T + i < 1000000) : Zt (stpN P many i r) := fun j hj => by rw [stpN_hi ok pg hm hj i h]; exact hz j hj
theorem w_copyTo {a b : Nat} (hm : Mo c m) (a0 : 0 < a) (a1 : a < 37) (b0 : 0 < b) (b1 : b < 37) (ka : mK a = 101) (kb : mK b = 101) (hn : mN b = mN a) (hab : a ≠ b) : fX13_copyTo (m + a) (m + b) (MH c m s t) = some (MH c m (va_up s a (fun x => if x < mN a then s b x else s a x)) t) := by
  have l := mN_lt a1
  unfold fX13_copyTo
  have key := lp_up (z := fun _ _ _ _ => none) (S := fX13_copyTo_2) (β := Hp) (fun k (i : Nat) => k (m + a) (m + b) (jI (i : Int)) (MH c m (va_up s a (fun x => if x < i then s b x else s a x)) t)) (E := some (MH c m (va_up s a (fun x => if x < mN a then s b x else s a x)) t)) (M := mN a) ?_ ?_ FU 0 (by omega) (FU_lt (by omega))
  · rw [show (fun x => if x < 0 then s b x else s a x) = s a from up_0 (s b) (s a), up_id] at key
    exact key
  · intro i hi kk
    unfold fX13_copyTo_2
    (rw [m_aN hm a0 a1 ka, o_ob, if_neg (by first | ((simp (disch := omega) only [jI_lit, jI_neg, jI_add, jI_sub, jI_mul, jI_lt, jI_le, jI_eq, jL_lit, jL_lt, jL_le, jL_eq]) <;> omega) | omega), m_aI hm b0 b1 kb (by omega) (by omega), o_ob, m_qI hm a0 a1 ka (by omega) (by omega), o_ob, o_lt]; (try rw [va_up_self]); (try rw [upup]); (try rw [va_up_ne _ _ (Ne.symm hab)]); (try rw [show ((i : Int)).toNat = i by omega]); rw [up_lt (s b) (s a) i]; (try rw [show (1 : Int32) = jI 1 from rfl]); (try rw [jI_add]))
    rfl
  · intro kk
    unfold fX13_copyTo_2
    rw [m_aN hm a0 a1 ka, o_ob, if_pos (by first | ((simp (disch := omega) only [jI_lit, jI_neg, jI_add, jI_sub, jI_mul, jI_lt, jI_le, jI_eq, jL_lit, jL_lt, jL_le, jL_eq]) <;> omega) | omega)]
/-- between two arrays that aren't the row -/
theorem s_cp {a b : Nat} (hm : Mo c m) (a0 : 0 < a) (a1 : a < 37) (b0 : 0 < b) (b1 : b < 37) (ka : mK a = 101) (kb : mK b = 101) (hn : mN b = mN a) (hab : a ≠ b) (a3 : a ≠ 3) (b3 : b ≠ 3) : fX13_copyTo (m + a) (m + b) (MS c m f r s t) = some (MS c m f r (va_up s a (fun x => if x < mN a then s b x else s a x)) t) := by
  unfold MS
  rw [w_copyTo hm a0 a1 b0 b1 ka kb hn hab, msj (by omega) b3, msj (by omega) a3, muj (by omega) a3]
theorem s_cpF {a : Nat} (hm : Mo c m) (a0 : 0 < a) (a1 : a < 37) (ka : mK a = 101) (hn : mN a = 414) (a3 : a ≠ 3) : fX13_copyTo (m + a) (m + 3) (MS c m f r s t) = some (MS c m f r (va_up s a (fun x => if x < 414 then r x else s a x)) t) := by
  unfold MS
  (rw [w_copyTo (b := 3) hm a0 a1 (by omega) (by omega) ka rfl hn.symm a3]; (try rw [ms3]); rw [msj (by omega) a3, muj (by omega) a3, hn])
theorem s_cpT {b : Nat} (hm : Mo c m) (b0 : 0 < b) (b1 : b < 37) (kb : mK b = 101) (hn : mN b = 414) (b3 : b ≠ 3) : fX13_copyTo (m + 3) (m + b) (MS c m f r s t) = some (MS c m f (fun x => if x < 414 then s b x else r x) s t) := by
  unfold MS
  (rw [w_copyTo (a := 3) hm (by omega) (by omega) b0 b1 rfl kb hn (Ne.symm b3)]; (try rw [ms3]); rw [msj (by omega) b3]; (try rw [mu3]))
  rfl
theorem s_remember (hm : Mo c m) : fX13_rememberNow m (MS c m f r s t) = some (MS c m f r (va_up s 26 (fun x => if x < 414 then r x else s 26 x)) t) := by
  unfold fX13_rememberNow
  (rw [s_gd _ hm]; (try rw [s_R61 hm]); rw [o_ob]; (try rw [s_R3 hm]); rw [o_ob, s_cpF hm (by omega) (by omega) rfl rfl (by omega), o_ob])
/-- the row that was remembered comes back -/
theorem s_back {v : Int} {q : Nat → Int} (hm : Mo c m) (hq : ∀ j, j < 414 → s 26 j = q j) (h1 : Zt q) (h2 : Zt r) : fX13_back m (jI v) (MS c m f r s t) = some (jI v, MS c m f q s t) := by
  unfold fX13_back
  (rw [s_gd _ hm]; (try rw [s_R3 hm]); rw [o_ob]; (try rw [s_R61 hm]); rw [o_ob, s_cpT hm (by omega) (by omega) rfl rfl (by omega), o_ob])
  have e : (fun x => if x < 414 then s 26 x else r x) = q := by
    funext x
    by_cases c : x < 414
    · rw [if_pos c]; exact hq x c
    · rw [if_neg c, h1 x (by omega), h2 x (by omega)]
  rw [e]
theorem s_refuse {w : Nat} (hm : Mo c m) (hw : w < 3) : fX13_refuse m (jI (w : Int)) (MS c m f r s t) = some (jI (-1), MS c m f r (va_up s 4 (va_up (s 4) w (s 4 w + 1))) t) := by
  unfold fX13_refuse
  (rw [s_gd _ hm]; (try rw [s_R4 hm]); rw [o_ob, s_a4 hm (by omega) (by omega), o_ob]; (try rw [show (1 : Int32) = jI 1 from rfl]); (try rw [jI_add]); rw [s_q4 hm (by omega) (by omega), o_ob]; (try rw [show ((w : Int)).toNat = w by omega]))
  rfl
theorem s_keep56 {K : Nat} {pt : Nat → Int} (hm : Mo c m) (h58 : f 58 = (K : Int)) (hK : K ≤ 39) : lp (fun _ _ _ => none) fX13_keep_56 FU m 0 (MS c m f r (va_up s 25 pt) t) = some (MS c m (va_up f 58 ((K : Int) + 1)) r (va_up s 25 (fun y => if 414 * K ≤ y ∧ y < 414 * K + 414 then r (y - 414 * K) else pt y)) t) := by
  have key := lp_up (z := fun _ _ _ => none) (S := fX13_keep_56) (β := Hp) (fun k (i : Nat) => k m (jI (i : Int)) (MS c m f r (va_up s 25 (fun y => if 414 * K ≤ y ∧ y < 414 * K + i then r (y - 414 * K) else pt y)) t)) (E := some (MS c m (va_up f 58 ((K : Int) + 1)) r (va_up s 25 (fun y => if 414 * K ≤ y ∧ y < 414 * K + 414 then r (y - 414 * K) else pt y)) t)) (M := 414) ?_ ?_ FU 0 (by omega) (FU_lt (by omega))
  · rw [show (fun y => if 414 * K ≤ y ∧ y < 414 * K + 0 then r (y - 414 * K) else pt y) = pt by funext y; rw [if_neg (by omega)]] at key
    exact key
  · intro i hi kk
    unfold fX13_keep_56
    (rw [if_neg (by first | ((simp (disch := omega) only [jI_lit, jI_neg, jI_add, jI_sub, jI_mul, jI_lt, jI_le, jI_eq, jL_lit, jL_lt, jL_le, jL_eq]) <;> omega) | omega)]; (try rw [s_R60 hm]); rw [o_ob]; (try rw [s_gI hm]); rw [o_ob]; (try rw [h58]); (try rw [s_R3 hm]); rw [o_ob, s_a3 hm (by omega) (by omega), o_ob]; (try rw [show (414 : Int32) = jI 414 from rfl]); (try rw [jI_mul]); (try rw [jI_add]); rw [s_q25 hm (by omega) (by omega), o_ob, o_lt]; (try rw [va_up_self]); (try rw [upup]); (try rw [show ((i : Int)).toNat = i by omega]); (try rw [show (414 * (K : Int) + (i : Int)).toNat = 414 * K + i by omega]); (try rw [show (1 : Int32) = jI 1 from rfl]); (try rw [jI_add]))
    have e : va_up (fun y => if 414 * K ≤ y ∧ y < 414 * K + i then r (y - 414 * K) else pt y) (414 * K + i) (r i) = fun y => if 414 * K ≤ y ∧ y < 414 * K + (i + 1) then r (y - 414 * K) else pt y := by
      funext y
      by_cases q : y = 414 * K + i
      · (rw [q]; (try rw [va_up_self]); rw [if_pos (by omega)]; (try rw [show 414 * K + i - 414 * K = i by omega]))
      · rw [va_up_ne _ _ q]
        by_cases q2 : 414 * K ≤ y ∧ y < 414 * K + i
        · rw [if_pos q2, if_pos (by omega)]
        · rw [if_neg q2, if_neg (by omega)]
    rw [e]
    rfl
  · intro kk
    unfold fX13_keep_56
    (rw [if_pos (by first | ((simp (disch := omega) only [jI_lit, jI_neg, jI_add, jI_sub, jI_mul, jI_lt, jI_le, jI_eq, jL_lit, jL_lt, jL_le, jL_eq]) <;> omega) | omega)]; (try rw [s_gI hm]); rw [o_ob]; (try rw [h58]); (try rw [show (1 : Int32) = jI 1 from rfl]); (try rw [jI_add]); rw [s_pI hm, o_ob])
theorem s_keep (h : RF c m f r s many P k A mm nt cr n tp fp im) : ∃ f' s', fX13_keep m (MS c m f r s t) = some (MS c m f' r s' t) ∧ RF c m f' r s' many P (actK k) (actA A k r) mm nt cr n tp fp im ∧ f' 2 = f 2 := by
  obtain ⟨hm, hp, ok, zt, ⟨a1, a2, a3⟩, hn, h4, ht, h25, hi⟩ := h
  -- what is held behind it
  have fin : ∀ (g : Nat → Int) (pt : Nat → Int), (∀ j, j ≠ 58 → g j = f j) → g 58 = (actK k : Int) → (∀ i, i < actK k → ∀ j, j < 414 → pt (414 * i + j) = actA A k r i j) → RF c m g r (va_up s 25 pt) many P (actK k) (actA A k r) mm nt cr n tp fp im := by
    intro g pt hg h58 hpt
    have e : ∀ j, j ≠ 25 → (va_up s 25 pt) j = s j := fun j hj => va_up_ne _ _ hj
    refine ⟨hm, ?_, ok, zt, ⟨h58, by unfold actK; split <;> omega, fun i hi => ⟨fun j hj => by rw [va_up_self]; exact hpt i hi j hj, ?_⟩⟩, ?_, fun j hj => by rw [e 4 (by omega)]; exact h4 j hj, ?_, (hg 25 (by omega)).trans h25, ?_⟩
    · obtain ⟨p1, p2, p3, p4⟩ := hp
      refine ⟨(hg 13 (by omega)).trans p1, p2, fun k hk => ?_, fun j hj => by rw [e 12 (by omega)]; exact p4 j hj⟩
      rw [e 5 (by omega), e 6 (by omega), e 7 (by omega), e 8 (by omega), e 9 (by omega), e 10 (by omega), e 11 (by omega)]
      exact p3 k hk
    · unfold actK at hi
      unfold actA ext
      by_cases q : k = 40
      · rw [if_pos q] at hi ⊢
        by_cases q2 : i = 39
        · rw [if_pos q2]; exact ⟨ok, zt⟩
        · rw [if_neg q2]
          exact (a3 (i + 1) (by omega)).2
      · rw [if_neg q] at hi ⊢
        by_cases q2 : i = k
        · rw [if_pos q2]; exact ⟨ok, zt⟩
        · rw [if_neg q2]
          exact (a3 i (by omega)).2
    · obtain ⟨b1, b2', b3⟩ := hn
      refine ⟨(hg 59 (by omega)).trans b1, b2', fun i hi => ?_⟩
      rw [e 28 (by omega), e 29 (by omega), e 30 (by omega)]; exact b3 i hi
    · obtain ⟨d1, d2, d3⟩ := ht
      exact ⟨(hg 16 (by omega)).trans d1, d2, fun j hj => by rw [e 13 (by omega)]; exact d3 j hj⟩
    · obtain ⟨i1, i2⟩ := hi
      refine ⟨(hg 67 (by omega)).trans i1, fun r' k' A' m' nt' cr' q => ?_⟩
      have x := i2 r' k' A' m' nt' cr' q
      rw [hg 68 (by omega), hg 69 (by omega), e 31 (by omega), e 32 (by omega), e 33 (by omega), e 34 (by omega), e 35 (by omega), e 36 (by omega)]
      exact x
  unfold fX13_keep
  (rw [s_gd _ hm]; (try rw [s_gI hm]); rw [o_ob]; (try rw [a1]))
  by_cases q : k = 40
  · rw [if_pos (by rw [q]; rfl)]
    have key := lp_up (z := fun _ _ _ => none) (S := fX13_keep_13 (lp (fun _ _ _ => none) fX13_keep_56 FU)) (β := Hp) (fun kk (i : Nat) => kk m (jI (414 + (i : Int))) (MS c m f r (va_up s 25 (fun y => if y < i then s 25 (y + 414) else s 25 y)) t)) (E := lp (fun _ _ _ => none) fX13_keep_56 FU m 0 (MS c m (va_up f 58 ((39 : Nat) : Int)) r (va_up s 25 (fun y => if y < 16146 then s 25 (y + 414) else s 25 y)) t)) (M := 16146) ?_ ?_ FU 0 (by omega) (FU_lt (by omega))
    · rw [show (fun y => if y < 0 then s 25 (y + 414) else s 25 y) = s 25 from up_0 (fun y => s 25 (y + 414)) (s 25), up_id] at key
      have key : lp (fun _ _ _ => none) (fX13_keep_13 (lp (fun _ _ _ => none) fX13_keep_56 FU)) FU m 414 (MS c m f r s t) = _ := key
      (rw [key, s_keep56 (K := 39) hm (va_up_self _ _ _) (by omega)]; (try rw [upup]))
      refine ⟨_, _, rfl, fin _ _ (fun j hj => va_up_ne _ _ hj) (by rw [va_up_self]; unfold actK; rw [if_pos q]; rfl) (fun i hi j hj => ?_), va_up_ne _ _ (by omega)⟩
      unfold actK at hi
      rw [if_pos q] at hi
      unfold actA ext
      rw [if_pos q]
      by_cases q2 : i = 39
      · (rw [if_pos q2, if_pos (by omega)]; (try rw [q2]); (try rw [show 414 * 39 + j - 414 * 39 = j by omega]))
      · (rw [if_neg q2, if_neg (by omega), if_pos (by omega)]; (try rw [show 414 * i + j + 414 = 414 * (i + 1) + j by omega]))
        exact (a3 (i + 1) (by omega)).1 j hj
    · intro i hi kk
      unfold fX13_keep_13
      ((try rw [s_R60 hm]); rw [o_ob, s_aN hm (by omega) (by omega) rfl, o_ob]; (try rw [show ((mN 25 : Nat) : Int) = 16560 from rfl]); rw [if_neg (by first | ((simp (disch := omega) only [jI_lit, jI_neg, jI_add, jI_sub, jI_mul, jI_lt, jI_le, jI_eq, jL_lit, jL_lt, jL_le, jL_eq]) <;> omega) | omega)]; (try rw [s_R60 hm]); rw [o_ob]; (try rw [s_R60 hm]); rw [o_ob, s_a25 hm (by omega) (by omega), o_ob]; (try rw [show (414 : Int32) = jI 414 from rfl]); (try rw [jI_sub]); rw [s_q25 hm (by omega) (by omega), o_ob, o_lt]; (try rw [va_up_self]); (try rw [upup]); (try rw [show (414 + (i : Int) - 414).toNat = i by omega]); (try rw [show (414 + (i : Int)).toNat = i + 414 by omega]); rw [if_neg (by omega), up_lt (fun y => s 25 (y + 414)) (s 25) i]; (try rw [show (1 : Int32) = jI 1 from rfl]); (try rw [jI_add]); (try rw [show 414 + (i : Int) + 1 = 414 + ((i + 1 : Nat) : Int) by omega]))
    · intro kk
      unfold fX13_keep_13
      ((try rw [s_R60 hm]); rw [o_ob, s_aN hm (by omega) (by omega) rfl, o_ob]; (try rw [show ((mN 25 : Nat) : Int) = 16560 from rfl]); rw [if_pos (by first | ((simp (disch := omega) only [jI_lit, jI_neg, jI_add, jI_sub, jI_mul, jI_lt, jI_le, jI_eq, jL_lit, jL_lt, jL_le, jL_eq]) <;> omega) | omega)]; (try rw [s_gI hm]); rw [o_ob]; (try rw [a1]); rw [q]; (try rw [show (1 : Int32) = jI 1 from rfl]); (try rw [jI_sub]); rw [s_pI hm, o_ob])
      rfl
  · rw [if_neg (by first | ((simp (disch := omega) only [jI_lit, jI_neg, jI_add, jI_sub, jI_mul, jI_lt, jI_le, jI_eq, jL_lit, jL_lt, jL_le, jL_eq]) <;> omega) | omega)]
    have e := s_keep56 (c := c) (m := m) (f := f) (r := r) (s := s) (t := t) (K := k) (pt := s 25) hm a1 (by omega)
    rw [up_id] at e
    rw [e]
    refine ⟨_, _, rfl, fin _ _ (fun j hj => va_up_ne _ _ hj) (by rw [va_up_self]; unfold actK; rw [if_neg q]; rfl) (fun i hi j hj => ?_), va_up_ne _ _ (by omega)⟩
    unfold actK at hi
    rw [if_neg q] at hi
    unfold actA ext
    rw [if_neg q]
    by_cases q2 : i = k
    · (rw [if_pos q2, if_pos (by omega)]; (try rw [q2]); (try rw [show 414 * k + j - 414 * k = j by omega]))
    · rw [if_neg q2, if_neg (by omega)]
      exact (a3 i (by omega)).1 j hj
theorem s_beginNow {P : PG} {many : Nat} (hm : Mo c m) (hp : Pr f s P many) : fX13_beginNow m (MS c m f r s t) = some (MS c m f (bgn P many r) s t) := by
  obtain ⟨e13, h60, -, h7⟩ := hp
  unfold fX13_beginNow
  rw [s_gd _ hm]
  have key := lp_up (z := fun _ _ _ => none) (S := fX13_beginNow_2) (β := Hp) (fun k (i : Nat) => k m (jI (i : Int)) (MS c m f (fun y => if y < i then (if y < 256 then P 7 y else 0) else r y) s t)) (E := some (MS c m f (bgn P many r) s t)) (M := 277) ?_ ?_ FU 0 (by omega) (FU_lt (by omega))
  · rw [show (fun y => if y < 0 then (if y < 256 then P 7 y else 0) else r y) = r from up_0 (fun y => if y < 256 then P 7 y else 0) r] at key
    exact key
  · intro i hi kk
    unfold fX13_beginNow_2 fX13_beginNow_31
    (rw [if_neg (by first | ((simp (disch := omega) only [jI_lit, jI_neg, jI_add, jI_sub, jI_mul, jI_lt, jI_le, jI_eq, jL_lit, jL_lt, jL_le, jL_eq]) <;> omega) | omega)]; (try rw [s_R3 hm]); rw [o_ob])
    by_cases q : i < 256
    · have e := up_lt (fun y => if y < 256 then P 7 y else 0) r i
      rw [if_pos q] at e
      (rw [if_neg (by first | ((simp (disch := omega) only [jI_lit, jI_neg, jI_add, jI_sub, jI_mul, jI_lt, jI_le, jI_eq, jL_lit, jL_lt, jL_le, jL_eq]) <;> omega) | omega)]; (try rw [s_R12 hm]); rw [o_ob, s_a12 hm (by omega) (by omega), o_ob]; (try rw [show ((i : Int)).toNat = i by omega]); rw [(h7 i q).1, s_q3 hm (by omega) (by omega), o_ob, o_lt]; (try rw [show ((i : Int)).toNat = i by omega]); (try rw [show (1 : Int32) = jI 1 from rfl]); (try rw [jI_add]); rw [e])
      rfl
    · have e := up_lt (fun y => if y < 256 then P 7 y else 0) r i
      rw [if_neg q] at e
      (rw [if_pos (by first | ((simp (disch := omega) only [jI_lit, jI_neg, jI_add, jI_sub, jI_mul, jI_lt, jI_le, jI_eq, jL_lit, jL_lt, jL_le, jL_eq]) <;> omega) | omega)]; (try rw [show (0 : Int32) = jI 0 from rfl]); rw [s_q3 hm (by omega) (by omega), o_ob, o_lt]; (try rw [show ((i : Int)).toNat = i by omega]); (try rw [show (1 : Int32) = jI 1 from rfl]); (try rw [jI_add]); rw [e])
      rfl
  · intro kk
    unfold fX13_beginNow_2
    (rw [if_pos (by first | ((simp (disch := omega) only [jI_lit, jI_neg, jI_add, jI_sub, jI_mul, jI_lt, jI_le, jI_eq, jL_lit, jL_lt, jL_le, jL_eq]) <;> omega) | omega)]; (try rw [s_R3 hm]); rw [o_ob]; (try rw [show (266 : Int32) = jI 266 from rfl]); (try rw [show (-1 : Int32) = jI (-1) from rfl]); rw [s_q3 hm (by omega) (by omega), o_ob]; (try rw [show (266 : Int).toNat = 266 from rfl]))
    obtain ⟨u, hu⟩ : ∃ u, u = va_up (fun y => if y < 277 then (if y < 256 then P 7 y else 0) else r y) 266 (-1) := ⟨_, rfl⟩
    rw [← hu]
    have key2 := lp_up (z := fun _ _ _ => none) (S := fX13_beginNow_49) (β := Hp) (fun k (i : Nat) => k m (jI (i : Int)) (MS c m f (fun y => if 267 ≤ y ∧ y < 267 + i then -1 else u y) s t)) (E := some (MS c m f (bgn P many r) s t)) (M := 9) ?_ ?_ FU 0 (by omega) (FU_lt (by omega))
    · rw [show (fun y => if 267 ≤ y ∧ y < 267 + 0 then (-1 : Int) else u y) = u by funext y; rw [if_neg (by omega)]] at key2
      exact key2
    · intro i hi kk
      unfold fX13_beginNow_49
      (rw [if_neg (by first | ((simp (disch := omega) only [jI_lit, jI_neg, jI_add, jI_sub, jI_mul, jI_lt, jI_le, jI_eq, jL_lit, jL_lt, jL_le, jL_eq]) <;> omega) | omega)]; (try rw [s_R3 hm]); rw [o_ob]; (try rw [show (267 : Int32) = jI 267 from rfl]); (try rw [jI_add]); (try rw [show (-1 : Int32) = jI (-1) from rfl]); rw [s_q3 hm (by omega) (by omega), o_ob, o_lt]; (try rw [show (1 : Int32) = jI 1 from rfl]); (try rw [jI_add]); (try rw [show (267 + (i : Int)).toNat = 267 + i by omega]))
      have e : va_up (fun y => if 267 ≤ y ∧ y < 267 + i then (-1 : Int) else u y) (267 + i) (-1) = fun y => if 267 ≤ y ∧ y < 267 + (i + 1) then (-1 : Int) else u y := by
        funext y
        by_cases q : y = 267 + i
        · (rw [q]; (try rw [va_up_self]); rw [if_pos (by omega)])
        · rw [va_up_ne _ _ q]
          by_cases q2 : 267 ≤ y ∧ y < 267 + i
          · rw [if_pos q2, if_pos (by omega)]
          · rw [if_neg q2, if_neg (by omega)]
      rw [e]
      rfl
    · intro kk
      have fin : ∀ z : Int, z = (if many = 0 then 1 else 0) → va_up (fun y => if 267 ≤ y ∧ y < 267 + 9 then (-1 : Int) else u y) 276 z = bgn P many r := by
        intro z hz
        funext y
        unfold bgn
        by_cases q : y = 276
        · (rw [q]; (try rw [va_up_self]); rw [if_neg (by omega), if_neg (by omega), if_neg (by omega), if_pos rfl, hz])
        · rw [va_up_ne _ _ q]
          by_cases q2 : 267 ≤ y ∧ y < 267 + 9
          · rw [if_pos q2, if_neg (by omega), if_neg (by omega), if_pos (by omega)]
          · rw [if_neg q2, hu]
            by_cases q3 : y = 266
            · ((try rw [q3]); (try rw [va_up_self]); rw [if_neg (by omega), if_neg (by omega), if_pos (by omega)])
            · rw [va_up_ne _ _ q3]
              by_cases q4 : y < 256
              · rw [if_pos q4, if_pos (by omega), if_pos q4]
              · rw [if_neg (show ¬ y < 256 from q4)]
                by_cases q5 : y < 266
                · rw [if_pos q5, if_pos (show y < 277 by omega)]
                  rw [if_neg q4]
                · rw [if_neg q5, if_neg (show ¬ y < 277 by omega), if_neg (show ¬ y < 276 by omega), if_neg q, if_neg q4]
      unfold fX13_beginNow_49 fX13_beginNow_91
      (rw [if_pos (by first | ((simp (disch := omega) only [jI_lit, jI_neg, jI_add, jI_sub, jI_mul, jI_lt, jI_le, jI_eq, jL_lit, jL_lt, jL_le, jL_eq]) <;> omega) | omega)]; (try rw [s_R3 hm]); rw [o_ob]; (try rw [s_gI hm]); rw [o_ob]; (try rw [e13]))
      by_cases q : many = 0
      · (rw [if_pos (by rw [q]; rfl)]; (try rw [show (1 : Int32) = jI 1 from rfl]); (try rw [show (276 : Int32) = jI 276 from rfl]); rw [s_q3 hm (by omega) (by omega), o_ob]; (try rw [show (276 : Int).toNat = 276 from rfl]); rw [fin 1 (by rw [if_pos q])])
      · (rw [if_neg (by first | ((simp (disch := omega) only [jI_lit, jI_neg, jI_add, jI_sub, jI_mul, jI_lt, jI_le, jI_eq, jL_lit, jL_lt, jL_le, jL_eq]) <;> omega) | omega)]; (try rw [show (0 : Int32) = jI 0 from rfl]); (try rw [show (276 : Int32) = jI 276 from rfl]); rw [s_q3 hm (by omega) (by omega), o_ob]; (try rw [show (276 : Int).toNat = 276 from rfl]); rw [fin 0 (by rw [if_neg q])])
end RAC
