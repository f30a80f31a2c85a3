section RAQ
variable {c : MC} {m : Nat} {f r : Nat → Int} {s t : SI2} {many k mm n : Nat} {P : PG} {A : Nat → Nat → Int} {nt cr tp : Nat → Int} {fp : Int} {im : Option DS}
theorem s_findSource {C V : Nat → Int} {p q n : Nat} (hm : Mo c m) (hr : Byt r) (hC : C = fun j => r (p + j)) (hV : V = fun j => r (q + j)) (hp : p + n ≤ 256) (hq : q + n ≤ 256) (hn : n ≤ 32) (hn0 : 1 ≤ n) (h54 : f 54 = r p) (h53 : f 53 = lstD C n) (hw : WT C V n 0 t) (tot : ¬ (wy C V n n false false = 0 ∧ wy C V n n false true = 0)) : ∃ f' s', fX13_findSource m (jI (p : Int)) (jI (n : Int)) (jI (q : Int)) (MS c m f r s t) = some (MS c m f' r s' t) ∧ (∀ j, j ≠ 56 → j ≠ 57 → f' j = f j) ∧ (∀ j, j ≠ 24 → s' j = s j) ∧ f' 56 = (((fsO C V n n).2.2 : Nat) : Int) ∧ (∀ j, j < n → isD (C j) = true → s' 24 (fsO C V n j).2.2 = ((fdg C V n j (fsO C V n j).1 (fsO C V n j).2.1 : Nat) : Int)) ∧ f' 57 = if (fsO C V n n).1.isSome = true then 0 else 1 := by
  have lr := lstD_r C n
  unfold fX13_findSource
  (rw [s_gd _ hm]; (try rw [show (0 : Int32) = jI 0 from rfl]); rw [s_pI hm, o_ob, s_pI hm, o_ob])
  obtain ⟨g, hg⟩ : ∃ g, g = va_up (va_up f 56 0) 57 0 := ⟨_, rfl⟩
  have g56 : g 56 = 0 := by (rw [hg]; (try rw [va_up_ne _ _ (by omega)]); (try rw [va_up_self]))
  have g57 : g 57 = 0 := by rw [hg, va_up_self]
  have gn : ∀ j, j ≠ 56 → j ≠ 57 → g j = f j := fun j a b => by (rw [hg]; (try rw [va_up_ne _ _ b]); (try rw [va_up_ne _ _ a]))
  rw [← hg]
  have key := lp_sr (z := fun _ _ _ _ _ _ _ => none) (S := fX13_findSource_16) (β := Hp) (ev := fun kk (i : Nat) (x : Bool × (Nat → Int) × SI2) => kk m (jI (p : Int)) (jI (n : Int)) (jI (q : Int)) (jI (b2 x.1)) (jI (i : Int)) (MS c m x.2.1 r x.2.2 t)) (hi := n) (Inv := fun i x => FS C V n i f s x) (Post := fun o => ∃ f' s', o = some (MS c m f' r s' t) ∧ (∀ j, j ≠ 56 → j ≠ 57 → f' j = f j) ∧ (∀ j, j ≠ 24 → s' j = s j) ∧ f' 56 = (((fsO C V n n).2.2 : Nat) : Int) ∧ (∀ j, j < n → isD (C j) = true → s' 24 (fsO C V n j).2.2 = ((fdg C V n j (fsO C V n j).1 (fsO C V n j).2.1 : Nat) : Int)) ∧ f' 57 = if (fsO C V n n).1.isSome = true then 0 else 1) ?_ ?_ FU 0 (false, g, s) (by omega) (FU_lt (by omega)) ?_
  · exact key
  · intro i x hi hx kk
    right
    have bC := hr (p + i) (by omega)
    have eC : r (p + i) = C i := by rw [hC]
    show ∃ y : Bool × (Nat → Int) × SI2, FS C V n (i + 1) f s y ∧ fX13_findSource_16 kk m (jI (p : Int)) (jI (n : Int)) (jI (q : Int)) (jI (b2 x.1)) (jI (i : Int)) (MS c m x.2.1 r x.2.2 t) = kk m (jI (p : Int)) (jI (n : Int)) (jI (q : Int)) (jI (b2 y.1)) (jI ((i + 1 : Nat) : Int)) (MS c m y.2.1 r y.2.2 t)
    have ei : jI (i : Int) + 1 = jI ((i + 1 : Nat) : Int) := by rw [show (1 : Int32) = jI 1 from rfl, jI_add]; rfl
    unfold fX13_findSource_16
    (rw [if_neg (by first | ((simp (disch := omega) only [jI_lit, jI_neg, jI_add, jI_sub, jI_mul, jI_lt, jI_le, jI_eq, jL_lit, jL_lt, jL_le, jL_eq]) <;> omega) | omega)]; (try rw [s_R3 hm]); rw [o_ob]; (try rw [jI_add]); rw [s_a3 hm (by omega) (by omega), o_ob]; (try rw [show ((p : Int) + (i : Int)).toNat = p + i by omega]); rw [eC])
    rw [eC] at bC
    by_cases hD : isD (C i) = true
    · obtain ⟨y, hy, ey⟩ := s_dig (x := x) kk hm hr hC hV hp hq hn hi h54 h53 hw hD hx
      refine ⟨y, hy, ?_⟩
      rcases isD_iff.1 hD with e | e
      · rw [if_pos (by rw [e]; rfl)]; exact ey
      · rw [if_neg (by rw [e]; decide), if_pos (by rw [e]; rfl)]; exact ey
    · have n2 : ¬ (C i = 32 ∨ C i = 33) := fun e => hD (isD_iff.2 e)
      obtain ⟨is, F, S⟩ := x
      obtain ⟨x1, x2, x3, x4, x5, x6⟩ := hx
      have x3 : F 56 = (((fsO C V n i).2.2 : Nat) : Int) := x3
      have eT : (fsO C V n (i + 1)).2.2 = (fsO C V n i).2.2 := by show (if isD (C i) then (fsO C V n i).2.2 + 1 else (fsO C V n i).2.2) = _; rw [if_neg hD]
      have nl : (i : Int) ≠ lstD C n := fun e => hD (by
        have := lstD_D (C := C) (n := n) (by omega)
        rw [← e] at this
        exact this)
      have nx : FS C V n (i + 1) f s (decide (C i ≠ 34) && is, F, S) := by
        refine ⟨x1, x2, by show F 56 = _; rw [eT]; exact x3, fun j hj hjD => ?_, fun hl => SA_n hi hD (x5 (by omega)), fun hl => ?_⟩
        · have : j ≠ i := fun e => hD (e ▸ hjD)
          exact x4 j (by omega) hjD
        · rw [fsO_keep hi hD]
          exact x6 (by omega)
      refine ⟨_, nx, ?_⟩
      rw [if_neg (by rw [show (32 : Int32) = jI 32 from rfl, jI_eq (by omega) (by omega) (by omega) (by omega)]; omega), if_neg (by rw [show (33 : Int32) = jI 33 from rfl, jI_eq (by omega) (by omega) (by omega) (by omega)]; omega)]
      by_cases g4 : C i = 34
      · have e4 : (decide (C i ≠ 34) && is) = false := by simp [g4]
        (rw [if_pos (by rw [g4]; rfl), o_lt, ei]; (try rw [e4]))
        rfl
      · have e4 : (decide (C i ≠ 34) && is) = is := by simp [g4]
        rw [if_neg (by rw [show (34 : Int32) = jI 34 from rfl, jI_eq (by omega) (by omega) (by omega) (by omega)]; exact g4), e4]
        cases is with
        | false => rw [if_pos (by rfl), o_lt, ei]; rfl
        | true => rw [if_neg (show ¬ jI (b2 true) = 0 by decide), o_lt, ei]; rfl
  · intro x hx kk
    obtain ⟨is, F, S⟩ := x
    obtain ⟨x1, x2, x3, x4, x5, x6⟩ := hx
    refine ⟨F, S, ?_, x1, x2, x3, x4, x6 (by omega)⟩
    show fX13_findSource_16 kk m (jI (p : Int)) (jI (n : Int)) (jI (q : Int)) (jI (b2 is)) (jI (n : Int)) (MS c m F r S t) = _
    unfold fX13_findSource_16
    rw [if_pos (by first | ((simp (disch := omega) only [jI_lit, jI_neg, jI_add, jI_sub, jI_mul, jI_lt, jI_le, jI_eq, jL_lit, jL_lt, jL_le, jL_eq]) <;> omega) | omega)]
  · refine ⟨gn, fun _ _ => rfl, g56, fun j hj => by omega, fun _ => ⟨?_, ?_, ?_⟩, fun hl => ?_⟩
    · show (if 0 < wy C V n n false false then some (false, false) else none) = oS (wy C V n n false false) false false
      unfold oS
      by_cases z : wy C V n n false false = 0
      · rw [if_neg (by omega), if_pos z]
      · rw [if_pos (by omega), if_neg z]
    · show (if 0 < wy C V n n false true then some (false, true) else none) = oS (wy C V n n false true) false true
      unfold oS
      by_cases z : wy C V n n false true = 0
      · rw [if_neg (by omega), if_pos z]
      · rw [if_pos (by omega), if_neg z]
    · exact tot
    · have e := wy_be (V := V) (show lstD C n = -1 by omega) n false
      show g 57 = if (if 0 < wy C V n n false false then some (false, false) else (none : OB)).isSome = true then 0 else 1
      rw [g57, if_pos (show 0 < wy C V n n false false from Nat.pos_of_ne_zero fun z => tot ⟨z, by rw [← e]; exact z⟩)]
      rfl
theorem z_Unedited {p l q wt : Int} (h : RF c m f r s many P k A mm nt cr n tp fp im) (p1 : -2147483648 ≤ p) (p2 : p < 2147483648) (l1 : -2147483648 ≤ l) (l2 : l < 2147483648) (q1 : -2147483648 ≤ q) (q2 : q < 2147483648) (w1 : -2147483648 ≤ wt) (w2 : wt < 2147483648) : Rk c m f r s (fX13_unedited m (jI p) (jI l) (jI q) (jI wt) (MS c m f r s t)) (if 1 ≤ l ∧ l ≤ 32 ∧ 0 ≤ p ∧ p + l ≤ 256 then (if 1 ≤ l ∧ l ≤ 32 ∧ 0 ≤ q ∧ q + l ≤ 256 then unQ r p.toNat l.toNat q.toNat wt else .inl 2) else .inl 2) := by
  have hm := h.1
  have hr := h.2.2.1.1
  have fl : Rk c m f r s (fX13_unedited_24 m (MS c m (va_up f 2 0) r s t)) (.inl 2) := by
    unfold fX13_unedited_24
    exact Rk_flL (k := 2) hm Kf_2 (Ks_rf s)
  unfold fX13_unedited
  (rw [s_gd _ hm]; (try rw [show (0 : Int32) = jI 0 from rfl]); rw [s_pI hm, o_ob]; (try rw [show (32 : Int32) = jI 32 from rfl]); rw [s_isField (mx := 32) hm p1 p2 l1 l2 (by omega) (by omega), o_ob])
  by_cases c1 : 1 ≤ l ∧ l ≤ 32 ∧ 0 ≤ p ∧ p + l ≤ 256
  rotate_left
  · rw [if_neg c1, if_neg c1, if_pos (by decide)]
    exact fl
  rw [if_pos c1, if_pos c1, if_neg (by decide), w_there q1 q2 (by omega) (by omega), o_ob]
  by_cases c2 : 1 ≤ l ∧ l ≤ 32 ∧ 0 ≤ q ∧ q + l ≤ 256
  rotate_left
  · have : ¬ isF q l = true := fun z => by unfold isF at z; simp at z; omega
    rw [if_neg c2, if_neg this, if_pos (by decide)]
    exact fl
  have c3 : isF q l = true := by unfold isF; simp; omega
  rw [if_pos c2, if_pos c3, if_neg (by decide)]
  obtain ⟨p', rfl⟩ : ∃ p' : Nat, p = p' := ⟨p.toNat, by omega⟩
  obtain ⟨n', rfl⟩ : ∃ n' : Nat, l = n' := ⟨l.toNat, by omega⟩
  obtain ⟨q', rfl⟩ : ∃ q' : Nat, q = q' := ⟨q.toNat, by omega⟩
  simp only [Int.toNat_natCast]
  obtain ⟨C, hC⟩ : ∃ C : Nat → Int, C = fun j => r (p' + j) := ⟨_, rfl⟩
  obtain ⟨V, hV⟩ : ∃ V : Nat → Int, V = fun j => r (q' + j) := ⟨_, rfl⟩
  obtain ⟨f1, t1, e1, wt1, f54, f53, k1, k2⟩ := s_tellWays (f := va_up f 2 0) (s := s) (t := t) (p := p') (q := q') (n := n') hm hr hC hV (by omega) (by omega) (by omega) (by omega)
  have un : unQ r p' n' q' wt = if wt = -1 then .inr (jL ((wy C V n' n' false false + wy C V n' n' false true : Nat) : Int)) else if wy C V n' n' false false + wy C V n' n' false true = 0 then .inl 1 else if -2 ≤ wt ∧ wt < (cnt (fun k => isD (C k)) n' : Nat) then .inr (jL (fsA C V n' wt)) else .inl 1 := by
    rw [hC, hV]; rfl
  have b1 := wy_le C V n' n' false false
  have b2' := wy_le C V n' n' false true
  have b3 : 2 ^ n' ≤ 2 ^ 32 := Nat.pow_le_pow_right (by omega) (by omega)
  have wz : ∀ be, aL (m + 23) (jI ((wix 0 false be : Nat) : Int)) (MS c m f1 r s t1) = some (jL ((wy C V n' n' false be : Nat) : Int)) := fun be => by
    have l2 := bN_le be
    have e : wix 0 false be = bN be := by unfold wix; show 4 * 0 + 2 * 0 + bN be = bN be; omega
    rw [s_a23 hm (by omega) (by rw [e]; omega), Int.toNat_natCast, wt1 0 (by omega) (by omega)]
    rfl
  have a0 : fX13_wayAt m (jI 0) (jI 0) (jI 0) (MS c m f1 r s t1) = _ := s_wayAt (k := 0) (is := false) (be := false) hm
  have a1 : fX13_wayAt m (jI 0) (jI 0) 1 (MS c m f1 r s t1) = _ := s_wayAt (k := 0) (is := false) (be := true) hm
  have kf : ∀ j, j ≠ 2 → j ≠ 53 → j ≠ 54 → f1 j = f j := fun j a b d => (k1 j b d).trans (va_up_ne _ _ a)
  have f12 : f1 2 = 0 := (k1 2 (by omega) (by omega)).trans (va_up_self _ _ _)
  have kf1 : Kf f f1 := fun j a b d => kf j a (by omega) (by omega)
  ((try rw [e1]); rw [o_ob]; (try rw [s_R52 hm]); rw [o_ob]; (try rw [a0]); rw [o_ob, wz false, o_ob]; (try rw [s_R52 hm]); rw [o_ob]; (try rw [a1]); rw [o_ob, wz true, o_ob, o_lt, jL_add, un])
  obtain ⟨tot, htot⟩ : ∃ tot, tot = wy C V n' n' false false + wy C V n' n' false true := ⟨_, rfl⟩
  rw [show ((wy C V n' n' false false : Nat) : Int) + ((wy C V n' n' false true : Nat) : Int) = (tot : Int) by omega, ← htot]
  by_cases d1 : wt = -1
  · rw [if_pos d1, if_pos (by rw [d1]; rfl)]
    exact Rk_v rfl kf1 (Ks_rf s) f12
  (rw [if_neg d1, if_neg (show ¬ jI wt = -1 by rw [show (-1 : Int32) = jI (-1) from rfl, jI_eq (by omega) (by omega) (by omega) (by omega)]; exact d1)]; (try rw [show (0 : Int64) = jL 0 from rfl]); rw [jL_cmp (by omega) (by omega) (by omega) (by omega)])
  by_cases d2 : tot = 0
  · rw [if_pos d2, if_neg (show ¬ (0 : Int) < (tot : Int) by omega), if_pos (show (tot : Int) = 0 by omega), if_pos (by rfl)]
    exact Rk_flL (k := 1) hm kf1 (Ks_rf s)
  rw [if_neg d2, if_pos (show (0 : Int) < (tot : Int) by omega), if_neg (by decide)]
  obtain ⟨f2, s2, e2, g1, g2, g3, g4, g5⟩ := s_findSource (f := f1) (s := s) (t := t1) hm hr hC hV (show p' + n' ≤ 256 by omega) (show q' + n' ≤ 256 by omega) (by omega) (by omega) f54 f53 wt1 (fun z => d2 (by omega))
  have kf2 : Kf f f2 := fun j a b d => (g1 j (by omega) (by omega)).trans (kf1 j a b d)
  have ks2 : Ks s s2 := fun j _ a _ _ => g2 j a
  have f22 : f2 2 = 0 := (g1 2 (by omega) (by omega)).trans f12
  have eT : (fsO C V n' n').2.2 = cnt (fun k => isD (C k)) n' := fs_cnt n'
  have cl := cnt_le (fun k => isD (C k)) n'
  obtain ⟨T, hT⟩ : ∃ T, T = cnt (fun k => isD (C k)) n' := ⟨_, rfl⟩
  rw [eT, ← hT] at g3
  (rw [e2, o_ob]; (try rw [← hT]))
  rw [← hT] at cl
  by_cases d3 : wt = -2
  · have n0 : fnd (fsq C V n' wt) 0 n' = -1 := fnd_no (fun j _ _ => by
      unfold fsq
      rw [d3]
      have : ((((fsO C V n' j).2.2 : Nat) : Int) == -2) = false := by simp
      rw [this, Bool.and_false])
    (rw [if_pos (by rw [d3]; rfl), if_pos (by omega)]; (try rw [s_gI hm]); rw [o_ob]; (try rw [g5]))
    have ea : fsA C V n' wt = if (fsO C V n' n').1.isSome = true then 0 else 1 := by unfold fsA; rw [if_pos n0]
    rw [ea, jI_long (by split <;> omega) (by split <;> omega)]
    exact Rk_v rfl kf2 ks2 f22
  (rw [if_neg (show ¬ jI wt = -2 by rw [show (-2 : Int32) = jI (-2) from rfl, jI_eq (by omega) (by omega) (by omega) (by omega)]; exact d3)]; (try rw [s_gI hm]); rw [o_ob]; (try rw [g3]); (try rw [show (1 : Int32) = jI 1 from rfl]); (try rw [jI_sub]); rw [jI_long (a := (T : Int) - 1) (by omega) (by omega), w_isInI w1 w2 (by omega) (by omega) (by omega) (by omega), o_ob])
  by_cases d4 : 0 ≤ wt ∧ wt ≤ (T : Int) - 1
  · obtain ⟨i, rfl⟩ : ∃ i : Nat, wt = i := ⟨wt.toNat, by omega⟩
    obtain ⟨k0, y1, y2, y3⟩ := cnt_at (q := fun k => isD (C k)) (n := n') (i := i) (by omega)
    have some1 : fnd (fsq C V n' (i : Int)) 0 n' ≠ -1 := fun e => by
      have := fnd_none e k0 (by omega) (by omega)
      unfold fsq at this
      rw [fs_cnt, y3] at this
      simp at this
      have y2 : isD (C k0) = true := y2
      rw [y2] at this
      exact absurd this (by decide)
    obtain ⟨k', z1, z2, z3, z4, -⟩ := fnd_some some1
    have z4 : (isD (C k') && (((fsO C V n' k').2.2 : Nat) : Int) == (i : Int)) = true := z4
    simp at z4
    have ea : fsA C V n' (i : Int) = ((fdg C V n' k' (fsO C V n' k').1 (fsO C V n' k').2.1 : Nat) : Int) := by
      unfold fsA
      (rw [if_neg some1]; (try rw [z3]); rw [Int.toNat_natCast])
    have g4' := g4 k' (by omega) z4.1
    rw [show (fsO C V n' k').2.2 = i by omega] at g4'
    have fr := fdg_r C V n' k' (fsO C V n' k').1 (fsO C V n' k').2.1
    (rw [if_pos d4, if_neg (by decide), if_pos (by omega)]; (try rw [s_R55 hm]); rw [o_ob, s_a24 hm (by omega) (by omega), o_ob, Int.toNat_natCast, g4', ea, jI_long (by omega) (by omega)])
    exact Rk_v rfl kf2 ks2 f22
  · rw [if_neg d4, if_pos (by decide), if_neg (by omega)]
    exact Rk_flL (k := 1) hm kf2 ks2
end RAQ
