section RSS
variable {c : MC} {m : Nat} {f r : Nat → Int} {s t : SI2}
theorem lp_F4 {τ : Type} (z : τ) (S : τ → τ) : lp z S FU = S (S (S (S (lp z S 1099511627772)))) := by
  rw [lp_FU, lp_s1 z S 1099511627774, lp_s1 z S 1099511627773, lp_s1 z S 1099511627772]
theorem s_keepFault {k : Nat} {ft : FT6} (hm : Mo c m) (hF : FtR f (some ft)) (hh : -1 ≤ ft.2.2.2.2.1 ∧ ft.2.2.2.2.1 < 512) : fX13_keepFault m (jI (k : Int)) (MS c m f r s t) = some (MS c m f (why6 r k ft) s t) := by
  obtain ⟨kd, w, a, n, h, v⟩ := ft
  obtain ⟨e38, e39, e40, e41, e42, e43⟩ := hF
  have hh : -1 ≤ h ∧ h < 512 := hh
  have d2 : jI h / (2 : Int32) = jI (h / 2) ∨ h = -1 := by
    by_cases q : h = -1
    · exact Or.inr q
    · exact Or.inl (id2 (by omega) (by omega))
  have r2 : irm (jI h) (2 : Int32) = jI (h % 2) ∨ h = -1 := by
    by_cases q : h = -1
    · exact Or.inr q
    · exact Or.inl (ir2 (by omega) (by omega))
  unfold fX13_keepFault why6
  (rw [s_gd _ hm]; (try rw [s_R3 hm]); rw [o_ob]; (try rw [show (278 : Int32) = jI 278 from rfl]); rw [s_a3 hm (by omega) (by omega), o_ob]; (try rw [show (1 : Int32) = jI 1 from rfl]); (try rw [jI_add]); rw [s_q3 hm (by omega) (by omega), o_ob]; (try rw [s_R3 hm]); rw [o_ob]; (try rw [s_gI hm]); rw [o_ob]; (try rw [e38]); (try rw [show (280 : Int32) = jI 280 from rfl]); rw [s_q3 hm (by omega) (by omega), o_ob]; (try rw [s_R3 hm]); rw [o_ob]; (try rw [show (281 : Int32) = jI 281 from rfl]); rw [s_q3 hm (by omega) (by omega), o_ob]; (try rw [s_R3 hm]); rw [o_ob]; (try rw [s_R3 hm]); rw [o_ob]; (try rw [show (277 : Int32) = jI 277 from rfl]); rw [s_a3 hm (by omega) (by omega), o_ob]; (try rw [show (282 : Int32) = jI 282 from rfl]); rw [s_q3 hm (by omega) (by omega), o_ob]; (try rw [s_R3 hm]); rw [o_ob]; (try rw [s_gI hm]); rw [o_ob]; (try rw [e39]); (try rw [show (283 : Int32) = jI 283 from rfl]); rw [s_q3 hm (by omega) (by omega), o_ob]; (try rw [s_R3 hm]); rw [o_ob]; (try rw [s_gI hm]); rw [o_ob, e40]; (try rw [show (284 : Int32) = jI 284 from rfl]); rw [s_q3 hm (by omega) (by omega), o_ob]; (try rw [s_R3 hm]); rw [o_ob]; (try rw [s_gI hm]); rw [o_ob]; (try rw [e41]); (try rw [show (285 : Int32) = jI 285 from rfl]); rw [s_q3 hm (by omega) (by omega), o_ob]; (try rw [s_R3 hm]); rw [o_ob]; (try rw [s_gI hm]); rw [o_ob]; (try rw [e42]))
  simp only [tn]
  have e277 : va_up (va_up (va_up r 278 (r 278 + 1)) 280 kd) 281 (k : Int) 277 = r 277 := by simp (disch := omega) only [va_up_ne]
  rw [e277]
  obtain ⟨u, hu⟩ : ∃ u, u = va_up (va_up (va_up (va_up (va_up (va_up (va_up r 278 (r 278 + 1)) 280 kd) 281 (k : Int)) 282 (r 277)) 283 w) 284 a) 285 n := ⟨_, rfl⟩
  rw [← hu]
  unfold fX13_keepFault_105
  by_cases q : h = -1
  · (rw [if_pos (by rw [q]; rfl), if_pos q, if_pos q, if_pos q, if_pos q]; (try rw [show (0 : Int32) = jI 0 from rfl]); (try rw [show (289 : Int32) = jI 289 from rfl]); rw [s_q3 hm (by omega) (by omega), o_ob, lp_F4])
    have st : ∀ kk (i : Nat) (z : Nat → Int), i < 3 → fX13_keepFault_108 kk m (jI (i : Int)) (MS c m f z s t) = kk m (jI ((i + 1 : Nat) : Int)) (MS c m f (va_up z (286 + i) 0) s t) := by
      intro kk i z hi
      unfold fX13_keepFault_108 fX13_keepFault_165
      (rw [if_neg (by first | ((simp (disch := omega) only [jI_lit, jI_neg, jI_add, jI_sub, jI_mul, jI_lt, jI_le, jI_eq, jL_lit, jL_lt, jL_le, jL_eq]) <;> omega) | omega)]; (try rw [s_R3 hm]); rw [o_ob]; (try rw [s_gI hm]); rw [o_ob]; (try rw [e42]); rw [if_pos (by rw [q]; rfl)]; (try rw [show (286 : Int32) = jI 286 from rfl]); (try rw [show (0 : Int32) = jI 0 from rfl]); (try rw [jI_add]); rw [s_q3 hm (by omega) (by omega), o_ob, o_lt]; (try rw [show (1 : Int32) = jI 1 from rfl]); (try rw [jI_add]); (try rw [show (286 + (i : Int)).toNat = 286 + i by omega]))
      rfl
    have fi : ∀ kk (z : Nat → Int), fX13_keepFault_108 kk m (jI ((3 : Nat) : Int)) (MS c m f z s t) = some (MS c m f z s t) := by
      intro kk z
      unfold fX13_keepFault_108
      rw [if_pos (by decide)]
    ((try rw [show (jI 0) = jI ((0 : Nat) : Int) from rfl]); rw [st _ 0 _ (by omega), st _ 1 _ (by omega), st _ 2 _ (by omega), fi])
    rfl
  · have d2 : jI h / (2 : Int32) = jI (h / 2) := d2.resolve_right q
    have r2 : irm (jI h) (2 : Int32) = jI (h % 2) := r2.resolve_right q
    have nq : ¬ jI h = -1 := by
      rw [show (-1 : Int32) = jI (-1) from rfl, jI_eq (by omega) (by omega) (by omega) (by omega)]; exact q
    have nq2 : ¬ jI h = -jI 1 := nq
    (rw [if_neg nq2, if_neg q, if_neg q, if_neg q, if_neg q]; (try rw [show (289 : Int32) = jI 289 from rfl]); rw [s_q3 hm (by omega) (by omega), o_ob, lp_F4])
    have st : ∀ kk (i : Nat) (z : Nat → Int) (y : Int), i < 3 → (y = if i = 0 then h / 2 else if i = 1 then h % 2 else v) → fX13_keepFault_108 kk m (jI (i : Int)) (MS c m f z s t) = kk m (jI ((i + 1 : Nat) : Int)) (MS c m f (va_up z (286 + i) y) s t) := by
      intro kk i z y hi hy
      unfold fX13_keepFault_108 fX13_keepFault_165
      (rw [if_neg (by first | ((simp (disch := omega) only [jI_lit, jI_neg, jI_add, jI_sub, jI_mul, jI_lt, jI_le, jI_eq, jL_lit, jL_lt, jL_le, jL_eq]) <;> omega) | omega)]; (try rw [s_R3 hm]); rw [o_ob]; (try rw [s_gI hm]); rw [o_ob]; (try rw [e42]); rw [if_neg nq])
      by_cases i0 : i = 0
      · rw [if_pos i0] at hy
        (rw [if_pos (by first | ((simp (disch := omega) only [jI_lit, jI_neg, jI_add, jI_sub, jI_mul, jI_lt, jI_le, jI_eq, jL_lit, jL_lt, jL_le, jL_eq]) <;> omega) | omega)]; (try rw [s_gI hm]); rw [o_ob]; (try rw [e42]); (try rw [d2]); (try rw [← hy]); (try rw [show (286 : Int32) = jI 286 from rfl]); (try rw [jI_add]); rw [s_q3 hm (by omega) (by omega), o_ob, o_lt]; (try rw [show (1 : Int32) = jI 1 from rfl]); (try rw [jI_add]); (try rw [show (286 + (i : Int)).toNat = 286 + i by omega]))
        rfl
      · rw [if_neg i0] at hy
        by_cases i1 : i = 1
        · rw [if_pos i1] at hy
          (rw [if_neg (by first | ((simp (disch := omega) only [jI_lit, jI_neg, jI_add, jI_sub, jI_mul, jI_lt, jI_le, jI_eq, jL_lit, jL_lt, jL_le, jL_eq]) <;> omega) | omega), if_pos (by first | ((simp (disch := omega) only [jI_lit, jI_neg, jI_add, jI_sub, jI_mul, jI_lt, jI_le, jI_eq, jL_lit, jL_lt, jL_le, jL_eq]) <;> omega) | omega)]; (try rw [s_gI hm]); rw [o_ob]; (try rw [e42]); (try rw [r2]); (try rw [← hy]); (try rw [show (286 : Int32) = jI 286 from rfl]); (try rw [jI_add]); rw [s_q3 hm (by omega) (by omega), o_ob, o_lt]; (try rw [show (1 : Int32) = jI 1 from rfl]); (try rw [jI_add]); (try rw [show (286 + (i : Int)).toNat = 286 + i by omega]))
          rfl
        · rw [if_neg i1] at hy
          (rw [if_neg (by first | ((simp (disch := omega) only [jI_lit, jI_neg, jI_add, jI_sub, jI_mul, jI_lt, jI_le, jI_eq, jL_lit, jL_lt, jL_le, jL_eq]) <;> omega) | omega), if_neg (by first | ((simp (disch := omega) only [jI_lit, jI_neg, jI_add, jI_sub, jI_mul, jI_lt, jI_le, jI_eq, jL_lit, jL_lt, jL_le, jL_eq]) <;> omega) | omega)]; (try rw [s_gI hm]); rw [o_ob, e43 q]; (try rw [← hy]); (try rw [show (286 : Int32) = jI 286 from rfl]); (try rw [jI_add]); rw [s_q3 hm (by omega) (by omega), o_ob, o_lt]; (try rw [show (1 : Int32) = jI 1 from rfl]); (try rw [jI_add]); (try rw [show (286 + (i : Int)).toNat = 286 + i by omega]))
          rfl
    have fi : ∀ kk (z : Nat → Int), fX13_keepFault_108 kk m (jI ((3 : Nat) : Int)) (MS c m f z s t) = some (MS c m f z s t) := by
      intro kk z
      unfold fX13_keepFault_108
      rw [if_pos (by decide)]
    ((try rw [show (0 : Int32) = jI ((0 : Nat) : Int) from rfl]); rw [st _ 0 _ (h / 2) (by omega) rfl, st _ 1 _ (h % 2) (by omega) rfl, st _ 2 _ v (by omega) rfl, fi])
    rfl
theorem chk_irr {o a n b l n' l' : Int} (hn : o ≤ 17 → n = n') (hl : o ≤ 11 → l = l') : chk o r a n b l = chk o r a n' b l' := by
  by_cases c17 : o ≤ 17
  · rw [hn c17]
    by_cases c11 : o ≤ 11
    · rw [hl c11]
    · unfold chk
      have x3 : ¬ o = 3 := by omega
      have x5 : ¬ o = 4 := by omega
      have x6 : ¬ o = 5 := by omega
      have x7 : ¬ o = 7 := by omega
      have x8 : ¬ o = 8 := by omega
      have x4 : ¬ (3 ≤ o ∧ o ≤ 8) := by omega
      simp only [c11, x3, x5, x6, x7, x8, x4, or_self, false_and, if_false]
  · unfold chk
    have c11 : ¬ o ≤ 11 := by omega
    have x3 : ¬ o = 3 := by omega
    have x5 : ¬ o = 4 := by omega
    have x6 : ¬ o = 5 := by omega
    have x7 : ¬ o = 7 := by omega
    have x8 : ¬ o = 8 := by omega
    have x4 : ¬ (3 ≤ o ∧ o ≤ 8) := by omega
    have y4 : ¬ (4 ≤ o ∧ o ≤ 8) := by omega
    have x14 : ¬ o = 14 := by omega
    have x16 : ¬ o = 16 := by omega
    simp only [c17, c11, x3, x5, x6, x7, x8, x4, y4, x14, x16, or_self, false_and, if_false]
theorem chk1_irr {o a n b l n' l' : Int} (hn : o ≤ 17 → n = n') (hl : o ≤ 11 → l = l') : chk1 o a n b l = chk1 o a n' b l' := by
  unfold chk1
  by_cases c17 : o ≤ 17
  · rw [hn c17]
    by_cases c11 : o ≤ 11
    · rw [hl c11]
    · simp only [c11, false_and, if_false]
  · have c11 : ¬ o ≤ 11 := by omega
    simp only [c17, c11, false_and, if_false]
theorem sp8_irr {o a n l n' l' : Int} (hn : o ≤ 17 → n = n') (hl : o ≤ 11 → l = l') : sp8 o r a n l = sp8 o r a n' l' := by
  unfold sp8
  by_cases c7 : o = 7
  · rw [hn (by omega), hl (by omega)]
  · simp only [c7, false_and, if_false]
/-- operands, checks, performing -/
theorem s_exe {P : PG} {many k : Nat} {T : Int} (hm : Mo c m) (hp : Pr f s P many) (hk : k < many) (ok : RowOK many T r) (h0 : f 38 = 0) (e44 : f 44 = (k : Int) + 1) :
    PfO c m f s k (ob (fX13_findOperands m (jI (k : Int)) (jI (P 0 k)) (MS c m f r s t)) fun h => ob (fX13_check m (jI (P 0 k)) h) fun h => fX13_perform m (jI (k : Int)) (jI (P 0 k)) h) (exe P r k) ∧ ∀ x, (exe P r k).2.1 = some x → FOK x := by
  have hb := ok.1
  have hrg := ok.2.1
  have hm60 := hp.2.1
  have pg := (hp.2.2.1 k hk).1
  have oo := pg.1
  have h264 := ok.2.2.1
  have h266 := ok.2.2.2.2.2.1
  have hg : -1 ≤ r 273 ∧ r 273 < many := ok.2.2.2.2.2.2.1 6 (by omega) (by omega)
  have lA := lnA_r pg
  have lB := lnB_r pg
  have fok : ∀ x, (exe P r k).2.1 = some x → FOK x := fun x hx => ((exe_ok ok pg hk).2.1 x hx).1
  refine ⟨?_, fok⟩
  obtain ⟨f1, y1, y2, y3, y4⟩ := s_find (r := r) (t := t) hm hp hk h0
  rw [y1, o_ob]
  have e44' : f1 44 = (k : Int) + 1 := (y2 44 (by omega)).trans e44
  have hp1 : Pr f1 s P many := by
    obtain ⟨p1, p2⟩ := hp
    exact ⟨(y2 13 (by omega)).trans p1, p2⟩
  cases hc : chk1 (P 0 k) (opA P r k) (lnA P k) (opB P r k) (lnB P k) with
  | some x =>
    rw [hc] at y4
    rw [exe_some (chk1_chk hc)] at fok ⊢
    have fx := (fok x rfl).1
    obtain ⟨kd, w, a, n, h, v⟩ := x
    have e38 : f1 38 = kd := y4.1
    have fx : 1 ≤ kd ∧ kd ≤ 8 := fx
    rw [s_checkX hm (by omega) (by omega), o_ob, s_performX hm (by omega) (by omega)]
    exact ⟨f1, s, t, rfl, fun j hj => y2 j (by omega), fun _ _ => rfl, y4, (fun z => nomatch z)⟩
  | none =>
    rw [hc] at y4
    have k0 : f1 38 = 0 := y4
    obtain ⟨x34, x35, x36, x37, x38⟩ := y3
    have ho : Ops (P 0 k) (opA P r k) (f1 35) (opB P r k) (f1 37) := by
      unfold chk1 at hc
      constructor
      · intro q
        have a1 := lA q
        have a2 := x35 q
        by_cases z : isF (opA P r k) (lnA P k) = true
        · unfold isF at z
          simp at z
          omega
        · rw [if_pos ⟨q, by simpa using z⟩] at hc
          exact nomatch hc
      · intro q
        have a1 := lB q
        have a2 := x37 q
        by_cases z : isF (opA P r k) (lnA P k) = true
        · by_cases z2 : isF (opB P r k) (lnB P k) = true
          · unfold isF at z2
            simp at z2
            omega
          · rw [if_neg (fun e => by rw [z] at e; exact absurd e.2 (by decide)), if_pos ⟨q, by simpa using z2⟩] at hc
            exact nomatch hc
        · rw [if_pos ⟨by omega, by simpa using z⟩] at hc
          exact nomatch hc
    obtain ⟨f2, w1, w2, w3⟩ := s_check (s := s) (t := t) hm hb oo.1 oo.2 ho k0 x34 rfl x36 rfl
    have hc' : chk1 (P 0 k) (opA P r k) (f1 35) (opB P r k) (f1 37) = none := by rw [chk1_irr x35 x37]; exact hc
    rw [sp3_chk hc', chk_irr x35 x37, sp8_irr x35 x37] at w3
    rw [w1, o_ob]
    cases hd : chk (P 0 k) r (opA P r k) (lnA P k) (opB P r k) (lnB P k) with
    | some x =>
      rw [hd] at w3
      rw [exe_some hd] at fok ⊢
      have fx := (fok x rfl).1
      obtain ⟨kd, w, a, n, h, v⟩ := x
      have e38 : f2 38 = kd := w3.1
      have fx : 1 ≤ kd ∧ kd ≤ 8 := fx
      rw [s_performX hm (by omega) (by omega)]
      exact ⟨f2, s, t, rfl, fun j hj => (w2 j (by omega)).trans (y2 j (by omega)), fun _ _ => rfl, w3, (fun z => nomatch z)⟩
    | none =>
      rw [hd] at w3
      cases hz : sp8 (P 0 k) r (opA P r k) (lnA P k) (lnB P k) with
      | some x =>
        have w3 : FtR f2 (some x) := by rw [← hz]; exact w3
        have q7 : P 0 k = 7 := by
          apply Decidable.byContradiction
          intro q
          unfold sp8 at hz
          rw [if_neg (fun e => q e.1)] at hz
          exact nomatch hz
        obtain ⟨c1, c2, -⟩ := chk_none hd
        have ca := c1 (by omega)
        have cl := lA (by omega)
        have ee : exe P r k = (r, some x, (k : Int) + 1) := by
          rw [exe_none hd, prf_eq]
          unfold sp8 zsQ at hz
          by_cases z : fnd (fun h => hf r h != 0) (2 * (opA P r k).toNat) (2 * (lnB P k).toNat) ≠ -1
          · rw [if_pos ⟨q7, z⟩] at hz
            (rw [if_neg (by omega), if_neg (by omega), if_neg (by omega), if_neg (by omega), if_neg (by omega), if_neg (by omega), if_pos q7, if_pos z]; (try rw [show (((opA P r k).toNat : Nat) : Int) = opA P r k by omega]); (try rw [show (((lnA P k).toNat : Nat) : Int) = lnA P k by omega]); rw [hz])
          · rw [if_neg (fun e => z e.2)] at hz
            exact nomatch hz
        rw [ee] at fok ⊢
        have fx := (fok x rfl).1
        obtain ⟨kd, w, a, n, h, v⟩ := x
        have e38 : f2 38 = kd := w3.1
        have fx : 1 ≤ kd ∧ kd ≤ 8 := fx
        rw [s_performX hm (by omega) (by omega)]
        exact ⟨f2, s, t, rfl, fun j hj => (w2 j (by omega)).trans (y2 j (by omega)), fun _ _ => rfl, w3, (fun z => nomatch z)⟩
      | none =>
        have w3 : f2 38 = 0 := by
          have w3 : FtR f2 (sp8 (P 0 k) r (opA P r k) (lnA P k) (lnB P k)) := w3
          rw [hz] at w3; exact w3
        have hp2 : Pr f2 s P many := by
          obtain ⟨p1, p2⟩ := hp1
          exact ⟨(w2 13 (by omega)).trans p1, p2⟩
        rw [exe_none hd]
        obtain ⟨f3, s3, t3, v1, v2, v3, v4, v5⟩ := s_perform (t := t) hm hb hp2 hk w3 ((w2 44 (by omega)).trans e44') ⟨by rw [w2 _ (by omega)]; exact x34, fun q => by rw [w2 _ (by omega)]; exact x35 q, by rw [w2 _ (by omega)]; exact x36, fun q => by rw [w2 _ (by omega)]; exact x37 q, fun q => by rw [w2 _ (by omega), w2 35 (by omega)]; exact x38 q⟩ h264 (by omega) (by omega) (fun q _ => hrg _) hd hz
        exact ⟨f3, s3, t3, v1, fun j hj => (v2 j hj).trans ((w2 j (by omega)).trans (y2 j (by omega))), v3, v4, v5⟩
end RSS
