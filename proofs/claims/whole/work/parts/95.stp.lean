section RSW
variable {c : MC} {m : Nat} {f r : Nat → Int} {s t : SI2}
/-- what steps leave: the row, and but scratch all as it was -/
def SqO (c : MC) (m : Nat) (f : Nat → Int) (s : SI2) (res : Option Hp) (u : Nat → Int) : Prop :=
  ∃ f' s' t', res = some (MS c m f' u s' t') ∧ (∀ j, j < 34 ∨ 51 < j → f' j = f j) ∧ (∀ j, j ≠ 22 → s' j = s j)
theorem Pr_sq {P : PG} {many : Nat} {f' : Nat → Int} {s' : SI2} (h : Pr f s P many) (hf : f' 13 = f 13) (hs : ∀ j, j ≠ 22 → s' j = s j) : Pr f' s' P many := by
  obtain ⟨p1, p2, p3, p4⟩ := h
  refine ⟨hf.trans p1, p2, fun k hk => ?_, fun j hj => by rw [hs 12 (by omega)]; exact p4 j hj⟩
  rw [hs 5 (by omega), hs 6 (by omega), hs 7 (by omega), hs 8 (by omega), hs 9 (by omega), hs 10 (by omega), hs 11 (by omega)]
  exact p3 k hk
theorem ir64 {z : Int} (h1 : 0 ≤ z) (h2 : z < 2147483648) : irm (jI z) (64 : Int32) = jI (z % 64) := by
  rw [show (64 : Int32) = jI 64 from rfl]
  exact jI_rem h1 h2 (by omega) (by omega)
theorem s_220 (hm : Mo c m) : fX13_aStep_220 m (MS c m f r s t) = some (MS c m f (va_up r 277 (r 277 + 1)) s t) := by
  unfold fX13_aStep_220
  ((try rw [s_R3 hm]); rw [o_ob]; (try rw [show (277 : Int32) = jI 277 from rfl]); rw [s_a3 hm (by omega) (by omega), o_ob]; (try rw [show (1 : Int32) = jI 1 from rfl]); (try rw [jI_add]); rw [s_q3 hm (by omega) (by omega), o_ob])
  rfl
theorem s_aStep {P : PG} {many : Nat} {T : Int} (hm : Mo c m) (hp : Pr f s P many) (ok : RowOK many T r) (hT : T < 900000) : SqO c m f s (fX13_aStep m (MS c m f r s t)) (stp P many r) := by
  have h276 := ok.2.2.2.2.2.2.2.1
  unfold fX13_aStep
  (rw [s_gd _ hm]; (try rw [s_R3 hm]); rw [o_ob]; (try rw [show (276 : Int32) = jI 276 from rfl]); rw [s_a3 hm (by omega) (by omega), o_ob]; (try rw [show (276 : Int).toNat = 276 from rfl]))
  by_cases hs : r 276 = 0
  · obtain ⟨k, hk⟩ : ∃ k, k = (r 265).toNat := ⟨_, rfl⟩
    have h1 := ok.2.2.2.1
    have h2 := ok.2.2.2.2.1 hs
    have hkm : k < many := by omega
    have e265 : r 265 = (k : Int) := by omega
    have hm60 := hp.2.1
    have pg := (hp.2.2.1 k hkm).1
    have e5 := (hp.2.2.1 k hkm).2.1
    have oo := pg.1
    have e13 : f 13 = (many : Int) := hp.1
    (rw [if_pos (by rw [hs]; rfl)]; (try rw [s_R3 hm]); rw [o_ob]; (try rw [show (265 : Int32) = jI 265 from rfl]); rw [s_a3 hm (by omega) (by omega), o_ob]; (try rw [show (265 : Int).toNat = 265 from rfl]); (try rw [e265]); (try rw [s_R5 hm]); rw [o_ob, s_a5 hm (by omega) (by omega), o_ob]; (try rw [show ((k : Int)).toNat = k by omega]); (try rw [e5]); (try rw [show (0 : Int32) = jI 0 from rfl]); rw [s_pI hm, o_ob]; (try rw [show (1 : Int32) = jI 1 from rfl]); (try rw [jI_add]); rw [s_pI hm, o_ob])
    obtain ⟨g, hg⟩ : ∃ g, g = va_up (va_up f 38 0) 44 ((k : Int) + 1) := ⟨_, rfl⟩
    have g38 : g 38 = 0 := by (rw [hg]; (try rw [va_up_ne _ _ (by omega)]); (try rw [va_up_self]))
    have g44 : g 44 = (k : Int) + 1 := by rw [hg, va_up_self]
    have gn : ∀ j, j ≠ 38 → j ≠ 44 → g j = f j := fun j a b => by (rw [hg]; (try rw [va_up_ne _ _ b]); (try rw [va_up_ne _ _ a]))
    rw [← hg]
    have hpg : Pr g s P many := Pr_sq hp (gn 13 (by omega) (by omega)) (fun _ _ => rfl)
    obtain ⟨⟨f3, s3, t3, v1, v2, v3, v4, v5⟩, fok⟩ := s_exe (t := t) hm hpg hkm ok g38 g44
    obtain ⟨rq, -, nxr⟩ := exe_ok ok pg hkm
    obtain ⟨⟨u, fo, nx⟩, ho⟩ : ∃ z, z = exe P r k := ⟨_, rfl⟩
    rw [← ho] at v1 v4 v5 fok rq nxr
    have v4 : FtR f3 fo := v4
    have v5 : fo = none → f3 44 = nx := v5
    have rq : RQ many r u := rq
    have nxr : fo = none → 0 ≤ nx ∧ nx ≤ many := nxr
    have fok : ∀ x, fo = some x → FOK x := fok
    -- one run of the three
    have v1' : ∀ F : Hp → Option Hp, (ob (fX13_findOperands m (jI (k : Int)) (jI (P 0 k)) (MS c m g r s t)) fun h => ob (fX13_check m (jI (P 0 k)) h) fun h => ob (fX13_perform m (jI (k : Int)) (jI (P 0 k)) h) F) = F (MS c m f3 u s3 t3) := by
      intro F
      cases ha : fX13_findOperands m (jI (k : Int)) (jI (P 0 k)) (MS c m g r s t) with
      | none => rw [ha] at v1; exact nomatch v1
      | some x =>
        rw [ha] at v1
        rw [o_ob] at v1 ⊢
        cases hb : fX13_check m (jI (P 0 k)) x with
        | none => rw [hb] at v1; exact nomatch v1
        | some y =>
          rw [hb] at v1
          rw [o_ob] at v1 ⊢
          rw [v1, o_ob]
    rw [v1']
    have h279 := ok.2.2.2.2.2.2.2.2.1
    have h277 := ok.2.2.2.2.2.2.2.2.2.1
    have u279 : u 279 = r 279 := rq.2.2.2.2 279 (by omega) (by omega)
    have u277 : u 277 = r 277 := rq.2.2.2.2 277 (by omega) (by omega)
    obtain ⟨tr, htr⟩ : ∃ tr, tr = (u 279).toNat % 64 := ⟨_, rfl⟩
    have tr64 : tr < 64 := by rw [htr]; exact Nat.mod_lt _ (by omega)
    have etr : u 279 % 64 = (tr : Int) := by omega
    obtain ⟨R6, hR6⟩ : ∃ R6, R6 = rec6 u k := ⟨_, rfl⟩
    have eR6 : R6 = va_up (va_up (va_up u (290 + tr) (k : Int)) 279 (u 279 + 1)) (354 + k) (va_up (va_up u (290 + tr) (k : Int)) 279 (u 279 + 1) (354 + k) + 1) := by
      have e0 : va_up u (290 + tr) (k : Int) 279 = u 279 := va_up_ne _ _ (by omega)
      have eu : rec6 u k = va_up (va_up (va_up u (290 + (u 279).toNat % 64) (k : Int)) 279 (va_up u (290 + (u 279).toNat % 64) (k : Int) 279 + 1)) (354 + k) (va_up (va_up u (290 + (u 279).toNat % 64) (k : Int)) 279 (va_up u (290 + (u 279).toNat % 64) (k : Int) 279 + 1) (354 + k) + 1) := rfl
      (rw [hR6, eu]; (try rw [← htr]); (try rw [e0]))
    ((try rw [s_R3 hm]); rw [o_ob]; (try rw [s_R3 hm]); rw [o_ob]; (try rw [show (279 : Int32) = jI 279 from rfl]); rw [s_a3 hm (by omega) (by omega), o_ob]; (try rw [show (279 : Int).toNat = 279 from rfl]); rw [ir64 (by omega) (by omega), etr]; (try rw [show (290 : Int32) = jI 290 from rfl]); (try rw [jI_add]); rw [s_q3 hm (by omega) (by omega), o_ob]; (try rw [show (290 + (tr : Int)).toNat = 290 + tr by omega]); (try rw [s_R3 hm]); rw [o_ob, s_a3 hm (by omega) (by omega), o_ob]; (try rw [show (279 : Int).toNat = 279 from rfl]); (try rw [va_up_ne _ _ (show (279 : Nat) ≠ 290 + tr by omega)]); (try rw [jI_add]); rw [s_q3 hm (by omega) (by omega), o_ob]; (try rw [show (279 : Int).toNat = 279 from rfl]); (try rw [s_R3 hm]); rw [o_ob]; (try rw [show (354 : Int32) = jI 354 from rfl]); (try rw [jI_add]); rw [s_a3 hm (by omega) (by omega), o_ob]; (try rw [show (354 + (k : Int)).toNat = 354 + k by omega]); (try rw [jI_add]); rw [s_q3 hm (by omega) (by omega), o_ob]; (try rw [show (354 + (k : Int)).toNat = 354 + k by omega]); rw [← eR6]; (try rw [s_gI hm]); rw [o_ob])
    have fr : ∀ j, j < 34 ∨ 51 < j → f3 j = f j := fun j hj => (v2 j hj).trans (gn j (by omega) (by omega))
    cases hfo : fo with
    | none =>
      rw [hfo] at v4 v5 nxr ho
      have e38 : f3 38 = 0 := v4
      have e44 := v5 rfl
      have nxr := nxr rfl
      ((try rw [e38]); rw [if_pos (show jI 0 = jI 0 from rfl)]; (try rw [s_R3 hm]); rw [o_ob]; (try rw [s_gI hm]); rw [o_ob]; (try rw [e44]); rw [s_q3 hm (by omega) (by omega), o_ob]; (try rw [show (265 : Int).toNat = 265 from rfl]); (try rw [s_R3 hm]); rw [o_ob])
      have fin : ∀ z : Int, (z = if P 0 k = 24 ∨ nx = many then 1 else 0) → SqO c m f s (fX13_aStep_152 fX13_aStep_220 m (jI z) (jI 276) (m + 3) (MS c m f3 (va_up R6 265 nx) s3 t3)) (stp P many r) := by
        intro z hz
        unfold fX13_aStep_152
        (rw [s_q3 hm (by omega) (by omega), o_ob, s_220 hm]; (try rw [show (276 : Int).toNat = 276 from rfl]))
        refine ⟨f3, s3, t3, ?_, fr, v3⟩
        (rw [stp_none hs hk ho.symm]; (try rw [← hz]); (try rw [← hR6]); (try rw [va_up_ne _ _ (show (277 : Nat) ≠ 276 by omega)]); (try rw [va_up_ne _ _ (show (277 : Nat) ≠ 265 by omega)]); rw [hR6, rec6_277])
      unfold fX13_aStep_147
      by_cases q24 : P 0 k = 24
      · rw [if_pos (by first | ((simp (disch := omega) only [jI_lit, jI_neg, jI_add, jI_sub, jI_mul, jI_lt, jI_le, jI_eq, jL_lit, jL_lt, jL_le, jL_eq]) <;> omega) | omega)]
        exact fin 1 (by rw [if_pos (Or.inl q24)])
      · (rw [if_neg (by first | ((simp (disch := omega) only [jI_lit, jI_neg, jI_add, jI_sub, jI_mul, jI_lt, jI_le, jI_eq, jL_lit, jL_lt, jL_le, jL_eq]) <;> omega) | omega)]; (try rw [s_gI hm]); rw [o_ob]; (try rw [s_gI hm]); rw [o_ob]; (try rw [e44]); rw [fr 13 (by omega)]; (try rw [e13]))
        by_cases qn : nx = many
        · rw [if_pos (by rw [qn])]
          exact fin 1 (by rw [if_pos (Or.inr qn)])
        · rw [if_neg (by rw [jI_eq (by omega) (by omega) (by omega) (by omega)]; exact qn)]
          exact fin 0 (by rw [if_neg (fun x => x.elim q24 qn)])
    | some ft =>
      rw [hfo] at v4 ho
      have fk := fok ft hfo
      have f8 := fk.1
      have f5 := fk.2.2.2.2.2
      have fh : -1 ≤ ft.2.2.2.2.1 ∧ ft.2.2.2.2.1 < 512 := by
        by_cases q : ft.2.2.2.2.1 = -1
        · omega
        · have := f5 q
          omega
      have e38 : f3 38 = ft.1 := by
        obtain ⟨kd, w, a, n, h, v⟩ := ft
        exact v4.1
      ((try rw [e38]); rw [if_neg (show ¬ jI ft.1 = jI 0 by rw [jI_eq (by omega) (by omega) (by omega) (by omega)]; omega), s_keepFault hm v4 fh, o_ob]; (try rw [s_R3 hm]); rw [o_ob]; (try rw [s_gI hm]); rw [o_ob]; (try rw [e38]); (try rw [show (267 : Int32) = jI 267 from rfl]); (try rw [jI_add]); rw [s_a3 hm (by omega) (by omega), o_ob]; (try rw [show (267 + ft.1).toNat = 267 + ft.1.toNat by omega]))
      have wn : why6 R6 k ft (267 + ft.1.toNat) = R6 (267 + ft.1.toNat) := why6_ne (by omega)
      have R6g : R6 (267 + ft.1.toNat) = u (267 + ft.1.toNat) := by
        (rw [eR6]; (try rw [va_up_ne _ _ (by omega)]); (try rw [va_up_ne _ _ (by omega)]); (try rw [va_up_ne _ _ (by omega)]))
      have ug := rq.2.2.2.1 ft.1.toNat (by omega) (by omega)
      have w277 : why6 R6 k ft 277 = u 277 := by rw [why6_ne (by omega), hR6, rec6_277]
      rw [wn]
      have fin : ∀ z : Nat → Int, z = flt6 R6 k ft → SqO c m f s (fX13_aStep_220 m (MS c m f3 z s3 t3)) (stp P many r) := by
        intro z hz
        rw [s_220 hm]
        refine ⟨f3, s3, t3, ?_, fr, v3⟩
        (rw [stp_some hs hk ho.symm (by omega), hz]; (try rw [← hR6]); rw [flt6_277 (by omega), hR6, rec6_277])
      by_cases qg : R6 (267 + ft.1.toNat) = -1
      · (rw [if_pos (by rw [qg]; rfl)]; (try rw [s_R3 hm]); rw [o_ob]; (try rw [show (2 : Int32) = jI 2 from rfl]); rw [s_q3 hm (by omega) (by omega), o_ob]; (try rw [show (276 : Int).toNat = 276 from rfl]))
        refine fin _ ?_
        rw [flt6_why (by omega), if_pos qg]
      · have nq : ¬ jI (R6 (267 + ft.1.toNat)) = -1 := by
          rw [show (-1 : Int32) = jI (-1) from rfl, jI_eq (by omega) (by omega) (by omega) (by omega)]; exact qg
        have nq2 : ¬ jI (R6 (267 + ft.1.toNat)) = -jI 1 := nq
        first
          | rw [if_neg nq]
          | rw [if_neg nq2]
        ((try rw [s_R3 hm]); rw [o_ob]; (try rw [s_R3 hm]); rw [o_ob]; (try rw [s_gI hm]); rw [o_ob]; (try rw [e38]); (try rw [show (267 : Int32) = jI 267 from rfl]); (try rw [jI_add]); rw [s_a3 hm (by omega) (by omega), o_ob]; (try rw [show (267 + ft.1).toNat = 267 + ft.1.toNat by omega]); rw [wn, s_q3 hm (by omega) (by omega), o_ob]; (try rw [s_R3 hm]); rw [o_ob]; (try rw [show (266 : Int32) = jI 266 from rfl]); rw [s_q3 hm (by omega) (by omega), o_ob]; (try rw [show (266 : Int).toNat = 266 from rfl]); (try rw [show (265 : Int).toNat = 265 from rfl]))
        refine fin _ ?_
        rw [flt6_why (by omega), if_neg qg]
  · rw [if_neg (by first | ((simp (disch := omega) only [jI_lit, jI_neg, jI_add, jI_sub, jI_mul, jI_lt, jI_le, jI_eq, jL_lit, jL_lt, jL_le, jL_eq]) <;> omega) | omega)]
    exact ⟨f, s, t, by rw [stp_st hs], fun _ _ => rfl, fun _ _ => rfl⟩
theorem s_goOn {P : PG} {many n : Nat} {T : Int} (hm : Mo c m) (hp : Pr f s P many) (ok : RowOK many T r) (hn : n ≤ 200) (hT : T < 800000) : SqO c m f s (fX13_goOn m (jI (n : Int)) (MS c m f r s t)) (stpN P many n r) := by
  unfold fX13_goOn
  rw [s_gd _ hm]
  have hpg : ∀ k, k < many → PGk P many k := fun k hk => (hp.2.2.1 k hk).1
  have hm60 := hp.2.1
  have key := lp_sr (z := fun _ _ _ _ => none) (S := fX13_goOn_2) (β := Hp) (ev := fun k (i : Nat) (x : (Nat → Int) × SI2 × SI2) => k m (jI (n : Int)) (jI (i : Int)) (MS c m x.1 (stpN P many i r) x.2.1 x.2.2)) (hi := n) (Inv := fun i x => (∀ j, j < 34 ∨ 51 < j → x.1 j = f j) ∧ (∀ j, j ≠ 22 → x.2.1 j = s j) ∧ RowOK many (T + i) (stpN P many i r)) (Post := fun q => SqO c m f s q (stpN P many n r)) ?_ ?_ FU 0 (f, s, t) (by omega) (FU_lt (by omega)) ⟨fun _ _ => rfl, fun _ _ => rfl, by rw [show T + ((0 : Nat) : Int) = T by omega]; exact ok⟩
  · exact key
  · intro i x hi hinv k
    obtain ⟨f1, s1, t1⟩ := x
    obtain ⟨a1, a2, a3⟩ := hinv
    have a1 : ∀ j, j < 34 ∨ 51 < j → f1 j = f j := a1
    have a2 : ∀ j, j ≠ 22 → s1 j = s j := a2
    obtain ⟨f2, s2, t2, b1, b2', b3⟩ := s_aStep (t := t1) hm (Pr_sq hp (a1 13 (by omega)) a2) a3 (by omega)
    refine Or.inr ⟨(f2, s2, t2), ⟨fun j hj => (b2' j hj).trans (a1 j hj), fun j hj => (b3 j hj).trans (a2 j hj), ?_⟩, ?_⟩
    · have := stp_ok a3 hpg hm60 (by omega)
      rw [show T + ((i + 1 : Nat) : Int) = T + (i : Int) + 1 by omega]
      exact this
    · show fX13_goOn_2 k m (jI (n : Int)) (jI (i : Int)) (MS c m f1 (stpN P many i r) s1 t1) = _
      unfold fX13_goOn_2
      (rw [if_neg (by first | ((simp (disch := omega) only [jI_lit, jI_neg, jI_add, jI_sub, jI_mul, jI_lt, jI_le, jI_eq, jL_lit, jL_lt, jL_le, jL_eq]) <;> omega) | omega)]; (try rw [b1]); rw [o_ob, o_lt]; (try rw [show (1 : Int32) = jI 1 from rfl]); (try rw [jI_add]))
      rfl
  · intro x hinv k
    obtain ⟨f1, s1, t1⟩ := x
    obtain ⟨a1, a2, a3⟩ := hinv
    refine ⟨f1, s1, t1, ?_, a1, a2⟩
    show fX13_goOn_2 k m (jI (n : Int)) (jI (n : Int)) (MS c m f1 (stpN P many n r) s1 t1) = _
    unfold fX13_goOn_2
    rw [if_pos (by first | ((simp (disch := omega) only [jI_lit, jI_neg, jI_add, jI_sub, jI_mul, jI_lt, jI_le, jI_eq, jL_lit, jL_lt, jL_le, jL_eq]) <;> omega) | omega)]
end RSW
