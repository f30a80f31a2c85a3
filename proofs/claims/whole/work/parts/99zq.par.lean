section RUQ
variable {c : MC} {m : Nat} {f r : Nat → Int} {s t : SI2} {n : Nat} {tx : Nat → Int}
/-- a program as it is read -/
def pgm (st : LNS) (Q : Nat → Int) : PG := fun a i =>
  if a = 0 then (st.2.1 i : Int) else if a = 1 then st.2.2.1 (i / 2) (if i % 2 = 0 then 1 else 4) else if a = 2 then st.2.2.1 (i / 2) (if i % 2 = 0 then 2 else 5) else if a = 3 then st.2.2.1 (i / 2) (if i % 2 = 0 then 3 else 6)
  else if a = 4 then st.2.2.1 i (if 16 ≤ st.2.1 i ∧ st.2.1 i ≤ 20 then 7 else 8) else if a = 5 then st.2.2.1 i (if st.2.1 i = 14 then 9 else 8) else if a = 6 then tgt st i else Q i
theorem pgm_v (st : LNS) (Q : Nat → Int) (k : Nat) : pgm st Q 0 k = (st.2.1 k : Int) ∧ pgm st Q 1 (2 * k) = st.2.2.1 k 1 ∧ pgm st Q 2 (2 * k) = st.2.2.1 k 2 ∧ pgm st Q 3 (2 * k) = st.2.2.1 k 3 ∧ pgm st Q 1 (2 * k + 1) = st.2.2.1 k 4 ∧ pgm st Q 2 (2 * k + 1) = st.2.2.1 k 5 ∧ pgm st Q 3 (2 * k + 1) = st.2.2.1 k 6 ∧ (16 ≤ st.2.1 k → st.2.1 k ≤ 20 → pgm st Q 4 k = st.2.2.1 k 7) ∧ (st.2.1 k < 16 ∨ 20 < st.2.1 k → pgm st Q 4 k = st.2.2.1 k 8) ∧ (st.2.1 k = 14 → pgm st Q 5 k = st.2.2.1 k 9) ∧ (st.2.1 k ≠ 14 → pgm st Q 5 k = st.2.2.1 k 8) ∧ pgm st Q 6 k = tgt st k ∧ pgm st Q 7 k = Q k := by
  have e0 : 2 * k % 2 = 0 := by omega
  have e1 : ¬ (2 * k + 1) % 2 = 0 := by omega
  have d0 : 2 * k / 2 = k := by omega
  have d1 : (2 * k + 1) / 2 = k := by omega
  refine ⟨rfl, ?_, ?_, ?_, ?_, ?_, ?_, fun a b => ?_, fun a => ?_, fun a => ?_, fun a => ?_, rfl, rfl⟩
  · show st.2.2.1 (2 * k / 2) (if 2 * k % 2 = 0 then 1 else 4) = _
    rw [if_pos e0, d0]
  · show st.2.2.1 (2 * k / 2) (if 2 * k % 2 = 0 then 2 else 5) = _
    rw [if_pos e0, d0]
  · show st.2.2.1 (2 * k / 2) (if 2 * k % 2 = 0 then 3 else 6) = _
    rw [if_pos e0, d0]
  · show st.2.2.1 ((2 * k + 1) / 2) (if (2 * k + 1) % 2 = 0 then 1 else 4) = _
    rw [if_neg e1, d1]
  · show st.2.2.1 ((2 * k + 1) / 2) (if (2 * k + 1) % 2 = 0 then 2 else 5) = _
    rw [if_neg e1, d1]
  · show st.2.2.1 ((2 * k + 1) / 2) (if (2 * k + 1) % 2 = 0 then 3 else 6) = _
    rw [if_neg e1, d1]
  · show st.2.2.1 k (if 16 ≤ st.2.1 k ∧ st.2.1 k ≤ 20 then 7 else 8) = _
    rw [if_pos ⟨a, b⟩]
  · show st.2.2.1 k (if 16 ≤ st.2.1 k ∧ st.2.1 k ≤ 20 then 7 else 8) = _
    rw [if_neg (by omega)]
  · show st.2.2.1 k (if st.2.1 k = 14 then 9 else 8) = _
    rw [if_pos a]
  · show st.2.2.1 k (if st.2.1 k = 14 then 9 else 8) = _
    rw [if_neg a]
/-- every instruction that was read is as it may be -/
def STK (st : LNS) : Prop := st.1 ≤ 60 ∧ fnd (bdq st) 0 st.1 = -1 ∧ ∀ k, k < st.1 → st.2.1 k ≤ 24 ∧ FOO (st.2.1 k) (st.2.2.1 k) (st.2.2.2.2.1 k)
theorem tgt_r {st : LNS} (h : STK st) {k : Nat} (hk : k < st.1) : -1 ≤ tgt st k ∧ tgt st k < st.1 ∧ (st.2.2.2.2.1 k ≠ 0 → 0 ≤ tgt st k) := by
  have dr := fnd_m (q := fun x => st.2.2.2.1 x == st.2.2.2.2.1 k) (lo := 0) (m := st.1)
  have d1 : -1 ≤ nmd st.2.2.2.1 st.1 (st.2.2.2.2.1 k) := dr.1
  have d2 : nmd st.2.2.2.1 st.1 (st.2.2.2.2.1 k) < ((0 : Nat) : Int) + st.1 := dr.2
  have b := fnd_none h.2.1 k (by omega) (by omega)
  unfold tgt
  by_cases c0 : st.2.2.2.2.1 k = 0
  · rw [if_pos c0]
    exact ⟨by omega, by omega, fun q => absurd c0 q⟩
  · rw [if_neg c0]
    refine ⟨d1, by omega, fun _ => ?_⟩
    unfold bdq at b
    have e1 : (st.2.2.2.2.1 k != 0) = true := by simpa using c0
    rw [e1, Bool.true_and] at b
    have b2 : nmd st.2.2.2.1 st.1 (st.2.2.2.2.1 k) ≠ -1 := by simpa using b
    omega
theorem PGk_pgm {st : LNS} {Q : Nat → Int} (h : STK st) {k : Nat} (hk : k < st.1) : PGk (pgm st Q) st.1 k := by
  obtain ⟨o24, fk⟩ := h.2.2 k hk
  obtain ⟨t1, t2, t3⟩ := tgt_r h hk
  obtain ⟨v0, v1, v2, v3, v4, v5, v6, v7, v8, v9, v10, v11, -⟩ := pgm_v st Q k
  unfold PGk
  ((try rw [v0]); (try rw [v1]); (try rw [v2]); (try rw [v3]); (try rw [v4]); (try rw [v5]); (try rw [v6]); (try rw [v11]))
  obtain ⟨o, ho⟩ : ∃ o, o = st.2.1 k := ⟨_, rfl⟩
  obtain ⟨F, hF⟩ : ∃ F, F = st.2.2.1 k := ⟨_, rfl⟩
  rw [← ho] at o24 fk v7 v8 v9 v10 ⊢
  rw [← hF] at fk v7 v8 v9 v10 ⊢
  clear v0 v1 v2 v3 v4 v5 v6 v11 h
  obtain ⟨⟨f1, f2⟩, ⟨f3, f4⟩, ⟨f5, f6, f7, f8⟩, ⟨f9, f10, f11⟩, ⟨f12, f13, f14, f15, f16⟩, ⟨f17, f18, f19, f20, f21, f22, f23⟩, f24, f25⟩ := fk
  refine ⟨by omega, fun q => f1 (by omega), fun q => f3 (by omega), fun q => f5 (by omega), fun q q2 => f6 (by omega) (by omega), fun q q2 => f9 (by omega) (by omega), fun q => ?_, fun q q2 => ?_, fun q => ?_, fun q => ?_, fun q => ?_, fun q => ?_, fun q => ⟨t1, t2⟩⟩
  · rw [v8 (by omega), v9 (by omega)]; exact f12 (by omega)
  · rw [v7 (by omega) (by omega)]; exact f14 (by omega) (by omega)
  · rw [v10 (by omega)]; exact f17 (by omega)
  · rw [v8 (by omega)]; exact f18 (by omega)
  · rw [v8 (by omega)]; exact f19 (by omega)
  · exact ⟨t3 (f25 (by omega)), t2⟩
/-- the half of an array that was read into it -/
def hvA (h : Nat) (a : Nat → Int) : Nat → Int := fun i => if i < h then a (h + i) else a i
theorem hvA_lt {h i : Nat} {a : Nat → Int} (hi : i < h) : hvA h a i = a (h + i) := if_pos hi
theorem s_takeHalf {j h : Nat} (hh : h < 1000) (hN : ∀ S, aN 101 (m + j) (MS c m f r S t) = some (jI ((2 * h : Nat) : Int))) (ha : ∀ (S : SI2) (z : Int), 0 ≤ z → z < ((2 * h : Nat) : Int) → aI (m + j) (jI z) (MS c m f r S t) = some (jI (S j z.toNat))) (hq : ∀ (S : SI2) (z v : Int), 0 ≤ z → z < ((2 * h : Nat) : Int) → qI (m + j) (jI z) (jI v) (MS c m f r S t) = some (MS c m f r (va_up S j (va_up (S j) z.toNat v)) t)) :
    fX13_takeHalf (m + j) (MS c m f r s t) = some (MS c m f r (va_up s j (hvA h (s j))) t) := by
  unfold fX13_takeHalf
  obtain ⟨SA, hSA⟩ : ∃ SA : Nat → SI2, SA = fun k => va_up s j (fun i => if i < k then s j (h + i) else s j i) := ⟨_, rfl⟩
  have key := lp_up (z := fun _ _ _ => none) (S := fX13_takeHalf_2) (β := Hp) (fun kk (k : Nat) => kk (m + j) (jI (k : Int)) (MS c m f r (SA k) t)) (E := some (MS c m f r (SA h) t)) (M := h) ?_ ?_ FU 0 (by omega) (FU_lt (by omega))
  · have z0 : SA 0 = s := by
      rw [hSA]
      show va_up s j (fun i => if i < 0 then s j (h + i) else s j i) = s
      have : (fun i => if i < 0 then s j (h + i) else s j i) = s j := by funext i; rw [if_neg (by omega)]
      rw [this, up_id]
    have key : lp (fun _ _ _ => none) fX13_takeHalf_2 FU (m + j) 0 (MS c m f r (SA 0) t) = _ := key
    rw [z0] at key
    rw [key, hSA]
    rfl
  · intro k hk kk
    have ek : jI (k : Int) + 1 = jI ((k + 1 : Nat) : Int) := by rw [show (1 : Int32) = jI 1 from rfl, jI_add]; congr 1
    have ed : jI ((2 * h : Nat) : Int) / 2 = jI (h : Int) := by rw [j_hf (by omega)]; congr 1; omega
    have ej : (SA k) j = fun i => if i < k then s j (h + i) else s j i := by rw [hSA]; exact va_up_self _ _ _
    have ev : (SA k) j (h + k) = s j (h + k) := by rw [ej]; exact if_neg (by omega)
    have es : va_up (SA k) j (va_up ((SA k) j) k (s j (h + k))) = SA (k + 1) := by
      rw [ej, hSA]
      show va_up (va_up s j _) j _ = va_up s j _
      rw [upup]
      congr 1
      funext i
      by_cases d : i = k
      · (rw [d]; (try rw [va_up_self]); rw [if_pos (by omega)])
      · rw [va_up_ne _ _ d]
        by_cases g : i < k
        · rw [if_pos g, if_pos (by omega)]
        · rw [if_neg g, if_neg (by omega)]
    show fX13_takeHalf_2 kk (m + j) (jI (k : Int)) (MS c m f r (SA k) t) = _
    unfold fX13_takeHalf_2
    (rw [hN, o_ob, ed, if_neg (by rw [jI_le (by omega) (by omega) (by omega) (by omega)]; omega), o_ob, ed]; (try rw [jI_add]); rw [ha _ _ (by omega) (by omega), o_ob]; (try rw [show ((h : Int) + (k : Int)).toNat = h + k by omega]); rw [ev, hq _ _ _ (by omega) (by omega), o_ob, Int.toNat_natCast, es, o_lt, ek])
  · intro kk
    have ed : jI ((2 * h : Nat) : Int) / 2 = jI (h : Int) := by rw [j_hf (by omega)]; congr 1; omega
    show fX13_takeHalf_2 kk (m + j) (jI (h : Int)) (MS c m f r (SA h) t) = _
    unfold fX13_takeHalf_2
    rw [hN, o_ob, ed, if_pos (Int32.le_refl _)]
/-- the arrays of the program as they are taken over -/
def tkO (s : SI2) : SI2 := va_up (va_up (va_up (va_up (va_up (va_up (va_up (va_up s 5 (hvA 60 (s 5))) 6 (hvA 120 (s 6))) 7 (hvA 120 (s 7))) 8 (hvA 120 (s 8))) 9 (hvA 60 (s 9))) 10 (hvA 60 (s 10))) 11 (hvA 60 (s 11))) 12 (hvA 256 (s 12))
theorem tkO_ne {j : Nat} (h : j < 5 ∨ 12 < j) : tkO s j = s j := by
  unfold tkO
  ((try rw [va_up_ne _ _ (by omega)]); (try rw [va_up_ne _ _ (by omega)]); (try rw [va_up_ne _ _ (by omega)]); (try rw [va_up_ne _ _ (by omega)]); (try rw [va_up_ne _ _ (by omega)]); (try rw [va_up_ne _ _ (by omega)]); (try rw [va_up_ne _ _ (by omega)]); (try rw [va_up_ne _ _ (by omega)]))
theorem tkO_at : tkO s 5 = hvA 60 (s 5) ∧ tkO s 6 = hvA 120 (s 6) ∧ tkO s 7 = hvA 120 (s 7) ∧ tkO s 8 = hvA 120 (s 8) ∧ tkO s 9 = hvA 60 (s 9) ∧ tkO s 10 = hvA 60 (s 10) ∧ tkO s 11 = hvA 60 (s 11) ∧ tkO s 12 = hvA 256 (s 12) := by
  unfold tkO
  exact ⟨rfl, rfl, rfl, rfl, rfl, rfl, rfl, rfl⟩
theorem Pr_tkO {st : LNS} {Q : Nat → Int} (hO : RdO s tx n st) (hQ : LdR s Q) (h60 : st.1 ≤ 60) (hb : fnd (bdq st) 0 st.1 = -1) (ht : ∀ x, x < st.1 → s 11 (60 + x) = tgt st x) (h13 : f 13 = (st.1 : Int)) : Pr f (tkO s) (pgm st Q) st.1 ∧ STK st := by
  have sk : STK st := ⟨h60, hb, fun k hk => ⟨(hO k hk).2.1, (hO k hk).2.2.2.2⟩⟩
  obtain ⟨e5, e6, e7, e8, e9, e10, e11, e12⟩ := tkO_at (s := s)
  refine ⟨⟨h13, h60, fun k hk => ⟨PGk_pgm sk hk, ?_⟩, fun j hj => ?_⟩, sk⟩
  · obtain ⟨v0, v1, v2, v3, v4, v5, v6, v7, v8, v9, v10, v11, -⟩ := pgm_v st Q k
    obtain ⟨d1, d2, ⟨g1, g2, g3, g4, g5, g6, g7, g8⟩, d4, d5⟩ := hO k hk
    ((try rw [e5]); (try rw [e6]); (try rw [e7]); (try rw [e8]); (try rw [e9]); (try rw [e10]); (try rw [e11]); (try rw [v0]); (try rw [v1]); (try rw [v2]); (try rw [v3]); (try rw [v4]); (try rw [v5]); (try rw [v6]); (try rw [v11]); rw [hvA_lt (by omega), hvA_lt (by omega), hvA_lt (by omega), hvA_lt (by omega), hvA_lt (by omega), hvA_lt (by omega), hvA_lt (by omega), hvA_lt (by omega), hvA_lt (by omega), hvA_lt (by omega)]; (try rw [show 120 + 2 * k = 2 * (60 + k) by omega]); (try rw [show 120 + (2 * k + 1) = 2 * (60 + k) + 1 by omega]))
    refine ⟨d1, fun q => g1 (by omega), fun q => g2 (by omega), fun q => g3 (by omega), fun q => g4 (by omega), fun q => ?_, fun q => ?_, fun q => ht k hk⟩
    · by_cases z : 16 ≤ st.2.1 k ∧ st.2.1 k ≤ 20
      · rw [v7 z.1 z.2]; exact g6 z.1 z.2
      · rw [v8 (by omega)]
        by_cases z2 : st.2.1 k = 14
        · exact (g5 z2).1
        · exact g8 (by omega)
    · by_cases z : st.2.1 k = 14
      · rw [v9 z]; exact (g5 z).2
      · rw [v10 z]; exact g7 (by omega)
  · have b := hQ.1.1 j hj
    rw [e12, hvA_lt hj]
    exact ⟨hQ.2 j hj, b.1, b.2⟩
theorem RowOK_emp {many : Nat} {T : Int} (hT : 0 ≤ T) : RowOK many T emp := by
  have e0 : ∀ j, j < 266 → emp j = 0 := fun j hj => by unfold emp; rw [if_pos hj]
  have e1 : ∀ j, 266 ≤ j → j < 276 → emp j = -1 := fun j a b => by unfold emp; rw [if_neg (by omega), if_pos b]
  have e2 : emp 276 = 1 := rfl
  have e3 : ∀ j, 277 ≤ j → emp j = 0 := fun j a => by unfold emp; rw [if_neg (by omega), if_neg (by omega), if_neg (by omega)]
  refine ⟨fun j hj => by rw [e0 j (by omega)]; omega, fun j => ?_, by rw [e0 264 (by omega)]; omega, by rw [e0 265 (by omega)]; omega, fun q => by rw [e2] at q; omega, by rw [e1 266 (by omega) (by omega)]; omega, fun j a b => by rw [e1 (267 + j) (by omega) (by omega)]; omega, by rw [e2]; omega, by rw [e3 279 (by omega), e3 277 (by omega)], by rw [e3 277 (by omega)]; omega, by rw [e3 278 (by omega), e3 277 (by omega)]; omega, fun j hj => by rw [e3 (354 + j) (by omega), e3 277 (by omega)]; omega, by rw [e3 278 (by omega), e3 280 (by omega)], by rw [e3 280 (by omega)]; omega, ?_, e1 267 (by omega) (by omega)⟩
  · by_cases a : j < 266
    · rw [e0 j a]; omega
    · by_cases b : j < 276
      · rw [e1 j (by omega) b]; omega
      · by_cases d : j = 276
        · rw [d, e2]; omega
        · rw [e3 j (by omega)]; omega
  · rw [e3 289 (by omega), e3 280 (by omega), if_neg (by omega)]
theorem bgn_e {P : PG} {many : Nat} : bgn P many (fun _ => 0) = bgn P many emp := by
  funext k
  unfold bgn
  by_cases a : k < 256
  · rw [if_pos a, if_pos a]
  · rw [if_neg a, if_neg a]
    by_cases b : k < 266
    · rw [if_pos b, if_pos b]
    · rw [if_neg b, if_neg b]
      by_cases d : k < 276
      · rw [if_pos d, if_pos d]
      · rw [if_neg d, if_neg d]
        by_cases e : k = 276
        · rw [if_pos e, if_pos e]
        · rw [if_neg e, if_neg e]
          unfold emp
          rw [if_neg b, if_neg d, if_neg e]
theorem Zt_bgE {P : PG} {many : Nat} : Zt (bgn P many emp) := by
  intro j hj
  unfold bgn emp
  rw [if_neg (by omega), if_neg (by omega), if_neg (by omega), if_neg (by omega), if_neg (by omega), if_neg (by omega), if_neg (by omega)]
theorem s_takeOver {st : LNS} {Q : Nat → Int} (hm : Mo c m) (hO : RdO s tx n st) (hQ : LdR s Q) (h60 : st.1 ≤ 60) (hb : fnd (bdq st) 0 st.1 = -1) (ht : ∀ x, x < st.1 → s 11 (60 + x) = tgt st x) (h14 : f 14 = (st.1 : Int)) (zt : Zt r) :
    fX13_takeOver m (MS c m f r s t) = some (MS c m (va_up (va_up (va_up (va_up f 13 (st.1 : Int)) 58 0) 59 0) 67 0) (bgn (pgm st Q) st.1 emp) (tkO s) t) ∧ Pr (va_up (va_up (va_up (va_up f 13 (st.1 : Int)) 58 0) 59 0) 67 0) (tkO s) (pgm st Q) st.1 ∧ STK st := by
  obtain ⟨f1, hf1⟩ : ∃ f1, f1 = va_up f 13 (st.1 : Int) := ⟨_, rfl⟩
  have g13 : f1 13 = (st.1 : Int) := by rw [hf1, va_up_self]
  obtain ⟨pr, sk⟩ := Pr_tkO (f := f1) (Q := Q) hO hQ h60 hb ht g13
  obtain ⟨p1, p2⟩ := pr
  rw [← hf1]
  refine ⟨?_, ⟨by ((try rw [va_up_ne _ _ (by omega)]); (try rw [va_up_ne _ _ (by omega)]); (try rw [va_up_ne _ _ (by omega)])); exact p1, p2⟩, sk⟩
  have t5 := fun S => s_takeHalf (f := f) (r := r) (s := S) (t := t) (j := 5) (h := 60) (by omega) (fun S => s_aN hm (by omega) (by omega) rfl) (fun S z a b => s_a5 hm a (by omega)) (fun S z v a b => s_q5 hm a (by omega))
  have t6 := fun S => s_takeHalf (f := f) (r := r) (s := S) (t := t) (j := 6) (h := 120) (by omega) (fun S => s_aN hm (by omega) (by omega) rfl) (fun S z a b => s_a6 hm a (by omega)) (fun S z v a b => s_q6 hm a (by omega))
  have t7 := fun S => s_takeHalf (f := f) (r := r) (s := S) (t := t) (j := 7) (h := 120) (by omega) (fun S => s_aN hm (by omega) (by omega) rfl) (fun S z a b => s_a7 hm a (by omega)) (fun S z v a b => s_q7 hm a (by omega))
  have t8 := fun S => s_takeHalf (f := f) (r := r) (s := S) (t := t) (j := 8) (h := 120) (by omega) (fun S => s_aN hm (by omega) (by omega) rfl) (fun S z a b => s_a8 hm a (by omega)) (fun S z v a b => s_q8 hm a (by omega))
  have t9 := fun S => s_takeHalf (f := f) (r := r) (s := S) (t := t) (j := 9) (h := 60) (by omega) (fun S => s_aN hm (by omega) (by omega) rfl) (fun S z a b => s_a9 hm a (by omega)) (fun S z v a b => s_q9 hm a (by omega))
  have t10 := fun S => s_takeHalf (f := f) (r := r) (s := S) (t := t) (j := 10) (h := 60) (by omega) (fun S => s_aN hm (by omega) (by omega) rfl) (fun S z a b => s_a10 hm a (by omega)) (fun S z v a b => s_q10 hm a (by omega))
  have t11 := fun S => s_takeHalf (f := f) (r := r) (s := S) (t := t) (j := 11) (h := 60) (by omega) (fun S => s_aN hm (by omega) (by omega) rfl) (fun S z a b => s_a11 hm a (by omega)) (fun S z v a b => s_q11 hm a (by omega))
  have t12 := fun S => s_takeHalf (f := f) (r := r) (s := S) (t := t) (j := 12) (h := 256) (by omega) (fun S => s_aN hm (by omega) (by omega) rfl) (fun S z a b => s_a12 hm a (by omega)) (fun S z v a b => s_q12 hm a (by omega))
  -- the row is cleared
  have key := lp_up (z := fun _ _ _ => none) (S := fX13_takeOver_66) (β := Hp) (fun kk (k : Nat) => kk m (jI (k : Int)) (MS c m f1 (fun i => if i < k then 0 else r i) (tkO s) t)) (E := some (MS c m (va_up (va_up (va_up f1 58 0) 59 0) 67 0) (bgn (pgm st Q) st.1 emp) (tkO s) t)) (M := 414) ?_ ?_ FU 0 (by omega) (FU_lt (by omega))
  · have z0 : (fun i => if i < 0 then 0 else r i) = r := by funext i; rw [if_neg (by omega)]
    have key : lp (fun _ _ _ => none) fX13_takeOver_66 FU m 0 (MS c m f1 (fun i => if i < 0 then 0 else r i) (tkO s) t) = _ := key
    rw [z0] at key
    unfold fX13_takeOver
    (rw [s_gd _ hm]; (try rw [s_R5 hm]); rw [o_ob]; (try rw [t5]); rw [o_ob]; (try rw [s_R6 hm]); rw [o_ob]; (try rw [t6]); rw [o_ob]; (try rw [s_R7 hm]); rw [o_ob]; (try rw [t7]); rw [o_ob]; (try rw [s_R8 hm]); rw [o_ob]; (try rw [t8]); rw [o_ob]; (try rw [s_R9 hm]); rw [o_ob]; (try rw [t9]); rw [o_ob]; (try rw [s_R10 hm]); rw [o_ob]; (try rw [t10]); rw [o_ob]; (try rw [s_R11 hm]); rw [o_ob]; (try rw [t11]); rw [o_ob]; (try rw [s_R12 hm]); rw [o_ob]; (try rw [t12]); rw [o_ob]; (try rw [s_gI hm]); rw [o_ob]; (try rw [h14]); rw [s_pI hm, o_ob]; (try rw [← hf1]))
    exact key
  · intro k hk kk
    have ek : jI (k : Int) + 1 = jI ((k + 1 : Nat) : Int) := by rw [show (1 : Int32) = jI 1 from rfl, jI_add]; congr 1
    have er : va_up (fun i => if i < k then 0 else r i) k 0 = fun i => if i < k + 1 then 0 else r i := by
      funext i
      by_cases d : i = k
      · (rw [d]; (try rw [va_up_self]); rw [if_pos (by omega)])
      · rw [va_up_ne _ _ d]
        by_cases g : i < k
        · rw [if_pos g, if_pos (by omega)]
        · rw [if_neg g, if_neg (by omega)]
    show fX13_takeOver_66 kk m (jI (k : Int)) (MS c m f1 (fun i => if i < k then 0 else r i) (tkO s) t) = _
    unfold fX13_takeOver_66
    (rw [if_neg (by first | ((simp (disch := omega) only [jI_lit, jI_neg, jI_add, jI_sub, jI_mul, jI_lt, jI_le, jI_eq, jL_lit, jL_lt, jL_le, jL_eq]) <;> omega) | omega)]; (try rw [s_R3 hm]); rw [o_ob]; (try rw [show (0 : Int32) = jI 0 from rfl]); rw [s_q3 hm (by omega) (by omega), o_ob, Int.toNat_natCast, er, o_lt, ek])
  · intro kk
    have er : (fun i => if i < 414 then 0 else r i) = fun _ => (0 : Int) := by
      funext i
      by_cases g : i < 414
      · rw [if_pos g]
      · rw [if_neg g]; exact zt i (by omega)
    have eb := s_beginNow (f := f1) (r := fun _ => 0) (s := tkO s) (t := t) hm ⟨p1, p2⟩
    rw [bgn_e] at eb
    show fX13_takeOver_66 kk m (jI ((414 : Nat) : Int)) (MS c m f1 (fun i => if i < 414 then 0 else r i) (tkO s) t) = _
    unfold fX13_takeOver_66
    (rw [er, if_pos (by first | ((simp (disch := omega) only [jI_lit, jI_neg, jI_add, jI_sub, jI_mul, jI_lt, jI_le, jI_eq, jL_lit, jL_lt, jL_le, jL_eq]) <;> omega) | omega), eb, o_ob]; (try rw [show (0 : Int32) = jI 0 from rfl]); rw [s_pI hm, o_ob, s_pI hm, o_ob, s_pZ0 hm, o_ob])
end RUQ
