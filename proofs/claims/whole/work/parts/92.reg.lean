section RRG
variable {c : MC} {m : Nat} {f r : Nat → Int} {s t : SI2}
def prB (r : Nat → Int) (A q : Nat) : (Nat → Int) × Option FT6 :=
  if (if pks r A 8 then -(pkv r A 8 : Int) else pkv r A 8) < -2147483648 ∨ 2147483647 < (if pks r A 8 then -(pkv r A 8 : Int) else pkv r A 8) then (r, some (8, 0, (A : Int), 8, -1, 0)) else (va_up r (256 + q) (if pks r A 8 then -(pkv r A 8 : Int) else pkv r A 8), none)
theorem LV_two {g : Nat → Int} {v : Nat} (h : LV g v) (lv : v < 10 ^ 15) : g 1 * 100000000 + g 0 = (v : Int) ∧ 0 ≤ g 1 ∧ g 1 < 100000000 ∧ 0 ≤ g 0 ∧ g 0 < 100000000 := by
  have h0 := h 0 (by omega)
  have h1 := h 1 (by omega)
  unfold dgb at h0 h1
  rw [Nat.pow_zero, Nat.div_one] at h0
  rw [Nat.pow_one] at h1
  have l15 : (10 : Nat) ^ 15 = 1000000000000000 := rfl
  omega
theorem s_doBinary {A q : Nat} (hm : Mo c m) (hb : Byt r) (e34 : f 34 = (A : Int)) (e35 : f 35 = 8) (hA : A + 8 ≤ 256) (sA : Snd r A 8) (h0 : f 38 = 0) (hq : q < 8) :
    ∃ f' t', fX13_doBinary m (jI (q : Int)) (MS c m f r s t) = some (MS c m f' (prB r A q).1 s t') ∧ Stg f f' (prB r A q).2 := by
  have la := hf_lt hb (h := 2 * (A + 8) - 1) (by omega)
  have lv := pkv_lt hb hA sA
  have lv : pkv r A 8 < 10 ^ 15 := lv
  obtain ⟨v, hv⟩ : ∃ v, v = pkv r A 8 := ⟨_, rfl⟩
  have e8 : f 35 = ((8 : Nat) : Int) := e35
  have hT := LV_two (g := Lz (t 18) (pkv r A 8)) (LV_Lz _ _) lv
  have l15 : (10 : Nat) ^ 15 = 1000000000000000 := rfl
  unfold fX13_doBinary
  (rw [s_gd _ hm]; (try rw [s_R30 hm]); rw [o_ob]; (try rw [s_gI hm]); rw [o_ob]; (try rw [s_gI hm]); rw [o_ob]; (try rw [e34]); (try rw [e8]); rw [s_load hm hb (by omega) (by omega) hA (by omega) (by omega) sA, o_ob]; (try rw [s_R30 hm]); rw [o_ob]; (try rw [show (1 : Int32) = jI 1 from rfl]); rw [s_a18 hm (by omega) (by omega), o_ob]; (try rw [s_R30 hm]); rw [o_ob]; (try rw [show (0 : Int32) = jI 0 from rfl]); rw [s_a18 hm (by omega) (by omega), o_ob]; (try rw [va_up_self]); (try rw [show (1 : Int).toNat = 1 from rfl]); (try rw [show (0 : Int).toNat = 0 from rfl]); (try rw [show (100000000 : Int64) = jL 100000000 from rfl]); rw [jL_mul, jL_add, hT.1, o_lt]; (try rw [s_gI hm]); rw [o_ob]; (try rw [s_gI hm]); rw [o_ob]; (try rw [e34]); (try rw [e8]); rw [s_sign hm hb hA (by omega), o_ob, w_below (by omega) (by omega), o_ob]; (try rw [show b2 (bel (hf r (2 * (A + 8) - 1))) = b2 (pks r A 8) from rfl]); (try rw [← hv]))
  rw [← hv] at lv
  have main : ∀ (T : SI2) (y : Int), (y = if pks r A 8 then 2147483648 else 2147483647) → ∃ f' t', fX13_doBinary_66 m (jI (q : Int)) (jL (v : Int)) (jI (b2 (pks r A 8))) (jL y) (jL (v : Int)) (MS c m f r s T) = some (MS c m f' (prB r A q).1 s t') ∧ Stg f f' (prB r A q).2 := by
    intro T y hy
    have yr : 0 ≤ y ∧ y < 3000000000 := by rw [hy]; split <;> omega
    unfold fX13_doBinary_66 fX13_doBinary_100 prB
    rw [← hv]
    by_cases g : (v : Int) ≤ y
    · have nb : ¬ ((if pks r A 8 then -(v : Int) else v) < -2147483648 ∨ 2147483647 < (if pks r A 8 then -(v : Int) else v)) := by
        cases hs : pks r A 8 with
        | true => rw [hs] at hy; simp at hy ⊢; omega
        | false => rw [hs] at hy; simp at hy ⊢; omega
      ((try rw [show (0 : Int32) = jI 0 from rfl]); rw [if_pos ((cmp_le _ _).2 ((jL_le (by omega) (by omega) (by omega) (by omega)).2 g)), if_neg nb]; (try rw [s_R3 hm]); rw [o_ob])
      cases hs : pks r A 8 with
      | false =>
        (rw [if_pos (show jI (b2 false) = jI 0 from rfl)]; (try rw [show (256 : Int32) = jI 256 from rfl]); (try rw [jI_add]); rw [jL_short, s_q3 hm (by omega) (by omega), o_ob]; (try rw [show (256 + (q : Int)).toNat = 256 + q by omega]))
        exact ⟨f, T, rfl, fun _ _ => rfl, h0⟩
      | true =>
        (rw [if_neg (show ¬ jI (b2 true) = jI 0 by decide)]; (try rw [show (256 : Int32) = jI 256 from rfl]); (try rw [jI_add]); rw [jL_neg, jL_short, s_q3 hm (by omega) (by omega), o_ob]; (try rw [show (256 + (q : Int)).toNat = 256 + q by omega]))
        exact ⟨f, T, rfl, fun _ _ => rfl, h0⟩
    · have nb : ((if pks r A 8 then -(v : Int) else v) < -2147483648 ∨ 2147483647 < (if pks r A 8 then -(v : Int) else v)) := by
        cases hs : pks r A 8 with
        | true => rw [hs] at hy; simp at hy ⊢; omega
        | false => rw [hs] at hy; simp at hy ⊢; omega
      ((try rw [show (0 : Int32) = jI 0 from rfl]); rw [if_neg (fun e => g ((jL_le (by omega) (by omega) (by omega) (by omega)).1 ((cmp_le _ _).1 e))), if_pos nb]; (try rw [show (8 : Int32) = jI 8 from rfl]); rw [s_raise0 hm h0, o_ob]; (try rw [e34]); (try rw [e8]))
      exact ⟨_, T, rfl, Stg_v⟩
  cases hs : pks r A 8 with
  | false =>
    rw [if_pos (show jI (b2 false) = jI 0 from rfl), show (2147483647 : Int64) = jL 2147483647 from rfl]
    rw [hs] at main
    exact main _ 2147483647 rfl
  | true =>
    rw [if_neg (show ¬ jI (b2 true) = jI 0 by decide), show (2147483648 : Int64) = jL 2147483648 from rfl]
    rw [hs] at main
    exact main _ 2147483648 rfl
theorem s_doDecimal {A q : Nat} (hm : Mo c m) (hb : Byt r) (e34 : f 34 = (A : Int)) (e35 : f 35 = 8) (hA : A + 8 ≤ 256) (hq : q < 8) (hr : -2147483648 ≤ r (256 + q) ∧ r (256 + q) < 2147483648) :
    ∃ t', fX13_doDecimal m (jI (q : Int)) (MS c m f r s t) = some (MS c m f (sto r A 8 (r (256 + q)).natAbs (if r (256 + q) < 0 then 13 else 12)) s t') := by
  have e8 : f 35 = ((8 : Nat) : Int) := e35
  obtain ⟨z, hz⟩ : ∃ z, z = r (256 + q) := ⟨_, rfl⟩
  unfold fX13_doDecimal
  (rw [s_gd _ hm]; (try rw [s_R3 hm]); rw [o_ob]; (try rw [show (256 : Int32) = jI 256 from rfl]); (try rw [jI_add]); rw [s_a3 hm (by omega) (by omega), o_ob]; (try rw [show (256 + (q : Int)).toNat = 256 + q by omega]); (try rw [← hz]))
  rw [← hz] at hr
  (rw [jI_long hr.1 hr.2, o_lt]; (try rw [s_R30 hm]); rw [o_ob, s_clear hm (by omega) (by omega), o_ob]; (try rw [s_R30 hm]); rw [o_ob, jL_abs (by omega) (by omega)]; (try rw [show (100000000 : Int64) = jL 100000000 from rfl]); rw [jL_rem (by omega) (by omega) (by omega) (by omega)]; (try rw [show (0 : Int32) = jI 0 from rfl]); rw [s_q18 hm (by omega) (by omega), o_ob]; (try rw [s_R30 hm]); rw [o_ob, jL_div (by omega) (by omega) (by omega) (by omega)]; (try rw [show (1 : Int32) = jI 1 from rfl]); rw [s_q18 hm (by omega) (by omega), o_ob]; (try rw [s_gI hm]); rw [o_ob]; (try rw [s_gI hm]); rw [o_ob]; (try rw [s_R30 hm]); rw [o_ob]; (try rw [e34]); (try rw [e8]); (try rw [va_up_self]); (try rw [upup]); (try rw [show (1 : Int).toNat = 1 from rfl]); (try rw [show (0 : Int).toNat = 0 from rfl]))
  obtain ⟨T, hT⟩ : ∃ T, T = va_up (va_up (va_up t 18 (Lz (t 18) 0)) 18 (va_up (Lz (t 18) 0) 0 ((z.natAbs : Int) % 100000000))) 18 (va_up ((va_up (va_up t 18 (Lz (t 18) 0)) 18 (va_up (Lz (t 18) 0) 0 ((z.natAbs : Int) % 100000000))) 18) 1 ((z.natAbs : Int) / 100000000)) := ⟨_, rfl⟩
  have lT : ∀ G : Nat → Int, G = va_up (va_up (Lz (t 18) 0) 0 ((z.natAbs : Int) % 100000000)) 1 ((z.natAbs : Int) / 100000000) → LV G z.natAbs := by
    intro G hG i hi
    rw [hG]
    by_cases i1 : i = 1
    · rw [i1, va_up_self]
      unfold dgb
      rw [Nat.pow_one]
      omega
    · rw [va_up_ne _ _ i1]
      by_cases i0 : i = 0
      · rw [i0, va_up_self]
        unfold dgb
        rw [Nat.pow_zero, Nat.div_one]
        omega
      · rw [va_up_ne _ _ i0, LV_Lz (t 18) 0 i hi]
        have h16 : z.natAbs < 100000000 ^ i := by
          have h2 : 100000000 ^ 2 ≤ 100000000 ^ i := Nat.pow_le_pow_right (by omega) (by omega)
          have h3 : 100000000 ^ 2 = 10000000000000000 := rfl
          omega
        rw [dgb_0 (show 0 < 100000000 ^ i from Nat.pow_pos (by omega)), dgb_0 h16]
  have main : ∀ (T : SI2) (y : Bool), LV (T 18) z.natAbs → fX13_doDecimal_71 (jI (b2 y)) (m + 18) (jI ((8 : Nat) : Int)) (jI (A : Int)) m (MS c m f r s T) = some (MS c m f (sto r A 8 z.natAbs (if y then 13 else 12)) s T) := by
    intro T y hT
    unfold fX13_doDecimal_71
    rw [s_store hm hb (by omega) (by omega) hA (by omega) (by omega) hT, o_ob]
  by_cases g : z < 0
  · rw [if_neg (fun e => by
      have := (cmp_ge _ _).1 e
      rw [show (0 : Int64) = jL 0 from rfl, jL_le (by omega) (by omega) (by omega) (by omega)] at this
      omega), show jI 1 = jI (b2 true) from rfl]
    rw [main _ true (lT _ (by simp only [va_up_self])), if_pos g]
    exact ⟨_, rfl⟩
  · (rw [if_pos ((cmp_ge _ _).2 (by rw [show (0 : Int64) = jL 0 from rfl, jL_le (by omega) (by omega) (by omega) (by omega)]; omega))]; (try rw [show jI 0 = jI (b2 false) from rfl]); rw [main _ false (lT _ (by simp only [va_up_self])), if_neg g])
    exact ⟨_, rfl⟩
theorem fnd_snoc {q : Nat → Bool} : ∀ {n lo : Nat}, (fnd q lo (n + 1) = -1) ↔ (fnd q lo n = -1 ∧ q (lo + n) = false)
  | 0, lo => by
    cases h : q lo with
    | true =>
      rw [fnd_at h]
      exact ⟨fun x => by omega, fun x => absurd x.2 (by decide)⟩
    | false =>
      rw [fnd_nx h]
      exact ⟨fun _ => ⟨rfl, rfl⟩, fun _ => rfl⟩
  | n + 1, lo => by
    cases h : q lo with
    | true =>
      rw [fnd_at h, fnd_at h]
      constructor <;> intro x
      · omega
      · omega
    | false => (rw [fnd_nx h, fnd_nx h, fnd_snoc]; (try rw [show lo + 1 + n = lo + (n + 1) by omega]))
theorem s_doTest {A n : Nat} (hm : Mo c m) (hb : Byt r) (e34 : f 34 = (A : Int)) (e35 : f 35 = (n : Int)) (hA : A + n ≤ 256) (n1 : 1 ≤ n) :
    fX13_doTest m (MS c m f r s t) = some (MS c m f (va_up r 264 ((if fnd (fun h => 9 < hf r h) (2 * A) (2 * n - 1) = -1 then 0 else 2) + (if 9 < hf r (2 * (A + n) - 1) then 0 else 1))) s t) := by
  unfold fX13_doTest
  (rw [s_gd _ hm]; (try rw [s_gI hm]); rw [o_ob]; (try rw [s_gI hm]); rw [o_ob]; (try rw [e34]); (try rw [e35]); (try rw [show (2 : Int32) = jI 2 from rfl]); (try rw [show (1 : Int32) = jI 1 from rfl]); (try rw [jI_add]); (try rw [jI_mul]); (try rw [jI_sub]); rw [o_lt]; (try rw [s_gI hm]); rw [o_ob]; (try rw [e34]); (try rw [jI_mul]); rw [o_lt])
  have key := lp_up (z := fun _ _ _ _ _ => none) (S := fX13_doTest_23) (β := Hp) (fun k (i : Nat) => k m (jI (if fnd (fun h => 9 < hf r h) (2 * A) i = -1 then 0 else 2)) (jI (2 * ((A : Int) + (n : Int)) - 1)) (jI (2 * (A : Int) + (i : Int))) (MS c m f r s t)) (E := some (MS c m f (va_up r 264 ((if fnd (fun h => 9 < hf r h) (2 * A) (2 * n - 1) = -1 then 0 else 2) + (if 9 < hf r (2 * (A + n) - 1) then 0 else 1))) s t)) (M := 2 * n - 1) ?_ ?_ FU 0 (by omega) (FU_lt (by omega))
  · rw [show (2 * (A : Int) + ((0 : Nat) : Int)) = 2 * (A : Int) by omega] at key
    exact key
  · intro i hi k
    have hl := hf_lt hb (h := 2 * A + i) (by omega)
    have sn := fnd_snoc (q := fun h => 9 < hf r h) (n := i) (lo := 2 * A)
    unfold fX13_doTest_23
    (rw [if_neg (by first | ((simp (disch := omega) only [jI_lit, jI_neg, jI_add, jI_sub, jI_mul, jI_lt, jI_le, jI_eq, jL_lit, jL_lt, jL_le, jL_eq]) <;> omega) | omega), s_half hm hb (by omega) (by omega), o_ob]; (try rw [show (2 * (A : Int) + (i : Int)).toNat = 2 * A + i by omega]); rw [o_lt]; (try rw [show (1 : Int32) = jI 1 from rfl]); (try rw [jI_add]); (try rw [show 2 * (A : Int) + (i : Int) + 1 = 2 * (A : Int) + ((i + 1 : Nat) : Int) by omega]))
    by_cases g : hf r (2 * A + i) ≤ 9
    · have e : (fnd (fun h => 9 < hf r h) (2 * A) (i + 1) = -1) = (fnd (fun h => 9 < hf r h) (2 * A) i = -1) := propext (sn.trans ⟨fun x => x.1, fun x => ⟨x, by simp; omega⟩⟩)
      rw [if_pos (by first | ((simp (disch := omega) only [jI_lit, jI_neg, jI_add, jI_sub, jI_mul, jI_lt, jI_le, jI_eq, jL_lit, jL_lt, jL_le, jL_eq]) <;> omega) | omega)]
      simp only [e]
    · have e : ¬ (fnd (fun h => 9 < hf r h) (2 * A) (i + 1) = -1) := fun x => by
        have := (sn.1 x).2
        simp at this
        omega
      rw [if_neg (by first | ((simp (disch := omega) only [jI_lit, jI_neg, jI_add, jI_sub, jI_mul, jI_lt, jI_le, jI_eq, jL_lit, jL_lt, jL_le, jL_eq]) <;> omega) | omega), o_lt, if_neg e]
      rfl
  · intro k
    have hl := hf_lt hb (h := 2 * (A + n) - 1) (by omega)
    obtain ⟨x, hx⟩ : ∃ x : Int, x = if fnd (fun h => 9 < hf r h) (2 * A) (2 * n - 1) = -1 then 0 else 2 := ⟨_, rfl⟩
    unfold fX13_doTest_23 fX13_doTest_73
    ((try rw [← hx]); rw [if_pos (by first | ((simp (disch := omega) only [jI_lit, jI_neg, jI_add, jI_sub, jI_mul, jI_lt, jI_le, jI_eq, jL_lit, jL_lt, jL_le, jL_eq]) <;> omega) | omega)]; (try rw [s_R3 hm]); rw [o_ob, s_half hm hb (by omega) (by omega), o_ob]; (try rw [show (2 * ((A : Int) + (n : Int)) - 1).toNat = 2 * (A + n) - 1 by omega]))
    by_cases g : hf r (2 * (A + n) - 1) ≤ 9
    · (rw [if_pos (by first | ((simp (disch := omega) only [jI_lit, jI_neg, jI_add, jI_sub, jI_mul, jI_lt, jI_le, jI_eq, jL_lit, jL_lt, jL_le, jL_eq]) <;> omega) | omega), if_neg (show ¬ 9 < hf r (2 * (A + n) - 1) by omega)]; (try rw [show (1 : Int32) = jI 1 from rfl]); (try rw [jI_add]); (try rw [show (264 : Int32) = jI 264 from rfl]); rw [s_q3 hm (by omega) (by omega), o_ob])
      rfl
    · (rw [if_neg (by first | ((simp (disch := omega) only [jI_lit, jI_neg, jI_add, jI_sub, jI_mul, jI_lt, jI_le, jI_eq, jL_lit, jL_lt, jL_le, jL_eq]) <;> omega) | omega), if_pos (show 9 < hf r (2 * (A + n) - 1) by omega)]; (try rw [show (0 : Int32) = jI 0 from rfl]); (try rw [jI_add]); (try rw [show (264 : Int32) = jI 264 from rfl]); rw [s_q3 hm (by omega) (by omega), o_ob])
      rfl
theorem bts_on : ∀ z : Fin 16, ∀ d : Fin 4, (jI ((z.val : Nat) : Int) >>> (jI ((d.val : Nat) : Int) &&& jI 31)) &&& jI 1 = jI ((z.val / 2 ^ d.val % 2 : Nat) : Int) := by decide +kernel
/-- what the registers' instructions leave: the row, what is next -/
def prR (P : PG) (r : Nat → Int) (k : Nat) : (Nat → Int) × Int :=
  if P 0 k = 18 then (va_up r (256 + (P 4 k).toNat) (adr P r k 0), (k : Int) + 1)
  else if P 0 k = 19 then (va_up r (256 + (P 4 k).toNat) (bm (r (256 + (P 4 k).toNat) + P 5 k)), (k : Int) + 1)
  else if P 0 k = 20 then (va_up r (256 + (P 4 k).toNat) (bm (r (256 + (P 4 k).toNat) - 1)), if bm (r (256 + (P 4 k).toNat) - 1) = 0 then (k : Int) + 1 else P 6 k)
  else if P 0 k = 21 then (r, if (P 4 k).toNat / 2 ^ (3 - (r 264).toNat) % 2 = 1 then P 6 k else (k : Int) + 1)
  else if P 0 k = 22 then (va_up r (267 + (P 4 k).toNat) (P 6 k), (k : Int) + 1)
  else if P 0 k = 23 then (r, if r 266 = -1 then (k : Int) + 1 else r 266 + 1)
  else (r, (k : Int) + 1)
theorem s_doRegister {P : PG} {many k : Nat} (hm : Mo c m) (hp : Pr f s P many) (hk : k < many) (o18 : 18 ≤ P 0 k) (e44 : f 44 = (k : Int) + 1) (h264 : 0 ≤ r 264 ∧ r 264 ≤ 3) (h266 : -1 ≤ r 266 ∧ r 266 < 100) (hrg : ∀ q, q < 8 → -2147483648 ≤ r (256 + q) ∧ r (256 + q) < 2147483648) :
    ∃ f', fX13_doRegister m (jI (k : Int)) (jI (P 0 k)) (MS c m f r s t) = some (MS c m f' (prR P r k).1 s t) ∧ (∀ j, j ≠ 44 → f' j = f j) ∧ f' 44 = (prR P r k).2 := by
  obtain ⟨-, hm60, hins, -⟩ := hp
  obtain ⟨pg, -, i6, -, -, -, i9, i10, i11⟩ := hins k hk
  obtain ⟨⟨o0, o1⟩, g1, -, -, -, -, -, g4, g5, g6, g7, g8, g9⟩ := pg
  clear hins
  unfold fX13_doRegister prR
  (rw [s_gd _ hm]; (try rw [s_R9 hm]); rw [o_ob, s_a9 hm (by omega) (by omega), o_ob]; (try rw [show ((k : Int)).toNat = k by omega]))
  by_cases x18 : P 0 k = 18
  · have e9 := i9 (by omega)
    have a6 := i6 (by omega)
    have q4 := g4 (by omega) (by omega)
    have b1 := g1 (by omega)
    have ea := s_adr (f := f) (r := r) (t := t) (P := P) (k := k) (j := 0) hm (by omega) (by omega) a6.1 a6.2 b1.2.2.1 b1.2.2.2
    (rw [if_pos (by first | ((simp (disch := omega) only [jI_lit, jI_neg, jI_add, jI_sub, jI_mul, jI_lt, jI_le, jI_eq, jL_lit, jL_lt, jL_le, jL_eq]) <;> omega) | omega), if_pos x18]; (try rw [s_R3 hm]); rw [o_ob]; (try rw [show (0 : Int32) = jI ((0 : Nat) : Int) from rfl]); rw [ea, o_ob]; (try rw [e9]); (try rw [show (256 : Int32) = jI 256 from rfl]); (try rw [jI_add]); rw [s_q3 hm (by omega) (by omega), o_ob]; (try rw [show (256 + P 4 k).toNat = 256 + (P 4 k).toNat by omega]))
    exact ⟨f, rfl, fun _ _ => rfl, e44⟩
  rw [if_neg (by first | ((simp (disch := omega) only [jI_lit, jI_neg, jI_add, jI_sub, jI_mul, jI_lt, jI_le, jI_eq, jL_lit, jL_lt, jL_le, jL_eq]) <;> omega) | omega), if_neg x18]
  by_cases x19 : P 0 k = 19
  · have e9 := i9 (by omega)
    have e10 := i10 (by omega)
    have q4 := g4 (by omega) (by omega)
    (rw [if_pos (by first | ((simp (disch := omega) only [jI_lit, jI_neg, jI_add, jI_sub, jI_mul, jI_lt, jI_le, jI_eq, jL_lit, jL_lt, jL_le, jL_eq]) <;> omega) | omega), if_pos x19]; (try rw [s_R3 hm]); rw [o_ob]; (try rw [e9]); (try rw [show (256 : Int32) = jI 256 from rfl]); (try rw [jI_add]); rw [s_a3 hm (by omega) (by omega), o_ob]; (try rw [s_R10 hm]); rw [o_ob, s_a10 hm (by omega) (by omega), o_ob]; (try rw [show ((k : Int)).toNat = k by omega]); (try rw [e10]); (try rw [show (256 + P 4 k).toNat = 256 + (P 4 k).toNat by omega]); (try rw [jI_add]); rw [jI_bm (r (256 + (P 4 k).toNat) + P 5 k), s_q3 hm (by omega) (by omega), o_ob]; (try rw [show (256 + P 4 k).toNat = 256 + (P 4 k).toNat by omega]))
    exact ⟨f, rfl, fun _ _ => rfl, e44⟩
  rw [if_neg (by first | ((simp (disch := omega) only [jI_lit, jI_neg, jI_add, jI_sub, jI_mul, jI_lt, jI_le, jI_eq, jL_lit, jL_lt, jL_le, jL_eq]) <;> omega) | omega), if_neg x19]
  by_cases x20 : P 0 k = 20
  · have e9 := i9 (by omega)
    have e11 := i11 (by omega)
    have q4 := g4 (by omega) (by omega)
    have bz := bm_r (r (256 + (P 4 k).toNat) - 1)
    (rw [if_pos (by first | ((simp (disch := omega) only [jI_lit, jI_neg, jI_add, jI_sub, jI_mul, jI_lt, jI_le, jI_eq, jL_lit, jL_lt, jL_le, jL_eq]) <;> omega) | omega), if_pos x20]; (try rw [s_R3 hm]); rw [o_ob]; (try rw [e9]); (try rw [show (256 : Int32) = jI 256 from rfl]); (try rw [jI_add]); rw [s_a3 hm (by omega) (by omega), o_ob]; (try rw [show (256 + P 4 k).toNat = 256 + (P 4 k).toNat by omega]); (try rw [show (1 : Int32) = jI 1 from rfl]); (try rw [jI_sub]); rw [jI_bm (r (256 + (P 4 k).toNat) - 1), s_q3 hm (by omega) (by omega), o_ob]; (try rw [s_R3 hm]); rw [o_ob, s_a3 hm (by omega) (by omega), o_ob]; (try rw [show (256 + P 4 k).toNat = 256 + (P 4 k).toNat by omega]); (try rw [va_up_self]))
    by_cases z : bm (r (256 + (P 4 k).toNat) - 1) = 0
    · rw [if_pos (by rw [z]; rfl), if_pos z]
      exact ⟨f, rfl, fun _ _ => rfl, e44⟩
    · (rw [if_neg (by first | ((simp (disch := omega) only [jI_lit, jI_neg, jI_add, jI_sub, jI_mul, jI_lt, jI_le, jI_eq, jL_lit, jL_lt, jL_le, jL_eq]) <;> omega) | omega), if_neg z]; (try rw [s_R11 hm]); rw [o_ob, s_a11 hm (by omega) (by omega), o_ob]; (try rw [show ((k : Int)).toNat = k by omega]); (try rw [e11]); rw [s_pI hm, o_ob])
      exact ⟨_, rfl, fun j hj => va_up_ne _ _ hj, va_up_self _ _ _⟩
  rw [if_neg (by first | ((simp (disch := omega) only [jI_lit, jI_neg, jI_add, jI_sub, jI_mul, jI_lt, jI_le, jI_eq, jL_lit, jL_lt, jL_le, jL_eq]) <;> omega) | omega), if_neg x20]
  by_cases x21 : P 0 k = 21
  · have e9 := i9 (by omega)
    have e11 := i11 (by omega)
    have q6 := g6 x21
    obtain ⟨d, hd⟩ : ∃ d : Nat, d = 3 - (r 264).toNat := ⟨_, rfl⟩
    obtain ⟨z, hz⟩ : ∃ z : Nat, z = (P 4 k).toNat := ⟨_, rfl⟩
    have eb := bts_on ⟨z, by omega⟩ ⟨d, by omega⟩
    have eb : (jI (z : Int) >>> (jI (d : Int) &&& jI 31)) &&& jI 1 = jI ((z / 2 ^ d % 2 : Nat) : Int) := eb
    have zz := Nat.mod_lt (z / 2 ^ d) (show 0 < 2 by omega)
    (rw [if_pos (by first | ((simp (disch := omega) only [jI_lit, jI_neg, jI_add, jI_sub, jI_mul, jI_lt, jI_le, jI_eq, jL_lit, jL_lt, jL_le, jL_eq]) <;> omega) | omega), if_pos x21]; (try rw [s_R3 hm]); rw [o_ob]; (try rw [show (264 : Int32) = jI 264 from rfl]); rw [s_a3 hm (by omega) (by omega), o_ob]; (try rw [e9]); (try rw [show (3 : Int32) = jI 3 from rfl]); (try rw [jI_sub]); (try rw [show (264 : Int).toNat = 264 from rfl]); (try rw [show (3 - r 264 : Int) = (d : Int) by omega]); (try rw [show P 4 k = (z : Int) by omega]); (try rw [show (31 : Int32) = jI 31 from rfl]); (try rw [show (1 : Int32) = jI 1 from rfl]); rw [eb]; (try rw [← hd]); (try rw [show ((z : Int)).toNat = z by omega]))
    by_cases w : z / 2 ^ d % 2 = 1
    · (rw [if_pos (by rw [w]; rfl), if_pos w]; (try rw [s_R11 hm]); rw [o_ob, s_a11 hm (by omega) (by omega), o_ob]; (try rw [show ((k : Int)).toNat = k by omega]); (try rw [e11]); rw [s_pI hm, o_ob])
      exact ⟨_, rfl, fun j hj => va_up_ne _ _ hj, va_up_self _ _ _⟩
    · rw [if_neg (by first | ((simp (disch := omega) only [jI_lit, jI_neg, jI_add, jI_sub, jI_mul, jI_lt, jI_le, jI_eq, jL_lit, jL_lt, jL_le, jL_eq]) <;> omega) | omega), if_neg w]
      exact ⟨f, rfl, fun _ _ => rfl, e44⟩
  rw [if_neg (by first | ((simp (disch := omega) only [jI_lit, jI_neg, jI_add, jI_sub, jI_mul, jI_lt, jI_le, jI_eq, jL_lit, jL_lt, jL_le, jL_eq]) <;> omega) | omega), if_neg x21]
  by_cases x22 : P 0 k = 22
  · have e9 := i9 (by omega)
    have e11 := i11 (by omega)
    have q7 := g7 x22
    (rw [if_pos (by first | ((simp (disch := omega) only [jI_lit, jI_neg, jI_add, jI_sub, jI_mul, jI_lt, jI_le, jI_eq, jL_lit, jL_lt, jL_le, jL_eq]) <;> omega) | omega), if_pos x22]; (try rw [s_R3 hm]); rw [o_ob]; (try rw [s_R11 hm]); rw [o_ob, s_a11 hm (by omega) (by omega), o_ob]; (try rw [show ((k : Int)).toNat = k by omega]); (try rw [e9]); (try rw [e11]); (try rw [show (267 : Int32) = jI 267 from rfl]); (try rw [jI_add]); rw [s_q3 hm (by omega) (by omega), o_ob]; (try rw [show (267 + P 4 k).toNat = 267 + (P 4 k).toNat by omega]))
    exact ⟨f, rfl, fun _ _ => rfl, e44⟩
  rw [if_neg (by first | ((simp (disch := omega) only [jI_lit, jI_neg, jI_add, jI_sub, jI_mul, jI_lt, jI_le, jI_eq, jL_lit, jL_lt, jL_le, jL_eq]) <;> omega) | omega), if_neg x22]
  by_cases x23 : P 0 k = 23
  · (rw [if_pos (by first | ((simp (disch := omega) only [jI_lit, jI_neg, jI_add, jI_sub, jI_mul, jI_lt, jI_le, jI_eq, jL_lit, jL_lt, jL_le, jL_eq]) <;> omega) | omega), if_pos x23]; (try rw [s_R3 hm]); rw [o_ob]; (try rw [show (266 : Int32) = jI 266 from rfl]); rw [s_a3 hm (by omega) (by omega), o_ob]; (try rw [show (266 : Int).toNat = 266 from rfl]))
    by_cases z : r 266 = -1
    · rw [if_pos (by rw [z]; rfl), if_pos z]
      exact ⟨f, rfl, fun _ _ => rfl, e44⟩
    · (rw [if_neg (by first | ((simp (disch := omega) only [jI_lit, jI_neg, jI_add, jI_sub, jI_mul, jI_lt, jI_le, jI_eq, jL_lit, jL_lt, jL_le, jL_eq]) <;> omega) | omega), if_neg z]; (try rw [s_R3 hm]); rw [o_ob, s_a3 hm (by omega) (by omega), o_ob]; (try rw [show (266 : Int).toNat = 266 from rfl]); (try rw [show (1 : Int32) = jI 1 from rfl]); (try rw [jI_add]); rw [s_pI hm, o_ob])
      exact ⟨_, rfl, fun j hj => va_up_ne _ _ hj, va_up_self _ _ _⟩
  rw [if_neg (by first | ((simp (disch := omega) only [jI_lit, jI_neg, jI_add, jI_sub, jI_mul, jI_lt, jI_le, jI_eq, jL_lit, jL_lt, jL_le, jL_eq]) <;> omega) | omega), if_neg x23]
  exact ⟨f, rfl, fun _ _ => rfl, e44⟩
end RRG
