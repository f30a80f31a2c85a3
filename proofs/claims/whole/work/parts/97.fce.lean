section RFB
variable {c : MC} {m : Nat} {f r : Nat → Int} {s t : SI2} {many k mm n : Nat} {P : PG} {A : Nat → Nat → Int} {nt cr tp : Nat → Int} {fp : Int} {im : Option DS}
theorem s_undone {P : PG} {many : Nat} (hm : Mo c m) (hp : Pr f s P many) (hr : ∀ j, j < 60 → -2147483648 ≤ r (354 + j) ∧ r (354 + j) < 2147483648) : fX13_undone m (MS c m f r s t) = some (jI (cnt (fun i => r (354 + i) == 0) many : Nat)) := by
  have e13 := hp.1
  have h60 := hp.2.1
  unfold fX13_undone
  rw [s_gd _ hm]
  have key := lp_up (z := fun _ _ _ => none) (S := fX13_undone_4 (MS c m f r s t)) (β := Int32) (fun k (i : Nat) => k m (jI ((cnt (fun i => r (354 + i) == 0) i : Nat) : Int)) (jI (i : Int))) (E := some (jI (cnt (fun i => r (354 + i) == 0) many : Nat))) (M := many) ?_ ?_ FU 0 (by omega) (FU_lt (by omega))
  · exact key
  · intro i hi kk
    have b := hr i (by omega)
    have e : cnt (fun i => r (354 + i) == 0) (i + 1) = cnt (fun i => r (354 + i) == 0) i + if (r (354 + i) == 0) = true then 1 else 0 := rfl
    unfold fX13_undone_4
    ((try rw [s_gI hm]); rw [o_ob]; (try rw [e13]); rw [if_neg (by first | ((simp (disch := omega) only [jI_lit, jI_neg, jI_add, jI_sub, jI_mul, jI_lt, jI_le, jI_eq, jL_lit, jL_lt, jL_le, jL_eq]) <;> omega) | omega)]; (try rw [s_R3 hm]); rw [o_ob]; (try rw [show (354 : Int32) = jI 354 from rfl]); (try rw [jI_add]); rw [s_a3 hm (by omega) (by omega), o_ob]; (try rw [show (354 + (i : Int)).toNat = 354 + i by omega]))
    by_cases z : r (354 + i) = 0
    · have zb : (r (354 + i) == 0) = true := by simpa using z
      rw [if_pos zb] at e
      (rw [if_pos (by rw [z]; rfl), o_lt, o_lt]; (try rw [show (1 : Int32) = jI 1 from rfl]); (try rw [jI_add]); (try rw [jI_add]); rw [e])
      rfl
    · have zb : ¬ (r (354 + i) == 0) = true := by simpa using z
      rw [if_neg zb] at e
      (rw [if_neg (by first | ((simp (disch := omega) only [jI_lit, jI_neg, jI_add, jI_sub, jI_mul, jI_lt, jI_le, jI_eq, jL_lit, jL_lt, jL_le, jL_eq]) <;> omega) | omega), o_lt, o_lt]; (try rw [show (1 : Int32) = jI 1 from rfl]); (try rw [show (0 : Int32) = jI 0 from rfl]); (try rw [jI_add]); (try rw [jI_add]); rw [e])
      rfl
  · intro kk
    unfold fX13_undone_4
    ((try rw [s_gI hm]); rw [o_ob]; (try rw [e13]); rw [if_pos (by first | ((simp (disch := omega) only [jI_lit, jI_neg, jI_add, jI_sub, jI_mul, jI_lt, jI_le, jI_eq, jL_lit, jL_lt, jL_le, jL_eq]) <;> omega) | omega)])
theorem z_Cnt {a : Int} (h : RF c m f r s many P k A mm nt cr n tp fp im) (a1 : -2147483648 ≤ a) (a2 : a < 2147483648) : Rk c m f r s (fX13_count m (jI a) (MS c m f r s t)) (cnQ many r k mm cr n a) := by
  obtain ⟨hm, hp, ok, -, ⟨h58, -⟩, ⟨h59, -⟩, h4, ⟨h16, -⟩, -, -⟩ := h
  have e279 := ok.2.2.2.2.2.2.2.2.1
  obtain ⟨t1, t2⟩ := ok.2.2.2.2.2.2.2.2.2.1
  have rg := ok.2.1
  have e13 := hp.1
  obtain ⟨g, hg⟩ : ∃ g, g = va_up f 2 0 := ⟨_, rfl⟩
  have g2 : g 2 = 0 := by rw [hg, va_up_self]
  have gn : ∀ j, j ≠ 2 → g j = f j := fun j hj => by rw [hg, va_up_ne _ _ hj]
  have kf : Kf f g := by rw [hg]; exact Kf_2
  have ne : ∀ z : Int, 0 ≤ z → z < 100 → a ≠ z → ¬ jI a = jI z := fun z z1 z2 x => by rw [jI_eq a1 a2 (by omega) (by omega)]; exact x
  have rd : ∀ z : Nat, z < 414 → Rk c m f r s (ob (some (m + 3)) fun v => ob (aI v (jI (z : Int)) (MS c m g r s t)) fun v2 => some (v2, MS c m g r s t)) (.inr (jI (r z))) := fun z hz => by
    (rw [o_ob, s_a3 hm (by omega) (by omega), o_ob]; (try rw [show ((z : Int)).toNat = z by omega]))
    exact Rk_v rfl kf (Ks_rf s) g2
  clear ok
  unfold fX13_count cnQ
  (rw [s_gd _ hm]; (try rw [show (0 : Int32) = jI 0 from rfl]); rw [s_pI hm, o_ob]; (try rw [← hg]))
  by_cases x0 : a = 0
  · (rw [if_pos (by rw [x0]), if_pos x0]; (try rw [s_R3 hm]))
    exact rd 277 (by omega)
  rw [if_neg (ne 0 (by omega) (by omega) x0), if_neg x0]
  by_cases x1 : a = 1
  · (rw [if_pos (by rw [x1]; rfl), if_pos x1]; (try rw [s_R3 hm]))
    exact rd 276 (by omega)
  rw [if_neg (show ¬ jI a = (1 : Int32) from ne 1 (by omega) (by omega) x1), if_neg x1]
  by_cases x2 : a = 2
  · (rw [if_pos (by rw [x2]; rfl), if_pos x2]; (try rw [s_R3 hm]))
    exact rd 265 (by omega)
  rw [if_neg (show ¬ jI a = (2 : Int32) from ne 2 (by omega) (by omega) x2), if_neg x2]
  by_cases x3 : a = 3
  · (rw [if_pos (by rw [x3]; rfl), if_pos x3]; (try rw [s_R3 hm]))
    exact rd 264 (by omega)
  rw [if_neg (show ¬ jI a = (3 : Int32) from ne 3 (by omega) (by omega) x3), if_neg x3]
  by_cases x4 : a = 4
  · (rw [if_pos (by rw [x4]; rfl), if_pos x4]; (try rw [s_R3 hm]))
    exact rd 266 (by omega)
  rw [if_neg (show ¬ jI a = (4 : Int32) from ne 4 (by omega) (by omega) x4), if_neg x4]
  by_cases x5 : a = 5
  · (rw [if_pos (by rw [x5]; rfl), if_pos x5]; (try rw [s_gI hm]); rw [o_ob, gn 13 (by omega)]; (try rw [e13]))
    exact Rk_v rfl kf (Ks_rf s) g2
  rw [if_neg (show ¬ jI a = (5 : Int32) from ne 5 (by omega) (by omega) x5), if_neg x5]
  by_cases x6 : a = 6
  · (rw [if_pos (by rw [x6]; rfl), if_pos x6]; (try rw [s_R3 hm]))
    exact rd 278 (by omega)
  rw [if_neg (show ¬ jI a = (6 : Int32) from ne 6 (by omega) (by omega) x6), if_neg x6]
  by_cases x7 : a = 7
  · have hpg : Pr g s P many := Pr_sq hp (gn 13 (by omega)) (fun _ _ => rfl)
    rw [if_pos (by rw [x7]; rfl), if_pos x7, s_undone hm hpg (fun j _ => rg _), o_ob]
    exact Rk_v rfl kf (Ks_rf s) g2
  rw [if_neg (show ¬ jI a = (7 : Int32) from ne 7 (by omega) (by omega) x7), if_neg x7]
  by_cases x8 : a = 8
  · (rw [if_pos (by rw [x8]; rfl), if_pos x8]; (try rw [s_R3 hm]); rw [o_ob]; (try rw [show (279 : Int32) = jI 279 from rfl]); rw [s_a3 hm (by omega) (by omega), o_ob]; (try rw [show (279 : Int).toNat = 279 from rfl]); (try rw [e279]); (try rw [show (64 : Int32) = jI 64 from rfl]); rw [jI_min (by omega) (by omega) (by omega) (by omega), Int.min_comm])
    exact Rk_v rfl kf (Ks_rf s) g2
  rw [if_neg (show ¬ jI a = (8 : Int32) from ne 8 (by omega) (by omega) x8), if_neg x8]
  by_cases x9 : a = 9
  · (rw [if_pos (by rw [x9]; rfl), if_pos x9]; (try rw [s_gI hm]); rw [o_ob, gn 58 (by omega)]; (try rw [h58]))
    exact Rk_v rfl kf (Ks_rf s) g2
  rw [if_neg (show ¬ jI a = (9 : Int32) from ne 9 (by omega) (by omega) x9), if_neg x9]
  by_cases x10 : a = 10
  · (rw [if_pos (by rw [x10]; rfl), if_pos x10]; (try rw [s_gI hm]); rw [o_ob, gn 59 (by omega)]; (try rw [h59]))
    exact Rk_v rfl kf (Ks_rf s) g2
  rw [if_neg (show ¬ jI a = (10 : Int32) from ne 10 (by omega) (by omega) x10), if_neg x10]
  by_cases x11 : a = 11
  · (rw [if_pos (by rw [x11]; rfl), if_pos x11]; (try rw [s_gI hm]); rw [o_ob, gn 16 (by omega)]; (try rw [h16]))
    exact Rk_v rfl kf (Ks_rf s) g2
  rw [if_neg (show ¬ jI a = (11 : Int32) from ne 11 (by omega) (by omega) x11), if_neg x11]
  by_cases x12 : a = 12
  · (rw [if_pos (by rw [x12]; rfl), if_pos x12]; (try rw [x12]); (try rw [s_R4 hm]); rw [o_ob]; (try rw [show (12 : Int32) = jI 12 from rfl]); (try rw [jI_sub]); rw [s_a4 hm (by omega) (by omega), o_ob]; (try rw [show ((12 : Int) - 12).toNat = 0 from rfl]); rw [h4 0 (by omega)])
    exact Rk_v rfl kf (Ks_rf s) g2
  rw [if_neg (show ¬ jI a = (12 : Int32) from ne 12 (by omega) (by omega) x12), if_neg x12]
  by_cases x13 : a = 13
  · (rw [if_pos (by rw [x13]; rfl), if_pos x13]; (try rw [x13]); (try rw [s_R4 hm]); rw [o_ob]; (try rw [show (12 : Int32) = jI 12 from rfl]); (try rw [jI_sub]); rw [s_a4 hm (by omega) (by omega), o_ob]; (try rw [show ((13 : Int) - 12).toNat = 1 from rfl]); rw [h4 1 (by omega)])
    exact Rk_v rfl kf (Ks_rf s) g2
  rw [if_neg (show ¬ jI a = (13 : Int32) from ne 13 (by omega) (by omega) x13), if_neg x13]
  by_cases x14 : a = 14
  · (rw [if_pos (by rw [x14]; rfl), if_pos x14]; (try rw [x14]); (try rw [s_R4 hm]); rw [o_ob]; (try rw [show (12 : Int32) = jI 12 from rfl]); (try rw [jI_sub]); rw [s_a4 hm (by omega) (by omega), o_ob]; (try rw [show ((14 : Int) - 12).toNat = 2 from rfl]); rw [h4 2 (by omega)])
    exact Rk_v rfl kf (Ks_rf s) g2
  rw [if_neg (show ¬ jI a = (14 : Int32) from ne 14 (by omega) (by omega) x14), if_neg x14]
  rw [show (1 : Int32) = jI ((1 : Nat) : Int) from rfl]
  exact Rk_fl (k := 1) hm kf (Ks_rf s)
theorem flz_ff {p n h : Nat} : flz r false p n h = (decide (9 < hf r h) != (h == 2 * (p + n) - 1)) := by unfold flz; rw [if_neg (by decide)]
theorem flz_tt {p n h : Nat} : flz r true p n h = if h == 2 * (p + n) - 2 then decide (hf r h < 10) else if h % 2 == 0 then hf r h != 15 else decide (9 < hf r h) := by unfold flz; rw [if_pos rfl]
theorem s_33 (u v : Bool) : fX13_isFlaw_33 (MS c m f r s t) (jI (b2 v)) (jI (b2 u)) = some (jI (b2 (u != v))) := by
  unfold fX13_isFlaw_33
  cases u <;> cases v
  · rw [if_pos rfl]; rfl
  · rw [if_neg (by decide)]; rfl
  · rw [if_neg (by decide)]; rfl
  · rw [if_pos rfl]; rfl
theorem s_isFlaw {p n h : Nat} {z : Bool} (hm : Mo c m) (hb : Byt r) (hp : p + n ≤ 256) (n1 : 1 ≤ n) (h1 : h < 512) : fX13_isFlaw m (jI (h : Int)) (jI (2 * ((p : Int) + (n : Int)) - 1)) (jI (b2 z)) (MS c m f r s t) = some (jI (b2 (flz r z p n h))) := by
  have hl := hf_lt hb h1
  have e2 := ir2 (z := (h : Int)) (by omega) (by omega)
  obtain ⟨y, hy⟩ : ∃ y : Bool, y = flz r z p n h := ⟨_, rfl⟩
  rw [← hy]
  unfold fX13_isFlaw
  (rw [s_gd _ hm, s_half hm hb (by omega) (by omega), o_ob]; (try rw [show ((h : Int)).toNat = h by omega]))
  cases z with
  | false =>
    rw [flz_ff] at hy
    rw [if_pos (show jI (b2 false) = 0 from rfl)]
    have h23 : ∀ u : Bool, u = decide (9 < hf r h) → fX13_isFlaw_23 (MS c m f r s t) (jI (h : Int)) (jI (2 * ((p : Int) + (n : Int)) - 1)) (jI (b2 u)) = some (jI (b2 y)) := by
      intro u hu
      unfold fX13_isFlaw_23
      by_cases b : h = 2 * (p + n) - 1
      · have eb : (h == 2 * (p + n) - 1) = true := by simpa using b
        have e := s_33 (c := c) (m := m) (f := f) (r := r) (s := s) (t := t) u true
        (rw [hy, eb]; (try rw [← hu]); rw [if_pos (by first | ((simp (disch := omega) only [jI_lit, jI_neg, jI_add, jI_sub, jI_mul, jI_lt, jI_le, jI_eq, jL_lit, jL_lt, jL_le, jL_eq]) <;> omega) | omega)])
        exact e
      · have eb : (h == 2 * (p + n) - 1) = false := by simpa using b
        have e := s_33 (c := c) (m := m) (f := f) (r := r) (s := s) (t := t) u false
        (rw [hy, eb]; (try rw [← hu]); rw [if_neg (by first | ((simp (disch := omega) only [jI_lit, jI_neg, jI_add, jI_sub, jI_mul, jI_lt, jI_le, jI_eq, jL_lit, jL_lt, jL_le, jL_eq]) <;> omega) | omega)])
        exact e
    by_cases a : hf r h ≤ 9
    · rw [if_pos (by first | ((simp (disch := omega) only [jI_lit, jI_neg, jI_add, jI_sub, jI_mul, jI_lt, jI_le, jI_eq, jL_lit, jL_lt, jL_le, jL_eq]) <;> omega) | omega)]
      exact h23 false (by simp; omega)
    · rw [if_neg (by first | ((simp (disch := omega) only [jI_lit, jI_neg, jI_add, jI_sub, jI_mul, jI_lt, jI_le, jI_eq, jL_lit, jL_lt, jL_le, jL_eq]) <;> omega) | omega)]
      exact h23 true (by simp; omega)
  | true =>
    rw [flz_tt] at hy
    rw [if_neg (show ¬ jI (b2 true) = 0 by decide), e2]
    by_cases od : h % 2 = 1
    · have n1 : (h == 2 * (p + n) - 2) = false := by simp; omega
      have n2 : (h % 2 == 0) = false := by simp; omega
      rw [n1, n2, if_neg (by decide), if_neg (by decide)] at hy
      rw [if_pos (by rw [show ((h : Int) % 2) = 1 by omega]; rfl)]
      by_cases a : hf r h ≤ 9
      · (rw [if_pos (by first | ((simp (disch := omega) only [jI_lit, jI_neg, jI_add, jI_sub, jI_mul, jI_lt, jI_le, jI_eq, jL_lit, jL_lt, jL_le, jL_eq]) <;> omega) | omega), hy]; (try rw [show decide (9 < hf r h) = false by simp; omega])); rfl
      · (rw [if_neg (by first | ((simp (disch := omega) only [jI_lit, jI_neg, jI_add, jI_sub, jI_mul, jI_lt, jI_le, jI_eq, jL_lit, jL_lt, jL_le, jL_eq]) <;> omega) | omega), hy]; (try rw [show decide (9 < hf r h) = true by simp; omega])); rfl
    · have n2 : (h % 2 == 0) = true := by simp; omega
      (rw [if_neg (by rw [show ((h : Int) % 2) = 0 by omega]; decide)]; (try rw [show (1 : Int32) = jI 1 from rfl]); (try rw [jI_sub]))
      by_cases b : h = 2 * (p + n) - 2
      · have eb : (h == 2 * (p + n) - 2) = true := by simpa using b
        rw [eb, if_pos rfl] at hy
        rw [if_pos (by first | ((simp (disch := omega) only [jI_lit, jI_neg, jI_add, jI_sub, jI_mul, jI_lt, jI_le, jI_eq, jL_lit, jL_lt, jL_le, jL_eq]) <;> omega) | omega), hy]
        by_cases a : 10 ≤ hf r h
        · rw [if_pos (by first | ((simp (disch := omega) only [jI_lit, jI_neg, jI_add, jI_sub, jI_mul, jI_lt, jI_le, jI_eq, jL_lit, jL_lt, jL_le, jL_eq]) <;> omega) | omega), show decide (hf r h < 10) = false by simp; omega]; rfl
        · rw [if_neg (by first | ((simp (disch := omega) only [jI_lit, jI_neg, jI_add, jI_sub, jI_mul, jI_lt, jI_le, jI_eq, jL_lit, jL_lt, jL_le, jL_eq]) <;> omega) | omega), show decide (hf r h < 10) = true by simp; omega]; rfl
      · have eb : (h == 2 * (p + n) - 2) = false := by simpa using b
        rw [eb, if_neg (by decide), n2, if_pos rfl] at hy
        rw [if_neg (by first | ((simp (disch := omega) only [jI_lit, jI_neg, jI_add, jI_sub, jI_mul, jI_lt, jI_le, jI_eq, jL_lit, jL_lt, jL_le, jL_eq]) <;> omega) | omega), hy]
        by_cases a : hf r h = 15
        · rw [if_pos (by rw [a]; rfl), show (hf r h != 15) = false by rw [a]; rfl]; rfl
        · rw [if_neg (by first | ((simp (disch := omega) only [jI_lit, jI_neg, jI_add, jI_sub, jI_mul, jI_lt, jI_le, jI_eq, jL_lit, jL_lt, jL_le, jL_eq]) <;> omega) | omega), show (hf r h != 15) = true by simpa using a]; rfl
theorem cnt_mono {q : Nat → Bool} {a : Nat} : ∀ b, a ≤ b → cnt q a ≤ cnt q b
  | 0, h => by rw [show a = 0 by omega]; exact Nat.le_refl _
  | b + 1, h => by
    by_cases e : a = b + 1
    · rw [e]; exact Nat.le_refl _
    · have := cnt_mono (q := q) (a := a) b (by omega)
      have e2 : cnt q (b + 1) = cnt q b + if q b = true then 1 else 0 := rfl
      omega
theorem lp_fnl {τ β : Type} {z : τ} {S : τ → τ} (ev : τ → Nat → Option β) (q : Nat → Bool) (lo hi : Nat) (G : Int → Option β)
    (step : ∀ i, lo ≤ i → i < hi → q i = false → ∀ k, ev (S k) i = ev k (i + 1)) (hit : ∀ i : Nat, lo ≤ i → i < hi → q i = true → ∀ k, ev (S k) i = G (i : Int)) (fin : ∀ k, ev (S k) hi = G (-1)) :
    ∀ n i, lo ≤ i → i ≤ hi → hi - i < n → ev (lp z S n) i = G (fnd q i (hi - i)) := by
  intro n
  induction n with
  | zero => intro i h0 h1 h2; omega
  | succ n ih =>
    intro i h0 h1 h2
    show ev (S (lp z S n)) i = _
    by_cases h : i = hi
    · subst h
      rw [fin, Nat.sub_self]
      rfl
    · obtain ⟨d, hd⟩ : ∃ d, hi - i = d + 1 := ⟨hi - i - 1, by omega⟩
      cases hq : q i with
      | true => rw [hit i h0 (by omega) hq, hd, fnd_at hq]
      | false => (rw [step i h0 (by omega) hq, ih (i + 1) (by omega) (by omega) (by omega), hd, fnd_nx hq]; (try rw [show hi - (i + 1) = d by omega]))
/-- the flaw that is wanted, or how many, or none -/
def fnQ (q : Nat → Bool) (lo n : Nat) (wh : Int) : Int := if wh = -1 then (cnt (fun i => q (lo + i)) n : Nat) else if 0 ≤ wh ∧ wh < (cnt (fun i => q (lo + i)) n : Nat) then flw q lo n wh.toNat else -1
theorem s_flawNumber {p n : Nat} {wh : Int} {z : Bool} (hm : Mo c m) (hb : Byt r) (hp : p + n ≤ 256) (n1 : 1 ≤ n) (w1 : -2147483648 ≤ wh) (w2 : wh < 2147483648) : fX13_flawNumber m (jI (p : Int)) (jI (n : Int)) (jI (b2 z)) (jI wh) (MS c m f r s t) = some (jI (fnQ (flz r z p n) (2 * p) (2 * n) wh)) := by
  obtain ⟨q, hq⟩ : ∃ q, q = flz r z p n := ⟨_, rfl⟩
  rw [← hq]
  unfold fX13_flawNumber
  (rw [s_gd _ hm]; (try rw [show (2 : Int32) = jI 2 from rfl]); (try rw [show (1 : Int32) = jI 1 from rfl]); (try rw [jI_add]); (try rw [jI_mul]); (try rw [jI_sub]); rw [o_lt]; (try rw [jI_mul]); rw [o_lt])
  have cl : ∀ d, cnt (fun i => q (2 * p + i)) d ≤ d := cnt_le _
  have key := lp_fnl (z := fun _ _ _ _ _ _ => none) (S := fX13_flawNumber_17 (MS c m f r s t)) (β := Int32) (fun k (i : Nat) => k m (jI (b2 z)) (jI wh) (jI ((cnt (fun i => q (2 * p + i)) (i - 2 * p) : Nat) : Int)) (jI (2 * ((p : Int) + (n : Int)) - 1)) (jI (i : Int))) (fun i => q i && (((cnt (fun i => q (2 * p + i)) (i - 2 * p) : Nat) : Int) == wh)) (2 * p) (2 * (p + n)) (fun y => some (jI (if y = -1 then (if wh = -1 then ((cnt (fun i => q (2 * p + i)) (2 * n) : Nat) : Int) else -1) else y))) ?_ ?_ ?_ FU (2 * p) (by omega) (by omega) (FU_lt (by omega))
  · rw [show 2 * (p + n) - 2 * p = 2 * n by omega, Nat.sub_self] at key
    have key : lp (fun _ _ _ _ _ _ => none) (fX13_flawNumber_17 (MS c m f r s t)) FU m (jI (b2 z)) (jI wh) (jI 0) (jI (2 * ((p : Int) + (n : Int)) - 1)) (jI ((2 * p : Nat) : Int)) = _ := key
    ((try rw [show (0 : Int32) = jI 0 from rfl]); (try rw [show (2 * (p : Int)) = ((2 * p : Nat) : Int) by omega]); rw [key])
    congr 2
    unfold fnQ
    by_cases w : wh = -1
    · rw [if_pos w, if_pos w]
      have e : fnd (fun i => q i && (((cnt (fun i => q (2 * p + i)) (i - 2 * p) : Nat) : Int) == wh)) (2 * p) (2 * n) = -1 := fnd_no (fun j _ _ => by
        have : (((cnt (fun i => q (2 * p + i)) (j - 2 * p) : Nat) : Int) == wh) = false := by rw [w]; simp
        rw [this]; simp)
      rw [e, if_pos rfl]
    · rw [if_neg w, if_neg w]
      obtain ⟨f1, f2⟩ := flw_at (q := q) (lo := 2 * p) (n := 2 * n) wh.toNat
      by_cases g : 0 ≤ wh ∧ wh < ((cnt (fun i => q (2 * p + i)) (2 * n) : Nat) : Int)
      · rw [if_pos g]
        have ne : flw q (2 * p) (2 * n) wh.toNat ≠ -1 := fun e => by have := f1 e; omega
        obtain ⟨y, y1, y2, y3, y4, y5, y6⟩ := f2 ne
        have e : fnd (fun i => q i && (((cnt (fun i => q (2 * p + i)) (i - 2 * p) : Nat) : Int) == wh)) (2 * p) (2 * n) = (y : Int) := fnd_is y2 (by omega) (by
          have : (((cnt (fun i => q (2 * p + i)) (y - 2 * p) : Nat) : Int) == wh) = true := by simp; omega
          rw [this, y4]; simp) (fun j j1 j2 => by
          cases hj : q j with
          | false => simp
          | true =>
            have e1 : cnt (fun i => q (2 * p + i)) (j - 2 * p + 1) = cnt (fun i => q (2 * p + i)) (j - 2 * p) + 1 := cnt_t (by rw [show 2 * p + (j - 2 * p) = j by omega]; exact hj)
            have e2 := cnt_mono (q := fun i => q (2 * p + i)) (a := j - 2 * p + 1) (y - 2 * p) (by omega)
            have : (((cnt (fun i => q (2 * p + i)) (j - 2 * p) : Nat) : Int) == wh) = false := by simp; omega
            rw [this]; simp)
        (rw [e]; (try rw [y1]); rw [if_neg (by omega)])
      · rw [if_neg g]
        have e : fnd (fun i => q i && (((cnt (fun i => q (2 * p + i)) (i - 2 * p) : Nat) : Int) == wh)) (2 * p) (2 * n) = -1 := fnd_no (fun j j1 j2 => by
          cases hj : q j with
          | false => simp
          | true =>
            have e1 : cnt (fun i => q (2 * p + i)) (j - 2 * p + 1) = cnt (fun i => q (2 * p + i)) (j - 2 * p) + 1 := cnt_t (by rw [show 2 * p + (j - 2 * p) = j by omega]; exact hj)
            have e2 := cnt_mono (q := fun i => q (2 * p + i)) (a := j - 2 * p + 1) (2 * n) (by omega)
            have : (((cnt (fun i => q (2 * p + i)) (j - 2 * p) : Nat) : Int) == wh) = false := by simp; omega
            rw [this]; simp)
        rw [e, if_pos rfl]
  · intro i lo hi hno kk
    have ef := s_isFlaw (f := f) (s := s) (t := t) (h := i) (z := z) hm hb hp n1 (by omega)
    have li := cl (i - 2 * p)
    rw [← hq] at ef
    unfold fX13_flawNumber_17
    (rw [if_neg (by first | ((simp (disch := omega) only [jI_lit, jI_neg, jI_add, jI_sub, jI_mul, jI_lt, jI_le, jI_eq, jL_lit, jL_lt, jL_le, jL_eq]) <;> omega) | omega), ef, o_ob]; (try rw [show i + 1 - 2 * p = i - 2 * p + 1 by omega]))
    cases hqi : q i with
    | false =>
      have e1 : cnt (fun i => q (2 * p + i)) (i - 2 * p + 1) = cnt (fun i => q (2 * p + i)) (i - 2 * p) := cnt_f (by rw [show 2 * p + (i - 2 * p) = i by omega]; exact hqi)
      (rw [if_pos (show jI (b2 false) = 0 from rfl), o_lt]; (try rw [show (1 : Int32) = jI 1 from rfl]); (try rw [jI_add]); (try rw [e1]))
      rfl
    | true =>
      have e1 : cnt (fun i => q (2 * p + i)) (i - 2 * p + 1) = cnt (fun i => q (2 * p + i)) (i - 2 * p) + 1 := cnt_t (by rw [show 2 * p + (i - 2 * p) = i by omega]; exact hqi)
      rw [hqi, Bool.true_and] at hno
      have ne : ¬ (((cnt (fun i => q (2 * p + i)) (i - 2 * p) : Nat) : Int) = wh) := by simpa using hno
      (rw [if_neg (show ¬ jI (b2 true) = 0 by decide), if_neg (by rw [jI_eq (by omega) (by omega) (by omega) (by omega)]; exact ne), o_lt, o_lt]; (try rw [show (1 : Int32) = jI 1 from rfl]); (try rw [jI_add]); (try rw [jI_add]); (try rw [e1]))
      rfl
  · intro i lo hi hyes kk
    have ef := s_isFlaw (f := f) (s := s) (t := t) (h := i) (z := z) hm hb hp n1 (by omega)
    have li := cl (i - 2 * p)
    rw [← hq] at ef
    rw [Bool.and_eq_true] at hyes
    obtain ⟨y1, y2⟩ := hyes
    have y2 : ((cnt (fun i => q (2 * p + i)) (i - 2 * p) : Nat) : Int) = wh := by simpa using y2
    unfold fX13_flawNumber_17
    (rw [if_neg (by first | ((simp (disch := omega) only [jI_lit, jI_neg, jI_add, jI_sub, jI_mul, jI_lt, jI_le, jI_eq, jL_lit, jL_lt, jL_le, jL_eq]) <;> omega) | omega), ef, o_ob]; (try rw [y1]); rw [if_neg (show ¬ jI (b2 true) = 0 by decide), if_pos (by rw [y2]), if_neg (show ¬ ((i : Int) = -1) by omega)])
  · intro kk
    unfold fX13_flawNumber_17
    have li := cl (2 * n)
    (rw [if_pos (by first | ((simp (disch := omega) only [jI_lit, jI_neg, jI_add, jI_sub, jI_mul, jI_lt, jI_le, jI_eq, jL_lit, jL_lt, jL_le, jL_eq]) <;> omega) | omega)]; (try rw [show 2 * (p + n) - 2 * p = 2 * n by omega]); rw [if_pos rfl])
    by_cases w : wh = -1
    · rw [if_pos (by rw [w]; rfl), if_pos w]
    · rw [if_neg (by first | ((simp (disch := omega) only [jI_lit, jI_neg, jI_add, jI_sub, jI_mul, jI_lt, jI_le, jI_eq, jL_lit, jL_lt, jL_le, jL_eq]) <;> omega) | omega), if_neg w]; rfl
end RFB
