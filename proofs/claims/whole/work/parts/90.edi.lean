section RED
variable {c : MC} {m : Nat} {f r : Nat → Int} {s t : SI2}
/-- how an edit stands: where the row is unlike, where the source is -/
theorem edS_out {r : Nat → Int} (hb : Byt r) {p n : Nat} {src : Int} (s1 : -2147483648 ≤ src) (s2 : src < 2147483648) (hp : p + n ≤ 256) (hn : 1 ≤ n) : ∀ j, j ≤ n → ∀ t, edS r p src j = .inr t → (∀ k, k < p ∨ p + n ≤ k → t.1 k = r k) ∧ -2147483648 ≤ t.2.1 ∧ t.2.1 < 2147483648 := by
  intro j
  induction j with
  | zero => intro _ t h; cases h; exact ⟨fun _ _ => rfl, s1, s2⟩
  | succ j ih =>
    intro hj t h
    rw [edS_s] at h
    cases hS : edS r p src j with
    | inl a => rw [hS] at h; exact nomatch h
    | inr u =>
      rw [hS] at h
      obtain ⟨i1, i2, i3⟩ := ih (by omega) u hS
      obtain ⟨o1, ⟨o2, o3⟩, -⟩ := edS_ok hb hp hn j (by omega) u hS
      have h' : edB (r p) (p + j) u = .inr t := h
      have hrow := edB_row o1 (hb p (by omega)).1 (hb p (by omega)).2 o2 o3 h'
      refine ⟨fun k hk => by rw [hrow.2 k (by omega)]; exact i1 k hk, ?_⟩
      obtain ⟨v, src', waits, seen, any, mark⟩ := u
      by_cases c1 : v (p + j) = 32 ∨ v (p + j) = 33
      · have e : edB (r p) (p + j) (v, src', waits, seen, any, mark) = match edD v src' waits with
          | .inl (c, x) => .inl (c, x, v)
          | .inr (d, above, src'', waits') =>
            .inr (va_up v (p + j) (if d = 0 ∧ seen = false then r p else 240 + d), src'', waits', !above && (seen || d != 0 || v (p + j) == 33), any || d != 0, if d ≠ 0 ∧ seen = false then ((p + j : Nat) : Int) else mark) := by
          unfold edB
          exact if_pos c1
        rw [e] at h'
        cases hD : edD v src' waits with
        | inl a => rw [hD] at h'; exact nomatch h'
        | inr a =>
          obtain ⟨d, above, s3, w3⟩ := a
          rw [hD] at h'
          cases h'
          show -2147483648 ≤ s3 ∧ s3 < 2147483648
          have i2 : -2147483648 ≤ src' := i2
          have i3 : src' < 2147483648 := i3
          unfold edD at hD
          by_cases a : waits = -1
          · rw [if_neg (fun x => x a)] at hD
            by_cases b : src' < 0 ∨ 255 < src'
            · rw [if_pos b] at hD; exact nomatch hD
            · rw [if_neg b] at hD
              by_cases g : 9 < v src'.toNat / 16
              · rw [if_pos g] at hD; exact nomatch hD
              · rw [if_neg g] at hD
                cases hD
                omega
          · rw [if_pos a] at hD
            cases hD
            omega
      · by_cases c2 : v (p + j) = 34
        · have e : edB (r p) (p + j) (v, src', waits, seen, any, mark) = .inr (va_up v (p + j) (r p), src', waits, false, false, mark) := by
            unfold edB
            show (if _ then _ else _) = _
            rw [if_neg c1]
            exact if_pos c2
          rw [e] at h'
          cases h'
          exact ⟨i2, i3⟩
        · have e : edB (r p) (p + j) (v, src', waits, seen, any, mark) = .inr ((if seen then v else va_up v (p + j) (r p)), src', waits, seen, any, mark) := by
            unfold edB
            show (if _ then _ else _) = _
            rw [if_neg c1]
            exact if_neg c2
          rw [e] at h'
          cases h'
          exact ⟨i2, i3⟩
/-- a digit is taken -/
theorem s_takeI {u : Nat → Int} {src waits c' x : Int} (hm : Mo c m) (hb : Byt r) (hu : ∀ k, k < 256 → r k = u k) (h0 : f 38 = 0) (e46 : f 46 = src) (e47 : f 47 = waits) (s1 : -2147483648 ≤ src) (s2 : src < 2147483648) (w1 : -1 ≤ waits) (w2 : waits < 10) (h : edD u src waits = .inl (c', x)) :
    ∃ g, fX13_takeDigit m (MS c m f r s t) = some (jI 0, MS c m g r s t) ∧ (∀ j, j < 36 ∨ j = 44 ∨ 51 < j → g j = f j) ∧ (1 ≤ g 38 ∧ g 38 ≤ 8) ∧ FtR g (some (c', 1, x, 1, (if c' = 4 then 2 * x else -1), if c' = 4 then u x.toNat / 16 else 0)) := by
  unfold edD at h
  by_cases a : waits = -1
  · rw [if_neg (fun q => q a)] at h
    obtain ⟨g, hg⟩ : ∃ g, g = va_up (va_up (va_up f 50 0) 36 src) 37 1 := ⟨_, rfl⟩
    have gn : ∀ j, j ≠ 50 → j ≠ 36 → j ≠ 37 → g j = f j := fun j a1 a2 a3 => by (rw [hg]; (try rw [va_up_ne _ _ a3]); (try rw [va_up_ne _ _ a2]); (try rw [va_up_ne _ _ a1]))
    have g36 : g 36 = src := by (rw [hg]; (try rw [va_up_ne _ _ (by omega)]); (try rw [va_up_self]))
    have g37 : g 37 = 1 := by rw [hg, va_up_self]
    have g38 : g 38 = 0 := (gn _ (by omega) (by omega) (by omega)).trans h0
    have g46 : g 46 = src := (gn _ (by omega) (by omega) (by omega)).trans e46
    unfold fX13_takeDigit
    (rw [s_gd _ hm]; (try rw [show (0 : Int32) = jI 0 from rfl]); rw [s_pZ0 hm, o_ob]; (try rw [s_gI hm]); rw [o_ob]; (try rw [va_up_ne _ _ (show (47 : Nat) ≠ 50 by omega)]); (try rw [e47]); rw [a, if_pos (by decide)]; (try rw [s_gI hm]); rw [o_ob]; (try rw [va_up_ne _ _ (show (46 : Nat) ≠ 50 by omega)]); (try rw [e46]); rw [s_pI hm, o_ob]; (try rw [show (1 : Int32) = jI 1 from rfl]); rw [s_pI hm, o_ob]; (try rw [← hg]); (try rw [s_gI hm]); rw [o_ob]; (try rw [g46]); rw [w_there s1 s2 (by omega) (by omega), o_ob])
    by_cases b : src < 0 ∨ 255 < src
    · have nf : ¬ isF src 1 = true := by unfold isF; simp; omega
      rw [if_pos b] at h
      cases h
      (rw [if_neg nf, if_pos (by decide), s_raise1 hm g38, o_ob]; (try rw [g36]); (try rw [g37]))
      unfold fX13_takeDigit_86
      ((try rw [s_gI hm]); rw [o_ob, rsv_38]; (try rw [show jI 0 = (0 : Int32) from rfl]); rw [if_neg (by decide)])
      exact ⟨_, rfl, fun j hj => by rw [rsv_lo (by omega)]; exact gn j (by omega) (by omega) (by omega), by rw [rsv_38]; omega, by rw [if_neg (by omega)]; exact FtR_v⟩
    · have nf : isF src 1 = true := by unfold isF; simp; omega
      have hl := hb src.toNat (by omega)
      have eu := hu src.toNat (by omega)
      rw [if_neg b] at h
      by_cases q : 9 < u src.toNat / 16
      · rw [if_pos q] at h
        cases h
        (rw [if_pos nf, if_neg (by decide)]; (try rw [s_R3 hm]); rw [o_ob]; (try rw [s_gI hm]); rw [o_ob]; (try rw [g46]); rw [s_a3 hm (by omega) (by omega), o_ob]; (try rw [show ((4 : Int32) &&& 31) = (jI 4 &&& jI 31) from rfl]); rw [jI_shr4 (by omega) (by omega), if_neg (by first | ((simp (disch := omega) only [jI_lit, jI_neg, jI_add, jI_sub, jI_mul, jI_lt, jI_le, jI_eq, jL_lit, jL_lt, jL_le, jL_eq]) <;> omega) | omega)]; (try rw [s_gI hm]); rw [o_ob]; (try rw [g46]); (try rw [show (2 : Int32) = jI 2 from rfl]); (try rw [jI_mul]); (try rw [show (4 : Int32) = jI 4 from rfl]); rw [s_raiseH1 hm hb g38 (by omega) (by omega), o_ob]; (try rw [g36]); (try rw [g37]))
        unfold fX13_takeDigit_86
        ((try rw [s_gI hm]); rw [o_ob, rsw_38]; (try rw [show jI 0 = (0 : Int32) from rfl]); rw [if_neg (by decide)])
        refine ⟨_, rfl, fun j hj => by rw [rsw_lo (by omega)]; exact gn j (by omega) (by omega) (by omega), by rw [rsw_38]; omega, ?_⟩
        rw [if_pos (by decide), if_pos (by decide)]
        have e2 : hf r (2 * src).toNat = u src.toNat / 16 := by
          ((try rw [show (2 * src).toNat = 2 * src.toNat by omega]); rw [hf_even, eu])
        rw [e2]
        exact FtR_w
      · rw [if_neg q] at h; exact nomatch h
  · rw [if_pos a] at h; exact nomatch h
theorem s_takeR {u : Nat → Int} {src waits d src' waits' : Int} {above : Bool} (hm : Mo c m) (hb : Byt r) (hu : ∀ k, k < 256 → r k = u k) (h0 : f 38 = 0) (e46 : f 46 = src) (e47 : f 47 = waits) (s1 : -2147483648 ≤ src) (s2 : src < 2147483648) (w1 : -1 ≤ waits) (w2 : waits < 10) (h : edD u src waits = .inr (d, above, src', waits')) :
    ∃ g, fX13_takeDigit m (MS c m f r s t) = some (jI d, MS c m g r s t) ∧ (∀ j, j < 36 ∨ j = 38 ∨ j = 44 ∨ j = 48 ∨ j = 49 ∨ 50 < j → g j = f j) ∧ g 46 = src' ∧ g 47 = waits' ∧ g 50 = b2 above := by
  unfold edD at h
  by_cases a : waits = -1
  · rw [if_neg (fun q => q a)] at h
    by_cases b : src < 0 ∨ 255 < src
    · rw [if_pos b] at h; exact nomatch h
    · have nf : isF src 1 = true := by unfold isF; simp; omega
      have hl := hb src.toNat (by omega)
      have eu := hu src.toNat (by omega)
      rw [if_neg b] at h
      by_cases q : 9 < u src.toNat / 16
      · rw [if_pos q] at h; exact nomatch h
      · rw [if_neg q] at h
        cases h
        obtain ⟨g, hg⟩ : ∃ g, g = va_up (va_up (va_up f 50 0) 36 src) 37 1 := ⟨_, rfl⟩
        have gn : ∀ j, j ≠ 50 → j ≠ 36 → j ≠ 37 → g j = f j := fun j a1 a2 a3 => by (rw [hg]; (try rw [va_up_ne _ _ a3]); (try rw [va_up_ne _ _ a2]); (try rw [va_up_ne _ _ a1]))
        have g50 : g 50 = 0 := by (rw [hg]; (try rw [va_up_ne _ _ (by omega)]); (try rw [va_up_ne _ _ (by omega)]); (try rw [va_up_self]))
        have g38 : g 38 = 0 := (gn _ (by omega) (by omega) (by omega)).trans h0
        have g46 : g 46 = src := (gn _ (by omega) (by omega) (by omega)).trans e46
        have g47 : g 47 = waits := (gn _ (by omega) (by omega) (by omega)).trans e47
        unfold fX13_takeDigit
        (rw [s_gd _ hm]; (try rw [show (0 : Int32) = jI 0 from rfl]); rw [s_pZ0 hm, o_ob]; (try rw [s_gI hm]); rw [o_ob]; (try rw [va_up_ne _ _ (show (47 : Nat) ≠ 50 by omega)]); (try rw [e47]); rw [a, if_pos (by decide)]; (try rw [s_gI hm]); rw [o_ob]; (try rw [va_up_ne _ _ (show (46 : Nat) ≠ 50 by omega)]); (try rw [e46]); rw [s_pI hm, o_ob]; (try rw [show (1 : Int32) = jI 1 from rfl]); rw [s_pI hm, o_ob]; (try rw [← hg]); (try rw [s_gI hm]); rw [o_ob]; (try rw [g46]); rw [w_there s1 s2 (by omega) (by omega), o_ob, if_pos nf, if_neg (by decide)]; (try rw [s_R3 hm]); rw [o_ob]; (try rw [s_gI hm]); rw [o_ob]; (try rw [g46]); rw [s_a3 hm (by omega) (by omega), o_ob]; (try rw [show ((4 : Int32) &&& 31) = (jI 4 &&& jI 31) from rfl]); rw [jI_shr4 (by omega) (by omega), if_pos (by first | ((simp (disch := omega) only [jI_lit, jI_neg, jI_add, jI_sub, jI_mul, jI_lt, jI_le, jI_eq, jL_lit, jL_lt, jL_le, jL_eq]) <;> omega) | omega)])
        unfold fX13_takeDigit_86 fX13_takeDigit_157
        ((try rw [s_gI hm]); rw [o_ob]; (try rw [g38]); (try rw [show jI 0 = (0 : Int32) from rfl]); rw [if_pos (by decide)]; (try rw [s_R3 hm]); rw [o_ob]; (try rw [s_gI hm]); rw [o_ob]; (try rw [g46]); rw [s_a3 hm (by omega) (by omega), o_ob]; (try rw [show ((4 : Int32) &&& 31) = (jI 4 &&& jI 31) from rfl]); rw [jI_shr4 (by omega) (by omega), o_lt]; (try rw [s_R3 hm]); rw [o_ob]; (try rw [s_gI hm]); rw [o_ob]; (try rw [g46]); rw [s_a3 hm (by omega) (by omega), o_ob]; (try rw [show (15 : Int32) = jI 15 from rfl]); rw [jI_and15, o_lt]; (try rw [s_gI hm]); rw [o_ob]; (try rw [g46]); (try rw [show (1 : Int32) = jI 1 from rfl]); (try rw [jI_add]); rw [s_pI hm, o_ob, ← eu])
        by_cases c10 : r src.toNat % 16 < 10
        · rw [if_neg (by first | ((simp (disch := omega) only [jI_lit, jI_neg, jI_add, jI_sub, jI_mul, jI_lt, jI_le, jI_eq, jL_lit, jL_lt, jL_le, jL_eq]) <;> omega) | omega), s_pI hm, o_ob, if_pos c10]
          refine ⟨_, rfl, fun j hj => ?_, ?_, va_up_self _ _ _, ?_⟩
          · rw [va_up_ne _ _ (by omega), va_up_ne _ _ (by omega)]; exact gn j (by omega) (by omega) (by omega)
          · rw [va_up_ne _ _ (by omega), va_up_self]
          · ((try rw [va_up_ne _ _ (by omega)]); (try rw [va_up_ne _ _ (by omega)]); (try rw [g50]); (try rw [show decide (9 < r src.toNat % 16) = false by simp; omega])); rfl
        · rw [if_pos (by first | ((simp (disch := omega) only [jI_lit, jI_neg, jI_add, jI_sub, jI_mul, jI_lt, jI_le, jI_eq, jL_lit, jL_lt, jL_le, jL_eq]) <;> omega) | omega), w_below (by omega) (by omega), o_ob, if_neg c10]
          have d9 : decide (9 < r src.toNat % 16) = true := by simp; omega
          have gg : (va_up g 46 (src + 1)) 47 = -1 := by ((try rw [va_up_ne _ _ (by omega)]); (try rw [g47]); rw [a])
          have g2 : (va_up g 46 (src + 1)) 46 = src + 1 := va_up_self _ _ _
          cases hbel : bel (r src.toNat % 16) with
          | true =>
            (rw [if_neg (show ¬ jI (b2 true) = 0 by decide)]; (try rw [show (0 : Int32) = jI 0 from rfl]); rw [s_pZ0 hm, o_ob])
            refine ⟨_, rfl, fun j hj => ?_, ?_, ?_, ?_⟩
            · rw [va_up_ne _ _ (by omega), va_up_ne _ _ (by omega)]; exact gn j (by omega) (by omega) (by omega)
            · rw [va_up_ne _ _ (by omega)]; exact g2
            · rw [va_up_ne _ _ (by omega)]; exact gg
            · rw [va_up_self, d9]; rfl
          | false =>
            rw [if_pos (show jI (b2 false) = 0 from rfl), s_pZ1 hm, o_ob]
            refine ⟨_, rfl, fun j hj => ?_, ?_, ?_, ?_⟩
            · rw [va_up_ne _ _ (by omega), va_up_ne _ _ (by omega)]; exact gn j (by omega) (by omega) (by omega)
            · rw [va_up_ne _ _ (by omega)]; exact g2
            · rw [va_up_ne _ _ (by omega)]; exact gg
            · rw [va_up_self, d9]; rfl
  · rw [if_pos a] at h
    cases h
    unfold fX13_takeDigit
    (rw [s_gd _ hm]; (try rw [show (0 : Int32) = jI 0 from rfl]); rw [s_pZ0 hm, o_ob]; (try rw [s_gI hm]); rw [o_ob]; (try rw [va_up_ne _ _ (show (47 : Nat) ≠ 50 by omega)]); (try rw [e47]); rw [if_neg (by first | ((simp (disch := omega) only [jI_lit, jI_neg, jI_add, jI_sub, jI_mul, jI_lt, jI_le, jI_eq, jL_lit, jL_lt, jL_le, jL_eq]) <;> omega) | omega)]; (try rw [s_gI hm]); rw [o_ob]; (try rw [va_up_ne _ _ (show (47 : Nat) ≠ 50 by omega)]); (try rw [e47]); (try rw [show (-1 : Int32) = jI (-1) from rfl]); rw [s_pI hm, o_ob])
    refine ⟨_, rfl, fun j hj => ?_, ?_, va_up_self _ _ _, ?_⟩
    · rw [va_up_ne _ _ (by omega), va_up_ne _ _ (by omega)]
    · rw [va_up_ne _ _ (by omega), va_up_ne _ _ (by omega)]; exact e46
    · rw [va_up_ne _ _ (by omega), va_up_self]; rfl
theorem s_edited {v d fill : Int} {seen above : Bool} (hm : Mo c m) (v1 : 0 ≤ v) (v2 : v < 256) (d1 : 0 ≤ d) (d2 : d < 16) (e48 : f 48 = fill) (e49 : f 49 = b2 seen) (e50 : f 50 = b2 above) :
    ∃ g, fX13_edited m (jI v) (jI d) (MS c m f r s t) = some (jI (if d = 0 ∧ seen = false then fill else 240 + d), MS c m g r s t) ∧ (∀ j, j ≠ 49 → g j = f j) ∧ g 49 = b2 (!above && (seen || d != 0 || v == 33)) := by
  have h47 : ∀ (x : Int) (q : Bool), ∃ g, fX13_edited_47 m (jI x) (jI (b2 q)) m (MS c m f r s t) = some (jI x, MS c m g r s t) ∧ (∀ j, j ≠ 49 → g j = f j) ∧ g 49 = b2 (!above && q) := by
    intro x q
    unfold fX13_edited_47
    (rw [s_pZb hm, o_ob]; (try rw [s_gI hm]); rw [o_ob]; (try rw [va_up_ne _ _ (show (50 : Nat) ≠ 49 by omega)]); (try rw [e50]))
    cases above with
    | false =>
      rw [if_pos (show jI (b2 false) = 0 from rfl)]
      exact ⟨_, rfl, fun j hj => va_up_ne _ _ hj, va_up_self _ _ _⟩
    | true =>
      (rw [if_neg (show ¬ jI (b2 true) = 0 by decide)]; (try rw [show (0 : Int32) = jI 0 from rfl]); rw [s_pZ0 hm, o_ob])
      exact ⟨_, rfl, fun j hj => by rw [va_up_ne _ _ hj, va_up_ne _ _ hj], va_up_self _ _ _⟩
  have h23 : ∀ x : Int, ∃ g, fX13_edited_23 m (jI v) (jI d) (jI x) (MS c m f r s t) = some (jI x, MS c m g r s t) ∧ (∀ j, j ≠ 49 → g j = f j) ∧ g 49 = b2 (!above && (seen || d != 0 || v == 33)) := by
    intro x
    unfold fX13_edited_23 fX13_edited_42
    ((try rw [s_gI hm]); rw [o_ob]; (try rw [e49]); (try rw [show (1 : Int32) = jI (b2 true) from rfl]))
    cases seen with
    | true =>
      rw [if_neg (show ¬ jI (b2 true) = 0 by decide)]
      exact h47 x true
    | false =>
      rw [if_pos (show jI (b2 false) = 0 from rfl)]
      by_cases q : d = 0
      · rw [if_pos (by rw [q]; rfl)]
        by_cases q2 : v = 33
        · rw [if_pos (by rw [q2]; rfl), show (false || d != 0 || v == 33) = true by rw [q, q2]; rfl]
          exact h47 x true
        · rw [if_neg (by first | ((simp (disch := omega) only [jI_lit, jI_neg, jI_add, jI_sub, jI_mul, jI_lt, jI_le, jI_eq, jL_lit, jL_lt, jL_le, jL_eq]) <;> omega) | omega), show (false || d != 0 || v == 33) = false by rw [q]; simpa using q2]
          exact h47 x false
      · rw [if_neg (by first | ((simp (disch := omega) only [jI_lit, jI_neg, jI_add, jI_sub, jI_mul, jI_lt, jI_le, jI_eq, jL_lit, jL_lt, jL_le, jL_eq]) <;> omega) | omega), show (false || d != 0 || v == 33) = true by
          have : (d != 0) = true := by simpa using q
          rw [this]; rfl]
        exact h47 x true
  unfold fX13_edited fX13_edited_18
  rw [s_gd _ hm]
  by_cases q : d = 0
  · (rw [if_pos (by rw [q]; rfl)]; (try rw [s_gI hm]); rw [o_ob]; (try rw [e49]))
    cases seen with
    | false =>
      (rw [if_pos (show jI (b2 false) = 0 from rfl)]; (try rw [s_gI hm]); rw [o_ob]; (try rw [e48]); rw [if_pos ⟨q, rfl⟩])
      exact h23 fill
    | true =>
      (rw [if_neg (show ¬ jI (b2 true) = 0 by decide)]; (try rw [show (240 : Int32) = jI 240 from rfl]); (try rw [jI_add]); rw [if_neg (fun x => absurd x.2 (by decide))])
      exact h23 (240 + d)
  · (rw [if_neg (by first | ((simp (disch := omega) only [jI_lit, jI_neg, jI_add, jI_sub, jI_mul, jI_lt, jI_le, jI_eq, jL_lit, jL_lt, jL_le, jL_eq]) <;> omega) | omega)]; (try rw [show (240 : Int32) = jI 240 from rfl]); (try rw [jI_add]); rw [if_neg (fun x => q x.1)])
    exact h23 (240 + d)
end RED
