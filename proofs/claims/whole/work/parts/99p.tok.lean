section RTK
/-! THE REFERENCE'S TOKENS -/
variable {c : MC} {m : Nat} {f r : Nat → Int} {s t : SI2} {n : Nat}
def bt (t : Nat → Int) (n i : Nat) : Int := if i < n then t i else -1
theorem s_byteAt {tx : Nat → Int} {i : Nat} (hm : Mo c m) (h18 : f 18 = (n : Int)) (hn : n ≤ 700) (hi : i ≤ 700) (ht : ∀ j, j < 700 → s 13 j = tx j) : fX13_byteAt m (jI (i : Int)) (MS c m f r s t) = some (jI (bt tx n i)) := by
  unfold fX13_byteAt bt
  (rw [s_gd _ hm]; (try rw [s_gI hm]); rw [o_ob]; (try rw [h18]))
  by_cases q : i < n
  · (rw [if_neg (by first | ((simp (disch := omega) only [jI_lit, jI_neg, jI_add, jI_sub, jI_mul, jI_lt, jI_le, jI_eq, jL_lit, jL_lt, jL_le, jL_eq]) <;> omega) | omega), if_pos q]; (try rw [s_R15 hm]); rw [o_ob, s_a13 hm (by omega) (by omega), o_ob, Int.toNat_natCast, ht i (by omega)])
  · rw [if_pos (by first | ((simp (disch := omega) only [jI_lit, jI_neg, jI_add, jI_sub, jI_mul, jI_lt, jI_le, jI_eq, jL_lit, jL_lt, jL_le, jL_eq]) <;> omega) | omega), if_neg q]
    rfl
theorem w_isLt {z : Int} (h1 : -1 ≤ z) (h2 : z < 256) : fX13_isLetter (jI z) = some (jI (b2 (isLt z))) := by
  unfold fX13_isLetter isLt
  by_cases a : z < 97
  · rw [decide_eq_false (by omega), if_pos (by first | ((simp (disch := omega) only [jI_lit, jI_neg, jI_add, jI_sub, jI_mul, jI_lt, jI_le, jI_eq, jL_lit, jL_lt, jL_le, jL_eq]) <;> omega) | omega)]; rfl
  · by_cases b : 122 < z
    · rw [decide_eq_false (by omega), if_neg (by first | ((simp (disch := omega) only [jI_lit, jI_neg, jI_add, jI_sub, jI_mul, jI_lt, jI_le, jI_eq, jL_lit, jL_lt, jL_le, jL_eq]) <;> omega) | omega), if_pos (by first | ((simp (disch := omega) only [jI_lit, jI_neg, jI_add, jI_sub, jI_mul, jI_lt, jI_le, jI_eq, jL_lit, jL_lt, jL_le, jL_eq]) <;> omega) | omega)]; rfl
    · rw [decide_eq_true (by omega), if_neg (by first | ((simp (disch := omega) only [jI_lit, jI_neg, jI_add, jI_sub, jI_mul, jI_lt, jI_le, jI_eq, jL_lit, jL_lt, jL_le, jL_eq]) <;> omega) | omega), if_neg (by first | ((simp (disch := omega) only [jI_lit, jI_neg, jI_add, jI_sub, jI_mul, jI_lt, jI_le, jI_eq, jL_lit, jL_lt, jL_le, jL_eq]) <;> omega) | omega)]; rfl
theorem w_isDg {z : Int} (h1 : -1 ≤ z) (h2 : z < 256) : fX13_isDigit (jI z) = some (jI (b2 (isDg z))) := by
  unfold fX13_isDigit isDg
  by_cases a : z < 48
  · rw [decide_eq_false (by omega), if_pos (by first | ((simp (disch := omega) only [jI_lit, jI_neg, jI_add, jI_sub, jI_mul, jI_lt, jI_le, jI_eq, jL_lit, jL_lt, jL_le, jL_eq]) <;> omega) | omega)]; rfl
  · by_cases b : 57 < z
    · rw [decide_eq_false (by omega), if_neg (by first | ((simp (disch := omega) only [jI_lit, jI_neg, jI_add, jI_sub, jI_mul, jI_lt, jI_le, jI_eq, jL_lit, jL_lt, jL_le, jL_eq]) <;> omega) | omega), if_pos (by first | ((simp (disch := omega) only [jI_lit, jI_neg, jI_add, jI_sub, jI_mul, jI_lt, jI_le, jI_eq, jL_lit, jL_lt, jL_le, jL_eq]) <;> omega) | omega)]; rfl
    · rw [decide_eq_true (by omega), if_neg (by first | ((simp (disch := omega) only [jI_lit, jI_neg, jI_add, jI_sub, jI_mul, jI_lt, jI_le, jI_eq, jL_lit, jL_lt, jL_le, jL_eq]) <;> omega) | omega), if_neg (by first | ((simp (disch := omega) only [jI_lit, jI_neg, jI_add, jI_sub, jI_mul, jI_lt, jI_le, jI_eq, jL_lit, jL_lt, jL_le, jL_eq]) <;> omega) | omega)]; rfl
theorem w_isHx {z : Int} (h1 : -1 ≤ z) (h2 : z < 256) : fX13_isHex (jI z) = some (jI (b2 (isHx z))) := by
  unfold fX13_isHex isHx
  rw [w_isDg h1 h2, o_ob]
  cases e : isDg z with
  | true => rw [if_neg (by decide)]; rfl
  | false =>
    rw [if_pos (by rfl), Bool.false_or]
    by_cases a : z < 97
    · rw [decide_eq_false (by omega), if_pos (by first | ((simp (disch := omega) only [jI_lit, jI_neg, jI_add, jI_sub, jI_mul, jI_lt, jI_le, jI_eq, jL_lit, jL_lt, jL_le, jL_eq]) <;> omega) | omega)]; rfl
    · by_cases b : 102 < z
      · rw [decide_eq_false (by omega), if_neg (by first | ((simp (disch := omega) only [jI_lit, jI_neg, jI_add, jI_sub, jI_mul, jI_lt, jI_le, jI_eq, jL_lit, jL_lt, jL_le, jL_eq]) <;> omega) | omega), if_pos (by first | ((simp (disch := omega) only [jI_lit, jI_neg, jI_add, jI_sub, jI_mul, jI_lt, jI_le, jI_eq, jL_lit, jL_lt, jL_le, jL_eq]) <;> omega) | omega)]; rfl
      · rw [decide_eq_true (by omega), if_neg (by first | ((simp (disch := omega) only [jI_lit, jI_neg, jI_add, jI_sub, jI_mul, jI_lt, jI_le, jI_eq, jL_lit, jL_lt, jL_le, jL_eq]) <;> omega) | omega), if_neg (by first | ((simp (disch := omega) only [jI_lit, jI_neg, jI_add, jI_sub, jI_mul, jI_lt, jI_le, jI_eq, jL_lit, jL_lt, jL_le, jL_eq]) <;> omega) | omega)]; rfl
theorem bt_r {tx : Nat → Int} {i : Nat} (ht : ∀ j, j < 700 → 0 ≤ tx j ∧ tx j < 256) (hn : n ≤ 700) : -1 ≤ bt tx n i ∧ bt tx n i < 256 := by
  unfold bt
  by_cases q : i < n
  · have := ht i (by omega)
    rw [if_pos q]; omega
  · rw [if_neg q]; omega
/-- a number as the reference reads it -/
def nvl (tx : Nat → Int) (s : Nat) : Nat → Int
  | 0 => 0
  | i + 1 => min 100000 (10 * nvl tx s i + tx (s + i) - 48)
theorem nvl_r {tx : Nat → Int} {s : Nat} : ∀ i, (∀ j, s ≤ j → j < s + i → 48 ≤ tx j ∧ tx j ≤ 57) → 0 ≤ nvl tx s i ∧ nvl tx s i ≤ 100000
  | 0, _ => ⟨by show (0 : Int) ≤ 0; omega, by show (0 : Int) ≤ 100000; omega⟩
  | i + 1, h => by
    have ih := nvl_r (tx := tx) (s := s) i (fun j a b => h j a (by omega))
    have := h (s + i) (by omega) (by omega)
    unfold nvl
    omega
/-- the reference's kinds of tokens -/
def tyR (k : Nat) : Int := if k = 5 then 0 else if k = 6 then 5 else (k : Int)
def TKO (c : MC) (m : Nat) (f r : Nat → Int) (s t : SI2) (tx : Nat → Int) (n p : Nat) (o : Option Hp) : Prop :=
  ∃ f', o = some (MS c m f' r s t) ∧ f' 17 = ((tok tx n p).2.2 : Nat) ∧ f' 19 = tyR (tok tx n p).1 ∧ f' 21 = ((tok tx n p).2.1 : Nat) ∧ f' 22 = ((tok tx n p).2.2 : Nat) ∧ f' 20 = (if (tok tx n p).1 = 2 then nvl tx (tok tx n p).2.1 ((tok tx n p).2.2 - (tok tx n p).2.1) else f 20) ∧ ∀ j, j < 17 ∨ 22 < j ∨ j = 18 → f' j = f j
theorem tkR_5 {tx : Nat → Int} {p : Nat} (h : n ≤ spn isBk tx (n - p) p) : tok tx n p = (5, spn isBk tx (n - p) p, spn isBk tx (n - p) p) := if_pos h
theorem tkR_1 {tx : Nat → Int} {p b : Nat} (e : b = spn isBk tx (n - p) p) (h : b < n) (h1 : isLt (tx b) = true) : tok tx n p = (1, b, spn isLt tx (n - b) b) := by
  unfold tok
  rw [← e]
  show (if n ≤ b then _ else _) = _
  rw [if_neg (by omega), if_pos h1]
theorem tkR_2 {tx : Nat → Int} {p b : Nat} (e : b = spn isBk tx (n - p) p) (h : b < n) (h1 : isLt (tx b) = false) (h2 : isDg (tx b) = true) : tok tx n p = (2, b, spn isDg tx (n - b) b) := by
  unfold tok
  rw [← e]
  show (if n ≤ b then _ else _) = _
  rw [if_neg (by omega), if_neg (by rw [h1]; decide), if_pos h2]
theorem tkR_3 {tx : Nat → Int} {p b : Nat} (e : b = spn isBk tx (n - p) p) (h : b < n) (h3 : tx b = 35) : tok tx n p = (if spn isHx tx (n - (b + 1)) (b + 1) ≤ b + 1 then 6 else 3, b, spn isHx tx (n - (b + 1)) (b + 1)) := by
  unfold tok
  rw [← e]
  show (if n ≤ b then _ else _) = _
  rw [if_neg (by omega), if_neg (by rw [h3]; decide), if_neg (by rw [h3]; decide), if_pos h3]
theorem tkR_4 {tx : Nat → Int} {p b : Nat} (e : b = spn isBk tx (n - p) p) (h : b < n) (h1 : isLt (tx b) = false) (h2 : isDg (tx b) = false) (h3 : tx b ≠ 35) : tok tx n p = (if isSg (tx b) then 4 else 6, b, b + 1) := by
  unfold tok
  rw [← e]
  show (if n ≤ b then _ else _) = _
  rw [if_neg (by omega), if_neg (by rw [h1]; decide), if_neg (by rw [h2]; decide), if_neg h3]
theorem s_stepOn {tx : Nat → Int} {p : Nat} (hm : Mo c m) (h18 : f 18 = (n : Int)) (hn : n ≤ 700) (h17 : f 17 = (p : Int)) (hp : p ≤ n) (ht : ∀ j, j < 700 → s 13 j = tx j ∧ 0 ≤ tx j ∧ tx j < 256) : TKO c m f r s t tx n p (fX13_stepOn m (MS c m f r s t)) := by
  have htx : ∀ j, j < 700 → s 13 j = tx j := fun j hj => (ht j hj).1
  have htr : ∀ j, j < 700 → 0 ≤ tx j ∧ tx j < 256 := fun j hj => (ht j hj).2
  have btr : ∀ i, -1 ≤ bt tx n i ∧ bt tx n i < 256 := fun i => bt_r htr hn
  have bti : ∀ i, i < n → bt tx n i = tx i := fun i hi => if_pos hi
  have btn : bt tx n n = -1 := if_neg (by omega)
  -- a byte, at whatever field 17 says
  have bA : ∀ (g : Nat → Int) (i : Nat), g 18 = (n : Int) → i ≤ 700 → fX13_byteAt m (jI (i : Int)) (MS c m g r s t) = some (jI (bt tx n i)) := fun g i h1 h2 => s_byteAt hm h1 hn h2 htx
  obtain ⟨b, hb⟩ : ∃ b, b = spn isBk tx (n - p) p := ⟨_, rfl⟩
  obtain ⟨b1, b2', b3, b4⟩ := spn_r (q := isBk) (t := tx) (m := n - p) (p := p)
  rw [← hb] at b1 b2' b3 b4
  have bn : b ≤ n := by omega
  -- a run of bytes
  have runE : ∀ (q : Int → Bool) (a e : Nat), a ≤ n → e = spn q tx (n - a) a → q (-1) = false → a ≤ e ∧ e ≤ n ∧ (∀ j, a ≤ j → j < e → q (bt tx n j) = true) ∧ q (bt tx n e) = false := by
    intro q a e ha he q1
    obtain ⟨c1, c2, c3, c4⟩ := spn_r (q := q) (t := tx) (m := n - a) (p := a)
    rw [← he] at c1 c2 c3 c4
    refine ⟨c1, by omega, fun j x y => by rw [bti j (by omega)]; exact c3 j x y, ?_⟩
    by_cases z : e < n
    · rw [bti e z]; exact c4 (by omega)
    · rw [show e = n by omega, btn]; exact q1
  -- it is no blank
  have nb : isBk (bt tx n b) = false := (runE isBk p b hp hb rfl).2.2.2
  have n32 : bt tx n b ≠ 32 := fun e => by rw [e] at nb; exact absurd nb (by decide)
  have n10 : bt tx n b ≠ 10 := fun e => by rw [e] at nb; exact absurd nb (by decide)
  have br := btr b
  unfold fX13_stepOn
  rw [s_gd _ hm]
  -- the blanks
  have key := lp_up (z := fun _ _ => none) (S := fX13_stepOn_0) (β := Hp) (fun kk (i : Nat) => kk m (MS c m (va_up f 17 ((p + i : Nat) : Int)) r s t)) (E := fX13_stepOn_0 (fun _ _ => none) m (MS c m (va_up f 17 ((b : Nat) : Int)) r s t)) (M := b - p) ?_ ?_ FU 0 (by omega) (FU_lt (by omega))
  · have e0 : va_up f 17 ((p + 0 : Nat) : Int) = f := by ((try rw [show p + 0 = p from rfl]); (try rw [← h17]); rw [up_id])
    have key : lp (fun _ _ => none) fX13_stepOn_0 FU m (MS c m (va_up f 17 ((p + 0 : Nat) : Int)) r s t) = _ := key
    rw [e0] at key
    rw [key]
    clear key
    obtain ⟨g, hg⟩ : ∃ g, g = va_up (va_up f 17 ((b : Nat) : Int)) 21 ((b : Nat) : Int) := ⟨_, rfl⟩
    have g17 : g 17 = (b : Int) := by (rw [hg]; (try rw [va_up_ne _ _ (by omega)]); (try rw [va_up_self]))
    have g18 : g 18 = (n : Int) := by (rw [hg]; (try rw [va_up_ne _ _ (by omega)]); (try rw [va_up_ne _ _ (by omega)])); exact h18
    have g20 : g 20 = f 20 := by (rw [hg]; (try rw [va_up_ne _ _ (by omega)]); (try rw [va_up_ne _ _ (by omega)]))
    have g21 : g 21 = (b : Int) := by rw [hg, va_up_self]
    have gn : ∀ j, j ≠ 17 → j ≠ 21 → g j = f j := fun j x y => by (rw [hg]; (try rw [va_up_ne _ _ y]); (try rw [va_up_ne _ _ x]))
    have g0 : (va_up f 17 ((b : Nat) : Int)) 17 = (b : Int) := va_up_self _ _ _
    have g018 : (va_up f 17 ((b : Nat) : Int)) 18 = (n : Int) := by rw [va_up_ne _ _ (by omega)]; exact h18
    -- the end of it
    have fin : ∀ (G : Nat → Int) (e : Nat) (ty : Int) (kd : Nat), G 17 = (e : Int) → G 19 = ty → G 21 = (b : Int) → tok tx n p = (kd, b, e) → ty = tyR kd → G 20 = (if kd = 2 then nvl tx b (e - b) else f 20) → (∀ j, j < 17 ∨ 22 < j ∨ j = 18 → G j = f j) → TKO c m f r s t tx n p (fX13_stepOn_289 m (MS c m G r s t)) := by
      intro G e ty kd h1 h2 h3 h4 h6 h7 h8
      unfold fX13_stepOn_289 TKO
      ((try rw [s_gI hm]); rw [o_ob]; (try rw [h1]); rw [s_pI hm, o_ob]; (try rw [h4]))
      refine ⟨_, rfl, ?_, ?_, ?_, ?_, ?_, fun j hj => ?_⟩
      · rw [va_up_ne _ _ (by omega), h1]
      · ((try rw [va_up_ne _ _ (by omega)]); (try rw [h2]); (try rw [h6]))
      · rw [va_up_ne _ _ (by omega), h3]
      · rw [va_up_self]
      · rw [va_up_ne _ _ (by omega), h7]
      · rw [va_up_ne _ _ (by omega)]; exact h8 j hj
    unfold fX13_stepOn_0
    ((try rw [s_gI hm]); rw [o_ob]; (try rw [g0]); rw [bA _ b g018 (by omega), o_ob, if_neg (show ¬ jI (bt tx n b) = 32 by rw [show (32 : Int32) = jI 32 from rfl, jI_eq (by omega) (by omega) (by omega) (by omega)]; exact n32)]; (try rw [s_gI hm]); rw [o_ob]; (try rw [g0]); rw [bA _ b g018 (by omega), o_ob, if_neg (show ¬ jI (bt tx n b) = 10 by rw [show (10 : Int32) = jI 10 from rfl, jI_eq (by omega) (by omega) (by omega) (by omega)]; exact n10)]; (try rw [s_gI hm]); rw [o_ob]; (try rw [g0]); rw [s_pI hm, o_ob]; (try rw [← hg]); (try rw [s_gI hm]); rw [o_ob]; (try rw [g17]); rw [bA g b g18 (by omega), o_ob])
    by_cases cn : b < n
    rotate_left
    · -- the text's end
      have e : bt tx n b = -1 := if_neg cn
      have et : tok tx n p = (5, b, b) := by rw [hb]; exact tkR_5 (by omega)
      (rw [if_pos (by rw [e]; rfl)]; (try rw [show (0 : Int32) = jI 0 from rfl]); rw [s_pI hm, o_ob])
      refine fin (va_up g 19 0) b 0 5 ?_ (va_up_self _ _ _) ?_ et rfl ?_ (fun j hj => ?_)
      · rw [va_up_ne _ _ (by omega)]; exact g17
      · rw [va_up_ne _ _ (by omega)]; exact g21
      · rw [va_up_ne _ _ (by omega), if_neg (by decide)]; exact g20
      · rw [va_up_ne _ _ (by omega)]; exact gn j (by omega) (by omega)
    have eb : bt tx n b = tx b := if_pos cn
    have tb := htr b (by omega)
    rw [eb]
    rw [if_neg (show ¬ jI (tx b) = -1 by rw [show (-1 : Int32) = jI (-1) from rfl, jI_eq (by omega) (by omega) (by omega) (by omega)]; omega), w_isLt (by omega) (by omega), o_ob]
    cases c1 : isLt (tx b) with
    | true =>
      -- a word
      have et := tkR_1 (n := n) hb cn c1
      obtain ⟨e, he⟩ : ∃ e, e = spn isLt tx (n - b) b := ⟨_, rfl⟩
      rw [← he] at et
      obtain ⟨r1, r2, r3, r4⟩ := runE isLt b e (by omega) he (by decide)
      rw [if_neg (by decide)]
      have k2 := lp_up (z := fun _ _ => none) (S := fX13_stepOn_76 fX13_stepOn_289) (β := Hp) (fun kk (i : Nat) => kk m (MS c m (va_up g 17 ((b + i : Nat) : Int)) r s t)) (E := fX13_stepOn_289 m (MS c m (va_up (va_up g 17 ((e : Nat) : Int)) 19 1) r s t)) (M := e - b) ?_ ?_ FU 0 (by omega) (FU_lt (by omega))
      · have e0 : va_up g 17 ((b + 0 : Nat) : Int) = g := by ((try rw [show b + 0 = b from rfl]); rw [← g17, up_id])
        have k2 : lp (fun _ _ => none) (fX13_stepOn_76 fX13_stepOn_289) FU m (MS c m (va_up g 17 ((b + 0 : Nat) : Int)) r s t) = _ := k2
        rw [e0] at k2
        rw [k2]
        refine fin _ e 1 1 ?_ (va_up_self _ _ _) ?_ et rfl ?_ (fun j hj => ?_)
        · rw [va_up_ne _ _ (by omega), va_up_self]
        · rw [va_up_ne _ _ (by omega), va_up_ne _ _ (by omega)]; exact g21
        · ((try rw [va_up_ne _ _ (by omega)]); (try rw [va_up_ne _ _ (by omega)]); rw [if_neg (by decide)]); exact g20
        · rw [va_up_ne _ _ (by omega), va_up_ne _ _ (by omega)]; exact gn j (by omega) (by omega)
      · intro i hi kk
        have q := r3 (b + i) (by omega) (by omega)
        have br2 := btr (b + i)
        unfold fX13_stepOn_76
        ((try rw [s_gI hm]); rw [o_ob]; (try rw [va_up_self]); rw [bA _ (b + i) (by rw [va_up_ne _ _ (by omega)]; exact g18) (by omega), o_ob, w_isLt br2.1 br2.2, q, o_ob, if_neg (by decide)]; (try rw [s_gI hm]); rw [o_ob]; (try rw [va_up_self]); (try rw [show (1 : Int32) = jI 1 from rfl]); (try rw [jI_add]); rw [s_pI hm, o_ob]; (try rw [upup]))
        rfl
      · intro kk
        have br2 := btr e
        unfold fX13_stepOn_76
        ((try rw [show b + (e - b) = e by omega]); (try rw [s_gI hm]); rw [o_ob]; (try rw [va_up_self]); rw [bA _ e (by rw [va_up_ne _ _ (by omega)]; exact g18) (by omega), o_ob, w_isLt br2.1 br2.2]; (try rw [r4]); rw [o_ob, if_pos (by rfl)]; (try rw [show (1 : Int32) = jI 1 from rfl]); rw [s_pI hm, o_ob])
    | false =>
      rw [if_pos (by rfl), w_isDg (by omega) (by omega), o_ob]
      cases c2 : isDg (tx b) with
      | true =>
        -- a number
        have et := tkR_2 (n := n) hb cn c1 c2
        obtain ⟨e, he⟩ : ∃ e, e = spn isDg tx (n - b) b := ⟨_, rfl⟩
        rw [← he] at et
        obtain ⟨r1, r2, r3, r4⟩ := runE isDg b e (by omega) he (by decide)
        have dgr : ∀ j, b ≤ j → j < e → 48 ≤ tx j ∧ tx j ≤ 57 := fun j x y => by
          have := r3 j x y
          rw [bti j (by omega)] at this
          unfold isDg at this
          simpa using this
        (rw [if_neg (by decide)]; (try rw [show (0 : Int32) = jI 0 from rfl]); rw [s_pI hm, o_ob])
        have k2 := lp_up (z := fun _ _ => none) (S := fX13_stepOn_123 fX13_stepOn_289) (β := Hp) (fun kk (i : Nat) => kk m (MS c m (va_up (va_up g 20 (nvl tx b i)) 17 ((b + i : Nat) : Int)) r s t)) (E := fX13_stepOn_289 m (MS c m (va_up (va_up (va_up g 20 (nvl tx b (e - b))) 17 ((e : Nat) : Int)) 19 2) r s t)) (M := e - b) ?_ ?_ FU 0 (by omega) (FU_lt (by omega))
        · have e0 : va_up (va_up g 20 (nvl tx b 0)) 17 ((b + 0 : Nat) : Int) = va_up g 20 0 := by
            have x : (va_up g 20 (nvl tx b 0)) 17 = (b : Int) := by rw [va_up_ne _ _ (by omega)]; exact g17
            ((try rw [show b + 0 = b from rfl]); rw [← x, up_id])
            rfl
          have k2 : lp (fun _ _ => none) (fX13_stepOn_123 fX13_stepOn_289) FU m (MS c m (va_up (va_up g 20 (nvl tx b 0)) 17 ((b + 0 : Nat) : Int)) r s t) = _ := k2
          rw [e0] at k2
          rw [k2]
          refine fin _ e 2 2 ?_ (va_up_self _ _ _) ?_ et rfl ?_ (fun j hj => ?_)
          · rw [va_up_ne _ _ (by omega), va_up_self]
          · ((try rw [va_up_ne _ _ (by omega)]); (try rw [va_up_ne _ _ (by omega)]); (try rw [va_up_ne _ _ (by omega)])); exact g21
          · ((try rw [va_up_ne _ _ (by omega)]); (try rw [va_up_ne _ _ (by omega)]); (try rw [va_up_self]); rw [if_pos rfl])
          · ((try rw [va_up_ne _ _ (by omega)]); (try rw [va_up_ne _ _ (by omega)]); (try rw [va_up_ne _ _ (by omega)])); exact gn j (by omega) (by omega)
        · intro i hi kk
          have q := r3 (b + i) (by omega) (by omega)
          have br2 := btr (b + i)
          have nr := nvl_r (tx := tx) (s := b) i (fun j x y => dgr j x (by omega))
          have dr := dgr (b + i) (by omega) (by omega)
          have x20 : (va_up (va_up g 20 (nvl tx b i)) 17 ((b + i : Nat) : Int)) 20 = nvl tx b i := by rw [va_up_ne _ _ (by omega), va_up_self]
          have ei : bt tx n (b + i) = tx (b + i) := bti _ (by omega)
          have x18 : (va_up (va_up g 20 (nvl tx b i)) 17 ((b + i : Nat) : Int)) 18 = (n : Int) := by rw [va_up_ne _ _ (by omega), va_up_ne _ _ (by omega)]; exact g18
          have en : va_up (va_up (va_up (va_up g 20 (nvl tx b i)) 17 ((b + i : Nat) : Int)) 20 (nvl tx b (i + 1))) 17 (((b + i : Nat) : Int) + 1) = va_up (va_up g 20 (nvl tx b (i + 1))) 17 ((b + (i + 1) : Nat) : Int) := by
            funext j
            by_cases j17 : j = 17
            · ((try rw [j17]); (try rw [va_up_self]); (try rw [va_up_self])); omega
            · rw [va_up_ne _ _ j17, va_up_ne _ _ j17]
              by_cases j20 : j = 20
              · ((try rw [j20]); (try rw [va_up_self]); (try rw [va_up_self]))
              · ((try rw [va_up_ne _ _ j20]); (try rw [va_up_ne _ _ j20]); (try rw [va_up_ne _ _ j17]); (try rw [va_up_ne _ _ j20]))
          unfold fX13_stepOn_123
          ((try rw [s_gI hm]); rw [o_ob]; (try rw [va_up_self]); rw [bA _ (b + i) x18 (by omega), o_ob, w_isDg br2.1 br2.2, q, o_ob, if_neg (by decide)]; (try rw [s_gI hm]); rw [o_ob]; (try rw [x20]); (try rw [s_gI hm]); rw [o_ob]; (try rw [va_up_self]); rw [bA _ (b + i) x18 (by omega), o_ob, ei]; (try rw [show (10 : Int32) = jI 10 from rfl]); (try rw [show (48 : Int32) = jI 48 from rfl]); (try rw [show (100000 : Int32) = jI 100000 from rfl]); (try rw [jI_mul]); (try rw [jI_add]); (try rw [jI_sub]); rw [jI_min (by omega) (by omega) (by omega) (by omega), s_pI hm, o_ob]; (try rw [show min 100000 (10 * nvl tx b i + tx (b + i) - 48) = nvl tx b (i + 1) from rfl]); (try rw [s_gI hm]); rw [o_ob]; (try rw [va_up_ne _ _ (show (17 : Nat) ≠ 20 by omega)]); (try rw [va_up_self]); (try rw [show (1 : Int32) = jI 1 from rfl]); (try rw [jI_add]); rw [s_pI hm, o_ob, en])
        · intro kk
          have br2 := btr e
          unfold fX13_stepOn_123
          ((try rw [show b + (e - b) = e by omega]); (try rw [s_gI hm]); rw [o_ob]; (try rw [va_up_self]); rw [bA _ e (by rw [va_up_ne _ _ (by omega), va_up_ne _ _ (by omega)]; exact g18) (by omega), o_ob, w_isDg br2.1 br2.2]; (try rw [r4]); rw [o_ob, if_pos (by rfl)]; (try rw [show (2 : Int32) = jI 2 from rfl]); rw [s_pI hm, o_ob])
      | false =>
        -- one byte
        obtain ⟨g1, hg1⟩ : ∃ g1, g1 = va_up g 17 ((b + 1 : Nat) : Int) := ⟨_, rfl⟩
        have g117 : g1 17 = ((b + 1 : Nat) : Int) := by rw [hg1, va_up_self]
        have g1n : ∀ j, j ≠ 17 → g1 j = g j := fun j hj => by rw [hg1, va_up_ne _ _ hj]
        have lit : ∀ z : Int, 0 ≤ z → z < 256 → tx b ≠ z → ¬ jI (tx b) = jI z := fun z z0 z1 q => by rw [jI_eq (by omega) (by omega) (by omega) (by omega)]; exact q
        (rw [if_pos (by rfl)]; (try rw [s_gI hm]); rw [o_ob]; (try rw [g17]); (try rw [show (1 : Int32) = jI 1 from rfl]); (try rw [jI_add]); rw [s_pI hm, o_ob]; (try rw [show (b : Int) + 1 = ((b + 1 : Nat) : Int) by omega]); (try rw [← hg1]))
        -- behind it, if it's no '#'
        have other : tx b ≠ 35 → ∀ ty : Int, ty ≠ 3 → -10 ≤ ty → ty < 10 → ty = tyR (tok tx n p).1 → TKO c m f r s t tx n p (fX13_stepOn_226 fX13_stepOn_289 m (jI (tx b)) (jI ty) m (MS c m g1 r s t)) := by
          intro h35 ty t3 t0 t1 hty
          have et := tkR_4 (n := n) hb cn c1 c2 h35
          obtain ⟨kd, hkd⟩ : ∃ kd : Nat, kd = if isSg (tx b) then 4 else 6 := ⟨_, rfl⟩
          have kd2 : kd ≠ 2 := by rw [hkd]; split <;> omega
          rw [← hkd] at et
          rw [et] at hty
          unfold fX13_stepOn_226
          (rw [s_pI hm, o_ob]; (try rw [show (35 : Int32) = jI 35 from rfl]); rw [if_neg (lit 35 (by omega) (by omega) h35)])
          have k2 := lp_up (z := fun _ _ => none) (S := fX13_stepOn_254 fX13_stepOn_289) (β := Hp) (fun kk (i : Nat) => kk m (MS c m (va_up g1 19 ty) r s t)) (E := fX13_stepOn_289 m (MS c m (va_up g1 19 ty) r s t)) (M := 0) (fun i hi => by omega) ?_ FU 0 (by omega) (FU_lt (by omega))
          · have k2 : lp (fun _ _ => none) (fX13_stepOn_254 fX13_stepOn_289) FU m (MS c m (va_up g1 19 ty) r s t) = _ := k2
            rw [k2]
            refine fin _ (b + 1) ty kd ?_ (va_up_self _ _ _) ?_ et hty ?_ (fun j hj => ?_)
            · rw [va_up_ne _ _ (by omega)]; exact g117
            · rw [va_up_ne _ _ (by omega), g1n _ (by omega)]; exact g21
            · ((try rw [va_up_ne _ _ (by omega)]); rw [g1n _ (by omega), if_neg kd2]); exact g20
            · rw [va_up_ne _ _ (by omega), g1n _ (by omega)]; exact gn j (by omega) (by omega)
          · intro kk
            unfold fX13_stepOn_254
            ((try rw [s_gI hm]); rw [o_ob]; (try rw [va_up_self]); rw [if_neg (show ¬ jI ty = 3 by rw [show (3 : Int32) = jI 3 from rfl, jI_eq (by omega) (by omega) (by omega) (by omega)]; exact t3)])
        unfold fX13_stepOn_221
        ((try rw [show (59 : Int32) = jI 59 from rfl]); (try rw [show (58 : Int32) = jI 58 from rfl]); (try rw [show (37 : Int32) = jI 37 from rfl]); (try rw [show (45 : Int32) = jI 45 from rfl]))
        have sg : ∀ z : Int, tx b = z → isSg z = true → z ≠ 35 → 4 = tyR (tok tx n p).1 := fun z e1 e2 e3 => by
          (rw [tkR_4 (n := n) hb cn c1 c2 (by rw [e1]; exact e3)]; (try rw [e1]); rw [if_pos e2]); rfl
        by_cases c59 : tx b = 59
        · rw [if_pos (by rw [c59])]
          exact other (by omega) 4 (by omega) (by omega) (by omega) (sg 59 c59 rfl (by omega))
        rw [if_neg (lit 59 (by omega) (by omega) c59)]
        by_cases c58 : tx b = 58
        · rw [if_pos (by rw [c58])]
          exact other (by omega) 4 (by omega) (by omega) (by omega) (sg 58 c58 rfl (by omega))
        rw [if_neg (lit 58 (by omega) (by omega) c58)]
        by_cases c37 : tx b = 37
        · rw [if_pos (by rw [c37])]
          exact other (by omega) 4 (by omega) (by omega) (by omega) (sg 37 c37 rfl (by omega))
        rw [if_neg (lit 37 (by omega) (by omega) c37)]
        by_cases c45 : tx b = 45
        · rw [if_pos (by rw [c45])]
          exact other (by omega) 4 (by omega) (by omega) (by omega) (sg 45 c45 rfl (by omega))
        rw [if_neg (lit 45 (by omega) (by omega) c45)]
        by_cases c35 : tx b = 35
        rotate_left
        · have ns : isSg (tx b) = false := by
            unfold isSg
            simp [c59, c58, c37, c45]
          exact other c35 5 (by omega) (by omega) (by omega) (by rw [tkR_4 (n := n) hb cn c1 c2 c35, ns]; rfl)
        -- a '#'
        have et := tkR_3 (n := n) hb cn c35
        obtain ⟨e, he⟩ : ∃ e, e = spn isHx tx (n - (b + 1)) (b + 1) := ⟨_, rfl⟩
        rw [← he] at et
        obtain ⟨r1, r2, r3, r4⟩ := runE isHx (b + 1) e (by omega) he (by decide)
        have br1 := btr (b + 1)
        unfold fX13_stepOn_226
        ((try rw [show (5 : Int32) = jI 5 from rfl]); rw [s_pI hm, o_ob]; (try rw [show (35 : Int32) = jI 35 from rfl]); rw [if_pos (by rw [c35])]; (try rw [s_gI hm]); rw [o_ob]; (try rw [va_up_ne _ _ (show (17 : Nat) ≠ 19 by omega)]); (try rw [g117]); rw [bA _ (b + 1) (by rw [va_up_ne _ _ (by omega), g1n _ (by omega)]; exact g18) (by omega), o_ob, w_isHx br1.1 br1.2, o_ob])
        by_cases ce : e ≤ b + 1
        · have e1 : e = b + 1 := by omega
          rw [e1] at r4 et
          rw [if_pos (show b + 1 ≤ b + 1 by omega)] at et
          rw [r4, if_pos (by rfl)]
          have k2 := lp_up (z := fun _ _ => none) (S := fX13_stepOn_254 fX13_stepOn_289) (β := Hp) (fun kk (i : Nat) => kk m (MS c m (va_up g1 19 5) r s t)) (E := fX13_stepOn_289 m (MS c m (va_up g1 19 5) r s t)) (M := 0) (fun i hi => by omega) ?_ FU 0 (by omega) (FU_lt (by omega))
          · have k2 : lp (fun _ _ => none) (fX13_stepOn_254 fX13_stepOn_289) FU m (MS c m (va_up g1 19 5) r s t) = _ := k2
            rw [k2]
            refine fin _ (b + 1) 5 6 ?_ (va_up_self _ _ _) ?_ et rfl ?_ (fun j hj => ?_)
            · rw [va_up_ne _ _ (by omega)]; exact g117
            · rw [va_up_ne _ _ (by omega), g1n _ (by omega)]; exact g21
            · ((try rw [va_up_ne _ _ (by omega)]); rw [g1n _ (by omega), if_neg (by decide)]); exact g20
            · rw [va_up_ne _ _ (by omega), g1n _ (by omega)]; exact gn j (by omega) (by omega)
          · intro kk
            unfold fX13_stepOn_254
            ((try rw [s_gI hm]); rw [o_ob]; (try rw [va_up_self]); rw [if_neg (by decide)])
        · have q0 := r3 (b + 1) (by omega) (by omega)
          rw [if_neg ce] at et
          ((try rw [q0]); rw [if_neg (by decide)]; (try rw [show (3 : Int32) = jI 3 from rfl]); rw [s_pI hm, o_ob]; (try rw [upup]))
          have k2 := lp_up (z := fun _ _ => none) (S := fX13_stepOn_254 fX13_stepOn_289) (β := Hp) (fun kk (i : Nat) => kk m (MS c m (va_up (va_up g1 19 3) 17 ((b + 1 + i : Nat) : Int)) r s t)) (E := fX13_stepOn_289 m (MS c m (va_up (va_up g1 19 3) 17 ((e : Nat) : Int)) r s t)) (M := e - (b + 1)) ?_ ?_ FU 0 (by omega) (FU_lt (by omega))
          · have e0 : va_up (va_up g1 19 3) 17 ((b + 1 + 0 : Nat) : Int) = va_up g1 19 3 := by
              have x : (va_up g1 19 3) 17 = ((b + 1 : Nat) : Int) := by rw [va_up_ne _ _ (by omega)]; exact g117
              ((try rw [show b + 1 + 0 = b + 1 from rfl]); rw [← x, up_id])
            have k2 : lp (fun _ _ => none) (fX13_stepOn_254 fX13_stepOn_289) FU m (MS c m (va_up (va_up g1 19 3) 17 ((b + 1 + 0 : Nat) : Int)) r s t) = _ := k2
            rw [e0] at k2
            rw [k2]
            refine fin _ e 3 3 (va_up_self _ _ _) ?_ ?_ et rfl ?_ (fun j hj => ?_)
            · rw [va_up_ne _ _ (by omega), va_up_self]
            · ((try rw [va_up_ne _ _ (by omega)]); (try rw [va_up_ne _ _ (by omega)]); rw [g1n _ (by omega)]); exact g21
            · ((try rw [va_up_ne _ _ (by omega)]); (try rw [va_up_ne _ _ (by omega)]); rw [g1n _ (by omega), if_neg (by decide)]); exact g20
            · ((try rw [va_up_ne _ _ (by omega)]); (try rw [va_up_ne _ _ (by omega)]); rw [g1n _ (by omega)]); exact gn j (by omega) (by omega)
          · intro i hi kk
            have q := r3 (b + 1 + i) (by omega) (by omega)
            have br2 := btr (b + 1 + i)
            unfold fX13_stepOn_254
            ((try rw [s_gI hm]); rw [o_ob]; (try rw [va_up_ne _ _ (show (19 : Nat) ≠ 17 by omega)]); (try rw [va_up_self]); rw [if_pos (by rfl)]; (try rw [s_gI hm]); rw [o_ob]; (try rw [va_up_self]); rw [bA _ (b + 1 + i) (by ((try rw [va_up_ne _ _ (by omega)]); (try rw [va_up_ne _ _ (by omega)]); rw [g1n _ (by omega)]); exact g18) (by omega), o_ob, w_isHx br2.1 br2.2, q, o_ob, if_neg (by decide)]; (try rw [s_gI hm]); rw [o_ob]; (try rw [va_up_self]); (try rw [show (1 : Int32) = jI 1 from rfl]); (try rw [jI_add]); rw [s_pI hm, o_ob]; (try rw [upup]))
            rfl
          · intro kk
            have br2 := btr e
            unfold fX13_stepOn_254
            ((try rw [show b + 1 + (e - (b + 1)) = e by omega]); (try rw [s_gI hm]); rw [o_ob]; (try rw [va_up_ne _ _ (show (19 : Nat) ≠ 17 by omega)]); (try rw [va_up_self]); rw [if_pos (by rfl)]; (try rw [s_gI hm]); rw [o_ob]; (try rw [va_up_self]); rw [bA _ e (by ((try rw [va_up_ne _ _ (by omega)]); (try rw [va_up_ne _ _ (by omega)]); rw [g1n _ (by omega)]); exact g18) (by omega), o_ob, w_isHx br2.1 br2.2]; (try rw [r4]); rw [o_ob, if_pos (by rfl)])
  · intro i hi kk
    have q := b3 (p + i) (by omega) (by omega)
    have x18 : (va_up f 17 ((p + i : Nat) : Int)) 18 = (n : Int) := by rw [va_up_ne _ _ (by omega)]; exact h18
    have ei : bt tx n (p + i) = tx (p + i) := bti _ (by omega)
    have tb := htr (p + i) (by omega)
    have go : fX13_stepOn_26 kk m (MS c m (va_up f 17 ((p + i : Nat) : Int)) r s t) = kk m (MS c m (va_up f 17 ((p + (i + 1) : Nat) : Int)) r s t) := by
      unfold fX13_stepOn_26
      ((try rw [s_gI hm]); rw [o_ob]; (try rw [va_up_self]); (try rw [show (1 : Int32) = jI 1 from rfl]); (try rw [jI_add]); rw [s_pI hm, o_ob]; (try rw [upup]))
      rfl
    unfold fX13_stepOn_0
    ((try rw [s_gI hm]); rw [o_ob]; (try rw [va_up_self]); rw [bA _ (p + i) x18 (by omega), o_ob, ei])
    unfold isBk at q
    simp at q
    by_cases q32 : tx (p + i) = 32
    · rw [if_pos (by rw [q32]; rfl)]; exact go
    · have q10 : tx (p + i) = 10 := by omega
      (rw [if_neg (show ¬ jI (tx (p + i)) = 32 by rw [q10]; decide)]; (try rw [s_gI hm]); rw [o_ob]; (try rw [va_up_self]); rw [bA _ (p + i) x18 (by omega), o_ob, ei, if_pos (by rw [q10]; rfl)])
      exact go
  · intro kk
    have x18 : (va_up f 17 ((b : Nat) : Int)) 18 = (n : Int) := by rw [va_up_ne _ _ (by omega)]; exact h18
    have y32 : ¬ jI (bt tx n b) = 32 := by rw [show (32 : Int32) = jI 32 from rfl, jI_eq (by omega) (by omega) (by omega) (by omega)]; exact n32
    have y10 : ¬ jI (bt tx n b) = 10 := by rw [show (10 : Int32) = jI 10 from rfl, jI_eq (by omega) (by omega) (by omega) (by omega)]; exact n10
    have go : ∀ k0 : Nat → Hp → Option Hp, fX13_stepOn_0 k0 m (MS c m (va_up f 17 ((b : Nat) : Int)) r s t) = ob (gI 11 m 17 (MS c m (va_up f 17 ((b : Nat) : Int)) r s t)) fun v7 => ob (pI 11 m 21 v7 (MS c m (va_up f 17 ((b : Nat) : Int)) r s t)) fun h => ob (gI 11 m 17 h) fun v8 => ob (fX13_byteAt m v8 h) fun v9 => if v9 = (-1) then ob (pI 11 m 19 0 h) fun h => fX13_stepOn_289 m h else ob (fX13_isLetter v9) fun v11 => if v11 = 0 then ob (fX13_isDigit v9) fun v13 => if v13 = 0 then ob (gI 11 m 17 h) fun v15 => ob (pI 11 m 17 (v15 + 1) h) fun h => if v9 = 59 then fX13_stepOn_221 (fX13_stepOn_226 fX13_stepOn_289) m v9 m h else if v9 = 58 then fX13_stepOn_221 (fX13_stepOn_226 fX13_stepOn_289) m v9 m h else if v9 = 37 then fX13_stepOn_221 (fX13_stepOn_226 fX13_stepOn_289) m v9 m h else if v9 = 45 then fX13_stepOn_221 (fX13_stepOn_226 fX13_stepOn_289) m v9 m h else fX13_stepOn_226 fX13_stepOn_289 m v9 5 m h else ob (pI 11 m 20 0 h) fun h => lp (fun _ _ => none) (fX13_stepOn_123 fX13_stepOn_289) FU m h else lp (fun _ _ => none) (fX13_stepOn_76 fX13_stepOn_289) FU m h := by
      intro k0
      unfold fX13_stepOn_0
      generalize hR : (ob (gI 11 m 17 (MS c m (va_up f 17 ((b : Nat) : Int)) r s t)) fun v7 => ob (pI 11 m 21 v7 (MS c m (va_up f 17 ((b : Nat) : Int)) r s t)) fun h => ob (gI 11 m 17 h) fun v8 => ob (fX13_byteAt m v8 h) fun v9 => if v9 = (-1) then ob (pI 11 m 19 0 h) fun h => fX13_stepOn_289 m h else ob (fX13_isLetter v9) fun v11 => if v11 = 0 then ob (fX13_isDigit v9) fun v13 => if v13 = 0 then ob (gI 11 m 17 h) fun v15 => ob (pI 11 m 17 (v15 + 1) h) fun h => if v9 = 59 then fX13_stepOn_221 (fX13_stepOn_226 fX13_stepOn_289) m v9 m h else if v9 = 58 then fX13_stepOn_221 (fX13_stepOn_226 fX13_stepOn_289) m v9 m h else if v9 = 37 then fX13_stepOn_221 (fX13_stepOn_226 fX13_stepOn_289) m v9 m h else if v9 = 45 then fX13_stepOn_221 (fX13_stepOn_226 fX13_stepOn_289) m v9 m h else fX13_stepOn_226 fX13_stepOn_289 m v9 5 m h else ob (pI 11 m 20 0 h) fun h => lp (fun _ _ => none) (fX13_stepOn_123 fX13_stepOn_289) FU m h else lp (fun _ _ => none) (fX13_stepOn_76 fX13_stepOn_289) FU m h) = RR
      ((try rw [s_gI hm]); rw [o_ob]; (try rw [va_up_self]); rw [bA _ b x18 (by omega), o_ob, if_neg y32]; (try rw [s_gI hm]); rw [o_ob]; (try rw [va_up_self]); rw [bA _ b x18 (by omega), o_ob, if_neg y10])
    ((try rw [show p + (b - p) = b by omega]); rw [go kk, go (fun _ _ => none)])
end RTK
