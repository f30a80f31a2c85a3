section RAM
variable {c : MC} {m : Nat} {f r : Nat → Int} {s t : SI2} {many k mm n : Nat} {P : PG} {A : Nat → Nat → Int} {nt cr tp : Nat → Int} {fp : Int} {im : Option DS}
/-- where the ways of a state lie -/
def bN (b : Bool) : Nat := if b then 1 else 0
def wix (k : Nat) (is be : Bool) : Nat := 4 * k + 2 * bN is + bN be
theorem bN_b2 (b : Bool) : ((bN b : Nat) : Int) = b2 b := by cases b <;> rfl
theorem bN_le (b : Bool) : bN b ≤ 1 := by cases b <;> decide
theorem s_wayAt {k : Nat} {is be : Bool} (hm : Mo c m) : fX13_wayAt m (jI (k : Int)) (jI (b2 is)) (jI (b2 be)) (MS c m f r s t) = some (jI ((wix k is be : Nat) : Int)) := by
  unfold fX13_wayAt wix
  rw [s_gd _ hm]
  cases is with
  | false =>
    (rw [if_pos (by rfl)]; (try rw [show (4 : Int32) = jI 4 from rfl]); (try rw [show (0 : Int32) = jI 0 from rfl]); (try rw [jI_mul]); (try rw [jI_add]); (try rw [jI_add]); rw [← bN_b2 be])
    congr 2
  | true =>
    (rw [if_neg (by decide)]; (try rw [show (4 : Int32) = jI 4 from rfl]); (try rw [show (2 : Int32) = jI 2 from rfl]); (try rw [jI_mul]); (try rw [jI_add]); (try rw [jI_add]); rw [← bN_b2 be])
    congr 2
theorem s_gives {d mk fill v : Int} {is : Bool} (hm : Mo c m) (h54 : f 54 = fill) (hD : mk = 32 ∨ mk = 33) (d0 : 0 ≤ d) (d1 : d < 10) (f0 : 0 ≤ fill) (f1 : fill < 256) (v0 : 0 ≤ v) (v1 : v < 256) : fX13_gives m (jI d) (jI (b2 is)) (jI v) (MS c m f r s t) = some (jI (b2 (decide (v = ldv mk fill is d)))) := by
  have cmp : ∀ z : Int, 0 ≤ z → z < 256 → fX13_gives_21 (MS c m f r s t) (jI z) (jI v) = some (jI (b2 (decide (v = z)))) := by
    intro z z0 z1
    unfold fX13_gives_21
    by_cases q : v = z
    · rw [if_pos (by rw [q])]; simp only [q, decide_true]; rfl
    · rw [if_neg (by rw [jI_eq (by omega) (by omega) (by omega) (by omega)]; exact q)]; simp only [q, decide_false]; rfl
  have hi : ldv mk fill is d = if d = 0 ∧ is = false then fill else 240 + d := by unfold ldv; rw [if_pos hD]
  rw [hi]
  unfold fX13_gives fX13_gives_16
  rw [s_gd _ hm]
  by_cases q : d = 0
  · rw [if_pos (by rw [q]; rfl)]
    cases is with
    | false => (rw [if_pos (by rfl)]; (try rw [s_gI hm]); rw [o_ob]; (try rw [h54]); rw [if_pos ⟨q, rfl⟩]); exact cmp fill f0 f1
    | true => (rw [if_neg (by decide)]; (try rw [show (240 : Int32) = jI 240 from rfl]); (try rw [jI_add]); rw [if_neg (by simp)]); exact cmp _ (by omega) (by omega)
  · (rw [if_neg (by rw [show (0 : Int32) = jI 0 from rfl, jI_eq (by omega) (by omega) (by omega) (by omega)]; exact q)]; (try rw [show (240 : Int32) = jI 240 from rfl]); (try rw [jI_add]); rw [if_neg (fun z => q z.1)]); exact cmp _ (by omega) (by omega)
theorem s_seenB {d mk lst : Int} {k : Nat} {is be : Bool} (hm : Mo c m) (h53 : f 53 = lst) (hD : mk = 32 ∨ mk = 33) (d0 : 0 ≤ d) (d1 : d < 10) (l0 : -1 ≤ lst) (l1 : lst < 256) (hk : k < 256) : fX13_seenBehind m (jI (k : Int)) (jI mk) (jI d) (jI (b2 is)) (jI (b2 be)) (MS c m f r s t) = some (jI (b2 (sbv mk is d (decide ((k : Int) = lst) && !be)))) := by
  have c13 : fX13_seenBehind_13 (MS c m f r s t) (jI mk) (jI d) (jI (b2 is)) = some (jI (b2 (is || d != 0 || mk == 33))) := by
    unfold fX13_seenBehind_13
    cases is with
    | true => rw [if_neg (by decide)]; rfl
    | false =>
      rw [if_pos (by rfl)]
      by_cases q : d = 0
      · rw [if_pos (by rw [q]; rfl)]
        rcases hD with e | e
        · rw [e, q, if_neg (by decide)]; rfl
        · rw [e, q, if_pos (by rfl)]; rfl
      · rw [if_neg (by rw [show (0 : Int32) = jI 0 from rfl, jI_eq (by omega) (by omega) (by omega) (by omega)]; exact q)]
        have : (d != 0) = true := by simpa using q
        rw [this]; rfl
  have hs : sbv mk is d (decide ((k : Int) = lst) && !be) = (!(decide ((k : Int) = lst) && !be) && (is || d != 0 || mk == 33)) := by unfold sbv; rw [if_pos hD]
  rw [hs]
  unfold fX13_seenBehind
  (rw [s_gd _ hm]; (try rw [s_gI hm]); rw [o_ob]; (try rw [h53]))
  by_cases q : (k : Int) = lst
  · rw [if_pos (by rw [q])]
    cases be with
    | false => rw [if_pos (by rfl)]; simp only [q, decide_true]; rfl
    | true => rw [if_neg (by decide), c13]; simp only [q, decide_true, Bool.not_true, Bool.and_false, Bool.not_false, Bool.true_and]
  · rw [if_neg (by rw [jI_eq (by omega) (by omega) (by omega) (by omega)]; exact q), c13]
    simp only [q, decide_false, Bool.false_and, Bool.not_false, Bool.true_and]
/-- the ways of all states from a byte on are told -/
def WT (C V : Nat → Int) (n k : Nat) (t : SI2) : Prop := ∀ j, k ≤ j → j ≤ n → ∀ is be, t 23 (wix j is be) = ((wy C V n (n - j) is be : Nat) : Int)
theorem WT_up {C V : Nat → Int} {n k i : Nat} {v : Int} (h : WT C V n k t) (hi : i < 4 * k) : WT C V n k (va_up t 23 (va_up (t 23) i v)) := fun j h1 h2 is be => by
  rw [va_up_self, va_up_ne _ _ (by unfold wix; omega)]
  exact h j h1 h2 is be
theorem s_waysOf {C V : Nat → Int} {p q n k : Nat} {is be : Bool} (hm : Mo c m) (hr : Byt r) (hC : C = fun j => r (p + j)) (hV : V = fun j => r (q + j)) (hp : p + n ≤ 256) (hq : q + n ≤ 256) (hn : n ≤ 32) (hk : k < n) (h54 : f 54 = r p) (h53 : f 53 = lstD C n) (hw : WT C V n (k + 1) t) : fX13_waysOf m (jI (p : Int)) (jI (k : Int)) (jI (q : Int)) (jI (b2 is)) (jI (b2 be)) (MS c m f r s t) = some (jL ((wy C V n (n - k) is be : Nat) : Int)) := by
  have lr := lstD_r C n
  have bC : 0 ≤ C k ∧ C k < 256 := by rw [hC]; exact hr (p + k) (by omega)
  have bV : 0 ≤ V k ∧ V k < 256 := by rw [hV]; exact hr (q + k) (by omega)
  have eC : r (p + k) = C k := by rw [hC]
  have eV : r (q + k) = V k := by rw [hV]
  have eC0 : r p = C 0 := by rw [hC]; rfl
  have b0 : 0 ≤ C 0 ∧ C 0 < 256 := by rw [hC]; exact hr (p + 0) (by omega)
  have ew : wy C V n (n - k) is be = sm (fun d => if V k = ldv (C k) (C 0) is (d : Int) then wy C V n (n - 1 - k) (sbv (C k) is (d : Int) (decide ((k : Int) = lstD C n) && !be)) be else 0) (if isD (C k) then 10 else 1) := by
    ((try rw [show n - k = (n - 1 - k) + 1 by omega]); rw [wy_s]; (try rw [show n - 1 - (n - 1 - k) = k by omega]))
  have row : ∀ z : Nat, z < 256 → aI (m + 3) (jI (z : Int)) (MS c m f r s t) = some (jI (r z)) := fun z hz => by
    rw [s_a3 hm (by omega) (by omega), show ((z : Int)).toNat = z by omega]
  have wat : ∀ is' be', aL (m + 23) (jI ((wix (k + 1) is' be' : Nat) : Int)) (MS c m f r s t) = some (jL ((wy C V n (n - 1 - k) is' be' : Nat) : Int)) := fun is' be' => by
    have l1 := bN_le is'
    have l2 := bN_le be'
    (rw [s_a23 hm (by omega) (by unfold wix; omega)]; (try rw [show (((wix (k + 1) is' be' : Nat) : Int)).toNat = wix (k + 1) is' be' by omega]); rw [hw (k + 1) (by omega) (by omega)]; (try rw [show n - (k + 1) = n - 1 - k by omega]))
  have ek : jI (k : Int) + 1 = jI ((k + 1 : Nat) : Int) := by rw [show (1 : Int32) = jI 1 from rfl, jI_add]; rfl
  have epk : jI (p : Int) + jI (k : Int) = jI ((p + k : Nat) : Int) := by rw [jI_add]; rfl
  have eqk : jI (q : Int) + jI (k : Int) = jI ((q + k : Nat) : Int) := by rw [jI_add]; rfl
  rw [ew]
  unfold fX13_waysOf
  (rw [s_gd _ hm]; (try rw [s_R3 hm]); rw [o_ob, epk, row (p + k) (by omega), o_ob, eC])
  by_cases hD : C k = 32 ∨ C k = 33
  · -- a byte that takes a digit
    rw [if_pos (isD_iff.2 hD)]
    obtain ⟨F, hF⟩ : ∃ F : Nat → Nat, F = fun (d : Nat) => if V k = ldv (C k) (C 0) is (d : Int) then wy C V n (n - 1 - k) (sbv (C k) is (d : Int) (decide ((k : Int) = lstD C n) && !be)) be else 0 := ⟨_, rfl⟩
    rw [← hF]
    have key := lp_up (z := fun _ _ _ _ _ _ _ _ => none) (S := fX13_waysOf_102 (MS c m f r s t)) (β := Int64) (fun kk (i : Nat) => kk m (jI (k : Int)) (jI (q : Int)) (jI (b2 is)) (jI (b2 be)) (jI (C k)) (jL ((sm F i : Nat) : Int)) (jI (i : Int))) (E := some (jL ((sm F 10 : Nat) : Int))) (M := 10) ?_ ?_ FU 0 (by omega) (FU_lt (by omega))
    · have key : lp (fun _ _ _ _ _ _ _ _ => none) (fX13_waysOf_102 (MS c m f r s t)) FU m (jI (k : Int)) (jI (q : Int)) (jI (b2 is)) (jI (b2 be)) (jI (C k)) 0 0 = _ := key
      rcases hD with e | e
      · rw [if_pos (by rw [e]; rfl)]; exact key
      · rw [if_neg (by rw [e]; decide), if_pos (by rw [e]; rfl)]; exact key
    · intro i hi kk
      have ei : jI (i : Int) + 1 = jI ((i + 1 : Nat) : Int) := by rw [show (1 : Int32) = jI 1 from rfl, jI_add]; rfl
      unfold fX13_waysOf_102
      (rw [if_neg (by first | ((simp (disch := omega) only [jI_lit, jI_neg, jI_add, jI_sub, jI_mul, jI_lt, jI_le, jI_eq, jL_lit, jL_lt, jL_le, jL_eq]) <;> omega) | omega)]; (try rw [s_R3 hm]); rw [o_ob, eqk, row (q + k) (by omega), o_ob, eV, s_gives (mk := C k) (fill := C 0) (d := (i : Int)) hm (h54.trans eC0) hD (by omega) (by omega) b0.1 b0.2 bV.1 bV.2, o_ob])
      by_cases g : V k = ldv (C k) (C 0) is (i : Int)
      · have eF : sm F (i + 1) = sm F i + wy C V n (n - 1 - k) (sbv (C k) is (i : Int) (decide ((k : Int) = lstD C n) && !be)) be := by
          show sm F i + F i = _
          rw [hF]
          show _ + (if V k = ldv (C k) (C 0) is (i : Int) then _ else 0) = _
          rw [if_pos g]
        (rw [if_neg (by rw [decide_eq_true g]; decide)]; (try rw [s_R52 hm]); rw [o_ob, s_seenB (mk := C k) (d := (i : Int)) hm h53 hD (by omega) (by omega) lr.1 (by omega) (by omega), o_ob, ek, s_wayAt hm, o_ob, wat, o_ob, o_lt, o_lt, ei, jL_add, eF])
        rfl
      · have eF : sm F (i + 1) = sm F i := by
          show sm F i + F i = _
          rw [hF]
          show _ + (if V k = ldv (C k) (C 0) is (i : Int) then _ else 0) = _
          rw [if_neg g]
          rfl
        rw [if_pos (by rw [decide_eq_false g]; rfl), o_lt, ei, eF]
    · intro kk
      unfold fX13_waysOf_102
      rw [if_pos (by first | ((simp (disch := omega) only [jI_lit, jI_neg, jI_add, jI_sub, jI_mul, jI_lt, jI_le, jI_eq, jL_lit, jL_lt, jL_le, jL_eq]) <;> omega) | omega)]
  · -- another
    have n32 : C k ≠ 32 := fun e => hD (Or.inl e)
    have n33 : C k ≠ 33 := fun e => hD (Or.inr e)
    have hs : sbv (C k) is 0 (decide ((k : Int) = lstD C n) && !be) = (decide (C k ≠ 34) && is) := by unfold sbv; rw [if_neg hD]
    have hl : ldv (C k) (C 0) is 0 = if C k = 34 then C 0 else if is = true then C k else C 0 := by unfold ldv; rw [if_neg hD]
    have one : ∀ G : Nat → Nat, sm G (if isD (C k) = true then 10 else 1) = G 0 := fun G => by
      rw [if_neg (fun z => hD (isD_iff.1 z))]
      show 0 + G 0 = G 0
      omega
    rw [one]
    show _ = some (jL ((if V k = ldv (C k) (C 0) is 0 then wy C V n (n - 1 - k) (sbv (C k) is 0 (decide ((k : Int) = lstD C n) && !be)) be else 0 : Nat) : Int))
    rw [hs, hl]
    have c85 : ∀ is' : Bool, fX13_waysOf_85 (MS c m f r s t) (jI (b2 be)) (jI (b2 is')) (jI ((k + 1 : Nat) : Int)) m (m + 23) = some (jL ((wy C V n (n - 1 - k) is' be : Nat) : Int)) := fun is' => by
      unfold fX13_waysOf_85
      rw [s_wayAt hm, o_ob, wat, o_ob]
    have c45 : ∀ z : Int, 0 ≤ z → z < 256 → fX13_waysOf_45 (MS c m f r s t) m (jI (k : Int)) (jI (q : Int)) (jI (b2 is)) (jI (b2 be)) (jI (C k)) (jI z) = some (jL ((if V k = z then wy C V n (n - 1 - k) (decide (C k ≠ 34) && is) be else 0 : Nat) : Int)) := by
      intro z z0 z1
      unfold fX13_waysOf_45 fX13_waysOf_84
      ((try rw [s_R3 hm]); rw [o_ob, eqk, row (q + k) (by omega), o_ob, eV])
      by_cases g : V k = z
      · (rw [if_pos (by rw [g]), if_pos g]; (try rw [s_R52 hm]); rw [o_ob, ek])
        by_cases g4 : C k = 34
        · have e4 : (decide (C k ≠ 34) && is) = false := by simp [g4]
          rw [if_pos (by rw [g4]; rfl), e4]
          exact c85 false
        · have e4 : (decide (C k ≠ 34) && is) = is := by simp [g4]
          rw [if_neg (by rw [show (34 : Int32) = jI 34 from rfl, jI_eq (by omega) (by omega) (by omega) (by omega)]; exact g4), e4]
          cases is with
          | false => rw [if_pos (by rfl)]; exact c85 false
          | true => rw [if_neg (by decide)]; exact c85 true
      · rw [if_neg (by rw [jI_eq (by omega) (by omega) (by omega) (by omega)]; exact fun e => g e.symm), if_neg g]
        rfl
    rw [if_neg (by rw [show (32 : Int32) = jI 32 from rfl, jI_eq (by omega) (by omega) (by omega) (by omega)]; exact n32), if_neg (by rw [show (33 : Int32) = jI 33 from rfl, jI_eq (by omega) (by omega) (by omega) (by omega)]; exact n33)]
    unfold fX13_waysOf_36
    ((try rw [s_gI hm]); rw [o_ob]; (try rw [h54]); rw [eC0])
    by_cases g4 : C k = 34
    · rw [if_pos (by rw [g4]; rfl), if_pos g4]
      exact c45 _ b0.1 b0.2
    · rw [if_neg (by rw [show (34 : Int32) = jI 34 from rfl, jI_eq (by omega) (by omega) (by omega) (by omega)]; exact g4), if_neg g4]
      cases is with
      | false => rw [if_pos (by rfl), if_neg (show ¬ false = true by decide)]; exact c45 _ b0.1 b0.2
      | true => rw [if_neg (by decide), if_pos (show true = true from rfl)]; exact c45 _ bC.1 bC.2
end RAM
