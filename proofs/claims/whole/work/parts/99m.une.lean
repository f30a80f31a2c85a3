section RAO
theorem sm_nz {g : Nat → Nat} : ∀ {n : Nat}, sm g n = 0 → ∀ d, d < n → g d = 0
  | 0, _, d, h => by omega
  | n + 1, h, d, hd => by
    have h : sm g n + g n = 0 := h
    by_cases q : d = n
    · rw [q]; omega
    · exact sm_nz (n := n) (by omega) d (by omega)
theorem sm_z {g : Nat → Nat} : ∀ {n : Nat}, (∀ d, d < n → g d = 0) → sm g n = 0
  | 0, _ => rfl
  | n + 1, h => by
    show sm g n + g n = 0
    rw [sm_z (n := n) (fun d hd => h d (by omega)), h n (by omega)]
theorem lstD_D {C : Nat → Int} : ∀ {n : Nat}, 0 ≤ lstD C n → isD (C (lstD C n).toNat) = true
  | 0, h => by have h : (0 : Int) ≤ -1 := h; omega
  | n + 1, h => by
    unfold lstD at h ⊢
    by_cases q : isD (C n) = true
    · rw [if_pos q]; exact q
    · rw [if_neg q] at h ⊢; exact lstD_D h
theorem lstD_ge {C : Nat → Int} {k : Nat} (hk : isD (C k) = true) : ∀ {n : Nat}, k < n → (k : Int) ≤ lstD C n
  | 0, h => by omega
  | n + 1, h => by
    unfold lstD
    by_cases q : isD (C n) = true
    · rw [if_pos q]; omega
    · rw [if_neg q]
      have : k ≠ n := fun e => q (e ▸ hk)
      exact lstD_ge hk (by omega)
theorem wy_be {C V : Nat → Int} {n : Nat} (h : lstD C n = -1) : ∀ j is, wy C V n j is false = wy C V n j is true
  | 0, _ => rfl
  | j + 1, is => by
    rw [wy_s, wy_s]
    refine sm_eq (fun d _ => ?_)
    have e : decide (((n - 1 - j : Nat) : Int) = lstD C n) = false := by rw [h]; exact decide_eq_false (by omega)
    rw [e, Bool.false_and, Bool.false_and, wy_be h j]
/-- the ways of one digit -/
def ta (C V : Nat → Int) (n k : Nat) (is be : Bool) (d : Nat) : Nat := if V k = ldv (C k) (C 0) is (d : Int) then wy C V n (n - 1 - k) (sbv (C k) is (d : Int) (decide ((k : Int) = lstD C n) && !be)) be else 0
theorem wyk {C V : Nat → Int} {n k : Nat} (is be : Bool) (hk : k < n) : wy C V n (n - k) is be = sm (ta C V n k is be) (if isD (C k) then 10 else 1) := by
  ((try rw [show n - k = (n - 1 - k) + 1 by omega]); rw [wy_s]; (try rw [show n - 1 - (n - 1 - k) = k by omega]))
  rfl
def oS (x : Nat) (is be : Bool) : OB := if x = 0 then none else some (is, be)
theorem oS_some {x : Nat} {is be : Bool} : (oS x is be).isSome = decide (x ≠ 0) := by
  unfold oS
  by_cases q : x = 0
  · rw [if_pos q]; simp [q]
  · rw [if_neg q]; simp [q]
theorem wayO_oS {C V : Nat → Int} {n k d : Nat} {is be : Bool} (hz : wy C V n (n - k) is be = 0 → ta C V n k is be d = 0) : wayO C V n k (oS (wy C V n (n - k) is be) is be) (d : Int) = oS (ta C V n k is be d) (sbv (C k) is (d : Int) (decide ((k : Int) = lstD C n) && !be)) be := by
  by_cases q : wy C V n (n - k) is be = 0
  · rw [hz q]
    unfold oS
    rw [if_pos q, if_pos rfl]
    rfl
  · have e : oS (wy C V n (n - k) is be) is be = some (is, be) := if_neg q
    rw [e]
    unfold wayO ta oS
    by_cases g : V k = ldv (C k) (C 0) is (d : Int)
    · show (if V k = ldv (C k) (C 0) is (d : Int) then _ else _) = _
      rw [if_pos g, if_pos g]
    · show (if V k = ldv (C k) (C 0) is (d : Int) then _ else _) = _
      rw [if_neg g, if_neg g, if_pos rfl]
/-- the states ahead of a byte, no later than the last digit -/
def SA (C V : Nat → Int) (n k : Nat) (is : Bool) : Prop := (fsO C V n k).1 = oS (wy C V n (n - k) is false) is false ∧ (fsO C V n k).2.1 = oS (wy C V n (n - k) is true) is true ∧ ¬ (wy C V n (n - k) is false = 0 ∧ wy C V n (n - k) is true = 0)
theorem fdg_D {C V : Nat → Int} {n k D : Nat} {is : Bool} (hk : k < n) (hD : isD (C k) = true) (h : SA C V n k is) (d10 : D < 10) (hd : ¬ (ta C V n k is false D = 0 ∧ ta C V n k is true D = 0)) (h0 : ∀ d, d < D → ta C V n k is false d = 0 ∧ ta C V n k is true d = 0) : fdg C V n k (fsO C V n k).1 (fsO C V n k).2.1 = D := by
  obtain ⟨e1, e2, -⟩ := h
  have hz : ∀ be d, d < 10 → wy C V n (n - k) is be = 0 → ta C V n k is be d = 0 := fun be d hd q => by
    rw [wyk is be hk, if_pos hD] at q
    exact sm_nz q d hd
  have eq : ∀ d, d < 10 → fdq C V n k (fsO C V n k).1 (fsO C V n k).2.1 d = (decide (ta C V n k is false d ≠ 0) || decide (ta C V n k is true d ≠ 0)) := fun d hd => by
    unfold fdq
    ((try rw [e1]); rw [e2, wayO_oS (hz false d hd), wayO_oS (hz true d hd), oS_some, oS_some])
  have t0 : ∀ d, d < D → fdq C V n k (fsO C V n k).1 (fsO C V n k).2.1 d = false := fun d hd => by
    rw [eq d (by omega), (h0 d hd).1, (h0 d hd).2]; rfl
  unfold fdg
  by_cases q : D < 9
  · have e : fnd (fdq C V n k (fsO C V n k).1 (fsO C V n k).2.1) 0 9 = (D : Int) := fnd_is (by omega) (by omega) (by
      rw [eq D d10]
      by_cases x : ta C V n k is false D = 0
      · have y : ta C V n k is true D ≠ 0 := fun y => hd ⟨x, y⟩
        rw [decide_eq_true y, Bool.or_true]
      · rw [decide_eq_true x, Bool.true_or]) (fun j _ hj => t0 j hj)
    rw [e, if_neg (by omega)]
    omega
  · have e : fnd (fdq C V n k (fsO C V n k).1 (fsO C V n k).2.1) 0 9 = -1 := fnd_no (fun j _ hj => t0 j (by omega))
    rw [if_pos e]
    omega
/-- a byte that takes no digit -/
theorem ta_n {C V : Nat → Int} {n k : Nat} {is be : Bool} {d : Nat} (hD : isD (C k) ≠ true) : ta C V n k is be d = ta C V n k is be 0 ∧ sbv (C k) is (d : Int) (decide ((k : Int) = lstD C n) && !be) = (decide (C k ≠ 34) && is) := by
  have n2 : ¬ (C k = 32 ∨ C k = 33) := fun e => hD (isD_iff.2 e)
  have hs : ∀ x ab, sbv (C k) is x ab = (decide (C k ≠ 34) && is) := fun x ab => by unfold sbv; rw [if_neg n2]
  have hl : ∀ x, ldv (C k) (C 0) is x = ldv (C k) (C 0) is 0 := fun x => by unfold ldv; rw [if_neg n2, if_neg n2]
  refine ⟨?_, hs _ _⟩
  unfold ta
  rw [hs, hs, hl ((d : Nat) : Int), hl ((0 : Nat) : Int)]
theorem SA_n {C V : Nat → Int} {n k : Nat} {is : Bool} (hk : k < n) (hD : isD (C k) ≠ true) (h : SA C V n k is) : SA C V n (k + 1) (decide (C k ≠ 34) && is) := by
  obtain ⟨e1, e2, e3⟩ := h
  have one : ∀ be, wy C V n (n - k) is be = ta C V n k is be 0 := fun be => by
    rw [wyk is be hk, if_neg hD]
    show 0 + ta C V n k is be 0 = _
    omega
  obtain ⟨dd, hdd⟩ : ∃ dd, dd = fdg C V n k (fsO C V n k).1 (fsO C V n k).2.1 := ⟨_, rfl⟩
  have wo : ∀ be, wayO C V n k (oS (wy C V n (n - k) is be) is be) (dd : Int) = oS (ta C V n k is be 0) (decide (C k ≠ 34) && is) be := fun be => by
    rw [wayO_oS (fun q => by rw [(ta_n hD).1, ← one be]; exact q), (ta_n hD).1, (ta_n (V := V) hD).2]
  have g : V k = ldv (C k) (C 0) is ((0 : Nat) : Int) := Decidable.byContradiction fun g => e3 (by
    rw [one false, one true]
    unfold ta
    rw [if_neg g, if_neg g]
    exact ⟨rfl, rfl⟩)
  have tw : ∀ be, ta C V n k is be 0 = wy C V n (n - (k + 1)) (decide (C k ≠ 34) && is) be := fun be => by
    have x := (ta_n (C := C) (V := V) (n := n) (k := k) (is := is) (be := be) (d := 0) hD).2
    unfold ta
    (rw [if_pos g, x]; (try rw [show n - 1 - k = n - (k + 1) by omega]))
  refine ⟨?_, ?_, ?_⟩
  · show wayO C V n k (fsO C V n k).1 (fdg C V n k (fsO C V n k).1 (fsO C V n k).2.1 : Nat) = _
    ((try rw [← hdd]); (try rw [e1]); rw [wo false, tw false])
  · show wayO C V n k (fsO C V n k).2.1 (fdg C V n k (fsO C V n k).1 (fsO C V n k).2.1 : Nat) = _
    ((try rw [← hdd]); rw [e2, wo true, tw true])
  · rw [← tw false, ← tw true, ← one false, ← one true]
    exact e3
/-- a byte that takes a digit, ahead of the last such -/
theorem SA_d {C V : Nat → Int} {n k D : Nat} {is : Bool} (hk : k < n) (hD : isD (C k) = true) (h : SA C V n k is) (d10 : D < 10) (hd : ¬ (ta C V n k is false D = 0 ∧ ta C V n k is true D = 0)) (h0 : ∀ d, d < D → ta C V n k is false d = 0 ∧ ta C V n k is true d = 0) :
    (fsO C V n (k + 1)).1 = oS (ta C V n k is false D) (sbv (C k) is (D : Int) (decide ((k : Int) = lstD C n) && !false)) false ∧ ((k : Int) ≠ lstD C n → SA C V n (k + 1) (sbv (C k) is (D : Int) false)) := by
  have fd := fdg_D hk hD h d10 hd h0
  obtain ⟨e1, e2, e3⟩ := h
  have hz : ∀ be, wy C V n (n - k) is be = 0 → ta C V n k is be D = 0 := fun be q => by
    rw [wyk is be hk, if_pos hD] at q
    exact sm_nz q D d10
  have x1 : (fsO C V n (k + 1)).1 = oS (ta C V n k is false D) (sbv (C k) is (D : Int) (decide ((k : Int) = lstD C n) && !false)) false := by
    show wayO C V n k (fsO C V n k).1 (fdg C V n k (fsO C V n k).1 (fsO C V n k).2.1 : Nat) = _
    (rw [fd]; (try rw [e1]); rw [wayO_oS (hz false)])
  have x2 : (fsO C V n (k + 1)).2.1 = oS (ta C V n k is true D) (sbv (C k) is (D : Int) (decide ((k : Int) = lstD C n) && !true)) true := by
    show wayO C V n k (fsO C V n k).2.1 (fdg C V n k (fsO C V n k).1 (fsO C V n k).2.1 : Nat) = _
    rw [fd, e2, wayO_oS (hz true)]
  refine ⟨x1, fun hl => ?_⟩
  have el : decide ((k : Int) = lstD C n) = false := decide_eq_false hl
  have g : V k = ldv (C k) (C 0) is (D : Int) := Decidable.byContradiction fun g => hd (by
    unfold ta
    rw [if_neg g, if_neg g]
    exact ⟨rfl, rfl⟩)
  have tw : ∀ be, ta C V n k is be D = wy C V n (n - (k + 1)) (sbv (C k) is (D : Int) false) be := fun be => by
    unfold ta
    (rw [if_pos g, el, Bool.false_and]; (try rw [show n - 1 - k = n - (k + 1) by omega]))
  rw [el, Bool.false_and] at x1 x2
  exact ⟨by rw [x1, tw false], by rw [x2, tw true], by rw [← tw false, ← tw true]; exact hd⟩
/-- the states of a row of digits have ways -/
theorem fsO_ok {C V : Nat → Int} {n : Nat} : ∀ {k : Nat}, k ≤ n → ∀ is be, (fsO C V n k).1 = some (is, be) → be = false ∧ wy C V n (n - k) is be ≠ 0
  | 0, _, is, be, h => by
    have h : (if 0 < wy C V n n false false then some (false, false) else none) = some (is, be) := h
    by_cases q : 0 < wy C V n n false false
    · rw [if_pos q] at h
      have h := Option.some.inj h
      simp only [Prod.mk.injEq] at h
      obtain ⟨h1, h2⟩ := h
      subst h1; subst h2
      exact ⟨rfl, by rw [show n - 0 = n from rfl]; omega⟩
    · rw [if_neg q] at h; exact absurd h (by simp)
  | k + 1, hk, is, be, h => by
    have h : wayO C V n k (fsO C V n k).1 (fdg C V n k (fsO C V n k).1 (fsO C V n k).2.1 : Nat) = some (is, be) := h
    cases e : (fsO C V n k).1 with
    | none => rw [e] at h; exact absurd h (by unfold wayO; simp)
    | some x =>
      obtain ⟨is0, be0⟩ := x
      have ih := fsO_ok (k := k) (by omega) is0 be0 e
      rw [e] at h
      obtain ⟨dd, hdd⟩ : ∃ dd : Int, dd = (fdg C V n k (some (is0, be0)) (fsO C V n k).2.1 : Nat) := ⟨_, rfl⟩
      rw [← hdd] at h
      have h : (if V k = ldv (C k) (C 0) is0 dd then (if wy C V n (n - 1 - k) (sbv (C k) is0 dd (decide ((k : Int) = lstD C n) && !be0)) be0 = 0 then none else some (sbv (C k) is0 dd (decide ((k : Int) = lstD C n) && !be0), be0)) else none) = some (is, be) := h
      by_cases g : V k = ldv (C k) (C 0) is0 dd
      · rw [if_pos g] at h
        by_cases g2 : wy C V n (n - 1 - k) (sbv (C k) is0 dd (decide ((k : Int) = lstD C n) && !be0)) be0 = 0
        · rw [if_pos g2] at h; exact absurd h (by simp)
        · rw [if_neg g2] at h
          have h := Option.some.inj h
          simp only [Prod.mk.injEq] at h
          obtain ⟨h1, h2⟩ := h
          rw [← h1, ← h2]
          exact ⟨ih.1, by rw [show n - (k + 1) = n - 1 - k by omega]; exact g2⟩
      · rw [if_neg g] at h; exact absurd h (by simp)
/-- behind the last digit whether it goes on doesn't change -/
theorem fsO_keep {C V : Nat → Int} {n k : Nat} (hk : k < n) (hD : isD (C k) ≠ true) : (fsO C V n (k + 1)).1.isSome = (fsO C V n k).1.isSome := by
  show (wayO C V n k (fsO C V n k).1 (fdg C V n k (fsO C V n k).1 (fsO C V n k).2.1 : Nat)).isSome = _
  cases e : (fsO C V n k).1 with
  | none => rfl
  | some x =>
    obtain ⟨is0, be0⟩ := x
    have ih := (fsO_ok (k := k) (by omega) is0 be0 e).2
    obtain ⟨dd, hdd⟩ : ∃ dd : Nat, dd = fdg C V n k (some (is0, be0)) (fsO C V n k).2.1 := ⟨_, rfl⟩
    rw [← hdd]
    have eo : (some (is0, be0) : OB) = oS (wy C V n (n - k) is0 be0) is0 be0 := by unfold oS; rw [if_neg ih]
    have one : wy C V n (n - k) is0 be0 = ta C V n k is0 be0 dd := by
      rw [wyk is0 be0 hk, if_neg hD, (ta_n hD).1]
      show 0 + ta C V n k is0 be0 0 = _
      omega
    rw [eo, wayO_oS (fun q => absurd q ih), oS_some, oS_some, ← one]
/-- digits that have been taken -/
theorem fs_cnt {C V : Nat → Int} {n : Nat} : ∀ k, (fsO C V n k).2.2 = cnt (fun j => isD (C j)) k
  | 0 => rfl
  | k + 1 => by
    show (if isD (C k) then (fsO C V n k).2.2 + 1 else (fsO C V n k).2.2) = cnt (fun j => isD (C j)) k + (if isD (C k) then 1 else 0)
    rw [fs_cnt k]
    split <;> omega
theorem cnt_at {q : Nat → Bool} : ∀ {n i : Nat}, i < cnt q n → ∃ k, k < n ∧ q k = true ∧ cnt q k = i
  | 0, i, h => by have h : i < 0 := h; omega
  | n + 1, i, h => by
    by_cases c : i < cnt q n
    · obtain ⟨k, h1, h2⟩ := cnt_at c
      exact ⟨k, by omega, h2⟩
    · cases e : q n with
      | false => rw [cnt_f e] at h; omega
      | true => rw [cnt_t e] at h; exact ⟨n, by omega, e, by omega⟩
end RAO
