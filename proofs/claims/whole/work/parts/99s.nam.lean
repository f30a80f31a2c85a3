section RTN
variable {c : MC} {m : Nat} {f r : Nat → Int} {s t : SI2} {n : Nat} {tx : Nat → Int}
/-- letters as one number: from the number the letters -/
theorem nmv_inj {a b : Nat} : ∀ {l l' : Nat}, (∀ j, a ≤ j → j < a + l → isLt (tx j) = true) → (∀ j, b ≤ j → j < b + l' → isLt (tx j) = true) → nmv tx a l = nmv tx b l' → l = l' ∧ ∀ j, j < l → tx (a + j) = tx (b + j)
  | 0, 0, _, _, _ => ⟨rfl, fun j hj => by omega⟩
  | 0, l' + 1, _, h2, h => by
    have := (nmv_r h2).2.2 (by omega)
    have h : (0 : Int) = nmv tx b (l' + 1) := h
    omega
  | l + 1, 0, h1, _, h => by
    have := (nmv_r h1).2.2 (by omega)
    have h : nmv tx a (l + 1) = (0 : Int) := h
    omega
  | l + 1, l' + 1, h1, h2, h => by
    have h : nmv tx a l * 27 + (tx (a + l) - 96) = nmv tx b l' * 27 + (tx (b + l') - 96) := h
    have d1 := h1 (a + l) (by omega) (by omega)
    have d2 := h2 (b + l') (by omega) (by omega)
    unfold isLt at d1 d2
    have d1 := of_decide_eq_true d1
    have d2 := of_decide_eq_true d2
    have e1 : nmv tx a l = nmv tx b l' := by omega
    have e2 : tx (a + l) = tx (b + l') := by omega
    obtain ⟨i1, i2⟩ := nmv_inj (l := l) (l' := l') (fun j x y => h1 j x (by omega)) (fun j x y => h2 j x (by omega)) e1
    subst i1
    refine ⟨rfl, fun j hj => ?_⟩
    by_cases q : j = l
    · rw [q]; exact e2
    · exact i2 j (by omega)
theorem nmv_cg {a b l : Nat} : (∀ j, j < l → tx (a + j) = tx (b + j)) → nmv tx a l = nmv tx b l := by
  induction l with
  | zero => intro _; rfl
  | succ l ih =>
    intro h
    show nmv tx a l * 27 + (tx (a + l) - 96) = nmv tx b l * 27 + (tx (b + l) - 96)
    rw [ih (fun j hj => h j (by omega)), h l (by omega)]
/-- a name in the text -/
def nmT (tx : Nat → Int) (n p l : Nat) (v : Int) : Prop := 0 < l ∧ l ≤ 8 ∧ p + l ≤ n ∧ (∀ j, p ≤ j → j < p + l → isLt (tx j) = true) ∧ v = nmv tx p l
theorem nmT_r {p l : Nat} {v : Int} (h : nmT tx n p l v) : 0 < v ∧ v < 282429536481 := by
  obtain ⟨h1, h2, h3, h4, h5⟩ := h
  obtain ⟨a1, a2, a3⟩ := nmv_r h4
  have a3 := a3 h1
  have b : (27 : Int) ^ l ≤ 27 ^ 8 := by
    have : (27 : Nat) ^ l ≤ 27 ^ 8 := Nat.pow_le_pow_right (by omega) h2
    exact_mod_cast this
  rw [h5]
  exact ⟨a3, by have e : (27 : Int) ^ 8 = 282429536481 := by decide
                omega⟩
/-- the names of what has been read: none, or where it stands -/
def NmR (f : Nat → Int) (s : SI2) (tx : Nat → Int) (n k : Nat) (nms : Nat → Int) : Prop := f 14 = (k : Int) ∧ k ≤ 60 ∧ ∀ i, i < k → (nms i = 0 ∧ s 15 i = 0) ∨ ∃ p l : Nat, s 14 i = p ∧ s 15 i = l ∧ nmT tx n p l (nms i)
theorem s_isName {p l p' l' i : Nat} (hm : Mo c m) (ht : TxR s tx n) (hi : i < 61) (e14 : s 14 i = (p' : Int)) (e15 : s 15 i = (l' : Int)) (hl : l ≤ 8) (hp : p + l ≤ 700) (hp' : p' + l' ≤ 700) : fX13_isName m (jI (p : Int)) (jI (l : Int)) (jI (i : Int)) (MS c m f r s t) = some (jI (b2 (l' == l && allb (fun j => tx (p + j) == tx (p' + j)) l))) := by
  have no : ∀ k20 : Nat → Int32 → Int32 → Int32 → Int32 → Int32 → Option Int32, ∀ z : Int32, fX13_isName_20 (MS c m f r s t) k20 m (jI (p : Int)) (jI (l : Int)) (jI (i : Int)) 0 z = some 0 := fun k20 z => by
    unfold fX13_isName_20
    rw [if_pos rfl]
    rfl
  unfold fX13_isName
  (rw [s_gd _ hm]; (try rw [s_R27 hm]); rw [o_ob, s_a15 hm (by omega) (by omega), o_ob, Int.toNat_natCast]; (try rw [e15]))
  by_cases q : l' = l
  rotate_left
  · have e : (l' == l) = false := by simpa using q
    have k2 := lp_up (z := fun _ _ _ _ _ _ => none) (S := fX13_isName_20 (MS c m f r s t)) (β := Int32) (fun kk (_ : Nat) => kk m (jI (p : Int)) (jI (l : Int)) (jI (i : Int)) 0 0) (E := some 0) (M := 0) (fun i hi => by omega) (fun kk => no kk 0) FU 0 (by omega) (FU_lt (by omega))
    have k2 : lp (fun _ _ _ _ _ _ => none) (fX13_isName_20 (MS c m f r s t)) FU m (jI (p : Int)) (jI (l : Int)) (jI (i : Int)) 0 0 = _ := k2
    (rw [if_neg (by rw [jI_eq (by omega) (by omega) (by omega) (by omega)]; omega)]; (try rw [k2]); rw [e, Bool.false_and])
    rfl
  subst q
  have e : (l' == l') = true := by simp
  rw [if_pos rfl, e, Bool.true_and]
  have key := lp_sr (z := fun _ _ _ _ _ _ => none) (S := fX13_isName_20 (MS c m f r s t)) (β := Int32) (ev := fun kk (j : Nat) (b : Bool) => kk m (jI (p : Int)) (jI (l' : Int)) (jI (i : Int)) (jI (b2 b)) (jI (j : Int))) (hi := l') (Inv := fun j b => if b = true then ∀ k, k < j → (tx (p + k) == tx (p' + k)) = true else allb (fun j => tx (p + j) == tx (p' + j)) l' = false) (Post := fun o => o = some (jI (b2 (allb (fun j => tx (p + j) == tx (p' + j)) l')))) ?_ ?_ FU 0 true (by omega) (FU_lt (by omega)) (by rw [if_pos rfl]; exact fun k hk => by omega)
  · exact key
  · intro j b hj hq kk
    cases b with
    | false =>
      left
      rw [if_neg (by decide)] at hq
      rw [hq]
      exact no kk (jI (j : Int))
    | true =>
      right
      rw [if_pos rfl] at hq
      obtain ⟨x1, x2, x3⟩ := ht.2 (p + j) (by omega)
      obtain ⟨y1, y2, y3⟩ := ht.2 (p' + j) (by omega)
      have ej : jI (j : Int) + 1 = jI ((j + 1 : Nat) : Int) := by rw [show (1 : Int32) = jI 1 from rfl, jI_add]; rfl
      have run : fX13_isName_20 (MS c m f r s t) kk m (jI (p : Int)) (jI (l' : Int)) (jI (i : Int)) (jI (b2 true)) (jI (j : Int)) = if jI (tx (p + j)) = jI (tx (p' + j)) then kk m (jI (p : Int)) (jI (l' : Int)) (jI (i : Int)) 1 (jI ((j + 1 : Nat) : Int)) else kk m (jI (p : Int)) (jI (l' : Int)) (jI (i : Int)) 0 (jI ((j + 1 : Nat) : Int)) := by
        unfold fX13_isName_20
        (rw [if_neg (show ¬ jI (b2 true) = 0 by decide), if_neg (by first | ((simp (disch := omega) only [jI_lit, jI_neg, jI_add, jI_sub, jI_mul, jI_lt, jI_le, jI_eq, jL_lit, jL_lt, jL_le, jL_eq]) <;> omega) | omega)]; (try rw [s_R15 hm]); rw [o_ob]; (try rw [jI_add]); rw [s_a13 hm (by omega) (by omega), o_ob]; (try rw [show ((p : Int) + (j : Int)).toNat = p + j by omega]); (try rw [x1]); (try rw [s_R15 hm]); rw [o_ob]; (try rw [s_R26 hm]); rw [o_ob, s_a14 hm (by omega) (by omega), o_ob, Int.toNat_natCast]; (try rw [e14]); (try rw [jI_add]); rw [s_a13 hm (by omega) (by omega), o_ob]; (try rw [show ((p' : Int) + (j : Int)).toNat = p' + j by omega]); (try rw [y1]); rw [ej])
        rfl
      by_cases v : tx (p + j) = tx (p' + j)
      · refine ⟨true, ?_, ?_⟩
        · rw [if_pos rfl]
          intro k hk
          by_cases d : k = j
          · rw [d, v]; simp
          · exact hq k (by omega)
        · show fX13_isName_20 (MS c m f r s t) kk m (jI (p : Int)) (jI (l' : Int)) (jI (i : Int)) (jI (b2 true)) (jI (j : Int)) = kk m (jI (p : Int)) (jI (l' : Int)) (jI (i : Int)) 1 (jI ((j + 1 : Nat) : Int))
          rw [run, if_pos (by rw [v])]
      · refine ⟨false, ?_, ?_⟩
        · rw [if_neg (by decide)]
          cases e : allb (fun j => tx (p + j) == tx (p' + j)) l' with
          | false => rfl
          | true =>
            have := (allb_iff _ _).1 e j hj
            exact absurd (eq_of_beq this) v
        · show fX13_isName_20 (MS c m f r s t) kk m (jI (p : Int)) (jI (l' : Int)) (jI (i : Int)) (jI (b2 true)) (jI (j : Int)) = kk m (jI (p : Int)) (jI (l' : Int)) (jI (i : Int)) 0 (jI ((j + 1 : Nat) : Int))
          rw [run, if_neg (by rw [jI_eq (by omega) (by omega) (by omega) (by omega)]; exact v)]
  · intro b hq kk
    cases b with
    | false =>
      rw [if_neg (by decide)] at hq
      rw [hq]
      exact no kk (jI (l' : Int))
    | true =>
      rw [if_pos rfl] at hq
      rw [(allb_iff _ _).2 hq]
      show fX13_isName_20 (MS c m f r s t) kk m (jI (p : Int)) (jI (l' : Int)) (jI (i : Int)) (jI (b2 true)) (jI (l' : Int)) = _
      unfold fX13_isName_20
      rw [if_neg (show ¬ jI (b2 true) = 0 by decide), if_pos (Int32.le_refl _), o_rz _ (b2_01 true)]
/-- which instruction has a name -/
theorem s_named2 {p l k : Nat} {v : Int} {nms : Nat → Int} (hm : Mo c m) (ht : TxR s tx n) (hN : NmR f s tx n k nms) (hv : nmT tx n p l v) : fX13_named m (jI (p : Int)) (jI (l : Int)) (MS c m f r s t) = some (jI (nmd nms k v)) := by
  obtain ⟨n14, k60, hn⟩ := hN
  have n700 := ht.1
  have vr := nmT_r hv
  obtain ⟨v1, v2, v3, v4, v5⟩ := hv
  unfold fX13_named
  rw [s_gd _ hm]
  have key := lp_sr (z := fun _ _ _ _ => none) (S := fX13_named_2 (MS c m f r s t)) (β := Int32) (ev := fun kk (i : Nat) (_ : Unit) => kk m (jI (p : Int)) (jI (l : Int)) (jI (i : Int))) (hi := k) (Inv := fun i _ => ∀ j, j < i → (nms j == v) = false) (Post := fun o => o = some (jI (nmd nms k v))) ?_ ?_ FU 0 () (by omega) (FU_lt (by omega)) (fun k hk => by omega)
  · exact key
  · intro i _ hi hq kk
    have ei : jI (i : Int) + 1 = jI ((i + 1 : Nat) : Int) := by rw [show (1 : Int32) = jI 1 from rfl, jI_add]; rfl
    have nx : ∀ res, (nms i == v) = false → res = kk m (jI (p : Int)) (jI (l : Int)) (jI ((i + 1 : Nat) : Int)) → res = some (jI (nmd nms k v)) ∨ ∃ _ : Unit, (∀ j, j < i + 1 → (nms j == v) = false) ∧ res = kk m (jI (p : Int)) (jI (l : Int)) (jI ((i + 1 : Nat) : Int)) := fun res q0 er => Or.inr ⟨(), fun j hj => by
      by_cases d : j = i
      · rw [d]; exact q0
      · exact hq j (by omega), er⟩
    show fX13_named_2 (MS c m f r s t) kk m (jI (p : Int)) (jI (l : Int)) (jI (i : Int)) = _ ∨ ∃ _ : Unit, _ ∧ fX13_named_2 (MS c m f r s t) kk m (jI (p : Int)) (jI (l : Int)) (jI (i : Int)) = kk m (jI (p : Int)) (jI (l : Int)) (jI ((i + 1 : Nat) : Int))
    unfold fX13_named_2
    ((try rw [s_gI hm]); rw [o_ob]; (try rw [n14]); rw [if_neg (by first | ((simp (disch := omega) only [jI_lit, jI_neg, jI_add, jI_sub, jI_mul, jI_lt, jI_le, jI_eq, jL_lit, jL_lt, jL_le, jL_eq]) <;> omega) | omega)]; (try rw [s_R27 hm]); rw [o_ob, s_a15 hm (by omega) (by omega), o_ob, Int.toNat_natCast])
    rcases hn i hi with ⟨z1, z2⟩ | ⟨p', l', y1, y2, y3⟩
    · ((try rw [z2]); rw [if_pos (by decide), o_lt, ei])
      exact nx _ (by simp; omega) rfl
    · obtain ⟨w1, w2, w3, w4, w5⟩ := y3
      ((try rw [y2]); rw [if_neg (by rw [show (0 : Int32) = jI 0 from rfl, jI_le (by omega) (by omega) (by omega) (by omega)]; omega), s_isName (p' := p') (l' := l') hm ht (by omega) y1 y2 v2 (by omega) (by omega), o_ob])
      cases e : (l' == l && allb (fun j => tx (p + j) == tx (p' + j)) l) with
      | true =>
        left
        simp only [Bool.and_eq_true] at e
        have e1 : l' = l := eq_of_beq e.1
        have e2 : nms i = v := by
          ((try rw [w5]); (try rw [v5]); (try rw [e1]))
          exact (nmv_cg (fun j hj => eq_of_beq ((allb_iff _ _).1 e.2 j hj))).symm
        have : nmd nms k v = (i : Int) := fnd_is (by omega) (by omega) (by simpa using e2) (fun j _ hj => hq j hj)
        rw [if_neg (by decide), this]
      | false =>
        rw [if_pos (by rfl), o_lt, ei]
        refine nx _ ?_ rfl
        cases e2 : (nms i == v) with
        | false => rfl
        | true =>
          have e3 : nms i = v := eq_of_beq e2
          rw [w5, v5] at e3
          obtain ⟨i1, i2⟩ := nmv_inj w4 v4 e3
          have ea : allb (fun j => tx (p + j) == tx (p' + j)) l = true := (allb_iff _ _).2 (fun j hj => by
            have := i2 j (by omega)
            show (tx (p + j) == tx (p' + j)) = true
            rw [this]; simp)
          have el : (l' == l) = true := by simpa using i1
          rw [el, ea] at e
          exact absurd e (by decide)
  · intro _ hq kk
    have : nmd nms k v = -1 := fnd_no (fun j _ hj => hq j (by omega))
    show fX13_named_2 (MS c m f r s t) kk m (jI (p : Int)) (jI (l : Int)) (jI (k : Int)) = _
    unfold fX13_named_2
    ((try rw [s_gI hm]); rw [o_ob]; (try rw [n14]); rw [if_pos (Int32.le_refl _), this])
    rfl
end RTN
