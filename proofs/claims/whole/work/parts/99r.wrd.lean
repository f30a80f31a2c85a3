section RTW
variable {c : MC} {m : Nat} {f r : Nat → Int} {s t : SI2} {n : Nat} {tx : Nat → Int}
theorem wTx_25 : ∀ i : Fin 25, strT.getD (41 + i.val - 1) [] = wtx (i.val + 4) := by decide +kernel
theorem wTx_4 : ∀ i : Fin 4, strT.getD (66 + i.val - 1) [] = wtx i.val := by decide +kernel
theorem w_sLen {W i : Nat} (h0 : 1 ≤ W) (h1 : W ≤ 69) (e : strT.getD (W - 1) [] = wtx i) : sLen W = some (jI ((wtx i).length : Nat)) := by
  rw [← e]
  unfold sLen
  rw [if_pos ⟨by omega, h1⟩, jI_nI]
theorem w_sAt {W i j : Nat} (h0 : 1 ≤ W) (h1 : W ≤ 69) (e : strT.getD (W - 1) [] = wtx i) (hj : j < (wtx i).length) (h8 : (wtx i).length ≤ 8) : sAt W (jI (j : Nat)) = some (jI ((wtx i).getD j 0 : Nat)) := by
  have e1 : (jI (j : Nat)).toNatClampNeg = j := by rw [jI_nat (by omega) (by omega)]; omega
  have l0 : ¬ jI (j : Nat) < 0 := by rw [jI_lit, jI_lt (by omega) (by omega) (by omega) (by omega)]; omega
  rw [← e] at hj h8 ⊢
  unfold sAt
  ((try rw [e1]); rw [if_pos ⟨by omega, h1, fun q => q.elim l0 (fun q => by omega)⟩, jI_nI])
/-- which word the token is -/
def isW (tx : Nat → Int) (T : TK) (i : Nat) : Bool := T.1 == 1 && wat tx T.2.1 T.2.2 i
def isWM (tx : Nat → Int) (x : MD) (i : Nat) : Bool := match x with
  | .inl _ => false
  | .inr T => isW tx T i
theorem s_is {x : MD} {i W : Nat} (hm : Mo c m) (ht : TxR s tx n) (h : SmR f tx n x) (hi : i < 29) (W0 : 1 ≤ W) (W1 : W ≤ 69) (hW : strT.getD (W - 1) [] = wtx i) : fX13_is m W (MS c m f r s t) = some (jI (b2 (isWM tx x i))) := by
  have hn := ht.1
  obtain ⟨-, -, -, l2, l8⟩ := wtx_all ⟨i, hi⟩
  have l2 : 2 ≤ (wtx i).length := l2
  have l8 : (wtx i).length ≤ 8 := l8
  have hl := w_sLen W0 W1 hW
  have hat := fun j (hj : j < (wtx i).length) => w_sAt W0 W1 hW hj l8
  have hch : ∀ j, j < 8 → (wtx i).getD j 0 ≤ 122 := fun j hj => wtx_ch ⟨i, hi⟩ ⟨j, hj⟩
  obtain ⟨ln, hln⟩ : ∃ ln, ln = (wtx i).length := ⟨_, rfl⟩
  rw [← hln] at hl hat l2 l8
  -- a word that isn't it
  have no : ∀ k39 : Nat → Nat → Int32 → Int32 → Option Int32, ∀ z : Int32, fX13_is_39 (MS c m f r s t) k39 m W 0 z = some 0 := fun k39 z => by
    unfold fX13_is_39
    rw [if_pos rfl]
    rfl
  have lp0 : lp (fun _ _ _ _ => none) (fX13_is_39 (MS c m f r s t)) FU m W 0 0 = some 0 := by
    have k2 := lp_up (z := fun _ _ _ _ => none) (S := fX13_is_39 (MS c m f r s t)) (β := Int32) (fun kk (_ : Nat) => kk m W 0 0) (E := some 0) (M := 0) (fun i hi => by omega) (fun kk => no kk 0) FU 0 (by omega) (FU_lt (by omega))
    exact k2
  unfold fX13_is
  (rw [s_gd _ hm]; (try rw [s_gI hm]); rw [o_ob])
  cases x with
  | inl e =>
    obtain ⟨e1, e2, e3, e4, -⟩ := h
    have ne : ¬ jI e.1 = 0 := by rw [show (0 : Int32) = jI 0 from rfl, jI_eq (by omega) (by omega) (by omega) (by omega)]; omega
    ((try rw [e1]); rw [if_neg ne]; (try rw [lp0]))
    rfl
  | inr T =>
    have hL : LvR f tx n T := h
    obtain ⟨a1, a2, a3, a4, a5, a6, a7, a8⟩ := hL
    have tr := TOK_r a7
    have ty := tyR_r tr.2.2.2.1
    show _ = some (jI (b2 (isW tx T i)))
    ((try rw [a1]); rw [if_pos (by rfl)]; (try rw [s_gI hm]); rw [o_ob]; (try rw [a2]))
    by_cases q : T.1 = 1
    rotate_left
    · have nq : ¬ jI (tyR T.1) = 1 := by
        rw [show (1 : Int32) = jI 1 from rfl, jI_eq (by omega) (by omega) (by omega) (by omega)]
        intro z
        exact q ((tyR_eq (z := 1) tr.2.2.1 tr.2.2.2.1 (by omega) (by omega)).1 z)
      have e : isW tx T i = false := by
        have : (T.1 == 1) = false := by simpa using q
        unfold isW; rw [this]; rfl
      (rw [if_neg nq]; (try rw [lp0]); rw [e])
      rfl
    have e1 : isW tx T i = wat tx T.2.1 T.2.2 i := by
      have : (T.1 == 1) = true := by simpa using q
      unfold isW; rw [this]; rfl
    have ew : wat tx T.2.1 T.2.2 i = (ln == T.2.2 - T.2.1 && allb (fun j => tx (T.2.1 + j) == (((wtx i).getD j 0 : Nat) : Int)) ln) := by unfold wat; rw [hln]
    (rw [if_pos (by rw [q]; rfl), hl, o_ob]; (try rw [s_gI hm]); rw [o_ob]; (try rw [a4]); (try rw [s_gI hm]); rw [o_ob]; (try rw [a3]); (try rw [jI_sub]))
    by_cases g : ln = T.2.2 - T.2.1
    rotate_left
    · have e2 : (ln == T.2.2 - T.2.1) = false := by simpa using g
      (rw [if_neg (by rw [jI_eq (by omega) (by omega) (by omega) (by omega)]; omega)]; (try rw [lp0]); (try rw [e1]); rw [ew, e2])
      rfl
    have e2 : (ln == T.2.2 - T.2.1) = true := by simpa using g
    (rw [if_pos (by congr 1; omega)]; (try rw [e1]); rw [ew, e2, Bool.true_and])
    have key := lp_sr (z := fun _ _ _ _ => none) (S := fX13_is_39 (MS c m f r s t)) (β := Int32) (ev := fun kk (j : Nat) (b : Bool) => kk m W (jI (b2 b)) (jI (j : Int))) (hi := ln) (Inv := fun j b => if b = true then ∀ k, k < j → (tx (T.2.1 + k) == (((wtx i).getD k 0 : Nat) : Int)) = true else allb (fun j => tx (T.2.1 + j) == (((wtx i).getD j 0 : Nat) : Int)) ln = false) (Post := fun o => o = some (jI (b2 (allb (fun j => tx (T.2.1 + j) == (((wtx i).getD j 0 : Nat) : Int)) ln)))) ?_ ?_ FU 0 true (by omega) (FU_lt (by omega)) (by rw [if_pos rfl]; exact fun k hk => by omega)
    · exact key
    · intro j b hj hq kk
      cases b with
      | false =>
        left
        rw [if_neg (by decide)] at hq
        rw [hq]
        exact no kk (jI (j : Int))
      | true =>
        right
        rw [if_pos rfl] at hq
        have hc := hch j (by omega)
        obtain ⟨x1, x2, x3⟩ := ht.2 (T.2.1 + j) (by omega)
        have ej : jI (j : Int) + 1 = jI ((j + 1 : Nat) : Int) := by rw [show (1 : Int32) = jI 1 from rfl, jI_add]; rfl
        have run : fX13_is_39 (MS c m f r s t) kk m W (jI (b2 true)) (jI (j : Int)) = if jI (((wtx i).getD j 0 : Nat) : Int) = jI (tx (T.2.1 + j)) then kk m W 1 (jI ((j + 1 : Nat) : Int)) else kk m W 0 (jI ((j + 1 : Nat) : Int)) := by
          unfold fX13_is_39
          (rw [if_neg (show ¬ jI (b2 true) = 0 by decide), hl, o_ob, if_neg (by first | ((simp (disch := omega) only [jI_lit, jI_neg, jI_add, jI_sub, jI_mul, jI_lt, jI_le, jI_eq, jL_lit, jL_lt, jL_le, jL_eq]) <;> omega) | omega), hat j hj, o_ob]; (try rw [s_R15 hm]); rw [o_ob]; (try rw [s_gI hm]); rw [o_ob]; (try rw [a3]); (try rw [jI_add]); rw [s_a13 hm (by omega) (by omega), o_ob]; (try rw [show ((T.2.1 : Int) + (j : Int)).toNat = T.2.1 + j by omega]); (try rw [x1]); rw [ej])
          rfl
        by_cases v : (((wtx i).getD j 0 : Nat) : Int) = tx (T.2.1 + j)
        · refine ⟨true, ?_, ?_⟩
          · rw [if_pos rfl]
            intro k hk
            by_cases d : k = j
            · rw [d, v]; simp
            · exact hq k (by omega)
          · show fX13_is_39 (MS c m f r s t) kk m W (jI (b2 true)) (jI (j : Int)) = kk m W 1 (jI ((j + 1 : Nat) : Int))
            rw [run, if_pos (by rw [v])]
        · refine ⟨false, ?_, ?_⟩
          · rw [if_neg (by decide)]
            cases e : allb (fun j => tx (T.2.1 + j) == (((wtx i).getD j 0 : Nat) : Int)) ln with
            | false => rfl
            | true =>
              have := (allb_iff _ _).1 e j hj
              have := eq_of_beq this
              exact absurd this.symm v
          · show fX13_is_39 (MS c m f r s t) kk m W (jI (b2 true)) (jI (j : Int)) = kk m W 0 (jI ((j + 1 : Nat) : Int))
            rw [run, if_neg (by rw [jI_eq (by omega) (by omega) (by omega) (by omega)]; exact v)]
    · intro b hq kk
      cases b with
      | false =>
        rw [if_neg (by decide)] at hq
        rw [hq]
        exact no kk (jI (ln : Int))
      | true =>
        rw [if_pos rfl] at hq
        rw [(allb_iff _ _).2 hq]
        show fX13_is_39 (MS c m f r s t) kk m W (jI (b2 true)) (jI (ln : Int)) = _
        unfold fX13_is_39
        rw [if_neg (show ¬ jI (b2 true) = 0 by decide), hl, o_ob, if_pos (by first | ((simp (disch := omega) only [jI_lit, jI_neg, jI_add, jI_sub, jI_mul, jI_lt, jI_le, jI_eq, jL_lit, jL_lt, jL_le, jL_eq]) <;> omega) | omega), o_rz _ (b2_01 true)]
/-- which of the instructions' words it is; which of the others -/
theorem s_which1 {x : MD} (hm : Mo c m) (ht : TxR s tx n) (h : SmR f tx n x) : fX13_which m (m + 1) (MS c m f r s t) = some (jI (fnd (fun i => isWM tx x (i + 4)) 0 25)) := by
  unfold fX13_which
  rw [s_gd _ hm]
  have key := lp_sr (z := fun _ _ _ => none) (S := fX13_which_2 (MS c m f r s t)) (β := Int32) (ev := fun kk (j : Nat) (_ : Unit) => kk m (m + 1) (jI (j : Int))) (hi := 25) (Inv := fun j _ => ∀ k, k < j → isWM tx x (k + 4) = false) (Post := fun o => o = some (jI (fnd (fun i => isWM tx x (i + 4)) 0 25))) ?_ ?_ FU 0 () (by omega) (FU_lt (by omega)) (fun k hk => by omega)
  · exact key
  · intro j _ hj hq kk
    have w := s_is (x := x) (i := j + 4) (W := 41 + j) (r := r) (t := t) hm ht h (by omega) (by omega) (by omega) (wTx_25 ⟨j, hj⟩)
    have ej : jI (j : Int) + 1 = jI ((j + 1 : Nat) : Int) := by rw [show (1 : Int32) = jI 1 from rfl, jI_add]; rfl
    show fX13_which_2 (MS c m f r s t) kk m (m + 1) (jI (j : Int)) = _ ∨ ∃ _ : Unit, _ ∧ fX13_which_2 (MS c m f r s t) kk m (m + 1) (jI (j : Int)) = kk m (m + 1) (jI ((j + 1 : Nat) : Int))
    have aN1 : aN 105 (m + 1) (MS c m f r s t) = some (jI 25) := m_aN1 hm
    unfold fX13_which_2
    rw [aN1, o_ob, if_neg (by first | ((simp (disch := omega) only [jI_lit, jI_neg, jI_add, jI_sub, jI_mul, jI_lt, jI_le, jI_eq, jL_lit, jL_lt, jL_le, jL_eq]) <;> omega) | omega), s_aR1 hm (by omega) (by omega), o_ob, Int.toNat_natCast, w, o_ob]
    cases e : isWM tx x (j + 4) with
    | true =>
      left
      have : fnd (fun i => isWM tx x (i + 4)) 0 25 = (j : Int) := fnd_is (by omega) (by omega) e (fun k _ hk => hq k hk)
      rw [if_neg (by decide), this]
    | false =>
      right
      refine ⟨(), fun k hk => ?_, ?_⟩
      · by_cases d : k = j
        · rw [d]; exact e
        · exact hq k (by omega)
      · rw [if_pos (by rfl), o_lt, ej]
  · intro _ hq kk
    have : fnd (fun i => isWM tx x (i + 4)) 0 25 = -1 := fnd_no (fun k _ hk => hq k (by omega))
    have aN1 : aN 105 (m + 1) (MS c m f r s t) = some (jI 25) := m_aN1 hm
    show fX13_which_2 (MS c m f r s t) kk m (m + 1) (jI ((25 : Nat) : Int)) = _
    unfold fX13_which_2
    rw [aN1, o_ob, if_pos (by first | ((simp (disch := omega) only [jI_lit, jI_neg, jI_add, jI_sub, jI_mul, jI_lt, jI_le, jI_eq, jL_lit, jL_lt, jL_le, jL_eq]) <;> omega) | omega), this]
    rfl
theorem s_which2 {x : MD} (hm : Mo c m) (ht : TxR s tx n) (h : SmR f tx n x) : fX13_which m (m + 2) (MS c m f r s t) = some (jI (fnd (fun i => isWM tx x i) 0 4)) := by
  unfold fX13_which
  rw [s_gd _ hm]
  have key := lp_sr (z := fun _ _ _ => none) (S := fX13_which_2 (MS c m f r s t)) (β := Int32) (ev := fun kk (j : Nat) (_ : Unit) => kk m (m + 2) (jI (j : Int))) (hi := 4) (Inv := fun j _ => ∀ k, k < j → isWM tx x k = false) (Post := fun o => o = some (jI (fnd (fun i => isWM tx x i) 0 4))) ?_ ?_ FU 0 () (by omega) (FU_lt (by omega)) (fun k hk => by omega)
  · exact key
  · intro j _ hj hq kk
    have w := s_is (x := x) (i := j) (W := 66 + j) (r := r) (t := t) hm ht h (by omega) (by omega) (by omega) (wTx_4 ⟨j, hj⟩)
    have ej : jI (j : Int) + 1 = jI ((j + 1 : Nat) : Int) := by rw [show (1 : Int32) = jI 1 from rfl, jI_add]; rfl
    show fX13_which_2 (MS c m f r s t) kk m (m + 2) (jI (j : Int)) = _ ∨ ∃ _ : Unit, _ ∧ fX13_which_2 (MS c m f r s t) kk m (m + 2) (jI (j : Int)) = kk m (m + 2) (jI ((j + 1 : Nat) : Int))
    have aN1 : aN 105 (m + 2) (MS c m f r s t) = some (jI 4) := m_aN2 hm
    unfold fX13_which_2
    rw [aN1, o_ob, if_neg (by first | ((simp (disch := omega) only [jI_lit, jI_neg, jI_add, jI_sub, jI_mul, jI_lt, jI_le, jI_eq, jL_lit, jL_lt, jL_le, jL_eq]) <;> omega) | omega), s_aR2 hm (by omega) (by omega), o_ob, Int.toNat_natCast, w, o_ob]
    cases e : isWM tx x j with
    | true =>
      left
      have : fnd (fun i => isWM tx x i) 0 4 = (j : Int) := fnd_is (by omega) (by omega) e (fun k _ hk => hq k hk)
      rw [if_neg (by decide), this]
    | false =>
      right
      refine ⟨(), fun k hk => ?_, ?_⟩
      · by_cases d : k = j
        · rw [d]; exact e
        · exact hq k (by omega)
      · rw [if_pos (by rfl), o_lt, ej]
  · intro _ hq kk
    have : fnd (fun i => isWM tx x i) 0 4 = -1 := fnd_no (fun k _ hk => hq k (by omega))
    have aN1 : aN 105 (m + 2) (MS c m f r s t) = some (jI 4) := m_aN2 hm
    show fX13_which_2 (MS c m f r s t) kk m (m + 2) (jI ((4 : Nat) : Int)) = _
    unfold fX13_which_2
    rw [aN1, o_ob, if_pos (by first | ((simp (disch := omega) only [jI_lit, jI_neg, jI_add, jI_sub, jI_mul, jI_lt, jI_le, jI_eq, jL_lit, jL_lt, jL_le, jL_eq]) <;> omega) | omega), this]
    rfl
/-- no two words are written alike -/
theorem wtx_ne : ∀ i j : Fin 29, wtx i.val = wtx j.val → i = j := by decide +kernel
theorem wat_eq {a e i : Nat} (h : wat tx a e i = true) : (wtx i).length = e - a ∧ ∀ j, j < e - a → tx (a + j) = (((wtx i).getD j 0 : Nat) : Int) := by
  unfold wat at h
  simp only [Bool.and_eq_true] at h
  obtain ⟨h1, h2⟩ := h
  have h1 := eq_of_beq h1
  refine ⟨h1, fun j hj => ?_⟩
  have := (allb_iff _ _).1 h2 j (by omega)
  exact eq_of_beq this
theorem wat_one {a e i j : Nat} (hi : i < 29) (hj : j < 29) (h1 : wat tx a e i = true) (h2 : wat tx a e j = true) : i = j := by
  obtain ⟨a1, a2⟩ := wat_eq h1
  obtain ⟨b1, b2'⟩ := wat_eq h2
  have e : wtx i = wtx j := by
    apply List.ext_getElem (by omega)
    intro k k1 k2
    have x1 := a2 k (by omega)
    have x2 := b2' k (by omega)
    rw [x1] at x2
    have x3 : (wtx i).getD k 0 = (wtx j).getD k 0 := by omega
    rw [List.getD_eq_getElem?_getD, List.getD_eq_getElem?_getD, List.getElem?_eq_getElem k1, List.getElem?_eq_getElem k2] at x3
    exact x3
  have := wtx_ne ⟨i, hi⟩ ⟨j, hj⟩ e
  exact congrArg Fin.val this
end RTW
