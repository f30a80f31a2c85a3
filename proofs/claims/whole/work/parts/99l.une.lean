section RAN
variable {c : MC} {m : Nat} {f r : Nat → Int} {s t : SI2} {many k mm n : Nat} {P : PG} {A : Nat → Nat → Int} {nt cr tp : Nat → Int} {fp : Int} {im : Option DS}
theorem WT_n {C V : Nat → Int} {n : Nat} (h : ∀ j, j < 4 → t 23 (4 * n + j) = 1) : WT C V n n t := fun j h1 h2 is be => by
  have e : j = n := by omega
  have l1 := bN_le is
  have l2 := bN_le be
  rw [e, show n - n = 0 by omega]
  show t 23 (wix n is be) = ((1 : Nat) : Int)
  unfold wix
  rw [show 4 * n + 2 * bN is + bN be = 4 * n + (2 * bN is + bN be) by omega, h _ (by omega)]
  rfl
theorem s_tw74 {n p q : Nat} (hm : Mo c m) (hn : n ≤ 32) : ∃ t', (lp (fun _ _ _ _ _ _ => none) fX13_tellWays_74 FU m (jI (p : Int)) (jI (n : Int)) (jI (q : Int)) 0 (MS c m f r s t) = lp (fun _ _ _ _ _ => none) fX13_tellWays_103 FU m (jI (p : Int)) (jI (q : Int)) (jI ((n : Int) - 1)) (MS c m f r s t')) ∧ (∀ j, j < 4 → t' 23 (4 * n + j) = 1) ∧ ∀ j, j ≠ 23 → t' j = t j := by
  have key := lp_sr (z := fun _ _ _ _ _ _ => none) (S := fX13_tellWays_74) (β := Hp) (ev := fun kk (i : Nat) (t' : SI2) => kk m (jI (p : Int)) (jI (n : Int)) (jI (q : Int)) (jI (i : Int)) (MS c m f r s t')) (hi := 4) (Inv := fun i t' => (∀ j, j < i → t' 23 (4 * n + j) = 1) ∧ ∀ j, j ≠ 23 → t' j = t j) (Post := fun o => ∃ t', o = lp (fun _ _ _ _ _ => none) fX13_tellWays_103 FU m (jI (p : Int)) (jI (q : Int)) (jI ((n : Int) - 1)) (MS c m f r s t') ∧ (∀ j, j < 4 → t' 23 (4 * n + j) = 1) ∧ ∀ j, j ≠ 23 → t' j = t j) ?_ ?_ FU 0 t (by omega) (FU_lt (by omega)) ⟨fun j hj => by omega, fun _ _ => rfl⟩
  · exact key
  · intro i t' hi ⟨h1, h2⟩ kk
    right
    refine ⟨va_up t' 23 (va_up (t' 23) (4 * n + i) 1), ⟨fun j hj => ?_, fun j hj => by rw [va_up_ne _ _ hj]; exact h2 j hj⟩, ?_⟩
    · rw [va_up_self]
      by_cases d : j = i
      · rw [d, va_up_self]
      · rw [va_up_ne _ _ (by omega)]; exact h1 j (by omega)
    · show fX13_tellWays_74 kk m (jI (p : Int)) (jI (n : Int)) (jI (q : Int)) (jI (i : Int)) (MS c m f r s t') = _
      unfold fX13_tellWays_74
      (rw [if_neg (by first | ((simp (disch := omega) only [jI_lit, jI_neg, jI_add, jI_sub, jI_mul, jI_lt, jI_le, jI_eq, jL_lit, jL_lt, jL_le, jL_eq]) <;> omega) | omega)]; (try rw [s_R52 hm]); rw [o_ob]; (try rw [show (4 : Int32) = jI 4 from rfl]); (try rw [jI_mul]); (try rw [jI_add]); (try rw [show (1 : Int64) = jL 1 from rfl]); rw [s_q23 hm (by omega) (by omega), o_ob, o_lt]; (try rw [show (1 : Int32) = jI 1 from rfl]); (try rw [jI_add]); (try rw [show (4 * (n : Int) + (i : Int)).toNat = 4 * n + i by omega]))
      rfl
  · intro t' ⟨h1, h2⟩ kk
    refine ⟨t', ?_, h1, h2⟩
    show fX13_tellWays_74 kk m (jI (p : Int)) (jI (n : Int)) (jI (q : Int)) (jI ((4 : Nat) : Int)) (MS c m f r s t') = _
    unfold fX13_tellWays_74
    (rw [if_pos (by first | ((simp (disch := omega) only [jI_lit, jI_neg, jI_add, jI_sub, jI_mul, jI_lt, jI_le, jI_eq, jL_lit, jL_lt, jL_le, jL_eq]) <;> omega) | omega), o_lt]; (try rw [show (1 : Int32) = jI 1 from rfl]); (try rw [jI_sub]))
theorem s_tw103 {C V : Nat → Int} {p q n : Nat} (hm : Mo c m) (hr : Byt r) (hC : C = fun j => r (p + j)) (hV : V = fun j => r (q + j)) (hp : p + n ≤ 256) (hq : q + n ≤ 256) (hn : n ≤ 32) (h54 : f 54 = r p) (h53 : f 53 = lstD C n) (hw : WT C V n n t) : ∃ t', lp (fun _ _ _ _ _ => none) fX13_tellWays_103 FU m (jI (p : Int)) (jI (q : Int)) (jI ((n : Int) - 1)) (MS c m f r s t) = some (MS c m f r s t') ∧ WT C V n 0 t' ∧ ∀ j, j ≠ 23 → t' j = t j := by
  have key := lp_sr (z := fun _ _ _ _ _ => none) (S := fX13_tellWays_103) (β := Hp) (ev := fun kk (i : Nat) (t' : SI2) => kk m (jI (p : Int)) (jI (q : Int)) (jI ((n : Int) - 1 - (i : Int))) (MS c m f r s t')) (hi := n) (Inv := fun i t' => WT C V n (n - i) t' ∧ ∀ j, j ≠ 23 → t' j = t j) (Post := fun o => ∃ t', o = some (MS c m f r s t') ∧ WT C V n 0 t' ∧ ∀ j, j ≠ 23 → t' j = t j) ?_ ?_ FU 0 t (by omega) (FU_lt (by omega)) ⟨hw, fun _ _ => rfl⟩
  · have e0 : (n : Int) - 1 - ((0 : Nat) : Int) = (n : Int) - 1 := by omega
    rw [e0] at key
    exact key
  · intro i t' hi ⟨h1, h2⟩ kk
    right
    obtain ⟨k', hk'⟩ : ∃ k', k' = n - 1 - i := ⟨_, rfl⟩
    have h1 : WT C V n (k' + 1) t' := by rw [hk', show n - 1 - i + 1 = n - i by omega]; exact h1
    have ek : (n : Int) - 1 - (i : Int) = (k' : Int) := by omega
    show ∃ t'' : SI2, (WT C V n (n - (i + 1)) t'' ∧ ∀ j, j ≠ 23 → t'' j = t j) ∧ fX13_tellWays_103 kk m (jI (p : Int)) (jI (q : Int)) (jI ((n : Int) - 1 - (i : Int))) (MS c m f r s t') = kk m (jI (p : Int)) (jI (q : Int)) (jI ((n : Int) - 1 - ((i + 1 : Nat) : Int))) (MS c m f r s t'')
    (rw [ek]; (try rw [show n - (i + 1) = k' by omega]); (try rw [show (n : Int) - 1 - ((i + 1 : Nat) : Int) = (k' : Int) + -1 by omega]))
    unfold fX13_tellWays_103
    rw [if_neg (by first | ((simp (disch := omega) only [jI_lit, jI_neg, jI_add, jI_sub, jI_mul, jI_lt, jI_le, jI_eq, jL_lit, jL_lt, jL_le, jL_eq]) <;> omega) | omega)]
    have inn := lp_sr (z := fun _ _ _ _ _ _ => none) (S := fX13_tellWays_111 kk) (β := Hp) (ev := fun k2 (z : Nat) (t'' : SI2) => k2 m (jI (p : Int)) (jI (q : Int)) (jI (k' : Int)) (jI (z : Int)) (MS c m f r s t'')) (hi := 2) (Inv := fun z t'' => WT C V n (k' + 1) t'' ∧ (∀ be, bN be < z → ∀ is, t'' 23 (wix k' is be) = ((wy C V n (n - k') is be : Nat) : Int)) ∧ ∀ j, j ≠ 23 → t'' j = t j) (Post := fun o => ∃ t'' : SI2, (WT C V n k' t'' ∧ ∀ j, j ≠ 23 → t'' j = t j) ∧ o = kk m (jI (p : Int)) (jI (q : Int)) (jI ((k' : Int) + -1)) (MS c m f r s t'')) ?_ ?_ FU 0 t' (by omega) (FU_lt (by omega)) ⟨h1, fun be hb => by omega, h2⟩
    · exact inn
    · intro z u hz ⟨g1, g2, g3⟩ k2
      right
      obtain ⟨be, hbe⟩ : ∃ be : Bool, bN be = z := by
        rcases (by omega : z = 0 ∨ z = 1) with e | e
        · exact ⟨false, by rw [e]; rfl⟩
        · exact ⟨true, by rw [e]; rfl⟩
      have ez : jI (z : Int) = jI (b2 be) := by rw [← hbe, bN_b2]
      have ezz : jI (z : Int) + 1 = jI ((z + 1 : Nat) : Int) := by rw [show (1 : Int32) = jI 1 from rfl, jI_add]; rfl
      have l1 := bN_le be
      have w1 := s_waysOf (is := false) (be := be) (f := f) (s := s) hm hr hC hV hp hq hn (show k' < n by omega) h54 h53 g1
      have x1 : wix k' false be = 4 * k' + bN be := by unfold wix; rfl
      have x2 : wix k' true be = 4 * k' + 2 + bN be := by unfold wix; rfl
      obtain ⟨u1, hu1⟩ : ∃ u1 : SI2, u1 = va_up u 23 (va_up (u 23) (wix k' false be) ((wy C V n (n - k') false be : Nat) : Int)) := ⟨_, rfl⟩
      have g1' : WT C V n (k' + 1) u1 := by rw [hu1]; exact WT_up g1 (by omega)
      have w2 := s_waysOf (is := true) (be := be) (f := f) (s := s) hm hr hC hV hp hq hn (show k' < n by omega) h54 h53 g1'
      obtain ⟨u2, hu2⟩ : ∃ u2 : SI2, u2 = va_up u1 23 (va_up (u1 23) (wix k' true be) ((wy C V n (n - k') true be : Nat) : Int)) := ⟨_, rfl⟩
      refine ⟨u2, ⟨by rw [hu2]; exact WT_up g1' (by omega), fun b hb is => ?_, fun j hj => by ((try rw [hu2]); (try rw [va_up_ne _ _ hj]); (try rw [hu1]); (try rw [va_up_ne _ _ hj])); exact g3 j hj⟩, ?_⟩
      · have l2 := bN_le b
        by_cases d : b = be
        · subst d
          cases is with
          | true => ((try rw [hu2]); (try rw [va_up_self]); (try rw [va_up_self]))
          | false => ((try rw [hu2]); (try rw [va_up_self]); (try rw [va_up_ne _ _ (by omega)]); (try rw [hu1]); (try rw [va_up_self]); (try rw [va_up_self]))
        · have hd : bN b ≠ bN be := fun e => d (by cases b <;> cases be <;> first | rfl | exact absurd e (by decide))
          have l3 := bN_le is
          have n1 : wix k' is b ≠ wix k' true be := by unfold wix; omega
          have n2 : wix k' is b ≠ wix k' false be := by unfold wix; omega
          ((try rw [hu2]); (try rw [va_up_self]); (try rw [va_up_ne _ _ n1]); (try rw [hu1]); (try rw [va_up_self]); (try rw [va_up_ne _ _ n2]))
          exact g2 b (by omega) is
      · show fX13_tellWays_111 kk k2 m (jI (p : Int)) (jI (q : Int)) (jI (k' : Int)) (jI (z : Int)) (MS c m f r s u) = _
        have a1 := s_wayAt (f := f) (r := r) (s := s) (t := u) (k := k') (is := false) (be := be) hm
        have a2 := s_wayAt (f := f) (r := r) (s := s) (t := u1) (k := k') (is := true) (be := be) hm
        have a1 : fX13_wayAt m (jI (k' : Int)) 0 (jI (b2 be)) (MS c m f r s u) = _ := a1
        have a2 : fX13_wayAt m (jI (k' : Int)) 1 (jI (b2 be)) (MS c m f r s u1) = _ := a2
        have w1 : fX13_waysOf m (jI (p : Int)) (jI (k' : Int)) (jI (q : Int)) 0 (jI (b2 be)) (MS c m f r s u) = _ := w1
        have w2 : fX13_waysOf m (jI (p : Int)) (jI (k' : Int)) (jI (q : Int)) 1 (jI (b2 be)) (MS c m f r s u1) = _ := w2
        unfold fX13_tellWays_111
        (rw [if_neg (by first | ((simp (disch := omega) only [jI_lit, jI_neg, jI_add, jI_sub, jI_mul, jI_lt, jI_le, jI_eq, jL_lit, jL_lt, jL_le, jL_eq]) <;> omega) | omega), ezz, ez]; (try rw [s_R52 hm]); rw [o_ob]; (try rw [a1]); rw [o_ob]; (try rw [w1]); rw [o_ob, s_q23 hm (by omega) (by omega), o_ob]; (try rw [show (((wix k' false be : Nat) : Int)).toNat = wix k' false be by omega]); (try rw [← hu1]); (try rw [s_R52 hm]); rw [o_ob]; (try rw [a2]); rw [o_ob]; (try rw [w2]); rw [o_ob, s_q23 hm (by omega) (by omega), o_ob]; (try rw [show (((wix k' true be : Nat) : Int)).toNat = wix k' true be by omega]); (try rw [← hu2]); rw [o_lt])
    · intro u ⟨g1, g2, g3⟩ k2
      refine ⟨u, ⟨fun j h1 h2 is be => ?_, g3⟩, ?_⟩
      · by_cases d : j = k'
        · rw [d]; exact g2 be (by have := bN_le be; omega) is
        · exact g1 j (by omega) h2 is be
      · show fX13_tellWays_111 kk k2 m (jI (p : Int)) (jI (q : Int)) (jI (k' : Int)) (jI ((2 : Nat) : Int)) (MS c m f r s u) = _
        unfold fX13_tellWays_111
        (rw [if_pos (by first | ((simp (disch := omega) only [jI_lit, jI_neg, jI_add, jI_sub, jI_mul, jI_lt, jI_le, jI_eq, jL_lit, jL_lt, jL_le, jL_eq]) <;> omega) | omega), o_lt]; (try rw [show (-1 : Int32) = jI (-1) from rfl]); (try rw [jI_add]))
  · intro t' ⟨h1, h2⟩ kk
    refine ⟨t', ?_, by rw [show n - n = 0 by omega] at h1; exact h1, h2⟩
    show fX13_tellWays_103 kk m (jI (p : Int)) (jI (q : Int)) (jI ((n : Int) - 1 - (n : Int))) (MS c m f r s t') = _
    unfold fX13_tellWays_103
    rw [show (n : Int) - 1 - (n : Int) = -1 by omega, if_pos (by decide)]
theorem s_tellWays {C V : Nat → Int} {p q n : Nat} (hm : Mo c m) (hr : Byt r) (hC : C = fun j => r (p + j)) (hV : V = fun j => r (q + j)) (hp : p + n ≤ 256) (hq : q + n ≤ 256) (hn : n ≤ 32) (hn0 : 1 ≤ n) : ∃ f' t', fX13_tellWays m (jI (p : Int)) (jI (n : Int)) (jI (q : Int)) (MS c m f r s t) = some (MS c m f' r s t') ∧ WT C V n 0 t' ∧ f' 54 = r p ∧ f' 53 = lstD C n ∧ (∀ j, j ≠ 53 → j ≠ 54 → f' j = f j) ∧ ∀ j, j ≠ 23 → t' j = t j := by
  have hrp := hr p (by omega)
  unfold fX13_tellWays
  (rw [s_gd _ hm]; (try rw [s_R3 hm]); rw [o_ob, s_a3 hm (by omega) (by omega), o_ob]; (try rw [show ((p : Int)).toNat = p by omega]); rw [s_pI hm, o_ob]; (try rw [show (-1 : Int32) = jI (-1) from rfl]); rw [s_pI hm, o_ob])
  obtain ⟨g, hg⟩ : ∃ g, g = va_up f 54 (r p) := ⟨_, rfl⟩
  rw [← hg]
  have key := lp_up (z := fun _ _ _ _ _ _ => none) (S := fX13_tellWays_18) (β := Hp) (fun kk (i : Nat) => kk m (jI (p : Int)) (jI (n : Int)) (jI (q : Int)) (jI (i : Int)) (MS c m (va_up g 53 (lstD C i)) r s t)) (E := lp (fun _ _ _ _ _ _ => none) fX13_tellWays_74 FU m (jI (p : Int)) (jI (n : Int)) (jI (q : Int)) 0 (MS c m (va_up g 53 (lstD C n)) r s t)) (M := n) ?_ ?_ FU 0 (by omega) (FU_lt (by omega))
  · have key : lp (fun _ _ _ _ _ _ => none) fX13_tellWays_18 FU m (jI (p : Int)) (jI (n : Int)) (jI (q : Int)) 0 (MS c m (va_up g 53 (-1)) r s t) = _ := key
    rw [key]
    obtain ⟨t1, e1, o1, o2⟩ := s_tw74 (f := va_up g 53 (lstD C n)) (r := r) (s := s) (t := t) (p := p) (q := q) hm hn
    rw [e1]
    obtain ⟨t2, e2, w2, o3⟩ := s_tw103 (f := va_up g 53 (lstD C n)) (r := r) (s := s) (t := t1) hm hr hC hV hp hq hn (by ((try rw [va_up_ne _ _ (by omega)]); rw [hg]; (try rw [va_up_self]))) (va_up_self _ _ _) (WT_n o1)
    exact ⟨_, t2, e2, w2, by ((try rw [va_up_ne _ _ (by omega)]); rw [hg]; (try rw [va_up_self])), va_up_self _ _ _, fun j a b => by ((try rw [va_up_ne _ _ a]); rw [hg]; (try rw [va_up_ne _ _ b])), fun j hj => (o3 j hj).trans (o2 j hj)⟩
  · intro i hi kk
    have bC := hr (p + i) (by omega)
    have eC : r (p + i) = C i := by rw [hC]
    have ei : jI (i : Int) + 1 = jI ((i + 1 : Nat) : Int) := by rw [show (1 : Int32) = jI 1 from rfl, jI_add]; rfl
    unfold fX13_tellWays_18 fX13_tellWays_53 fX13_tellWays_62
    (rw [if_neg (by first | ((simp (disch := omega) only [jI_lit, jI_neg, jI_add, jI_sub, jI_mul, jI_lt, jI_le, jI_eq, jL_lit, jL_lt, jL_le, jL_eq]) <;> omega) | omega)]; (try rw [s_R3 hm]); rw [o_ob]; (try rw [jI_add]); rw [s_a3 hm (by omega) (by omega), o_ob]; (try rw [show ((p : Int) + (i : Int)).toNat = p + i by omega]))
    by_cases q1 : r (p + i) = 32
    · have eL : lstD C (i + 1) = (i : Int) := by show (if isD (C i) then (i : Int) else lstD C i) = _; rw [if_pos (isD_iff.2 (Or.inl (eC ▸ q1)))]
      (rw [if_pos (by rw [q1]; rfl), s_pI hm, o_ob]; (try rw [upup]); rw [o_lt, ei, eL])
    · (rw [if_neg (by rw [show (32 : Int32) = jI 32 from rfl, jI_eq (by omega) (by omega) (by omega) (by omega)]; exact q1)]; (try rw [s_R3 hm]); rw [o_ob, s_a3 hm (by omega) (by omega), o_ob]; (try rw [show ((p : Int) + (i : Int)).toNat = p + i by omega]))
      by_cases q2 : r (p + i) = 33
      · have eL : lstD C (i + 1) = (i : Int) := by show (if isD (C i) then (i : Int) else lstD C i) = _; rw [if_pos (isD_iff.2 (Or.inr (eC ▸ q2)))]
        (rw [if_pos (by rw [q2]; rfl), s_pI hm, o_ob]; (try rw [upup]); rw [o_lt, ei, eL])
      · have eL : lstD C (i + 1) = lstD C i := by
          show (if isD (C i) then (i : Int) else lstD C i) = _
          rw [if_neg (fun z => by rw [isD_iff, ← eC] at z; omega)]
        (rw [if_neg (by rw [show (33 : Int32) = jI 33 from rfl, jI_eq (by omega) (by omega) (by omega) (by omega)]; exact q2)]; (try rw [s_gI hm]); rw [o_ob]; (try rw [va_up_self]); rw [s_pI hm, o_ob]; (try rw [upup]); rw [o_lt, ei, eL])
  · intro kk
    unfold fX13_tellWays_18
    rw [if_pos (by first | ((simp (disch := omega) only [jI_lit, jI_neg, jI_add, jI_sub, jI_mul, jI_lt, jI_le, jI_eq, jL_lit, jL_lt, jL_le, jL_eq]) <;> omega) | omega)]
end RAN
