section RUP
variable {c : MC} {m : Nat} {f r : Nat → Int} {s t : SI2} {n : Nat} {tx : Nat → Int}
/-- lines, up to a fault or the end -/
theorem s_lines (hm : Mo c m) (ht : TxR s tx n) (h : LvR f tx n (tok tx n 0)) (hS : RdS f s tx n s00 (fun _ => 0)) :
    ∃ f' s' M st Q, lp (fun _ _ => none) fX13_program_83 FU m (MS c m f r s t) = fX13_program_104 m (MS c m f' r s' t) ∧ SmR f' tx n M ∧ FrQ f f' ∧ RdW s s' ∧ prsL tx n (n + 1) (tok tx n 0) s00 (fun _ => 0) = (M, st, Q) ∧ ∀ T, M = .inr T → RdS f' s' tx n st Q := by
  have hn := ht.1
  have key := lp_sr (z := fun _ _ => none) (S := fX13_program_83) (β := Int32 × Hp) (ev := fun kk (i : Nat) (y : (Nat → Int) × SI2) => kk m (MS c m y.1 r y.2 t)) (hi := n + 1)
    (Inv := fun i y => ∃ M st Q, SmR y.1 tx n M ∧ FrQ f y.1 ∧ RdW s y.2 ∧ (∀ T, M = .inr T → RdS y.1 y.2 tx n st Q ∧ i ≤ T.2.1 ∧ TOK tx n T) ∧ (∀ x, M = .inl x → prsL tx n (n + 1) (tok tx n 0) s00 (fun _ => 0) = (M, st, Q)) ∧ (∀ T, M = .inr T → prsL tx n (n + 1) (tok tx n 0) s00 (fun _ => 0) = prsL tx n (n + 1 - i) T st Q))
    (Post := fun o => ∃ f' s' M st Q, o = fX13_program_104 m (MS c m f' r s' t) ∧ SmR f' tx n M ∧ FrQ f f' ∧ RdW s s' ∧ prsL tx n (n + 1) (tok tx n 0) s00 (fun _ => 0) = (M, st, Q) ∧ ∀ T, M = .inr T → RdS f' s' tx n st Q) ?_ ?_ FU 0 (f, s) (by omega) (FU_lt (by omega)) ⟨.inr (tok tx n 0), s00, fun _ => 0, h, fun _ _ => rfl, RdW_rf s, fun T hT => ⟨hS, by omega, by rw [← Sum.inr.inj hT]; exact h.2.2.2.2.2.2.1⟩, fun x hx => absurd hx (by simp), fun T hT => by rw [← Sum.inr.inj hT]; rfl⟩
  · exact key
  · intro i y hi hy kk
    obtain ⟨F, S⟩ := y
    obtain ⟨M, st, Q, h1, h2, h3, h4, h5, h6⟩ := hy
    have h1 : SmR F tx n M := h1
    have h2 : FrQ f F := h2
    have h3 : RdW s S := h3
    cases M with
    | inl e =>
      left
      have ne := SmR_f h1
      refine ⟨F, S, .inl e, st, Q, ?_, h1, h2, h3, h5 e rfl, fun T hT => absurd hT (by simp)⟩
      show fX13_program_83 kk m (MS c m F r S t) = _
      unfold fX13_program_83
      ((try rw [s_gI hm]); rw [o_ob, if_neg ne])
    | inr T =>
      obtain ⟨g1, g2, g3⟩ := h4 T rfl
      have g1 : RdS F S tx n st Q := g1
      have hL : LvR F tx n T := h1
      obtain ⟨a1, a2, -⟩ := id hL
      have tr := TOK_r g3
      have ty := tyR_r tr.2.2.2.1
      by_cases c5 : T.1 = 5
      · left
        refine ⟨F, S, .inr T, st, Q, ?_, h1, h2, h3, by rw [h6 T rfl, prsL_e c5], fun T' hT' => g1⟩
        show fX13_program_83 kk m (MS c m F r S t) = _
        unfold fX13_program_83
        ((try rw [s_gI hm]); rw [o_ob]; (try rw [a1]); rw [if_pos (show jI 0 = 0 from rfl)]; (try rw [s_gI hm]); rw [o_ob]; (try rw [a2]); rw [if_pos (by rw [c5]; rfl)])
      · right
        obtain ⟨F1, S1, e1, e2, e3, e4, e5⟩ := s_readLine (r := r) (t := t) hm (RdW_tx h3 ht) hL g1
        have ad := Ad_lne (l := st) (Q := Q) ⟨g2, g3⟩
        have run : fX13_program_83 kk m (MS c m F r S t) = kk m (MS c m F1 r S1 t) := by
          have n0 : ¬ jI (tyR T.1) = 0 := by
            rw [show (0 : Int32) = jI 0 from rfl, jI_eq (by omega) (by omega) (by omega) (by omega)]
            unfold tyR
            rw [if_neg c5]
            split <;> omega
          unfold fX13_program_83
          ((try rw [s_gI hm]); rw [o_ob]; (try rw [a1]); rw [if_pos (show jI 0 = 0 from rfl)]; (try rw [s_gI hm]); rw [o_ob]; (try rw [a2]); rw [if_neg n0]; (try rw [e1]); rw [o_ob])
        have eqn : n + 1 - i = (n + 1 - (i + 1)) + 1 := by omega
        obtain ⟨⟨M', st', Q'⟩, hl⟩ : ∃ z, z = lne tx n T st Q := ⟨_, rfl⟩
        rw [← hl] at e2 e5 ad
        refine ⟨(F1, S1), ⟨M', st', Q', e2, FrQ_tr h2 e3, RdW_tr h3 e4, fun T' hT' => ⟨e5 T' hT', ad T' hT'⟩, fun x hx => ?_, fun T' hT' => ?_⟩, run⟩
        · rw [h6 T rfl, eqn]
          rw [hx] at hl ⊢
          exact prsL_f c5 hl.symm
        · rw [h6 T rfl, eqn]
          rw [hT'] at hl
          exact prsL_s c5 hl.symm
  · intro y hy kk
    obtain ⟨F, S⟩ := y
    obtain ⟨M, st, Q, h1, h2, h3, h4, h5, h6⟩ := hy
    have h1 : SmR F tx n M := h1
    have h2 : FrQ f F := h2
    have h3 : RdW s S := h3
    cases M with
    | inl e =>
      have ne := SmR_f h1
      refine ⟨F, S, .inl e, st, Q, ?_, h1, h2, h3, h5 e rfl, fun T hT => absurd hT (by simp)⟩
      show fX13_program_83 kk m (MS c m F r S t) = _
      unfold fX13_program_83
      ((try rw [s_gI hm]); rw [o_ob, if_neg ne])
    | inr T =>
      obtain ⟨g1, g2, g3⟩ := h4 T rfl
      have tr := TOK_r g3
      omega
/-- names are bound -/
theorem s_bindN {T : TK} {st : LNS} {Q : Nat → Int} (hm : Mo c m) (ht : TxR s tx n) (h23 : f 23 = 0) (hS : RdS f s tx n st Q) :
    ∃ f' s', fX13_findNames m (MS c m f r s t) = some (MS c m f' r s' t) ∧ (∀ j, j ≠ 11 → s' j = s j) ∧ (∀ y, y < 60 → s' 11 y = s 11 y) ∧ ((f' = f ∧ (∀ x, x < st.1 → s' 11 (60 + x) = tgt st x) ∧ fnd (bdq st) 0 st.1 = -1) ∨ (∃ x0 : Nat, fnd (bdq st) 0 st.1 = (x0 : Int) ∧ f' = va_up (va_up f 23 3) 24 (st.2.2.2.2.2 x0))) := by
  obtain ⟨hN, hO, hQ⟩ := hS
  obtain ⟨n14, k60, -⟩ := id hN
  have n700 := ht.1
  obtain ⟨k, hk⟩ : ∃ k, k = st.1 := ⟨_, rfl⟩
  rw [← hk] at n14 k60
  unfold fX13_findNames
  rw [s_gd _ hm]
  have key := lp_sr (z := fun _ _ _ => none) (S := fX13_findNames_2) (β := Hp) (ev := fun kk (i : Nat) (y : (Nat → Int) × SI2) => kk m (jI (i : Int)) (MS c m y.1 r y.2 t)) (hi := k)
    (Inv := fun i y => (∀ j, j ≠ 11 → y.2 j = s j) ∧ (∀ z, z < 60 → y.2 11 z = s 11 z) ∧ ((y.1 = f ∧ (∀ x, x < i → y.2 11 (60 + x) = tgt st x) ∧ ∀ x, x < i → bdq st x = false) ∨ (∃ x0 : Nat, fnd (bdq st) 0 k = (x0 : Int) ∧ y.1 = va_up (va_up f 23 3) 24 (st.2.2.2.2.2 x0))))
    (Post := fun o => ∃ f' s', o = some (MS c m f' r s' t) ∧ (∀ j, j ≠ 11 → s' j = s j) ∧ (∀ y, y < 60 → s' 11 y = s 11 y) ∧ ((f' = f ∧ (∀ x, x < k → s' 11 (60 + x) = tgt st x) ∧ fnd (bdq st) 0 k = -1) ∨ (∃ x0 : Nat, fnd (bdq st) 0 k = (x0 : Int) ∧ f' = va_up (va_up f 23 3) 24 (st.2.2.2.2.2 x0)))) ?_ ?_ FU 0 (f, s) (by omega) (FU_lt (by omega)) ⟨fun _ _ => rfl, fun _ _ => rfl, Or.inl ⟨rfl, fun x hx => by omega, fun x hx => by omega⟩⟩
  · rw [← hk]; exact key
  · intro i y hi hy kk
    obtain ⟨F, S⟩ := y
    obtain ⟨h1, h2, h3⟩ := hy
    have h1 : ∀ j, j ≠ 11 → S j = s j := h1
    have h2 : ∀ z, z < 60 → S 11 z = s 11 z := h2
    rcases h3 with ⟨hF, h4, h5⟩ | ⟨x0, h4, h5⟩
    rotate_left
    · left
      have h5 : F = va_up (va_up f 23 3) 24 (st.2.2.2.2.2 x0) := h5
      refine ⟨F, S, ?_, h1, h2, Or.inr ⟨x0, h4, h5⟩⟩
      have b14 : F 14 = (k : Int) := by ((try rw [h5]); (try rw [va_up_ne _ _ (by omega)]); (try rw [va_up_ne _ _ (by omega)])); exact n14
      have b23 : F 23 = 3 := by ((try rw [h5]); (try rw [va_up_ne _ _ (by omega)]); (try rw [va_up_self]))
      show fX13_findNames_2 kk m (jI (i : Int)) (MS c m F r S t) = _
      unfold fX13_findNames_2
      ((try rw [s_gI hm]); rw [o_ob]; (try rw [b14]); rw [if_neg (by rw [jI_le (by omega) (by omega) (by omega) (by omega)]; omega)]; (try rw [s_gI hm]); rw [o_ob]; (try rw [b23]); rw [if_neg (by decide)])
    have hF : F = f := hF
    subst hF
    have h4 : ∀ x, x < i → S 11 (60 + x) = tgt st x := h4
    right
    obtain ⟨o1, o2, o3, o4, o5⟩ := hO i (by omega)
    obtain ⟨S1, hS1⟩ : ∃ S1 : SI2, S1 = va_up S 11 (va_up (S 11) (60 + i) (-1)) := ⟨_, rfl⟩
    have u1 : ∀ j, j ≠ 11 → S1 j = S j := fun j hj => by rw [hS1, va_up_ne _ _ hj]
    have u2 : ∀ z, z ≠ 60 + i → S1 11 z = S 11 z := fun z hz => by (rw [hS1]; (try rw [va_up_self]); (try rw [va_up_ne _ _ hz]))
    have u3 : S1 11 (60 + i) = -1 := by (rw [hS1]; (try rw [va_up_self]); (try rw [va_up_self]))
    have e16 : S1 16 = s 16 := (u1 16 (by omega)).trans (h1 16 (by omega))
    have e17 : S1 17 = s 17 := (u1 17 (by omega)).trans (h1 17 (by omega))
    have ek : jI (i : Int) + 1 = jI ((i + 1 : Nat) : Int) := by rw [show (1 : Int32) = jI 1 from rfl, jI_add]; congr 1
    show ∃ y : (Nat → Int) × SI2, _ ∧ fX13_findNames_2 kk m (jI (i : Int)) (MS c m F r S t) = kk m (jI ((i + 1 : Nat) : Int)) (MS c m y.1 r y.2 t)
    unfold fX13_findNames_2
    ((try rw [s_gI hm]); rw [o_ob]; (try rw [n14]); rw [if_neg (by rw [jI_le (by omega) (by omega) (by omega) (by omega)]; omega)]; (try rw [s_gI hm]); rw [o_ob]; (try rw [h23]); rw [if_pos (show jI 0 = 0 from rfl)]; (try rw [s_R11 hm]); rw [o_ob]; (try rw [show (60 : Int32) = jI 60 from rfl]); (try rw [show (-1 : Int32) = jI (-1) from rfl]); (try rw [jI_add]); rw [s_q11 hm (by omega) (by omega), o_ob]; (try rw [show ((60 : Int) + (i : Int)).toNat = 60 + i by omega]); (try rw [← hS1]); (try rw [s_R29 hm]); rw [o_ob, s_a17 hm (by omega) (by omega), o_ob, Int.toNat_natCast]; (try rw [e17]))
    rcases o4 with ⟨v0, z17⟩ | ⟨p, q, p16, p17, nm, eq⟩
    · ((try rw [z17]); rw [if_pos (show jI 0 = 0 from rfl), o_lt, ek])
      refine ⟨(F, S1), ⟨fun j hj => (u1 j hj).trans (h1 j hj), fun z hz => (u2 z (by omega)).trans (h2 z hz), Or.inl ⟨rfl, fun x hx => ?_, fun x hx => ?_⟩⟩, rfl⟩
      · show S1 11 (60 + x) = tgt st x
        by_cases d : x = i
        · rw [d, u3]; unfold tgt; rw [if_pos v0]
        · rw [u2 _ (by omega)]; exact h4 x (by omega)
      · by_cases d : x = i
        · rw [d]; unfold bdq; rw [v0]; rfl
        · exact h5 x (by omega)
    · obtain ⟨q0, q8, qn, -⟩ := id nm
      have vne := nmT_ne nm
      have ht1 : TxR S1 tx n := ⟨ht.1, fun j hj => by rw [u1 13 (by omega), h1 13 (by omega)]; exact ht.2 j hj⟩
      have hN1 : NmR F S1 tx n st.1 st.2.2.2.1 := NmR_fr hN rfl (fun x _ => ⟨by rw [u1 14 (by omega), h1 14 (by omega)], by rw [u1 15 (by omega), h1 15 (by omega)]⟩)
      have nd := s_named2 (r := r) (t := t) hm ht1 hN1 nm
      obtain ⟨d, hd⟩ : ∃ d, d = nmd st.2.2.2.1 st.1 (st.2.2.2.2.1 i) := ⟨_, rfl⟩
      rw [← hd] at nd
      have dr := fnd_m (q := fun x => st.2.2.2.1 x == st.2.2.2.2.1 i) (lo := 0) (m := st.1)
      have dr : -1 ≤ d ∧ d < 100 := by
        rw [hd]
        have d1 : -1 ≤ nmd st.2.2.2.1 st.1 (st.2.2.2.2.1 i) := dr.1
        have d2 : nmd st.2.2.2.1 st.1 (st.2.2.2.2.1 i) < (0 : Nat) + st.1 := dr.2
        omega
      obtain ⟨S2, hS2⟩ : ∃ S2 : SI2, S2 = va_up S1 11 (va_up (S1 11) (60 + i) d) := ⟨_, rfl⟩
      have w1 : ∀ j, j ≠ 11 → S2 j = s j := fun j hj => by (rw [hS2]; (try rw [va_up_ne _ _ hj]); rw [u1 j hj, h1 j hj])
      have w2 : ∀ z, z ≠ 60 + i → S2 11 z = S 11 z := fun z hz => by (rw [hS2]; (try rw [va_up_self]); (try rw [va_up_ne _ _ hz]); rw [u2 z hz])
      have w3 : S2 11 (60 + i) = d := by (rw [hS2]; (try rw [va_up_self]); (try rw [va_up_self]))
      have n0 : ¬ jI (q : Int) = 0 := by rw [show (0 : Int32) = jI 0 from rfl, jI_eq (by omega) (by omega) (by omega) (by omega)]; omega
      ((try rw [p17]); rw [if_neg n0]; (try rw [s_R11 hm]); rw [o_ob]; (try rw [s_R28 hm]); rw [o_ob, s_a16 hm (by omega) (by omega), o_ob, Int.toNat_natCast]; (try rw [e16]); (try rw [p16]); (try rw [s_R29 hm]); rw [o_ob, s_a17 hm (by omega) (by omega), o_ob])
      (rw [Int.toNat_natCast]; (try rw [e17]); (try rw [p17]); rw [nd, o_ob, s_q11 hm (by omega) (by omega), o_ob]; (try rw [show ((60 : Int) + (i : Int)).toNat = 60 + i by omega]); (try rw [← hS2]); (try rw [s_R11 hm]); rw [o_ob, s_a11 hm (by omega) (by omega), o_ob]; (try rw [show ((60 : Int) + (i : Int)).toNat = 60 + i by omega]); (try rw [w3]))
      have bq : bdq st i = (d == -1) := by
        unfold bdq
        have : (st.2.2.2.2.1 i != 0) = true := by simpa using vne
        (rw [this, Bool.true_and]; (try rw [← hd]))
      by_cases d1 : d = -1
      · have fi : fnd (bdq st) 0 k = (i : Int) := fnd_is (by omega) (by omega) (by rw [bq, d1]; rfl) (fun j _ hj => h5 j hj)
        have w16 : S2 16 i = (p : Int) := by rw [w1 16 (by omega)]; exact p16
        (rw [if_pos (by rw [d1])]; (try rw [show (3 : Int32) = jI 3 from rfl]); rw [s_pI hm, o_ob]; (try rw [s_R28 hm]); rw [o_ob, s_a16 hm (by omega) (by omega), o_ob, Int.toNat_natCast]; (try rw [w16]); rw [s_pI hm, o_ob, o_lt, ek])
        refine ⟨(va_up (va_up F 23 3) 24 (p : Int), S2), ⟨w1, fun z hz => (w2 z (by omega)).trans (h2 z hz), Or.inr ⟨i, fi, ?_⟩⟩, rfl⟩
        show va_up (va_up F 23 3) 24 (p : Int) = _
        rw [eq]
      · rw [if_neg (by rw [jI_eq (by omega) (by omega) (by omega) (by omega)]; exact d1), o_lt, ek]
        refine ⟨(F, S2), ⟨w1, fun z hz => (w2 z (by omega)).trans (h2 z hz), Or.inl ⟨rfl, fun x hx => ?_, fun x hx => ?_⟩⟩, rfl⟩
        · show S2 11 (60 + x) = tgt st x
          by_cases g : x = i
          · rw [g, w3]; unfold tgt; rw [if_neg vne]; exact hd
          · rw [w2 _ (by omega)]; exact h4 x (by omega)
        · by_cases g : x = i
          · rw [g, bq]; simpa using d1
          · exact h5 x (by omega)
  · intro y hy kk
    obtain ⟨F, S⟩ := y
    obtain ⟨h1, h2, h3⟩ := hy
    have h1 : ∀ j, j ≠ 11 → S j = s j := h1
    have h2 : ∀ z, z < 60 → S 11 z = s 11 z := h2
    have b14 : F 14 = (k : Int) := by
      rcases h3 with ⟨hF, -⟩ | ⟨x0, -, h5⟩
      · have hF : F = f := hF
        rw [hF]; exact n14
      · have h5 : F = va_up (va_up f 23 3) 24 (st.2.2.2.2.2 x0) := h5
        ((try rw [h5]); (try rw [va_up_ne _ _ (by omega)]); (try rw [va_up_ne _ _ (by omega)])); exact n14
    refine ⟨F, S, ?_, h1, h2, ?_⟩
    · show fX13_findNames_2 kk m (jI (k : Int)) (MS c m F r S t) = _
      unfold fX13_findNames_2
      ((try rw [s_gI hm]); rw [o_ob]; (try rw [b14]); rw [if_pos (Int32.le_refl _)])
    · rcases h3 with ⟨hF, h4, h5⟩ | ⟨x0, h4, h5⟩
      · exact Or.inl ⟨hF, h4, fnd_no (fun j _ hj => h5 j (by omega))⟩
      · exact Or.inr ⟨x0, h4, h5⟩
end RUP
