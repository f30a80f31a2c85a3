section RTB
variable {c : MC} {m : Nat} {f r : Nat → Int} {s t : SI2} {n : Nat} {tx : Nat → Int}
/-- what a label's reading may write -/
def LbS (k : Nat) (s s' : SI2) : Prop := (∀ j, j ≠ 14 → j ≠ 15 → s' j = s j) ∧ ∀ i, i ≠ k → s' 14 i = s 14 i ∧ s' 15 i = s 15 i
theorem LbS_rf (k : Nat) (s : SI2) : LbS k s s := ⟨fun _ _ _ => rfl, fun _ _ => ⟨rfl, rfl⟩⟩
theorem LbS_tx {k : Nat} {s' : SI2} (h : LbS k s s') (ht : TxR s tx n) : TxR s' tx n := ⟨ht.1, fun j hj => by rw [h.1 13 (by omega) (by omega)]; exact ht.2 j hj⟩
theorem s_readLabel {T : TK} {k : Nat} {nms : Nat → Int} (hm : Mo c m) (ht : TxR s tx n) (h : LvR f tx n T) (hN : NmR f s tx n k nms) :
    ∃ f' s', fX13_readLabel m (MS c m f r s t) = some (MS c m f' r s' t) ∧ FrP f f' ∧ LbS k s s' ∧ ((T.1 ≠ 1 ∨ wrd tx T ≠ 0) → SmR f' tx n (.inl (1, (T.2.1 : Nat)))) ∧ (¬ (T.1 ≠ 1 ∨ wrd tx T ≠ 0) → SmR f' tx n (rdL tx n T nms k).1 ∧ ∀ T1 z, rdL tx n T nms k = (.inr T1, z) → ∃ p l : Nat, s' 14 k = p ∧ s' 15 k = l ∧ nmT tx n p l z) := by
  obtain ⟨nh0, nh1⟩ := s_nameH (r := r) (t := t) hm ht h
  have n14 := hN.1
  have k60 := hN.2.1
  unfold fX13_readLabel
  rw [s_gd _ hm]
  have mz : mnm tx T = if T.1 ≠ 1 ∨ wrd tx T ≠ 0 then .inl (1, (T.2.1 : Nat)) else if 8 < T.2.2 - T.2.1 then .inl (2, (T.2.1 : Nat)) else .inr (nmv tx T.2.1 (T.2.2 - T.2.1)) := rfl
  cases em : mnm tx T with
  | inl x =>
    obtain ⟨f', e1, e2, e3⟩ := nh0 x em
    ((try rw [e1]); rw [o_ob2, if_pos (by rfl)])
    refine ⟨f', s, rfl, e3, LbS_rf k s, fun q => ?_, fun q => ?_⟩
    · rw [if_pos q, em] at mz
      rw [← Sum.inl.inj mz]
      exact e2
    · have er : rdL tx n T nms k = (.inl x, 0) := by unfold rdL; rw [if_neg q, em]
      rw [er]
      exact ⟨e2, fun T1 z hz => absurd (congrArg Prod.fst hz) (by simp)⟩
  | inr v =>
    obtain ⟨e1, hv⟩ := nh1 v em
    have nq : ¬ (T.1 ≠ 1 ∨ wrd tx T ≠ 0) := fun q => by
      rw [if_pos q, em] at mz
      exact absurd mz (by simp)
    obtain ⟨a1, a2, a3, a4, a5, a6, a7, a8⟩ := id h
    have tr := TOK_r a7
    have nd := s_named2 (r := r) (t := t) hm ht hN hv
    have el : jI (T.2.2 : Int) - jI (T.2.1 : Int) = jI ((T.2.2 - T.2.1 : Nat) : Int) := by rw [jI_sub]; congr 1; omega
    ((try rw [e1]); rw [o_ob2, if_neg (by decide)]; (try rw [s_gI hm]); rw [o_ob]; (try rw [a3]); (try rw [s_gI hm]); rw [o_ob]; (try rw [a4]); (try rw [s_gI hm]); rw [o_ob]; (try rw [a3]); rw [el, nd, o_ob])
    have er : rdL tx n T nms k = if nmd nms k v ≠ -1 then (.inl (4, (T.2.1 : Nat)), 0) else (msg tx n (.inr (tok tx n T.2.2)) 58, v) := by
      unfold rdL
      rw [if_neg nq, em]
    have nr := fnd_m (q := fun i => nms i == v) (lo := 0) (m := k)
    have nr : -1 ≤ nmd nms k v ∧ nmd nms k v < k := ⟨nr.1, by have := nr.2; show fnd (fun i => nms i == v) 0 k < k; omega⟩
    by_cases c1 : nmd nms k v = -1
    · rw [if_neg (fun z => z c1)] at er
      obtain ⟨s', hs'⟩ : ∃ s' : SI2, s' = va_up (va_up s 14 (va_up (s 14) k (T.2.1 : Int))) 15 (va_up ((va_up s 14 (va_up (s 14) k (T.2.1 : Int))) 15) k ((T.2.2 - T.2.1 : Nat) : Int)) := ⟨_, rfl⟩
      have ls : LbS k s s' := by
        rw [hs']
        refine ⟨fun j x y => by rw [va_up_ne _ _ y, va_up_ne _ _ x], fun i hi => ⟨?_, ?_⟩⟩
        · ((try rw [va_up_ne _ _ (show (14 : Nat) ≠ 15 by omega)]); (try rw [va_up_self]); (try rw [va_up_ne _ _ hi]))
        · ((try rw [va_up_self]); (try rw [va_up_ne _ _ hi]); (try rw [va_up_ne _ _ (show (15 : Nat) ≠ 14 by omega)]))
      have p14 : s' 14 k = (T.2.1 : Int) := by (rw [hs']; (try rw [va_up_ne _ _ (show (14 : Nat) ≠ 15 by omega)]); (try rw [va_up_self]); (try rw [va_up_self]))
      have p15 : s' 15 k = ((T.2.2 - T.2.1 : Nat) : Int) := by (rw [hs']; (try rw [va_up_self]); (try rw [va_up_self]))
      obtain ⟨f1, w1, w2, w3⟩ := s_step (r := r) (t := t) hm (LbS_tx ls ht) h
      obtain ⟨f2, y1, y2, y3⟩ := s_mark (r := r) (t := t) (x := .inr (tok tx n T.2.2)) (k := 58) hm (LbS_tx ls ht) w2 (by omega) (by omega)
      unfold fX13_readLabel_34 fX13_readLabel_76
      (rw [if_pos (by rw [c1]; rfl)]; (try rw [s_R26 hm]); rw [o_ob]; (try rw [s_gI hm]); rw [o_ob]; (try rw [n14]); (try rw [s_gI hm]); rw [o_ob]; (try rw [a3]); rw [s_q14 hm (by omega) (by omega), o_ob]; (try rw [s_R27 hm]); rw [o_ob]; (try rw [s_gI hm]); rw [o_ob]; (try rw [n14]); (try rw [s_gI hm]); rw [o_ob]; (try rw [a4]); (try rw [s_gI hm]); rw [o_ob]; (try rw [a3]); rw [el, s_q15 hm (by omega) (by omega), o_ob, Int.toNat_natCast, ← hs']; (try rw [s_gI hm]); rw [o_ob]; (try rw [a1]); rw [if_pos (by rfl)]; (try rw [w1]); rw [o_ob]; (try rw [show (58 : Int32) = jI 58 from rfl]); (try rw [y1]); rw [o_ob])
      refine ⟨f2, s', rfl, FrP_tr w3 y3, ls, fun q => absurd q nq, fun _ => ⟨by rw [er]; exact y2, fun T1 z hz => ?_⟩⟩
      rw [er] at hz
      have hz2 : v = z := congrArg Prod.snd hz
      exact ⟨T.2.1, T.2.2 - T.2.1, p14, p15, hz2 ▸ hv⟩
    · rw [if_pos c1] at er
      obtain ⟨f1, w1, w2, w3⟩ := s_wrong0 (r := r) (s := s) (t := t) (k := 4) hm h (by omega) (by omega)
      have g14 : f1 14 = (k : Int) := (w3 14 (by omega)).trans n14
      have g23 : f1 23 = 4 := w2.1
      obtain ⟨s', hs'⟩ : ∃ s' : SI2, s' = va_up (va_up s 14 (va_up (s 14) k (f1 21))) 15 (va_up ((va_up s 14 (va_up (s 14) k (f1 21))) 15) k (f1 22 - f1 21)) := ⟨_, rfl⟩
      have ls : LbS k s s' := by
        rw [hs']
        refine ⟨fun j x y => by rw [va_up_ne _ _ y, va_up_ne _ _ x], fun i hi => ⟨?_, ?_⟩⟩
        · ((try rw [va_up_ne _ _ (show (14 : Nat) ≠ 15 by omega)]); (try rw [va_up_self]); (try rw [va_up_ne _ _ hi]))
        · ((try rw [va_up_self]); (try rw [va_up_ne _ _ hi]); (try rw [va_up_ne _ _ (show (15 : Nat) ≠ 14 by omega)]))
      obtain ⟨f2, y1, y2, y3⟩ := s_mark (r := r) (t := t) (x := .inl (4, (T.2.1 : Nat))) (k := 58) hm (LbS_tx ls ht) w2 (by omega) (by omega)
      unfold fX13_readLabel_34 fX13_readLabel_76
      (rw [if_neg (show ¬ jI (nmd nms k v) = -1 by rw [show (-1 : Int32) = jI (-1) from rfl, jI_eq (by omega) (by omega) (by omega) (by omega)]; exact c1)]; (try rw [show (4 : Int32) = jI 4 from rfl]); (try rw [w1]); rw [o_ob]; (try rw [s_R26 hm]); rw [o_ob]; (try rw [s_gI hm]); rw [o_ob]; (try rw [g14]); (try rw [s_gI hm]); rw [o_ob, s_q14 hm (by omega) (by omega), o_ob]; (try rw [s_R27 hm]); rw [o_ob]; (try rw [s_gI hm]); rw [o_ob]; (try rw [g14]); (try rw [s_gI hm]); rw [o_ob]; (try rw [s_gI hm]); rw [o_ob]; (try rw [jI_sub]); rw [s_q15 hm (by omega) (by omega), o_ob, Int.toNat_natCast, ← hs']; (try rw [s_gI hm]); rw [o_ob]; (try rw [g23]); rw [if_neg (by decide)]; (try rw [show (58 : Int32) = jI 58 from rfl]); (try rw [y1]); rw [o_ob])
      refine ⟨f2, s', rfl, FrP_tr w3 y3, ls, fun q => absurd q nq, fun _ => ⟨by rw [er]; exact y2, fun T1 z hz => ?_⟩⟩
      rw [er] at hz
      exact absurd (congrArg Prod.fst hz) (by simp)
end RTB
