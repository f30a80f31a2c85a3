section RUN
variable {c : MC} {m : Nat} {f r : Nat → Int} {s t : SI2} {n : Nat} {tx : Nat → Int}
theorem lne_X {T : TK} {l : LNS} {Q : Nat → Int} (hw : wrd tx T ≠ 1) : lne tx n T l Q = (msg tx n (rdX tx n (rdL tx n T l.2.2.2.1 l.1).1 (rdL tx n T l.2.2.2.1 l.1).2 l).1 59, (rdX tx n (rdL tx n T l.2.2.2.1 l.1).1 (rdL tx n T l.2.2.2.1 l.1).2 l).2, Q) := by
  unfold lne
  rw [if_neg hw]
  cases e : rdL tx n T l.2.2.2.1 l.1 with
  | mk x z =>
    cases x with
    | inl e => rfl
    | inr T1 => rfl
theorem NmR_fr {k : Nat} {nms : Nat → Int} {f' : Nat → Int} {s' : SI2} (h : NmR f s tx n k nms) (h14 : f' 14 = f 14) (hs : ∀ i, i < k → s' 14 i = s 14 i ∧ s' 15 i = s 15 i) : NmR f' s' tx n k nms := by
  obtain ⟨a1, a2, a3⟩ := h
  refine ⟨h14.trans a1, a2, fun i hi => ?_⟩
  rw [(hs i hi).1, (hs i hi).2]
  exact a3 i hi
theorem s_readIns {T : TK} {l : LNS} {Q : Nat → Int} (hm : Mo c m) (ht : TxR s tx n) (h : LvR f tx n T) (hT : T.1 = 1) (hw : wrd tx T ≠ 1) (hS : RdS f s tx n l Q) :
    ∃ f' s' M, fX13_readInstruction m (MS c m f r s t) = some (MS c m f' r s' t) ∧ SmR f' tx n M ∧ FrQ f f' ∧ RdW s s' ∧ msg tx n M 59 = (lne tx n T l Q).1 ∧ ∀ T', msg tx n M 59 = .inr T' → RdS f' s' tx n (lne tx n T l Q).2.1 (lne tx n T l Q).2.2 := by
  obtain ⟨hN, hO, hQ⟩ := hS
  obtain ⟨n14, k60, hn⟩ := id hN
  obtain ⟨k, hk⟩ : ∃ k, k = l.1 := ⟨_, rfl⟩
  rw [← hk] at n14 k60 hn
  obtain ⟨s0, hs0⟩ : ∃ s0 : SI2, s0 = va_up s 15 (va_up (s 15) k 0) := ⟨_, rfl⟩
  obtain ⟨s1, hs1⟩ : ∃ s1 : SI2, s1 = va_up s0 17 (va_up (s0 17) k 0) := ⟨_, rfl⟩
  have u : ∀ j, j ≠ 15 → j ≠ 17 → s1 j = s j := fun j a b => by ((try rw [hs1]); (try rw [va_up_ne _ _ b]); (try rw [hs0]); (try rw [va_up_ne _ _ a]))
  have u15 : ∀ i, i ≠ k → s1 15 i = s 15 i := fun i hi => by ((try rw [hs1]); (try rw [va_up_ne _ _ (by omega)]); (try rw [hs0]); (try rw [va_up_self]); (try rw [va_up_ne _ _ hi]))
  have u17 : ∀ i, i ≠ k → s1 17 i = s 17 i := fun i hi => by ((try rw [hs1]); (try rw [va_up_self]); (try rw [va_up_ne _ _ hi]); (try rw [hs0]); (try rw [va_up_ne _ _ (by omega)]))
  have v15 : s1 15 k = 0 := by ((try rw [hs1]); (try rw [va_up_ne _ _ (by omega)]); (try rw [hs0]); (try rw [va_up_self]); (try rw [va_up_self]))
  have v17 : s1 17 k = 0 := by ((try rw [hs1]); (try rw [va_up_self]); (try rw [va_up_self]))
  have ht1 : TxR s1 tx n := ⟨ht.1, fun j hj => by rw [u 13 (by omega) (by omega)]; exact ht.2 j hj⟩
  have r1 : RdW s s1 := ⟨fun j hj => u j (by omega) (by omega), fun j i a _ => by rw [u j (by omega) (by omega)], fun j i a b _ => by rw [u j (by omega) (by omega)], fun i _ => by rw [u 12 (by omega) (by omega)]⟩
  have hN1 : NmR f s1 tx n l.1 l.2.2.2.1 := NmR_fr hN rfl (fun i hi => ⟨by rw [u 14 (by omega) (by omega)], u15 i (by omega)⟩)
  have hO1 : RdO s1 tx n l := RdO_fr hO (fun i _ => by rw [u 5 (by omega) (by omega)]) (fun i _ j _ _ => ⟨by rw [u j (by omega) (by omega)], by rw [u j (by omega) (by omega)]⟩) (fun i _ j _ _ => by rw [u j (by omega) (by omega)]) (fun i hi => ⟨by rw [u 16 (by omega) (by omega)], u17 i (by omega)⟩)
  have hQ1 : LdR s1 Q := ⟨hQ.1, fun j hj => by rw [u 12 (by omega) (by omega)]; exact hQ.2 j hj⟩
  have w1 := s_which1 (r := r) (s := s1) (t := t) (x := .inr T) hm ht1 h
  rw [wh1] at w1
  have w29 := wrd_r tx T
  rw [lne_X hw]
  have cl : ∀ (x : MD) (z : Int) (F : Nat → Int) (S : SI2), SmR F tx n x → FrQ f F → RdW s S → TxR S tx n → NmR F S tx n l.1 l.2.2.2.1 → RdO S tx n l → LdR S Q → S 17 l.1 = 0 → (∀ T1, x = .inr T1 → (z = 0 ∧ S 15 l.1 = 0) ∨ ∃ p q : Nat, S 14 l.1 = p ∧ S 15 l.1 = q ∧ nmT tx n p q z) → msg tx n (rdX tx n x z l).1 59 = msg tx n (rdX tx n (rdL tx n T l.2.2.2.1 l.1).1 (rdL tx n T l.2.2.2.1 l.1).2 l).1 59 → (∀ T', msg tx n (rdX tx n x z l).1 59 = .inr T' → (rdX tx n x z l).2 = (rdX tx n (rdL tx n T l.2.2.2.1 l.1).1 (rdL tx n T l.2.2.2.1 l.1).2 l).2) →
      ∃ f' s' M, fX13_readInstruction_36 m (MS c m F r S t) = some (MS c m f' r s' t) ∧ SmR f' tx n M ∧ FrQ f f' ∧ RdW s s' ∧ msg tx n M 59 = msg tx n (rdX tx n (rdL tx n T l.2.2.2.1 l.1).1 (rdL tx n T l.2.2.2.1 l.1).2 l).1 59 ∧ ∀ T', msg tx n M 59 = .inr T' → RdS f' s' tx n (rdX tx n (rdL tx n T l.2.2.2.1 l.1).1 (rdL tx n T l.2.2.2.1 l.1).2 l).2 Q := by
    intro x z F S a1 a2 a3 a4 a5 a6 a7 a8 a9 a10 a11
    obtain ⟨f', s', M, b1, b2', b3, b4, b5, b6⟩ := s_ri36 (r := r) (t := t) hm a4 a1 a5 a6 a7 a8 a9
    refine ⟨f', s', M, b1, b2', FrQ_tr a2 b3, RdW_tr a3 b4, b5.trans a10, fun T' hT' => ?_⟩
    have := b6 T' hT'
    rw [← a11 T' (b5.symm.trans hT')]
    exact this
  unfold fX13_readInstruction
  (rw [s_gd _ hm]; (try rw [s_R27 hm]); rw [o_ob]; (try rw [s_gI hm]); rw [o_ob]; (try rw [n14]); (try rw [show (0 : Int32) = jI 0 from rfl]); rw [s_q15 hm (by omega) (by omega), o_ob, Int.toNat_natCast]; (try rw [← hs0]); (try rw [s_R29 hm]); rw [o_ob]; (try rw [s_gI hm]); rw [o_ob]; (try rw [n14]); rw [s_q17 hm (by omega) (by omega), o_ob, Int.toNat_natCast]; (try rw [← hs1]); (try rw [s_R0 hm]); rw [o_ob]; (try rw [w1]); rw [o_ob])
  show ∃ f' s' M, (if jI (if 5 ≤ wrd tx T then ((wrd tx T - 5 : Nat) : Int) else -1) = -1 then _ else _) = _ ∧ _
  by_cases g : 5 ≤ wrd tx T
  · have e1 : rdL tx n T l.2.2.2.1 l.1 = (.inr T, 0) := by unfold rdL; rw [if_pos (Or.inr (by omega))]
    rw [if_pos g, if_neg (by rw [show (-1 : Int32) = jI (-1) from rfl, jI_eq (by omega) (by omega) (by omega) (by omega)]; omega)]
    exact cl (.inr T) 0 f s1 h (fun _ _ => rfl) r1 ht1 hN1 hO1 hQ1 (by rw [← hk]; exact v17) (fun T1 _ => Or.inl ⟨rfl, by rw [← hk]; exact v15⟩) (by rw [e1]) (fun _ _ => by rw [e1])
  · obtain ⟨f2, s2, x1, x2, x3, x4, x5⟩ := s_readLabel (r := r) (t := t) hm ht1 h hN1
    obtain ⟨l1, l2⟩ := x3
    (rw [if_neg g, if_pos (by rfl)]; (try rw [x1]); rw [o_ob])
    have ht2 := LbS_tx ⟨l1, l2⟩ ht1
    have r2 : RdW s1 s2 := ⟨fun j hj => l1 j (by omega) (by omega), fun j i a _ => by rw [l1 j (by omega) (by omega)], fun j i a b _ => by rw [l1 j (by omega) (by omega)], fun i _ => by rw [l1 12 (by omega) (by omega)]⟩
    have hN2 : NmR f2 s2 tx n l.1 l.2.2.2.1 := NmR_fr hN1 (x2 14 (by omega)) (fun i hi => l2 i (by omega))
    have hO2 : RdO s2 tx n l := RdO_fr hO1 (fun i _ => by rw [l1 5 (by omega) (by omega)]) (fun i _ j _ _ => ⟨by rw [l1 j (by omega) (by omega)], by rw [l1 j (by omega) (by omega)]⟩) (fun i _ j _ _ => by rw [l1 j (by omega) (by omega)]) (fun i hi => ⟨by rw [l1 16 (by omega) (by omega)], by rw [l1 17 (by omega) (by omega)]⟩)
    have hQ2 : LdR s2 Q := ⟨hQ1.1, fun j hj => by rw [l1 12 (by omega) (by omega)]; exact hQ1.2 j hj⟩
    have h17 : s2 17 l.1 = 0 := by rw [l1 17 (by omega) (by omega), ← hk]; exact v17
    by_cases q : T.1 ≠ 1 ∨ wrd tx T ≠ 0
    · have e1 : rdL tx n T l.2.2.2.1 l.1 = (.inr T, 0) := by unfold rdL; rw [if_pos q]
      have e2 : rdX tx n (.inr T) 0 l = (.inl (1, (T.2.1 : Nat)), l) := by
        show rdI tx n T 0 l = _
        unfold rdI
        rw [if_pos (by omega)]
      refine cl (.inl (1, (T.2.1 : Nat))) 0 f2 s2 (x4 q) (FrQ_P x2) (RdW_tr r1 r2) ht2 hN2 hO2 hQ2 h17 (fun T1 h1 => absurd h1 (by simp)) ?_ (fun T' h' => absurd h' (by simp [rdX, msg]))
      rw [e1, e2]
      rfl
    · obtain ⟨y1, y2⟩ := x5 q
      refine cl (rdL tx n T l.2.2.2.1 l.1).1 (rdL tx n T l.2.2.2.1 l.1).2 f2 s2 y1 (FrQ_P x2) (RdW_tr r1 r2) ht2 hN2 hO2 hQ2 h17 (fun T1 h1 => Or.inr ?_) rfl (fun _ _ => rfl)
      exact y2 T1 (rdL tx n T l.2.2.2.1 l.1).2 (by rw [← h1])
theorem s_readLine {T : TK} {l : LNS} {Q : Nat → Int} (hm : Mo c m) (ht : TxR s tx n) (h : LvR f tx n T) (hS : RdS f s tx n l Q) :
    ∃ f' s', fX13_readLine m (MS c m f r s t) = some (MS c m f' r s' t) ∧ SmR f' tx n (lne tx n T l Q).1 ∧ FrQ f f' ∧ RdW s s' ∧ ∀ T', (lne tx n T l Q).1 = .inr T' → RdS f' s' tx n (lne tx n T l Q).2.1 (lne tx n T l Q).2.2 := by
  obtain ⟨a1, a2, a3, a4, a5, a6, a7, a8⟩ := id h
  have tr := TOK_r a7
  have ty := tyR_r tr.2.2.2.1
  -- the line's end
  have fin : ∀ (F : Nat → Int) (S : SI2) (M : MD), SmR F tx n M → FrQ f F → RdW s S → msg tx n M 59 = (lne tx n T l Q).1 → (∀ T', msg tx n M 59 = .inr T' → RdS F S tx n (lne tx n T l Q).2.1 (lne tx n T l Q).2.2) → ∃ f' s', fX13_readLine_40 m (MS c m F r S t) = some (MS c m f' r s' t) ∧ SmR f' tx n (lne tx n T l Q).1 ∧ FrQ f f' ∧ RdW s s' ∧ ∀ T', (lne tx n T l Q).1 = .inr T' → RdS f' s' tx n (lne tx n T l Q).2.1 (lne tx n T l Q).2.2 := by
    intro F S M b1 b2' b3 b4 b5
    obtain ⟨f', y1, y2, y3⟩ := s_mark (r := r) (t := t) (k := 59) hm (RdW_tx b3 ht) b1 (by omega) (by omega)
    unfold fX13_readLine_40
    ((try rw [show (59 : Int32) = jI 59 from rfl]); (try rw [y1]); rw [o_ob])
    refine ⟨f', S, rfl, by rw [← b4]; exact y2, FrQ_tr b2' (FrQ_P y3), b3, fun T' hT' => ?_⟩
    obtain ⟨c1, c2, c3⟩ := b5 T' (b4.trans hT')
    exact ⟨NmR_fr c1 (y3 14 (by omega)) (fun _ _ => ⟨rfl, rfl⟩), c2, c3⟩
  unfold fX13_readLine
  (rw [s_gd _ hm]; (try rw [s_gI hm]); rw [o_ob]; (try rw [a2]))
  by_cases q : T.1 = 1
  rotate_left
  · have nq : ¬ jI (tyR T.1) = 1 := by
      rw [show (1 : Int32) = jI 1 from rfl, jI_eq (by omega) (by omega) (by omega) (by omega)]
      intro z
      exact q ((tyR_eq (z := 1) tr.2.2.1 tr.2.2.2.1 (by omega) (by omega)).1 z)
    have w0 : wrd tx T = 0 := by unfold wrd; rw [if_neg q]
    obtain ⟨f1, y1, y2, y3⟩ := s_wrong0 (r := r) (s := s) (t := t) (k := 1) hm h (by omega) (by omega)
    have e1 : rdL tx n T l.2.2.2.1 l.1 = (.inr T, 0) := by unfold rdL; rw [if_pos (Or.inl q)]
    have e2 : (lne tx n T l Q).1 = .inl (1, (T.2.1 : Nat)) := by
      rw [lne_X (by omega), e1]
      show msg tx n (rdI tx n T 0 l).1 59 = _
      unfold rdI
      rw [if_pos (by omega)]
      rfl
    have ne := SmR_f y2
    have ei := s_is (x := .inl (1, (T.2.1 : Nat))) (r := r) (t := t) (i := 0) (W := 66) hm ht y2 (by omega) (by omega) (by omega) (wTx_4 ⟨0, by omega⟩)
    (rw [if_neg nq]; (try rw [show (1 : Int32) = jI 1 from rfl]); (try rw [y1]); rw [o_ob])
    unfold fX13_readLine_13
    (rw [ei, o_ob, if_pos (by rfl)]; (try rw [s_gI hm]); rw [o_ob, if_neg ne])
    exact fin f1 s _ y2 (FrQ_P y3) (RdW_rf s) e2.symm (fun T' h' => absurd h' (by simp [msg]))
  rw [if_pos (show jI (tyR T.1) = 1 by rw [q]; rfl)]
  have ei := s_is (x := .inr T) (r := r) (t := t) (i := 0) (W := 66) hm ht h (by omega) (by omega) (by omega) (wTx_4 ⟨0, by omega⟩)
  have ei2 : isWM tx (.inr T) 0 = (wrd tx T == 1) := isW_wrd (by omega)
  rw [ei2] at ei
  unfold fX13_readLine_13
  rw [ei, o_ob]
  obtain ⟨hN, hO, hQ⟩ := id hS
  by_cases g : wrd tx T = 1
  · have g2 : (wrd tx T == 1) = true := by simpa using g
    obtain ⟨f1, s1, y1, y2, y3, y4, y5⟩ := s_readAt (r := r) (t := t) hm ht h hQ
    ((try rw [g2]); rw [if_neg (show ¬ jI (b2 true) = 0 by decide)]; (try rw [y1]); rw [o_ob])
    have el : lne tx n T l Q = (msg tx n (rdA tx n (tok tx n T.2.2) Q).1 59, l, (rdA tx n (tok tx n T.2.2) Q).2) := by unfold lne; rw [if_pos g]
    refine fin f1 s1 _ y2 (FrQ_P y3) (RdW_12 y4) (by rw [el]) (fun T' h' => ?_)
    obtain ⟨T0, h0⟩ := msg_live h'
    rw [el]
    exact ⟨NmR_fr hN (y3 14 (by omega)) (fun i _ => ⟨by rw [y4.1 14 (by omega)], by rw [y4.1 15 (by omega)]⟩), RdO_fr hO (fun i _ => by rw [y4.1 5 (by omega)]) (fun i _ j _ _ => ⟨by rw [y4.1 j (by omega)], by rw [y4.1 j (by omega)]⟩) (fun i _ j _ _ => by rw [y4.1 j (by omega)]) (fun i _ => ⟨by rw [y4.1 16 (by omega)], by rw [y4.1 17 (by omega)]⟩), y5 T0 h0⟩
  · have g2 : (wrd tx T == 1) = false := by simpa using g
    obtain ⟨f1, s1, M, y1, y2, y3, y4, y5, y6⟩ := s_readIns (r := r) (t := t) hm ht h q g hS
    ((try rw [g2]); rw [if_pos (show jI (b2 false) = 0 from rfl)]; (try rw [s_gI hm]); rw [o_ob]; (try rw [a1]); rw [if_pos (show jI 0 = 0 from rfl)]; (try rw [y1]); rw [o_ob])
    exact fin f1 s1 M y2 y3 y4 y5 y6
end RUN
