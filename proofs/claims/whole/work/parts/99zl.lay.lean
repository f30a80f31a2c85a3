section RUL
variable {c : MC} {m : Nat} {f r : Nat → Int} {s t : SI2} {n : Nat} {tx : Nat → Int}
/-- what a laying leaves -/
def LyO (c : MC) (m : Nat) (f r : Nat → Int) (s t : SI2) (tx : Nat → Int) (n : Nat) (o : Option Hp) (X : MD × (Nat → Int)) : Prop :=
  ∃ f' s', o = some (MS c m f' r s' t) ∧ SmR f' tx n X.1 ∧ FrP f f' ∧ Lw12 s s' ∧ ∀ T', X.1 = .inr T' → LdR s' X.2
theorem s_rd101 {e : Int × Int} {p bg N : Int32} {pk sg : Int32} {f0 : Nat → Int} {Q : Nat → Int} (hm : Mo c m) (h : SmR f tx n (.inl e)) (fr : FrP f0 f) : LyO c m f0 r s t tx n (fX13_readDigits_69 m p pk sg bg N (MS c m f r s t)) (.inl e, Q) := by
  have ne := SmR_f h
  unfold fX13_readDigits_69 fX13_readDigits_90 fX13_readDigits_101
  ((try rw [s_gI hm]); rw [o_ob, if_neg ne]; (try rw [s_gI hm]); rw [o_ob, if_neg ne]; (try rw [s_gI hm]); rw [o_ob, if_neg ne])
  exact ⟨f, s, rfl, h, fr, Lw12_rf s, fun T' h' => absurd h' (by simp)⟩
theorem s_rd41 {e : Int × Int} {p : Int32} {pk sg : Int32} {f0 : Nat → Int} {Q : Nat → Int} (hm : Mo c m) (h : SmR f tx n (.inl e)) (fr : FrP f0 f) : LyO c m f0 r s t tx n (fX13_readDigits_41 m p pk sg (MS c m f r s t)) (.inl e, Q) := by
  have ne := SmR_f h
  have e69 := fun b N => s_rd101 (r := r) (s := s) (t := t) (p := p) (bg := b) (N := N) (pk := pk) (sg := sg) (Q := Q) hm h fr
  unfold fX13_readDigits_41
  ((try rw [s_gI hm]); rw [o_ob]; (try rw [s_gI hm]); rw [o_ob]; (try rw [s_gI hm]); rw [o_ob, o_lt]; (try rw [s_gI hm]); rw [o_ob, if_neg ne])
  exact e69 _ _
/-- the length behind 'in' -/
theorem s_rdIn {zoned : Bool} {T : TK} {p bg N : Nat} {sg : Int} {f0 : Nat → Int} {Q : Nat → Int} (hm : Mo c m) (ht : TxR s tx n) (h : LvR f tx n T) (fr : FrP f0 f) (hQ : LdR s Q) (hp : p < 256) (s1 : 0 ≤ sg) (s2 : sg < 16) (hN : 0 < N) (hb : bg + N ≤ n) (hd : ∀ j, bg ≤ j → j < bg + N → isDg (tx j) = true) :
    LyO c m f0 r s t tx n (fX13_readDigits_101 m (jI (p : Int)) (if zoned then 0 else 1) (jI sg) (jI (bg : Int)) (jI (N : Int)) (MS c m f r s t)) (match mnum tx n T (if zoned then (N : Int) else ((N / 2 + 1 : Nat) : Int)) (min 16 (256 - (p : Int))) with
      | (.inl x, _) => (.inl x, Q)
      | (.inr T5, v) => (.inr T5, if zoned then znQ tx Q (p + v.toNat) bg (bg + N) sg v.toNat else pkQ tx Q (p + v.toNat) bg (bg + N) sg (2 * v.toNat - 1))) := by
  obtain ⟨a1, a2, a3, a4, a5, a6, a7, a8⟩ := id h
  have tr := TOK_r a7
  have ty := tyR_r tr.2.2.2.1
  have hn := ht.1
  obtain ⟨lo, hlo⟩ : ∃ lo : Int, lo = (if zoned then (N : Int) else ((N / 2 + 1 : Nat) : Int)) := ⟨_, rfl⟩
  obtain ⟨X, hX⟩ : ∃ X : MD × (Nat → Int), X = (match mnum tx n T lo (min 16 (256 - (p : Int))) with
      | (.inl x, _) => (.inl x, Q)
      | (.inr T5, v) => (.inr T5, if zoned then znQ tx Q (p + v.toNat) bg (bg + N) sg v.toNat else pkQ tx Q (p + v.toNat) bg (bg + N) sg (2 * v.toNat - 1))) := ⟨_, rfl⟩
  rw [← hlo, ← hX]
  -- a fault
  have bad : ∀ (k : Int) (y : Int32), 1 ≤ k → k ≤ 4 → mnum tx n T lo (min 16 (256 - (p : Int))) = (.inl (k, (T.2.1 : Nat)), 0) → LyO c m f0 r s t tx n (ob (fX13_wrong m (jI k) (MS c m f r s t)) fun h => fX13_readDigits_191 m (jI (p : Int)) (if zoned then 0 else 1) (jI sg) (jI (bg : Int)) (jI (N : Int)) y h) X := by
    intro k y k1 k2 hk
    obtain ⟨f', w1, w2, w3⟩ := s_wrong0 (r := r) (s := s) (t := t) (k := k) hm h k1 k2
    have ne := SmR_f w2
    have eX : X = (.inl (k, (T.2.1 : Nat)), Q) := by rw [hX, hk]
    ((try rw [w1]); rw [o_ob, eX])
    unfold fX13_readDigits_191
    ((try rw [s_gI hm]); rw [o_ob, if_neg ne])
    exact ⟨f', s, rfl, w2, FrP_tr fr w3, Lw12_rf s, fun T' h' => absurd h' (by simp)⟩
  unfold fX13_readDigits_101 fX13_readDigits_125
  ((try rw [s_gI hm]); rw [o_ob]; (try rw [a1]); rw [if_pos (show jI 0 = 0 from rfl)]; (try rw [s_gI hm]); rw [o_ob]; (try rw [a2]))
  by_cases q : T.1 = 2
  rotate_left
  · have nq : ¬ jI (tyR T.1) = 2 := by
      rw [show (2 : Int32) = jI 2 from rfl, jI_eq (by omega) (by omega) (by omega) (by omega)]
      intro z
      exact q ((tyR_eq (z := 2) tr.2.2.1 tr.2.2.2.1 (by omega) (by omega)).1 z)
    (rw [if_neg nq]; (try rw [s_gI hm]); rw [o_ob])
    (try rw [a2])
    rw [if_neg nq]
    exact bad 1 1 (by omega) (by omega) (by unfold mnum; rw [if_pos q])
  obtain ⟨q1, q2⟩ := tr.2.2.2.2.2.1 q
  have dg : ∀ j, T.2.1 ≤ j → j < T.2.1 + (T.2.2 - T.2.1) → isDg (tx j) = true := fun j x y => q2 j x (by omega)
  have e20 := a8 q
  rw [nvl_min dg] at e20
  have nn := nval_nn dg
  obtain ⟨v, hv⟩ : ∃ v, v = nval tx T.2.1 (T.2.2 - T.2.1) := ⟨_, rfl⟩
  rw [← hv] at e20 nn
  have em : mnum tx n T lo (min 16 (256 - (p : Int))) = if v < lo ∨ min 16 (256 - (p : Int)) < v then (.inl (2, (T.2.1 : Nat)), 0) else (.inr (tok tx n T.2.2), v) := by
    unfold mnum
    rw [if_neg (fun z => z q), ← hv]
  have p2 : jI (tyR T.1) = 2 := by rw [q]; rfl
  (rw [if_pos p2]; (try rw [s_gI hm]); rw [o_ob, e20]; (try rw [s_gI hm]); rw [o_ob])
  (try rw [a2])
  rw [if_pos p2]
  obtain ⟨u, hu⟩ : ∃ u : Int, u = min 100000 v := ⟨_, rfl⟩
  ((try rw [← hu]); (try rw [show (1 : Int64) = jL 1 from rfl]); (try rw [show (16 : Int64) = jL 16 from rfl]); rw [w_isInI (by omega) (by omega) (by omega) (by omega) (by omega) (by omega), o_ob])
  by_cases c1 : 1 ≤ u ∧ u ≤ 16
  rotate_left
  · rw [if_neg c1, if_pos (show jI 0 = 0 from rfl)]
    unfold fX13_readDigits_186
    rw [show (2 : Int32) = jI 2 from rfl]
    have lor : 1 ≤ lo := by rw [hlo]; split <;> omega
    exact bad 2 (jI u) (by omega) (by omega) (by rw [em, if_pos (by omega)])
  have uv : u = v := by omega
  rw [uv] at c1 ⊢
  (rw [if_pos c1, if_neg (show ¬ jI 1 = 0 by decide)]; (try rw [jI_add]))
  by_cases c2 : 256 < (p : Int) + v
  · rw [if_pos (by rw [show (256 : Int32) = jI 256 from rfl, jI_lt (by omega) (by omega) (by omega) (by omega)]; omega)]
    unfold fX13_readDigits_186
    rw [show (2 : Int32) = jI 2 from rfl]
    exact bad 2 (jI v) (by omega) (by omega) (by rw [em, if_pos (by omega)])
  rw [if_neg (by rw [show (256 : Int32) = jI 256 from rfl, jI_lt (by omega) (by omega) (by omega) (by omega)]; omega)]
  obtain ⟨vn, hvn⟩ : ∃ vn : Nat, v = (vn : Int) := ⟨v.toNat, by omega⟩
  subst hvn
  have etn : ((vn : Int)).toNat = vn := by omega
  obtain ⟨f1, w1, w2, w3⟩ := s_step (r := r) (t := t) hm ht h
  cases zoned with
  | true =>
    have hlo : lo = (N : Int) := hlo
    rw [if_pos rfl] at bad ⊢
    rw [if_pos rfl]
    unfold fX13_readDigits_183
    by_cases c3 : N ≤ vn
    · obtain ⟨s', l1, l2, l3⟩ := s_rdZn (r := r) (t := t) (F := f1) (v := vn) (p := p) (bg := bg) (N := N) hm ht hQ (by omega) (by omega) s1 s2 c3 hb hd
      rw [if_pos (by rw [jI_le (by omega) (by omega) (by omega) (by omega)]; omega)]
      unfold fX13_readDigits_191
      ((try rw [s_gI hm]); rw [o_ob]; (try rw [a1]); rw [if_pos (show jI 0 = 0 from rfl)]; (try rw [w1]); rw [o_ob])
      rw [em, if_neg (by omega)] at hX
      have hX : X = (.inr (tok tx n T.2.2), znQ tx Q (p + ((vn : Int)).toNat) bg (bg + N) sg ((vn : Int)).toNat) := hX
      rw [etn] at hX
      rw [hX]
      exact ⟨f1, s', l1, w2, FrP_tr fr w3, l2, fun _ _ => l3⟩
    · rw [if_neg (by rw [jI_le (by omega) (by omega) (by omega) (by omega)]; omega)]
      unfold fX13_readDigits_186
      rw [show (2 : Int32) = jI 2 from rfl]
      exact bad 2 (jI (vn : Int)) (by omega) (by omega) (by rw [em, if_pos (by omega)])
  | false =>
    have hlo : lo = ((N / 2 + 1 : Nat) : Int) := hlo
    rw [if_neg (show ¬ false = true by decide)] at bad ⊢
    (rw [if_neg (show ¬ (1 : Int32) = 0 by decide)]; (try rw [show (2 : Int32) = jI 2 from rfl]); (try rw [show jI 1 = (1 : Int32) from rfl]); (try rw [show (1 : Int32) = jI 1 from rfl]); (try rw [jI_mul]); (try rw [jI_sub]))
    unfold fX13_readDigits_183
    by_cases c3 : N ≤ 2 * vn - 1
    · obtain ⟨s', l1, l2, l3⟩ := s_rdPk (r := r) (t := t) (F := f1) (v := vn) (p := p) (bg := bg) (N := N) hm ht hQ (by omega) (by omega) s1 s2 c3 hb hd
      rw [if_pos (by rw [jI_le (by omega) (by omega) (by omega) (by omega)]; omega)]
      unfold fX13_readDigits_191
      ((try rw [s_gI hm]); rw [o_ob]; (try rw [a1]); rw [if_pos (show jI 0 = 0 from rfl)]; (try rw [w1]); rw [o_ob])
      rw [em, if_neg (by omega)] at hX
      have hX : X = (.inr (tok tx n T.2.2), pkQ tx Q (p + ((vn : Int)).toNat) bg (bg + N) sg (2 * ((vn : Int)).toNat - 1)) := hX
      rw [etn] at hX
      rw [hX]
      exact ⟨f1, s', l1, w2, FrP_tr fr w3, l2, fun _ _ => l3⟩
    · rw [if_neg (by rw [jI_le (by omega) (by omega) (by omega) (by omega)]; omega)]
      unfold fX13_readDigits_186
      rw [show (2 : Int32) = jI 2 from rfl]
      exact bad 2 (jI (vn : Int)) (by omega) (by omega) (by rw [em, if_pos (by omega)])
theorem s_readDigits {zoned : Bool} {T : TK} {p : Nat} {Q : Nat → Int} (hm : Mo c m) (ht : TxR s tx n) (h : LvR f tx n T) (hQ : LdR s Q) (hp : p < 256) :
    LyO c m f r s t tx n (fX13_readDigits m (jI (p : Int)) (if zoned then 0 else 1) (MS c m f r s t)) (rd5 tx n zoned (mps tx n (tok tx n T.2.2) 45) (if ((tok tx n T.2.2).1 == 4 && tx (tok tx n T.2.2).2.1 == 45) = true then 13 else 12) p Q) := by
  obtain ⟨f1, w1, w2, w3⟩ := s_step (r := r) (t := t) hm ht h
  obtain ⟨T1, hT1⟩ : ∃ T1, T1 = tok tx n T.2.2 := ⟨_, rfl⟩
  rw [← hT1] at w2 ⊢
  obtain ⟨f2, x1, x2, x3⟩ := s_passes (x := .inr T1) (r := r) (t := t) (k := 45) hm ht w2 (by omega) (by omega)
  obtain ⟨T2, hT2⟩ : ∃ T2, T2 = mps tx n T1 45 := ⟨_, rfl⟩
  have x2 : SmR f2 tx n (.inr (mps tx n T1 45)) := x2
  have e2 : (psM tx n (.inr T1) 45).2 = (T1.1 == 4 && tx T1.2.1 == 45) := rfl
  rw [← hT2] at x2 ⊢
  rw [e2] at x1
  have h2 : LvR f2 tx n T2 := x2
  have fr2 := FrP_tr w3 x3
  obtain ⟨sg, hsg, sg1, sg2⟩ : ∃ sg : Int, sg = (if (T1.1 == 4 && tx T1.2.1 == 45) = true then 13 else 12) ∧ 0 ≤ sg ∧ sg < 16 := ⟨_, rfl, by split <;> omega, by split <;> omega⟩
  rw [← hsg]
  have main : LyO c m f r s t tx n (fX13_readDigits_20 m (jI (p : Int)) (if zoned then 0 else 1) (jI sg) (MS c m f2 r s t)) (rd5 tx n zoned T2 sg p Q) := by
    obtain ⟨a1, a2, a3, a4, a5, a6, a7, a8⟩ := id h2
    have tr := TOK_r a7
    have ty := tyR_r tr.2.2.2.1
    have hn := ht.1
    unfold fX13_readDigits_20
    ((try rw [s_gI hm]); rw [o_ob]; (try rw [a1]); rw [if_pos (show jI 0 = 0 from rfl)]; (try rw [s_gI hm]); rw [o_ob]; (try rw [a2]))
    unfold rd5
    by_cases q : T2.1 = 2
    rotate_left
    · have nq : ¬ jI (tyR T2.1) = 2 := by
        rw [show (2 : Int32) = jI 2 from rfl, jI_eq (by omega) (by omega) (by omega) (by omega)]
        intro z
        exact q ((tyR_eq (z := 2) tr.2.2.1 tr.2.2.2.1 (by omega) (by omega)).1 z)
      obtain ⟨f3, y1, y2, y3⟩ := s_wrong0 (r := r) (s := s) (t := t) (k := 1) hm h2 (by omega) (by omega)
      (rw [if_neg nq, if_pos (show T2.1 ≠ 2 from q)]; (try rw [show (1 : Int32) = jI 1 from rfl]); (try rw [y1]); rw [o_ob])
      exact s_rd41 hm y2 (FrP_tr fr2 y3)
    rw [if_pos (show jI (tyR T2.1) = 2 by rw [q]; rfl), if_neg (show ¬ T2.1 ≠ 2 from fun z => z q)]
    obtain ⟨q1, q2⟩ := tr.2.2.2.2.2.1 q
    obtain ⟨f3, y1, y2, y3⟩ := s_step (r := r) (t := t) hm ht h2
    obtain ⟨T3, hT3⟩ : ∃ T3, T3 = tok tx n T2.2.2 := ⟨_, rfl⟩
    rw [← hT3] at y2 ⊢
    obtain ⟨bg, hbg⟩ : ∃ bg, bg = T2.2.1 := ⟨_, rfl⟩
    obtain ⟨en, hen⟩ : ∃ en, en = T2.2.2 := ⟨_, rfl⟩
    have te := tr.2.1
    rw [← hbg] at a3 q1 q2 ⊢
    rw [← hen] at a4 q1 q2 te ⊢
    obtain ⟨N, hN⟩ : ∃ N, N = en - bg := ⟨_, rfl⟩
    have een : en = bg + N := by omega
    rw [← hN]
    have el : jI (en : Int) - jI (bg : Int) = jI (N : Int) := by rw [jI_sub]; congr 1; omega
    unfold fX13_readDigits_41
    ((try rw [s_gI hm]); rw [o_ob]; (try rw [a3]); (try rw [s_gI hm]); rw [o_ob]; (try rw [a4]); (try rw [s_gI hm]); rw [o_ob])
    (try rw [a3])
    (rw [el, o_lt]; (try rw [s_gI hm]); rw [o_ob]; (try rw [a1]); rw [if_pos (show jI 0 = 0 from rfl)]; (try rw [y1]); rw [o_ob])
    have h3 : SmR f3 tx n (.inr T3) := y2
    have ei := s_is (x := .inr T3) (r := r) (t := t) (i := 3) (W := 69) hm ht h3 (by omega) (by omega) (by omega) (wTx_4 ⟨3, by omega⟩)
    have ei2 : isWM tx (.inr T3) 3 = (wrd tx T3 == 4) := isW_wrd (by omega)
    rw [ei2] at ei
    have b1 : f3 23 = 0 := y2.1
    unfold fX13_readDigits_69
    ((try rw [s_gI hm]); rw [o_ob]; (try rw [b1]); rw [if_pos (show jI 0 = 0 from rfl), ei, o_ob])
    by_cases g : wrd tx T3 = 4
    rotate_left
    · have g2 : (wrd tx T3 == 4) = false := by simpa using g
      obtain ⟨f4, z1, z2, z3⟩ := s_wrong0 (r := r) (s := s) (t := t) (k := 1) hm y2 (by omega) (by omega)
      have ne := SmR_f z2
      ((try rw [g2]); rw [if_pos (show jI (b2 false) = 0 from rfl), if_pos (show wrd tx T3 ≠ 4 from g)]; (try rw [show (1 : Int32) = jI 1 from rfl]); (try rw [z1]); rw [o_ob])
      unfold fX13_readDigits_90 fX13_readDigits_101
      ((try rw [s_gI hm]); rw [o_ob, if_neg ne]; (try rw [s_gI hm]); rw [o_ob, if_neg ne])
      exact ⟨f4, s, rfl, z2, FrP_tr fr2 (FrP_tr y3 z3), Lw12_rf s, fun T' h' => absurd h' (by simp)⟩
    have g2 : (wrd tx T3 == 4) = true := by simpa using g
    obtain ⟨f4, z1, z2, z3⟩ := s_step (r := r) (t := t) hm ht y2
    ((try rw [g2]); rw [if_neg (show ¬ jI (b2 true) = 0 by decide), if_neg (show ¬ wrd tx T3 ≠ 4 from fun z => z g)])
    unfold fX13_readDigits_90
    ((try rw [s_gI hm]); rw [o_ob]; (try rw [b1]); rw [if_pos (show jI 0 = 0 from rfl)]; (try rw [z1]); rw [o_ob])
    rw [een]
    exact s_rdIn (zoned := zoned) hm ht z2 (FrP_tr fr2 (FrP_tr y3 z3)) hQ hp sg1 sg2 (by omega) (by omega) (fun j x y => q2 j x (by omega))
  unfold fX13_readDigits
  (rw [s_gd _ hm]; (try rw [w1]); rw [o_ob]; (try rw [show (45 : Int32) = jI 45 from rfl]); (try rw [x1]); rw [o_ob2])
  cases g : (T1.1 == 4 && tx T1.2.1 == 45) with
  | false =>
    rw [g, if_neg (show ¬ false = true by decide)] at hsg
    rw [hsg] at main ⊢
    rw [if_pos (show jI (b2 false) = 0 from rfl)]
    exact main
  | true =>
    rw [g, if_pos rfl] at hsg
    rw [hsg] at main ⊢
    rw [if_neg (show ¬ jI (b2 true) = 0 by decide)]
    exact main
theorem LyO_c {f0 : Nat → Int} {o : Option Hp} {X : MD × (Nat → Int)} (h : LyO c m f r s t tx n o X) (fr : FrP f0 f) : LyO c m f0 r s t tx n (ob o fun h => some h) X := by
  obtain ⟨f', s', e1, e2, e3, e4, e5⟩ := h
  exact ⟨f', s', by rw [e1, o_ob], e2, FrP_tr fr e3, e4, e5⟩
theorem s_readAt {T : TK} {Q : Nat → Int} (hm : Mo c m) (ht : TxR s tx n) (h : LvR f tx n T) (hQ : LdR s Q) : LyO c m f r s t tx n (fX13_readAt m (MS c m f r s t)) (rdA tx n (tok tx n T.2.2) Q) := by
  obtain ⟨f1, w1, w2, w3⟩ := s_step (r := r) (t := t) hm ht h
  obtain ⟨T1, hT1⟩ : ∃ T1, T1 = tok tx n T.2.2 := ⟨_, rfl⟩
  rw [← hT1] at w2 ⊢
  obtain ⟨f2, x1, x2, x3⟩ := s_num (x := .inr T1) (r := r) (t := t) (lo := 0) (hi := 255) hm ht w2 (by omega) (by omega) (by omega) (by omega)
  have e2 : numR tx n (.inr T1) 0 255 = mnum tx n T1 0 255 := rfl
  rw [e2] at x1 x2
  have mr : ∀ T', (mnum tx n T1 0 255).1 = .inr T' → 0 ≤ (mnum tx n T1 0 255).2 ∧ (mnum tx n T1 0 255).2 ≤ 255 := fun T' h => mnum_r2 h
  unfold fX13_readAt
  (rw [s_gd _ hm]; (try rw [w1]); rw [o_ob]; (try rw [show (0 : Int32) = jI 0 from rfl]); (try rw [show (255 : Int32) = jI 255 from rfl]); (try rw [x1]); rw [o_ob2]; (try rw [s_gI hm]); rw [o_ob])
  unfold rdA
  obtain ⟨⟨M, v⟩, hM⟩ : ∃ z, z = mnum tx n T1 0 255 := ⟨_, rfl⟩
  rw [← hM] at x2 mr ⊢
  have fr2 := FrP_tr w3 x3
  cases M with
  | inl e =>
    have x2 : SmR f2 tx n (.inl e) := x2
    have ne : ¬ jI (f2 23) = jI 0 := SmR_f x2
    rw [if_neg ne]
    exact ⟨f2, s, rfl, x2, fr2, Lw12_rf s, fun T' h' => absurd h' (by simp)⟩
  | inr T2 =>
    have x2 : LvR f2 tx n T2 := x2
    have mr : 0 ≤ v ∧ v ≤ 255 := mr T2 rfl
    obtain ⟨p, hp⟩ : ∃ p : Nat, v = (p : Int) := ⟨v.toNat, by omega⟩
    subst hp
    have etn : ((p : Int)).toNat = p := by omega
    show LyO c m f r s t tx n _ (if T2.1 = 3 then mhx tx n T2 ((p : Int)).toNat Q else rdD tx n T2 ((p : Int)).toNat Q)
    rw [etn]
    obtain ⟨a1, a2, a3, a4, a5, a6, a7, a8⟩ := id x2
    have tr := TOK_r a7
    have ty := tyR_r tr.2.2.2.1
    ((try rw [a1]); rw [if_pos (show jI 0 = jI 0 from rfl)]; (try rw [s_gI hm]); rw [o_ob]; (try rw [a2]))
    by_cases q : T2.1 = 3
    · rw [if_pos (show jI (tyR T2.1) = 3 by rw [q]; rfl), if_pos q]
      obtain ⟨f3, s3, y1, y2, y3, y4, y5⟩ := s_readHex (r := r) (t := t) (p := p) hm ht x2 q (by omega) hQ
      exact LyO_c ⟨f3, s3, y1, y2, y3, y4, y5⟩ fr2
    have nq : ¬ jI (tyR T2.1) = 3 := by
      rw [show (3 : Int32) = jI 3 from rfl, jI_eq (by omega) (by omega) (by omega) (by omega)]
      intro z
      exact q ((tyR_eq (z := 3) tr.2.2.1 tr.2.2.2.1 (by omega) (by omega)).1 z)
    rw [if_neg nq, if_neg q]
    have h3 : SmR f2 tx n (.inr T2) := x2
    have i1 := s_is (x := .inr T2) (r := r) (t := t) (i := 1) (W := 67) hm ht h3 (by omega) (by omega) (by omega) (wTx_4 ⟨1, by omega⟩)
    have i2 := s_is (x := .inr T2) (r := r) (t := t) (i := 2) (W := 68) hm ht h3 (by omega) (by omega) (by omega) (wTx_4 ⟨2, by omega⟩)
    have j1 : isWM tx (.inr T2) 1 = (wrd tx T2 == 2) := isW_wrd (by omega)
    have j2 : isWM tx (.inr T2) 2 = (wrd tx T2 == 3) := isW_wrd (by omega)
    rw [j1] at i1
    rw [j2] at i2
    unfold rdD
    rw [i1, o_ob]
    by_cases g2 : wrd tx T2 = 2
    · have k2 : (wrd tx T2 == 2) = true := by simpa using g2
      have k3 : (wrd tx T2 == 3) = false := by rw [g2]; rfl
      ((try rw [k2]); rw [if_neg (show ¬ jI (b2 true) = jI 0 by decide), if_neg (fun z => z.2 g2)]; (try rw [k3]))
      exact LyO_c (s_readDigits (zoned := false) hm ht x2 hQ (by omega)) fr2
    have k2 : (wrd tx T2 == 2) = false := by simpa using g2
    ((try rw [k2]); rw [if_pos (show jI (b2 false) = jI 0 from rfl)]; (try rw [i2]); rw [o_ob])
    by_cases g3 : wrd tx T2 = 3
    · have k3 : (wrd tx T2 == 3) = true := by simpa using g3
      ((try rw [k3]); rw [if_neg (show ¬ jI (b2 true) = jI 0 by decide), if_neg (fun z => z.1 g3)])
      exact LyO_c (s_readDigits (zoned := true) hm ht x2 hQ (by omega)) fr2
    · have k3 : (wrd tx T2 == 3) = false := by simpa using g3
      obtain ⟨f3, y1, y2, y3⟩ := s_wrong0 (r := r) (s := s) (t := t) (k := 1) hm x2 (by omega) (by omega)
      ((try rw [k3]); rw [if_pos (show jI (b2 false) = jI 0 from rfl), if_pos ⟨g3, g2⟩]; (try rw [show (1 : Int32) = jI 1 from rfl]); (try rw [y1]); rw [o_ob])
      exact ⟨f3, s, rfl, y2, FrP_tr fr2 y3, Lw12_rf s, fun T' h' => absurd h' (by simp)⟩
end RUL
