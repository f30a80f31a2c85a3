section RFD
variable {c : MC} {m : Nat} {f r : Nat → Int} {s t : SI2} {many k mm n : Nat} {P : PG} {A : Nat → Nat → Int} {nt cr tp : Nat → Int} {fp : Int} {im : Option DS}
theorem csum_1 {a b : Bool} {v u : Nat} : (csum a b v u).1 = (ssum a b v u).1 := by
  unfold csum ssum
  by_cases x : a = b
  · rw [if_pos x, if_pos x]
  · rw [if_neg x, if_neg x]
    by_cases y : v < u
    · rw [if_pos y, if_neg (by omega)]
    · rw [if_neg y, if_pos (by omega)]
theorem s_flz {p l : Int} (hm : Mo c m) (hb : Byt r) (p1 : 0 ≤ p) (l1 : 1 ≤ l) (pl : p + l ≤ 256) : fX13_flawOf m (jI p) (jI l) (MS c m f r s t) = some (jI (fnd (flz r false p.toNat l.toNat) (2 * p.toNat) (2 * l.toNat))) := by
  have e := s_flaw (f := f) (s := s) (t := t) (p := p.toNat) (n := l.toNat) hm hb (by omega) (by omega)
  rw [show ((p.toNat : Nat) : Int) = p by omega, show ((l.toNat : Nat) : Int) = l by omega] at e
  (rw [e, ← flz_flp]; (try rw [show 2 * (p.toNat + l.toNat) - 2 * p.toNat = 2 * l.toNat by omega]))
theorem flz_b {p l : Nat} (h : p + l ≤ 256) : -1 ≤ fnd (flz r false p l) (2 * p) (2 * l) ∧ fnd (flz r false p l) (2 * p) (2 * l) < 512 := by
  have := flp_b (r := r) h
  rw [← flz_flp, show 2 * (p + l) - 2 * p = 2 * l by omega] at this
  exact this
theorem z_Need {op p l q d : Int} (h : RF c m f r s many P k A mm nt cr n tp fp im) (o1 : -2147483648 ≤ op) (o2 : op < 2147483648) (p1 : -2147483648 ≤ p) (p2 : p < 2147483648) (l1 : -2147483648 ≤ l) (l2 : l < 2147483648) (q1 : -2147483648 ≤ q) (q2 : q < 2147483648) (c1 : -2147483648 ≤ d) (c2 : d < 2147483648) :
    Rk c m f r s (fX13_need m (jI op) (jI p) (jI l) (jI q) (jI d) (MS c m f r s t)) (if 0 ≤ op ∧ op ≤ 2 then (if 1 ≤ l ∧ l ≤ 16 ∧ 0 ≤ p ∧ p + l ≤ 256 then (if 1 ≤ d ∧ d ≤ 16 ∧ 0 ≤ q ∧ q + d ≤ 256 then (if fnd (flz r false p.toNat l.toNat) (2 * p.toNat) (2 * l.toNat) = -1 then (if fnd (flz r false q.toNat d.toNat) (2 * q.toNat) (2 * d.toNat) = -1 then (.inr (jI ((nd (ndQ r op p.toNat l.toNat q.toNat d.toNat) / 2 + 1 : Nat) : Int)) : Nat ⊕ Int32) else .inl 1) else .inl 1) else .inl 2) else .inl 2) else .inl 2) := by
  have hm := h.1
  have hb := h.2.2.1.1
  have f41 : Rk c m f r s (fX13_need_41 m (MS c m (va_up f 2 0) r s t)) (.inl 2) := by
    unfold fX13_need_41; exact Rk_fl (k := 2) hm Kf_2 (Ks_rf s)
  have f69 : Rk c m f r s (fX13_need_69 m (MS c m (va_up f 2 0) r s t)) (.inl 1) := by
    unfold fX13_need_69; exact Rk_fl (k := 1) hm Kf_2 (Ks_rf s)
  unfold fX13_need
  (rw [s_gd _ hm]; (try rw [show (0 : Int32) = jI 0 from rfl]); rw [s_pI hm, o_ob, i0_2 o1 o2, o_ob])
  by_cases x : 0 ≤ op ∧ op ≤ 2
  rotate_left
  · rw [if_neg x, if_neg x, if_pos (by decide)]; exact f41
  (rw [if_pos x, if_pos x, if_neg (by decide)]; (try rw [show (16 : Int32) = jI 16 from rfl]); rw [s_isField hm p1 p2 l1 l2 (by omega) (by omega), o_ob])
  by_cases y : 1 ≤ l ∧ l ≤ 16 ∧ 0 ≤ p ∧ p + l ≤ 256
  rotate_left
  · rw [if_neg y, if_neg y, if_pos (by decide)]; exact f41
  rw [if_pos y, if_pos y, if_neg (by decide), s_isField hm q1 q2 c1 c2 (by omega) (by omega), o_ob]
  by_cases z : 1 ≤ d ∧ d ≤ 16 ∧ 0 ≤ q ∧ q + d ≤ 256
  rotate_left
  · rw [if_neg z, if_neg z, if_pos (by decide)]; exact f41
  have b1 := flz_b (r := r) (p := p.toNat) (l := l.toNat) (by omega)
  have b3 := flz_b (r := r) (p := q.toNat) (l := d.toNat) (by omega)
  rw [if_pos z, if_pos z, if_neg (by decide), s_flz hm hb (by omega) (by omega) (by omega), o_ob]
  by_cases u : fnd (flz r false p.toNat l.toNat) (2 * p.toNat) (2 * l.toNat) = -1
  rotate_left
  · rw [if_neg (by first | ((simp (disch := omega) only [jI_lit, jI_neg, jI_add, jI_sub, jI_mul, jI_lt, jI_le, jI_eq, jL_lit, jL_lt, jL_le, jL_eq]) <;> omega) | omega), if_neg u]; exact f69
  rw [if_pos (by rw [u]; rfl), if_pos u, s_flz hm hb (by omega) (by omega) (by omega), o_ob]
  by_cases w : fnd (flz r false q.toNat d.toNat) (2 * q.toNat) (2 * d.toNat) = -1
  rotate_left
  · rw [if_neg (by first | ((simp (disch := omega) only [jI_lit, jI_neg, jI_add, jI_sub, jI_mul, jI_lt, jI_le, jI_eq, jL_lit, jL_lt, jL_le, jL_eq]) <;> omega) | omega), if_neg w]; exact f69
  have sA := sou_f u
  have sB := sou_f w
  have vA := pkv64 hb (p := p.toNat) (n := l.toNat) (by omega) (by omega) sA
  have vB := pkv64 hb (p := q.toNat) (n := d.toNat) (by omega) (by omega) sB
  have k63 := l3163
  have la := hf_lt hb (h := 2 * (p.toNat + l.toNat) - 1) (by omega)
  have lb := hf_lt hb (h := 2 * (q.toNat + d.toNat) - 1) (by omega)
  obtain ⟨g, hg⟩ : ∃ g, g = va_up f 2 0 := ⟨_, rfl⟩
  have g2 : g 2 = 0 := by rw [hg, va_up_self]
  have kf : Kf f g := by rw [hg]; exact Kf_2
  have eA := s_load (f := g) (s := s) (t := t) (j := 18) (p := p.toNat) (n := l.toNat) hm hb (by omega) (by omega) (by omega) (by omega) (by omega) sA
  have eB := s_load (f := g) (s := s) (t := va_up t 18 (Lz (t 18) (pkv r p.toNat l.toNat))) (j := 19) (p := q.toNat) (n := d.toNat) hm hb (by omega) (by omega) (by omega) (by omega) (by omega) sB
  obtain ⟨T, hT⟩ : ∃ T, T = va_up (va_up t 18 (Lz (t 18) (pkv r p.toNat l.toNat))) 19 (Lz (va_up t 18 (Lz (t 18) (pkv r p.toNat l.toNat)) 19) (pkv r q.toNat d.toNat)) := ⟨_, rfl⟩
  have t18 : LV (T 18) (pkv r p.toNat l.toNat) := by rw [hT]; exact LV_up (LV_at (LV_Lz _ _)) (by omega)
  have t19 : LV (T 19) (pkv r q.toNat d.toNat) := by rw [hT]; exact LV_at (LV_Lz _ _)
  have gA := s_sign (f := g) (s := s) (t := T) (p := p.toNat) (n := l.toNat) hm hb (by omega) (by omega)
  have gB := s_sign (f := g) (s := s) (t := T) (p := q.toNat) (n := d.toNat) hm hb (by omega) (by omega)
  rw [← hT] at eB
  rw [show ((p.toNat : Nat) : Int) = p by omega, show ((l.toNat : Nat) : Int) = l by omega] at eA gA
  rw [show ((q.toNat : Nat) : Int) = q by omega, show ((d.toNat : Nat) : Int) = d by omega] at eB gB
  have f166 : ∀ (T' : SI2) (v : Nat), LV (T' 20) v → Rk c m f r s (fX13_need_166 m (MS c m g r s T')) (.inr (jI ((nd v / 2 + 1 : Nat) : Int))) := by
    intro T' v hv
    have nl := nd_le v
    have ed := id2 (z := (nd v : Int)) (by omega) (by omega)
    unfold fX13_need_166
    ((try rw [s_R32 hm]); rw [o_ob, s_digits hm (by omega) (by omega) hv, o_ob, ed]; (try rw [show (1 : Int32) = jI 1 from rfl]); (try rw [jI_add]))
    exact Rk_v rfl kf (Ks_rf s) g2
  (rw [if_pos (by rw [w]; rfl), if_pos w]; (try rw [← hg]); (try rw [s_R30 hm]); rw [o_ob, eA, o_ob]; (try rw [s_R31 hm]); rw [o_ob, eB, o_ob, gB, o_ob, w_below (by omega) (by omega), o_ob]; (try rw [show b2 (bel (hf r (2 * (q.toNat + d.toNat) - 1))) = b2 (pks r q.toNat d.toNat) from rfl]))
  unfold ndQ
  by_cases o2 : op = 2
  · (rw [if_pos (by first | ((simp (disch := omega) only [jI_lit, jI_neg, jI_add, jI_sub, jI_mul, jI_lt, jI_le, jI_eq, jL_lit, jL_lt, jL_le, jL_eq]) <;> omega) | omega), if_pos o2]; (try rw [s_R32 hm]); rw [o_ob]; (try rw [s_R30 hm]); rw [o_ob]; (try rw [s_R31 hm]); rw [o_ob, s_product hm (by omega) (by omega) (by omega) (by omega) (by omega) (by omega) (by omega) (by omega) t18 t19, o_ob])
    exact f166 _ _ (LV_at (LV_Lz _ _))
  · (rw [if_neg (by first | ((simp (disch := omega) only [jI_lit, jI_neg, jI_add, jI_sub, jI_mul, jI_lt, jI_le, jI_eq, jL_lit, jL_lt, jL_le, jL_eq]) <;> omega) | omega), if_neg o2, csum_1, gA, o_ob, w_below (by omega) (by omega), o_ob]; (try rw [show b2 (bel (hf r (2 * (p.toNat + l.toNat) - 1))) = b2 (pks r p.toNat l.toNat) from rfl]))
    have f162 : ∀ y : Bool, y = (pks r q.toNat d.toNat != decide (op = 1)) → Rk c m f r s (fX13_need_162 fX13_need_166 m (jI (b2 y)) (jI (b2 (pks r p.toNat l.toNat))) m (MS c m g r s T)) (.inr (jI ((nd (ssum (pks r p.toNat l.toNat) (pks r q.toNat d.toNat != decide (op = 1)) (pkv r p.toNat l.toNat) (pkv r q.toNat d.toNat)).1 / 2 + 1 : Nat) : Int))) := by
      intro y hy
      rw [← hy]
      unfold fX13_need_162
      rw [s_ssum hm t18 t19 (by omega) (by omega), o_ob2]
      exact f166 _ _ (LV_at (LV_Lz _ _))
    by_cases o0 : op = 0
    · rw [if_pos (by first | ((simp (disch := omega) only [jI_lit, jI_neg, jI_add, jI_sub, jI_mul, jI_lt, jI_le, jI_eq, jL_lit, jL_lt, jL_le, jL_eq]) <;> omega) | omega)]
      exact f162 _ (by rw [show decide (op = 1) = false by simp; omega]; simp)
    · have d1 : decide (op = 1) = true := by simp; omega
      rw [d1] at f162 ⊢
      rw [if_neg (by first | ((simp (disch := omega) only [jI_lit, jI_neg, jI_add, jI_sub, jI_mul, jI_lt, jI_le, jI_eq, jL_lit, jL_lt, jL_le, jL_eq]) <;> omega) | omega)]
      cases hs : pks r q.toNat d.toNat with
      | false =>
        rw [hs] at f162
        rw [if_pos (show jI (b2 false) = jI 0 from rfl)]
        exact f162 true rfl
      | true =>
        rw [hs] at f162
        rw [if_neg (show ¬ jI (b2 true) = jI 0 by decide)]
        exact f162 false rfl
theorem z_Rounds {p l a : Int} (h : RF c m f r s many P k A mm nt cr n tp fp im) (p1 : -2147483648 ≤ p) (p2 : p < 2147483648) (l1 : -2147483648 ≤ l) (l2 : l < 2147483648) (a1 : -2147483648 ≤ a) (a2 : a < 2147483648) : Rk c m f r s (fX13_rounds m (jI p) (jI l) (jI a) (MS c m f r s t)) (if 1 ≤ a ∧ a ≤ 32 then (if 1 ≤ l ∧ l ≤ 16 ∧ 0 ≤ p ∧ p + l ≤ 256 then (if fnd (flz r false p.toNat l.toNat) (2 * p.toNat) (2 * l.toNat) = -1 then (.inr (jI (rnM (dg (pkv r p.toNat l.toNat) (a - 1).toNat) 10)) : Nat ⊕ Int32) else .inl 1) else .inl 2) else .inl 2) := by
  have hm := h.1
  have hb := h.2.2.1.1
  have f28 : Rk c m f r s (fX13_rounds_28 m (MS c m (va_up f 2 0) r s t)) (.inl 2) := by
    unfold fX13_rounds_28; exact Rk_fl (k := 2) hm Kf_2 (Ks_rf s)
  unfold fX13_rounds
  (rw [s_gd _ hm]; (try rw [show (0 : Int32) = jI 0 from rfl]); rw [s_pI hm, o_ob, i1_32 a1 a2, o_ob])
  by_cases x : 1 ≤ a ∧ a ≤ 32
  rotate_left
  · rw [if_neg x, if_neg x, if_pos (by decide)]; exact f28
  (rw [if_pos x, if_pos x, if_neg (by decide)]; (try rw [show (16 : Int32) = jI 16 from rfl]); rw [s_isField hm p1 p2 l1 l2 (by omega) (by omega), o_ob])
  by_cases y : 1 ≤ l ∧ l ≤ 16 ∧ 0 ≤ p ∧ p + l ≤ 256
  rotate_left
  · rw [if_neg y, if_neg y, if_pos (by decide)]; exact f28
  have b1 := flz_b (r := r) (p := p.toNat) (l := l.toNat) (by omega)
  rw [if_pos y, if_pos y, if_neg (by decide), s_flz hm hb (by omega) (by omega) (by omega), o_ob]
  by_cases u : fnd (flz r false p.toNat l.toNat) (2 * p.toNat) (2 * l.toNat) = -1
  rotate_left
  · rw [if_neg (by first | ((simp (disch := omega) only [jI_lit, jI_neg, jI_add, jI_sub, jI_mul, jI_lt, jI_le, jI_eq, jL_lit, jL_lt, jL_le, jL_eq]) <;> omega) | omega), if_neg u]; exact Rk_fl (k := 1) hm Kf_2 (Ks_rf s)
  have sA := sou_f u
  obtain ⟨g, hg⟩ : ∃ g, g = va_up f 2 0 := ⟨_, rfl⟩
  have g2 : g 2 = 0 := by rw [hg, va_up_self]
  have kf : Kf f g := by rw [hg]; exact Kf_2
  have eA := s_load (f := g) (s := s) (t := t) (j := 18) (p := p.toNat) (n := l.toNat) hm hb (by omega) (by omega) (by omega) (by omega) (by omega) sA
  rw [show ((p.toNat : Nat) : Int) = p by omega, show ((l.toNat : Nat) : Int) = l by omega] at eA
  obtain ⟨T, hT⟩ : ∃ T, T = va_up t 18 (Lz (t 18) (pkv r p.toNat l.toNat)) := ⟨_, rfl⟩
  have t18 : LV (T 18) (pkv r p.toNat l.toNat) := by rw [hT]; exact LV_at (LV_Lz _ _)
  rw [← hT] at eA
  (rw [if_pos (by rw [u]; rfl), if_pos u]; (try rw [← hg]); (try rw [s_R30 hm]); rw [o_ob, eA, o_ob])
  obtain ⟨D, hD⟩ : ∃ D, D = dg (pkv r p.toNat l.toNat) (a - 1).toNat := ⟨_, rfl⟩
  have d9 : D < 10 := by rw [hD]; exact dg_lt _ _
  have key := lp_up (z := fun _ _ _ _ _ => none) (S := fX13_rounds_66) (β := Int32 × Hp) (fun k (i : Nat) => k m (jI a) (jI (rnM D i)) (jI (i : Int)) (MS c m g r s T)) (E := some (jI (rnM D 10), MS c m g r s T)) (M := 10) ?_ ?_ FU 0 (by omega) (FU_lt (by omega))
  · rw [← hD]
    have key : lp (fun _ _ _ _ _ => none) fX13_rounds_66 FU m (jI a) (jI 0) (jI 0) (MS c m g r s T) = _ := key
    rw [key]
    exact Rk_v rfl kf (Ks_rf s) g2
  · intro i hi kk
    have ro := rn_or ⟨D, d9⟩ ⟨i, hi⟩
    have ro : jI (rnM D i) ||| (jI 1 <<< (jI (i : Int) &&& jI 31)) = jI (rnM D i + 2 ^ i) := ro
    have es : rnM D (i + 1) = if D + i ≤ 9 then rnM D i else rnM D i + 2 ^ i := rfl
    unfold fX13_rounds_66
    (rw [if_neg (by first | ((simp (disch := omega) only [jI_lit, jI_neg, jI_add, jI_sub, jI_mul, jI_lt, jI_le, jI_eq, jL_lit, jL_lt, jL_le, jL_eq]) <;> omega) | omega)]; (try rw [s_R30 hm]); rw [o_ob]; (try rw [show (1 : Int32) = jI 1 from rfl]); (try rw [jI_sub]); rw [s_digit hm (by omega) (by omega) t18 (by omega) (by omega), o_ob]; (try rw [← hD]); (try rw [jI_add]))
    by_cases w : D + i ≤ 9
    · rw [if_pos w] at es
      (rw [if_pos (by first | ((simp (disch := omega) only [jI_lit, jI_neg, jI_add, jI_sub, jI_mul, jI_lt, jI_le, jI_eq, jL_lit, jL_lt, jL_le, jL_eq]) <;> omega) | omega)]; (try rw [show jI (rnM D i) ||| (0 : Int32) = jI (rnM D i) from Int32.or_zero]); rw [o_lt, o_lt]; (try rw [jI_add]); rw [es])
      rfl
    · rw [if_neg w] at es
      (rw [if_neg (by first | ((simp (disch := omega) only [jI_lit, jI_neg, jI_add, jI_sub, jI_mul, jI_lt, jI_le, jI_eq, jL_lit, jL_lt, jL_le, jL_eq]) <;> omega) | omega)]; (try rw [show (31 : Int32) = jI 31 from rfl]); rw [ro, o_lt, o_lt]; (try rw [jI_add]); rw [es])
      rfl
  · intro kk
    unfold fX13_rounds_66
    rw [if_pos (by decide)]
end RFD
