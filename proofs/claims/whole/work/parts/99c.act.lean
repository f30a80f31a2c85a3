section RAD
variable {c : MC} {m : Nat} {f r : Nat → Int} {s t : SI2} {many k mm n : Nat} {P : PG} {A : Nat → Nat → Int} {nt cr tp : Nat → Int} {fp : Int} {im : Option DS}
/-- an answer of an act, and what is held then -/
def RO (c : MC) (m : Nat) {α : Type} (res : Option (α × Hp)) (v : α) (r : Nat → Int) (many : Nat) (P : PG) (k : Nat) (A : Nat → Nat → Int) (mm : Nat) (nt cr : Nat → Int) (n : Nat) (tp : Nat → Int) (fp : Int) (im : Option DS) : Prop :=
  ∃ f' s' t', res = some (v, MS c m f' r s' t') ∧ f' 2 = 0 ∧ RF c m f' r s' many P k A mm nt cr n tp fp im
theorem RF_2 {z : Int} (h : RF c m f r s many P k A mm nt cr n tp fp im) : RF c m (va_up f 2 z) r s many P k A mm nt cr n tp fp im := RF_k h Kf_2 (Ks_rf s)
theorem RF_row {r' : Nat → Int} (h : RF c m f r s many P k A mm nt cr n tp fp im) (ok : RowOK many 20000 r') (zt : Zt r') : RF c m f r' s many P k A mm nt cr n tp fp im := by
  obtain ⟨h1, h2, -, -, h5⟩ := h
  exact ⟨h1, h2, ok, zt, h5⟩
theorem RF_cr {w : Nat} (h : RF c m f r s many P k A mm nt cr n tp fp im) (hw : w < 3) : RF c m f r (va_up s 4 (va_up (s 4) w (s 4 w + 1))) many P k A mm nt (va_up cr w (cr w + 1)) n tp fp im := by
  obtain ⟨hm, ⟨p1, p2, p3, p4⟩, ok, zt, ⟨a1, a2, a3⟩, ⟨b1, b2', b3⟩, h4, ⟨d1, d2, d3⟩, h25, ⟨i1, i2⟩⟩ := h
  have e : ∀ j, j ≠ 4 → (va_up s 4 (va_up (s 4) w (s 4 w + 1))) j = s j := fun j hj => va_up_ne _ _ hj
  refine ⟨hm, ⟨p1, p2, fun k hk => ?_, fun j hj => by rw [e 12 (by omega)]; exact p4 j hj⟩, ok, zt, ⟨a1, a2, fun i hi => by rw [e 25 (by omega)]; exact a3 i hi⟩, ⟨b1, b2', fun i hi => by rw [e 28 (by omega), e 29 (by omega), e 30 (by omega)]; exact b3 i hi⟩, fun j hj => ?_, ⟨d1, d2, fun j hj => by rw [e 13 (by omega)]; exact d3 j hj⟩, h25, ⟨i1, fun r' k' A' m' nt' cr' q => ?_⟩⟩
  · rw [e 5 (by omega), e 6 (by omega), e 7 (by omega), e 8 (by omega), e 9 (by omega), e 10 (by omega), e 11 (by omega)]
    exact p3 k hk
  · rw [va_up_self]
    by_cases q : j = w
    · (rw [q]; (try rw [va_up_self]); (try rw [va_up_self]); rw [h4 w hw])
    · rw [va_up_ne _ _ q, va_up_ne _ _ q]; exact h4 j hj
  · have x := i2 r' k' A' m' nt' cr' q
    rw [e 31 (by omega), e 32 (by omega), e 33 (by omega), e 34 (by omega), e 35 (by omega), e 36 (by omega)]
    exact x
theorem z_rf {w : Nat} {g : Nat → Int} (h : RF c m g r s many P k A mm nt cr n tp fp im) (g2 : g 2 = 0) (hw : w < 3) : RO c m (ob2 (fX13_refuse m (jI (w : Int)) (MS c m g r s t)) fun v h => some (v, h)) (jI (-1)) r many P k A mm nt (va_up cr w (cr w + 1)) n tp fp im := by
  rw [s_refuse h.1 hw, o_ob2]
  exact ⟨_, _, _, rfl, g2, RF_cr h hw⟩
theorem z_rf0 {w : Nat} {g : Nat → Int} (h : RF c m g r s many P k A mm nt cr n tp fp im) (g2 : g 2 = 0) (hw : w < 3) : RO c m (ob2 (fX13_refuse m (jI (w : Int)) (MS c m g r s t)) fun _ h => some ((0 : Int32), h)) (jI 0) r many P k A mm nt (va_up cr w (cr w + 1)) n tp fp im := by
  rw [s_refuse h.1 hw, o_ob2]
  exact ⟨_, _, _, rfl, g2, RF_cr h hw⟩
theorem Zt_up {z : Int} {j : Nat} (h : Zt r) (hj : j < 414) : Zt (va_up r j z) := fun i hi => by rw [va_up_ne _ _ (by omega)]; exact h i hi
theorem z_Lay0 {p v : Int} (h : RF c m f r s many P k A mm nt cr n tp fp im) (p1 : -2147483648 ≤ p) (p2 : p < 2147483648) (v1 : -2147483648 ≤ v) (v2 : v < 2147483648) (hn : ¬ (0 ≤ p ∧ p < 256 ∧ 0 ≤ v ∧ v < 256 ∧ r p.toNat ≠ v)) : RO c m (fX13_lay m (jI p) (jI v) (MS c m f r s t)) (jI (-1)) r many P k A mm nt (va_up cr 1 (cr 1 + 1)) n tp fp im := by
  have hm := h.1
  have hb := h.2.2.1.1
  have fl : RO c m (fX13_lay_39 m (MS c m (va_up f 2 0) r s t)) (jI (-1)) r many P k A mm nt (va_up cr 1 (cr 1 + 1)) n tp fp im := by
    unfold fX13_lay_39
    exact z_rf (w := 1) (RF_2 h) (va_up_self _ _ _) (by omega)
  unfold fX13_lay
  (rw [s_gd _ hm, i0_255 p1 p2, i0_255 v1 v2]; (try rw [show (0 : Int32) = jI 0 from rfl]); rw [s_pI hm, o_ob, o_ob])
  by_cases x : 0 ≤ p ∧ p < 256
  · rw [if_pos x, if_neg (by decide), o_ob]
    by_cases y : 0 ≤ v ∧ v < 256
    · have b := hb p.toNat (by omega)
      have e : r p.toNat = v := Decidable.byContradiction fun z => hn ⟨x.1, x.2, y.1, y.2, z⟩
      (rw [if_pos y, if_neg (by decide)]; (try rw [s_R3 hm]); rw [o_ob, s_a3 hm (by omega) (by omega), o_ob, if_pos (by rw [e])])
      exact fl
    · rw [if_neg y, if_pos (by decide)]; exact fl
  · rw [if_neg x, if_pos (by decide)]; exact fl
theorem z_Lay1 {p v : Int} (h : RF c m f r s many P k A mm nt cr n tp fp im) (p1 : 0 ≤ p) (p2 : p < 256) (v1 : 0 ≤ v) (v2 : v < 256) (hv : r p.toNat ≠ v) : RO c m (fX13_lay m (jI p) (jI v) (MS c m f r s t)) (jI (r p.toNat)) (va_up r p.toNat v) many P (actK k) (actA A k r) mm nt cr n tp fp im := by
  have hm := h.1
  have ok := h.2.2.1
  have zt := h.2.2.2.1
  have b := ok.1 p.toNat (by omega)
  obtain ⟨f1, s1, e1, h1, e2⟩ := s_keep (t := t) (RF_2 (z := 0) h)
  unfold fX13_lay
  (rw [s_gd _ hm, i0_255 (by omega) (by omega), i0_255 (by omega) (by omega)]; (try rw [show (0 : Int32) = jI 0 from rfl]); rw [s_pI hm, o_ob, o_ob, if_pos (show 0 ≤ p ∧ p < 256 from ⟨p1, p2⟩), if_neg (by decide), o_ob, if_pos (show 0 ≤ v ∧ v < 256 from ⟨v1, v2⟩), if_neg (by decide)]; (try rw [s_R3 hm]); rw [o_ob, s_a3 hm (by omega) (by omega), o_ob, if_neg (show ¬ jI (r p.toNat) = jI v by rw [jI_eq (by omega) (by omega) (by omega) (by omega)]; exact hv)]; (try rw [e1]); rw [o_ob]; (try rw [s_R3 hm]); rw [o_ob, s_a3 hm (by omega) (by omega), o_ob]; (try rw [s_R3 hm]); rw [o_ob, s_q3 hm (by omega) (by omega), o_ob])
  have oky := RowOK_by (v := v.toNat) ok (show p.toNat < 256 by omega) (by omega)
  rw [show ((v.toNat : Nat) : Int) = v by omega] at oky
  exact ⟨f1, s1, t, rfl, by rw [e2, va_up_self], RF_row h1 oky (Zt_up zt (by omega))⟩
theorem z_Set0 {p v : Int} (h : RF c m f r s many P k A mm nt cr n tp fp im) (p1 : -2147483648 ≤ p) (p2 : p < 2147483648) (v1 : -2147483648 ≤ v) (v2 : v < 2147483648) (hn : ¬ (0 ≤ p ∧ p < 8 ∧ r (256 + p.toNat) ≠ v)) : RO c m (fX13_set m (jI p) (jI v) (MS c m f r s t)) (jI 0) r many P k A mm nt (va_up cr 1 (cr 1 + 1)) n tp fp im := by
  have hm := h.1
  have fl : RO c m (fX13_set_31 m (MS c m (va_up f 2 0) r s t)) (jI 0) r many P k A mm nt (va_up cr 1 (cr 1 + 1)) n tp fp im := by
    unfold fX13_set_31
    exact z_rf0 (w := 1) (RF_2 h) (va_up_self _ _ _) (by omega)
  unfold fX13_set
  (rw [s_gd _ hm, i0_7 p1 p2]; (try rw [show (0 : Int32) = jI 0 from rfl]); rw [s_pI hm, o_ob, o_ob])
  by_cases x : 0 ≤ p ∧ p < 8
  · have e : r (256 + p.toNat) = v := Decidable.byContradiction fun z => hn ⟨x.1, x.2, z⟩
    (rw [if_pos x, if_neg (by decide)]; (try rw [s_R3 hm]); rw [o_ob]; (try rw [show (256 : Int32) = jI 256 from rfl]); (try rw [jI_add]); rw [s_a3 hm (by omega) (by omega), o_ob]; (try rw [show (256 + p).toNat = 256 + p.toNat by omega]); rw [if_pos (by rw [e])])
    exact fl
  · rw [if_neg x, if_pos (by decide)]; exact fl
theorem z_Set1 {p v : Int} (h : RF c m f r s many P k A mm nt cr n tp fp im) (p1 : 0 ≤ p) (p2 : p < 8) (v1 : -2147483648 ≤ v) (v2 : v < 2147483648) (hv : r (256 + p.toNat) ≠ v) : RO c m (fX13_set m (jI p) (jI v) (MS c m f r s t)) (jI 1) (va_up r (256 + p.toNat) v) many P (actK k) (actA A k r) mm nt cr n tp fp im := by
  have hm := h.1
  have ok := h.2.2.1
  have zt := h.2.2.2.1
  have b := ok.2.1 (256 + p.toNat)
  obtain ⟨f1, s1, e1, h1, e2⟩ := s_keep (t := t) (RF_2 (z := 0) h)
  unfold fX13_set
  (rw [s_gd _ hm, i0_7 (by omega) (by omega)]; (try rw [show (0 : Int32) = jI 0 from rfl]); rw [s_pI hm, o_ob, o_ob, if_pos (show 0 ≤ p ∧ p < 8 from ⟨p1, p2⟩), if_neg (by decide)]; (try rw [s_R3 hm]); rw [o_ob]; (try rw [show (256 : Int32) = jI 256 from rfl]); (try rw [jI_add]); rw [s_a3 hm (by omega) (by omega), o_ob]; (try rw [show (256 + p).toNat = 256 + p.toNat by omega]); rw [if_neg (show ¬ jI (r (256 + p.toNat)) = jI v by rw [jI_eq (by omega) (by omega) (by omega) (by omega)]; exact hv)]; (try rw [e1]); rw [o_ob]; (try rw [s_R3 hm]); rw [o_ob, s_q3 hm (by omega) (by omega), o_ob]; (try rw [show (256 + p).toNat = 256 + p.toNat by omega]))
  exact ⟨f1, s1, t, rfl, by rw [e2, va_up_self], RF_row h1 (RowOK_rg ok (by omega) v1 v2) (Zt_up zt (by omega))⟩
theorem z_Next0 {a : Int} (h : RF c m f r s many P k A mm nt cr n tp fp im) (a1 : -2147483648 ≤ a) (a2 : a < 2147483648) (hn : ¬ (0 ≤ a ∧ a ≤ many)) : RO c m (fX13_next m (jI a) (MS c m f r s t)) (jI (-1)) r many P k A mm nt (va_up cr 1 (cr 1 + 1)) n tp fp im := by
  have hm := h.1
  have e13 := h.2.1.1
  have h60 := h.2.1.2.1
  unfold fX13_next
  (rw [s_gd _ hm]; (try rw [show (0 : Int32) = jI 0 from rfl]); rw [s_pI hm, o_ob]; (try rw [s_gI hm]); rw [o_ob]; (try rw [va_up_ne _ _ (show (13 : Nat) ≠ 2 by omega)]); (try rw [e13]); rw [jI_long (a := (many : Int)) (by omega) (by omega)]; (try rw [show (0 : Int64) = jL 0 from rfl]); rw [w_isInI a1 a2 (by omega) (by omega) (by omega) (by omega), o_ob, if_neg hn, if_pos (by decide)])
  exact z_rf (w := 1) (RF_2 h) (va_up_self _ _ _) (by omega)
theorem z_Next1 {a : Nat} (h : RF c m f r s many P k A mm nt cr n tp fp im) (ha : a ≤ many) : RO c m (fX13_next m (jI (a : Int)) (MS c m f r s t)) (jI (nxR many r a 276)) (nxR many r a) many P (actK k) (actA A k r) mm nt cr n tp fp im := by
  have hm := h.1
  have e13 := h.2.1.1
  have h60 := h.2.1.2.1
  have ok := h.2.2.1
  have zt := h.2.2.2.1
  obtain ⟨f1, s1, e1, h1, e2⟩ := s_keep (t := t) (RF_2 (z := 0) h)
  have f13 := h1.2.1.1
  have okn := RowOK_nx ok ha h60
  have ztn : Zt (nxR many r a) := by unfold nxR; exact Zt_up (Zt_up zt (by omega)) (by omega)
  unfold fX13_next fX13_next_58
  (rw [s_gd _ hm]; (try rw [show (0 : Int32) = jI 0 from rfl]); rw [s_pI hm, o_ob]; (try rw [s_gI hm]); rw [o_ob]; (try rw [va_up_ne _ _ (show (13 : Nat) ≠ 2 by omega)]); (try rw [e13]); rw [jI_long (a := (many : Int)) (by omega) (by omega)]; (try rw [show (0 : Int64) = jL 0 from rfl]); rw [w_isInI (by omega) (by omega) (by omega) (by omega) (by omega) (by omega), o_ob, if_pos (show 0 ≤ (a : Int) ∧ (a : Int) ≤ many by omega), if_neg (by decide)]; (try rw [e1]); rw [o_ob]; (try rw [s_R3 hm]); rw [o_ob]; (try rw [show (265 : Int32) = jI 265 from rfl]); rw [s_q3 hm (by omega) (by omega), o_ob]; (try rw [show (265 : Int).toNat = 265 from rfl]); (try rw [s_R3 hm]); rw [o_ob]; (try rw [s_gI hm]); rw [o_ob]; (try rw [f13]))
  unfold nxR at okn ztn ⊢
  by_cases q : many ≤ a
  · rw [if_pos q] at okn ztn ⊢
    (rw [if_pos (by first | ((simp (disch := omega) only [jI_lit, jI_neg, jI_add, jI_sub, jI_mul, jI_lt, jI_le, jI_eq, jL_lit, jL_lt, jL_le, jL_eq]) <;> omega) | omega)]; (try rw [show (276 : Int32) = jI 276 from rfl]); (try rw [show (1 : Int32) = jI 1 from rfl]); rw [s_q3 hm (by omega) (by omega), o_ob]; (try rw [s_R3 hm]); rw [o_ob, s_a3 hm (by omega) (by omega), o_ob]; (try rw [show (276 : Int).toNat = 276 from rfl]))
    exact ⟨f1, s1, t, rfl, by rw [e2, va_up_self], RF_row h1 okn ztn⟩
  · rw [if_neg q] at okn ztn ⊢
    (rw [if_neg (by first | ((simp (disch := omega) only [jI_lit, jI_neg, jI_add, jI_sub, jI_mul, jI_lt, jI_le, jI_eq, jL_lit, jL_lt, jL_le, jL_eq]) <;> omega) | omega)]; (try rw [show (276 : Int32) = jI 276 from rfl]); rw [s_q3 hm (by omega) (by omega), o_ob]; (try rw [s_R3 hm]); rw [o_ob, s_a3 hm (by omega) (by omega), o_ob]; (try rw [show (276 : Int).toNat = 276 from rfl]))
    exact ⟨f1, s1, t, rfl, by rw [e2, va_up_self], RF_row h1 okn ztn⟩
theorem z_Begin (h : RF c m f r s many P k A mm nt cr n tp fp im) : RO c m (fX13_begin m (MS c m f r s t)) (jI (bgn P many r 276)) (bgn P many r) many P (actK k) (actA A k r) mm nt cr n tp fp im := by
  have hm := h.1
  have h60 := h.2.1.2.1
  have ok := h.2.2.1
  have zt := h.2.2.2.1
  obtain ⟨f1, s1, e1, h1, e2⟩ := s_keep (t := t) (RF_2 (z := 0) h)
  unfold fX13_begin
  (rw [s_gd _ hm]; (try rw [show (0 : Int32) = jI 0 from rfl]); rw [s_pI hm, o_ob]; (try rw [e1]); rw [o_ob, s_beginNow hm h1.2.1, o_ob]; (try rw [s_R3 hm]); rw [o_ob]; (try rw [show (276 : Int32) = jI 276 from rfl]); rw [s_a3 hm (by omega) (by omega), o_ob]; (try rw [show (276 : Int).toNat = 276 from rfl]))
  exact ⟨f1, s1, t, rfl, by rw [e2, va_up_self], RF_row h1 (RowOK_bgn ok h60 (fun j hj => (h.2.1.2.2.2 j hj).2)) (fun j hj => by unfold bgn; rw [if_neg (by omega), if_neg (by omega), if_neg (by omega), if_neg (by omega)]; exact zt j hj)⟩
theorem z_Undo0 (h : RF c m f r s many P k A mm nt cr n tp fp im) (hk : k = 0) : RO c m (fX13_undo m (MS c m f r s t)) (jI (-1)) r many P k A mm nt cr n tp fp im := by
  have hm := h.1
  have e58 := h.2.2.2.2.1.1
  unfold fX13_undo
  (rw [s_gd _ hm]; (try rw [show (0 : Int32) = jI 0 from rfl]); rw [s_pI hm, o_ob]; (try rw [s_gI hm]); rw [o_ob]; (try rw [va_up_ne _ _ (show (58 : Nat) ≠ 2 by omega)]); (try rw [e58]); rw [if_pos (by rw [hk]; rfl)])
  exact ⟨_, s, t, rfl, va_up_self _ _ _, RF_2 h⟩
theorem z_Undo1 (h : RF c m f r s many P k A mm nt cr n tp fp im) (hk : 0 < k) : RO c m (fX13_undo m (MS c m f r s t)) (jI ((k - 1 : Nat) : Int)) (A (k - 1)) many P (k - 1) A mm nt cr n tp fp im := by
  have hm := h.1
  obtain ⟨e58, h40, hA⟩ := h.2.2.2.2.1
  have zt := h.2.2.2.1
  obtain ⟨g, hg⟩ : ∃ g, g = va_up (va_up f 2 0) 58 ((k : Int) - 1) := ⟨_, rfl⟩
  have g58 : g 58 = ((k - 1 : Nat) : Int) := by rw [hg, va_up_self]; omega
  have g2 : g 2 = 0 := by (rw [hg]; (try rw [va_up_ne _ _ (by omega)]); (try rw [va_up_self]))
  have gn : ∀ j, j ≠ 2 → j ≠ 58 → g j = f j := fun j a b => by (rw [hg]; (try rw [va_up_ne _ _ b]); (try rw [va_up_ne _ _ a]))
  obtain ⟨x1, x2, x3⟩ := hA (k - 1) (by omega)
  unfold fX13_undo
  (rw [s_gd _ hm]; (try rw [show (0 : Int32) = jI 0 from rfl]); rw [s_pI hm, o_ob]; (try rw [s_gI hm]); rw [o_ob]; (try rw [va_up_ne _ _ (show (58 : Nat) ≠ 2 by omega)]); (try rw [e58]); rw [if_neg (by first | ((simp (disch := omega) only [jI_lit, jI_neg, jI_add, jI_sub, jI_mul, jI_lt, jI_le, jI_eq, jL_lit, jL_lt, jL_le, jL_eq]) <;> omega) | omega)]; (try rw [s_gI hm]); rw [o_ob]; (try rw [va_up_ne _ _ (show (58 : Nat) ≠ 2 by omega)]); (try rw [e58]); (try rw [show (1 : Int32) = jI 1 from rfl]); (try rw [jI_sub]); rw [s_pI hm, o_ob]; (try rw [← hg]))
  have key := lp_up (z := fun _ _ _ => none) (S := fX13_undo_26) (β := Int32 × Hp) (fun kk (i : Nat) => kk m (jI (i : Int)) (MS c m g (fun y => if y < i then A (k - 1) y else r y) s t)) (E := some (jI ((k - 1 : Nat) : Int), MS c m g (A (k - 1)) s t)) (M := 414) ?_ ?_ FU 0 (by omega) (FU_lt (by omega))
  · rw [show (fun y => if y < 0 then A (k - 1) y else r y) = r from up_0 (A (k - 1)) r] at key
    have key : lp (fun _ _ _ => none) fX13_undo_26 FU m (jI 0) (MS c m g r s t) = _ := key
    rw [key]
    refine ⟨g, s, t, rfl, g2, ?_⟩
    obtain ⟨h1, h2, -, -, ⟨a1, a2, a3⟩, ⟨b1, b2', b3⟩, h7, ⟨d1, d2, d3⟩, h25, ⟨i1, i2⟩⟩ := h
    refine ⟨h1, Pr_sq h2 (gn 13 (by omega) (by omega)) (fun _ _ => rfl), x2, x3, ⟨g58, by omega, fun i hi => a3 i (by omega)⟩, ⟨(gn 59 (by omega) (by omega)).trans b1, b2', b3⟩, h7, ⟨(gn 16 (by omega) (by omega)).trans d1, d2, d3⟩, (gn 25 (by omega) (by omega)).trans h25, ⟨(gn 67 (by omega) (by omega)).trans i1, fun r' k' A' m' nt' cr' q => ?_⟩⟩
    rw [gn 68 (by omega) (by omega), gn 69 (by omega) (by omega)]
    exact i2 r' k' A' m' nt' cr' q
  · intro i hi kk
    have e := up_lt (A (k - 1)) r i
    have ex : s 25 (414 * (k - 1) + i) = A (k - 1) i := x1 i hi
    unfold fX13_undo_26
    (rw [if_neg (by first | ((simp (disch := omega) only [jI_lit, jI_neg, jI_add, jI_sub, jI_mul, jI_lt, jI_le, jI_eq, jL_lit, jL_lt, jL_le, jL_eq]) <;> omega) | omega)]; (try rw [s_R3 hm]); rw [o_ob]; (try rw [s_R60 hm]); rw [o_ob]; (try rw [s_gI hm]); rw [o_ob]; (try rw [g58]); (try rw [show (414 : Int32) = jI 414 from rfl]); (try rw [jI_mul]); (try rw [jI_add]); rw [s_a25 hm (by omega) (by omega), o_ob]; (try rw [show (414 * ((k - 1 : Nat) : Int) + (i : Int)).toNat = 414 * (k - 1) + i by omega]); rw [ex, s_q3 hm (by omega) (by omega), o_ob, o_lt]; (try rw [show ((i : Int)).toNat = i by omega]); (try rw [show (1 : Int32) = jI 1 from rfl]); (try rw [jI_add]); rw [e])
    rfl
  · intro kk
    have e : (fun y => if y < 414 then A (k - 1) y else r y) = A (k - 1) := by
      funext y
      by_cases q : y < 414
      · rw [if_pos q]
      · rw [if_neg q, zt y (by omega), x3 y (by omega)]
    unfold fX13_undo_26
    (rw [if_pos (by first | ((simp (disch := omega) only [jI_lit, jI_neg, jI_add, jI_sub, jI_mul, jI_lt, jI_le, jI_eq, jL_lit, jL_lt, jL_le, jL_eq]) <;> omega) | omega)]; (try rw [s_gI hm]); rw [o_ob]; (try rw [g58]); rw [e])
theorem z_Forget (h : RF c m f r s many P k A mm nt cr n tp fp im) : ∃ f' s' t', fX13_forget m (MS c m f r s t) = some (MS c m f' r s' t') ∧ RF c m f' r s' many P k A 0 nt cr n tp fp im := by
  have hm := h.1
  unfold fX13_forget
  (rw [s_gd _ hm]; (try rw [show (0 : Int32) = jI 0 from rfl]); rw [s_pI hm, o_ob, s_pI hm, o_ob])
  refine ⟨_, s, t, rfl, ?_⟩
  obtain ⟨h1, h2, ok, zt, ⟨a1, a2, a3⟩, ⟨b1, b2', b3⟩, h7, ⟨d1, d2, d3⟩, h25, ⟨i1, i2⟩⟩ := h
  have gn : ∀ j, j ≠ 2 → j ≠ 59 → (va_up (va_up f 2 0) 59 0) j = f j := fun j a b => by rw [va_up_ne _ _ b, va_up_ne _ _ a]
  refine ⟨h1, Pr_sq h2 (gn 13 (by omega) (by omega)) (fun _ _ => rfl), ok, zt, ⟨(gn 58 (by omega) (by omega)).trans a1, a2, a3⟩, ⟨va_up_self _ _ _, ⟨by omega, fun i hi => by omega⟩, fun i hi => by omega⟩, h7, ⟨(gn 16 (by omega) (by omega)).trans d1, d2, d3⟩, (gn 25 (by omega) (by omega)).trans h25, ⟨(gn 67 (by omega) (by omega)).trans i1, fun r' k' A' m' nt' cr' q => ?_⟩⟩
  rw [gn 68 (by omega) (by omega), gn 69 (by omega) (by omega)]
  exact i2 r' k' A' m' nt' cr' q
theorem z_Note0 {a p v : Int} (h : RF c m f r s many P k A mm nt cr n tp fp im) (a1 : -2147483648 ≤ a) (a2 : a < 2147483648) (p1 : -2147483648 ≤ p) (p2 : p < 2147483648) (v1 : -2147483648 ≤ v) (v2 : v < 2147483648) (hn : ¬ (mm < 8 ∧ 0 ≤ a ∧ a ≤ 60 ∧ 0 ≤ p ∧ p < 256 ∧ 0 ≤ v ∧ v < 256)) : RO c m (fX13_note m (jI a) (jI p) (jI v) (MS c m f r s t)) (jI (-1)) r many P k A mm nt (va_up cr 2 (cr 2 + 1)) n tp fp im := by
  have hm := h.1
  obtain ⟨e59, nok, -⟩ := h.2.2.2.2.2.1
  have m8 := nok.1
  have fl : RO c m (fX13_note_50 m (MS c m (va_up f 2 0) r s t)) (jI (-1)) r many P k A mm nt (va_up cr 2 (cr 2 + 1)) n tp fp im := by
    unfold fX13_note_50
    exact z_rf (w := 2) (RF_2 h) (va_up_self _ _ _) (by omega)
  unfold fX13_note
  (rw [s_gd _ hm, i0_60 a1 a2, i0_255 p1 p2, i0_255 v1 v2]; (try rw [show (0 : Int32) = jI 0 from rfl]); rw [s_pI hm, o_ob]; (try rw [s_gI hm]); rw [o_ob]; (try rw [va_up_ne _ _ (show (59 : Nat) ≠ 2 by omega)]); (try rw [e59]))
  by_cases q : mm = 8
  · rw [if_pos (by rw [q]; rfl)]; exact fl
  · rw [if_neg (by first | ((simp (disch := omega) only [jI_lit, jI_neg, jI_add, jI_sub, jI_mul, jI_lt, jI_le, jI_eq, jL_lit, jL_lt, jL_le, jL_eq]) <;> omega) | omega), o_ob]
    by_cases x : 0 ≤ a ∧ a ≤ 60
    · rw [if_pos x, if_neg (by decide), o_ob]
      by_cases y : 0 ≤ p ∧ p < 256
      · rw [if_pos y, if_neg (by decide), o_ob, if_neg (show ¬ (0 ≤ v ∧ v < 256) from fun z => hn ⟨by omega, x.1, x.2, y.1, y.2, z.1, z.2⟩), if_pos (by decide)]
        exact fl
      · rw [if_neg y, if_pos (by decide)]; exact fl
    · rw [if_neg x, if_pos (by decide)]; exact fl
theorem z_Note1 {a p v : Int} (h : RF c m f r s many P k A mm nt cr n tp fp im) (hk : mm < 8) (a1 : 0 ≤ a) (a2 : a ≤ 60) (p1 : 0 ≤ p) (p2 : p < 256) (v1 : 0 ≤ v) (v2 : v < 256) : RO c m (fX13_note m (jI a) (jI p) (jI v) (MS c m f r s t)) (jI ((mm + 1 : Nat) : Int)) r many P k A (mm + 1) (va_up (va_up (va_up nt (3 * mm) a) (3 * mm + 1) p) (3 * mm + 2) v) cr n tp fp im := by
  have hm := h.1
  obtain ⟨e59, nok, hN⟩ := h.2.2.2.2.2.1
  obtain ⟨g, hg⟩ : ∃ g, g = va_up f 2 0 := ⟨_, rfl⟩
  have g59 : g 59 = (mm : Int) := by rw [hg, va_up_ne _ _ (by omega)]; exact e59
  have gn : ∀ j, j ≠ 2 → j ≠ 59 → (va_up g 59 ((mm : Int) + 1)) j = f j := fun j a b => by ((try rw [va_up_ne _ _ b]); rw [hg]; (try rw [va_up_ne _ _ a]))
  unfold fX13_note
  (rw [s_gd _ hm, i0_60 (by omega) (by omega), i0_255 (by omega) (by omega), i0_255 (by omega) (by omega)]; (try rw [show (0 : Int32) = jI 0 from rfl]); rw [s_pI hm, o_ob]; (try rw [← hg]); (try rw [s_gI hm]); rw [o_ob]; (try rw [g59]); rw [if_neg (by first | ((simp (disch := omega) only [jI_lit, jI_neg, jI_add, jI_sub, jI_mul, jI_lt, jI_le, jI_eq, jL_lit, jL_lt, jL_le, jL_eq]) <;> omega) | omega), o_ob, if_pos (show 0 ≤ a ∧ a ≤ 60 from ⟨a1, a2⟩), if_neg (by decide), o_ob, if_pos (show 0 ≤ p ∧ p < 256 from ⟨p1, p2⟩), if_neg (by decide), o_ob, if_pos (show 0 ≤ v ∧ v < 256 from ⟨v1, v2⟩), if_neg (by decide)]; (try rw [s_R63 hm]); rw [o_ob]; (try rw [s_gI hm]); rw [o_ob]; (try rw [g59]); rw [s_q28 hm (by omega) (by omega), o_ob]; (try rw [s_R64 hm]); rw [o_ob]; (try rw [s_gI hm]); rw [o_ob]; (try rw [g59]); rw [s_q29 hm (by omega) (by omega), o_ob]; (try rw [s_R65 hm]); rw [o_ob]; (try rw [s_gI hm]); rw [o_ob]; (try rw [g59]); rw [s_q30 hm (by omega) (by omega), o_ob]; (try rw [s_gI hm]); rw [o_ob]; (try rw [g59]); (try rw [show (1 : Int32) = jI 1 from rfl]); (try rw [jI_add]); rw [s_pI hm, o_ob]; (try rw [s_gI hm]); rw [o_ob]; (try rw [va_up_self]); (try rw [show ((mm : Int)).toNat = mm by omega]))
  obtain ⟨s', hs'⟩ : ∃ s' : SI2, s' = va_up (va_up (va_up s 28 (va_up (s 28) mm a)) 29 (va_up (va_up s 28 (va_up (s 28) mm a) 29) mm p)) 30 (va_up (va_up (va_up s 28 (va_up (s 28) mm a)) 29 (va_up (va_up s 28 (va_up (s 28) mm a) 29) mm p) 30) mm v) := ⟨_, rfl⟩
  have en : ∀ j, j ≠ 28 → j ≠ 29 → j ≠ 30 → s' j = s j := fun j x y z => by (rw [hs']; (try rw [va_up_ne _ _ z]); (try rw [va_up_ne _ _ y]); (try rw [va_up_ne _ _ x]))
  have e28 : s' 28 = va_up (s 28) mm a := by rw [hs']; simp (disch := omega) only [va_up_ne, va_up_self]
  have e29 : s' 29 = va_up (s 29) mm p := by rw [hs']; simp (disch := omega) only [va_up_ne, va_up_self]
  have e30 : s' 30 = va_up (s 30) mm v := by rw [hs']; simp (disch := omega) only [va_up_ne, va_up_self]
  rw [← hs']
  refine ⟨_, s', t, rfl, by ((try rw [va_up_ne _ _ (by omega)]); rw [hg]; (try rw [va_up_self])), ?_⟩
  obtain ⟨h1, ⟨q1, q2, q3, q4⟩, ok, zt, ⟨a1', a2', a3⟩, -, h7, ⟨d1, d2, d3⟩, h25, ⟨i1, i2⟩⟩ := h
  refine ⟨h1, ⟨(gn 13 (by omega) (by omega)).trans q1, q2, fun k hk => ?_, fun j hj => by rw [en 12 (by omega) (by omega) (by omega)]; exact q4 j hj⟩, ok, zt, ⟨(gn 58 (by omega) (by omega)).trans a1', a2', fun i hi => by rw [en 25 (by omega) (by omega) (by omega)]; exact a3 i hi⟩, ⟨by rw [va_up_self]; rfl, ⟨by omega, fun i hi => ?_⟩, fun i hi => ?_⟩, fun j hj => by rw [en 4 (by omega) (by omega) (by omega)]; exact h7 j hj, ⟨(gn 16 (by omega) (by omega)).trans d1, d2, fun j hj => by rw [en 13 (by omega) (by omega) (by omega)]; exact d3 j hj⟩, (gn 25 (by omega) (by omega)).trans h25, ⟨(gn 67 (by omega) (by omega)).trans i1, fun r' k' A' m' nt' cr' q => ?_⟩⟩
  · rw [en 5 (by omega) (by omega) (by omega), en 6 (by omega) (by omega) (by omega), en 7 (by omega) (by omega) (by omega), en 8 (by omega) (by omega) (by omega), en 9 (by omega) (by omega) (by omega), en 10 (by omega) (by omega) (by omega), en 11 (by omega) (by omega) (by omega)]
    exact q3 k hk
  · by_cases q : i = mm
    · subst q
      simp (disch := omega) only [va_up_ne, va_up_self]
      omega
    · have := nok.2 i (by omega)
      simp (disch := omega) only [va_up_ne]
      exact this
  · ((try rw [e28]); (try rw [e29]); (try rw [e30]))
    by_cases q : i = mm
    · subst q
      simp (disch := omega) only [va_up_ne, va_up_self]
      exact ⟨trivial, trivial, trivial⟩
    · have := hN i (by omega)
      simp (disch := omega) only [va_up_ne]
      exact this
  · rw [gn 68 (by omega) (by omega), gn 69 (by omega) (by omega), en 31 (by omega) (by omega) (by omega), en 32 (by omega) (by omega) (by omega), en 33 (by omega) (by omega) (by omega), en 34 (by omega) (by omega) (by omega), en 35 (by omega) (by omega) (by omega), en 36 (by omega) (by omega) (by omega)]
    exact i2 r' k' A' m' nt' cr' q
end RAD
