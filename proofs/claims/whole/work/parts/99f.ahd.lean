section RAH
/-! THE REFERENCE'S LOOK-AHEADS -/
def LA (f : Nat → Int) (s : SI2) (r f' : Nat → Int) (s' : SI2) : Prop := f' 2 = 0 ∧ Kf f f' ∧ Ks s s' ∧ ∀ j, j < 414 → s' 26 j = r j
variable {c : MC} {m : Nat} {f r : Nat → Int} {s t : SI2} {many k mm n : Nat} {P : PG} {A : Nat → Nat → Int} {nt cr tp : Nat → Int} {fp : Int} {im : Option DS}
theorem LA_in : LA f s r (va_up f 2 0) (va_up s 26 (fun x => if x < 414 then r x else s 26 x)) :=
  ⟨va_up_self _ _ _, Kf_2, fun j _ _ a _ => va_up_ne _ _ a, fun j hj => by rw [va_up_self]; exact if_pos hj⟩
theorem LA_sq {f1 f2 : Nat → Int} {s1 s2 : SI2} (h : LA f s r f1 s1) (hf : ∀ j, j < 34 ∨ 51 < j → f2 j = f1 j) (hs : ∀ j, j ≠ 22 → s2 j = s1 j) : LA f s r f2 s2 := by
  obtain ⟨a1, a2, a3, a4⟩ := h
  exact ⟨(hf 2 (by omega)).trans a1, fun j a b d => (hf j (by omega)).trans (a2 j a b d), fun j a b d e => (hs j a).trans (a3 j a b d e), fun j hj => by rw [hs 26 (by omega)]; exact a4 j hj⟩
theorem LA_Pr {f1 : Nat → Int} {s1 : SI2} (h : LA f s r f1 s1) (hp : Pr f s P many) : Pr f1 s1 P many := Pr_k hp h.2.1 h.2.2.1
theorem LA_Rk {α : Type} {f1 : Nat → Int} {s1 t1 : SI2} {v : α} {res : Option (α × Hp)} (h : LA f s r f1 s1) (e : res = some (v, MS c m f1 r s1 t1)) : Rk c m f r s res (.inr v) := Rk_v e h.2.1 h.2.2.1 h.1
theorem LA_bk {f1 u : Nat → Int} {s1 t1 : SI2} {v : Int} (hm : Mo c m) (h : LA f s r f1 s1) (zr : Zt r) (zu : Zt u) : fX13_back m (jI v) (MS c m f1 u s1 t1) = some (jI v, MS c m f1 r s1 t1) := s_back hm h.2.2.2 zr zu
theorem LA_bkR {f1 u : Nat → Int} {s1 t1 : SI2} {v : Int} (hm : Mo c m) (h : LA f s r f1 s1) (zr : Zt r) (zu : Zt u) : Rk c m f r s (ob2 (fX13_back m (jI v) (MS c m f1 u s1 t1)) fun v h => some (v, h)) (.inr (jI v)) := by
  rw [LA_bk hm h zr zu, o_ob2]
  exact LA_Rk h rfl
theorem s_behind {a p : Nat} (h : RF c m f r s many P k A mm nt cr n tp fp im) (h2 : f 2 = 0) (ha : a ≤ 100) (hp : p < 414) : ∃ f' s' t', fX13_behind m (jI (a : Int)) (jI (p : Int)) (MS c m f r s t) = some (jI (stpN P many a r p), MS c m f' r s' t') ∧ LA f s r f' s' := by
  have hm := h.1
  have pr := h.2.1
  have ok := h.2.2.1
  have zt := h.2.2.2.1
  have hpg : ∀ k, k < many → PGk P many k := fun k hk => (pr.2.2.1 k hk).1
  have l0 : LA f s r f (va_up s 26 (fun x => if x < 414 then r x else s 26 x)) := ⟨h2, Kf_rf f, fun j _ _ a _ => va_up_ne _ _ a, fun j hj => by rw [va_up_self]; exact if_pos hj⟩
  obtain ⟨f3, s3, t3, e3, v1, v2⟩ := s_goOn (t := t) (n := a) hm (LA_Pr l0 pr) ok (by omega) (by omega)
  have l3 := LA_sq l0 v1 v2
  have ztN : Zt (stpN P many a r) := Zt_stpN ok hpg pr.2.1 zt (by omega)
  unfold fX13_behind
  (rw [s_gd _ hm, s_remember hm, o_ob]; (try rw [e3]); rw [o_ob]; (try rw [s_R3 hm]); rw [o_ob, s_a3 hm (by omega) (by omega), o_ob]; (try rw [show ((p : Int)).toNat = p by omega]); rw [LA_bk hm l3 zt ztN, o_ob2])
  exact ⟨f3, s3, t3, rfl, l3⟩
theorem z_Bh {a p : Nat} (h : RF c m f r s many P k A mm nt cr n tp fp im) (ha : a ≤ 100) (hp : p < 414) : Rk c m f r s (ob2 (fX13_behind m (jI (a : Int)) (jI (p : Int)) (MS c m (va_up f 2 0) r s t)) fun v h => some (v, h)) (.inr (jI (stpN P many a r p))) := by
  obtain ⟨f', s', t', e, l1, l2, l3, -⟩ := s_behind (t := t) (RF_2 (z := 0) h) (va_up_self _ _ _) ha hp
  rw [e, o_ob2]
  exact Rk_v rfl (Kf_tr Kf_2 l2) l3 l1
theorem z_Then {a p : Int} (h : RF c m f r s many P k A mm nt cr n tp fp im) (a1 : -2147483648 ≤ a) (a2 : a < 2147483648) (p1 : -2147483648 ≤ p) (p2 : p < 2147483648) : Rk c m f r s (fX13_then m (jI a) (jI p) (MS c m f r s t)) (if 0 ≤ p ∧ p < 256 then (if 0 ≤ a ∧ a ≤ 100 then .inr (jI (stpN P many a.toNat r p.toNat)) else .inl 2) else .inl 1) := by
  have hm := h.1
  unfold fX13_then
  (rw [s_gd _ hm, i0_100 a1 a2, i0_255 p1 p2]; (try rw [show (0 : Int32) = jI 0 from rfl]); rw [s_pI hm, o_ob, o_ob])
  by_cases x : 0 ≤ p ∧ p < 256
  · rw [if_pos x, if_pos x, if_neg (by decide), o_ob]
    by_cases y : 0 ≤ a ∧ a ≤ 100
    · rw [if_pos y, if_pos y, if_neg (by decide)]
      obtain ⟨a', rfl⟩ : ∃ a' : Nat, a = a' := ⟨a.toNat, by omega⟩
      obtain ⟨p', rfl⟩ : ∃ p' : Nat, p = p' := ⟨p.toNat, by omega⟩
      exact z_Bh h (by omega) (by omega)
    · rw [if_neg y, if_neg y, if_pos (by decide)]
      exact Rk_fl (k := 2) hm Kf_2 (Ks_rf s)
  · rw [if_neg x, if_neg x, if_pos (by decide)]
    exact Rk_fl (k := 1) hm Kf_2 (Ks_rf s)
theorem z_Holds {a p : Int} (h : RF c m f r s many P k A mm nt cr n tp fp im) (a1 : -2147483648 ≤ a) (a2 : a < 2147483648) (p1 : -2147483648 ≤ p) (p2 : p < 2147483648) : Rk c m f r s (fX13_holds m (jI a) (jI p) (MS c m f r s t)) (if 0 ≤ p ∧ p < 8 then (if 0 ≤ a ∧ a ≤ 100 then .inr (jI (stpN P many a.toNat r (256 + p.toNat))) else .inl 2) else .inl 1) := by
  have hm := h.1
  unfold fX13_holds
  (rw [s_gd _ hm, i0_100 a1 a2, i0_7 p1 p2]; (try rw [show (0 : Int32) = jI 0 from rfl]); rw [s_pI hm, o_ob, o_ob])
  by_cases x : 0 ≤ p ∧ p < 8
  · rw [if_pos x, if_pos x, if_neg (by decide), o_ob]
    by_cases y : 0 ≤ a ∧ a ≤ 100
    · rw [if_pos y, if_pos y, if_neg (by decide)]
      obtain ⟨a', rfl⟩ : ∃ a' : Nat, a = a' := ⟨a.toNat, by omega⟩
      obtain ⟨p', rfl⟩ : ∃ p' : Nat, p = p' := ⟨p.toNat, by omega⟩
      ((try rw [show (256 : Int32) = jI 256 from rfl]); (try rw [jI_add]); (try rw [show (256 + (p' : Int)) = ((256 + p' : Nat) : Int) by omega]); (try rw [show (p' : Int).toNat = p' by omega]))
      exact z_Bh h (by omega) (by omega)
    · rw [if_neg y, if_neg y, if_pos (by decide)]
      exact Rk_fl (k := 2) hm Kf_2 (Ks_rf s)
  · rw [if_neg x, if_neg x, if_pos (by decide)]
    exact Rk_fl (k := 1) hm Kf_2 (Ks_rf s)
theorem z_Where {a p : Int} (h : RF c m f r s many P k A mm nt cr n tp fp im) (a1 : -2147483648 ≤ a) (a2 : a < 2147483648) (p1 : -2147483648 ≤ p) (p2 : p < 2147483648) : Rk c m f r s (fX13_where m (jI a) (jI p) (MS c m f r s t)) (if 0 ≤ p ∧ p ≤ 3 then (if 0 ≤ a ∧ a ≤ 100 then .inr (jI (whr (stpN P many a.toNat r) p)) else .inl 2) else .inl 1) := by
  have hm := h.1
  unfold fX13_where
  (rw [s_gd _ hm, i0_100 a1 a2, i0_3 p1 p2]; (try rw [show (0 : Int32) = jI 0 from rfl]); rw [s_pI hm, o_ob, o_ob])
  by_cases x : 0 ≤ p ∧ p ≤ 3
  · rw [if_pos x, if_pos x, if_neg (by decide), o_ob]
    by_cases y : 0 ≤ a ∧ a ≤ 100
    · rw [if_pos y, if_pos y, if_neg (by decide)]
      obtain ⟨a', rfl⟩ : ∃ a' : Nat, a = a' := ⟨a.toNat, by omega⟩
      rw [show (a' : Int).toNat = a' by omega]
      unfold whr fX13_where_72
      by_cases p0 : p = 0
      · rw [if_pos (by first | ((simp (disch := omega) only [jI_lit, jI_neg, jI_add, jI_sub, jI_mul, jI_lt, jI_le, jI_eq, jL_lit, jL_lt, jL_le, jL_eq]) <;> omega) | omega), if_pos p0]
        exact z_Bh (p := 265) h (by omega) (by omega)
      rw [if_neg (by first | ((simp (disch := omega) only [jI_lit, jI_neg, jI_add, jI_sub, jI_mul, jI_lt, jI_le, jI_eq, jL_lit, jL_lt, jL_le, jL_eq]) <;> omega) | omega), if_neg p0]
      by_cases p1 : p = 1
      · rw [if_pos (by first | ((simp (disch := omega) only [jI_lit, jI_neg, jI_add, jI_sub, jI_mul, jI_lt, jI_le, jI_eq, jL_lit, jL_lt, jL_le, jL_eq]) <;> omega) | omega), if_pos p1]
        exact z_Bh (p := 264) h (by omega) (by omega)
      rw [if_neg (by first | ((simp (disch := omega) only [jI_lit, jI_neg, jI_add, jI_sub, jI_mul, jI_lt, jI_le, jI_eq, jL_lit, jL_lt, jL_le, jL_eq]) <;> omega) | omega), if_neg p1]
      by_cases p2 : p = 2
      · rw [if_pos (by first | ((simp (disch := omega) only [jI_lit, jI_neg, jI_add, jI_sub, jI_mul, jI_lt, jI_le, jI_eq, jL_lit, jL_lt, jL_le, jL_eq]) <;> omega) | omega), if_pos p2]
        exact z_Bh (p := 276) h (by omega) (by omega)
      rw [if_neg (by first | ((simp (disch := omega) only [jI_lit, jI_neg, jI_add, jI_sub, jI_mul, jI_lt, jI_le, jI_eq, jL_lit, jL_lt, jL_le, jL_eq]) <;> omega) | omega), if_neg p2]
      exact z_Bh (p := 278) h (by omega) (by omega)
    · rw [if_neg y, if_neg y, if_pos (by decide)]
      exact Rk_fl (k := 2) hm Kf_2 (Ks_rf s)
  · rw [if_neg x, if_neg x, if_pos (by decide)]
    exact Rk_fl (k := 1) hm Kf_2 (Ks_rf s)
/-- a look-ahead, step by step -/
def LI (c : MC) (m : Nat) (f : Nat → Int) (s : SI2) (r : Nat → Int) (P : PG) (many i : Nat) (x : (Nat → Int) × SI2 × SI2) : Prop :=
  LA f s r x.1 x.2.1 ∧ RowOK many (20000 + i) (stpN P many i r) ∧ Zt (stpN P many i r)
theorem LI_0 (h : RF c m f r s many P k A mm nt cr n tp fp im) : LI c m f s r P many 0 (va_up f 2 0, va_up s 26 (fun x => if x < 414 then r x else s 26 x), t) := ⟨LA_in, by exact h.2.2.1, h.2.2.2.1⟩
theorem LI_s {i : Nat} {x : (Nat → Int) × SI2 × SI2} (h : RF c m f r s many P k A mm nt cr n tp fp im) (hx : LI c m f s r P many i x) (hi : i < 1000) : ∃ y, LI c m f s r P many (i + 1) y ∧ fX13_aStep m (MS c m x.1 (stpN P many i r) x.2.1 x.2.2) = some (MS c m y.1 (stpN P many (i + 1) r) y.2.1 y.2.2) := by
  obtain ⟨l, ok, zt⟩ := hx
  have pr := h.2.1
  have hpg : ∀ k, k < many → PGk P many k := fun k hk => (pr.2.2.1 k hk).1
  obtain ⟨f2, s2, t2, b1, b2', b3⟩ := s_aStep (t := x.2.2) h.1 (LA_Pr l pr) ok (by omega)
  have o2 := stp_ok ok hpg pr.2.1 (by omega)
  refine ⟨(f2, s2, t2), ⟨LA_sq l b2' b3, ?_, ?_⟩, b1⟩
  · rw [show (20000 : Int) + ((i + 1 : Nat) : Int) = 20000 + (i : Int) + 1 by omega]
    exact o2
  · intro j hj
    show stp P many (stpN P many i r) j = 0
    rw [stp_hi ok hpg pr.2.1 hj]
    exact zt j hj
theorem z_Halts (h : RF c m f r s many P k A mm nt cr n tp fp im) : Rk c m f r s (fX13_halts m (MS c m f r s t)) (.inr (jI (fnd (qRst P many r) 0 101))) := by
  have hm := h.1
  have zt := h.2.2.2.1
  unfold fX13_halts
  (rw [s_gd _ hm]; (try rw [show (0 : Int32) = jI 0 from rfl]); rw [s_pI hm, o_ob, s_remember hm, o_ob])
  have key := lp_sr (z := fun _ _ _ => none) (S := fX13_halts_11) (β := Int32 × Hp) (ev := fun k (i : Nat) (x : (Nat → Int) × SI2 × SI2) => k m (jI (i : Int)) (MS c m x.1 (stpN P many i r) x.2.1 x.2.2)) (hi := 101) (Inv := fun i x => LI c m f s r P many i x ∧ ∀ j, j < i → qRst P many r j = false) (Post := fun q => Rk c m f r s q (.inr (jI (fnd (qRst P many r) 0 101)))) ?_ ?_ FU 0 (_, _, t) (by omega) (FU_lt (by omega)) ⟨LI_0 h, fun j hj => by omega⟩
  · exact key
  · intro i x hi ⟨hx, h0⟩ kk
    have b := hx.2.1.2.2.2.2.2.2.2.1
    show Rk c m f r s (fX13_halts_11 kk m (jI (i : Int)) (MS c m x.1 (stpN P many i r) x.2.1 x.2.2)) _ ∨ ∃ y : (Nat → Int) × SI2 × SI2, _ ∧ fX13_halts_11 kk m (jI (i : Int)) (MS c m x.1 (stpN P many i r) x.2.1 x.2.2) = kk m (jI ((i + 1 : Nat) : Int)) (MS c m y.1 (stpN P many (i + 1) r) y.2.1 y.2.2)
    unfold fX13_halts_11
    (rw [if_neg (by first | ((simp (disch := omega) only [jI_lit, jI_neg, jI_add, jI_sub, jI_mul, jI_lt, jI_le, jI_eq, jL_lit, jL_lt, jL_le, jL_eq]) <;> omega) | omega)]; (try rw [s_R3 hm]); rw [o_ob]; (try rw [show (276 : Int32) = jI 276 from rfl]); rw [s_a3 hm (by omega) (by omega), o_ob]; (try rw [show (276 : Int).toNat = 276 from rfl]))
    by_cases q : stpN P many i r 276 = 0
    · right
      obtain ⟨y, hy, e⟩ := LI_s h hx (by omega)
      refine ⟨y, ⟨hy, fun j hj => ?_⟩, ?_⟩
      · by_cases d : j = i
        · rw [d]; unfold qRst; rw [q]; rfl
        · exact h0 j (by omega)
      · (rw [if_pos (by rw [q]; rfl), e, o_ob, o_lt]; (try rw [show (1 : Int32) = jI 1 from rfl]); (try rw [jI_add]))
        rfl
    · left
      have e : fnd (qRst P many r) 0 101 = (i : Int) := fnd_is (by omega) (by omega) (by unfold qRst; simpa using q) (fun j _ hj => h0 j hj)
      rw [if_neg (show ¬ jI (stpN P many i r 276) = 0 by rw [show (0 : Int32) = jI 0 from rfl, jI_eq (by omega) (by omega) (by omega) (by omega)]; exact q), e]
      exact LA_bkR hm hx.1 zt hx.2.2
  · intro x ⟨hx, h0⟩ kk
    have e : fnd (qRst P many r) 0 101 = -1 := fnd_no (fun j _ hj => h0 j (by omega))
    show Rk c m f r s (fX13_halts_11 kk m (jI ((101 : Nat) : Int)) (MS c m x.1 (stpN P many 101 r) x.2.1 x.2.2)) _
    unfold fX13_halts_11
    rw [if_pos (by first | ((simp (disch := omega) only [jI_lit, jI_neg, jI_add, jI_sub, jI_mul, jI_lt, jI_le, jI_eq, jL_lit, jL_lt, jL_le, jL_eq]) <;> omega) | omega), e]
    exact LA_bkR (v := -1) hm hx.1 zt hx.2.2
theorem z_Faults {a : Int} (h : RF c m f r s many P k A mm nt cr n tp fp im) (a1 : -2147483648 ≤ a) (a2 : a < 2147483648) : Rk c m f r s (fX13_faults m (jI a) (MS c m f r s t)) (if 1 ≤ a ∧ a < 9 then .inr (jI (up1 (fnd (qFlt P many r a) 0 100))) else .inl 1) := by
  have hm := h.1
  have zt := h.2.2.2.1
  have pr := h.2.1
  have hpg : ∀ k, k < many → PGk P many k := fun k hk => (pr.2.2.1 k hk).1
  unfold fX13_faults
  (rw [s_gd _ hm, i1_8 a1 a2]; (try rw [show (0 : Int32) = jI 0 from rfl]); rw [s_pI hm, o_ob, o_ob])
  by_cases ca : 1 ≤ a ∧ a < 9
  rotate_left
  · rw [if_neg ca, if_neg ca, if_pos (by decide)]
    exact Rk_fl (k := 1) hm Kf_2 (Ks_rf s)
  rw [if_pos ca, if_pos ca, if_neg (by decide), s_remember hm, o_ob]
  have key := lp_sr (z := fun _ _ _ _ => none) (S := fX13_faults_29) (β := Int32 × Hp) (ev := fun k (i : Nat) (x : (Nat → Int) × SI2 × SI2) => k m (jI a) (jI ((1 + i : Nat) : Int)) (MS c m x.1 (stpN P many i r) x.2.1 x.2.2)) (hi := 100) (Inv := fun i x => LI c m f s r P many i x ∧ ∀ j, j < i → qFlt P many r a j = false) (Post := fun q => Rk c m f r s q (.inr (jI (up1 (fnd (qFlt P many r a) 0 100))))) ?_ ?_ FU 0 (_, _, t) (by omega) (FU_lt (by omega)) ⟨LI_0 h, fun j hj => by omega⟩
  · exact key
  · intro i x hi ⟨hx, h0⟩ kk
    obtain ⟨y, hy, e⟩ := LI_s h hx (by omega)
    have ok1 := hx.2.1
    have ok2 := hy.2.1
    have b1 := ok1.2.1 278
    have b2' := ok2.2.1 278
    have b3 := ok2.2.1 280
    have g1 := stpN P many i r 278
    have su : stpN P many (i + 1) r = stp P many (stpN P many i r) := rfl
    show Rk c m f r s (fX13_faults_29 kk m (jI a) (jI ((1 + i : Nat) : Int)) (MS c m x.1 (stpN P many i r) x.2.1 x.2.2)) _ ∨ ∃ y : (Nat → Int) × SI2 × SI2, _ ∧ fX13_faults_29 kk m (jI a) (jI ((1 + i : Nat) : Int)) (MS c m x.1 (stpN P many i r) x.2.1 x.2.2) = kk m (jI a) (jI ((1 + (i + 1) : Nat) : Int)) (MS c m y.1 (stpN P many (i + 1) r) y.2.1 y.2.2)
    have no : ∀ res, qFlt P many r a i = false → res = kk m (jI a) (jI ((1 + (i + 1) : Nat) : Int)) (MS c m y.1 (stpN P many (i + 1) r) y.2.1 y.2.2) → Rk c m f r s res (.inr (jI (up1 (fnd (qFlt P many r a) 0 100)))) ∨ ∃ y : (Nat → Int) × SI2 × SI2, (LI c m f s r P many (i + 1) y ∧ ∀ j, j < i + 1 → qFlt P many r a j = false) ∧ res = kk m (jI a) (jI ((1 + (i + 1) : Nat) : Int)) (MS c m y.1 (stpN P many (i + 1) r) y.2.1 y.2.2) := fun res q0 er => Or.inr ⟨y, ⟨hy, fun j hj => by
      by_cases d : j = i
      · rw [d]; exact q0
      · exact h0 j (by omega)⟩, er⟩
    unfold fX13_faults_29
    (rw [if_neg (by first | ((simp (disch := omega) only [jI_lit, jI_neg, jI_add, jI_sub, jI_mul, jI_lt, jI_le, jI_eq, jL_lit, jL_lt, jL_le, jL_eq]) <;> omega) | omega)]; (try rw [s_R3 hm]); rw [o_ob]; (try rw [show (278 : Int32) = jI 278 from rfl]); rw [s_a3 hm (by omega) (by omega), o_ob]; (try rw [show (278 : Int).toNat = 278 from rfl]); rw [e, o_ob]; (try rw [s_R3 hm]); rw [o_ob, s_a3 hm (by omega) (by omega), o_ob]; (try rw [show (278 : Int).toNat = 278 from rfl]))
    by_cases q : stpN P many i r 276 = 0
    · have e8 := stp_278 ok1 hpg q
      rw [← su] at e8
      by_cases kz : knd P (stpN P many i r) = 0
      · rw [if_pos kz] at e8
        (rw [if_pos (show jI (stpN P many (i + 1) r 278) ≤ jI (stpN P many i r 278) by rw [jI_le (by omega) (by omega) (by omega) (by omega)]; omega), o_lt]; (try rw [show (1 : Int32) = jI 1 from rfl]); (try rw [jI_add]))
        refine no _ ?_ ?_
        · unfold qFlt; rw [q, kz]; simp; omega
        · rw [show ((1 + i : Nat) : Int) + 1 = ((1 + (i + 1) : Nat) : Int) by omega]
      · rw [if_neg kz] at e8
        have e9 := stp_280 ok1 hpg q kz
        rw [← su] at e9
        (rw [if_neg (show ¬ jI (stpN P many (i + 1) r 278) ≤ jI (stpN P many i r 278) by rw [jI_le (by omega) (by omega) (by omega) (by omega)]; omega)]; (try rw [s_R3 hm]); rw [o_ob]; (try rw [show (280 : Int32) = jI 280 from rfl]); rw [s_a3 hm (by omega) (by omega), o_ob]; (try rw [show (280 : Int).toNat = 280 from rfl]))
        by_cases ka : knd P (stpN P many i r) = a
        · left
          have ef : fnd (qFlt P many r a) 0 100 = (i : Int) := fnd_is (by omega) (by omega) (by unfold qFlt; rw [q, ka]; simp) (fun j _ hj => h0 j hj)
          rw [if_pos (show jI (stpN P many (i + 1) r 280) = jI a by rw [e9, ka]), ef, up1_k]
          exact LA_bkR hm hy.1 zt hy.2.2
        · (rw [if_neg (show ¬ jI (stpN P many (i + 1) r 280) = jI a by rw [jI_eq (by omega) (by omega) (by omega) (by omega), e9]; exact ka), o_lt]; (try rw [show (1 : Int32) = jI 1 from rfl]); (try rw [jI_add]))
          refine no _ ?_ ?_
          · unfold qFlt; rw [q]; simpa using ka
          · rw [show ((1 + i : Nat) : Int) + 1 = ((1 + (i + 1) : Nat) : Int) by omega]
    · have es : stpN P many (i + 1) r = stpN P many i r := by rw [su, stp_st q]
      (rw [if_pos (show jI (stpN P many (i + 1) r 278) ≤ jI (stpN P many i r 278) by rw [es]; exact Int32.le_refl _), o_lt]; (try rw [show (1 : Int32) = jI 1 from rfl]); (try rw [jI_add]))
      refine no _ ?_ ?_
      · unfold qFlt; simp; intro z; exact absurd z q
      · rw [show ((1 + i : Nat) : Int) + 1 = ((1 + (i + 1) : Nat) : Int) by omega]
  · intro x ⟨hx, h0⟩ kk
    have e : fnd (qFlt P many r a) 0 100 = -1 := fnd_no (fun j _ hj => h0 j (by omega))
    show Rk c m f r s (fX13_faults_29 kk m (jI a) (jI ((1 + 100 : Nat) : Int)) (MS c m x.1 (stpN P many 100 r) x.2.1 x.2.2)) _
    unfold fX13_faults_29
    rw [if_pos (by first | ((simp (disch := omega) only [jI_lit, jI_neg, jI_add, jI_sub, jI_mul, jI_lt, jI_le, jI_eq, jL_lit, jL_lt, jL_le, jL_eq]) <;> omega) | omega), e, up1_n]
    exact LA_bkR (v := -1) hm hx.1 zt hx.2.2
theorem z_Changes {a : Int} (h : RF c m f r s many P k A mm nt cr n tp fp im) (a1 : -2147483648 ≤ a) (a2 : a < 2147483648) : Rk c m f r s (fX13_changes m (jI a) (MS c m f r s t)) (if 0 ≤ a ∧ a < 256 then .inr (jI (up1 (fnd (qChg P many r a.toNat) 0 100))) else .inl 1) := by
  have hm := h.1
  have zt := h.2.2.2.1
  have b0 := h.2.2.1.2.1
  unfold fX13_changes
  (rw [s_gd _ hm, i0_255 a1 a2]; (try rw [show (0 : Int32) = jI 0 from rfl]); rw [s_pI hm, o_ob, o_ob])
  by_cases ca : 0 ≤ a ∧ a < 256
  rotate_left
  · rw [if_neg ca, if_neg ca, if_pos (by decide)]
    exact Rk_fl (k := 1) hm Kf_2 (Ks_rf s)
  rw [if_pos ca, if_pos ca, if_neg (by decide), s_remember hm, o_ob]
  have key := lp_sr (z := fun _ _ _ _ => none) (S := fX13_changes_29) (β := Int32 × Hp) (ev := fun k (i : Nat) (x : (Nat → Int) × SI2 × SI2) => k m (jI a) (jI ((1 + i : Nat) : Int)) (MS c m x.1 (stpN P many i r) x.2.1 x.2.2)) (hi := 100) (Inv := fun i x => LI c m f s r P many i x ∧ ∀ j, j < i → qChg P many r a.toNat j = false) (Post := fun q => Rk c m f r s q (.inr (jI (up1 (fnd (qChg P many r a.toNat) 0 100))))) ?_ ?_ FU 0 (_, _, t) (by omega) (FU_lt (by omega)) ⟨LI_0 h, fun j hj => by omega⟩
  · exact key
  · intro i x hi ⟨hx, h0⟩ kk
    obtain ⟨y, hy, e⟩ := LI_s h hx (by omega)
    have b1 := b0 a.toNat
    have b2' := hy.2.1.2.1 a.toNat
    show Rk c m f r s (fX13_changes_29 kk m (jI a) (jI ((1 + i : Nat) : Int)) (MS c m x.1 (stpN P many i r) x.2.1 x.2.2)) _ ∨ ∃ y : (Nat → Int) × SI2 × SI2, _ ∧ fX13_changes_29 kk m (jI a) (jI ((1 + i : Nat) : Int)) (MS c m x.1 (stpN P many i r) x.2.1 x.2.2) = kk m (jI a) (jI ((1 + (i + 1) : Nat) : Int)) (MS c m y.1 (stpN P many (i + 1) r) y.2.1 y.2.2)
    unfold fX13_changes_29
    (rw [if_neg (by first | ((simp (disch := omega) only [jI_lit, jI_neg, jI_add, jI_sub, jI_mul, jI_lt, jI_le, jI_eq, jL_lit, jL_lt, jL_le, jL_eq]) <;> omega) | omega), e, o_ob]; (try rw [s_R3 hm]); rw [o_ob, s_a3 hm (by omega) (by omega), o_ob]; (try rw [s_R61 hm]); rw [o_ob, s_a26 hm (by omega) (by omega), o_ob, hy.1.2.2.2 a.toNat (by omega)])
    by_cases q : stpN P many (i + 1) r a.toNat = r a.toNat
    · right
      refine ⟨y, ⟨hy, fun j hj => ?_⟩, ?_⟩
      · by_cases d : j = i
        · rw [d]; unfold qChg; rw [q]; simp
        · exact h0 j (by omega)
      · (rw [if_pos (by rw [q]), o_lt]; (try rw [show (1 : Int32) = jI 1 from rfl]); (try rw [jI_add]); (try rw [show ((1 + i : Nat) : Int) + 1 = ((1 + (i + 1) : Nat) : Int) by omega]))
    · left
      have e : fnd (qChg P many r a.toNat) 0 100 = (i : Int) := fnd_is (by omega) (by omega) (by unfold qChg; simpa using q) (fun j _ hj => h0 j hj)
      rw [if_neg (show ¬ jI (stpN P many (i + 1) r a.toNat) = jI (r a.toNat) by rw [jI_eq (by omega) (by omega) (by omega) (by omega)]; exact q), e, up1_k]
      exact LA_bkR hm hy.1 zt hy.2.2
  · intro x ⟨hx, h0⟩ kk
    have e : fnd (qChg P many r a.toNat) 0 100 = -1 := fnd_no (fun j _ hj => h0 j (by omega))
    show Rk c m f r s (fX13_changes_29 kk m (jI a) (jI ((1 + 100 : Nat) : Int)) (MS c m x.1 (stpN P many 100 r) x.2.1 x.2.2)) _
    unfold fX13_changes_29
    rw [if_pos (by first | ((simp (disch := omega) only [jI_lit, jI_neg, jI_add, jI_sub, jI_mul, jI_lt, jI_le, jI_eq, jL_lit, jL_lt, jL_le, jL_eq]) <;> omega) | omega), e, up1_n]
    exact LA_bkR (v := -1) hm hx.1 zt hx.2.2
/-- whether the row is like an array, one place aside -/
theorem s_alike {a : Nat} {q : Nat → Int} {x : Int} (hm : Mo c m) (ha : ∀ z : Int, 0 ≤ z → z < 414 → aI a (jI z) (MS c m f r s t) = some (jI (q z.toNat))) (hq : Rng q) (hr : Rng r) (x1 : -2147483648 ≤ x) (x2 : x < 2147483648) : fX13_isAlike m a (jI x) (MS c m f r s t) = some (jI (b2 (allb (fun j => (j : Int) == x || q j == r j) 277))) := by
  unfold fX13_isAlike
  rw [s_gd _ hm]
  have key := lp_sr (z := fun _ _ _ _ => none) (S := fX13_isAlike_2 (MS c m f r s t)) (β := Int32) (ev := fun k (i : Nat) (_ : Unit) => k m a (jI x) (jI (i : Int))) (hi := 277) (Inv := fun i _ => ∀ j, j < i → ((j : Int) == x || q j == r j) = true) (Post := fun o => o = some (jI (b2 (allb (fun j => (j : Int) == x || q j == r j) 277)))) ?_ ?_ FU 0 () (by omega) (FU_lt (by omega)) (fun j hj => by omega)
  · exact key
  · intro i _ hi h0 kk
    have nx : ∀ res, ((i : Int) == x || q i == r i) = true → res = kk m a (jI x) (jI ((i + 1 : Nat) : Int)) → res = some (jI (b2 (allb (fun j => (j : Int) == x || q j == r j) 277))) ∨ ∃ _ : Unit, (∀ j, j < i + 1 → ((j : Int) == x || q j == r j) = true) ∧ res = kk m a (jI x) (jI ((i + 1 : Nat) : Int)) := fun res q0 er => Or.inr ⟨(), fun j hj => by
      by_cases d : j = i
      · rw [d]; exact q0
      · exact h0 j (by omega), er⟩
    have bq := hq i
    have br := hr i
    show fX13_isAlike_2 (MS c m f r s t) kk m a (jI x) (jI (i : Int)) = _ ∨ ∃ _ : Unit, _ ∧ fX13_isAlike_2 (MS c m f r s t) kk m a (jI x) (jI (i : Int)) = kk m a (jI x) (jI ((i + 1 : Nat) : Int))
    unfold fX13_isAlike_2
    rw [if_neg (by first | ((simp (disch := omega) only [jI_lit, jI_neg, jI_add, jI_sub, jI_mul, jI_lt, jI_le, jI_eq, jL_lit, jL_lt, jL_le, jL_eq]) <;> omega) | omega)]
    by_cases cx : (i : Int) = x
    · (rw [if_pos (by first | ((simp (disch := omega) only [jI_lit, jI_neg, jI_add, jI_sub, jI_mul, jI_lt, jI_le, jI_eq, jL_lit, jL_lt, jL_le, jL_eq]) <;> omega) | omega), o_lt]; (try rw [show (1 : Int32) = jI 1 from rfl]); (try rw [jI_add]))
      refine nx _ ?_ rfl
      rw [cx]; simp
    · (rw [if_neg (by first | ((simp (disch := omega) only [jI_lit, jI_neg, jI_add, jI_sub, jI_mul, jI_lt, jI_le, jI_eq, jL_lit, jL_lt, jL_le, jL_eq]) <;> omega) | omega), ha _ (by omega) (by omega), o_ob]; (try rw [s_R3 hm]); rw [o_ob, s_a3 hm (by omega) (by omega), o_ob]; (try rw [show ((i : Int)).toNat = i by omega]))
      by_cases cq : q i = r i
      · (rw [if_pos (by rw [cq]), o_lt]; (try rw [show (1 : Int32) = jI 1 from rfl]); (try rw [jI_add]))
        refine nx _ ?_ rfl
        rw [cq]; simp
      · left
        rw [if_neg (show ¬ jI (q i) = jI (r i) by rw [jI_eq (by omega) (by omega) (by omega) (by omega)]; exact cq)]
        have : allb (fun j => (j : Int) == x || q j == r j) 277 = false := by
          cases e : allb (fun j => (j : Int) == x || q j == r j) 277 with
          | false => rfl
          | true =>
            have := (allb_iff _ _).1 e i hi
            simp at this
            omega
        rw [this]; rfl
  · intro _ h0 kk
    show fX13_isAlike_2 (MS c m f r s t) kk m a (jI x) (jI ((277 : Nat) : Int)) = _
    unfold fX13_isAlike_2
    rw [if_pos (by first | ((simp (disch := omega) only [jI_lit, jI_neg, jI_add, jI_sub, jI_mul, jI_lt, jI_le, jI_eq, jL_lit, jL_lt, jL_le, jL_eq]) <;> omega) | omega), (allb_iff _ _).2 (fun i hi => h0 i hi)]
    rfl
theorem allb_cg {p q : Nat → Bool} {n : Nat} (h : ∀ i, i < n → p i = q i) : allb p n = allb q n := by
  cases e : allb q n with
  | true => exact (allb_iff _ _).2 (fun i hi => by rw [h i hi]; exact (allb_iff _ _).1 e i hi)
  | false =>
    cases e2 : allb p n with
    | false => rfl
    | true =>
      have := (allb_iff q n).2 (fun i hi => by rw [← h i hi]; exact (allb_iff _ _).1 e2 i hi)
      rw [e] at this
      exact absurd this (by decide)
theorem z_Round (h : RF c m f r s many P k A mm nt cr n tp fp im) : Rk c m f r s (fX13_round m (MS c m f r s t)) (.inr (jI (up1 (fnd (qRet P many r) 0 100)))) := by
  have hm := h.1
  have zt := h.2.2.2.1
  have b0 := h.2.2.1.2.1
  unfold fX13_round
  (rw [s_gd _ hm]; (try rw [show (0 : Int32) = jI 0 from rfl]); rw [s_pI hm, o_ob, s_remember hm, o_ob])
  have key := lp_sr (z := fun _ _ _ => none) (S := fX13_round_11) (β := Int32 × Hp) (ev := fun k (i : Nat) (x : (Nat → Int) × SI2 × SI2) => k m (jI ((1 + i : Nat) : Int)) (MS c m x.1 (stpN P many i r) x.2.1 x.2.2)) (hi := 100) (Inv := fun i x => LI c m f s r P many i x ∧ ∀ j, j < i → qRet P many r j = false) (Post := fun q => Rk c m f r s q (.inr (jI (up1 (fnd (qRet P many r) 0 100))))) ?_ ?_ FU 0 (_, _, t) (by omega) (FU_lt (by omega)) ⟨LI_0 h, fun j hj => by omega⟩
  · exact key
  · intro i x hi ⟨hx, h0⟩ kk
    obtain ⟨y, hy, e⟩ := LI_s h hx (by omega)
    have al : fX13_isAlike m (m + 26) (jI (-1)) (MS c m y.1 (stpN P many (i + 1) r) y.2.1 y.2.2) = some (jI (b2 (qRet P many r i))) := by
      rw [s_alike (q := fun j => if j < 414 then r j else 0) hm (fun z z1 z2 => by rw [s_a26 hm z1 z2, hy.1.2.2.2 _ (by omega), if_pos (show z.toNat < 414 by omega)]) (fun j => by show -2147483648 ≤ (if j < 414 then r j else 0) ∧ (if j < 414 then r j else 0) < 2147483648; have := b0 j; split <;> omega) hy.2.1.2.1 (by omega) (by omega)]
      unfold qRet cor
      rw [allb_cg (q := fun i_1 => stpN P many (i + 1) r i_1 == r i_1) (fun j hj => by
        rw [if_pos (show j < 414 by omega)]
        have e1 : ((j : Int) == -1) = false := by simp
        rw [e1, Bool.false_or]
        exact Bool.beq_comm)]
    show Rk c m f r s (fX13_round_11 kk m (jI ((1 + i : Nat) : Int)) (MS c m x.1 (stpN P many i r) x.2.1 x.2.2)) _ ∨ ∃ y : (Nat → Int) × SI2 × SI2, _ ∧ fX13_round_11 kk m (jI ((1 + i : Nat) : Int)) (MS c m x.1 (stpN P many i r) x.2.1 x.2.2) = kk m (jI ((1 + (i + 1) : Nat) : Int)) (MS c m y.1 (stpN P many (i + 1) r) y.2.1 y.2.2)
    unfold fX13_round_11
    (rw [if_neg (by first | ((simp (disch := omega) only [jI_lit, jI_neg, jI_add, jI_sub, jI_mul, jI_lt, jI_le, jI_eq, jL_lit, jL_lt, jL_le, jL_eq]) <;> omega) | omega), e, o_ob]; (try rw [s_R61 hm]); rw [o_ob]; (try rw [show (-1 : Int32) = jI (-1) from rfl]); rw [al, o_ob])
    cases q : qRet P many r i with
    | false =>
      right
      refine ⟨y, ⟨hy, fun j hj => ?_⟩, ?_⟩
      · by_cases d : j = i
        · rw [d]; exact q
        · exact h0 j (by omega)
      · (rw [if_pos (by rfl), o_lt]; (try rw [show (1 : Int32) = jI 1 from rfl]); (try rw [jI_add]); (try rw [show ((1 + i : Nat) : Int) + 1 = ((1 + (i + 1) : Nat) : Int) by omega]))
    | true =>
      left
      have e : fnd (qRet P many r) 0 100 = (i : Int) := fnd_is (by omega) (by omega) q (fun j _ hj => h0 j hj)
      rw [if_neg (by decide), e, up1_k]
      exact LA_bkR hm hy.1 zt hy.2.2
  · intro x ⟨hx, h0⟩ kk
    have e : fnd (qRet P many r) 0 100 = -1 := fnd_no (fun j _ hj => h0 j (by omega))
    show Rk c m f r s (fX13_round_11 kk m (jI ((1 + 100 : Nat) : Int)) (MS c m x.1 (stpN P many 100 r) x.2.1 x.2.2)) _
    unfold fX13_round_11
    rw [if_pos (by first | ((simp (disch := omega) only [jI_lit, jI_neg, jI_add, jI_sub, jI_mul, jI_lt, jI_le, jI_eq, jL_lit, jL_lt, jL_le, jL_eq]) <;> omega) | omega), e, up1_n]
    exact LA_bkR (v := -1) hm hx.1 zt hx.2.2
end RAH
