section RFA
/-! WHAT THE REFERENCE HOLDS, as the class does; what its calls answer -/
def Zt (r : Nat → Int) : Prop := ∀ j, 414 ≤ j → r j = 0
def RA (f : Nat → Int) (s : SI2) (many k : Nat) (A : Nat → Nat → Int) : Prop := f 58 = (k : Int) ∧ k ≤ 40 ∧ ∀ i, i < k → (∀ j, j < 414 → s 25 (414 * i + j) = A i j) ∧ RowOK many 20000 (A i) ∧ Zt (A i)
def RN (f : Nat → Int) (s : SI2) (mm : Nat) (nt : Nat → Int) : Prop := f 59 = (mm : Int) ∧ NtOK nt mm ∧ ∀ i, i < mm → s 28 i = nt (3 * i) ∧ s 29 i = nt (3 * i + 1) ∧ s 30 i = nt (3 * i + 2)
def RI (f : Nat → Int) (s : SI2) (many : Nat) (im : Option DS) : Prop := f 67 = (if im = none then 0 else 1) ∧ ∀ r' k' A' m' nt' cr', im = some (r', (k', A'), (m', nt'), cr') →
  f 68 = (k' : Int) ∧ f 69 = (m' : Int) ∧ (∀ j, j < 414 → s 31 j = r' j) ∧ RowOK many 20000 r' ∧ Zt r' ∧ k' ≤ 40 ∧ (∀ i, i < k' → (∀ j, j < 414 → s 32 (414 * i + j) = A' i j) ∧ RowOK many 20000 (A' i) ∧ Zt (A' i)) ∧ NtOK nt' m' ∧ (∀ i, i < m' → s 33 i = nt' (3 * i) ∧ s 34 i = nt' (3 * i + 1) ∧ s 35 i = nt' (3 * i + 2)) ∧ ∀ j, j < 3 → s 36 j = cr' j
def RF (c : MC) (m : Nat) (f r : Nat → Int) (s : SI2) (many : Nat) (P : PG) (k : Nat) (A : Nat → Nat → Int) (mm : Nat) (nt cr : Nat → Int) (n : Nat) (tp : Nat → Int) (fp : Int) (im : Option DS) : Prop :=
  Mo c m ∧ Pr f s P many ∧ RowOK many 20000 r ∧ Zt r ∧ RA f s many k A ∧ RN f s mm nt ∧ (∀ j, j < 3 → s 4 j = cr j) ∧ (f 16 = (n : Int) ∧ n ≤ 700 ∧ ∀ j, j < 700 → s 13 j = tp j ∧ 0 ≤ tp j ∧ tp j < 256) ∧ f 25 = fp ∧ RI f s many im
/-- scratch -/
def Kf (f f' : Nat → Int) : Prop := ∀ j, j ≠ 2 → (j < 34 ∨ 57 < j) → j ≠ 66 → f' j = f j
def Ks (s s' : SI2) : Prop := ∀ j, j ≠ 22 → j ≠ 24 → j ≠ 26 → j ≠ 27 → s' j = s j
theorem Kf_rf (f : Nat → Int) : Kf f f := fun _ _ _ _ => rfl
theorem Ks_rf (s : SI2) : Ks s s := fun _ _ _ _ _ => rfl
variable {c : MC} {m : Nat} {f r : Nat → Int} {s t : SI2} {many k mm n : Nat} {P : PG} {A : Nat → Nat → Int} {nt cr tp : Nat → Int} {fp : Int} {im : Option DS}
theorem Kf_tr {f1 f2 : Nat → Int} (h : Kf f f1) (h' : Kf f1 f2) : Kf f f2 := fun j a b d => (h' j a b d).trans (h j a b d)
theorem Ks_tr {s1 s2 : SI2} (h : Ks s s1) (h' : Ks s1 s2) : Ks s s2 := fun j a b d e => (h' j a b d e).trans (h j a b d e)
theorem Kf_2 {z : Int} : Kf f (va_up f 2 z) := fun _ a _ _ => va_up_ne _ _ a
theorem Pr_k {f' : Nat → Int} {s' : SI2} (h : Pr f s P many) (hf : Kf f f') (hs : Ks s s') : Pr f' s' P many := by
  obtain ⟨p1, p2, p3, p4⟩ := h
  have e : ∀ j, j ≠ 22 → j ≠ 24 → j ≠ 26 → j ≠ 27 → s' j = s j := hs
  refine ⟨(hf 13 (by omega) (by omega) (by omega)).trans p1, p2, fun k hk => ?_, fun j hj => by rw [e 12 (by omega) (by omega) (by omega) (by omega)]; exact p4 j hj⟩
  rw [e 5 (by omega) (by omega) (by omega) (by omega), e 6 (by omega) (by omega) (by omega) (by omega), e 7 (by omega) (by omega) (by omega) (by omega), e 8 (by omega) (by omega) (by omega) (by omega), e 9 (by omega) (by omega) (by omega) (by omega), e 10 (by omega) (by omega) (by omega) (by omega), e 11 (by omega) (by omega) (by omega) (by omega)]
  exact p3 k hk
theorem RF_k {f' : Nat → Int} {s' : SI2} (h : RF c m f r s many P k A mm nt cr n tp fp im) (hf : Kf f f') (hs : Ks s s') : RF c m f' r s' many P k A mm nt cr n tp fp im := by
  obtain ⟨h1, h2, h3, h4, ⟨a1, a2, a3⟩, ⟨b1, b2', b3⟩, h7, ⟨d1, d2, d3⟩, h9, ⟨i1, i2⟩⟩ := h
  have e : ∀ j, j ≠ 22 → j ≠ 24 → j ≠ 26 → j ≠ 27 → s' j = s j := hs
  refine ⟨h1, Pr_k h2 hf hs, h3, h4, ⟨(hf 58 (by omega) (by omega) (by omega)).trans a1, a2, fun i hi => by rw [e 25 (by omega) (by omega) (by omega) (by omega)]; exact a3 i hi⟩, ⟨(hf 59 (by omega) (by omega) (by omega)).trans b1, b2', fun i hi => ?_⟩, fun j hj => by rw [e 4 (by omega) (by omega) (by omega) (by omega)]; exact h7 j hj, ⟨(hf 16 (by omega) (by omega) (by omega)).trans d1, d2, fun j hj => by rw [e 13 (by omega) (by omega) (by omega) (by omega)]; exact d3 j hj⟩, (hf 25 (by omega) (by omega) (by omega)).trans h9, ⟨(hf 67 (by omega) (by omega) (by omega)).trans i1, fun r' k' A' m' nt' cr' q => ?_⟩⟩
  · rw [e 28 (by omega) (by omega) (by omega) (by omega), e 29 (by omega) (by omega) (by omega) (by omega), e 30 (by omega) (by omega) (by omega) (by omega)]
    exact b3 i hi
  · have x := i2 r' k' A' m' nt' cr' q
    rw [hf 68 (by omega) (by omega) (by omega), hf 69 (by omega) (by omega) (by omega), e 31 (by omega) (by omega) (by omega) (by omega), e 32 (by omega) (by omega) (by omega) (by omega), e 33 (by omega) (by omega) (by omega) (by omega), e 34 (by omega) (by omega) (by omega) (by omega), e 35 (by omega) (by omega) (by omega) (by omega), e 36 (by omega) (by omega) (by omega) (by omega)]
    exact x
/-- an answer, all held as before -/
def Rk (c : MC) (m : Nat) (f r : Nat → Int) (s : SI2) {α : Type} (res : Option (α × Hp)) (ans : Nat ⊕ α) : Prop :=
  ∃ v f' s' t', res = some (v, MS c m f' r s' t') ∧ Kf f f' ∧ Ks s s' ∧ (match ans with | .inl k => f' 2 = (k : Int) | .inr x => f' 2 = 0 ∧ v = x)
theorem Rk_v {α : Type} {v : α} {f' : Nat → Int} {s' t' : SI2} {res : Option (α × Hp)} (e : res = some (v, MS c m f' r s' t')) (hf : Kf f f') (hs : Ks s s') (h2 : f' 2 = 0) : Rk c m f r s res (.inr v) := ⟨v, f', s', t', e, hf, hs, h2, rfl⟩
theorem Rk_x {α : Type} {k : Nat} {v : α} {f' : Nat → Int} {s' t' : SI2} {res : Option (α × Hp)} (e : res = some (v, MS c m f' r s' t')) (hf : Kf f f') (hs : Ks s s') (h2 : f' 2 = (k : Int)) : Rk c m f r s res (.inl k) := ⟨v, f', s', t', e, hf, hs, h2⟩
theorem s_fail {k : Int} (hm : Mo c m) : fX13_fail m (jI k) (MS c m f r s t) = some (jI 0, MS c m (va_up f 2 k) r s t) := by
  unfold fX13_fail
  rw [s_gd _ hm, s_pI hm, o_ob]
  rfl
/-- a call fails -/
theorem Rk_fl {k : Nat} {g : Nat → Int} {s' t' : SI2} (hm : Mo c m) (hf : Kf f g) (hs : Ks s s') : Rk c m f r s (ob2 (fX13_fail m (jI (k : Int)) (MS c m g r s' t')) fun v h => some (v, h)) (.inl k) := by
  rw [s_fail hm, o_ob2]
  exact Rk_x rfl (Kf_tr hf Kf_2) hs (va_up_self _ _ _)
theorem Rk_flL {k : Nat} {g : Nat → Int} {s' t' : SI2} (hm : Mo c m) (hf : Kf f g) (hs : Ks s s') : Rk c m f r s (ob2 (fX13_fail m (jI (k : Int)) (MS c m g r s' t')) fun v h => some (Int32.toInt64 v, h)) (.inl k) := by
  rw [s_fail hm, o_ob2]
  exact Rk_x rfl (Kf_tr hf Kf_2) hs (va_up_self _ _ _)
theorem i0_255 {z : Int} (z1 : -2147483648 ≤ z) (z2 : z < 2147483648) : fX13_isIn (Int32.toInt64 (jI z)) 0 255 = some (if 0 ≤ z ∧ z < 256 then jI 1 else jI 0) := by
  ((try rw [show (0 : Int64) = jL 0 from rfl]); (try rw [show (255 : Int64) = jL 255 from rfl]); rw [w_isInI z1 z2 (by omega) (by omega) (by omega) (by omega)])
  have e : (0 ≤ z ∧ z ≤ 255) = (0 ≤ z ∧ z < 256) := by apply propext; omega
  simp only [e]
theorem i0_7 {z : Int} (z1 : -2147483648 ≤ z) (z2 : z < 2147483648) : fX13_isIn (Int32.toInt64 (jI z)) 0 7 = some (if 0 ≤ z ∧ z < 8 then jI 1 else jI 0) := by
  ((try rw [show (0 : Int64) = jL 0 from rfl]); (try rw [show (7 : Int64) = jL 7 from rfl]); rw [w_isInI z1 z2 (by omega) (by omega) (by omega) (by omega)])
  have e : (0 ≤ z ∧ z ≤ 7) = (0 ≤ z ∧ z < 8) := by apply propext; omega
  simp only [e]
theorem i1_8 {z : Int} (z1 : -2147483648 ≤ z) (z2 : z < 2147483648) : fX13_isIn (Int32.toInt64 (jI z)) 1 8 = some (if 1 ≤ z ∧ z < 9 then jI 1 else jI 0) := by
  ((try rw [show (1 : Int64) = jL 1 from rfl]); (try rw [show (8 : Int64) = jL 8 from rfl]); rw [w_isInI z1 z2 (by omega) (by omega) (by omega) (by omega)])
  have e : (1 ≤ z ∧ z ≤ 8) = (1 ≤ z ∧ z < 9) := by apply propext; omega
  simp only [e]
theorem i0_2 {z : Int} (z1 : -2147483648 ≤ z) (z2 : z < 2147483648) : fX13_isIn (Int32.toInt64 (jI z)) 0 2 = some (if 0 ≤ z ∧ z ≤ 2 then jI 1 else jI 0) := by
  ((try rw [show (0 : Int64) = jL 0 from rfl]); (try rw [show (2 : Int64) = jL 2 from rfl]); rw [w_isInI z1 z2 (by omega) (by omega) (by omega) (by omega)])

theorem i0_3 {z : Int} (z1 : -2147483648 ≤ z) (z2 : z < 2147483648) : fX13_isIn (Int32.toInt64 (jI z)) 0 3 = some (if 0 ≤ z ∧ z ≤ 3 then jI 1 else jI 0) := by
  ((try rw [show (0 : Int64) = jL 0 from rfl]); (try rw [show (3 : Int64) = jL 3 from rfl]); rw [w_isInI z1 z2 (by omega) (by omega) (by omega) (by omega)])

theorem i1_50 {z : Int} (z1 : -2147483648 ≤ z) (z2 : z < 2147483648) : fX13_isIn (Int32.toInt64 (jI z)) 1 50 = some (if 1 ≤ z ∧ z ≤ 50 then jI 1 else jI 0) := by
  ((try rw [show (1 : Int64) = jL 1 from rfl]); (try rw [show (50 : Int64) = jL 50 from rfl]); rw [w_isInI z1 z2 (by omega) (by omega) (by omega) (by omega)])

theorem i0_100 {z : Int} (z1 : -2147483648 ≤ z) (z2 : z < 2147483648) : fX13_isIn (Int32.toInt64 (jI z)) 0 100 = some (if 0 ≤ z ∧ z ≤ 100 then jI 1 else jI 0) := by
  ((try rw [show (0 : Int64) = jL 0 from rfl]); (try rw [show (100 : Int64) = jL 100 from rfl]); rw [w_isInI z1 z2 (by omega) (by omega) (by omega) (by omega)])

theorem i1_60 {z : Int} (z1 : -2147483648 ≤ z) (z2 : z < 2147483648) : fX13_isIn (Int32.toInt64 (jI z)) 1 60 = some (if 1 ≤ z ∧ z ≤ 60 then jI 1 else jI 0) := by
  ((try rw [show (1 : Int64) = jL 1 from rfl]); (try rw [show (60 : Int64) = jL 60 from rfl]); rw [w_isInI z1 z2 (by omega) (by omega) (by omega) (by omega)])

theorem i0_60 {z : Int} (z1 : -2147483648 ≤ z) (z2 : z < 2147483648) : fX13_isIn (Int32.toInt64 (jI z)) 0 60 = some (if 0 ≤ z ∧ z ≤ 60 then jI 1 else jI 0) := by
  ((try rw [show (0 : Int64) = jL 0 from rfl]); (try rw [show (60 : Int64) = jL 60 from rfl]); rw [w_isInI z1 z2 (by omega) (by omega) (by omega) (by omega)])

theorem i0_20 {z : Int} (z1 : -2147483648 ≤ z) (z2 : z < 2147483648) : fX13_isIn (Int32.toInt64 (jI z)) 0 20 = some (if 0 ≤ z ∧ z ≤ 20 then jI 1 else jI 0) := by
  ((try rw [show (0 : Int64) = jL 0 from rfl]); (try rw [show (20 : Int64) = jL 20 from rfl]); rw [w_isInI z1 z2 (by omega) (by omega) (by omega) (by omega)])

theorem i1_32 {z : Int} (z1 : -2147483648 ≤ z) (z2 : z < 2147483648) : fX13_isIn (Int32.toInt64 (jI z)) 1 32 = some (if 1 ≤ z ∧ z ≤ 32 then jI 1 else jI 0) := by
  ((try rw [show (1 : Int64) = jL 1 from rfl]); (try rw [show (32 : Int64) = jL 32 from rfl]); rw [w_isInI z1 z2 (by omega) (by omega) (by omega) (by omega)])

theorem s_isField {p l mx : Int} (hm : Mo c m) (p1 : -2147483648 ≤ p) (p2 : p < 2147483648) (l1 : -2147483648 ≤ l) (l2 : l < 2147483648) (m1 : 0 ≤ mx) (m2 : mx ≤ 64) : fX13_isField m (jI p) (jI l) (jI mx) (MS c m f r s t) = some (if 1 ≤ l ∧ l ≤ mx ∧ 0 ≤ p ∧ p + l ≤ 256 then jI 1 else jI 0) := by
  unfold fX13_isField
  (rw [s_gd _ hm, jI_long (a := mx) (by omega) (by omega)]; (try rw [show (1 : Int64) = jL 1 from rfl]); rw [w_isInI l1 l2 (by omega) (by omega) (by omega) (by omega), o_ob])
  by_cases c1 : 1 ≤ l ∧ l ≤ mx
  · rw [if_pos c1, if_neg (by decide), w_there p1 p2 (by omega) (by omega), o_ob]
    by_cases c2 : isF p l = true
    · have : 0 ≤ p ∧ p ≤ 256 - l := by unfold isF at c2; simpa using c2
      rw [if_pos c2, if_neg (by decide), if_pos (by omega)]; rfl
    · have : ¬ (0 ≤ p ∧ p ≤ 256 - l) := by unfold isF at c2; simpa using c2
      rw [if_neg c2, if_pos (by decide), if_neg (by omega)]; rfl
  · rw [if_neg c1, if_pos (by decide), if_neg (by omega)]; rfl
theorem z_Fault (h : RF c m f r s many P k A mm nt cr n tp fp im) : Rk c m f r s (fX13_fault m (MS c m f r s t)) (.inr (jI fp)) := by
  obtain ⟨hm, -, -, -, -, -, -, -, h25, -⟩ := h
  unfold fX13_fault
  (rw [s_gd _ hm]; (try rw [show (0 : Int32) = jI 0 from rfl]); rw [s_pI hm, o_ob]; (try rw [s_gI hm]); rw [o_ob]; (try rw [va_up_ne _ _ (show (25 : Nat) ≠ 2 by omega)]); (try rw [h25]))
  exact Rk_v rfl Kf_2 (Ks_rf s) (va_up_self _ _ _)
theorem z_At {a : Int} (h : RF c m f r s many P k A mm nt cr n tp fp im) (a1 : -2147483648 ≤ a) (a2 : a < 2147483648) : Rk c m f r s (fX13_at m (jI a) (MS c m f r s t)) (if 0 ≤ a ∧ a < 256 then .inr (jI (r a.toNat)) else .inl 1) := by
  have hm := h.1
  unfold fX13_at
  (rw [s_gd _ hm, i0_255 a1 a2]; (try rw [show (0 : Int32) = jI 0 from rfl]); rw [s_pI hm, o_ob, o_ob])
  by_cases c1 : 0 ≤ a ∧ a < 256
  · (rw [if_pos c1, if_pos c1, if_neg (by decide)]; (try rw [s_R3 hm]); rw [o_ob, s_a3 hm (by omega) (by omega), o_ob])
    exact Rk_v rfl Kf_2 (Ks_rf s) (va_up_self _ _ _)
  · rw [if_neg c1, if_neg c1, if_pos (by decide)]
    exact Rk_fl (k := 1) hm Kf_2 (Ks_rf s)
theorem z_Rg {a : Int} (h : RF c m f r s many P k A mm nt cr n tp fp im) (a1 : -2147483648 ≤ a) (a2 : a < 2147483648) : Rk c m f r s (fX13_register m (jI a) (MS c m f r s t)) (if 0 ≤ a ∧ a < 8 then .inr (jI (r (256 + a.toNat))) else .inl 1) := by
  have hm := h.1
  unfold fX13_register
  (rw [s_gd _ hm, i0_7 a1 a2]; (try rw [show (0 : Int32) = jI 0 from rfl]); rw [s_pI hm, o_ob, o_ob])
  by_cases c1 : 0 ≤ a ∧ a < 8
  · (rw [if_pos c1, if_pos c1, if_neg (by decide)]; (try rw [s_R3 hm]); rw [o_ob]; (try rw [show (256 : Int32) = jI 256 from rfl]); (try rw [jI_add]); rw [s_a3 hm (by omega) (by omega), o_ob]; (try rw [show (256 + a).toNat = 256 + a.toNat by omega]))
    exact Rk_v rfl Kf_2 (Ks_rf s) (va_up_self _ _ _)
  · rw [if_neg c1, if_neg c1, if_pos (by decide)]
    exact Rk_fl (k := 1) hm Kf_2 (Ks_rf s)
theorem z_Gu {a : Int} (h : RF c m f r s many P k A mm nt cr n tp fp im) (a1 : -2147483648 ≤ a) (a2 : a < 2147483648) : Rk c m f r s (fX13_guard m (jI a) (MS c m f r s t)) (if 1 ≤ a ∧ a < 9 then .inr (jI (r (267 + a.toNat))) else .inl 1) := by
  have hm := h.1
  unfold fX13_guard
  (rw [s_gd _ hm, i1_8 a1 a2]; (try rw [show (0 : Int32) = jI 0 from rfl]); rw [s_pI hm, o_ob, o_ob])
  by_cases c1 : 1 ≤ a ∧ a < 9
  · (rw [if_pos c1, if_pos c1, if_neg (by decide)]; (try rw [s_R3 hm]); rw [o_ob]; (try rw [show (267 : Int32) = jI 267 from rfl]); (try rw [jI_add]); rw [s_a3 hm (by omega) (by omega), o_ob]; (try rw [show (267 + a).toNat = 267 + a.toNat by omega]))
    exact Rk_v rfl Kf_2 (Ks_rf s) (va_up_self _ _ _)
  · rw [if_neg c1, if_neg c1, if_pos (by decide)]
    exact Rk_fl (k := 1) hm Kf_2 (Ks_rf s)
theorem z_Do {a : Int} (h : RF c m f r s many P k A mm nt cr n tp fp im) (a1 : -2147483648 ≤ a) (a2 : a < 2147483648) : Rk c m f r s (fX13_done m (jI a) (MS c m f r s t)) (if 0 ≤ a ∧ a < many then .inr (jI (r (354 + a.toNat))) else .inl 1) := by
  have hm := h.1
  have e13 := h.2.1.1
  have h60 := h.2.1.2.1
  unfold fX13_done
  (rw [s_gd _ hm]; (try rw [show (0 : Int32) = jI 0 from rfl]); rw [s_pI hm, o_ob]; (try rw [s_gI hm]); rw [o_ob]; (try rw [va_up_ne _ _ (show (13 : Nat) ≠ 2 by omega)]); (try rw [e13]); (try rw [show (1 : Int32) = jI 1 from rfl]); (try rw [jI_sub]); rw [jI_long (a := (many : Int) - 1) (by omega) (by omega)]; (try rw [show (0 : Int64) = jL 0 from rfl]); rw [w_isInI a1 a2 (by omega) (by omega) (by omega) (by omega), o_ob])
  by_cases c1 : 0 ≤ a ∧ a < many
  · (rw [if_pos c1, if_pos (show 0 ≤ a ∧ a ≤ (many : Int) - 1 by omega), if_neg (by decide)]; (try rw [s_R3 hm]); rw [o_ob]; (try rw [show (354 : Int32) = jI 354 from rfl]); (try rw [jI_add]); rw [s_a3 hm (by omega) (by omega), o_ob]; (try rw [show (354 + a).toNat = 354 + a.toNat by omega]))
    exact Rk_v rfl Kf_2 (Ks_rf s) (va_up_self _ _ _)
  · rw [if_neg c1, if_neg (show ¬ (0 ≤ a ∧ a ≤ (many : Int) - 1) by omega), if_pos (by decide)]
    exact Rk_fl (k := 1) hm Kf_2 (Ks_rf s)
theorem z_Tr {a : Int} (h : RF c m f r s many P k A mm nt cr n tp fp im) (a1 : -2147483648 ≤ a) (a2 : a < 2147483648) : Rk c m f r s (fX13_trace m (jI a) (MS c m f r s t)) (if 0 ≤ a ∧ a < min (r 277) 64 then .inr (jI (r (290 + (r 277 - 1 - a).toNat % 64))) else .inl 1) := by
  have hm := h.1
  have ok := h.2.2.1
  have e279 := ok.2.2.2.2.2.2.2.2.1
  obtain ⟨t1, t2⟩ := ok.2.2.2.2.2.2.2.2.2.1
  clear ok
  unfold fX13_trace
  (rw [s_gd _ hm]; (try rw [show (0 : Int32) = jI 0 from rfl]); rw [s_pI hm, o_ob]; (try rw [s_R3 hm]); rw [o_ob]; (try rw [show (279 : Int32) = jI 279 from rfl]); rw [s_a3 hm (by omega) (by omega), o_ob]; (try rw [show (279 : Int).toNat = 279 from rfl]); (try rw [e279]); (try rw [show (64 : Int32) = jI 64 from rfl]); rw [jI_min (by omega) (by omega) (by omega) (by omega)]; (try rw [show (1 : Int32) = jI 1 from rfl]); (try rw [jI_sub]); rw [jI_long (a := min 64 (r 277) - 1) (by omega) (by omega)]; (try rw [show (0 : Int64) = jL 0 from rfl]); rw [w_isInI a1 a2 (by omega) (by omega) (by omega) (by omega), o_ob])
  by_cases c1 : 0 ≤ a ∧ a < min (r 277) 64
  · obtain ⟨q, hq⟩ : ∃ q, q = (r 277 - 1 - a).toNat % 64 := ⟨_, rfl⟩
    have q64 : q < 64 := by rw [hq]; exact Nat.mod_lt _ (by omega)
    have eq : (r 277 - 1 - a) % 64 = (q : Int) := by omega
    have ir : irm (jI (r 277 - 1 - a)) (jI 64) = jI (q : Int) := by rw [← eq]; exact jI_rem (by omega) (by omega) (by omega) (by omega)
    (rw [if_pos c1, if_pos (show 0 ≤ a ∧ a ≤ min 64 (r 277) - 1 by omega), if_neg (by decide)]; (try rw [s_R3 hm]); rw [o_ob]; (try rw [s_R3 hm]); rw [o_ob, s_a3 hm (by omega) (by omega), o_ob]; (try rw [show (279 : Int).toNat = 279 from rfl]); (try rw [e279]); (try rw [jI_sub]); (try rw [jI_sub]); rw [ir]; (try rw [show (290 : Int32) = jI 290 from rfl]); (try rw [jI_add]); rw [s_a3 hm (by omega) (by omega), o_ob]; (try rw [show (290 + (q : Int)).toNat = 290 + q by omega]); (try rw [← hq]))
    exact Rk_v rfl Kf_2 (Ks_rf s) (va_up_self _ _ _)
  · rw [if_neg c1, if_neg (show ¬ (0 ≤ a ∧ a ≤ min 64 (r 277) - 1) by omega), if_pos (by decide)]
    exact Rk_fl (k := 1) hm Kf_2 (Ks_rf s)
theorem z_Why {a d : Int} (h : RF c m f r s many P k A mm nt cr n tp fp im) (a1 : -2147483648 ≤ a) (a2 : a < 2147483648) (d1 : -2147483648 ≤ d) (d2 : d < 2147483648) : Rk c m f r s (fX13_why m (jI a) (jI d) (MS c m f r s t)) (if 0 ≤ a ∧ a < cau r ∧ 0 ≤ d ∧ d < 3 then .inr (jI (r (280 + 3 * a.toNat + d.toNat))) else .inl 1) := by
  have hm := h.1
  obtain ⟨-, -, -, -, -, -, -, -, -, ⟨t1, t2⟩, ⟨t3, t4⟩, -, t5, ⟨t6, t7⟩, t8, -⟩ := h.2.2.1
  have fl : ∀ g : Nat → Int, g = va_up f 2 0 → Rk c m f r s (fX13_why_56 m (MS c m g r s t)) (.inl 1) := fun g hg => by
    unfold fX13_why_56
    rw [hg]
    exact Rk_fl (k := 1) hm Kf_2 (Ks_rf s)
  have gd : 0 ≤ a → a ≤ 2 → 0 ≤ d → d ≤ 2 → Rk c m f r s (fX13_why_62 m (jI a) (jI d) (MS c m (va_up f 2 0) r s t)) (.inr (jI (r (280 + 3 * a.toNat + d.toNat)))) := fun q1 q2 q3 q4 => by
    unfold fX13_why_62
    ((try rw [s_R3 hm]); rw [o_ob]; (try rw [show (280 : Int32) = jI 280 from rfl]); (try rw [show (3 : Int32) = jI 3 from rfl]); (try rw [jI_mul]); (try rw [jI_add]); (try rw [jI_add]); rw [s_a3 hm (by omega) (by omega), o_ob]; (try rw [show (280 + 3 * a + d).toNat = 280 + 3 * a.toNat + d.toNat by omega]))
    exact Rk_v rfl Kf_2 (Ks_rf s) (va_up_self _ _ _)
  unfold fX13_why
  (rw [s_gd _ hm, i0_2 a1 a2, i0_2 d1 d2]; (try rw [show (0 : Int32) = jI 0 from rfl]); rw [s_pI hm, o_ob]; (try rw [s_R3 hm]); rw [o_ob]; (try rw [show (280 : Int32) = jI 280 from rfl]); rw [s_a3 hm (by omega) (by omega), o_ob]; (try rw [show (280 : Int).toNat = 280 from rfl]))
  unfold cau
  by_cases z : r 280 = 0
  · rw [if_pos (by rw [z]), if_pos (t5.2 z), if_neg (by omega)]
    exact fl _ rfl
  · have z2 : ¬ r 278 = 0 := fun q => z (t5.1 q)
    rw [if_neg (by rw [jI_eq (by omega) (by omega) (by omega) (by omega)]; exact z), if_neg z2, o_ob]
    by_cases y : 0 ≤ a ∧ a ≤ 2
    · rw [if_pos y, if_neg (by decide), o_ob]
      by_cases w : 0 ≤ d ∧ d ≤ 2
      · rw [if_pos w, if_neg (by decide)]
        by_cases x2 : a = 2
        · (rw [if_pos (by first | ((simp (disch := omega) only [jI_lit, jI_neg, jI_add, jI_sub, jI_mul, jI_lt, jI_le, jI_eq, jL_lit, jL_lt, jL_le, jL_eq]) <;> omega) | omega)]; (try rw [s_R3 hm]); rw [o_ob]; (try rw [show (289 : Int32) = jI 289 from rfl]); rw [s_a3 hm (by omega) (by omega), o_ob]; (try rw [show (289 : Int).toNat = 289 from rfl]); (try rw [t8]))
          by_cases x4 : r 280 = 4 ∨ r 280 = 5
          · rw [if_pos x4, if_pos x4, if_neg (by decide), if_pos (by omega)]
            exact gd (by omega) (by omega) (by omega) (by omega)
          · rw [if_neg x4, if_neg x4, if_pos (by decide), if_neg (by omega)]
            exact fl _ rfl
        · rw [if_neg (by first | ((simp (disch := omega) only [jI_lit, jI_neg, jI_add, jI_sub, jI_mul, jI_lt, jI_le, jI_eq, jL_lit, jL_lt, jL_le, jL_eq]) <;> omega) | omega), if_pos (by split <;> omega)]
          exact gd (by omega) (by omega) (by omega) (by omega)
      · rw [if_neg w, if_pos (by decide), if_neg (by omega)]
        exact fl _ rfl
    · rw [if_neg y, if_pos (by decide), if_neg (by split <;> omega)]
      exact fl _ rfl
end RFA
