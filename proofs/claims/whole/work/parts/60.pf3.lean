section PF3
variable {K : Nat → Nat} {I : Nat → Nat → Int32} {R : Nat → Nat → Nat} {L : Nat → Nat → Int64} {N : Nat → Nat} {w : Nat × Nat × Nat × Nat}
/-- what is known when an instruction is performed -/
def CTX (K : Nat → Nat) (I : Nat → Nat → Int32) (R : Nat → Nat → Nat) (N : Nat → Nat) (p x a : Nat) (P : PG) (r g : Nat → Int) (k many : Nat) : Prop :=
  Pc K R N p ∧ R p 6 = x ∧ R p 7 = a ∧ InsOK K I R P k a ∧ PGk P many k ∧ Rw K R N x ∧ I (x + 1) = jF (cls r g) ∧ Byt r ∧ Rng r ∧ (0 ≤ r 264 ∧ r 264 ≤ 3) ∧ I p 8 = jI (clA P r k) ∧ I p 9 = jI (opB P r k) ∧ I p 10 = jI (clA P r k + lnA P k) ∧ I p 12 = jI ((k : Int) + 1) ∧ I p 13 = jI 0 ∧ (x + 1 < p ∨ p + 15 ≤ x) ∧ (a < p ∨ p + 15 ≤ a) ∧ a ≠ x + 1 ∧ chk (P 0 k) r (opA P r k) (lnA P k) (opB P r k) (lnB P k) = none
/-- what comes of it -/
def PO (K : Nat → Nat) (I : Nat → Nat → Int32) (R : Nat → Nat → Nat) (L : Nat → Nat → Int64) (N : Nat → Nat) (w : Nat × Nat × Nat × Nat) (p x : Nat) (g : Nat → Int) (res : Option (Int32 × Hp)) (o : (Nat → Int) × Option FT6 × Int) (hl : Int) (ov : Prop) : Prop :=
  ∃ I' R' kd, res = some (jI kd, (K, I', R', L, N, w)) ∧ I' (x + 1) = jF (cls o.1 g) ∧ I' p 12 = jI o.2.2 ∧ I' p 13 = jI hl ∧ (∀ y, (y < p ∨ p + 15 ≤ y) → y ≠ x + 1 → I' y = I y) ∧ (∀ y, y ≠ p + 7 → R' y = R y) ∧ (∀ j, j ≠ 4 → R' (p + 7) j = R (p + 7) j) ∧ (o.2.1 = none → kd = 0 ∨ (kd = 6 ∧ o.1 273 = -1)) ∧ (∀ f, o.2.1 = some f → kd = f.1 ∧ RsF (I' (p + 14)) f)
theorem chk_none {o : Int} {r : Nat → Int} {a n b m : Int} (h : chk o r a n b m = none) : (o ≤ 17 → 0 ≤ a ∧ a ≤ 256 - n) ∧ (o ≤ 11 → 0 ≤ b ∧ b ≤ 256 - m) ∧ (o = 7 ∨ o = 8 → m ≤ 8 ∧ m < n) ∧ ((4 ≤ o ∧ o ≤ 8) ∨ o = 14 ∨ o = 16 → flp r a.toNat n.toNat = -1) ∧ (3 ≤ o ∧ o ≤ 8 → flp r b.toNat m.toNat = -1) := by
  rw [chk_eq] at h
  by_cases c1 : o ≤ 17 ∧ isF a n = false
  · rw [if_pos c1] at h; exact nomatch h
  rw [if_neg c1] at h
  by_cases c2 : o ≤ 11 ∧ isF b m = false
  · rw [if_pos c2] at h; exact nomatch h
  rw [if_neg c2] at h
  by_cases c3 : (o = 7 ∨ o = 8) ∧ (8 < m ∨ n ≤ m)
  · rw [if_pos c3] at h; exact nomatch h
  rw [if_neg c3] at h
  by_cases c4 : (o = 4 ∨ o = 5 ∨ o = 7 ∨ o = 8) ∧ (a < b + m ∧ b < a + n) ∧ a + n ≠ b + m
  · rw [if_pos c4] at h; exact nomatch h
  rw [if_neg c4] at h
  by_cases c5 : o = 3 ∧ (a < b + m ∧ b < a + n) ∧ a + n < b + m
  · rw [if_pos c5] at h; exact nomatch h
  rw [if_neg c5] at h
  by_cases c6 : ((4 ≤ o ∧ o ≤ 8) ∨ o = 14 ∨ o = 16) ∧ flp r a.toNat n.toNat ≠ -1
  · rw [if_pos c6] at h; exact nomatch h
  rw [if_neg c6] at h
  by_cases c7 : (3 ≤ o ∧ o ≤ 8) ∧ flp r b.toNat m.toNat ≠ -1
  · rw [if_pos c7] at h; exact nomatch h
  refine ⟨fun q => ?_, fun q => ?_, fun q => by omega, fun q => ?_, fun q => ?_⟩
  · apply Decidable.byContradiction
    intro h2; exact c1 ⟨q, (isF_no _ _).2 h2⟩
  · apply Decidable.byContradiction
    intro h2; exact c2 ⟨q, (isF_no _ _).2 h2⟩
  · apply Decidable.byContradiction
    intro h2; exact c6 ⟨q, h2⟩
  · apply Decidable.byContradiction
    intro h2; exact c7 ⟨q, h2⟩
theorem prf_eq (P : PG) (r : Nat → Int) (k : Nat) : prf P r k =
  if P 0 k = 0 then (pkS r (opA P r k).toNat (lnA P k).toNat (opB P r k).toNat (lnB P k).toNat ((lnA P k).toNat - 1), none, (k : Int) + 1)
  else if P 0 k = 1 then ((upS r (opA P r k).toNat (lnA P k).toNat (opB P r k).toNat (lnB P k).toNat ((lnA P k).toNat - 1)).1, none, (k : Int) + 1)
  else if P 0 k = 2 then ((ofS r (opA P r k).toNat (lnA P k).toNat (opB P r k).toNat (lnB P k).toNat (lnA P k).toNat).1, none, (k : Int) + 1)
  else if P 0 k = 3 then ((fin6 r (opA P r k).toNat (lnA P k).toNat (pkv r (opB P r k).toNat (lnB P k).toNat) (pks r (opB P r k).toNat (lnB P k).toNat)).1, (fin6 r (opA P r k).toNat (lnA P k).toNat (pkv r (opB P r k).toNat (lnB P k).toNat) (pks r (opB P r k).toNat (lnB P k).toNat)).2, (k : Int) + 1)
  else if P 0 k = 4 ∨ P 0 k = 5 then
    ((fin6 r (opA P r k).toNat (lnA P k).toNat (ssum (pks r (opA P r k).toNat (lnA P k).toNat) (pks r (opB P r k).toNat (lnB P k).toNat != decide (P 0 k = 5)) (pkv r (opA P r k).toNat (lnA P k).toNat) (pkv r (opB P r k).toNat (lnB P k).toNat)).1 (ssum (pks r (opA P r k).toNat (lnA P k).toNat) (pks r (opB P r k).toNat (lnB P k).toNat != decide (P 0 k = 5)) (pkv r (opA P r k).toNat (lnA P k).toNat) (pkv r (opB P r k).toNat (lnB P k).toNat)).2).1,
     (fin6 r (opA P r k).toNat (lnA P k).toNat (ssum (pks r (opA P r k).toNat (lnA P k).toNat) (pks r (opB P r k).toNat (lnB P k).toNat != decide (P 0 k = 5)) (pkv r (opA P r k).toNat (lnA P k).toNat) (pkv r (opB P r k).toNat (lnB P k).toNat)).1 (ssum (pks r (opA P r k).toNat (lnA P k).toNat) (pks r (opB P r k).toNat (lnB P k).toNat != decide (P 0 k = 5)) (pkv r (opA P r k).toNat (lnA P k).toNat) (pkv r (opB P r k).toNat (lnB P k).toNat)).2).2, (k : Int) + 1)
  else if P 0 k = 6 then (va_up r 264 (ccK (ssum (pks r (opA P r k).toNat (lnA P k).toNat) (!pks r (opB P r k).toNat (lnB P k).toNat) (pkv r (opA P r k).toNat (lnA P k).toNat) (pkv r (opB P r k).toNat (lnB P k).toNat)).1 (ssum (pks r (opA P r k).toNat (lnA P k).toNat) (!pks r (opB P r k).toNat (lnB P k).toNat) (pkv r (opA P r k).toNat (lnA P k).toNat) (pkv r (opB P r k).toNat (lnB P k).toNat)).2), none, (k : Int) + 1)
  else if P 0 k = 7 then
    (if fnd (fun h => hf r h != 0) (2 * (opA P r k).toNat) (2 * (lnB P k).toNat) ≠ -1 then (r, some (5, 0, ((opA P r k).toNat : Int), ((lnA P k).toNat : Int), fnd (fun h => hf r h != 0) (2 * (opA P r k).toNat) (2 * (lnB P k).toNat), hf r (fnd (fun h => hf r h != 0) (2 * (opA P r k).toNat) (2 * (lnB P k).toNat)).toNat), (k : Int) + 1)
    else (sto r (opA P r k).toNat (lnA P k).toNat (pkv r (opA P r k).toNat (lnA P k).toNat * pkv r (opB P r k).toNat (lnB P k).toNat) (if pks r (opA P r k).toNat (lnA P k).toNat != pks r (opB P r k).toNat (lnB P k).toNat then 13 else 12), none, (k : Int) + 1))
  else if P 0 k = 8 then
    (if pkv r (opB P r k).toNat (lnB P k).toNat = 0 ∨ 2 * ((lnA P k).toNat - (lnB P k).toNat) - 1 < nd (pkv r (opA P r k).toNat (lnA P k).toNat / pkv r (opB P r k).toNat (lnB P k).toNat) then (r, some (7, 0, ((opA P r k).toNat : Int), ((lnA P k).toNat : Int), -1, 0), (k : Int) + 1)
    else (sto (sto r (opA P r k).toNat ((lnA P k).toNat - (lnB P k).toNat) (pkv r (opA P r k).toNat (lnA P k).toNat / pkv r (opB P r k).toNat (lnB P k).toNat) (if pks r (opA P r k).toNat (lnA P k).toNat != pks r (opB P r k).toNat (lnB P k).toNat then 13 else 12)) ((opA P r k).toNat + (lnA P k).toNat - (lnB P k).toNat) (lnB P k).toNat (pkv r (opA P r k).toNat (lnA P k).toNat % pkv r (opB P r k).toNat (lnB P k).toNat) (if pks r (opA P r k).toNat (lnA P k).toNat then 13 else 12), none, (k : Int) + 1))
  else if P 0 k = 9 ∨ P 0 k = 10 ∨ P 0 k = 11 then (cpS (P 0 k - 9).toNat r (opA P r k).toNat (opB P r k).toNat (lnA P k).toNat, none, (k : Int) + 1)
  else if P 0 k = 12 ∨ P 0 k = 13 then
    (match edS r (opA P r k).toNat (opB P r k) (lnA P k).toNat with
    | .inl (c, x, u) => (r, some (c, 1, x, 1, (if c = 4 then 2 * x else -1), if c = 4 then u x.toNat / 16 else 0), (k : Int) + 1)
    | .inr (u, _, _, seen, any, mark) =>
      ((if P 0 k = 13 ∧ mark ≠ -1 then va_up (va_up u 264 (if any then (if seen then 1 else 2) else 0)) 257 mark else va_up u 264 (if any then (if seen then 1 else 2) else 0)), none, (k : Int) + 1))
  else if P 0 k = 14 then
    ((fin6 r (opA P r k).toNat (lnA P k).toNat (if P 4 k < 0 then rnd (pkv r (opA P r k).toNat (lnA P k).toNat) (-P 4 k).toNat (P 5 k).toNat else pkv r (opA P r k).toNat (lnA P k).toNat * 10 ^ (P 4 k).toNat) (pks r (opA P r k).toNat (lnA P k).toNat)).1, (fin6 r (opA P r k).toNat (lnA P k).toNat (if P 4 k < 0 then rnd (pkv r (opA P r k).toNat (lnA P k).toNat) (-P 4 k).toNat (P 5 k).toNat else pkv r (opA P r k).toNat (lnA P k).toNat * 10 ^ (P 4 k).toNat) (pks r (opA P r k).toNat (lnA P k).toNat)).2, (k : Int) + 1)
  else if P 0 k = 15 then (va_up r 264 ((if fnd (fun h => 9 < hf r h) (2 * (opA P r k).toNat) (2 * (lnA P k).toNat - 1) = -1 then 0 else 2) + (if 9 < hf r (2 * ((opA P r k).toNat + (lnA P k).toNat) - 1) then 0 else 1)), none, (k : Int) + 1)
  else if P 0 k = 16 then
    (if (if pks r (opA P r k).toNat (lnA P k).toNat then -(pkv r (opA P r k).toNat (lnA P k).toNat : Int) else pkv r (opA P r k).toNat (lnA P k).toNat) < -2147483648 ∨ 2147483647 < (if pks r (opA P r k).toNat (lnA P k).toNat then -(pkv r (opA P r k).toNat (lnA P k).toNat : Int) else pkv r (opA P r k).toNat (lnA P k).toNat) then (r, some (8, 0, ((opA P r k).toNat : Int), ((lnA P k).toNat : Int), -1, 0), (k : Int) + 1) else (va_up r (256 + (P 4 k).toNat) (if pks r (opA P r k).toNat (lnA P k).toNat then -(pkv r (opA P r k).toNat (lnA P k).toNat : Int) else pkv r (opA P r k).toNat (lnA P k).toNat), none, (k : Int) + 1))
  else if P 0 k = 17 then (sto r (opA P r k).toNat (lnA P k).toNat (r (256 + (P 4 k).toNat)).natAbs (if r (256 + (P 4 k).toNat) < 0 then 13 else 12), none, (k : Int) + 1)
  else if P 0 k = 18 then (va_up r (256 + (P 4 k).toNat) (adr P r k 0), none, (k : Int) + 1)
  else if P 0 k = 19 then (va_up r (256 + (P 4 k).toNat) (bm (r (256 + (P 4 k).toNat) + P 5 k)), none, (k : Int) + 1)
  else if P 0 k = 20 then (va_up r (256 + (P 4 k).toNat) (bm (r (256 + (P 4 k).toNat) - 1)), none, if bm (r (256 + (P 4 k).toNat) - 1) = 0 then (k : Int) + 1 else P 6 k)
  else if P 0 k = 21 then (r, none, if (P 4 k).toNat / 2 ^ (3 - (r 264).toNat) % 2 = 1 then P 6 k else (k : Int) + 1)
  else if P 0 k = 22 then (va_up r (267 + (P 4 k).toNat) (P 6 k), none, (k : Int) + 1)
  else if P 0 k = 23 then (r, none, if r 266 = -1 then (k : Int) + 1 else r 266 + 1)
  else (r, none, (k : Int) + 1) := by
  unfold prf
  rfl
/-- the case of fields that are in the store -/
theorem CTX_px {p x a k many : Nat} {P : PG} {r g : Nat → Int} (h : CTX K I R N p x a P r g k many) : (P 0 k ≤ 17 → opA P r k = ((opA P r k).toNat : Int) ∧ lnA P k = ((lnA P k).toNat : Int) ∧ (opA P r k).toNat + (lnA P k).toNat ≤ 256 ∧ 1 ≤ (lnA P k).toNat) ∧ (P 0 k ≤ 11 → opB P r k = ((opB P r k).toNat : Int) ∧ lnB P k = ((lnB P k).toNat : Int) ∧ (opB P r k).toNat + (lnB P k).toNat ≤ 256 ∧ 1 ≤ (lnB P k).toNat) ∧ PX K I R N p x a (clA P r k) (lnA P k) (opB P r k) (lnB P k) (cls r g) ∧
    wdO ((P 0 k).toNat + 5) = some (jI (P 0 k + 4)) ∧ smI (jI (P 0 k + 4)) = some (jI (smT (P 0 k))) ∧ R a 0 = (P 0 k).toNat + 5 := by
  obtain ⟨pc, h6, h7, ins, pg, hr, hI, hb, hg, h264, h8, h9, h10, h12, h13, hx, ha, hax, ck⟩ := h
  obtain ⟨n1, n2, -⟩ := chk_none ck
  have lr := ln_r pg
  obtain ⟨o1, o2⟩ := pg.1
  obtain ⟨w1, w2, w3⟩ := wd_o o1 o2
  obtain ⟨ka, ra, i1, i2, i3, i4, i5, i6, -⟩ := ins
  refine ⟨fun q => ?_, fun q => ?_, ⟨pc, h6, h7, ka, hr, hI, cls_byt hb, h8, h9, i3, i6, hx, ha, hax⟩, w1, w2, ra⟩
  · have := n1 q; omega
  · have := n2 q; omega
theorem sto_hi0 {r : Nat → Int} {p n v j : Nat} {s : Int} (h : p + n ≤ j) : sto r p n v s j = r j := by
  unfold sto; rw [if_neg (by omega)]
/-- a result that is laid, as the whole tells it -/
theorem PO_fin {p x a k many : Nat} {P : PG} {r g : Nat → Int} {v : Nat} {s : Bool} {J : Nat → Nat → Int32} {res : Option (Int32 × Hp)} (h : CTX K I R N p x a P r g k many) (ho : P 0 k ≤ 17) (ho2 : P 0 k ≠ 24) (hn : (lnA P k).toNat ≤ 16) (hJ : ∀ y, y < p + 1 ∨ p + 7 ≤ y → J y = I y) (hv : DV J (p + 5) v s) (hl : v < 10 ^ 64)
    (e : res = fX9_putResult p (K, J, R, L, N, w)) : PO K I R L N w p x g res ((fin6 r (opA P r k).toNat (lnA P k).toNat v s).1, (fin6 r (opA P r k).toNat (lnA P k).toNat v s).2, (k : Int) + 1) (if P 0 k = 24 then 1 else 0) (r 273 = -1) := by
  obtain ⟨fA, fB, px, w1, w2, ra⟩ := CTX_px h
  obtain ⟨pc, h6, h7, ins, pg, hr, hI, hb, hg, h264, h8, h9, h10, h12, h13, hx, ha, hax, ck⟩ := h
  obtain ⟨eA, eN, hA, hn1⟩ := fA ho
  rw [clA_op ho, eA, eN] at px
  have px2 := PX_ne (J := J) px (fun y hy => hJ y (by omega)) (by rw [hJ p (by omega)]) (by rw [hJ p (by omega)])
  have ep := e_putResult (L := L) (w := w) px2 hA hn1 (by omega) hv hl
  obtain ⟨z, hz, z1, z2⟩ : ∃ z : Int, z = (if s ∧ v ≠ 0 then (13 : Int) else 12) ∧ 0 ≤ z ∧ z < 16 := ⟨_, rfl, by split <;> omega, by split <;> omega⟩
  rw [← hz, sto_cls hA, cls_up_lo (by omega) (by omega)] at ep
  have e1 : (fin6 r (opA P r k).toNat (lnA P k).toNat v s).1 = va_up (sto r (opA P r k).toNat (lnA P k).toNat v z) 264 (CCv (lnA P k).toNat v s) := by
    unfold fin6
    rw [hz]
    exact sto_up (by omega)
  rw [e1, if_neg ho2]
  by_cases q : 2 * (lnA P k).toNat - 1 < nd v
  · rw [if_pos q] at ep
    refine ⟨_, R, 6, e.trans ep, ?_, ?_, ?_, ?_, fun _ _ => rfl, fun _ _ => rfl, ?_, ?_⟩
    · rw [va_up_ne _ _ (by omega), va_up_self]
    · rw [va_up_ne _ _ (by omega), va_up_ne _ _ (by omega), hJ p (by omega)]; exact h12
    · rw [va_up_ne _ _ (by omega), va_up_ne _ _ (by omega), hJ p (by omega)]; exact h13
    · intro y hy hy2
      rw [va_up_ne _ _ (by omega), va_up_ne _ _ hy2, hJ y (by omega)]
    · intro hn
      unfold fin6 at hn
      refine Or.inr ⟨rfl, ?_⟩
      show va_up (sto r (opA P r k).toNat (lnA P k).toNat v z) 264 (CCv (lnA P k).toNat v s) 273 = -1
      rw [va_up_ne _ _ (by omega), sto_hi0 (by omega)]
      apply Decidable.byContradiction
      intro h273
      have : (if 2 * (lnA P k).toNat - 1 < nd v ∧ r 273 ≠ -1 then some ((6, 0, ((opA P r k).toNat : Int), ((lnA P k).toNat : Int), -1, 0) : FT6) else none) = none := hn
      rw [if_pos ⟨q, h273⟩] at this
      exact nomatch this
    · intro f hf
      unfold fin6 at hf
      have : (if 2 * (lnA P k).toNat - 1 < nd v ∧ r 273 ≠ -1 then some ((6, 0, ((opA P r k).toNat : Int), ((lnA P k).toNat : Int), -1, 0) : FT6) else none) = some f := hf
      by_cases h273 : r 273 ≠ -1
      · rw [if_pos ⟨q, h273⟩] at this
        cases this
        refine ⟨rfl, ?_⟩
        rw [va_up_self]
        exact RsF_n
      · rw [if_neg (fun x => h273 x.2)] at this
        exact nomatch this
  · rw [if_neg q] at ep
    refine ⟨_, R, 0, e.trans ep, ?_, ?_, ?_, ?_, fun _ _ => rfl, fun _ _ => rfl, fun _ => Or.inl rfl, ?_⟩
    · rw [va_up_self]
    · rw [va_up_ne _ _ (by omega), hJ p (by omega)]; exact h12
    · rw [va_up_ne _ _ (by omega), hJ p (by omega)]; exact h13
    · intro y hy hy2
      rw [va_up_ne _ _ hy2, hJ y (by omega)]
    · intro f hf
      unfold fin6 at hf
      have : (if 2 * (lnA P k).toNat - 1 < nd v ∧ r 273 ≠ -1 then some ((6, 0, ((opA P r k).toNat : Int), ((lnA P k).toNat : Int), -1, 0) : FT6) else none) = some f := hf
      rw [if_neg (fun x => q x.1)] at this
      exact nomatch this
/-- no fault; the row's cells are told -/
theorem PO_row {p x a k many : Nat} {P : PG} {r g u : Nat → Int} {nx hl : Int} {J : Nat → Nat → Int32} {res : Option (Int32 × Hp)} {ov : Prop} (h : CTX K I R N p x a P r g k many) (hJ : ∀ y, y < p ∨ p + 15 ≤ y → y ≠ x + 1 → J y = I y) (hJp : J p 12 = jI nx) (hJh : J p 13 = jI hl) (hx : J (x + 1) = jF (cls u g)) (e : res = some (jI 0, (K, J, R, L, N, w))) : PO K I R L N w p x g res (u, none, nx) hl ov :=
  ⟨J, R, 0, e, hx, hJp, hJh, hJ, fun _ _ => rfl, fun _ _ => rfl, fun _ => Or.inl rfl, (fun _ h => nomatch h)⟩
end PF3
