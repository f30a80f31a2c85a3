section ST3
variable {K : Nat → Nat} {I : Nat → Nat → Int32} {R : Nat → Nat → Nat} {L : Nat → Nat → Int64} {N : Nat → Nat} {w : Nat × Nat × Nat × Nat}
theorem rec6_277 {u : Nat → Int} {k : Nat} : rec6 u k 277 = u 277 := by
  have := Nat.mod_lt (u 279).toNat (show 64 > 0 by omega)
  unfold rec6
  simp (disch := omega) only [va_up_ne]
theorem flt6_277 {u : Nat → Int} {k : Nat} {f : FT6} (hc : f.1.toNat < 9) : flt6 u k f 277 = u 277 := by
  rw [flt6_why hc]
  split
  · rw [va_up_ne _ _ (by omega), why6_ne (by omega)]
  · rw [va_up_ne _ _ (by omega), va_up_ne _ _ (by omega), why6_ne (by omega)]
theorem stp_none {P : PG} {many k : Nat} {r u : Nat → Int} {nx : Int} (hs : r 276 = 0) (hk : k = (r 265).toNat) (he : exe P r k = (u, none, nx)) : stp P many r = va_up (va_up (va_up (rec6 u k) 265 nx) 276 (if P 0 k = 24 ∨ nx = many then 1 else 0)) 277 (u 277 + 1) := by
  unfold stp
  rw [if_pos hs, ← hk]
  simp only [he]
  rw [va_up_ne _ _ (show 277 ≠ 276 by omega), va_up_ne _ _ (show 277 ≠ 265 by omega), rec6_277]
theorem stp_some {P : PG} {many k : Nat} {r u : Nat → Int} {nx : Int} {f : FT6} (hs : r 276 = 0) (hk : k = (r 265).toNat) (he : exe P r k = (u, some f, nx)) (hc : f.1.toNat < 9) : stp P many r = va_up (flt6 (rec6 u k) k f) 277 (u 277 + 1) := by
  unfold stp
  rw [if_pos hs, ← hk]
  simp only [he]
  rw [flt6_277 hc, rec6_277]
theorem knd_none {P : PG} {k : Nat} {r u : Nat → Int} {nx : Int} (hk : k = (r 265).toNat) (he : exe P r k = (u, none, nx)) : knd P r = 0 := by
  unfold knd
  rw [← hk]
  simp only [he]
theorem knd_some {P : PG} {k : Nat} {r u : Nat → Int} {nx : Int} {f : FT6} (hk : k = (r 265).toNat) (he : exe P r k = (u, some f, nx)) : knd P r = f.1 := by
  unfold knd
  rw [← hk]
  simp only [he]
theorem exe_some {P : PG} {k : Nat} {r : Nat → Int} {f : FT6} (h : chk (P 0 k) r (opA P r k) (lnA P k) (opB P r k) (lnB P k) = some f) : exe P r k = (r, some f, (k : Int) + 1) := by
  unfold exe; rw [h]
theorem exe_none {P : PG} {k : Nat} {r : Nat → Int} (h : chk (P 0 k) r (opA P r k) (lnA P k) (opB P r k) (lnB P k) = none) : exe P r k = prf P r k := by
  unfold exe; rw [h]
/-- what a step of the class leaves -/
def SO (K : Nat → Nat) (I : Nat → Nat → Int32) (R : Nat → Nat → Nat) (L : Nat → Nat → Int64) (N : Nat → Nat) (w : Nat × Nat × Nat × Nat) (p x : Nat) (res : Option (Int32 × Hp)) (kd : Int) (v : Nat → Int) : Prop :=
  ∃ I' R' g', res = some (jI kd, (K, I', R', L, N, w)) ∧ I' (x + 1) = jF (cls v g') ∧ (∀ y, (y < p ∨ p + 15 ≤ y) → y ≠ x + 1 → I' y = I y) ∧ (∀ y, y ≠ p → y ≠ p + 7 → R' y = R y) ∧ (∀ j, j ≠ 6 → j ≠ 7 → R' p j = R p j) ∧ (∀ j, j ≠ 4 → R' (p + 7) j = R (p + 7) j)
theorem e_step {p x l many : Nat} {P : PG} {T : Int} {r g : Nat → Int} (pc : Pc K R N p) (h5 : R p 5 = l) (hl : Lst K I R N P many l p) (hr : Rw K R N x) (hI : I (x + 1) = jF (cls r g)) (ok : RowOK many T r) (hT : T < 900000) (hs : r 276 = 0) (hx : x + 1 < p ∨ p + 15 ≤ x) :
    SO K I R L N w p x (fX9_step p x (K, I, R, L, N, w)) (knd P r) (stp P many r) := by
  obtain ⟨k, hk⟩ : ∃ k, k = (r 265).toNat := ⟨_, rfl⟩
  have h265 : r 265 = (k : Int) ∧ k < many := by
    have h1 := ok.2.2.2.1
    have h2 := ok.2.2.2.2.1 hs
    omega
  have hl' := hl
  obtain ⟨k6, l0, l1, k7, n7, kl2, n8, i2, hm, hin, hlp⟩ := hl'
  obtain ⟨ins, pg, a0, ap⟩ := hin k h265.2
  obtain ⟨a, ha⟩ : ∃ a, a = R (l + 1) k := ⟨_, rfl⟩
  rw [← ha] at ins a0 ap
  have ka : K a = 5 := ins.1
  have kp : K p = 8 := pc.1
  have kx : K x = 9 := hr.1
  have kx1 : K (x + 1) = 101 := hr.2.2.1
  have e2 := e_told (L := L) (w := w) (z := (k : Int)) hl (by omega) (by omega)
  rw [if_pos (by omega), show ((k : Int)).toNat = k by omega, ← ha] at e2
  have e1 : fX10_cell x (jI 265) (K, I, R, L, N, w) = some (jI (k : Int)) := by
    rw [e_cell hr (by omega) (by omega), hI, jF_at, tn, cls_lo (by omega) (by omega), h265.1]
  clear hl hin l0 l1 k7 n7 kl2 n8
  have nap : a ≠ p := fun h => by rw [h, kp] at ka; omega
  have nxp : x + 1 ≠ p := fun h => by rw [h, kp] at kx1; omega
  have nx0 : x ≠ p := fun h => by rw [h, kp] at kx; omega
  have nax : a ≠ x + 1 := fun h => by rw [h, kx1] at ka; omega
  have nlx : l ≠ x + 1 := fun h => by rw [h, kx1] at k6; omega
  have nlp : l ≠ p := fun h => by rw [h, kp] at k6; omega
  have k14 : K (p + 14) = 101 := pc.2.2.2.2.2.2.1
  have nl14 : l ≠ p + 14 := fun h => by rw [h, k14] at k6; omega
  have na14 : a ≠ p + 14 := fun h => by rw [h, k14] at ka; omega
  have nx14 : x + 1 ≠ p + 14 := by omega
  have np14 : p ≠ p + 14 := by omega
  have nx7 : x ≠ p + 7 := by omega
  obtain ⟨R2, hR2⟩ : ∃ R2, R2 = va_up R p (va_up (va_up (R p) 6 x) 7 a) := ⟨_, rfl⟩
  obtain ⟨I1, hI1⟩ : ∃ I1, I1 = va_up I p (va_up (va_up (I p) 12 (jI ((k : Int) + 1))) 13 (jI 0)) := ⟨_, rfl⟩
  have R2n : ∀ y, y ≠ p → R2 y = R y := fun y hy => by rw [hR2, va_up_ne _ _ hy]
  have R2p : ∀ j, j ≠ 6 → j ≠ 7 → R2 p j = R p j := fun j h6 h7 => by rw [hR2, va_up_self, va_up_ne _ _ h7, va_up_ne _ _ h6]
  have R26 : R2 p 6 = x := by rw [hR2, va_up_self, va_up_ne _ _ (by omega), va_up_self]
  have R27 : R2 p 7 = a := by rw [hR2, va_up_self, va_up_self]
  have R25 : R2 p 5 = l := by rw [R2p 5 (by omega) (by omega)]; exact h5
  have I1n : ∀ y, y ≠ p → I1 y = I y := fun y hy => by rw [hI1, va_up_ne _ _ hy]
  have I112 : I1 p 12 = jI ((k : Int) + 1) := by rw [hI1, va_up_self, va_up_ne _ _ (by omega), va_up_self]
  have I113 : I1 p 13 = jI 0 := by rw [hI1, va_up_self, va_up_self]
  have pc2 : Pc K R2 N p := Pc_R pc (fun y y1 _ => R2n y y1) (fun j hj => R2p j (by omega) (by omega)) (fun j _ => by rw [R2n _ (by omega)])
  have hr2 : Rw K R2 N x := ⟨hr.1, by rw [R2n x nx0]; exact hr.2.1, hr.2.2⟩
  have ins2 : ∀ J : Nat → Nat → Int32, J a = I a → InsOK K J R2 P k a := fun J hJ => by
    unfold InsOK at ins ⊢
    rw [hJ, R2n a nap]
    exact ins
  have hI1x : I1 (x + 1) = jF (cls r g) := by rw [I1n _ nxp]; exact hI
  obtain ⟨f, s, ec, f8, f9, f10, f11, f12, f13, frs⟩ := e_checked (I := I1) (L := L) (w := w) (g := g) pc2 R26 R27 (ins2 I1 (I1n a nap)) pg hr2 hI1x ok.1 na14 nap nx14 nxp
  obtain ⟨I2, hI2⟩ : ∃ I2, I2 = va_up (va_up I1 p f) (p + 14) s := ⟨_, rfl⟩
  rw [← hI2] at ec
  have I2n : ∀ y, y ≠ p → y ≠ p + 14 → I2 y = I y := fun y y1 y2 => by rw [hI2, va_up_ne _ _ y2, va_up_ne _ _ y1, I1n y y1]
  have I2p : I2 p = f := by rw [hI2, va_up_ne _ _ np14, va_up_self]
  have I2q : I2 (p + 14) = s := by rw [hI2, va_up_self]
  have hI2x : I2 (x + 1) = jF (cls r g) := by rw [I2n _ nxp nx14]; exact hI
  have h276 := ok.2.2.2.2.2.2.2.1
  obtain ⟨okb, okr, ok264, -, -, ok266, okg, -, ok279, ok277, -⟩ := id ok
  clear hI2 hI1x
  rw [I112] at f12
  rw [I113] at f13
  cases hc : chk (P 0 k) r (opA P r k) (lnA P k) (opB P r k) (lnB P k) with
  | some F =>
    have he := exe_some hc
    have hx' := exe_ok ok pg h265.2
    rw [he] at hx'
    have hF := (hx'.2.1 F rfl).1
    have hF4 := chk_k4 hc
    have hg1 := okg F.1.toNat (by omega) (by omega)
    have hg2 := okg 6 (by omega) (by omega)
    have rsF := frs F hc
    rw [hc] at ec
    have ec : fX9_checked p (K, I1, R2, L, N, w) = some (jI F.1, (K, I2, R2, L, N, w)) := ec
    obtain ⟨J, g', eJ, eJx, eJn⟩ := e_afterF (I := I2) (L := L) (w := w) (k := k) (many := many) (u := r) (g := g) (f := F) pc2 R25 R26 hr2 hI2x (by rw [I2p]; exact f13) k6 (by rw [I2n l nlp nl14]; exact i2) hm (by omega) (by omega) (by omega) ok279 hs (by omega) (by omega) hg1 hg2 (fun h => by omega) (by rw [I2q]; exact rsF) nlx (Ne.symm nxp) nlp nx14 nl14 np14
    refine ⟨J, R2, g', ?_, ?_, ?_, ?_, ?_, ?_⟩
    · rw [knd_some hk he]
      exact e_stepgo kp h5 (Ne.symm nlp) e1 e2 a0 hR2 hI1 (by omega) ec (by omega) (by omega) (fun _ => eJ) (fun h => by omega)
    · rw [stp_some hs hk he (by omega)]; exact eJx
    · intro y y1 y2
      rw [eJn y (by omega) (by omega) y2, I2n y (by omega) (by omega)]
    · exact fun y y1 _ => R2n y y1
    · exact R2p
    · exact fun j _ => by rw [R2n _ (by omega)]
  | none =>
    have he := exe_none hc
    have pk := prf_ok ok pg h265.2 hc
    rw [hc] at ec
    have ec : fX9_checked p (K, I1, R2, L, N, w) = some (jI 0, (K, I2, R2, L, N, w)) := ec
    have ctx : CTX K I2 R2 N p x a P r g k many := ⟨pc2, R26, R27, ins2 I2 (I2n a nap na14), pg, hr2, hI2x, okb, okr, ok264, by rw [I2p]; exact f8, by rw [I2p]; exact f9, by rw [I2p]; exact f10, by rw [I2p]; exact f12, by rw [I2p]; exact f13, hx, ap, nax, hc⟩
    obtain ⟨I3, R3, kd, ep, ex, e12, e13, eI, eR, eR7, en, ef⟩ := e_perform (L := L) (w := w) ctx
    obtain ⟨⟨u, fo, nx⟩, ho⟩ : ∃ z, z = prf P r k := ⟨_, rfl⟩
    rw [← ho] at he pk ex e12 en ef
    have ex : I3 (x + 1) = jF (cls u g) := ex
    have e12 : I3 p 12 = jI nx := e12
    obtain ⟨rq, pf, pn⟩ := pk
    have pn : fo = none → 0 ≤ nx ∧ nx ≤ many := pn
    have rq : RQ many r u := rq
    obtain ⟨ub, -, -, ug, uh⟩ := rq
    have u277 : u 277 = r 277 := uh 277 (by omega) (by omega)
    have u279 : u 279 = r 279 := uh 279 (by omega) (by omega)
    have u276 : u 276 = 0 := by rw [uh 276 (by omega) (by omega)]; exact hs
    have ug6 := ug 6 (by omega) (by omega)
    have pc3 : Pc K R3 N p := Pc_R pc2 (fun y _ y2 => eR y y2) (fun j _ => by rw [eR p (by omega)]) eR7
    have hr3 : Rw K R3 N x := ⟨hr2.1, by rw [eR x nx7]; exact hr2.2.1, hr2.2.2⟩
    have R3p : R3 p = R2 p := eR p (by omega)
    have R36 : R3 p 6 = x := by rw [R3p]; exact R26
    have R35 : R3 p 5 = l := by rw [R3p]; exact R25
    have I3l : I3 l 2 = jI (many : Int) := by rw [eI l (by omega) nlx, I2n l nlp nl14]; exact i2
    have I3n : ∀ y, (y < p ∨ p + 15 ≤ y) → y ≠ x + 1 → I3 y = I y := fun y y1 y2 => by rw [eI y y1 y2, I2n y (by omega) (by omega)]
    have RA : (∀ y, y ≠ p → y ≠ p + 7 → R3 y = R y) ∧ (∀ j, j ≠ 6 → j ≠ 7 → R3 p j = R p j) ∧ (∀ j, j ≠ 4 → R3 (p + 7) j = R (p + 7) j) := by
      refine ⟨fun y y1 y2 => ?_, fun j j1 j2 => ?_, fun j j1 => ?_⟩
      · rw [eR y y2, R2n y y1]
      · rw [R3p, R2p j j1 j2]
      · rw [eR7 j j1, R2n _ (by omega)]
    cases fo with
    | none =>
      have hn := pn rfl
      have hkd := en rfl
      have hkd : kd = 0 ∨ (kd = 6 ∧ u 273 = -1) := hkd
      clear en ef pf pn
      have eA := e_after0 (P := P) (I := I3) (L := L) (w := w) (k := k) (many := many) (u := u) (g := g) (nx := nx) (hl := if P 0 k = 24 then 1 else 0) (kd := kd) pc3 R35 R36 hr3 ex e12 e13 (by split <;> omega) k6 I3l hm hn.1 hn.2 (by omega) (by omega) (by omega) (by omega) hkd nlx (Ne.symm nxp)
      have ehl : (if (if P 0 k = 24 then (1 : Int) else 0) = 1 ∨ nx = many then (1 : Int) else 0) = if P 0 k = 24 ∨ nx = many then 1 else 0 := by
        by_cases h24 : P 0 k = 24
        · rw [if_pos h24, if_pos (Or.inl rfl), if_pos (Or.inl h24)]
        · rw [if_neg h24]
          by_cases hnm : nx = many
          · rw [if_pos (Or.inr hnm), if_pos (Or.inr hnm)]
          · rw [if_neg (by omega), if_neg (by omega)]
      rw [ehl] at eA
      rw [← stp_none (many := many) hs hk he] at eA
      refine ⟨va_up I3 (x + 1) (jF (cls (stp P many r) g)), R3, g, ?_, va_up_self _ _ _, ?_, RA⟩
      · rw [knd_none hk he]
        exact e_stepgo kp h5 (Ne.symm nlp) e1 e2 a0 hR2 hI1 (by omega) ec (by omega) (by omega) (fun h => absurd rfl h) (fun _ => ⟨kd, _, ep, eA⟩)
      · intro y y1 y2
        rw [va_up_ne _ _ y2, I3n y y1 y2]
    | some F =>
      obtain ⟨hF, h24, hF6⟩ := pf F rfl
      obtain ⟨hkd, rsF⟩ := ef F rfl
      have hF6 : F.1 = 6 → u 273 ≠ -1 := hF6
      have hF1 := hF.1
      clear en ef pf pn hF
      have hg1 := ug F.1.toNat (by omega) (by omega)
      rw [if_neg h24] at e13
      obtain ⟨J, g', eJ, eJx, eJn⟩ := e_afterF (I := I3) (L := L) (w := w) (k := k) (many := many) (u := u) (g := g) (f := F) pc3 R35 R36 hr3 ex e13 k6 I3l hm (by omega) (by omega) (by omega) (by omega) u276 hF1.1 hF1.2 hg1 ug6 hF6 rsF nlx (Ne.symm nxp) nlp nx14 nl14 np14
      refine ⟨J, R3, g', ?_, ?_, ?_, RA⟩
      · rw [knd_some hk he]
        exact e_stepgo kp h5 (Ne.symm nlp) e1 e2 a0 hR2 hI1 (by omega) ec (by omega) (by omega) (fun h => absurd rfl h) (fun _ => ⟨kd, _, ep, by rw [hkd]; exact eJ⟩)
      · rw [stp_some hs hk he (by omega)]; exact eJx
      · intro y y1 y2
        rw [eJn y (by omega) (by omega) y2, I3n y y1 y2]
end ST3
