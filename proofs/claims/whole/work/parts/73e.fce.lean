section FCF
variable {K : Nat → Nat} {I : Nat → Nat → Int32} {R : Nat → Nat → Nat} {L : Nat → Nat → Int64} {N : Nat → Nat} {w : Nat × Nat × Nat × Nat} {X U C Z : Nat}
variable {b many k m n pc pu : Nat} {P : PG} {r nt cr t : Nat → Int} {A : Nat → Nat → Int} {fp : Int} {im : Option DS}
theorem RC_I {I' : Nat → Nat → Int32} (h : RC K I R N X b many P r k A m nt cr n t fp im pc pu) (hI : ∀ y, (y < b + 40 ∨ b + 53 ≤ y ∨ (b + 45 ≤ y ∧ y < b + 47)) → I' y = I y) : RC K I' R N X b many P r k A m nt cr n t fp im pc pu := by
  obtain ⟨l, -, -, -, z1, z2, -⟩ := RC_fore h
  have e36 : I' (b + 35 + 1) = I (b + 35 + 1) := hI _ (by omega)
  have e38 : I' (b + 37 + 1) = I (b + 37 + 1) := hI _ (by omega)
  exact RC_scr h (fun y hy => hI y (by unfold sc at hy; omega)) (RFr_rf _ _) (fun j hj => by rw [e36]; exact z1 j hj) (fun j hj => by rw [e38]; exact z2 j hj)
theorem RC_decs (h : RC K I R N X b many P r k A m nt cr n t fp im pc pu) : R b 7 = b + 47 ∧ R b 8 = b + 49 ∧ R b 9 = b + 51 ∧ Dc K R N (b + 47) ∧ Dc K R N (b + 49) ∧ Dc K R N (b + 51) ∧ R b 6 = b + 40 ∧ Ed K R N (b + 40) := by
  obtain ⟨l, sl, i, sh, -⟩ := h
  obtain ⟨-, -, -, -, -, r6, r7, r8, r9, -, -, -, -, ed, d1, d2, d3, -⟩ := sh
  exact ⟨r7, r8, r9, d1, d2, d3, r6, ed⟩
/-- a field has no flaw -/
def sou (r : Nat → Int) (z : Bool) (p n : Nat) : Prop := fnd (flz r z p n) (2 * p) (2 * n) = -1
theorem flz_cls {r g : Nat → Int} {z : Bool} {p q lo c : Nat} (h : lo + c ≤ 512) : fnd (flz (cls r g) z p q) lo c = fnd (flz r z p q) lo c := fnd_eq (fun j h1 h2 => by unfold flz; rw [hf_cls (by omega)])
theorem sou_f {r : Nat → Int} {p q : Nat} (h : sou r false p q) : Snd r p q := Snd_of (by rw [← flz_flp, show 2 * (p + q) - 2 * p = 2 * q by omega]; exact h)
theorem sou_t {r : Nat → Int} {p q : Nat} (h : sou r true p q) : Snz r p q := fun i hi => by
  have h1 := fnd_none h (2 * (p + q) - 1 - 2 * i) (by omega) (by omega)
  by_cases c : hf r (2 * (p + q) - 1 - 2 * i) < 10
  · exact c
  · have h2 := (flz_t (c := r) (p := p) (n := q) (h := 2 * (p + q) - 1 - 2 * i)).2 (Or.inr (Or.inr ⟨by omega, by omega, by omega⟩))
    rw [h1] at h2
    exact absurd h2 (by decide)
theorem e_nSo {z : Bool} {p q : Nat} (h : RC K I R N X b many P r k A m nt cr n t fp im pc pu) (hq : 1 ≤ q) (hp : p + q ≤ 256) : fX12_needSound b (jI (p : Int)) (jI (q : Int)) (jI (b2 z)) (K, I, R, L, N, w) = some (if fnd (flz r z p q) (2 * p) (2 * q) = -1 then .inr () else .inl 1) := by
  obtain ⟨kb, r10, kd, rd, hr, ⟨g, hI⟩, ok⟩ := RC_now h
  have e := e_flaw (L := L) (w := w) (z := z) (f := 2 * p) hr hI (cls_byt ok.1) hp hq (by omega)
  rw [show 2 * (p + q) - 2 * p = 2 * q by omega, flz_cls (by omega)] at e
  have e2 : (2 : Int32) * jI (p : Int) = jI ((2 * p : Nat) : Int) := by rw [show (2 : Int32) = jI 2 from rfl, jI_mul]; congr 1
  clear ok
  unfold fX12_needSound
  rw [o_gd _ kb, o_gR kb, o_ob, r10, o_gR kd, o_ob, rd, e2, e, o_ob]
  obtain ⟨f, hf⟩ : ∃ f, f = fnd (flz r z p q) (2 * p) (2 * q) := ⟨_, rfl⟩
  have fr : -1 ≤ f ∧ f < 512 := by
    by_cases c : f = -1
    · omega
    · obtain ⟨m', b1, b2', b3, -⟩ := fnd_some (show fnd (flz r z p q) (2 * p) (2 * q) ≠ -1 by rw [← hf]; exact c)
      omega
  rw [← hf]
  by_cases c : f = -1
  · rw [if_pos c, c]; rfl
  · rw [if_neg c, if_neg]
    rw [show (-1 : Int32) = jI (-1) from rfl, jIe (by omega) (by omega) (by omega) (by omega)]
    exact c
/-- a field's number -/
def numQ (v : Nat) (s : Bool) : Nat ⊕ Int64 := if nd v ≤ 18 then .inr (jL (if s then -(v : Int) else v)) else .inl 3
theorem e_num54 {v : Nat} {s : Bool} {I' : Nat → Nat → Int32} (kb : K b = 10) (r7 : R b 7 = b + 47) (d1 : Dc K R N (b + 47)) (hv : DV I' (b + 47) v s) (hlt : v < 10 ^ 64) : fX12_number_54 b (K, I', R, L, N, w) = some (numQ v s, (K, I', R, L, N, w)) := by
  have e := e_size (L := L) (w := w) d1 hv
  have nl := nd_le v
  unfold fX12_number_54 numQ
  rw [o_gR kb, o_ob, r7, e, o_ob]
  by_cases c : nd v ≤ 18
  · have lt18 : v < 10 ^ 18 := Nat.lt_of_lt_of_le (nd_lt hlt) (Nat.pow_le_pow_right (by omega) c)
    have x1 : jI (nd v : Int) ≤ 18 := by simp (disch := omega) only [jI_lit, jI_neg, jI_add, jI_sub, jI_mul, jI_lt, jI_le, jI_eq, va_up_self, va_up_ne, jI_shr1, jI_shr4, jI_shr0, jI_and1, jI_and15, jF_at, tn, b2_t, b2_f, cmp_ge, cmp_gt, cmp_le, cmp_lt, cmp_eq, jL_lit, jL_lt, jL_le, jL_eq]; omega
    rw [if_pos c, if_pos x1, o_ob, e_value d1 hv lt18, o_ob]
  · have x1 : ¬ (jI (nd v : Int) ≤ 18) := by simp (disch := omega) only [jI_lit, jI_neg, jI_add, jI_sub, jI_mul, jI_lt, jI_le, jI_eq, va_up_self, va_up_ne, jI_shr1, jI_shr4, jI_shr0, jI_and1, jI_and15, jF_at, tn, b2_t, b2_f, cmp_ge, cmp_gt, cmp_le, cmp_lt, cmp_eq, jL_lit, jL_lt, jL_le, jL_eq]; omega
    rw [if_neg c, if_neg x1]
theorem y_Number {p l : Int} {z : Bool} (h : RC K I R N X b many P r k A m nt cr n t fp im pc pu) (p1 : -2147483648 ≤ p) (p2 : p < 2147483648) (l1 : -2147483648 ≤ l) (l2 : l < 2147483648) : SCo K N w X b many P r k A m nt cr n t fp im pc pu (if 1 ≤ l ∧ l ≤ 16 ∧ 0 ≤ p ∧ p + l ≤ 256 then (if fnd (flz r z p.toNat l.toNat) (2 * p.toNat) (2 * l.toNat) = -1 then (if z then numQ (zkv r p.toNat l.toNat) (zks r p.toNat l.toNat) else numQ (pkv r p.toNat l.toNat) (pks r p.toNat l.toNat)) else .inl 1) else .inl 2) (fX12_number b (jI p) (jI l) (jI (b2 z)) (K, I, R, L, N, w)) := by
  obtain ⟨kb, r10, kd, rd, hr, ⟨g, hI⟩, ok⟩ := RC_now h
  obtain ⟨r7, -, -, d1, -⟩ := RC_decs h
  have e := e_nFd (I := I) (R := R) (L := L) (N := N) (w := w) (mx := 16) kb p1 p2 l1 l2 (by omega) (by omega)
  unfold fX12_number
  rw [o_gd _ kb, show (16 : Int32) = jI 16 from rfl, e]
  by_cases c : 1 ≤ l ∧ l ≤ 16 ∧ 0 ≤ p ∧ p + l ≤ 256
  · have es := e_nSo (L := L) (w := w) (z := z) (p := p.toNat) (q := l.toNat) h (by omega) (by omega)
    rw [show ((p.toNat : Nat) : Int) = p by omega, show ((l.toNat : Nat) : Int) = l by omega] at es
    rw [if_pos c, if_pos c, o_oer, es]
    by_cases d : fnd (flz r z p.toNat l.toNat) (2 * p.toNat) (2 * l.toNat) = -1
    · rw [if_pos d, if_pos d, o_oer]
      have hb := cls_byt (g := g) ok.1
      have d' : sou (cls r g) z p.toNat l.toNat := (flz_cls (by omega)).trans d
      cases z with
      | false =>
        have sn := sou_f d'
        have et := e_takePacked (L := L) (w := w) d1 hr hI hb (p := p.toNat) (n := l.toNat) (by omega) (by omega) sn (by omega)
        rw [show ((p.toNat : Nat) : Int) = p by omega, show ((l.toNat : Nat) : Int) = l by omega, pkv_cls (by omega), pks_cls (by omega) (by omega)] at et
        have lt := pkv_lt hb (p := p.toNat) (n := l.toNat) (by omega) sn
        rw [pkv_cls (by omega)] at lt
        have lt64 : pkv r p.toNat l.toNat < 10 ^ 64 := Nat.lt_of_lt_of_le lt (Nat.pow_le_pow_right (by omega) (by omega))
        rw [if_pos (show jI (b2 false) = 0 from rfl), o_gR kb, o_ob, r7, o_gR kb, o_ob, r10, o_gR kd, o_ob, rd, et, o_ob, e_num54 kb r7 d1 (DV_dset _ _ _ _) lt64, if_neg (by decide)]
        exact ⟨_, R, L, rfl, RC_I h (fun y hy => dset_ne _ _ _ _ (by omega) (by omega))⟩
      | true =>
        have sn := sou_t d'
        have et := e_takeZoned (L := L) (w := w) d1 hr hI hb (p := p.toNat) (n := l.toNat) (by omega) (by omega) (by omega) sn (by omega)
        have zc : zkv (cls r g) p.toNat l.toNat = zkv r p.toNat l.toNat := vl10_eq (fun i hi => by rw [hf_cls (by omega)])
        have zd : zks (cls r g) p.toNat l.toNat = zks r p.toNat l.toNat := by unfold zks; rw [hf_cls (by omega)]
        rw [show ((p.toNat : Nat) : Int) = p by omega, show ((l.toNat : Nat) : Int) = l by omega, zc, zd] at et
        have lt := zkv_lt hb (p := p.toNat) (n := l.toNat) (by omega) sn
        rw [zc] at lt
        have lt64 : zkv r p.toNat l.toNat < 10 ^ 64 := Nat.lt_of_lt_of_le lt (Nat.pow_le_pow_right (by omega) (by omega))
        rw [if_neg (show ¬ jI (b2 true) = 0 by decide), o_gR kb, o_ob, r7, o_gR kb, o_ob, r10, o_gR kd, o_ob, rd, et, o_ob, e_num54 kb r7 d1 (DV_dset _ _ _ _) lt64, if_pos rfl]
        exact ⟨_, R, L, rfl, RC_I h (fun y hy => dset_ne _ _ _ _ (by omega) (by omega))⟩
    · rw [if_neg d, if_neg d, o_oei]
      exact ⟨I, R, L, rfl, h⟩
  · rw [if_neg c, if_neg c, o_oei]
    exact ⟨I, R, L, rfl, h⟩
end FCF
