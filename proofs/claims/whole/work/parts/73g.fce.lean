section FCH
variable {K : Nat → Nat} {I : Nat → Nat → Int32} {R : Nat → Nat → Nat} {L : Nat → Nat → Int64} {N : Nat → Nat} {w : Nat × Nat × Nat × Nat} {X U C Z : Nat}
variable {b many k m n pc pu : Nat} {P : PG} {r nt cr t : Nat → Int} {A : Nat → Nat → Int} {fp : Int} {im : Option DS}
/-- the number that an answer of need measures -/
def ndQ (r : Nat → Int) (op : Int) (p c q d : Nat) : Nat := if op = 2 then pkv r p c * pkv r q d else (csum (pks r p c) (pks r q d != decide (op = 1)) (pkv r p c) (pkv r q d)).1
theorem e_pkd {a p q : Nat} {I1 : Nat → Nat → Int32} {g : Nat → Int} (hd : Dc K R N a) (hr : Rw K R N (b + 54)) (hI : I1 (b + 54 + 1) = jF (cls r g)) (hb : Byt r) (hq : 1 ≤ q) (hp : p + q ≤ 256) (hs : fnd (flz r false p q) (2 * p) (2 * q) = -1) (hx : b + 54 ≠ a) :
    fX1_takePacked a (b + 54) (jI (p : Int)) (jI (q : Int)) (K, I1, R, L, N, w) = some (K, dset I1 a (pkv r p q) (pks r p q), R, L, N, w) := by
  have sn : Snd (cls r g) p q := sou_f ((flz_cls (by omega)).trans hs)
  rw [e_takePacked hd hr hI (cls_byt hb) hp hq sn hx, pkv_cls hp, pks_cls hp hq]
theorem pk31 {p q : Nat} (hb : Byt r) (hp : p + q ≤ 256) (hq : q ≤ 16) (hs : fnd (flz r false p q) (2 * p) (2 * q) = -1) : pkv r p q < 10 ^ 31 := pkv64 hb hp hq (sou_f hs)
theorem e_nd135 {v : Nat} {s : Bool} {I' : Nat → Nat → Int32} (kb : K b = 10) (r9 : R b 9 = b + 51) (d3 : Dc K R N (b + 51)) (hv : DV I' (b + 51) v s) : fX12_need_135 b (K, I', R, L, N, w) = some (.inr (jI ((nd v / 2 + 1 : Nat) : Int)), (K, I', R, L, N, w)) := by
  have nl := nd_le v
  have e2 : jI (nd v : Int) / 2 + 1 = jI ((nd v / 2 + 1 : Nat) : Int) := by
    rw [show (2 : Int32) = jI 2 from rfl, show (1 : Int32) = jI 1 from rfl, jI_div (by omega) (by omega) (by omega) (by omega), jI_add]; congr 1
  unfold fX12_need_135
  rw [o_gR kb, o_ob, r9, e_size d3 hv, o_ob, e2]
theorem y_Need {op p l q c : Int} (h : RC K I R N X b many P r k A m nt cr n t fp im pc pu) (o1 : -2147483648 ≤ op) (o2 : op < 2147483648) (p1 : -2147483648 ≤ p) (p2 : p < 2147483648) (l1 : -2147483648 ≤ l) (l2 : l < 2147483648) (q1 : -2147483648 ≤ q) (q2 : q < 2147483648) (c1 : -2147483648 ≤ c) (c2 : c < 2147483648) :
    SCo K N w X b many P r k A m nt cr n t fp im pc pu (if 0 ≤ op ∧ op ≤ 2 then (if 1 ≤ l ∧ l ≤ 16 ∧ 0 ≤ p ∧ p + l ≤ 256 then (if 1 ≤ c ∧ c ≤ 16 ∧ 0 ≤ q ∧ q + c ≤ 256 then (if fnd (flz r false p.toNat l.toNat) (2 * p.toNat) (2 * l.toNat) = -1 then (if fnd (flz r false q.toNat c.toNat) (2 * q.toNat) (2 * c.toNat) = -1 then (.inr (jI ((nd (ndQ r op p.toNat l.toNat q.toNat c.toNat) / 2 + 1 : Nat) : Int)) : Nat ⊕ Int32) else .inl 1) else .inl 1) else .inl 2) else .inl 2) else .inl 2) (fX12_need b (jI op) (jI p) (jI l) (jI q) (jI c) (K, I, R, L, N, w)) := by
  obtain ⟨kb, r10, kd, rd, hr, ⟨g, hI⟩, ok⟩ := RC_now h
  obtain ⟨r7, r8, r9, d1, d2, d3, -⟩ := RC_decs h
  have e1 := e_nFd (I := I) (R := R) (L := L) (N := N) (w := w) (mx := 16) kb p1 p2 l1 l2 (by omega) (by omega)
  have e2 := e_nFd (I := I) (R := R) (L := L) (N := N) (w := w) (mx := 16) kb q1 q2 c1 c2 (by omega) (by omega)
  have hb := ok.1
  clear ok
  unfold fX12_need fX12_need_9
  rw [o_gd _ kb, show (16 : Int32) = jI 16 from rfl, e1, e2]
  by_cases x : 0 ≤ op ∧ op ≤ 2
  rotate_left
  · rw [if_neg x]
    refine ⟨I, R, L, ?_, h⟩
    by_cases y : op < 0
    · have y1 : jI op < 0 := by simp (disch := omega) only [jI_lit, jI_neg, jI_add, jI_sub, jI_mul, jI_lt, jI_le, jI_eq, va_up_self, va_up_ne, jI_shr1, jI_shr4, jI_shr0, jI_and1, jI_and15, jF_at, tn, b2_t, b2_f, cmp_ge, cmp_gt, cmp_le, cmp_lt, cmp_eq, jL_lit, jL_lt, jL_le, jL_eq]; omega
      rw [if_pos y1]
    · have y1 : ¬ (jI op < 0) := by simp (disch := omega) only [jI_lit, jI_neg, jI_add, jI_sub, jI_mul, jI_lt, jI_le, jI_eq, va_up_self, va_up_ne, jI_shr1, jI_shr4, jI_shr0, jI_and1, jI_and15, jF_at, tn, b2_t, b2_f, cmp_ge, cmp_gt, cmp_le, cmp_lt, cmp_eq, jL_lit, jL_lt, jL_le, jL_eq]; omega
      have y2 : ¬ (jI op ≤ 2) := by simp (disch := omega) only [jI_lit, jI_neg, jI_add, jI_sub, jI_mul, jI_lt, jI_le, jI_eq, va_up_self, va_up_ne, jI_shr1, jI_shr4, jI_shr0, jI_and1, jI_and15, jF_at, tn, b2_t, b2_f, cmp_ge, cmp_gt, cmp_le, cmp_lt, cmp_eq, jL_lit, jL_lt, jL_le, jL_eq]; omega
      rw [if_neg y1, if_neg y2]
  have y1 : ¬ (jI op < 0) := by simp (disch := omega) only [jI_lit, jI_neg, jI_add, jI_sub, jI_mul, jI_lt, jI_le, jI_eq, va_up_self, va_up_ne, jI_shr1, jI_shr4, jI_shr0, jI_and1, jI_and15, jF_at, tn, b2_t, b2_f, cmp_ge, cmp_gt, cmp_le, cmp_lt, cmp_eq, jL_lit, jL_lt, jL_le, jL_eq]; omega
  have y2 : jI op ≤ 2 := by simp (disch := omega) only [jI_lit, jI_neg, jI_add, jI_sub, jI_mul, jI_lt, jI_le, jI_eq, va_up_self, va_up_ne, jI_shr1, jI_shr4, jI_shr0, jI_and1, jI_and15, jF_at, tn, b2_t, b2_f, cmp_ge, cmp_gt, cmp_le, cmp_lt, cmp_eq, jL_lit, jL_lt, jL_le, jL_eq]; omega
  rw [if_pos x, if_neg y1, if_pos y2]
  by_cases f : 1 ≤ l ∧ l ≤ 16 ∧ 0 ≤ p ∧ p + l ≤ 256
  rotate_left
  · rw [if_neg f, if_neg f, o_oei]
    exact ⟨I, R, L, rfl, h⟩
  rw [if_pos f, if_pos f, o_oer]
  by_cases f2 : 1 ≤ c ∧ c ≤ 16 ∧ 0 ≤ q ∧ q + c ≤ 256
  rotate_left
  · rw [if_neg f2, if_neg f2, o_oei]
    exact ⟨I, R, L, rfl, h⟩
  have es := e_nSo (L := L) (w := w) (z := false) (p := p.toNat) (q := l.toNat) h (by omega) (by omega)
  have es2 := e_nSo (L := L) (w := w) (z := false) (p := q.toNat) (q := c.toNat) h (by omega) (by omega)
  rw [show ((p.toNat : Nat) : Int) = p by omega, show ((l.toNat : Nat) : Int) = l by omega] at es
  rw [show ((q.toNat : Nat) : Int) = q by omega, show ((c.toNat : Nat) : Int) = c by omega] at es2
  rw [if_pos f2, if_pos f2, o_oer, show (0 : Int32) = jI (b2 false) from rfl, es, es2]
  by_cases s : fnd (flz r false p.toNat l.toNat) (2 * p.toNat) (2 * l.toNat) = -1
  rotate_left
  · rw [if_neg s, if_neg s, o_oei]
    exact ⟨I, R, L, rfl, h⟩
  rw [if_pos s, if_pos s, o_oer]
  by_cases s2 : fnd (flz r false q.toNat c.toNat) (2 * q.toNat) (2 * c.toNat) = -1
  rotate_left
  · rw [if_neg s2, if_neg s2, o_oei]
    exact ⟨I, R, L, rfl, h⟩
  have t1 := e_pkd (L := L) (w := w) (p := p.toNat) (q := l.toNat) d1 hr hI hb (by omega) (by omega) s (by omega)
  obtain ⟨v, hv⟩ : ∃ v, v = pkv r p.toNat l.toNat := ⟨_, rfl⟩
  obtain ⟨sv, hsv⟩ : ∃ sv, sv = pks r p.toNat l.toNat := ⟨_, rfl⟩
  obtain ⟨u, hu⟩ : ∃ u, u = pkv r q.toNat c.toNat := ⟨_, rfl⟩
  obtain ⟨su, hsu⟩ : ∃ su, su = pks r q.toNat c.toNat := ⟨_, rfl⟩
  have v31 : v < 10 ^ 31 := by rw [hv]; exact pk31 hb (by omega) (by omega) s
  have u31 : u < 10 ^ 31 := by rw [hu]; exact pk31 hb (by omega) (by omega) s2
  rw [← hv, ← hsv, show ((p.toNat : Nat) : Int) = p by omega, show ((l.toNat : Nat) : Int) = l by omega] at t1
  obtain ⟨I1, hI1⟩ : ∃ I1, I1 = dset I (b + 47) v sv := ⟨_, rfl⟩
  rw [← hI1] at t1
  have j1 : ∀ y, (y < b + 40 ∨ b + 53 ≤ y ∨ (b + 45 ≤ y ∧ y < b + 47)) → I1 y = I y := fun y hy => by rw [hI1]; exact dset_ne _ _ _ _ (by omega) (by omega)
  have dv1 : DV I1 (b + 47) v sv := by rw [hI1]; exact DV_dset _ _ _ _
  have t2 := e_pkd (L := L) (w := w) (p := q.toNat) (q := c.toNat) d2 hr ((j1 _ (by omega)).trans hI) hb (by omega) (by omega) s2 (by omega)
  rw [← hu, ← hsu, show ((q.toNat : Nat) : Int) = q by omega, show ((c.toNat : Nat) : Int) = c by omega] at t2
  obtain ⟨I2, hI2⟩ : ∃ I2, I2 = dset I1 (b + 49) u su := ⟨_, rfl⟩
  rw [← hI2] at t2
  have j2 : ∀ y, (y < b + 40 ∨ b + 53 ≤ y ∨ (b + 45 ≤ y ∧ y < b + 47)) → I2 y = I y := fun y hy => by rw [hI2, dset_ne _ _ _ _ (by omega) (by omega)]; exact j1 y hy
  have dv2 : DV I2 (b + 49) u su := by rw [hI2]; exact DV_dset _ _ _ _
  have dv1' : DV I2 (b + 47) v sv := by rw [hI2]; exact DV_ne dv1 (by omega) (by omega) (by omega)
  have p64 : (10 : Nat) ^ 31 ≤ 10 ^ 64 := Nat.pow_le_pow_right (by omega) (by omega)
  have v64 : v < 10 ^ 64 := Nat.lt_of_lt_of_le v31 p64
  have u64 : u < 10 ^ 64 := Nat.lt_of_lt_of_le u31 p64
  rw [if_pos s2, if_pos s2, o_oer, o_gR kb, o_ob, r7, o_gR kb, o_ob, r10, o_gR kd, o_ob, rd, t1, o_ob, o_gR kb, o_ob, r8, o_gR kb, o_ob, r10, o_gR kd, o_ob, rd, t2, o_ob]
  unfold ndQ
  rw [← hv, ← hu, ← hsv, ← hsu]
  clear es es2 e1 e2 t1 t2 s s2 f f2 hI hb hv hu hsv hsu v31 u31 y1 y2 p64
  by_cases x2 : op = 2
  · have m1 := e_multiply (L := L) (w := w) d3 d1 d2 (by omega) (by omega) (by omega) (by omega) dv1' dv2
    rw [if_pos (show jI op = 2 by rw [x2]; rfl), if_pos x2, o_gR kb, o_ob, r9, o_gR kb, o_ob, r7, o_gR kb, o_ob, r8, m1, o_ob, e_nd135 kb r9 d3 (DV_dset _ _ _ _)]
    exact ⟨_, R, L, rfl, RC_I h (fun y hy => by rw [dset_ne _ _ _ _ (by omega) (by omega)]; exact j2 y hy)⟩
  · rw [if_neg (show ¬ jI op = 2 by rw [show (2 : Int32) = jI 2 from rfl, jIe o1 o2 (by omega) (by omega)]; exact x2), if_neg x2, o_gR kb, o_ob, r9, o_gR kb, o_ob, r7, o_gR kb, o_ob, r8]
    unfold fX12_need_132
    have m1 := fun less => e_add (L := L) (w := w) (less := less) d3 d1 d2 (by omega) (by omega) (by omega) (by omega) (by omega) (by omega) dv1' dv2 v64 u64
    by_cases x1 : op = 1
    · rw [if_pos (show jI op = 1 by rw [x1]; rfl), show (1 : Int32) = jI (b2 true) from rfl, m1 true, o_ob, e_nd135 kb r9 d3 (DV_dset _ _ _ _), show decide (op = 1) = true by simpa using x1]
      exact ⟨_, R, L, rfl, RC_I h (fun y hy => by rw [dset_ne _ _ _ _ (by omega) (by omega)]; exact j2 y hy)⟩
    · rw [if_neg (show ¬ jI op = 1 by rw [show (1 : Int32) = jI 1 from rfl, jIe o1 o2 (by omega) (by omega)]; exact x1), m1 false, o_ob, e_nd135 kb r9 d3 (DV_dset _ _ _ _), show decide (op = 1) = false by simpa using x1]
      exact ⟨_, R, L, rfl, RC_I h (fun y hy => by rw [dset_ne _ _ _ _ (by omega) (by omega)]; exact j2 y hy)⟩
end FCH
