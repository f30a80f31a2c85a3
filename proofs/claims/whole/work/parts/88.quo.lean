section RQU
variable {c : MC} {m : Nat} {f r : Nat → Int} {s t : SI2}
theorem LV_Lz_eq {g : Nat → Int} {v : Nat} (h : LV g v) : Lz g v = g := by
  funext k
  unfold Lz
  by_cases q : k < 8
  · rw [if_pos q, h k q]
  · rw [if_neg q]
theorem LV_put {g : Nat → Int} {v k d : Nat} (h : LV g v) (hk : k < 64) (hd : dg v k + d ≤ 9) : LV (va_up g (k / 8) (g (k / 8) + (d : Int) * ((10 ^ (k % 8) : Nat) : Int))) (v + d * 10 ^ k) := by
  have e := Lz_put (f := g) hk hd
  rw [LV_Lz_eq h] at e
  rw [e]
  exact LV_Lz _ _
theorem LV_unput {g : Nat → Int} {v k d : Nat} (h : LV g (v + d * 10 ^ k)) (hk : k < 64) (hd : dg v k + d ≤ 9) : LV (va_up g (k / 8) (g (k / 8) + (-(d : Int)) * ((10 ^ (k % 8) : Nat) : Int))) v := by
  intro i hi
  have e := dgb_put v d k i hd
  by_cases q : i = k / 8
  · subst q
    ((try rw [va_up_self]); rw [h _ hi, e, if_pos (show k / 8 = k / 8 from rfl), Int.neg_mul])
    have e2 : ((d * 10 ^ (k % 8) : Nat) : Int) = (d : Int) * ((10 ^ (k % 8) : Nat) : Int) := Int.natCast_mul _ _
    omega
  · ((try rw [va_up_ne _ _ q]); rw [h i hi, e, if_neg q, Nat.add_zero])
theorem lp_s1 {τ : Type} (z : τ) (S : τ → τ) (n : Nat) : lp z S (n + 1) = S (lp z S n) := rfl
theorem lp_FU {τ : Type} (z : τ) (S : τ → τ) : lp z S FU = S (lp z S 1099511627775) := lp_s1 z S 1099511627775
/-- the quotient's digits from a place on -/
def qhi (x k : Nat) : Nat := x / 10 ^ k * 10 ^ k
theorem qhi_s (x k : Nat) : qhi x k = qhi x (k + 1) + dg x k * 10 ^ k := by
  unfold qhi dg
  rw [div_s]
  have e := Nat.div_add_mod (x / 10 ^ k) 10
  have e2 : x / 10 ^ k / 10 * 10 ^ (k + 1) = (10 * (x / 10 ^ k / 10)) * 10 ^ k := by
    rw [Nat.pow_succ, Nat.mul_comm (10 ^ k) 10, ← Nat.mul_assoc, Nat.mul_comm _ 10]
  rw [e2, ← Nat.add_mul, e]
theorem qhi_le (x k : Nat) : qhi x k ≤ x := Nat.div_mul_le_self _ _
theorem qhi_dg (x k : Nat) : dg (qhi x (k + 1)) k = 0 := by
  unfold qhi
  have := dgb_hi (B := 10) (by omega) 0 (x / 10 ^ (k + 1)) (show k < k + 1 by omega)
  rw [Nat.zero_add] at this
  exact this.trans (by unfold dgb; rw [Nat.zero_div, Nat.zero_mod])
theorem qhi_try {v u k d : Nat} (hu : 0 < u) (hd : d ≤ 9) : (qhi (v / u) (k + 1) + d * 10 ^ k) * u ≤ v ↔ d ≤ dg (v / u) k := by
  have p0 : 0 < 10 ^ k := Nat.pow_pos (by omega)
  rw [← Nat.le_div_iff_mul_le hu]
  obtain ⟨x, hx⟩ : ∃ x, x = v / u := ⟨_, rfl⟩
  rw [← hx]
  have e := qhi_s x k
  have l := qhi_le x k
  have e3 : x = qhi x k + x % 10 ^ k := by
    have := Nat.div_add_mod x (10 ^ k)
    unfold qhi
    rw [Nat.mul_comm]; omega
  have lt := Nat.mod_lt x p0
  constructor
  · intro h
    apply Decidable.byContradiction
    intro n
    have h1 : (dg x k + 1) * 10 ^ k ≤ d * 10 ^ k := Nat.mul_le_mul_right _ (by omega)
    rw [Nat.add_mul, Nat.one_mul] at h1
    omega
  · intro h
    have h1 : d * 10 ^ k ≤ dg x k * 10 ^ k := Nat.mul_le_mul_right _ h
    omega
theorem p33 {x k u d : Nat} (hx : x < 10 ^ 31) (hk : k ≤ 31) (hd : d ≤ 9) (hu : u < 10 ^ 31) : (qhi x (k + 1) + d * 10 ^ k) * u < 10 ^ 64 := by
  have l := qhi_le x (k + 1)
  have h1 : 10 ^ k ≤ 10 ^ 31 := Nat.pow_le_pow_right (by omega) hk
  have h2 : d * 10 ^ k ≤ 9 * 10 ^ 31 := Nat.mul_le_mul hd h1
  have h3 : qhi x (k + 1) + d * 10 ^ k ≤ 10 ^ 32 := by
    have e : (10 : Nat) ^ 32 = 10 * 10 ^ 31 := by rw [Nat.pow_succ, Nat.mul_comm]
    omega
  have h4 : (qhi x (k + 1) + d * 10 ^ k) * u ≤ 10 ^ 32 * 10 ^ 31 := Nat.mul_le_mul h3 (by omega)
  rw [← Nat.pow_add] at h4
  have h5 : (10 : Nat) ^ (32 + 31) < 10 ^ 64 := Nat.pow_lt_pow_right (by omega) (by omega)
  omega
/-- one digit is found -/
theorem s_quoD {v u K : Nat} (k15 : Nat → Int32 → Hp → Option Hp) (hm : Mo c m) (hK : K ≤ 31) (h18 : LV (t 18) v) (h19 : LV (t 19) u) (h20 : LV (t 20) (qhi (v / u) (K + 1))) (lv : v < 10 ^ 31) (lu : u < 10 ^ 31) (hu : 0 < u) :
    ∃ t', (LV (t' 18) v ∧ LV (t' 19) u ∧ LV (t' 20) (qhi (v / u) K)) ∧ lp (fun _ _ _ _ => none) (fX13_quotient_22 k15) FU m (jI (K : Int)) (jI 9) (MS c m f r s t) = k15 m (jI ((K : Int) - 1)) (MS c m f r s t') := by
  have d9 := dg_lt (v / u) K
  have lx : v / u < 10 ^ 31 := Nat.lt_of_le_of_lt (Nat.div_le_self _ _) lv
  have k31 := l31
  have key := lp_sr (z := fun _ _ _ _ => none) (S := fX13_quotient_22 k15) (β := Hp) (ev := fun k (e : Nat) (T : SI2) => k m (jI (K : Int)) (jI (9 - (e : Int))) (MS c m f r s T)) (hi := 9) (Inv := fun e T => (LV (T 18) v ∧ LV (T 19) u ∧ LV (T 20) (qhi (v / u) (K + 1))) ∧ dg (v / u) K ≤ 9 - e) (Post := fun res => ∃ t', (LV (t' 18) v ∧ LV (t' 19) u ∧ LV (t' 20) (qhi (v / u) K)) ∧ res = k15 m (jI ((K : Int) - 1)) (MS c m f r s t')) ?_ ?_ FU 0 t (by omega) (FU_lt (by omega)) ⟨⟨h18, h19, h20⟩, by omega⟩
  · exact key
  · intro e T he hinv k2
    obtain ⟨⟨a18, a19, a20⟩, hd⟩ := hinv
    obtain ⟨d, hd9⟩ : ∃ d : Nat, d = 9 - e := ⟨_, rfl⟩
    have ed : (9 : Int) - (e : Int) = (d : Int) := by omega
    have e64 : ((K : Int) / 8).toNat = K / 8 := by omega
    have e65 : ((K : Int) % 8).toNat = K % 8 := by omega
    have dz := qhi_dg (v / u) K
    obtain ⟨T1, hT1⟩ : ∃ T1, T1 = va_up T 20 (va_up (T 20) (K / 8) (T 20 (K / 8) + (d : Int) * ((10 ^ (K % 8) : Nat) : Int))) := ⟨_, rfl⟩
    have b18 : LV (T1 18) v := by rw [hT1]; exact LV_up a18 (by omega)
    have b19 : LV (T1 19) u := by rw [hT1]; exact LV_up a19 (by omega)
    have b20 : LV (T1 20) (qhi (v / u) (K + 1) + d * 10 ^ K) := by rw [hT1]; exact LV_at (LV_put a20 (by omega) (by omega))
    obtain ⟨T2, hT2⟩ : ∃ T2, T2 = va_up T1 21 (Lz (T1 21) ((qhi (v / u) (K + 1) + d * 10 ^ K) * u)) := ⟨_, rfl⟩
    have c18 : LV (T2 18) v := by rw [hT2]; exact LV_up b18 (by omega)
    have c19 : LV (T2 19) u := by rw [hT2]; exact LV_up b19 (by omega)
    have c20 : LV (T2 20) (qhi (v / u) (K + 1) + d * 10 ^ K) := by rw [hT2]; exact LV_up b20 (by omega)
    have c21 : LV (T2 21) ((qhi (v / u) (K + 1) + d * 10 ^ K) * u) := by rw [hT2]; exact LV_at (LV_Lz _ _)
    have try' := qhi_try (v := v) (u := u) (k := K) (d := d) hu (by omega)
    have lt64 := p33 (x := v / u) (k := K) (u := u) (d := d) lx hK (by omega) lu
    unfold fX13_quotient_22
    (rw [ed, if_neg (by first | ((simp (disch := omega) only [jI_lit, jI_neg, jI_add, jI_sub, jI_mul, jI_lt, jI_le, jI_eq, jL_lit, jL_lt, jL_le, jL_eq]) <;> omega) | omega)]; (try rw [s_R32 hm]); rw [o_ob, s_put hm (by omega) (by omega) (by omega) (by omega) (by omega) (by omega), o_ob]; (try rw [e64]); (try rw [e65]); (try rw [← hT1]); (try rw [s_R33 hm]); rw [o_ob]; (try rw [s_R32 hm]); rw [o_ob]; (try rw [s_R31 hm]); rw [o_ob, s_product hm (by omega) (by omega) (by omega) (by omega) (by omega) (by omega) (by omega) (by omega) b20 b19, o_ob]; (try rw [← hT2]); (try rw [s_R33 hm]); rw [o_ob]; (try rw [s_R30 hm]); rw [o_ob, s_order hm (by omega) (by omega) (by omega) (by omega) c21 c18 lt64 (by omega), o_ob])
    by_cases q : (qhi (v / u) (K + 1) + d * 10 ^ K) * u ≤ v
    · left
      have hle := try'.1 q
      have x1 : ¬ (0 < jI (if (qhi (v / u) (K + 1) + d * 10 ^ K) * u < v then -1 else if (qhi (v / u) (K + 1) + d * 10 ^ K) * u = v then 0 else 1)) := by
        by_cases y : (qhi (v / u) (K + 1) + d * 10 ^ K) * u < v
        · rw [if_pos y]; decide
        · rw [if_neg y, if_pos (by omega)]; decide
      (rw [if_neg x1, o_lt]; (try rw [show (-1 : Int32) = jI (-1) from rfl]); (try rw [jI_add]))
      refine ⟨T2, ⟨c18, c19, ?_⟩, rfl⟩
      rw [qhi_s, show dg (v / u) K = d by omega]
      exact c20
    · right
      have hgt : ¬ d ≤ dg (v / u) K := fun x => q (try'.2 x)
      have x1 : 0 < jI (if (qhi (v / u) (K + 1) + d * 10 ^ K) * u < v then -1 else if (qhi (v / u) (K + 1) + d * 10 ^ K) * u = v then 0 else 1) := by
        rw [if_neg (by omega), if_neg (by omega)]; decide
      (rw [if_pos x1]; (try rw [s_R32 hm]); rw [o_ob]; (try rw [jI_neg]); rw [s_put hm (by omega) (by omega) (by omega) (by omega) (by omega) (by omega), o_ob]; (try rw [e64]); (try rw [e65]); rw [o_lt]; (try rw [show (-1 : Int32) = jI (-1) from rfl]); (try rw [jI_add]); (try rw [show (d : Int) + -1 = 9 - ((e + 1 : Nat) : Int) by omega]))
      exact ⟨_, ⟨⟨LV_up c18 (by omega), LV_up c19 (by omega), LV_at (LV_unput c20 (by omega) (by omega))⟩, by omega⟩, rfl⟩
  · intro T hinv k2
    obtain ⟨⟨a18, a19, a20⟩, hd⟩ := hinv
    unfold fX13_quotient_22
    ((try rw [show (9 : Int) - ((9 : Nat) : Int) = 0 from rfl]); rw [if_pos (by decide), o_lt]; (try rw [show (-1 : Int32) = jI (-1) from rfl]); (try rw [jI_add]))
    refine ⟨T, ⟨a18, a19, ?_⟩, rfl⟩
    (rw [qhi_s]; (try rw [show dg (v / u) K = 0 by omega]); rw [Nat.zero_mul, Nat.add_zero])
    exact a20
theorem s_quo {v u : Nat} (hm : Mo c m) (h18 : LV (t 18) v) (h19 : LV (t 19) u) (lv : v < 10 ^ 31) (lu : u < 10 ^ 31) (hu : 0 < u) :
    ∃ t', fX13_quotient m (MS c m f r s t) = some (MS c m f r s t') ∧ LV (t' 20) (v / u) ∧ LV (t' 21) (v % u) := by
  have k31 := l31
  have n31 : nd v ≤ 31 := by
    apply Decidable.byContradiction
    intro h
    have h2 := (nd_gt (n := 31) (show v < 10 ^ 64 by omega)).1 (by omega)
    omega
  have ln : v < 10 ^ nd v := nd_lt (by omega)
  unfold fX13_quotient
  (rw [s_gd _ hm]; (try rw [s_R32 hm]); rw [o_ob, s_clear hm (by omega) (by omega), o_ob]; (try rw [s_R30 hm]); rw [o_ob, s_digits (v := v) hm (by omega) (by omega) (LV_up h18 (by omega)), o_ob])
  have key := lp_sr (z := fun _ _ _ => none) (S := fX13_quotient_15) (β := Hp) (ev := fun k (i : Nat) (T : SI2) => k m (jI ((nd v : Int) - (i : Int))) (MS c m f r s T)) (hi := nd v + 1) (Inv := fun i T => LV (T 18) v ∧ LV (T 19) u ∧ LV (T 20) (qhi (v / u) (nd v + 1 - i))) (Post := fun res => ∃ t', res = some (MS c m f r s t') ∧ LV (t' 20) (v / u) ∧ LV (t' 21) (v % u)) ?_ ?_ FU 0 (va_up t 20 (Lz (t 20) 0)) (by omega) (FU_lt (by omega)) ⟨LV_up h18 (by omega), LV_up h19 (by omega), ?_⟩
  · exact key
  · intro i T hi hinv k
    obtain ⟨a18, a19, a20⟩ := hinv
    obtain ⟨K, hK⟩ : ∃ K, K = nd v - i := ⟨_, rfl⟩
    rw [show nd v + 1 - i = K + 1 by omega] at a20
    obtain ⟨t', b1, b2'⟩ := s_quoD (f := f) (r := r) (s := s) k hm (show K ≤ 31 by omega) a18 a19 a20 lv lu hu
    refine Or.inr ⟨t', ?_, ?_⟩
    · rw [show nd v + 1 - (i + 1) = K by omega]; exact b1
    · unfold fX13_quotient_15
      ((try rw [show (nd v : Int) - (i : Int) = (K : Int) by omega]); rw [if_neg (by first | ((simp (disch := omega) only [jI_lit, jI_neg, jI_add, jI_sub, jI_mul, jI_lt, jI_le, jI_eq, jL_lit, jL_lt, jL_le, jL_eq]) <;> omega) | omega)]; (try rw [show (9 : Int32) = jI 9 from rfl]); rw [b2']; (try rw [show (nd v : Int) - ((i + 1 : Nat) : Int) = (K : Int) - 1 by omega]))
  · intro T hinv k
    obtain ⟨a18, a19, a20⟩ := hinv
    have e0 : qhi (v / u) (nd v + 1 - (nd v + 1)) = v / u := by
      rw [Nat.sub_self]; unfold qhi; rw [Nat.pow_zero, Nat.div_one, Nat.mul_one]
    rw [e0] at a20
    have hle := Nat.div_mul_le_self v u
    unfold fX13_quotient_15
    (rw [if_pos (by first | ((simp (disch := omega) only [jI_lit, jI_neg, jI_add, jI_sub, jI_mul, jI_lt, jI_le, jI_eq, jL_lit, jL_lt, jL_le, jL_eq]) <;> omega) | omega)]; (try rw [s_R33 hm]); rw [o_ob]; (try rw [s_R32 hm]); rw [o_ob]; (try rw [s_R31 hm]); rw [o_ob, s_product hm (by omega) (by omega) (by omega) (by omega) (by omega) (by omega) (by omega) (by omega) a20 a19, o_ob]; (try rw [s_R33 hm]); rw [o_ob]; (try rw [s_R30 hm]); rw [o_ob]; (try rw [s_R33 hm]); rw [o_ob, s_less hm (by omega) (by omega) (by omega) (by omega) (by omega) (by omega) (LV_up a18 (by omega)) (LV_at (LV_Lz _ _)) hle, o_ob])
    refine ⟨_, rfl, LV_up (LV_up a20 (by omega)) (by omega), ?_⟩
    have e1 : v - v / u * u = v % u := by
      have := Nat.div_add_mod v u
      rw [Nat.mul_comm] at this
      omega
    rw [e1]
    exact LV_at (LV_Lz _ _)
  · have e0 : qhi (v / u) (nd v + 1 - 0) = 0 := by
      unfold qhi
      have h1 : v / u < 10 ^ (nd v + 1) := Nat.lt_of_le_of_lt (Nat.div_le_self _ _) (Nat.lt_of_lt_of_le ln (Nat.pow_le_pow_right (by omega) (by omega)))
      rw [Nat.sub_zero, Nat.div_eq_of_lt h1, Nat.zero_mul]
    rw [e0]
    exact LV_at (LV_Lz _ _)
def prD (r : Nat → Int) (A n B l : Nat) : (Nat → Int) × Option FT6 :=
  if pkv r B l = 0 ∨ 2 * (n - l) - 1 < nd (pkv r A n / pkv r B l) then (r, some (7, 0, (A : Int), (n : Int), -1, 0))
  else (sto (sto r A (n - l) (pkv r A n / pkv r B l) (if (pks r A n != pks r B l) = true then 13 else 12)) (A + n - l) l (pkv r A n % pkv r B l) (if pks r A n = true then 13 else 12), none)
theorem s_doQuotient {A n B l : Nat} (hm : Mo c m) (hb : Byt r) (e34 : f 34 = (A : Int)) (e35 : f 35 = (n : Int)) (e36 : f 36 = (B : Int)) (e37 : f 37 = (l : Int)) (hA : A + n ≤ 256) (n2 : n ≤ 16) (hB : B + l ≤ 256) (l1 : 1 ≤ l) (ln : l < n) (sA : Snd r A n) (sB : Snd r B l) (h0 : f 38 = 0) :
    ∃ f' t', fX13_doQuotient m (MS c m f r s t) = some (MS c m f' (prD r A n B l).1 s t') ∧ Stg f f' (prD r A n B l).2 := by
  have la := hf_lt hb (h := 2 * (A + n) - 1) (by omega)
  have lb := hf_lt hb (h := 2 * (B + l) - 1) (by omega)
  have ra := b2_r (pks r A n)
  have rb := b2_r (pks r B l)
  have vA := pow_31 (pkv_lt hb hA sA) n2
  have vB := pow_31 (pkv_lt hb hB sB) (show l ≤ 16 by omega)
  have k31 := l31
  have e7 : (some (MS c m (rsv f 7 0 (f 34) (f 35)) r s t) : Option Hp) = some (MS c m (rsv f 7 0 (A : Int) (n : Int)) r s t) := by rw [e34, e35]
  unfold fX13_doQuotient
  (rw [s_gd _ hm]; (try rw [s_R30 hm]); rw [o_ob]; (try rw [s_gI hm]); rw [o_ob]; (try rw [s_gI hm]); rw [o_ob]; (try rw [e34]); (try rw [e35]); rw [s_load hm hb (by omega) (by omega) hA (by omega) n2 sA, o_ob]; (try rw [s_R31 hm]); rw [o_ob]; (try rw [s_gI hm]); rw [o_ob]; (try rw [s_gI hm]); rw [o_ob]; (try rw [e36]); (try rw [e37]); rw [s_load hm hb (by omega) (by omega) hB l1 (by omega) sB, o_ob]; (try rw [s_R31 hm]); rw [o_ob])
  obtain ⟨T, hT⟩ : ∃ T, T = va_up (va_up t 18 (Lz (t 18) (pkv r A n))) 19 (Lz (va_up t 18 (Lz (t 18) (pkv r A n)) 19) (pkv r B l)) := ⟨_, rfl⟩
  have t18 : LV (T 18) (pkv r A n) := by rw [hT]; exact LV_up (LV_at (LV_Lz _ _)) (by omega)
  have t19 : LV (T 19) (pkv r B l) := by rw [hT]; exact LV_at (LV_Lz _ _)
  ((try rw [← hT]); rw [s_noth hm (by omega) (by omega) t19 (by omega), o_ob])
  unfold prD
  by_cases z : pkv r B l = 0
  · (rw [if_pos z, if_neg (by decide), if_pos (Or.inl z)]; (try rw [show (7 : Int32) = jI 7 from rfl]); (try rw [show (0 : Int32) = jI 0 from rfl]); rw [s_raise0 hm h0, o_ob]; (try rw [e34]); (try rw [e35]))
    exact ⟨_, _, rfl, Stg_v⟩
  · obtain ⟨T2, q1, q2, q3⟩ := s_quo (f := f) (r := r) (s := s) hm t18 t19 vA vB (by omega)
    have nl := nd_le (pkv r A n / pkv r B l)
    (rw [if_neg z, if_pos (by decide)]; (try rw [q1]); rw [o_ob]; (try rw [s_R32 hm]); rw [o_ob, s_digits hm (by omega) (by omega) q2, o_ob]; (try rw [s_gI hm]); rw [o_ob]; (try rw [s_gI hm]); rw [o_ob]; (try rw [e35]); (try rw [e37]); (try rw [show (2 : Int32) = jI 2 from rfl]); (try rw [show (1 : Int32) = jI 1 from rfl]); (try rw [jI_sub]); (try rw [jI_mul]); (try rw [jI_sub]))
    by_cases cx : 2 * (n - l) - 1 < nd (pkv r A n / pkv r B l)
    · (rw [if_neg (by first | ((simp (disch := omega) only [jI_lit, jI_neg, jI_add, jI_sub, jI_mul, jI_lt, jI_le, jI_eq, jL_lit, jL_lt, jL_le, jL_eq]) <;> omega) | omega), if_pos (Or.inr cx)]; (try rw [show (7 : Int32) = jI 7 from rfl]); (try rw [show (0 : Int32) = jI 0 from rfl]); rw [s_raise0 hm h0, o_ob]; (try rw [e34]); (try rw [e35]))
      exact ⟨_, _, rfl, Stg_v⟩
    · rw [if_pos (by first | ((simp (disch := omega) only [jI_lit, jI_neg, jI_add, jI_sub, jI_mul, jI_lt, jI_le, jI_eq, jL_lit, jL_lt, jL_le, jL_eq]) <;> omega) | omega), if_neg (fun x => x.elim z cx)]
      have main : ∀ y : Bool, fX13_doQuotient_125 m (jI (b2 (pks r A n))) (jI (b2 y)) (MS c m f r s T2) = some (MS c m f (sto (sto r A (n - l) (pkv r A n / pkv r B l) (if y = true then 13 else 12)) (A + n - l) l (pkv r A n % pkv r B l) (if pks r A n = true then 13 else 12)) s T2) := by
        intro y
        unfold fX13_doQuotient_125
        ((try rw [s_gI hm]); rw [o_ob]; (try rw [s_gI hm]); rw [o_ob]; (try rw [s_gI hm]); rw [o_ob]; (try rw [s_R32 hm]); rw [o_ob]; (try rw [e34]); (try rw [e35]); (try rw [e37]); (try rw [jI_sub]); (try rw [show (n : Int) - (l : Int) = ((n - l : Nat) : Int) by omega]); rw [s_store hm hb (by omega) (by omega) (by omega) (by omega) (by omega) q2, o_ob]; (try rw [s_gI hm]); rw [o_ob]; (try rw [s_gI hm]); rw [o_ob]; (try rw [s_gI hm]); rw [o_ob]; (try rw [s_gI hm]); rw [o_ob]; (try rw [s_R33 hm]); rw [o_ob]; (try rw [e34]); (try rw [e35]); (try rw [e37]); (try rw [jI_add]); (try rw [jI_sub]); (try rw [show (A : Int) + (n : Int) - (l : Int) = ((A + n - l : Nat) : Int) by omega]); rw [s_store hm (sto_byt hb (by split <;> omega) (by split <;> omega)) (by omega) (by omega) (by omega) l1 (by omega) q3, o_ob])
      ((try rw [s_gI hm]); rw [o_ob]; (try rw [s_gI hm]); rw [o_ob]; (try rw [e34]); (try rw [e35]); rw [s_sign hm hb hA (by omega), o_ob, w_below (by omega) (by omega), o_ob]; (try rw [s_gI hm]); rw [o_ob]; (try rw [s_gI hm]); rw [o_ob]; (try rw [e36]); (try rw [e37]); rw [s_sign hm hb hB l1, o_ob, w_below (by omega) (by omega), o_ob]; (try rw [show b2 (bel (hf r (2 * (A + n) - 1))) = b2 (pks r A n) from rfl]); (try rw [show b2 (bel (hf r (2 * (B + l) - 1))) = b2 (pks r B l) from rfl]))
      by_cases q : pks r A n = pks r B l
      · have e : (pks r A n != pks r B l) = false := by rw [q]; simp
        (rw [if_pos (by rw [q]), e]; (try rw [show (0 : Int32) = jI (b2 false) from rfl]); rw [main false])
        exact ⟨f, T2, rfl, fun _ _ => rfl, h0⟩
      · have e : (pks r A n != pks r B l) = true := by simpa using q
        (rw [if_neg (by rw [jI_eq (by omega) (by omega) (by omega) (by omega), b2_inj]; exact q), e]; (try rw [show jI 1 = jI (b2 true) from rfl]); rw [main true])
        exact ⟨f, T2, rfl, fun _ _ => rfl, h0⟩
-- shifts
def shW (v n1 : Nat) (sh : Int) (k : Nat) : Nat := if 0 ≤ sh then v % 10 ^ k * 10 ^ sh.toNat else v / 10 ^ (-sh).toNat % 10 ^ (k - (-sh).toNat)
theorem mod_s10 (v k : Nat) : v % 10 ^ (k + 1) = v % 10 ^ k + dg v k * 10 ^ k := mod_s 10 v k
theorem shW_s {v n1 k : Nat} {sh : Int} (hk : (-sh).toNat ≤ k) : shW v n1 sh (k + 1) = shW v n1 sh k + dg v k * 10 ^ ((k : Int) + sh).toNat ∧ dg (shW v n1 sh k) ((k : Int) + sh).toNat = 0 := by
  unfold shW
  by_cases q : 0 ≤ sh
  · (rw [if_pos q, if_pos q, mod_s10, Nat.add_mul, Nat.mul_assoc, ← Nat.pow_add]; (try rw [show ((k : Int) + sh).toNat = k + sh.toNat by omega]))
    refine ⟨rfl, ?_⟩
    have h1 : v % 10 ^ k * 10 ^ sh.toNat < 10 ^ (k + sh.toNat) := by
      rw [Nat.pow_add]
      exact Nat.mul_lt_mul_of_pos_right (Nat.mod_lt _ (Nat.pow_pos (by omega))) (Nat.pow_pos (by omega))
    exact dgb_0 (B := 10) h1
  · rw [if_neg q, if_neg q]
    obtain ⟨N, hN⟩ : ∃ N, N = (-sh).toNat := ⟨_, rfl⟩
    rw [← hN] at hk ⊢
    ((try rw [show k + 1 - N = (k - N) + 1 by omega]); rw [mod_s10, dg_shr]; (try rw [show k - N + N = k by omega]); (try rw [show ((k : Int) + sh).toNat = k - N by omega]))
    exact ⟨rfl, dgb_0 (B := 10) (Nat.mod_lt _ (Nat.pow_pos (by omega)))⟩
theorem s_doShift {A n rd : Nat} {sh : Int} (hm : Mo c m) (hb : Byt r) (e34 : f 34 = (A : Int)) (e35 : f 35 = (n : Int)) (hA : A + n ≤ 256) (n1 : 1 ≤ n) (n2 : n ≤ 16) (sA : Snd r A n) (h0 : f 38 = 0) (hr : -1 ≤ r 273 ∧ r 273 < 100) (s1 : -32 ≤ sh) (s2 : sh ≤ 31) (hrd : rd ≤ 9) :
    ∃ f' t', fX13_doShift m (jI sh) (jI (rd : Int)) (MS c m f r s t) = some (MS c m f' (fin6 r A n (if sh < 0 then rnd (pkv r A n) (-sh).toNat rd else pkv r A n * 10 ^ sh.toNat) (pks r A n)).1 s t') ∧ Stg f f' (fin6 r A n (if sh < 0 then rnd (pkv r A n) (-sh).toNat rd else pkv r A n * 10 ^ sh.toNat) (pks r A n)).2 := by
  have la := hf_lt hb (h := 2 * (A + n) - 1) (by omega)
  have lv := pkv_lt hb hA sA
  have vA := pow_31 lv n2
  have k31 := l31
  obtain ⟨v, hv⟩ : ∃ v, v = pkv r A n := ⟨_, rfl⟩
  obtain ⟨res, hres⟩ : ∃ res, res = if sh < 0 then rnd v (-sh).toNat rd else v * 10 ^ sh.toNat := ⟨_, rfl⟩
  have h126 : ∀ (T : SI2) (x y : Nat), LV (T 20) x → LV (T 19) y → x + y = res → ∃ f' t', fX13_doShift_126 m (jI (b2 (pks r A n))) (MS c m f r s T) = some (MS c m f' (fin6 r A n res (pks r A n)).1 s t') ∧ Stg f f' (fin6 r A n res (pks r A n)).2 := by
    intro T x y h20 h19 hxy
    have lr : res < 10 ^ 64 := by
      rw [hres]
      by_cases q : sh < 0
      · rw [if_pos q]
        unfold rnd
        have := Nat.div_le_self v (10 ^ (-sh).toNat)
        split <;> omega
      · rw [if_neg q]
        have h1 : 10 ^ sh.toNat ≤ 10 ^ 31 := Nat.pow_le_pow_right (by omega) (by omega)
        have h2 : v * 10 ^ sh.toNat ≤ 10 ^ 31 * 10 ^ 31 := Nat.mul_le_mul (by omega) h1
        rw [← Nat.pow_add] at h2
        have h3 : (10 : Nat) ^ (31 + 31) < 10 ^ 64 := Nat.pow_lt_pow_right (by omega) (by omega)
        omega
    unfold fX13_doShift_126
    ((try rw [s_R32 hm]); rw [o_ob]; (try rw [s_R32 hm]); rw [o_ob]; (try rw [s_R31 hm]); rw [o_ob, s_sum hm (by omega) (by omega) (by omega) (by omega) (by omega) (by omega) h20 h19, o_ob]; (try rw [s_R32 hm]); rw [o_ob, hxy])
    obtain ⟨f', x1, x2⟩ := s_finish (f := f) (s := s) (be := pks r A n) (j := 20) (t := va_up T 20 (Lz (T 20) res)) hm hb (by omega) (by omega) (LV_at (LV_Lz _ _)) lr e34 e35 hA n1 n2 h0 hr
    rw [x1, o_ob]
    exact ⟨f', _, rfl, x2⟩
  unfold fX13_doShift
  (rw [s_gd _ hm]; (try rw [s_gI hm]); rw [o_ob]; (try rw [s_gI hm]); rw [o_ob]; (try rw [e34]); (try rw [e35]); rw [s_sign hm hb hA n1, o_ob, w_below (by omega) (by omega), o_ob]; (try rw [s_R30 hm]); rw [o_ob]; (try rw [s_gI hm]); rw [o_ob]; (try rw [s_gI hm]); rw [o_ob]; (try rw [e34]); (try rw [e35]); (try rw [show b2 (bel (hf r (2 * (A + n) - 1))) = b2 (pks r A n) from rfl]); rw [s_load hm hb (by omega) (by omega) hA n1 n2 sA, o_ob]; (try rw [s_R31 hm]); rw [o_ob, s_clear hm (by omega) (by omega), o_ob]; (try rw [s_R32 hm]); rw [o_ob, s_clear hm (by omega) (by omega), o_ob]; (try rw [show (0 : Int32) = jI 0 from rfl]); (try rw [jI_neg]); rw [jI_max (by omega) (by omega) (by omega) (by omega), o_lt]; (try rw [← hv]); (try rw [← hres]))
  obtain ⟨T0, hT0⟩ : ∃ T0, T0 = va_up (va_up (va_up t 18 (Lz (t 18) v)) 19 (Lz (va_up t 18 (Lz (t 18) v) 19) 0)) 20 (Lz (va_up (va_up t 18 (Lz (t 18) v)) 19 (Lz (va_up t 18 (Lz (t 18) v) 19) 0) 20) 0) := ⟨_, rfl⟩
  have a18 : LV (T0 18) v := by rw [hT0]; exact LV_up (LV_up (LV_at (LV_Lz _ _)) (by omega)) (by omega)
  have a19 : LV (T0 19) 0 := by rw [hT0]; exact LV_up (LV_at (LV_Lz _ _)) (by omega)
  have a20 : LV (T0 20) 0 := by rw [hT0]; exact LV_at (LV_Lz _ _)
  rw [← hT0]
  obtain ⟨N, hN⟩ : ∃ N, N = (-sh).toNat := ⟨_, rfl⟩
  rw [show max 0 (-sh) = (N : Int) by omega]
  rw [← hv] at lv
  have w0 : shW v n sh N = 0 := by
    unfold shW
    by_cases q : 0 ≤ sh
    · (rw [if_pos q]; (try rw [show N = 0 by omega]); rw [Nat.pow_zero, Nat.mod_one, Nat.zero_mul])
    · (rw [if_neg q]; (try rw [← hN]); rw [Nat.sub_self, Nat.pow_zero, Nat.mod_one])
  have wE : ∀ k, N ≤ k → 2 * n - 1 ≤ k → shW v n sh k = if sh < 0 then v / 10 ^ N else v * 10 ^ sh.toNat := by
    intro k hk hk2
    have l1 : v < 10 ^ k := Nat.lt_of_lt_of_le lv (Nat.pow_le_pow_right (by omega) hk2)
    unfold shW
    by_cases q : 0 ≤ sh
    · rw [if_pos q, if_neg (by omega), Nat.mod_eq_of_lt l1]
    · (rw [if_neg q, if_pos (by omega)]; (try rw [← hN]))
      refine Nat.mod_eq_of_lt ?_
      (rw [Nat.div_lt_iff_lt_mul (Nat.pow_pos (by omega)), ← Nat.pow_add]; (try rw [show k - N + N = k by omega]))
      exact l1
  -- behind the digits
  have fin : ∀ (T : SI2) (k : Nat), 2 * n - 1 ≤ k → N ≤ k → k < 100 → LV (T 18) v → LV (T 19) 0 → LV (T 20) (shW v n sh k) → ∀ kk, ∃ f' t', fX13_doShift_54 kk m (jI sh) (jI (rd : Int)) (jI (b2 (pks r A n))) (jI (k : Int)) (MS c m f r s T) = some (MS c m f' (fin6 r A n res (pks r A n)).1 s t') ∧ Stg f f' (fin6 r A n res (pks r A n)).2 := by
    intro T k hk hk2 hk3 x18 x19 x20 kk
    unfold fX13_doShift_54
    ((try rw [s_gI hm]); rw [o_ob]; (try rw [e35]); (try rw [show (2 : Int32) = jI 2 from rfl]); (try rw [show (1 : Int32) = jI 1 from rfl]); (try rw [jI_mul]); (try rw [jI_sub]); rw [if_pos (by first | ((simp (disch := omega) only [jI_lit, jI_neg, jI_add, jI_sub, jI_mul, jI_lt, jI_le, jI_eq, jL_lit, jL_lt, jL_le, jL_eq]) <;> omega) | omega)])
    have ew := wE k hk2 hk
    by_cases q : 0 ≤ sh
    · rw [if_pos (by first | ((simp (disch := omega) only [jI_lit, jI_neg, jI_add, jI_sub, jI_mul, jI_lt, jI_le, jI_eq, jL_lit, jL_lt, jL_le, jL_eq]) <;> omega) | omega)]
      rw [if_neg (by omega)] at ew hres
      exact h126 T _ 0 x20 x19 (by rw [ew, hres, Nat.add_zero])
    · have d9 := dg_lt v (N - 1)
      rw [if_pos (by omega)] at ew hres
      (rw [if_neg (by first | ((simp (disch := omega) only [jI_lit, jI_neg, jI_add, jI_sub, jI_mul, jI_lt, jI_le, jI_eq, jL_lit, jL_lt, jL_le, jL_eq]) <;> omega) | omega)]; (try rw [s_R31 hm]); rw [o_ob]; (try rw [s_R30 hm]); rw [o_ob]; (try rw [jI_neg]); (try rw [jI_sub]); rw [s_digit hm (by omega) (by omega) x18 (by omega) (by omega), o_ob]; (try rw [show (-sh - 1).toNat = N - 1 by omega]); (try rw [jI_add]))
      have put : ∀ z : Nat, LV ((va_up T 19 (va_up (T 19) 0 (z : Int))) 19) z ∨ 100000000 ≤ z := fun z => by
        by_cases lz : z < 100000000
        · left
          intro i hi
          rw [va_up_self]
          by_cases i0 : i = 0
          · rw [i0, va_up_self]
            unfold dgb
            rw [Nat.pow_zero, Nat.div_one, Nat.mod_eq_of_lt lz]
          · rw [va_up_ne _ _ i0, x19 i hi]
            have h1 : z < 100000000 ^ i := Nat.lt_of_lt_of_le lz (by
              have := Nat.pow_le_pow_right (show 0 < 100000000 by omega) (show 1 ≤ i by omega)
              rw [Nat.pow_one] at this
              exact this)
            rw [dgb_0 (show 0 < 100000000 ^ i from Nat.pow_pos (by omega)), dgb_0 h1]
        · exact Or.inr (by omega)
      by_cases g : 9 < dg v (N - 1) + rd
      · rw [if_neg (by first | ((simp (disch := omega) only [jI_lit, jI_neg, jI_add, jI_sub, jI_mul, jI_lt, jI_le, jI_eq, jL_lit, jL_lt, jL_le, jL_eq]) <;> omega) | omega)]
        unfold fX13_doShift_125
        ((try rw [show (1 : Int64) = jL 1 from rfl]); (try rw [show (0 : Int32) = jI 0 from rfl]); rw [s_q19 hm (by omega) (by omega), o_ob])
        refine h126 _ (v / 10 ^ N) 1 ?_ ?_ ?_
        · rw [← ew]; exact LV_up x20 (by omega)
        · rcases put 1 with h | h
          · exact h
          · omega
        · rw [hres, ← hN]; unfold rnd; rw [if_pos g]
      · rw [if_pos (by first | ((simp (disch := omega) only [jI_lit, jI_neg, jI_add, jI_sub, jI_mul, jI_lt, jI_le, jI_eq, jL_lit, jL_lt, jL_le, jL_eq]) <;> omega) | omega)]
        unfold fX13_doShift_125
        ((try rw [show (0 : Int64) = jL 0 from rfl]); (try rw [show (0 : Int32) = jI 0 from rfl]); rw [s_q19 hm (by omega) (by omega), o_ob])
        refine h126 _ (v / 10 ^ N) 0 ?_ ?_ ?_
        · rw [← ew]; exact LV_up x20 (by omega)
        · rcases put 0 with h | h
          · exact h
          · omega
        · rw [hres, ← hN]; unfold rnd; rw [if_neg g]
  by_cases c0 : 2 * n - 1 ≤ N
  · rw [lp_FU]
    exact fin T0 N c0 (by omega) (by omega) a18 a19 (by rw [w0]; exact a20) _
  · have key := lp_sr (z := fun _ _ _ _ _ _ => none) (S := fX13_doShift_54) (β := Hp) (ev := fun k (i : Nat) (T : SI2) => k m (jI sh) (jI (rd : Int)) (jI (b2 (pks r A n))) (jI (i : Int)) (MS c m f r s T)) (hi := 2 * n - 1) (Inv := fun i T => LV (T 18) v ∧ LV (T 19) 0 ∧ LV (T 20) (shW v n sh i) ∧ N ≤ i) (Post := fun q => ∃ f' t', q = some (MS c m f' (fin6 r A n res (pks r A n)).1 s t') ∧ Stg f f' (fin6 r A n res (pks r A n)).2) ?_ ?_ FU N T0 (by omega) (FU_lt (by omega)) ⟨a18, a19, by rw [w0]; exact a20, Nat.le_refl _⟩
    · exact key
    · intro i T hi hinv k
      obtain ⟨x18, x19, x20, hNi⟩ := hinv
      have d9 := dg_lt v i
      obtain ⟨w1, w2⟩ := shW_s (v := v) (n1 := n) (k := i) (sh := sh) (by omega)
      obtain ⟨kk, hkk⟩ : ∃ kk, kk = ((i : Int) + sh).toNat := ⟨_, rfl⟩
      rw [← hkk] at w1 w2
      refine Or.inr ⟨va_up T 20 (va_up (T 20) (kk / 8) (T 20 (kk / 8) + (dg v i : Int) * ((10 ^ (kk % 8) : Nat) : Int))), ⟨LV_up x18 (by omega), LV_up x19 (by omega), ?_, by omega⟩, ?_⟩
      · rw [w1]; exact LV_at (LV_put x20 (by omega) (by omega))
      · unfold fX13_doShift_54
        ((try rw [s_gI hm]); rw [o_ob]; (try rw [e35]); (try rw [show (2 : Int32) = jI 2 from rfl]); (try rw [show (1 : Int32) = jI 1 from rfl]); (try rw [jI_mul]); (try rw [jI_sub]); rw [if_neg (by first | ((simp (disch := omega) only [jI_lit, jI_neg, jI_add, jI_sub, jI_mul, jI_lt, jI_le, jI_eq, jL_lit, jL_lt, jL_le, jL_eq]) <;> omega) | omega)]; (try rw [s_R32 hm]); rw [o_ob]; (try rw [s_R30 hm]); rw [o_ob, s_digit hm (by omega) (by omega) x18 (by omega) (by omega), o_ob]; (try rw [show ((i : Int)).toNat = i by omega]); (try rw [jI_add]); rw [s_put hm (by omega) (by omega) (by omega) (by omega) (by omega) (by omega), o_ob, o_lt]; (try rw [show ((i : Int)).toNat = i by omega]); (try rw [show (((i : Int) + sh) / 8).toNat = kk / 8 by omega]); (try rw [show (((i : Int) + sh) % 8).toNat = kk % 8 by omega]); (try rw [jI_add]))
        rfl
    · intro T hinv k
      obtain ⟨x18, x19, x20, hNi⟩ := hinv
      exact fin T (2 * n - 1) (by omega) hNi (by omega) x18 x19 x20 k
end RQU
