section RSU
variable {c : MC} {m : Nat} {f r : Nat → Int} {s t : SI2}
theorem LV_up {t : SI2} {j i v : Nat} {g : Nat → Int} (h : LV (t i) v) (n : i ≠ j) : LV ((va_up t j g) i) v := by
  rw [va_up_ne _ _ n]; exact h
theorem LV_at {t : SI2} {j v : Nat} {g : Nat → Int} (h : LV g v) : LV ((va_up t j g) j) v := by
  rw [va_up_self]; exact h
theorem stoCC {r : Nat → Int} {p n v : Nat} {z w : Int} (hp : p + n ≤ 256) : (sto (va_up r 264 w) p n v z) 273 = r 273 := by
  rw [sto_hi (by omega), va_up_ne _ _ (by omega)]
theorem s_fin75 {j v p n : Nat} {ov mi : Bool} {w : Int} (hm : Mo c m) (hb : Byt r) (j1 : 18 ≤ j) (j2 : j ≤ 21) (hv : LV (t j) v) (e34 : f 34 = (p : Int)) (e35 : f 35 = (n : Int)) (hp : p + n ≤ 256) (n1 : 1 ≤ n) (n2 : n ≤ 16) (h0 : f 38 = 0) (hr : -1 ≤ r 273 ∧ r 273 < 100) :
    ∃ f', fX13_finish_75 m (m + j) (jI (b2 ov)) (jI (b2 mi)) (jI w) 264 (m + 3) (MS c m f r s t) = some (MS c m f' (sto (va_up r 264 w) p n v (if mi then 13 else 12)) s t) ∧ Stg f f' (if ov = true ∧ r 273 ≠ -1 then some (6, 0, (p : Int), (n : Int), -1, 0) else none) := by
  unfold fX13_finish_75
  ((try rw [show (264 : Int32) = jI 264 from rfl]); rw [s_q3 hm (by omega) (by omega), o_ob]; (try rw [s_gI hm]); rw [o_ob]; (try rw [s_gI hm]); rw [o_ob]; (try rw [e34]); (try rw [e35]); (try rw [show (264 : Int).toNat = 264 from rfl]); rw [s_store (v := v) hm (Byt_hi hb (by omega) _) j1 j2 hp n1 n2 hv, o_ob])
  cases ov with
  | false =>
    rw [if_pos (show jI (b2 false) = 0 from rfl), if_neg (show ¬ (false = true ∧ r 273 ≠ -1) from fun x => absurd x.1 (by decide))]
    exact ⟨f, rfl, fun _ _ => rfl, h0⟩
  | true =>
    (rw [if_neg (show ¬ jI (b2 true) = 0 by decide)]; (try rw [s_R3 hm]); rw [o_ob]; (try rw [show (273 : Int32) = jI 273 from rfl]); rw [s_a3 hm (by omega) (by omega), o_ob]; (try rw [show (273 : Int).toNat = 273 from rfl]); rw [stoCC hp])
    by_cases q : r 273 = -1
    · rw [if_pos (by rw [q]; rfl), if_neg (show ¬ (true = true ∧ r 273 ≠ -1) from fun x => x.2 q)]
      exact ⟨f, rfl, fun _ _ => rfl, h0⟩
    · (rw [if_neg (by first | ((simp (disch := omega) only [jI_lit, jI_neg, jI_add, jI_sub, jI_mul, jI_lt, jI_le, jI_eq, jL_lit, jL_lt, jL_le, jL_eq]) <;> omega) | omega), if_pos (show true = true ∧ r 273 ≠ -1 from ⟨rfl, q⟩)]; (try rw [show (6 : Int32) = jI 6 from rfl]); (try rw [show (0 : Int32) = jI 0 from rfl]); rw [s_raise0 hm h0, o_ob]; (try rw [e34]); (try rw [e35]))
      exact ⟨_, rfl, Stg_v⟩
theorem s_finish {j v p n : Nat} {be : Bool} (hm : Mo c m) (hb : Byt r) (j1 : 18 ≤ j) (j2 : j ≤ 21) (hv : LV (t j) v) (lv : v < 10 ^ 64) (e34 : f 34 = (p : Int)) (e35 : f 35 = (n : Int)) (hp : p + n ≤ 256) (n1 : 1 ≤ n) (n2 : n ≤ 16) (h0 : f 38 = 0) (hr : -1 ≤ r 273 ∧ r 273 < 100) :
    ∃ f', fX13_finish m (m + j) (jI (b2 be)) (MS c m f r s t) = some (MS c m f' (fin6 r p n v be).1 s t) ∧ Stg f f' (fin6 r p n v be).2 := by
  have nl := nd_le v
  have en := s_noth (c := c) (m := m) (f := f) (r := r) (s := s) hm j1 j2 hv lv
  obtain ⟨mi, hmi⟩ : ∃ mi : Bool, mi = (be && decide (v ≠ 0)) := ⟨_, rfl⟩
  obtain ⟨ov, hov⟩ : ∃ ov : Bool, ov = decide (2 * n - 1 < nd v) := ⟨_, rfl⟩
  have em : (if mi = true then (13 : Int) else 12) = if be = true ∧ v ≠ 0 then 13 else 12 := by
    rw [hmi]
    by_cases a : be = true
    · by_cases b : v = 0
      · simp [a, b]
      · simp [a, b]
    · simp [a]
  have e75 := fun w => s_fin75 (w := w) (ov := ov) (mi := mi) (s := s) hm hb j1 j2 hv e34 e35 hp n1 n2 h0 hr
  have h37 : fX13_finish_37 m (m + j) (jI (b2 ov)) (jI (b2 mi)) (MS c m f r s t) = fX13_finish_75 m (m + j) (jI (b2 ov)) (jI (b2 mi)) (jI (if 2 * n - 1 < nd v then 3 else ccK v be)) 264 (m + 3) (MS c m f r s t) := by
    unfold fX13_finish_37 ccK
    rw [s_R3 hm, o_ob]
    by_cases q : 2 * n - 1 < nd v
    · have : ov = true := by rw [hov]; simpa using q
      rw [this, if_neg (show ¬ jI (b2 true) = 0 by decide), if_pos q]; rfl
    · have : ov = false := by rw [hov]; simpa using q
      rw [this, if_pos (show jI (b2 false) = 0 from rfl), if_neg q, en, o_ob]
      by_cases z : v = 0
      · rw [if_pos z, if_neg (by decide), if_pos z]; rfl
      · rw [if_neg z, if_pos (by decide), if_neg z]
        cases be with
        | false =>
          have : mi = false := by rw [hmi]; rfl
          rw [this, if_pos (show jI (b2 false) = 0 from rfl)]; rfl
        | true =>
          have : mi = true := by rw [hmi]; simpa using z
          rw [this, if_neg (show ¬ jI (b2 true) = 0 by decide)]; rfl
  have h20 : fX13_finish_20 m (m + j) (jI (b2 be)) (jI (b2 ov)) (MS c m f r s t) = fX13_finish_37 m (m + j) (jI (b2 ov)) (jI (b2 mi)) (MS c m f r s t) := by
    unfold fX13_finish_20 fX13_finish_36
    cases be with
    | false =>
      have : mi = false := by rw [hmi]; rfl
      rw [this, if_pos (show jI (b2 false) = 0 from rfl)]; rfl
    | true =>
      rw [if_neg (show ¬ jI (b2 true) = 0 by decide), en, o_ob]
      by_cases z : v = 0
      · have : mi = false := by rw [hmi]; simpa using z
        rw [if_pos z, if_neg (by decide), this]; rfl
      · have : mi = true := by rw [hmi]; simpa using z
        rw [if_neg z, if_pos (by decide), this]; rfl
  have h0' : fX13_finish m (m + j) (jI (b2 be)) (MS c m f r s t) = fX13_finish_20 m (m + j) (jI (b2 be)) (jI (b2 ov)) (MS c m f r s t) := by
    unfold fX13_finish
    (rw [s_gd _ hm, s_digits hm j1 j2 hv, o_ob]; (try rw [s_gI hm]); rw [o_ob]; (try rw [e35]); (try rw [show (2 : Int32) = jI 2 from rfl]); (try rw [show (1 : Int32) = jI 1 from rfl]); (try rw [jI_mul]); (try rw [jI_sub]))
    by_cases q : 2 * n - 1 < nd v
    · have : ov = true := by rw [hov]; simpa using q
      rw [if_neg (by first | ((simp (disch := omega) only [jI_lit, jI_neg, jI_add, jI_sub, jI_mul, jI_lt, jI_le, jI_eq, jL_lit, jL_lt, jL_le, jL_eq]) <;> omega) | omega), this]; rfl
    · have : ov = false := by rw [hov]; simpa using q
      rw [if_pos (by first | ((simp (disch := omega) only [jI_lit, jI_neg, jI_add, jI_sub, jI_mul, jI_lt, jI_le, jI_eq, jL_lit, jL_lt, jL_le, jL_eq]) <;> omega) | omega), this]; rfl
  rw [h0', h20, h37]
  obtain ⟨f', x1, x2⟩ := e75 (if 2 * n - 1 < nd v then 3 else ccK v be)
  refine ⟨f', ?_, ?_⟩
  · rw [x1, em]; rfl
  · have e2 : (fin6 r p n v be).2 = if ov = true ∧ r 273 ≠ -1 then some ((6, 0, (p : Int), (n : Int), -1, 0) : FT6) else none := by
      unfold fin6
      rw [hov]
      by_cases q : 2 * n - 1 < nd v
      · simp [q]
      · simp [q]
    rw [e2]; exact x2
theorem s_ssum {v u : Nat} {a b : Bool} (hm : Mo c m) (h1 : LV (t 18) v) (h2 : LV (t 19) u) (lv : v < 10 ^ 63) (lu : u < 10 ^ 63) : fX13_signedSum m (jI (b2 a)) (jI (b2 b)) (MS c m f r s t) = some (jI (b2 (ssum a b v u).2), MS c m f r s (va_up t 20 (Lz (t 20) (ssum a b v u).1))) := by
  have x64 : (10 : Nat) ^ 63 < 10 ^ 64 := Nat.pow_lt_pow_right (by omega) (by omega)
  have rb := b2_r a
  have rb' := b2_r b
  unfold fX13_signedSum ssum
  rw [s_gd _ hm]
  by_cases q : a = b
  · (rw [if_pos (by rw [q])]; (try rw [s_R32 hm]); rw [o_ob]; (try rw [s_R30 hm]); rw [o_ob]; (try rw [s_R31 hm]); rw [o_ob, s_sum hm (by omega) (by omega) (by omega) (by omega) (by omega) (by omega) h1 h2, o_ob, o_rz _ (b2_01 a), if_pos q])
  · have q2 : ¬ jI (b2 a) = jI (b2 b) := by rw [jI_eq (by omega) (by omega) (by omega) (by omega), b2_inj]; exact q
    (rw [if_neg q2, if_neg q]; (try rw [s_R30 hm]); rw [o_ob]; (try rw [s_R31 hm]); rw [o_ob, s_order hm (by omega) (by omega) (by omega) (by omega) h1 h2 (by omega) (by omega), o_ob])
    by_cases lt : v < u
    · (rw [if_pos lt, if_pos (by decide), if_neg (by omega)]; (try rw [s_R32 hm]); rw [o_ob]; (try rw [s_R31 hm]); rw [o_ob]; (try rw [s_R30 hm]); rw [o_ob, s_less hm (by omega) (by omega) (by omega) (by omega) (by omega) (by omega) h2 h1 (by omega), o_ob, o_rz _ (b2_01 b)])
    · have x1 : ¬ (jI (if v < u then -1 else if v = u then 0 else 1) < 0) := by
        rw [if_neg lt]
        by_cases e : v = u
        · rw [if_pos e]; decide
        · rw [if_neg e]; decide
      (rw [if_neg x1, if_pos (by omega)]; (try rw [s_R32 hm]); rw [o_ob]; (try rw [s_R30 hm]); rw [o_ob]; (try rw [s_R31 hm]); rw [o_ob, s_less hm (by omega) (by omega) (by omega) (by omega) (by omega) (by omega) h1 h2 (by omega), o_ob])
      cases a with
      | false => rw [if_pos (show jI (b2 false) = 0 from rfl)]; rfl
      | true =>
        (rw [if_neg (show ¬ jI (b2 true) = 0 by decide)]; (try rw [s_R32 hm]); rw [o_ob, s_noth hm (by omega) (by omega) (LV_at (LV_Lz _ _)) (by omega), o_ob])
        by_cases z : v - u = 0
        · rw [if_pos z, if_neg (by decide), z]; rfl
        · have : decide (v - u ≠ 0) = true := by simpa using z
          rw [if_neg z, if_pos (by decide), this]; rfl
theorem pow_31 {v n : Nat} (h : v < 10 ^ (2 * n - 1)) (hn : n ≤ 16) : v < 10 ^ 31 := Nat.lt_of_lt_of_le h (Nat.pow_le_pow_right (by omega) (by omega))
theorem ssum_lt {a b : Bool} {v u : Nat} (h1 : v < 10 ^ 31) (h2 : u < 10 ^ 31) : (ssum a b v u).1 < 10 ^ 32 := by
  have e : (10 : Nat) ^ 32 = 10 * 10 ^ 31 := by rw [Nat.pow_succ, Nat.mul_comm]
  unfold ssum
  split
  · show v + u < _; omega
  · split
    · show v - u < _; omega
    · show u - v < _; omega
theorem l32 : (10 : Nat) ^ 32 < 10 ^ 64 := Nat.pow_lt_pow_right (by omega) (by omega)
theorem l31 : (10 : Nat) ^ 31 < 10 ^ 64 := Nat.pow_lt_pow_right (by omega) (by omega)
theorem l3163 : (10 : Nat) ^ 31 < 10 ^ 63 := Nat.pow_lt_pow_right (by omega) (by omega)
/-- what sums leave -/
def prS (o : Int) (r : Nat → Int) (A n B l : Nat) : (Nat → Int) × Option FT6 :=
  if o = 3 then fin6 r A n (pkv r B l) (pks r B l)
  else if o = 6 then (va_up r 264 (ccK (ssum (pks r A n) (!pks r B l) (pkv r A n) (pkv r B l)).1 (ssum (pks r A n) (!pks r B l) (pkv r A n) (pkv r B l)).2), none)
  else fin6 r A n (ssum (pks r A n) (pks r B l != decide (o = 5)) (pkv r A n) (pkv r B l)).1 (ssum (pks r A n) (pks r B l != decide (o = 5)) (pkv r A n) (pkv r B l)).2
theorem s_bel {p n : Nat} (hm : Mo c m) (hb : Byt r) (hp : p + n ≤ 256) (n1 : 1 ≤ n) : (ob (fX13_signAt m (jI (p : Int)) (jI (n : Int)) (MS c m f r s t)) fun v => fX13_isBelow v) = some (jI (b2 (pks r p n))) := by
  have hl := hf_lt hb (h := 2 * (p + n) - 1) (by omega)
  rw [s_sign hm hb hp n1, o_ob, w_below (by omega) (by omega)]
  rfl
theorem s_doSum {o : Int} {A n B l : Nat} (hm : Mo c m) (hb : Byt r) (o3 : 3 ≤ o) (o6 : o ≤ 6) (e34 : f 34 = (A : Int)) (e35 : f 35 = (n : Int)) (e36 : f 36 = (B : Int)) (e37 : f 37 = (l : Int)) (hA : A + n ≤ 256) (n1 : 1 ≤ n) (n2 : n ≤ 16) (hB : B + l ≤ 256) (l1 : 1 ≤ l) (l2 : l ≤ 16) (sA : o ≠ 3 → Snd r A n) (sB : Snd r B l) (h0 : f 38 = 0) (hr : -1 ≤ r 273 ∧ r 273 < 100) :
    ∃ f' t', fX13_doSum m (jI o) (MS c m f r s t) = some (MS c m f' (prS o r A n B l).1 s t') ∧ Stg f f' (prS o r A n B l).2 := by
  have la := hf_lt hb (h := 2 * (A + n) - 1) (by omega)
  have lb := hf_lt hb (h := 2 * (B + l) - 1) (by omega)
  have vB := pow_31 (pkv_lt hb hB sB) l2
  have k31 := l31
  have k63 := l3163
  have k32 := l32
  unfold fX13_doSum
  (rw [s_gd _ hm]; (try rw [s_gI hm]); rw [o_ob]; (try rw [s_gI hm]); rw [o_ob]; (try rw [e34]); (try rw [e35]); rw [s_sign hm hb hA n1, o_ob, w_below (by omega) (by omega), o_ob]; (try rw [s_gI hm]); rw [o_ob]; (try rw [s_gI hm]); rw [o_ob]; (try rw [e36]); (try rw [e37]); rw [s_sign hm hb hB l1, o_ob, w_below (by omega) (by omega), o_ob]; (try rw [s_R30 hm]); rw [o_ob]; (try rw [s_gI hm]); rw [o_ob]; (try rw [s_gI hm]); rw [o_ob]; (try rw [e34]); (try rw [e35]); (try rw [show b2 (bel (hf r (2 * (A + n) - 1))) = b2 (pks r A n) from rfl]); (try rw [show b2 (bel (hf r (2 * (B + l) - 1))) = b2 (pks r B l) from rfl]))
  by_cases c3 : o = 3
  · obtain ⟨g, eg⟩ := s_loadA (f := f) (s := s) (t := t) (j := 18) hm hb (by omega) (by omega) hA n1 n2
    (rw [eg, o_ob]; (try rw [s_R31 hm]); rw [o_ob]; (try rw [s_gI hm]); rw [o_ob]; (try rw [s_gI hm]); rw [o_ob]; (try rw [e36]); (try rw [e37]); rw [s_load hm hb (by omega) (by omega) hB l1 l2 sB, o_ob, if_pos (by first | ((simp (disch := omega) only [jI_lit, jI_neg, jI_add, jI_sub, jI_mul, jI_lt, jI_le, jI_eq, jL_lit, jL_lt, jL_le, jL_eq]) <;> omega) | omega)]; (try rw [s_R31 hm]); rw [o_ob])
    obtain ⟨f', x1, x2⟩ := s_finish (f := f) (s := s) (be := pks r B l) (j := 19) (t := va_up (va_up t 18 g) 19 (Lz (va_up t 18 g 19) (pkv r B l))) hm hb (by omega) (by omega) (LV_at (LV_Lz _ _)) (by omega) e34 e35 hA n1 n2 h0 hr
    rw [x1, o_ob]
    unfold prS
    rw [if_pos c3]
    exact ⟨f', _, rfl, x2⟩
  · have vA := pow_31 (pkv_lt hb hA (sA c3)) n2
    (rw [s_load hm hb (by omega) (by omega) hA n1 n2 (sA c3), o_ob]; (try rw [s_R31 hm]); rw [o_ob]; (try rw [s_gI hm]); rw [o_ob]; (try rw [s_gI hm]); rw [o_ob]; (try rw [e36]); (try rw [e37]); rw [s_load hm hb (by omega) (by omega) hB l1 l2 sB, o_ob, if_neg (by first | ((simp (disch := omega) only [jI_lit, jI_neg, jI_add, jI_sub, jI_mul, jI_lt, jI_le, jI_eq, jL_lit, jL_lt, jL_le, jL_eq]) <;> omega) | omega)])
    obtain ⟨T, hT⟩ : ∃ T, T = va_up (va_up t 18 (Lz (t 18) (pkv r A n))) 19 (Lz (va_up t 18 (Lz (t 18) (pkv r A n)) 19) (pkv r B l)) := ⟨_, rfl⟩
    have t18 : LV (T 18) (pkv r A n) := by rw [hT]; exact LV_up (LV_at (LV_Lz _ _)) (by omega)
    have t19 : LV (T 19) (pkv r B l) := by rw [hT]; exact LV_at (LV_Lz _ _)
    rw [← hT]
    have main : ∀ y : Bool, (o = 6 → y = !pks r B l) → (o ≠ 6 → y = (pks r B l != decide (o = 5))) → ∃ f' t', fX13_doSum_99 m (jI o) (jI (b2 y)) (jI (b2 (pks r A n))) m (MS c m f r s T) = some (MS c m f' (prS o r A n B l).1 s t') ∧ Stg f f' (prS o r A n B l).2 := by
      intro y y6 y5
      have sl := ssum_lt (a := pks r A n) (b := y) vA vB
      unfold fX13_doSum_99
      rw [s_ssum hm t18 t19 (by omega) (by omega), o_ob2]
      obtain ⟨sv, hsv⟩ : ∃ sv, sv = (ssum (pks r A n) y (pkv r A n) (pkv r B l)).1 := ⟨_, rfl⟩
      obtain ⟨ss, hss⟩ : ∃ ss, ss = (ssum (pks r A n) y (pkv r A n) (pkv r B l)).2 := ⟨_, rfl⟩
      rw [← hsv, ← hss]
      rw [← hsv] at sl
      by_cases c6 : o = 6
      · have ey := y6 c6
        (rw [if_pos (by first | ((simp (disch := omega) only [jI_lit, jI_neg, jI_add, jI_sub, jI_mul, jI_lt, jI_le, jI_eq, jL_lit, jL_lt, jL_le, jL_eq]) <;> omega) | omega)]; (try rw [s_R3 hm]); rw [o_ob]; (try rw [s_R32 hm]); rw [o_ob, s_noth hm (by omega) (by omega) (LV_at (LV_Lz _ _)) (by omega), o_ob])
        unfold prS fX13_doSum_141
        (rw [if_neg c3, if_pos c6, ← ey]; (try rw [← hsv]); (try rw [← hss]))
        unfold ccK
        refine ⟨f, va_up T 20 (Lz (T 20) sv), ?_, fun _ _ => rfl, h0⟩
        by_cases z : sv = 0
        · (rw [if_pos z, if_neg (by decide), if_pos z]; (try rw [show (0 : Int32) = jI 0 from rfl]); (try rw [show (264 : Int32) = jI 264 from rfl]); rw [s_q3 hm (by omega) (by omega), o_ob]); rfl
        · rw [if_neg z, if_pos (by decide), if_neg z]
          cases ss with
          | false => (rw [if_pos (show jI (b2 false) = 0 from rfl)]; (try rw [show (2 : Int32) = jI 2 from rfl]); (try rw [show (264 : Int32) = jI 264 from rfl]); rw [s_q3 hm (by omega) (by omega), o_ob]); rfl
          | true => (rw [if_neg (show ¬ jI (b2 true) = 0 by decide)]; (try rw [show (1 : Int32) = jI 1 from rfl]); (try rw [show (264 : Int32) = jI 264 from rfl]); rw [s_q3 hm (by omega) (by omega), o_ob]); rfl
      · have ey := y5 c6
        obtain ⟨f', x1, x2⟩ := s_finish (f := f) (s := s) (be := ss) (j := 20) (v := sv) (t := va_up T 20 (Lz (T 20) sv)) hm hb (by omega) (by omega) (LV_at (LV_Lz _ _)) (by omega) e34 e35 hA n1 n2 h0 hr
        (rw [if_neg (by first | ((simp (disch := omega) only [jI_lit, jI_neg, jI_add, jI_sub, jI_mul, jI_lt, jI_le, jI_eq, jL_lit, jL_lt, jL_le, jL_eq]) <;> omega) | omega)]; (try rw [s_R32 hm]); rw [o_ob]; (try rw [x1]); rw [o_ob])
        unfold prS
        (rw [if_neg c3, if_neg c6, ← ey]; (try rw [← hsv]); (try rw [← hss]))
        exact ⟨f', _, rfl, x2⟩
    by_cases c4 : o = 4
    · rw [if_pos (by first | ((simp (disch := omega) only [jI_lit, jI_neg, jI_add, jI_sub, jI_mul, jI_lt, jI_le, jI_eq, jL_lit, jL_lt, jL_le, jL_eq]) <;> omega) | omega)]
      exact main _ (fun x => by omega) (fun _ => by rw [show decide (o = 5) = false by simp; omega]; simp)
    · have y5 : o ≠ 6 → decide (o = 5) = true := fun x => by simp; omega
      rw [if_neg (by first | ((simp (disch := omega) only [jI_lit, jI_neg, jI_add, jI_sub, jI_mul, jI_lt, jI_le, jI_eq, jL_lit, jL_lt, jL_le, jL_eq]) <;> omega) | omega)]
      cases hs : pks r B l with
      | false =>
        rw [if_pos (show jI (b2 false) = 0 from rfl)]
        rw [hs] at main
        exact main true (fun _ => rfl) (fun x => by rw [y5 x]; rfl)
      | true =>
        rw [if_neg (show ¬ jI (b2 true) = 0 by decide)]
        rw [hs] at main
        exact main false (fun _ => rfl) (fun x => by rw [y5 x]; rfl)
theorem s_doProduct {A n B l : Nat} (hm : Mo c m) (hb : Byt r) (e34 : f 34 = (A : Int)) (e35 : f 35 = (n : Int)) (e36 : f 36 = (B : Int)) (e37 : f 37 = (l : Int)) (hA : A + n ≤ 256) (n1 : 1 ≤ n) (n2 : n ≤ 16) (hB : B + l ≤ 256) (l1 : 1 ≤ l) (l2 : l ≤ 16) (sA : Snd r A n) (sB : Snd r B l) :
    ∃ t', fX13_doProduct m (MS c m f r s t) = some (MS c m f (sto r A n (pkv r A n * pkv r B l) (if (pks r A n != pks r B l) = true then 13 else 12)) s t') := by
  have la := hf_lt hb (h := 2 * (A + n) - 1) (by omega)
  have lb := hf_lt hb (h := 2 * (B + l) - 1) (by omega)
  have ra := b2_r (pks r A n)
  have rb := b2_r (pks r B l)
  have main : ∀ y : Bool, ∃ t', fX13_doProduct_38 m (jI (b2 y)) (MS c m f r s t) = some (MS c m f (sto r A n (pkv r A n * pkv r B l) (if y = true then 13 else 12)) s t') := by
    intro y
    unfold fX13_doProduct_38
    ((try rw [s_R30 hm]); rw [o_ob]; (try rw [s_gI hm]); rw [o_ob]; (try rw [s_gI hm]); rw [o_ob]; (try rw [e34]); (try rw [e35]); rw [s_load hm hb (by omega) (by omega) hA n1 n2 sA, o_ob]; (try rw [s_R31 hm]); rw [o_ob]; (try rw [s_gI hm]); rw [o_ob]; (try rw [s_gI hm]); rw [o_ob]; (try rw [e36]); (try rw [e37]); rw [s_load hm hb (by omega) (by omega) hB l1 l2 sB, o_ob]; (try rw [s_R32 hm]); rw [o_ob]; (try rw [s_R30 hm]); rw [o_ob]; (try rw [s_R31 hm]); rw [o_ob, s_product hm (by omega) (by omega) (by omega) (by omega) (by omega) (by omega) (by omega) (by omega) (LV_up (LV_at (LV_Lz _ _)) (by omega)) (LV_at (LV_Lz _ _)), o_ob]; (try rw [s_gI hm]); rw [o_ob]; (try rw [s_gI hm]); rw [o_ob]; (try rw [s_R32 hm]); rw [o_ob]; (try rw [e34]); (try rw [e35]); rw [s_store hm hb (by omega) (by omega) hA n1 n2 (LV_at (LV_Lz _ _)), o_ob])
    exact ⟨_, rfl⟩
  unfold fX13_doProduct
  (rw [s_gd _ hm]; (try rw [s_gI hm]); rw [o_ob]; (try rw [s_gI hm]); rw [o_ob]; (try rw [e34]); (try rw [e35]); rw [s_sign hm hb hA n1, o_ob, w_below (by omega) (by omega), o_ob]; (try rw [s_gI hm]); rw [o_ob]; (try rw [s_gI hm]); rw [o_ob]; (try rw [e36]); (try rw [e37]); rw [s_sign hm hb hB l1, o_ob, w_below (by omega) (by omega), o_ob]; (try rw [show b2 (bel (hf r (2 * (A + n) - 1))) = b2 (pks r A n) from rfl]); (try rw [show b2 (bel (hf r (2 * (B + l) - 1))) = b2 (pks r B l) from rfl]))
  by_cases q : pks r A n = pks r B l
  · rw [if_pos (by rw [q])]
    have : (pks r A n != pks r B l) = false := by rw [q]; simp
    rw [this]
    exact main false
  · rw [if_neg (by rw [jI_eq (by omega) (by omega) (by omega) (by omega), b2_inj]; exact q)]
    have : (pks r A n != pks r B l) = true := by simpa using q
    rw [this]
    exact main true
end RSU
