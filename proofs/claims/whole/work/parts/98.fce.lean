section RFC
variable {c : MC} {m : Nat} {f r : Nat → Int} {s t : SI2} {many k mm n : Nat} {P : PG} {A : Nat → Nat → Int} {nt cr tp : Nat → Int} {fp : Int} {im : Option DS}
theorem fnQ_r {q : Nat → Bool} {lo n : Nat} (wh : Int) (h : lo + n ≤ 512) : -1 ≤ fnQ q lo n wh ∧ fnQ q lo n wh ≤ 512 := by
  have cl := cnt_le (fun i => q (lo + i)) n
  unfold fnQ
  by_cases w : wh = -1
  · rw [if_pos w]; omega
  · rw [if_neg w]
    by_cases g : 0 ≤ wh ∧ wh < ((cnt (fun i => q (lo + i)) n : Nat) : Int)
    · rw [if_pos g]
      obtain ⟨f1, f2⟩ := flw_at (q := q) (lo := lo) (n := n) wh.toNat
      have ne : flw q lo n wh.toNat ≠ -1 := fun e => by have := f1 e; omega
      obtain ⟨y, y1, y2, y3, -⟩ := f2 ne
      omega
    · rw [if_neg g]; omega
theorem z_Flaws {p l wh : Int} {z : Bool} (h : RF c m f r s many P k A mm nt cr n tp fp im) (p1 : -2147483648 ≤ p) (p2 : p < 2147483648) (l1 : -2147483648 ≤ l) (l2 : l < 2147483648) (w1 : -2147483648 ≤ wh) (w2 : wh < 2147483648) : Rk c m f r s (fX13_flaws m (jI p) (jI l) (jI (b2 z)) (jI wh) (MS c m f r s t)) (if 1 ≤ l ∧ l ≤ 64 ∧ 0 ≤ p ∧ p + l ≤ 256 then flQ (flz r z p.toNat l.toNat) (2 * p.toNat) (2 * l.toNat) wh else .inl 2) := by
  have hm := h.1
  have hb := h.2.2.1.1
  unfold fX13_flaws
  (rw [s_gd _ hm]; (try rw [show (0 : Int32) = jI 0 from rfl]); rw [s_pI hm, o_ob]; (try rw [show (64 : Int32) = jI 64 from rfl]); rw [s_isField hm p1 p2 l1 l2 (by omega) (by omega), o_ob])
  by_cases c1 : 1 ≤ l ∧ l ≤ 64 ∧ 0 ≤ p ∧ p + l ≤ 256
  · have e := s_flawNumber (f := va_up f 2 0) (s := s) (t := t) (p := p.toNat) (n := l.toNat) (wh := wh) (z := z) hm hb (by omega) (by omega) w1 w2
    rw [show ((p.toNat : Nat) : Int) = p by omega, show ((l.toNat : Nat) : Int) = l by omega] at e
    have rg := fnQ_r (q := flz r z p.toNat l.toNat) (lo := 2 * p.toNat) (n := 2 * l.toNat) wh (by omega)
    rw [if_pos c1, if_pos c1, if_neg (by decide), e, o_ob]
    obtain ⟨v, hv⟩ : ∃ v, v = fnQ (flz r z p.toNat l.toNat) (2 * p.toNat) (2 * l.toNat) wh := ⟨_, rfl⟩
    rw [← hv] at rg ⊢
    unfold fnQ at hv
    unfold flQ
    by_cases w : wh = -1
    · rw [if_pos w] at hv ⊢
      rw [if_neg (by first | ((simp (disch := omega) only [jI_lit, jI_neg, jI_add, jI_sub, jI_mul, jI_lt, jI_le, jI_eq, jL_lit, jL_lt, jL_le, jL_eq]) <;> omega) | omega), hv]
      exact Rk_v rfl Kf_2 (Ks_rf s) (va_up_self _ _ _)
    · rw [if_neg w] at hv ⊢
      by_cases g : 0 ≤ wh ∧ wh < ((cnt (fun i => flz r z p.toNat l.toNat (2 * p.toNat + i)) (2 * l.toNat) : Nat) : Int)
      · rw [if_pos g] at hv ⊢
        obtain ⟨f1, f2⟩ := flw_at (q := flz r z p.toNat l.toNat) (lo := 2 * p.toNat) (n := 2 * l.toNat) wh.toNat
        have ne : flw (flz r z p.toNat l.toNat) (2 * p.toNat) (2 * l.toNat) wh.toNat ≠ -1 := fun e => by have := f1 e; omega
        rw [if_neg (by first | ((simp (disch := omega) only [jI_lit, jI_neg, jI_add, jI_sub, jI_mul, jI_lt, jI_le, jI_eq, jL_lit, jL_lt, jL_le, jL_eq]) <;> omega) | omega), hv]
        exact Rk_v rfl Kf_2 (Ks_rf s) (va_up_self _ _ _)
      · rw [if_neg g] at hv ⊢
        rw [if_pos (by rw [hv]; rfl)]
        exact Rk_fl (k := 1) hm Kf_2 (Ks_rf s)
  · rw [if_neg c1, if_neg c1, if_pos (by decide)]
    exact Rk_fl (k := 2) hm Kf_2 (Ks_rf s)
theorem cnt_fnd {q : Nat → Bool} {lo n : Nat} : cnt (fun i => q (lo + i)) n = 0 ↔ fnd q lo n = -1 := by
  constructor
  · intro e
    refine fnd_no (fun j h1 h2 => ?_)
    cases hq : q j with
    | false => rfl
    | true =>
      have e1 : cnt (fun i => q (lo + i)) (j - lo + 1) = cnt (fun i => q (lo + i)) (j - lo) + 1 := cnt_t (by rw [show lo + (j - lo) = j by omega]; exact hq)
      have e2 := cnt_mono (q := fun i => q (lo + i)) (a := j - lo + 1) n (by omega)
      omega
  · intro e
    have hn := fnd_none e
    have : ∀ d, d ≤ n → cnt (fun i => q (lo + i)) d = 0 := by
      intro d
      induction d with
      | zero => intro _; rfl
      | succ d ih =>
        intro hd
        rw [cnt_f (q := fun i => q (lo + i)) (hn (lo + d) (by omega) (by omega))]
        exact ih (by omega)
    exact this n (Nat.le_refl _)
theorem s_loadZ {j p n : Nat} (hm : Mo c m) (hb : Byt r) (h1 : 18 ≤ j) (h2 : j ≤ 21) (hp : p + n ≤ 256) (n1 : 1 ≤ n) (n2 : n ≤ 16) (hs : Snz r p n) : fX13_loadZoned m (m + j) (jI (p : Int)) (jI (n : Int)) (MS c m f r s t) = some (MS c m f r s (va_up t j (Lz (t j) (zkv r p n)))) := by
  unfold fX13_loadZoned
  rw [s_gd _ hm, s_clear hm h1 h2, o_ob]
  obtain ⟨g, hg⟩ : ∃ g : Nat → Nat, g = fun i => (hf r (2 * (p + n) - 1 - 2 * i)).toNat := ⟨_, rfl⟩
  have g9 : ∀ i, i < n → g i < 10 := fun i hi => by
    rw [hg]
    have := hs i hi
    show (hf r (2 * (p + n) - 1 - 2 * i)).toNat < 10
    omega
  have key := lp_up (z := fun _ _ _ _ _ _ => none) (S := fX13_loadZoned_7) (β := Hp) (fun k (i : Nat) => k m (m + j) (jI (p : Int)) (jI (n : Int)) (jI (i : Int)) (MS c m f r s (va_up t j (Lz (t j) (vl10 g i))))) (E := some (MS c m f r s (va_up t j (Lz (t j) (zkv r p n))))) (M := n) ?_ ?_ FU 0 (by omega) (FU_lt (by omega))
  · exact key
  · intro i hi kk
    have hl := hf_lt hb (h := 2 * (p + n) - 1 - 2 * i) (by omega)
    have rb := hb (p + n - 1 - i) (by omega)
    have h10 := vl10_lt (f := g) (m := i) (fun x hx => g9 x (by omega))
    have hd : dg (vl10 g i) i = 0 := dgb_0 (B := 10) h10
    have e1 : r (p + n - 1 - i) % 16 = ((g i : Nat) : Int) := by
      rw [hg]
      show _ = (((hf r (2 * (p + n) - 1 - 2 * i)).toNat : Nat) : Int)
      rw [show 2 * (p + n) - 1 - 2 * i = 2 * (p + n - 1 - i) + 1 by omega, hf_odd]
      omega
    have e2 := Lz_put (f := t j) (v := vl10 g i) (k := i) (d := g i) (by omega) (by have := g9 i hi; omega)
    unfold fX13_loadZoned_7
    (rw [if_neg (by first | ((simp (disch := omega) only [jI_lit, jI_neg, jI_add, jI_sub, jI_mul, jI_lt, jI_le, jI_eq, jL_lit, jL_lt, jL_le, jL_eq]) <;> omega) | omega)]; (try rw [s_R3 hm]); rw [o_ob]; (try rw [show (1 : Int32) = jI 1 from rfl]); (try rw [jI_add]); (try rw [jI_sub]); (try rw [jI_sub]); rw [s_a3 hm (by omega) (by omega), o_ob]; (try rw [show ((p : Int) + (n : Int) - 1 - (i : Int)).toNat = p + n - 1 - i by omega]); (try rw [show (15 : Int32) = jI 15 from rfl]); rw [jI_and15]; (try rw [e1]); rw [s_put hm h1 h2 (by omega) (by omega) (by omega) (by have := g9 i hi; omega), o_ob, o_lt]; (try rw [va_up_self]); (try rw [upup]); (try rw [show ((i : Int) / 8).toNat = i / 8 by omega]); (try rw [show ((i : Int) % 8).toNat = i % 8 by omega]); rw [e2]; (try rw [jI_add]))
    rfl
  · intro kk
    unfold fX13_loadZoned_7
    rw [if_pos (by first | ((simp (disch := omega) only [jI_lit, jI_neg, jI_add, jI_sub, jI_mul, jI_lt, jI_le, jI_eq, jL_lit, jL_lt, jL_le, jL_eq]) <;> omega) | omega), hg]
    rfl
theorem LV_three {g : Nat → Int} {v : Nat} (h : LV g v) (lv : v < 10 ^ 18) : (g 2 * 100000000 + g 1) * 100000000 + g 0 = (v : Int) := by
  have h0 := h 0 (by omega)
  have h1 := h 1 (by omega)
  have h2 := h 2 (by omega)
  unfold dgb at h0 h1 h2
  rw [Nat.pow_zero, Nat.div_one] at h0
  rw [Nat.pow_one] at h1
  have e2 : 100000000 ^ 2 = 10000000000000000 := rfl
  have l18 : (10 : Nat) ^ 18 = 1000000000000000000 := rfl
  rw [e2] at h2
  omega
theorem s_num68 {p l : Int} {v : Nat} {z : Bool} {g : Nat → Int} (hm : Mo c m) (hb : Byt r) (hfk : Kf f g) (g2 : g 2 = 0) (p1 : 0 ≤ p) (l1 : 1 ≤ l) (pl : p + l ≤ 256) (hv : LV (t 18) v) (lv : v < 10 ^ 64) :
    Rk c m f r s (fX13_number_68 m (jI p) (jI l) (jI (b2 z)) (MS c m g r s t)) (numQ v (if z then zks r p.toNat l.toNat else pks r p.toNat l.toNat)) := by
  have nl := nd_le v
  unfold fX13_number_68 numQ
  ((try rw [s_R30 hm]); rw [o_ob, s_digits hm (by omega) (by omega) hv, o_ob])
  by_cases c1 : nd v ≤ 18
  · have lt18 : v < 10 ^ 18 := Nat.lt_of_lt_of_le (nd_lt lv) (Nat.pow_le_pow_right (by omega) c1)
    have e := LV_three hv lt18
    have h142 : ∀ (y : Int) (b : Bool), -2147483648 ≤ y → y < 2147483648 → b = bel y → fX13_number_142 (jL (v : Int)) (jI y) (MS c m g r s t) = some (jL (if b then -(v : Int) else v), MS c m g r s t) := by
      intro y b y1 y2 hb
      unfold fX13_number_142
      (rw [w_below y1 y2, o_ob]; (try rw [← hb]))
      cases b with
      | false => rw [if_pos (show jI (b2 false) = 0 from rfl)]; rfl
      | true => rw [if_neg (show ¬ jI (b2 true) = 0 by decide), jL_neg]; rfl
    (rw [if_pos (by first | ((simp (disch := omega) only [jI_lit, jI_neg, jI_add, jI_sub, jI_mul, jI_lt, jI_le, jI_eq, jL_lit, jL_lt, jL_le, jL_eq]) <;> omega) | omega), if_pos c1]; (try rw [s_R30 hm]); rw [o_ob]; (try rw [show (2 : Int32) = jI 2 from rfl]); rw [s_a18 hm (by omega) (by omega), o_ob]; (try rw [s_R30 hm]); rw [o_ob]; (try rw [show (1 : Int32) = jI 1 from rfl]); rw [s_a18 hm (by omega) (by omega), o_ob]; (try rw [s_R30 hm]); rw [o_ob]; (try rw [show (0 : Int32) = jI 0 from rfl]); rw [s_a18 hm (by omega) (by omega), o_ob]; (try rw [show (2 : Int).toNat = 2 from rfl]); (try rw [show (1 : Int).toNat = 1 from rfl]); (try rw [show (0 : Int).toNat = 0 from rfl]); (try rw [show (100000000 : Int64) = jL 100000000 from rfl]); rw [jL_mul, jL_add, jL_mul, jL_add, e, o_lt])
    have la := hf_lt hb (h := 2 * (p.toNat + l.toNat) - 1) (by omega)
    have lb := hf_lt hb (h := 2 * (p.toNat + l.toNat) - 2) (by omega)
    cases z with
    | false =>
      have es := s_sign (f := g) (s := s) (t := t) (p := p.toNat) (n := l.toNat) hm hb (by omega) (by omega)
      rw [show ((p.toNat : Nat) : Int) = p by omega, show ((l.toNat : Nat) : Int) = l by omega] at es
      rw [if_pos (show jI (b2 false) = jI 0 from rfl), es, o_ob, h142 _ (pks r p.toNat l.toNat) (by omega) (by omega) rfl, if_neg (show ¬ (false = true) by decide)]
      exact Rk_v rfl hfk (Ks_rf s) g2
    | true =>
      have rb := hb (p.toNat + l.toNat - 1) (by omega)
      have eh : r (p.toNat + l.toNat - 1) / 16 = hf r (2 * (p.toNat + l.toNat) - 2) := by
        rw [show 2 * (p.toNat + l.toNat) - 2 = 2 * (p.toNat + l.toNat - 1) by omega, hf_even]
      (rw [if_neg (show ¬ jI (b2 true) = jI 0 by decide)]; (try rw [s_R3 hm]); rw [o_ob]; (try rw [jI_add]); (try rw [jI_sub]); rw [s_a3 hm (by omega) (by omega), o_ob]; (try rw [show (p + l - 1).toNat = p.toNat + l.toNat - 1 by omega]); (try rw [show ((4 : Int32) &&& 31) = (jI 4 &&& jI 31) from rfl]); rw [jI_shr4 (by omega) (by omega), eh, h142 _ (zks r p.toNat l.toNat) (by omega) (by omega) rfl, if_pos (show true = true from rfl)])
      exact Rk_v rfl hfk (Ks_rf s) g2
  · rw [if_neg (by first | ((simp (disch := omega) only [jI_lit, jI_neg, jI_add, jI_sub, jI_mul, jI_lt, jI_le, jI_eq, jL_lit, jL_lt, jL_le, jL_eq]) <;> omega) | omega), if_neg c1]
    exact Rk_flL (k := 3) hm hfk (Ks_rf s)
theorem z_Number {p l : Int} {z : Bool} (h : RF c m f r s many P k A mm nt cr n tp fp im) (p1 : -2147483648 ≤ p) (p2 : p < 2147483648) (l1 : -2147483648 ≤ l) (l2 : l < 2147483648) : Rk c m f r s (fX13_number m (jI p) (jI l) (jI (b2 z)) (MS c m f r s t)) (if 1 ≤ l ∧ l ≤ 16 ∧ 0 ≤ p ∧ p + l ≤ 256 then (if fnd (flz r z p.toNat l.toNat) (2 * p.toNat) (2 * l.toNat) = -1 then (if z then numQ (zkv r p.toNat l.toNat) (zks r p.toNat l.toNat) else numQ (pkv r p.toNat l.toNat) (pks r p.toNat l.toNat)) else .inl 1) else .inl 2) := by
  have hm := h.1
  have hb := h.2.2.1.1
  unfold fX13_number
  (rw [s_gd _ hm]; (try rw [show (0 : Int32) = jI 0 from rfl]); rw [s_pI hm, o_ob]; (try rw [show (16 : Int32) = jI 16 from rfl]); rw [s_isField hm p1 p2 l1 l2 (by omega) (by omega), o_ob])
  by_cases c1 : 1 ≤ l ∧ l ≤ 16 ∧ 0 ≤ p ∧ p + l ≤ 256
  · have e := s_flawNumber (f := va_up f 2 0) (s := s) (t := t) (p := p.toNat) (n := l.toNat) (wh := -1) (z := z) hm hb (by omega) (by omega) (by omega) (by omega)
    rw [show ((p.toNat : Nat) : Int) = p by omega, show ((l.toNat : Nat) : Int) = l by omega] at e
    have cl := cnt_le (fun i => flz r z p.toNat l.toNat (2 * p.toNat + i)) (2 * l.toNat)
    have cf := cnt_fnd (q := flz r z p.toNat l.toNat) (lo := 2 * p.toNat) (n := 2 * l.toNat)
    have e : fX13_flawNumber m (jI p) (jI l) (jI (b2 z)) (-1) (MS c m (va_up f 2 0) r s t) = some (jI ((cnt (fun i => flz r z p.toNat l.toNat (2 * p.toNat + i)) (2 * l.toNat) : Nat) : Int)) := by
      rw [show (-1 : Int32) = jI (-1) from rfl, e]
      unfold fnQ
      rw [if_pos rfl]
    rw [if_pos c1, if_pos c1, if_neg (by decide), e, o_ob]
    by_cases d : fnd (flz r z p.toNat l.toNat) (2 * p.toNat) (2 * l.toNat) = -1
    · have d0 := cf.2 d
      ((try rw [d0]); rw [if_pos (by decide), if_pos d])
      cases z with
      | false =>
        have sn := sou_f d
        have el := s_load (f := va_up f 2 0) (s := s) (t := t) (j := 18) (p := p.toNat) (n := l.toNat) hm hb (by omega) (by omega) (by omega) (by omega) (by omega) sn
        rw [show ((p.toNat : Nat) : Int) = p by omega, show ((l.toNat : Nat) : Int) = l by omega] at el
        have lt31 := pkv64 hb (p := p.toNat) (n := l.toNat) (by omega) (by omega) sn
        have k31 := l31
        have e68 := s_num68 (z := false) (p := p) (l := l) (s := s) (t := va_up t 18 (Lz (t 18) (pkv r p.toNat l.toNat))) hm hb Kf_2 (va_up_self f 2 0) (by omega) (by omega) (by omega) (LV_at (LV_Lz _ _)) (by omega)
        (rw [if_pos (show jI (b2 false) = jI 0 from rfl)]; (try rw [s_R30 hm]); rw [o_ob, el, o_ob, if_neg (by decide)])
        exact e68
      | true =>
        have sn := sou_t d
        have el := s_loadZ (f := va_up f 2 0) (s := s) (t := t) (j := 18) (p := p.toNat) (n := l.toNat) hm hb (by omega) (by omega) (by omega) (by omega) (by omega) sn
        rw [show ((p.toNat : Nat) : Int) = p by omega, show ((l.toNat : Nat) : Int) = l by omega] at el
        have lt := zkv_lt hb (p := p.toNat) (n := l.toNat) (by omega) sn
        have lt64 : zkv r p.toNat l.toNat < 10 ^ 64 := Nat.lt_of_lt_of_le lt (Nat.pow_le_pow_right (by omega) (by omega))
        have e68 := s_num68 (z := true) (p := p) (l := l) (s := s) (t := va_up t 18 (Lz (t 18) (zkv r p.toNat l.toNat))) hm hb Kf_2 (va_up_self f 2 0) (by omega) (by omega) (by omega) (LV_at (LV_Lz _ _)) lt64
        (rw [if_neg (show ¬ jI (b2 true) = jI 0 by decide)]; (try rw [s_R30 hm]); rw [o_ob, el, o_ob, if_pos rfl])
        exact e68
    · have d0 : ¬ (cnt (fun i => flz r z p.toNat l.toNat (2 * p.toNat + i)) (2 * l.toNat) = 0) := fun x => d (cf.1 x)
      rw [if_neg (by first | ((simp (disch := omega) only [jI_lit, jI_neg, jI_add, jI_sub, jI_mul, jI_lt, jI_le, jI_eq, jL_lit, jL_lt, jL_le, jL_eq]) <;> omega) | omega), if_neg d]
      exact Rk_flL (k := 1) hm Kf_2 (Ks_rf s)
  · rw [if_neg c1, if_neg c1, if_pos (by decide)]
    exact Rk_flL (k := 2) hm Kf_2 (Ks_rf s)
end RFC
