section LNH
variable {c : MC} {m : Nat} {s t : SI2}
/-- a search from a place on -/
theorem lp_fnd {τ β : Type} {z : τ} {S : τ → τ} (ev : τ → Nat → Option β) (q : Nat → Bool) (hi : Nat) (G : Int → Option β)
    (step : ∀ i, i < hi → q i = false → ∀ k, ev (S k) i = ev k (i + 1)) (hit : ∀ i : Nat, i < hi → q i = true → ∀ k, ev (S k) i = G (i : Int)) (fin : ∀ k, ev (S k) hi = G (-1)) :
    ∀ n i, i ≤ hi → hi - i < n → ev (lp z S n) i = G (fnd q i (hi - i)) := by
  intro n
  induction n with
  | zero => intro i h1 h2; omega
  | succ n ih =>
    intro i h1 h2
    show ev (S (lp z S n)) i = _
    by_cases h : i = hi
    · subst h
      rw [fin, Nat.sub_self]
      rfl
    · obtain ⟨d, hd⟩ : ∃ d, hi - i = d + 1 := ⟨hi - i - 1, by omega⟩
      cases hq : q i with
      | true => rw [hit i (by omega) hq, hd, fnd_at hq]
      | false => (rw [step i (by omega) hq, ih (i + 1) (by omega) (by omega), hd, fnd_nx hq]; (try rw [show hi - (i + 1) = d by omega]))
theorem Lzi_rd {t : SI2} {j a i : Nat} (g : Nat → Int) : va_up t j (fun k => if k < i then g k else t j k) a i = t a i := by
  by_cases e : a = j
  · subst e; rw [va_up_self, if_neg (by omega)]
  · rw [va_up_ne _ _ e]
theorem w_sum {j a b v u : Nat} (hm : Mo c m) (h1 : 18 ≤ j) (h2 : j ≤ 21) (h3 : 18 ≤ a) (h4 : a ≤ 21) (h5 : 18 ≤ b) (h6 : b ≤ 21) (ha : LV (t a) v) (hb : LV (t b) u) : fX13_sum (m + j) (m + a) (m + b) (MH c m s t) = some (MH c m s (va_up t j (Lz (t j) (v + u)))) := by
  unfold fX13_sum
  have key := lp_up (z := fun _ _ _ _ _ _ => none) (S := fX13_sum_5) (β := Hp) (fun k (i : Nat) => k (m + j) (m + a) (m + b) (jL (crb v u i : Int)) (jI (i : Int)) (MH c m s (va_up t j (fun k => if k < i then (dgb 100000000 (v + u) k : Int) else t j k)))) (E := some (MH c m s (va_up t j (Lz (t j) (v + u))))) (M := 8) ?_ ?_ FU 0 (by omega) (FU_lt (by omega))
  · rw [show (fun k => if k < 0 then (dgb 100000000 (v + u) k : Int) else t j k) = t j from up_0 (fun k => (dgb 100000000 (v + u) k : Int)) (t j), up_id, crb_0] at key
    exact key
  · intro i hi k
    have f1 : t a i = (dgb 100000000 v i : Int) := ha i hi
    have f2 : t b i = (dgb 100000000 u i : Int) := hb i hi
    obtain ⟨c1, c2, c3⟩ := crb_s v u i
    have d1 := dgb_lt (B := 100000000) (by omega) v i
    have d2 := dgb_lt (B := 100000000) (by omega) u i
    have d3 := dgb_lt (B := 100000000) (by omega) (v + u) i
    unfold fX13_sum_5
    (rw [if_neg (by rw [show (8 : Int32) = jI 8 from rfl, jI_le (by omega) (by omega) (by omega) (by omega)]; omega), l_a hm h3 h4 (by omega) (by omega), o_ob, l_a hm h5 h6 (by omega) (by omega), o_ob]; (try rw [show ((i : Int)).toNat = i by omega]); rw [Lzi_rd, Lzi_rd]; (try rw [f1]); (try rw [f2]); rw [jL_add, jL_add, o_lt]; (try rw [show (100000000 : Int64) = jL 100000000 from rfl]); rw [jL_div (by omega) (by omega) (by omega) (by omega), o_lt, jL_rem (by omega) (by omega) (by omega) (by omega), l_q hm h1 h2 (by omega) (by omega), o_ob, o_lt]; (try rw [va_up_self]); (try rw [upup]); (try rw [show ((i : Int)).toNat = i by omega]); (try rw [show ((dgb 100000000 v i : Nat) : Int) + (dgb 100000000 u i : Nat) + (crb v u i : Nat) = ((dgb 100000000 (v + u) i + 100000000 * crb v u (i + 1) : Nat) : Int) by omega]); (try rw [show ((dgb 100000000 (v + u) i + 100000000 * crb v u (i + 1) : Nat) : Int) % 100000000 = (dgb 100000000 (v + u) i : Int) by omega]); (try rw [show ((dgb 100000000 (v + u) i + 100000000 * crb v u (i + 1) : Nat) : Int) / 100000000 = (crb v u (i + 1) : Int) by omega]); rw [up_lt (fun k => (dgb 100000000 (v + u) k : Int)) (t j) i]; (try rw [show (1 : Int32) = jI 1 from rfl]); (try rw [jI_add]))
    rfl
  · intro k
    unfold fX13_sum_5
    rw [if_pos (by rw [show (8 : Int32) = jI 8 from rfl, jI_le (by omega) (by omega) (by omega) (by omega)]; omega)]
    rfl
theorem w_less {j a b v u : Nat} (hm : Mo c m) (h1 : 18 ≤ j) (h2 : j ≤ 21) (h3 : 18 ≤ a) (h4 : a ≤ 21) (h5 : 18 ≤ b) (h6 : b ≤ 21) (ha : LV (t a) v) (hb : LV (t b) u) (hle : u ≤ v) : fX13_less (m + j) (m + a) (m + b) (MH c m s t) = some (MH c m s (va_up t j (Lz (t j) (v - u)))) := by
  unfold fX13_less
  have key := lp_up (z := fun _ _ _ _ _ _ => none) (S := fX13_less_5) (β := Hp) (fun k (i : Nat) => k (m + j) (m + a) (m + b) (jL (crb (v - u) u i : Int)) (jI (i : Int)) (MH c m s (va_up t j (fun k => if k < i then (dgb 100000000 (v - u) k : Int) else t j k)))) (E := some (MH c m s (va_up t j (Lz (t j) (v - u))))) (M := 8) ?_ ?_ FU 0 (by omega) (FU_lt (by omega))
  · rw [show (fun k => if k < 0 then (dgb 100000000 (v - u) k : Int) else t j k) = t j from up_0 (fun k => (dgb 100000000 (v - u) k : Int)) (t j), up_id, crb_0] at key
    exact key
  · intro i hi k
    have f1 : t a i = (dgb 100000000 v i : Int) := ha i hi
    have f2 : t b i = (dgb 100000000 u i : Int) := hb i hi
    obtain ⟨c1, c2, c3⟩ := crb_s (v - u) u i
    rw [Nat.sub_add_cancel hle] at c1
    have d1 := dgb_lt (B := 100000000) (by omega) v i
    have d2 := dgb_lt (B := 100000000) (by omega) u i
    have d3 := dgb_lt (B := 100000000) (by omega) (v - u) i
    obtain ⟨zz, hz⟩ : ∃ zz : Int, zz = ((dgb 100000000 v i : Nat) : Int) - (dgb 100000000 u i : Nat) - (crb (v - u) u i : Nat) := ⟨_, rfl⟩
    have tail : ∀ q : Int, zz + q * 100000000 = (dgb 100000000 (v - u) i : Int) → q = (crb (v - u) u (i + 1) : Int) → fX13_less_37 k (m + j) (m + a) (m + b) (jI (i : Int)) (jL zz) (jL q) (MH c m s (va_up t j (fun k => if k < i then (dgb 100000000 (v - u) k : Int) else t j k))) = k (m + j) (m + a) (m + b) (jL (crb (v - u) u (i + 1) : Int)) (jI ((i + 1 : Nat) : Int)) (MH c m s (va_up t j (fun k => if k < i + 1 then (dgb 100000000 (v - u) k : Int) else t j k))) := by
      intro q e1 e2
      unfold fX13_less_37
      ((try rw [show (100000000 : Int64) = jL 100000000 from rfl]); rw [jL_mul, jL_add]; (try rw [e1]); rw [l_q hm h1 h2 (by omega) (by omega), o_ob, o_lt]; (try rw [va_up_self]); (try rw [upup]); (try rw [show ((i : Int)).toNat = i by omega]); rw [up_lt (fun k => (dgb 100000000 (v - u) k : Int)) (t j) i]; (try rw [show (1 : Int32) = jI 1 from rfl]); (try rw [jI_add]); rw [e2])
      rfl
    unfold fX13_less_5
    (rw [if_neg (by rw [show (8 : Int32) = jI 8 from rfl, jI_le (by omega) (by omega) (by omega) (by omega)]; omega), l_a hm h3 h4 (by omega) (by omega), o_ob, l_a hm h5 h6 (by omega) (by omega), o_ob]; (try rw [show ((i : Int)).toNat = i by omega]); rw [Lzi_rd, Lzi_rd]; (try rw [f1]); (try rw [f2]); rw [jL_sub, jL_sub, o_lt]; (try rw [← hz]); (try rw [show (0 : Int32) = jI 0 from rfl]); (try rw [show (0 : Int64) = jL 0 from rfl]); (try rw [show (1 : Int64) = jL 1 from rfl]))
    by_cases q : crb (v - u) u (i + 1) = 0
    · rw [if_pos ((cmp_ge _ _).2 (by rw [jL_le (by omega) (by omega) (by omega) (by omega)]; omega)), tail 0 (by omega) (by omega)]
    · rw [if_neg (fun e => by
        have := (cmp_ge _ _).1 e
        rw [jL_le (by omega) (by omega) (by omega) (by omega)] at this
        omega), tail 1 (by omega) (by omega)]
  · intro k
    unfold fX13_less_5
    rw [if_pos (by rw [show (8 : Int32) = jI 8 from rfl, jI_le (by omega) (by omega) (by omega) (by omega)]; omega)]
    rfl
theorem w_product {j a b v u : Nat} (hm : Mo c m) (h1 : 18 ≤ j) (h2 : j ≤ 21) (h3 : 18 ≤ a) (h4 : a ≤ 21) (h5 : 18 ≤ b) (h6 : b ≤ 21) (n1 : a ≠ j) (n2 : b ≠ j) (ha : LV (t a) v) (hb : LV (t b) u) : fX13_product (m + j) (m + a) (m + b) (MH c m s t) = some (MH c m s (va_up t j (Lz (t j) (v * u)))) := by
  unfold fX13_product
  have key := lp_up (z := fun _ _ _ _ _ _ => none) (S := fX13_product_5) (β := Hp) (fun k (i : Nat) => k (m + j) (m + a) (m + b) (jL ((prT 100000000 v u i / 100000000 ^ i : Nat) : Int)) (jI (i : Int)) (MH c m s (va_up t j (fun k => if k < i then (dgb 100000000 (v * u) k : Int) else t j k)))) (E := some (MH c m s (va_up t j (Lz (t j) (v * u))))) (M := 8) ?_ ?_ FU 0 (by omega) (FU_lt (by omega))
  · rw [show (fun k => if k < 0 then (dgb 100000000 (v * u) k : Int) else t j k) = t j from up_0 (fun k => (dgb 100000000 (v * u) k : Int)) (t j), up_id, show prT 100000000 v u 0 / 100000000 ^ 0 = 0 by simp [prT, sm]] at key
    exact key
  · intro i hi k
    obtain ⟨p1, p2⟩ := prT_dig (B := 100000000) (by omega) v u i
    unfold fX13_product_5
    rw [if_neg (by rw [show (8 : Int32) = jI 8 from rfl, jI_le (by omega) (by omega) (by omega) (by omega)]; omega)]
    obtain ⟨T, hT⟩ : ∃ T, T = va_up t j (fun k => if k < i then (dgb 100000000 (v * u) k : Int) else t j k) := ⟨_, rfl⟩
    have ta : T a = t a := by rw [hT, va_up_ne _ _ n1]
    have tb : T b = t b := by rw [hT, va_up_ne _ _ n2]
    have tj : T j = (fun k => if k < i then (dgb 100000000 (v * u) k : Int) else t j k) := by rw [hT, va_up_self]
    have tu : ∀ F, va_up T j F = va_up t j F := fun F => by rw [hT, upup]
    rw [← hT]
    have inner := lp_up (z := fun _ _ _ _ _ _ _ => none) (S := fX13_product_18 k) (β := Hp) (fun k2 (g : Nat) => k2 (m + j) (m + a) (m + b) (jI (i : Int)) (jL (cpb v u i g : Int)) (jI (g : Int)) (MH c m s T)) (E := k (m + j) (m + a) (m + b) (jL ((prT 100000000 v u (i + 1) / 100000000 ^ (i + 1) : Nat) : Int)) (jI ((i + 1 : Nat) : Int)) (MH c m s (va_up t j (fun k => if k < i + 1 then (dgb 100000000 (v * u) k : Int) else t j k)))) (M := i + 1) ?_ ?_ FU 0 (by omega) (FU_lt (by omega))
    · rw [show cpb v u i 0 = prT 100000000 v u i / 100000000 ^ i from rfl] at inner
      exact inner
    · intro g hg k2
      have f1 : t a g = (dgb 100000000 v g : Int) := ha g (by omega)
      have f2 : t b (i - g) = (dgb 100000000 u (i - g) : Int) := hb (i - g) (by omega)
      have e6 : (cpb v u i g : Int) + (dgb 100000000 v g : Int) * (dgb 100000000 u (i - g) : Int) = (cpb v u i (g + 1) : Int) := by
        have : cpb v u i (g + 1) = cpb v u i g + dgb 100000000 v g * dgb 100000000 u (i - g) := by
          unfold cpb
          rw [Nat.add_assoc]
          rfl
        rw [this]
        simp
      unfold fX13_product_18
      (rw [if_neg (by rw [jI_lt (by omega) (by omega) (by omega) (by omega)]; omega), l_a hm h3 h4 (by omega) (by omega), o_ob]; (try rw [jI_sub]); rw [l_a hm h5 h6 (by omega) (by omega), o_ob]; (try rw [ta]); (try rw [tb]); (try rw [show ((g : Int)).toNat = g by omega]); (try rw [show ((i : Int) - (g : Int)).toNat = i - g by omega]); (try rw [f1]); (try rw [f2]); rw [jL_mul, jL_add]; (try rw [e6]); rw [o_lt, o_lt]; (try rw [show (1 : Int32) = jI 1 from rfl]); (try rw [jI_add]))
      rfl
    · intro k2
      have hb := cpb_le v u hi (show i + 1 ≤ 8 by omega)
      have q1 : cpb v u i (i + 1) % 100000000 = dgb 100000000 (v * u) i := p1.symm
      have q2 : cpb v u i (i + 1) / 100000000 = prT 100000000 v u (i + 1) / 100000000 ^ (i + 1) := p2.symm
      unfold fX13_product_18
      (rw [if_pos (by rw [jI_lt (by omega) (by omega) (by omega) (by omega)]; omega)]; (try rw [show (100000000 : Int64) = jL 100000000 from rfl]); rw [jL_div (by omega) (by omega) (by omega) (by omega), o_lt, jL_rem (by omega) (by omega) (by omega) (by omega)]; (try rw [show ((cpb v u i (i + 1) : Nat) : Int) % 100000000 = ((dgb 100000000 (v * u) i : Nat) : Int) by omega]); (try rw [show ((cpb v u i (i + 1) : Nat) : Int) / 100000000 = ((prT 100000000 v u (i + 1) / 100000000 ^ (i + 1) : Nat) : Int) by omega]); rw [l_q hm h1 h2 (by omega) (by omega), o_ob, o_lt]; (try rw [tj]); (try rw [tu]); (try rw [show ((i : Int)).toNat = i by omega]); rw [up_lt (fun k => (dgb 100000000 (v * u) k : Int)) (t j) i]; (try rw [show (1 : Int32) = jI 1 from rfl]); (try rw [jI_add]))
      rfl
  · intro k
    unfold fX13_product_5
    rw [if_pos (by rw [show (8 : Int32) = jI 8 from rfl, jI_le (by omega) (by omega) (by omega) (by omega)]; omega)]
    rfl
theorem Lz_put {f : Nat → Int} {v k d : Nat} (hk : k < 64) (h : dg v k + d ≤ 9) : va_up (Lz f v) (k / 8) (Lz f v (k / 8) + (d : Int) * ((10 ^ (k % 8) : Nat) : Int)) = Lz f (v + d * 10 ^ k) := by
  funext i
  have e := dgb_put v d k i h
  by_cases q : i = k / 8
  · subst q
    rw [va_up_self]
    unfold Lz
    rw [if_pos (by omega), if_pos (by omega), e, if_pos rfl]
    simp
  · rw [va_up_ne _ _ q]
    unfold Lz
    rw [e, if_neg q, Nat.add_zero]
theorem w_loadA {j p n : Nat} (hm : Mo c m) (hb : Byt (s 3)) (h1 : 18 ≤ j) (h2 : j ≤ 21) (hp : p + n ≤ 256) (n1 : 1 ≤ n) (n2 : n ≤ 16) : ∃ f, fX13_load m (m + j) (jI (p : Int)) (jI (n : Int)) (MH c m s t) = some (MH c m s (va_up t j f)) := by
  unfold fX13_load
  (rw [m_gd _ hm, w_clear hm h1 h2, o_ob]; (try rw [show (2 : Int32) = jI 2 from rfl]); (try rw [show (1 : Int32) = jI 1 from rfl]); (try rw [jI_add]); (try rw [jI_mul]); (try rw [jI_sub]); rw [o_lt])
  have key := lp_sr (z := fun _ _ _ _ _ _ => none) (S := fX13_load_16) (β := Hp) (ev := fun k (i : Nat) (f : Nat → Int) => k m (m + j) (jI (n : Int)) (jI (2 * ((p : Int) + n) - 1)) (jI (i : Int)) (MH c m s (va_up t j f))) (hi := 2 * n - 1) (Inv := fun _ _ => True) (Post := fun r => ∃ f, r = some (MH c m s (va_up t j f))) ?_ ?_ FU 0 (Lz (t j) 0) (by omega) (FU_lt (by omega)) trivial
  · exact key
  · intro i f hi _ k
    have hl := hf_lt hb (h := (2 * ((p : Int) + n) - 1 - 1 - i).toNat) (by omega)
    refine Or.inr ⟨va_up f ((i : Int) / 8).toNat (f ((i : Int) / 8).toNat + hf (s 3) (2 * ((p : Int) + n) - 1 - 1 - i).toNat * ((10 ^ ((i : Int) % 8).toNat : Nat) : Int)), trivial, ?_⟩
    unfold fX13_load_16
    ((try rw [show (2 : Int32) = jI 2 from rfl]); (try rw [show (1 : Int32) = jI 1 from rfl]); (try rw [jI_mul]); (try rw [jI_sub]); rw [if_neg (by rw [jI_le (by omega) (by omega) (by omega) (by omega)]; omega)]; (try rw [jI_sub]); (try rw [jI_sub]); rw [w_half hm hb (by omega) (by omega), o_ob, w_put hm h1 h2 (by omega) (by omega) (by omega) (by omega), o_ob, o_lt]; (try rw [va_up_self]); (try rw [upup]); (try rw [jI_add]))
    rfl
  · intro f _ k
    refine ⟨f, ?_⟩
    unfold fX13_load_16
    ((try rw [show (2 : Int32) = jI 2 from rfl]); (try rw [show (1 : Int32) = jI 1 from rfl]); (try rw [jI_mul]); (try rw [jI_sub]); rw [if_pos (by rw [jI_le (by omega) (by omega) (by omega) (by omega)]; omega)])
theorem w_load {j p n : Nat} (hm : Mo c m) (hb : Byt (s 3)) (h1 : 18 ≤ j) (h2 : j ≤ 21) (hp : p + n ≤ 256) (n1 : 1 ≤ n) (n2 : n ≤ 16) (hs : Snd (s 3) p n) : fX13_load m (m + j) (jI (p : Int)) (jI (n : Int)) (MH c m s t) = some (MH c m s (va_up t j (Lz (t j) (pkv (s 3) p n)))) := by
  unfold fX13_load
  (rw [m_gd _ hm, w_clear hm h1 h2, o_ob]; (try rw [show (2 : Int32) = jI 2 from rfl]); (try rw [show (1 : Int32) = jI 1 from rfl]); (try rw [jI_add]); (try rw [jI_mul]); (try rw [jI_sub]); rw [o_lt])
  obtain ⟨f, hf0⟩ : ∃ f : Nat → Nat, f = fun i => (hf (s 3) (2 * (p + n) - 2 - i)).toNat := ⟨_, rfl⟩
  have hf9 : ∀ i, i < 2 * n - 1 → f i < 10 := fun i hi => by
    rw [hf0]
    have := hs (2 * (p + n) - 2 - i) (by omega) (by omega)
    show (hf (s 3) (2 * (p + n) - 2 - i)).toNat < 10
    omega
  have key := lp_up (z := fun _ _ _ _ _ _ => none) (S := fX13_load_16) (β := Hp) (fun k (i : Nat) => k m (m + j) (jI (n : Int)) (jI (2 * ((p : Int) + n) - 1)) (jI (i : Int)) (MH c m s (va_up t j (Lz (t j) (vl10 f i))))) (E := some (MH c m s (va_up t j (Lz (t j) (pkv (s 3) p n))))) (M := 2 * n - 1) ?_ ?_ FU 0 (by omega) (FU_lt (by omega))
  · exact key
  · intro i hi k
    have hl := hf_lt hb (h := 2 * (p + n) - 2 - i) (by omega)
    have h10 := vl10_lt (f := f) (m := i) (fun x hx => hf9 x (by omega))
    have hd : dg (vl10 f i) i = 0 := dgb_0 (B := 10) h10
    have e1 : hf (s 3) (2 * (p + n) - 2 - i) = ((f i : Nat) : Int) := by
      rw [hf0]
      show _ = (((hf (s 3) (2 * (p + n) - 2 - i)).toNat : Nat) : Int)
      omega
    have e2 := Lz_put (f := t j) (v := vl10 f i) (k := i) (d := f i) (by omega) (by have := hf9 i hi; omega)
    unfold fX13_load_16
    ((try rw [show (2 : Int32) = jI 2 from rfl]); (try rw [show (1 : Int32) = jI 1 from rfl]); (try rw [jI_mul]); (try rw [jI_sub]); rw [if_neg (by rw [jI_le (by omega) (by omega) (by omega) (by omega)]; omega)]; (try rw [jI_sub]); (try rw [jI_sub]); rw [w_half hm hb (by omega) (by omega), o_ob]; (try rw [show (2 * ((p : Int) + n) - 1 - 1 - i).toNat = 2 * (p + n) - 2 - i by omega]); (try rw [e1]); rw [w_put hm h1 h2 (by omega) (by omega) (by omega) (by have := hf9 i hi; omega), o_ob, o_lt]; (try rw [va_up_self]); (try rw [upup]); (try rw [show ((i : Int) / 8).toNat = i / 8 by omega]); (try rw [show ((i : Int) % 8).toNat = i % 8 by omega]); rw [e2]; (try rw [jI_add]))
    rfl
  · intro k
    unfold fX13_load_16
    ((try rw [show (2 : Int32) = jI 2 from rfl]); (try rw [show (1 : Int32) = jI 1 from rfl]); (try rw [jI_mul]); (try rw [jI_sub]); rw [if_pos (by rw [jI_le (by omega) (by omega) (by omega) (by omega)]; omega)]; (try rw [hf0]))
    rfl
-- a number is laid
def stoK (r : Nat → Int) (p n v : Nat) (z : Int) (k : Nat) : Nat → Int := fun x =>
  if p ≤ x ∧ x < p + n then 16 * (if 2 * (p + n) ≤ 2 * x + 1 + k then (dg v (2 * (p + n - 1 - x)) : Int) else r x / 16) + (if 2 * (p + n) ≤ 2 * x + 2 + k then (if x = p + n - 1 then z else (dg v (2 * (p + n - 1 - x) - 1) : Int)) else r x % 16) else r x
theorem stoK_byt {r : Nat → Int} {p n v k : Nat} {z : Int} (hb : Byt r) (hp : p + n ≤ 256) (z0 : 0 ≤ z) (z1 : z < 16) : Byt (stoK r p n v z k) := by
  intro x hx
  have b := hb x hx
  have d1 := dg_lt v (2 * (p + n - 1 - x))
  have d2 := dg_lt v (2 * (p + n - 1 - x) - 1)
  unfold stoK
  repeat' split
  all_goals omega
theorem stoK_0 {r : Nat → Int} {p n v : Nat} {z : Int} (hn : 1 ≤ n) : pth r (2 * (p + n) - 1) z = stoK r p n v z 0 := by
  funext x
  unfold pth stoK
  rw [if_neg (by omega)]
  by_cases q : x = p + n - 1
  · ((try rw [show (2 * (p + n) - 1) / 2 = p + n - 1 by omega]); rw [q]; (try rw [va_up_self]); rw [if_pos (by omega), if_neg (by omega), if_pos (by omega), if_pos rfl, Int.mul_comm])
  · rw [va_up_ne _ _ (by omega)]
    by_cases q2 : p ≤ x ∧ x < p + n
    · rw [if_pos q2, if_neg (by omega), if_neg (by omega)]; omega
    · rw [if_neg q2]
theorem stoK_s {r : Nat → Int} {p n v k : Nat} {z : Int} (hk : k < 2 * n - 1) (z0 : 0 ≤ z) (z1 : z < 16) : pth (stoK r p n v z k) (2 * (p + n) - 2 - k) (dg v k : Int) = stoK r p n v z (k + 1) := by
  funext x
  unfold pth
  by_cases q : x = (2 * (p + n) - 2 - k) / 2
  · rw [← q, va_up_self]
    have d2 := dg_lt v (2 * (p + n - 1 - x) - 1)
    have c0 : p ≤ x ∧ x < p + n := by omega
    have a4 : 2 * (p + n) ≤ 2 * x + 2 + (k + 1) := by omega
    by_cases ev : (2 * (p + n) - 2 - k) % 2 = 0
    · have a1 : 2 * (p + n) ≤ 2 * x + 2 + k := by omega
      have a2 : ¬ (2 * (p + n) ≤ 2 * x + 1 + k) := by omega
      have a3 : 2 * (p + n) ≤ 2 * x + 1 + (k + 1) := by omega
      have ek : 2 * (p + n - 1 - x) = k := by omega
      unfold stoK
      have d3 := dg_lt v (k - 1)
      simp only [if_pos ev, if_pos c0, if_pos a1, if_neg a2, if_pos a3, if_pos a4, ek]
      split <;> omega
    · have a1 : ¬ (2 * (p + n) ≤ 2 * x + 2 + k) := by omega
      have a2 : ¬ (2 * (p + n) ≤ 2 * x + 1 + k) := by omega
      have a3 : ¬ (2 * (p + n) ≤ 2 * x + 1 + (k + 1)) := by omega
      have a5 : ¬ (x = p + n - 1) := by omega
      have ek : 2 * (p + n - 1 - x) - 1 = k := by omega
      unfold stoK
      simp only [if_neg ev, if_pos c0, if_neg a1, if_neg a2, if_neg a3, if_pos a4, if_neg a5, ek]
      omega
  · rw [va_up_ne _ _ q]
    unfold stoK
    by_cases q2 : p ≤ x ∧ x < p + n
    · rw [if_pos q2, if_pos q2]
      have e1 : (2 * (p + n) ≤ 2 * x + 1 + k) = (2 * (p + n) ≤ 2 * x + 1 + (k + 1)) := by apply propext; omega
      have e2 : (2 * (p + n) ≤ 2 * x + 2 + k) = (2 * (p + n) ≤ 2 * x + 2 + (k + 1)) := by apply propext; omega
      simp only [e1, e2]
    · rw [if_neg q2, if_neg q2]
theorem stoK_e {r : Nat → Int} {p n v : Nat} {z : Int} (hn : 1 ≤ n) : stoK r p n v z (2 * n - 1) = sto r p n v z := by
  funext x
  unfold stoK sto
  by_cases q2 : p ≤ x ∧ x < p + n
  · rw [if_pos q2, if_pos q2, if_pos (by omega), if_pos (by omega)]
  · rw [if_neg q2, if_neg q2]
theorem w_store {j p n v : Nat} {sg : Bool} (hm : Mo c m) (hb : Byt (s 3)) (h1 : 18 ≤ j) (h2 : j ≤ 21) (hp : p + n ≤ 256) (n1 : 1 ≤ n) (n2 : n ≤ 16) (hv : LV (t j) v) : fX13_store m (jI (p : Int)) (jI (n : Int)) (m + j) (jI (b2 sg)) (MH c m s t) = some (MH c m (va_up s 3 (sto (s 3) p n v (if sg then 13 else 12))) t) := by
  obtain ⟨z, hz⟩ : ∃ z : Int, z = if sg then 13 else 12 := ⟨_, rfl⟩
  have z1 : 12 ≤ z ∧ z ≤ 13 := by rw [hz]; cases sg <;> decide
  have main : fX13_store_24 m (jI (n : Int)) (m + j) (jI (2 * ((p : Int) + n) - 1)) (jI z) (jI (2 * ((p : Int) + n) - 1)) m (MH c m s t) = some (MH c m (va_up s 3 (sto (s 3) p n v z)) t) := by
    unfold fX13_store_24
    (rw [w_lay hm hb (by omega) (by omega), o_ob]; (try rw [show (2 * ((p : Int) + n) - 1).toNat = 2 * (p + n) - 1 by omega]); rw [stoK_0 (v := v) n1])
    have key := lp_up (z := fun _ _ _ _ _ _ => none) (S := fX13_store_30) (β := Hp) (fun k (i : Nat) => k m (jI (n : Int)) (m + j) (jI (2 * ((p : Int) + n) - 1)) (jI (i : Int)) (MH c m (va_up s 3 (stoK (s 3) p n v z i)) t)) (E := some (MH c m (va_up s 3 (sto (s 3) p n v z)) t)) (M := 2 * n - 1) ?_ ?_ FU 0 (by omega) (FU_lt (by omega))
    · exact key
    · intro i hi k
      unfold fX13_store_30
      ((try rw [show (2 : Int32) = jI 2 from rfl]); (try rw [show (1 : Int32) = jI 1 from rfl]); (try rw [jI_mul]); (try rw [jI_sub]); rw [if_neg (by rw [jI_le (by omega) (by omega) (by omega) (by omega)]; omega), w_digit hm h1 h2 hv (by omega) (by omega), o_ob]; (try rw [jI_sub]); (try rw [jI_sub]); rw [w_lay hm (by rw [va_up_self]; exact stoK_byt hb hp (by omega) (by omega)) (by omega) (by omega), o_ob, o_lt]; (try rw [va_up_self]); (try rw [upup]); (try rw [show (2 * ((p : Int) + n) - 1 - 1 - i).toNat = 2 * (p + n) - 2 - i by omega]); (try rw [show ((i : Int)).toNat = i by omega]); rw [stoK_s hi (by omega) (by omega)]; (try rw [jI_add]))
      rfl
    · intro k
      unfold fX13_store_30
      ((try rw [show (2 : Int32) = jI 2 from rfl]); (try rw [show (1 : Int32) = jI 1 from rfl]); (try rw [jI_mul]); (try rw [jI_sub]); rw [if_pos (by rw [jI_le (by omega) (by omega) (by omega) (by omega)]; omega), stoK_e n1])
  rw [← hz]
  unfold fX13_store
  (rw [m_gd _ hm]; (try rw [show (2 : Int32) = jI 2 from rfl]); (try rw [show (1 : Int32) = jI 1 from rfl]); (try rw [jI_add]); (try rw [jI_mul]); (try rw [jI_sub]); rw [o_lt])
  cases sg with
  | false =>
    rw [if_pos (show jI (b2 false) = 0 from rfl), show (12 : Int32) = jI z by rw [hz]; rfl]
    exact main
  | true =>
    rw [if_neg (show ¬ jI (b2 true) = 0 by decide), show (13 : Int32) = jI z by rw [hz]; rfl]
    exact main
theorem w_below {z : Int} (h1 : -2147483648 ≤ z) (h2 : z < 2147483648) : fX13_isBelow (jI z) = some (jI (b2 (bel z))) := by
  unfold fX13_isBelow
  simp (disch := omega) only [jI_lit, jI_eq]
  unfold bel b2
  by_cases q : z = 11
  · simp [q]
  · by_cases q2 : z = 13
    · simp [q2]
    · simp [q, q2]
theorem w_sign {p n : Nat} (hm : Mo c m) (hb : Byt (s 3)) (hp : p + n ≤ 256) (n1 : 1 ≤ n) : fX13_signAt m (jI (p : Int)) (jI (n : Int)) (MH c m s t) = some (jI (hf (s 3) (2 * (p + n) - 1))) := by
  unfold fX13_signAt
  (rw [m_gd _ hm]; (try rw [show (2 : Int32) = jI 2 from rfl]); (try rw [show (1 : Int32) = jI 1 from rfl]); (try rw [jI_add]); (try rw [jI_mul]); (try rw [jI_sub]); rw [w_half hm hb (by omega) (by omega), o_ob]; (try rw [show (2 * ((p : Int) + n) - 1).toNat = 2 * (p + n) - 1 by omega]))
theorem w_flaw {p n : Nat} (hm : Mo c m) (hb : Byt (s 3)) (hp : p + n ≤ 256) (n1 : 1 ≤ n) : fX13_flawOf m (jI (p : Int)) (jI (n : Int)) (MH c m s t) = some (jI (flp (s 3) p n)) := by
  unfold fX13_flawOf
  (rw [m_gd _ hm]; (try rw [show (2 : Int32) = jI 2 from rfl]); (try rw [show (1 : Int32) = jI 1 from rfl]); (try rw [jI_add]); (try rw [jI_mul]); (try rw [jI_sub]); rw [o_lt]; (try rw [jI_mul]); rw [o_lt])
  have key := lp_fnd (z := fun _ _ _ => none) (S := fX13_flawOf_13 (MH c m s t)) (β := Int32) (fun k (i : Nat) => k m (jI (2 * ((p : Int) + n) - 1)) (jI (i : Int))) (fun h => (9 < hf (s 3) h) != (h == 2 * (p + n) - 1)) (2 * (p + n)) (fun z => some (jI z)) ?_ ?_ ?_ FU (2 * p) (by omega) (FU_lt (by omega))
  · rw [show 2 * (p + n) - 2 * p = 2 * n by omega] at key
    exact key
  all_goals clear n1
  · intro i hi hq k
    have hl := hf_lt hb (h := i) (by omega)
    unfold fX13_flawOf_13 fX13_flawOf_35 fX13_flawOf_46
    (rw [if_neg (by rw [jI_lt (by omega) (by omega) (by omega) (by omega)]; omega), w_half hm hb (by omega) (by omega), o_ob]; (try rw [show ((i : Int)).toNat = i by omega]); rw [o_lt]; (try rw [show (1 : Int32) = jI 1 from rfl]); (try rw [jI_add]); (try rw [show (9 : Int32) = jI 9 from rfl]); (try rw [show (0 : Int32) = jI 0 from rfl]))
    by_cases a : hf (s 3) i ≤ 9
    · have b : ¬ i = 2 * (p + n) - 1 := fun e => by
        have e1 : decide (9 < hf (s 3) i) = false := by simp; omega
        rw [e1, e] at hq
        simp at hq
      rw [if_pos (by rw [jI_le (by omega) (by omega) (by omega) (by omega)]; omega), if_neg (by rw [jI_eq (by omega) (by omega) (by omega) (by omega)]; omega), if_pos rfl]
      rfl
    · have b : i = 2 * (p + n) - 1 := by
        apply Decidable.byContradiction
        intro b
        have e1 : decide (9 < hf (s 3) i) = true := by simp; omega
        have e2 : (i == 2 * (p + n) - 1) = false := by simpa using b
        rw [e1, e2] at hq
        exact absurd hq (by decide)
      rw [if_neg (by rw [jI_le (by omega) (by omega) (by omega) (by omega)]; omega), if_pos (by rw [jI_eq (by omega) (by omega) (by omega) (by omega)]; omega), if_pos rfl]
      rfl
  · intro i hi hq k
    have hl := hf_lt hb (h := i) (by omega)
    unfold fX13_flawOf_13 fX13_flawOf_35 fX13_flawOf_46
    (rw [if_neg (by rw [jI_lt (by omega) (by omega) (by omega) (by omega)]; omega), w_half hm hb (by omega) (by omega), o_ob]; (try rw [show ((i : Int)).toNat = i by omega]); (try rw [show (1 : Int32) = jI 1 from rfl]); (try rw [show (9 : Int32) = jI 9 from rfl]); (try rw [show (0 : Int32) = jI 0 from rfl]))
    by_cases a : hf (s 3) i ≤ 9
    · have b : i = 2 * (p + n) - 1 := by
        apply Decidable.byContradiction
        intro b
        have e1 : decide (9 < hf (s 3) i) = false := by simp; omega
        have e2 : (i == 2 * (p + n) - 1) = false := by simpa using b
        rw [e1, e2] at hq
        exact absurd hq (by decide)
      rw [if_pos (by rw [jI_le (by omega) (by omega) (by omega) (by omega)]; omega), if_pos (by rw [jI_eq (by omega) (by omega) (by omega) (by omega)]; omega), if_neg (by decide)]
    · have b : ¬ i = 2 * (p + n) - 1 := fun e => by
        have e1 : decide (9 < hf (s 3) i) = true := by simp; omega
        have e2 : (i == 2 * (p + n) - 1) = true := by simpa using e
        rw [e1, e2] at hq
        exact absurd hq (by decide)
      rw [if_neg (by rw [jI_le (by omega) (by omega) (by omega) (by omega)]; omega), if_neg (by rw [jI_eq (by omega) (by omega) (by omega) (by omega)]; omega), if_neg (by decide)]
  · intro k
    unfold fX13_flawOf_13
    rw [if_pos (by rw [jI_lt (by omega) (by omega) (by omega) (by omega)]; omega)]
    rfl
theorem w_there {a n : Int} (a1 : -2147483648 ≤ a) (a2 : a < 2147483648) (n1 : 0 ≤ n) (n2 : n ≤ 256) : fX13_isThere (jI a) (jI n) = some (if isF a n then jI 1 else jI 0) := by
  unfold fX13_isThere isF
  ((try rw [show (0 : Int32) = jI 0 from rfl]); (try rw [show (256 : Int32) = jI 256 from rfl]); (try rw [jI_sub]))
  by_cases x : a < 0
  · rw [if_pos (by rw [jI_lt (by omega) (by omega) (by omega) (by omega)]; omega), if_neg (by simp; omega)]
  · rw [if_neg (by rw [jI_lt (by omega) (by omega) (by omega) (by omega)]; omega)]
    by_cases y : 256 - n < a
    · rw [if_pos (by rw [jI_lt (by omega) (by omega) (by omega) (by omega)]; omega), if_neg (by simp; omega)]
    · rw [if_neg (by rw [jI_lt (by omega) (by omega) (by omega) (by omega)]; omega), if_pos (by simp; omega)]
      rfl
end LNH
