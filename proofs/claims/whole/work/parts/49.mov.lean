section MV
variable {K : Nat → Nat} {I : Nat → Nat → Int32} {R : Nat → Nat → Nat} {L : Nat → Nat → Int64} {N : Nat → Nat} {w : Nat × Nat × Nat × Nat}
/-! what the class lays: numbers, moves; and where it finds flaws -/
def stoi (c : Nat → Int) (p n v : Nat) (s : Int) (i : Nat) : Nat → Int := fun k =>
  if p + n - i ≤ k ∧ k < p + n then 16 * (dg v (2 * (p + n - 1 - k)) : Int) + (if k = p + n - 1 then s else (dg v (2 * (p + n - 1 - k) - 1) : Int)) else c k
theorem stoi_0 (c : Nat → Int) (p n v : Nat) (s : Int) : stoi c p n v s 0 = c := by
  funext k
  unfold stoi
  rw [if_neg (by omega)]
theorem stoi_n (c : Nat → Int) (p n v : Nat) (s : Int) : stoi c p n v s n = sto c p n v s := by
  funext k
  unfold stoi sto
  rw [Nat.add_sub_cancel]
theorem stoi_s (c : Nat → Int) {p n : Nat} (v : Nat) (s : Int) {i : Nat} (hi : i < n) : va_up (stoi c p n v s i) (p + n - 1 - i) (16 * (dg v (2 * i) : Int) + (if i = 0 then s else (dg v (2 * i - 1) : Int))) = stoi c p n v s (i + 1) := by
  funext k
  by_cases hk : k = p + n - 1 - i
  · subst hk
    rw [va_up_self]
    unfold stoi
    have e : p + n - 1 - (p + n - 1 - i) = i := by omega
    have c1 : p + n - (i + 1) ≤ p + n - 1 - i ∧ p + n - 1 - i < p + n := by omega
    rw [if_pos c1, e]
    by_cases h0 : i = 0
    · rw [if_pos h0, if_pos (show p + n - 1 - i = p + n - 1 by omega)]
    · rw [if_neg h0, if_neg (show ¬ p + n - 1 - i = p + n - 1 by omega)]
  · rw [va_up_ne _ _ hk]
    unfold stoi
    by_cases q : p + n - i ≤ k ∧ k < p + n
    · rw [if_pos q, if_pos (show p + n - (i + 1) ≤ k ∧ k < p + n by omega)]
    · rw [if_neg q, if_neg (show ¬ (p + n - (i + 1) ≤ k ∧ k < p + n) by omega)]
theorem e_dput {d x v p n : Nat} {c : Nat → Int} {t : Bool} {s : Int} (hd : Dc K R N d) (hr : Rw K R N x) (hv : DV I d v t) (hI : I (x + 1) = jF c) (hx : x ≠ d) (hp : p + n ≤ 256) (hn : n ≤ 32) (h1 : 0 ≤ s) (h2 : s < 16) (hx2 : x + 1 ≠ d) :
    fX1_put d x (jI (p : Int)) (jI (n : Int)) (jI s) (K, I, R, L, N, w) = some (K, va_up I (x + 1) (jF (sto c p n v s)), R, L, N, w) := by
  obtain ⟨k1, r0, k2, n2⟩ := hd
  obtain ⟨k1x, r0x, k2x, n2x⟩ := hr
  unfold fX1_put
  simp (disch := omega) only [jI_lit, o_gd]
  have key := lp_up (z := fun _ _ _ _ _ _ _ => none) (S := fX1_put_7) (β := Hp) (fun k (i : Nat) => k d x (jI (p : Int)) (jI (n : Int)) (jI (if i = 0 then s else (dg v (2 * i - 1) : Int))) (jI (i : Int)) (K, va_up I (x + 1) (jF (stoi c p n v s i)), R, L, N, w))
    (E := some (K, va_up I (x + 1) (jF (sto c p n v s)), R, L, N, w)) (M := n) ?_ ?_ FU 0 (by omega) (FU_lt (by omega))
  · rw [stoi_0, ← hI, up_id] at key
    exact key
  · intro i hi k
    have e1 : (2 * (i : Int) + 1).toNat = 2 * i + 1 := by omega
    have e2 : (2 * (i : Int)).toNat = 2 * i := by omega
    have e3 : ((p : Int) + n - 1 - i).toNat = p + n - 1 - i := by omega
    have e4 : (i : Int) + 1 = ((i + 1 : Nat) : Int) := by omega
    have g1 := DV_at hv (k := 2 * i) (by omega)
    have g2 := DV_at hv (k := 2 * i + 1) (by omega)
    have d1 := dg_lt v (2 * i)
    have d2 := dg_lt v (2 * i - 1)
    have q1 : ∀ f, va_up I (x + 1) f (d + 1) = I (d + 1) := fun f => va_up_ne _ _ (by omega)
    have hr2 : 0 ≤ (if i = 0 then s else (dg v (2 * i - 1) : Int)) ∧ (if i = 0 then s else (dg v (2 * i - 1) : Int)) < 16 := by split <;> omega
    have ss := stoi_s c v s hi (p := p)
    generalize (if i = 0 then s else (dg v (2 * i - 1) : Int)) = rt at hr2 ss ⊢
    unfold fX1_put_7 fX1_put_68
    simp (disch := omega) only [jI_lit, jI_le, jI_lt, jI_mul, jI_add, jI_sub, o_lt, o_gR, o_ob, r0, r0x, o_aI, e1, e2, q1, g1, g2, jI_join, o_qI, e3, va_up_self, jF_up, ss, upup, e4]
    rw [if_neg (by omega), if_neg (by omega), if_neg (by omega), if_neg (by omega), if_neg (by omega), show 2 * (i + 1) - 1 = 2 * i + 1 by omega]
  · intro k
    rw [stoi_n]
    unfold fX1_put_7
    simp (disch := omega) only [jI_lit, jI_le]
    rw [if_pos (by omega)]
theorem Byt_up {r : Nat → Int} (h : Byt r) (k : Nat) {v : Int} (h1 : 0 ≤ v) (h2 : v < 256) : Byt (va_up r k v) := by
  intro j hj
  unfold va_up
  split
  · exact ⟨h1, h2⟩
  · exact h j hj
theorem Byt_hi {r : Nat → Int} (h : Byt r) {k : Nat} (hk : 256 ≤ k) (v : Int) : Byt (va_up r k v) := by
  intro j hj
  rw [va_up_ne _ _ (by omega)]
  exact h j hj
theorem hf_odd (u : Nat → Int) (t : Nat) : hf u (2 * t + 1) = u t % 16 := by
  unfold hf
  rw [if_neg (by omega), show (2 * t + 1) / 2 = t by omega]
theorem hf_even (u : Nat → Int) (t : Nat) : hf u (2 * t) = u t / 16 := by
  unfold hf
  rw [if_pos (by omega), show (2 * t) / 2 = t by omega]
theorem sto_byt {c : Nat → Int} (hb : Byt c) {p n v : Nat} {s : Int} (h1 : 0 ≤ s) (h2 : s < 16) : Byt (sto c p n v s) := by
  intro k hk
  have d1 := dg_lt v (2 * (p + n - 1 - k))
  have d2 := dg_lt v (2 * (p + n - 1 - k) - 1)
  have := hb k hk
  unfold sto
  split
  · split <;> omega
  · exact this
theorem pkS_s (r : Nat → Int) (p n q m j : Nat) : pkS r p n q m (j + 1) = va_up (pkS r p n q m j) (p + n - 2 - j) (16 * (if 2 * j + 3 ≤ m then pkS r p n q m j (q + m - 3 - 2 * j) % 16 else 0) + (if 2 * j + 2 ≤ m then pkS r p n q m j (q + m - 2 - 2 * j) % 16 else 0)) := rfl
theorem upS_s2 (r : Nat → Int) (p n q m j : Nat) : (upS r p n q m (j + 1)).2 = if j % 2 = 0 then (if j / 2 + 2 ≤ m then (upS r p n q m j).1 (q + m - 2 - j / 2) else 0) else (upS r p n q m j).2 := rfl
theorem upS_s1 (r : Nat → Int) (p n q m j : Nat) : (upS r p n q m (j + 1)).1 = va_up (upS r p n q m j).1 (p + n - 2 - j) (240 + (if j % 2 = 0 then (upS r p n q m (j + 1)).2 % 16 else (upS r p n q m (j + 1)).2 / 16)) := rfl
theorem ofS_s1 (r : Nat → Int) (p n q m j : Nat) : (ofS r p n q m (j + 1)).1 = va_up (ofS r p n q m j).1 (p + n - 1 - j) (16 * ((if j + 1 ≤ m then (ofS r p n q m j).1 (q + m - 1 - j) else 0) % 16) + (ofS r p n q m j).2) := rfl
theorem ofS_s2 (r : Nat → Int) (p n q m j : Nat) : (ofS r p n q m (j + 1)).2 = (if j + 1 ≤ m then (ofS r p n q m j).1 (q + m - 1 - j) else 0) / 16 := rfl
theorem e_turned {v : Int} (h1 : 0 ≤ v) (h2 : v < 256) : fX7_turned (jI v) = some (jI (trn v)) := by
  unfold fX7_turned trn
  simp (disch := omega) only [jI_lit, jI_and15, jI_shr4, jI_join]
theorem trn_b {v : Int} (h1 : 0 ≤ v) (h2 : v < 256) : 0 ≤ trn v ∧ trn v < 256 := by unfold trn; omega
theorem pk0_byt {c : Nat → Int} (hb : Byt c) {p n q m : Nat} (hq : q + m ≤ 256) (hm : 1 ≤ m) : Byt (pk0 c p n q m) := by
  have h := hb (q + m - 1) (by omega)
  have := trn_b h.1 h.2
  exact Byt_up hb _ this.1 this.2
theorem pkS_byt {c : Nat → Int} (hb : Byt c) {p n q m : Nat} (hq : q + m ≤ 256) (hm : 1 ≤ m) : ∀ j, Byt (pkS c p n q m j)
  | 0 => pk0_byt hb hq hm
  | j + 1 => by
    have ih := pkS_byt hb hq hm (p := p) (n := n) j
    have h1 := ih (q + m - 3 - 2 * j) (by omega)
    have h2 := ih (q + m - 2 - 2 * j) (by omega)
    exact Byt_up ih _ (by split <;> split <;> omega) (by split <;> split <;> omega)
theorem e_pack {x p n q m : Nat} {c : Nat → Int} (hr : Rw K R N x) (hI : I (x + 1) = jF c) (hb : Byt c) (hp : p + n ≤ 256) (hq : q + m ≤ 256) (hn : 1 ≤ n) (hm : 1 ≤ m) :
    fX7_packBytes x (jI (p : Int)) (jI (n : Int)) (jI (q : Int)) (jI (m : Int)) (K, I, R, L, N, w) = some (K, va_up I (x + 1) (jF (pkS c p n q m (n - 1))), R, L, N, w) := by
  have key := lp_up (z := fun _ _ _ _ _ _ => none) (S := fX7_packBytes_36) (β := Hp) (fun k (j : Nat) => k x (jI (p : Int)) (jI (q : Int)) (jI ((q : Int) + m - 2 - 2 * j)) (jI ((p : Int) + n - 2 - j)) (K, va_up I (x + 1) (jF (pkS c p n q m j)), R, L, N, w))
    (E := some (K, va_up I (x + 1) (jF (pkS c p n q m (n - 1))), R, L, N, w)) (M := n - 1) ?_ ?_ FU 0 (by omega) (FU_lt (by omega))
  · have h0 := hb (q + m - 1) (by omega)
    have e1 : ((q : Int) + m - 1).toNat = q + m - 1 := by omega
    have e2 : ((p : Int) + n - 1).toNat = p + n - 1 := by omega
    unfold fX7_packBytes
    simp (disch := omega) only [jI_lit, jI_neg, jI_add, jI_sub, o_lt, e_cell hr, o_ob, hI, jF_at, e1, e_turned, e_put hr, e2, jF_up]
    simp only [show ((q : Int) + m - 2 - 2 * ((0 : Nat) : Int)) = (q : Int) + m - 1 + -1 by omega, show ((p : Int) + n - 2 - ((0 : Nat) : Int)) = (p : Int) + n - 2 by omega] at key
    exact key
  · intro j hj k
    have hu := pkS_byt hb hq hm (p := p) (n := n) j
    have h1 := hu (q + m - 3 - 2 * j) (by omega)
    have h2 := hu (q + m - 2 - 2 * j) (by omega)
    have e3 : ((p : Int) + n - 2 - j).toNat = p + n - 2 - j := by omega
    have e4 : ((q : Int) + m - 2 - 2 * j + -2) = ((q : Int) + m - 2 - 2 * ((j + 1 : Nat) : Int)) := by omega
    have e5 : ((p : Int) + n - 2 - j + -1) = ((p : Int) + n - 2 - ((j + 1 : Nat) : Int)) := by omega
    have hJ : (va_up I (x + 1) (jF (pkS c p n q m j))) (x + 1) = jF (pkS c p n q m j) := va_up_self _ _ _
    unfold fX7_packBytes_36 fX7_packBytes_62 fX7_packBytes_86
    by_cases c1 : 2 * j + 2 ≤ m
    · have eh := e_half (L := L) (w := w) hr hJ hu (z := 2 * ((q : Int) + m - 2 - 2 * j) + 1) (by omega) (by omega)
      rw [show (2 * ((q : Int) + m - 2 - 2 * j) + 1).toNat = 2 * (q + m - 2 - 2 * j) + 1 by omega, hf_odd] at eh
      by_cases c2 : 2 * j + 3 ≤ m
      · have eh2 := e_half (L := L) (w := w) hr hJ hu (z := 2 * ((q : Int) + m - 2 - 2 * j) - 1) (by omega) (by omega)
        rw [show (2 * ((q : Int) + m - 2 - 2 * j) - 1).toNat = 2 * (q + m - 3 - 2 * j) + 1 by omega, hf_odd] at eh2
        simp (disch := omega) only [jI_lit, jI_neg, jI_add, jI_sub, jI_mul, jI_lt, eh, eh2, o_ob, jI_join, e_put hr, o_lt, e3, hJ, jF_up, upup, e4, e5]
        rw [if_neg (by omega), if_neg (by omega), if_neg (by omega)]
        rw [pkS_s, if_pos c1, if_pos c2]
      · simp (disch := omega) only [jI_lit, jI_neg, jI_add, jI_sub, jI_mul, jI_lt, eh, o_ob, jI_join, e_put hr, o_lt, e3, hJ, jF_up, upup, e4, e5]
        rw [if_neg (by omega), if_neg (by omega), if_pos (by omega)]
        rw [pkS_s, if_pos c1, if_neg c2]
    · simp (disch := omega) only [jI_lit, jI_neg, jI_add, jI_sub, jI_mul, jI_lt, o_ob, jI_join, e_put hr, o_lt, e3, hJ, jF_up, upup, e4, e5]
      rw [if_neg (by omega), if_pos (by omega), if_pos (by omega)]
      rw [pkS_s, if_neg c1, if_neg (show ¬ 2 * j + 3 ≤ m by omega)]
  · intro k
    unfold fX7_packBytes_36
    simp (disch := omega) only [jI_lt]
    rw [if_pos (by omega)]
theorem upS_byt {c : Nat → Int} (hb : Byt c) {p n q m : Nat} (hq : q + m ≤ 256) (hm : 1 ≤ m) : ∀ j, Byt (upS c p n q m j).1 ∧ 0 ≤ (upS c p n q m j).2 ∧ (upS c p n q m j).2 < 256
  | 0 => ⟨pk0_byt hb hq hm, by simp [upS], by simp [upS]⟩
  | j + 1 => by
    obtain ⟨ih, i1, i2⟩ := upS_byt hb hq hm (p := p) (n := n) j
    have h1 := ih (q + m - 2 - j / 2) (by omega)
    have hv : 0 ≤ (if j % 2 = 0 then (if j / 2 + 2 ≤ m then (upS c p n q m j).1 (q + m - 2 - j / 2) else 0) else (upS c p n q m j).2) ∧ (if j % 2 = 0 then (if j / 2 + 2 ≤ m then (upS c p n q m j).1 (q + m - 2 - j / 2) else 0) else (upS c p n q m j).2) < 256 := by
      split
      · split <;> omega
      · exact ⟨i1, i2⟩
    refine ⟨Byt_up ih _ (by split <;> omega) (by split <;> omega), hv⟩
theorem e_unpack {x p n q m : Nat} {c : Nat → Int} (hr : Rw K R N x) (hI : I (x + 1) = jF c) (hb : Byt c) (hp : p + n ≤ 256) (hq : q + m ≤ 256) (hn : 1 ≤ n) (hm : 1 ≤ m) :
    fX7_unpackBytes x (jI (p : Int)) (jI (n : Int)) (jI (q : Int)) (jI (m : Int)) (K, I, R, L, N, w) = some (K, va_up I (x + 1) (jF (upS c p n q m (n - 1)).1), R, L, N, w) := by
  have key := lp_up (z := fun _ _ _ _ _ _ _ _ => none) (S := fX7_unpackBytes_39) (β := Hp) (fun k (j : Nat) => k x (jI (p : Int)) (jI (q : Int)) (jI ((q : Int) + m - 1 - ((j + 1) / 2 : Nat))) (jI (upS c p n q m j).2) (jI (if j % 2 = 0 then 1 else 0)) (jI ((p : Int) + n - 2 - j)) (K, va_up I (x + 1) (jF (upS c p n q m j).1), R, L, N, w))
    (E := some (K, va_up I (x + 1) (jF (upS c p n q m (n - 1)).1), R, L, N, w)) (M := n - 1) ?_ ?_ FU 0 (by omega) (FU_lt (by omega))
  · have h0 := hb (q + m - 1) (by omega)
    have e1 : ((q : Int) + m - 1).toNat = q + m - 1 := by omega
    have e2 : ((p : Int) + n - 1).toNat = p + n - 1 := by omega
    unfold fX7_unpackBytes
    simp (disch := omega) only [jI_lit, jI_neg, jI_add, jI_sub, o_lt, e_cell hr, o_ob, hI, jF_at, e1, e_turned, e_put hr, e2, jF_up]
    simp only [show ((q : Int) + m - 1 - (((0 + 1) / 2 : Nat) : Int)) = (q : Int) + m - 1 by omega, show ((p : Int) + n - 2 - ((0 : Nat) : Int)) = (p : Int) + n - 2 by omega] at key
    exact key
  · intro j hj k
    obtain ⟨hu, i1, i2⟩ := upS_byt hb hq hm (p := p) (n := n) j
    have h1 := hu (q + m - 2 - j / 2) (by omega)
    have e3 : ((p : Int) + n - 2 - j).toNat = p + n - 2 - j := by omega
    have e5 : ((p : Int) + n - 2 - j + -1) = ((p : Int) + n - 2 - ((j + 1 : Nat) : Int)) := by omega
    have hJ : (va_up I (x + 1) (jF (upS c p n q m j).1)) (x + 1) = jF (upS c p n q m j).1 := va_up_self _ _ _
    unfold fX7_unpackBytes_39 fX7_unpackBytes_71 fX7_unpackBytes_69 fX7_unpackBytes_94
    by_cases c0 : j % 2 = 0
    · have e6 : (q : Int) + m - 1 - ((j + 1) / 2 : Nat) + -1 = (q : Int) + m - 1 - ((j + 1 + 1) / 2 : Nat) := by omega
      have e7 : ((q : Int) + m - 1 - ((j + 1 + 1) / 2 : Nat)).toNat = q + m - 2 - j / 2 := by omega
      rw [if_pos c0, if_neg (show ¬ (j + 1) % 2 = 0 by omega), upS_s1, upS_s2, if_pos c0, if_pos c0]
      by_cases c1 : j / 2 + 2 ≤ m
      · rw [if_pos c1]
        simp (disch := omega) only [jI_lit, jI_neg, jI_add, jI_lt, jI_eq, e6, e7, o_lt, e_cell hr, o_ob, hJ, jF_at, jI_and15, jI_240, e_put hr, e3, jF_up, upup, e5, if_neg, ↓reduceIte]
      · rw [if_neg c1]
        simp (disch := omega) only [jI_lit, jI_neg, jI_add, jI_lt, jI_eq, e6, o_lt, o_ob, hJ, jF_at, jI_and15, jI_240, e_put hr, e3, jF_up, upup, e5, if_pos, if_neg, ↓reduceIte]
    · have e6 : (q : Int) + m - 1 - ((j + 1) / 2 : Nat) = (q : Int) + m - 1 - ((j + 1 + 1) / 2 : Nat) := by omega
      rw [if_neg c0, if_pos (show (j + 1) % 2 = 0 by omega), upS_s1, upS_s2, if_neg c0, if_neg c0]
      simp (disch := omega) only [jI_lit, jI_neg, jI_add, jI_lt, jI_eq, o_lt, o_ob, hJ, jF_at, jI_shr4, jI_240, e_put hr, e3, jF_up, upup, e5, if_pos, if_neg, ↓reduceIte, e6]
  · intro k
    unfold fX7_unpackBytes_39
    simp (disch := omega) only [jI_lt]
    rw [if_pos (by omega)]
theorem ofS_byt {c : Nat → Int} (hb : Byt c) {p n q m : Nat} (hp : p + n ≤ 256) (hn : 1 ≤ n) (hq : q + m ≤ 256) (hm : 1 ≤ m) : ∀ j, Byt (ofS c p n q m j).1 ∧ 0 ≤ (ofS c p n q m j).2 ∧ (ofS c p n q m j).2 < 16
  | 0 => by
    have := hb (p + n - 1) (by omega)
    refine ⟨hb, ?_, ?_⟩
    · show 0 ≤ c (p + n - 1) % 16; omega
    · show c (p + n - 1) % 16 < 16; omega
  | j + 1 => by
    obtain ⟨ih, i1, i2⟩ := ofS_byt hb hp hn hq hm (p := p) (n := n) j
    have h1 := ih (q + m - 1 - j) (by omega)
    have hv : 0 ≤ (if j + 1 ≤ m then (ofS c p n q m j).1 (q + m - 1 - j) else 0) ∧ (if j + 1 ≤ m then (ofS c p n q m j).1 (q + m - 1 - j) else 0) < 256 := by split <;> omega
    refine ⟨Byt_up ih _ (by omega) (by omega), ?_, ?_⟩
    · show 0 ≤ (if j + 1 ≤ m then (ofS c p n q m j).1 (q + m - 1 - j) else 0) / 16; omega
    · show (if j + 1 ≤ m then (ofS c p n q m j).1 (q + m - 1 - j) else 0) / 16 < 16; omega
theorem e_offset {x p n q m : Nat} {c : Nat → Int} (hr : Rw K R N x) (hI : I (x + 1) = jF c) (hb : Byt c) (hp : p + n ≤ 256) (hq : q + m ≤ 256) (hn : 1 ≤ n) (hm : 1 ≤ m) :
    fX7_offsetBytes x (jI (p : Int)) (jI (n : Int)) (jI (q : Int)) (jI (m : Int)) (K, I, R, L, N, w) = some (K, va_up I (x + 1) (jF (ofS c p n q m n).1), R, L, N, w) := by
  have key := lp_up (z := fun _ _ _ _ _ _ _ => none) (S := fX7_offsetBytes_28) (β := Hp) (fun k (j : Nat) => k x (jI (p : Int)) (jI (q : Int)) (jI ((q : Int) + m - 1 - j)) (jI (ofS c p n q m j).2) (jI ((p : Int) + n - 1 - j)) (K, va_up I (x + 1) (jF (ofS c p n q m j).1), R, L, N, w))
    (E := some (K, va_up I (x + 1) (jF (ofS c p n q m n).1), R, L, N, w)) (M := n) ?_ ?_ FU 0 (by omega) (FU_lt (by omega))
  · have eh := e_half (L := L) (w := w) hr hI hb (z := 2 * ((p : Int) + n) - 1) (by omega) (by omega)
    rw [show (2 * ((p : Int) + n) - 1).toNat = 2 * (p + n - 1) + 1 by omega, hf_odd] at eh
    unfold fX7_offsetBytes
    simp (disch := omega) only [jI_lit, jI_neg, jI_add, jI_sub, jI_mul, o_lt, eh, o_ob]
    simp only [show ((q : Int) + m - 1 - ((0 : Nat) : Int)) = (q : Int) + m - 1 by omega, show ((p : Int) + n - 1 - ((0 : Nat) : Int)) = (p : Int) + n - 1 by omega, show (ofS c p n q m 0).1 = c from rfl, show (ofS c p n q m 0).2 = c (p + n - 1) % 16 from rfl, ← hI, up_id] at key
    exact key
  · intro j hj k
    obtain ⟨hu, i1, i2⟩ := ofS_byt hb hp hn hq hm (p := p) (n := n) j
    have h1 := hu (q + m - 1 - j) (by omega)
    have e3 : ((p : Int) + n - 1 - j).toNat = p + n - 1 - j := by omega
    have e4 : ((q : Int) + m - 1 - j + -1) = ((q : Int) + m - 1 - ((j + 1 : Nat) : Int)) := by omega
    have e5 : ((p : Int) + n - 1 - j + -1) = ((p : Int) + n - 1 - ((j + 1 : Nat) : Int)) := by omega
    have hJ : (va_up I (x + 1) (jF (ofS c p n q m j).1)) (x + 1) = jF (ofS c p n q m j).1 := va_up_self _ _ _
    unfold fX7_offsetBytes_28 fX7_offsetBytes_50
    by_cases c1 : j + 1 ≤ m
    · have e6 : ((q : Int) + m - 1 - j).toNat = q + m - 1 - j := by omega
      simp (disch := omega) only [jI_lit, jI_neg, jI_add, jI_lt, e6, o_lt, e_cell hr, o_ob, hJ, jF_at, jI_and15, jI_join, jI_shr4, e_put hr, e3, jF_up, upup, e4, e5]
      rw [if_neg (by omega), if_neg (by omega)]
      rw [ofS_s1, ofS_s2, if_pos c1]
    · simp (disch := omega) only [jI_lit, jI_neg, jI_add, jI_lt, o_lt, o_ob, hJ, jF_at, jI_and15, jI_join, jI_shr4, e_put hr, e3, jF_up, upup, e4, e5]
      rw [if_neg (by omega), if_pos (by omega)]
      rw [ofS_s1, ofS_s2, if_neg c1]
  · intro k
    unfold fX7_offsetBytes_28
    simp (disch := omega) only [jI_lt]
    rw [if_pos (by omega)]
theorem cpB_b (o : Nat) {x y : Int} (h1 : 0 ≤ x) (h2 : x < 256) (h3 : 0 ≤ y) (h4 : y < 256) : 0 ≤ cpB o x y ∧ cpB o x y < 256 := by
  unfold cpB
  split
  · omega
  · split <;> omega
theorem cpS_byt (o : Nat) {c : Nat → Int} (hb : Byt c) {p n q : Nat} (hp : p + n ≤ 256) (hq : q + n ≤ 256) : ∀ j, j ≤ n → Byt (cpS o c p q j)
  | 0, _ => hb
  | j + 1, hj => by
    have ih := cpS_byt o hb hp hq j (by omega)
    have h1 := ih (p + j) (by omega)
    have h2 := ih (q + j) (by omega)
    have := cpB_b o h1.1 h1.2 h2.1 h2.2
    exact Byt_up ih _ this.1 this.2
def cpM (o : Nat) : Int := if o = 0 then 255 else if o = 1 then 15 else 240
theorem cpM_eq (o : Nat) {x y : Int} (h1 : 0 ≤ x) (h2 : x < 256) (h3 : 0 ≤ y) (h4 : y < 256) : (jI x &&& (jI (cpM o) ^^^ jI (-1))) ||| (jI y &&& jI (cpM o)) = jI (cpB o x y) := by
  unfold cpM cpB
  by_cases a : o = 0
  · rw [if_pos a, if_pos a, jI_c255 h1 h2 h3 h4]
  · rw [if_neg a, if_neg a]
    by_cases b : o = 1
    · rw [if_pos b, if_pos b, jI_c15 h1 h2 h3 h4]
    · rw [if_neg b, if_neg b, jI_c240 h1 h2 h3 h4]
theorem e_copy (o : Nat) {x p n q : Nat} {c : Nat → Int} (hr : Rw K R N x) (hI : I (x + 1) = jF c) (hb : Byt c) (hp : p + n ≤ 256) (hq : q + n ≤ 256) :
    fX7_copyBytes x (jI (p : Int)) (jI (n : Int)) (jI (q : Int)) (jI (cpM o)) (K, I, R, L, N, w) = some (K, va_up I (x + 1) (jF (cpS o c p q n)), R, L, N, w) := by
  have key := lp_up (z := fun _ _ _ _ _ _ _ => none) (S := fX7_copyBytes_3) (β := Hp) (fun k (j : Nat) => k x (jI (p : Int)) (jI (n : Int)) (jI (q : Int)) (jI (cpM o)) (jI (j : Int)) (K, va_up I (x + 1) (jF (cpS o c p q j)), R, L, N, w))
    (E := some (K, va_up I (x + 1) (jF (cpS o c p q n)), R, L, N, w)) (M := n) ?_ ?_ FU 0 (by omega) (FU_lt (by omega))
  · unfold fX7_copyBytes
    rw [show cpS o c p q 0 = c from rfl, ← hI, up_id] at key
    exact key
  · intro j hj k
    have hu := cpS_byt o hb hp hq j (by omega)
    have h1 := hu (p + j) (by omega)
    have h2 := hu (q + j) (by omega)
    have e3 : ((p : Int) + j).toNat = p + j := by omega
    have e4 : ((q : Int) + j).toNat = q + j := by omega
    have e5 : (j : Int) + 1 = ((j + 1 : Nat) : Int) := by omega
    have hJ : (va_up I (x + 1) (jF (cpS o c p q j))) (x + 1) = jF (cpS o c p q j) := va_up_self _ _ _
    have em := cpM_eq o h1.1 h1.2 h2.1 h2.2
    unfold fX7_copyBytes_3
    simp (disch := omega) only [jI_lit, jI_neg, jI_add, jI_le, o_lt, e_cell hr, o_ob, hJ, jF_at, e3, e4, em, e_put hr, jF_up, upup, e5]
    rw [if_neg (by omega)]
    rfl
  · intro k
    unfold fX7_copyBytes_3
    simp (disch := omega) only [jI_le]
    rw [if_pos (by omega)]
end MV
