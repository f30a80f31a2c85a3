section EDI
variable {K : Nat → Nat} {I : Nat → Nat → Int32} {R : Nat → Nat → Nat} {L : Nat → Nat → Int64} {N : Nat → Nat} {w : Nat × Nat × Nat × Nat}
/-! flaws, and editing, as the class does them -/
theorem flz_f {c : Nat → Int} {p n h : Nat} : flz c false p n h = true ↔ ((9 < hf c h ∧ h ≠ 2 * (p + n) - 1) ∨ (hf c h ≤ 9 ∧ h = 2 * (p + n) - 1)) := by
  unfold flz
  by_cases a : 9 < hf c h <;> by_cases b : h = 2 * (p + n) - 1 <;> simp [a, b] <;> omega
theorem flz_t {c : Nat → Int} {p n h : Nat} : flz c true p n h = true ↔ ((h = 2 * (p + n) - 2 ∧ hf c h < 10) ∨ (h ≠ 2 * (p + n) - 2 ∧ h % 2 = 0 ∧ hf c h ≠ 15) ∨ (h ≠ 2 * (p + n) - 2 ∧ h % 2 ≠ 0 ∧ 9 < hf c h)) := by
  unfold flz
  by_cases b : h = 2 * (p + n) - 2
  · simp [b]
  · by_cases d : h % 2 = 0 <;> simp [b, d]
theorem ff_body {a i sg lst : Nat} {v H : Int} {z : Bool} (k9 : K a = 9) (r0 : R a 0 = a + 1) (k1 : K (a + 1) = 101) (n1 : N (a + 1) = 411) (hv : I (a + 1) (i / 2) = jI v) (hi : i ≤ lst) (hl : lst < 512) (hsg : sg < 512) (v1 : 0 ≤ v) (v2 : v < 256) (hH : H = if i % 2 = 0 then v / 16 else v % 16) (k : Nat → Int32 → Int32 → Int32 → Int32 → Option Int32) :
    fX10_firstFlaw_32 (K, I, R, L, N, w) k a (jI (b2 z)) (jI (lst : Int)) (jI (sg : Int)) (jI (i : Int)) = if (if i = sg then H ≤ 9 else if z = true ∧ i % 2 = 0 then H ≠ 15 else 9 < H) then some (jI (i : Int)) else k a (jI (b2 z)) (jI (lst : Int)) (jI (sg : Int)) (jI ((i + 1 : Nat) : Int)) := by
  have e3 : ((i : Int) / 2).toNat = i / 2 := by omega
  have e4 : (i : Int) + 1 = ((i + 1 : Nat) : Int) := by omega
  have H1 : 0 ≤ H ∧ H < 16 := by rw [hH]; split <;> omega
  have hA : ∀ y1 y2 : Int32, fX10_firstFlaw_86 (K, I, R, L, N, w) k a (jI (b2 z)) (jI (lst : Int)) (jI (sg : Int)) (jI (i : Int)) (jI H) (jI (if 10 ≤ H then 0 else 1)) = if (if i = sg then H ≤ 9 else if z = true ∧ i % 2 = 0 then H ≠ 15 else 9 < H) then some (jI (i : Int)) else k a (jI (b2 z)) (jI (lst : Int)) (jI (sg : Int)) (jI ((i + 1 : Nat) : Int)) := by
    intro _ _
    clear hv hH e3
    unfold fX10_firstFlaw_86 fX10_firstFlaw_107 fX10_firstFlaw_135 fX10_firstFlaw_137
    by_cases c1 : i = sg
    · simp only [if_pos c1]
      by_cases c2 : H ≤ 9
      · simp (disch := omega) only [jI_lit, jI_neg, jI_add, jI_sub, jI_mul, jI_lt, jI_le, jI_eq, o_lt, o_ob, o_ob2, if_pos, if_neg, ↓reduceIte]
      · simp (disch := omega) only [jI_lit, jI_neg, jI_add, jI_sub, jI_mul, jI_lt, jI_le, jI_eq, o_lt, o_ob, o_ob2, if_pos, if_neg, ↓reduceIte, e4]
    · simp only [if_neg c1]
      cases z with
      | false =>
        simp only [if_neg (show ¬ (false = true ∧ i % 2 = 0) by simp)]
        by_cases c2 : 10 ≤ H
        · simp (disch := omega) only [jI_lit, jI_neg, jI_add, jI_sub, jI_mul, jI_lt, jI_le, jI_eq, o_lt, o_ob, o_ob2, if_pos, if_neg, ↓reduceIte, show b2 false = 0 from rfl]
        · simp (disch := omega) only [jI_lit, jI_neg, jI_add, jI_sub, jI_mul, jI_lt, jI_le, jI_eq, o_lt, o_ob, o_ob2, if_pos, if_neg, ↓reduceIte, show b2 false = 0 from rfl, e4]
      | true =>
        by_cases c3 : i % 2 = 0
        · simp only [if_pos (show (true = true ∧ i % 2 = 0) from ⟨rfl, c3⟩)]
          by_cases c2 : H = 15
          · subst c2
            simp (disch := omega) only [jI_lit, jI_neg, jI_add, jI_sub, jI_mul, jI_lt, jI_le, jI_eq, o_lt, o_ob, o_ob2, if_pos, if_neg, ↓reduceIte, show b2 true = 1 from rfl, jI_and1, e4, ne_eq, not_true_eq_false, true_and]
          · simp (disch := omega) only [jI_lit, jI_neg, jI_add, jI_sub, jI_mul, jI_lt, jI_le, jI_eq, o_lt, o_ob, o_ob2, if_pos, if_neg, ↓reduceIte, show b2 true = 1 from rfl, jI_and1, true_and, ne_eq]
        · simp only [if_neg (show ¬ (true = true ∧ i % 2 = 0) from fun h => c3 h.2)]
          by_cases c2 : 10 ≤ H
          · simp (disch := omega) only [jI_lit, jI_neg, jI_add, jI_sub, jI_mul, jI_lt, jI_le, jI_eq, o_lt, o_ob, o_ob2, if_pos, if_neg, ↓reduceIte, show b2 true = 1 from rfl, jI_and1]
          · simp (disch := omega) only [jI_lit, jI_neg, jI_add, jI_sub, jI_mul, jI_lt, jI_le, jI_eq, o_lt, o_ob, o_ob2, if_pos, if_neg, ↓reduceIte, show b2 true = 1 from rfl, jI_and1, e4]
  refine Eq.trans ?_ (hA 0 0)
  unfold fX10_firstFlaw_32 fX10_firstFlaw_68
  by_cases c0 : i % 2 = 0
  · rw [if_pos c0] at hH
    by_cases c2 : 10 ≤ H
    · simp (disch := omega) only [jI_lit, jI_neg, jI_add, jI_sub, jI_mul, jI_lt, jI_le, jI_eq, o_lt, o_ob, o_ob2, if_pos, if_neg, o_gR, r0, o_aI, jI_shr1, e3, hv, jI_and1, jI_shr4, jI_and15, show v / 16 % 16 = H by omega]
    · simp (disch := omega) only [jI_lit, jI_neg, jI_add, jI_sub, jI_mul, jI_lt, jI_le, jI_eq, o_lt, o_ob, o_ob2, if_pos, if_neg, o_gR, r0, o_aI, jI_shr1, e3, hv, jI_and1, jI_shr4, jI_and15, show v / 16 % 16 = H by omega]
  · rw [if_neg c0] at hH
    by_cases c2 : 10 ≤ H
    · simp (disch := omega) only [jI_lit, jI_neg, jI_add, jI_sub, jI_mul, jI_lt, jI_le, jI_eq, o_lt, o_ob, o_ob2, if_pos, if_neg, o_gR, r0, o_aI, jI_shr1, e3, hv, jI_and1, jI_shr0, jI_and15, show v % 16 = H by omega]
    · simp (disch := omega) only [jI_lit, jI_neg, jI_add, jI_sub, jI_mul, jI_lt, jI_le, jI_eq, o_lt, o_ob, o_ob2, if_pos, if_neg, o_gR, r0, o_aI, jI_shr1, e3, hv, jI_and1, jI_shr0, jI_and15, show v % 16 = H by omega]
theorem flz_eq {c : Nat → Int} {z : Bool} {p n h sg : Nat} (hn : 1 ≤ n) (hs : sg = if z then 2 * (p + n) - 2 else 2 * (p + n) - 1) : flz c z p n h = true ↔ (if h = sg then hf c h ≤ 9 else if z = true ∧ h % 2 = 0 then hf c h ≠ 15 else 9 < hf c h) := by
  cases z with
  | false =>
    rw [if_neg (by simp)] at hs
    rw [flz_f, hs]
    by_cases q : h = 2 * (p + n) - 1
    · simp only [if_pos q]; omega
    · simp only [if_neg q, Bool.false_eq_true, false_and, if_false]; omega
  | true =>
    rw [if_pos rfl] at hs
    rw [flz_t, hs]
    by_cases q : h = 2 * (p + n) - 2
    · simp only [if_pos q]; omega
    · by_cases q2 : h % 2 = 0
      · rw [if_neg q, if_pos (show (true = true ∧ h % 2 = 0) from ⟨rfl, q2⟩)]
        refine ⟨fun x => ?_, fun x => Or.inr (Or.inl ⟨q, q2, x⟩)⟩
        rcases x with x | x | x
        · exact absurd x.1 q
        · exact x.2.2
        · exact absurd q2 x.2.1
      · rw [if_neg q, if_neg (show ¬ (true = true ∧ h % 2 = 0) from fun x => q2 x.2)]
        refine ⟨fun x => ?_, fun x => Or.inr (Or.inr ⟨q, q2, x⟩)⟩
        rcases x with x | x | x
        · exact absurd x.1 q
        · exact absurd x.2.1 q2
        · exact x.2.2
theorem e_flaw {a : Nat} {c : Nat → Int} {z : Bool} {p n f : Nat} (hr : Rw K R N a) (hI : I (a + 1) = jF c) (hb : Byt c) (hp : p + n ≤ 256) (hn : 1 ≤ n) (hf1 : f ≤ 2 * (p + n)) :
    fX10_firstFlaw a (jI (p : Int)) (jI (n : Int)) (jI (b2 z)) (jI (f : Int)) (K, I, R, L, N, w) = some (jI (fnd (flz c z p n) f (2 * (p + n) - f))) := by
  obtain ⟨k9, r0, k1, n1⟩ := hr
  obtain ⟨sg, hsg⟩ : ∃ sg, sg = if z then 2 * (p + n) - 2 else 2 * (p + n) - 1 := ⟨_, rfl⟩
  have hsl : sg < 512 := by rw [hsg]; split <;> omega
  have key := lp_g (z := fun _ _ _ _ _ => none) (S := fX10_firstFlaw_32 (K, I, R, L, N, w)) (β := Option Int32) (ev := fun k (i : Nat) => k a (jI (b2 z)) (jI ((2 * (p + n) - 1 : Nat) : Int)) (jI (sg : Int)) (jI (i : Int)))
    (G := fun i => some (jI (fnd (flz c z p n) i (2 * (p + n) - i)))) (Inv := fun i => i ≤ 2 * (p + n)) (M := fun i => 2 * (p + n) - i) ?_ FU f hf1 (FU_lt (by omega))
  · have e1 : max (f : Int) 0 = (f : Int) := by omega
    have e2 : 2 * ((p : Int) + n) - 1 = ((2 * (p + n) - 1 : Nat) : Int) := by omega
    unfold fX10_firstFlaw fX10_firstFlaw_22
    cases z with
    | false =>
      simp (disch := omega) only [jI_lit, jI_neg, jI_add, jI_sub, jI_mul, jI_lt, jI_le, jI_eq, o_lt, o_ob, o_ob2, if_pos, if_neg, o_gd, jI_max, e1, e2, show b2 false = 0 from rfl, ↓reduceIte]
      rw [if_neg (by simp)] at hsg
      rw [hsg] at key
      exact key
    | true =>
      have e3 : ((2 * (p + n) - 1 : Nat) : Int) - 1 = ((2 * (p + n) - 2 : Nat) : Int) := by omega
      simp (disch := omega) only [jI_lit, jI_neg, jI_add, jI_sub, jI_mul, jI_lt, jI_le, jI_eq, o_lt, o_ob, o_ob2, if_pos, if_neg, o_gd, jI_max, e1, e2, e3, show b2 true = 1 from rfl, ↓reduceIte]
      rw [if_pos rfl] at hsg
      rw [hsg] at key
      exact key
  · intro i hi
    by_cases he : i = 2 * (p + n)
    · left; intro k
      subst he
      rw [Nat.sub_self]
      unfold fX10_firstFlaw_32
      simp (disch := omega) only [jI_lit, jI_neg, jI_add, jI_sub, jI_mul, jI_lt, jI_le, jI_eq, o_lt, o_ob, o_ob2, if_pos, if_neg, ]
      rfl
    · have hq := hb (i / 2) (by omega)
      obtain ⟨d, hd⟩ : ∃ d, 2 * (p + n) - i = d + 1 := ⟨2 * (p + n) - i - 1, by omega⟩
      have hd2 : 2 * (p + n) - (i + 1) = d := by omega
      have body := ff_body (I := I) (L := L) (w := w) (z := z) (sg := sg) (lst := 2 * (p + n) - 1) (H := hf c i) k9 r0 k1 n1 (by rw [hI]; rfl) (by omega) (by omega) hsl hq.1 hq.2 rfl
      have hz := flz_eq (c := c) (h := i) hn hsg
      by_cases q : flz c z p n i = true
      · left; intro k
        show fX10_firstFlaw_32 _ k _ _ _ _ _ = _
        rw [body k, if_pos (hz.1 q), hd, fnd_at q]
      · right
        refine ⟨i + 1, by omega, by omega, ?_, fun k => ?_⟩
        · show some _ = some _
          rw [hd, hd2, fnd_nx (by simpa using q)]
        · show fX10_firstFlaw_32 _ k _ _ _ _ _ = _
          rw [body k, if_neg (fun h => q (hz.2 h))]
end EDI
