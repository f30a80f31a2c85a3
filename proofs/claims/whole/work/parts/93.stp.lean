section RST
variable {c : MC} {m : Nat} {f r : Nat → Int} {s t : SI2}
/-- what performing leaves -/
def PfO (c : MC) (m : Nat) (f : Nat → Int) (s : SI2) (k : Nat) (res : Option Hp) (o : (Nat → Int) × Option FT6 × Int) : Prop :=
  ∃ f' s' t', res = some (MS c m f' o.1 s' t') ∧ (∀ j, j < 34 ∨ 51 < j → f' j = f j) ∧ (∀ j, j ≠ 22 → s' j = s j) ∧ FtR f' o.2.1 ∧ (o.2.1 = none → f' 44 = o.2.2)
theorem Pf_St {k : Nat} {f' : Nat → Int} {res : Option Hp} {t' : SI2} {ro : Nat → Int} {fo : Option FT6} {nx : Int} (e : res = some (MS c m f' ro s t')) (h : Stg f f' fo) (e44 : f 44 = nx) : PfO c m f s k res (ro, fo, nx) :=
  ⟨f', s, t', e, fun j hj => h.1 j (by omega), fun _ _ => rfl, h.2, fun _ => by rw [h.1 44 (by omega)]; exact e44⟩
theorem Snd_flp {r : Nat → Int} {p n : Nat} (h : flp r p n = -1) : Snd r p n := fun i h1 h2 => by
  have := fnd_none h i h1 (by omega)
  have e : (i == 2 * (p + n) - 1) = false := by simp; omega
  rw [e] at this
  by_cases c : 9 < hf r i
  · have e2 : decide (9 < hf r i) = true := by simpa using c
    rw [e2] at this
    exact absurd this (by decide)
  · omega
theorem s_perform {P : PG} {many k : Nat} (hm : Mo c m) (hb : Byt r) (hp : Pr f s P many) (hk : k < many) (h0 : f 38 = 0) (e44 : f 44 = (k : Int) + 1) (ho : Opn f P r k) (h264 : 0 ≤ r 264 ∧ r 264 ≤ 3) (h266 : -1 ≤ r 266 ∧ r 266 < 100) (h273 : -1 ≤ r 273 ∧ r 273 < 100) (hrg : ∀ q, q < 8 → -2147483648 ≤ r (256 + q) ∧ r (256 + q) < 2147483648) (ck : chk (P 0 k) r (opA P r k) (lnA P k) (opB P r k) (lnB P k) = none) (zs : sp8 (P 0 k) r (opA P r k) (lnA P k) (lnB P k) = none) :
    PfO c m f s k (fX13_perform m (jI (k : Int)) (jI (P 0 k)) (MS c m f r s t)) (prf P r k) := by
  have hp' := hp
  obtain ⟨-, hm60, hins, -⟩ := hp
  obtain ⟨pg, i5, i6, i7, i8, i9, i10, i11, i12⟩ := hins k hk
  have lA := lnA_r pg
  have lB := lnB_r pg
  obtain ⟨x34, x35, x36, x37, x38⟩ := ho
  obtain ⟨c1, c2, c3, c4, c5⟩ := chk_none ck
  have rB := opB_r P r k
  obtain ⟨⟨o0, o1⟩, g1, g2, g3, g4, g5, g6, g7, g8, g9, g10, g11, g12⟩ := pg
  have l16 : P 0 k ≤ 8 → lnA P k ≤ 16 ∧ lnB P k ≤ 16 := fun q => by
    have := g3 q
    unfold lnA lnB
    rw [if_neg (by omega), if_pos (by omega), if_pos q]
    omega
  have l14 : P 0 k = 14 → lnA P k ≤ 16 := fun q => by
    have := g5 (by omega) (by omega)
    unfold lnA
    rw [if_neg (by omega), if_pos (by omega)]
    omega
  have l8 : P 0 k = 16 ∨ P 0 k = 17 → lnA P k = 8 := fun q => by
    unfold lnA
    rw [if_pos q]
  clear hins i5 i6 i7 i8
  obtain ⟨A, hA⟩ : ∃ A, A = (opA P r k).toNat := ⟨_, rfl⟩
  obtain ⟨n, hn⟩ : ∃ n, n = (lnA P k).toNat := ⟨_, rfl⟩
  obtain ⟨B, hB⟩ : ∃ B, B = (opB P r k).toNat := ⟨_, rfl⟩
  obtain ⟨l, hl⟩ : ∃ l, l = (lnB P k).toNat := ⟨_, rfl⟩
  have fA : P 0 k ≤ 17 → f 34 = (A : Int) ∧ f 35 = (n : Int) ∧ A + n ≤ 256 ∧ 1 ≤ n ∧ n ≤ 64 := fun q => by
    have a1 := c1 q
    have a2 := lA q
    have a3 := x35 q
    omega
  have fB : P 0 k ≤ 11 → f 36 = (B : Int) ∧ f 37 = (l : Int) ∧ B + l ≤ 256 ∧ 1 ≤ l ∧ l ≤ 64 := fun q => by
    have a1 := c2 q
    have a2 := lB q
    have a3 := x37 q
    omega
  unfold fX13_perform
  (rw [s_gd _ hm]; (try rw [s_gI hm]); rw [o_ob, h0, if_pos (by decide), prf_eq]; (try rw [← hA]); (try rw [← hn]); (try rw [← hB]); (try rw [← hl]))
  rw [← hA, ← hn] at c4
  rw [← hB, ← hl] at c5
  by_cases q0 : P 0 k = 0
  · obtain ⟨a1, a2, a3, a4, a5⟩ := fA (by omega)
    obtain ⟨b1, b2', b3, b4, b5⟩ := fB (by omega)
    rw [if_pos (by first | ((simp (disch := omega) only [jI_lit, jI_neg, jI_add, jI_sub, jI_mul, jI_lt, jI_le, jI_eq, jL_lit, jL_lt, jL_le, jL_eq]) <;> omega) | omega), if_pos q0, s_doPack hm hb a1 a2 b1 b2' a3 a4 b3 b4, o_ob]
    exact ⟨f, s, t, rfl, fun _ _ => rfl, fun _ _ => rfl, h0, fun _ => e44⟩
  rw [if_neg (by first | ((simp (disch := omega) only [jI_lit, jI_neg, jI_add, jI_sub, jI_mul, jI_lt, jI_le, jI_eq, jL_lit, jL_lt, jL_le, jL_eq]) <;> omega) | omega), if_neg q0]
  by_cases q1 : P 0 k = 1
  · obtain ⟨a1, a2, a3, a4, a5⟩ := fA (by omega)
    obtain ⟨b1, b2', b3, b4, b5⟩ := fB (by omega)
    rw [if_pos (by first | ((simp (disch := omega) only [jI_lit, jI_neg, jI_add, jI_sub, jI_mul, jI_lt, jI_le, jI_eq, jL_lit, jL_lt, jL_le, jL_eq]) <;> omega) | omega), if_pos q1, s_doUnpack hm hb a1 a2 b1 b2' a3 a4 b3 b4, o_ob]
    exact ⟨f, s, t, rfl, fun _ _ => rfl, fun _ _ => rfl, h0, fun _ => e44⟩
  rw [if_neg (by first | ((simp (disch := omega) only [jI_lit, jI_neg, jI_add, jI_sub, jI_mul, jI_lt, jI_le, jI_eq, jL_lit, jL_lt, jL_le, jL_eq]) <;> omega) | omega), if_neg q1]
  by_cases q2 : P 0 k = 2
  · obtain ⟨a1, a2, a3, a4, a5⟩ := fA (by omega)
    obtain ⟨b1, b2', b3, b4, b5⟩ := fB (by omega)
    rw [if_pos (by first | ((simp (disch := omega) only [jI_lit, jI_neg, jI_add, jI_sub, jI_mul, jI_lt, jI_le, jI_eq, jL_lit, jL_lt, jL_le, jL_eq]) <;> omega) | omega), if_pos q2, s_doOffset hm hb a1 a2 b1 b2' a3 a4 b3 b4, o_ob]
    exact ⟨f, s, t, rfl, fun _ _ => rfl, fun _ _ => rfl, h0, fun _ => e44⟩
  rw [if_neg (by first | ((simp (disch := omega) only [jI_lit, jI_neg, jI_add, jI_sub, jI_mul, jI_lt, jI_le, jI_eq, jL_lit, jL_lt, jL_le, jL_eq]) <;> omega) | omega), if_neg q2]
  by_cases q6 : P 0 k ≤ 6
  · obtain ⟨a1, a2, a3, a4, a5⟩ := fA (by omega)
    obtain ⟨b1, b2', b3, b4, b5⟩ := fB (by omega)
    have ll6 := l16 (by omega)
    obtain ⟨f', t', y1, y2⟩ := s_doSum (s := s) (t := t) (o := P 0 k) hm hb (by omega) q6 a1 a2 b1 b2' a3 a4 (by omega) b3 b4 (by omega) (fun x => Snd_flp (c4 (Or.inl (by omega)))) (Snd_flp (c5 (by omega))) h0 h273
    (rw [if_neg (by first | ((simp (disch := omega) only [jI_lit, jI_neg, jI_add, jI_sub, jI_mul, jI_lt, jI_le, jI_eq, jL_lit, jL_lt, jL_le, jL_eq]) <;> omega) | omega)]; (try rw [y1]); rw [o_ob])
    unfold prS at y2 ⊢
    by_cases q3 : P 0 k = 3
    · rw [if_pos q3] at y2 ⊢
      rw [if_pos q3]
      exact Pf_St rfl y2 e44
    · rw [if_neg q3] at y2 ⊢
      rw [if_neg q3]
      by_cases q66 : P 0 k = 6
      · rw [if_pos q66] at y2 ⊢
        rw [if_neg (show ¬ (P 0 k = 4 ∨ P 0 k = 5) by omega), if_pos q66]
        exact Pf_St rfl y2 e44
      · rw [if_neg q66] at y2 ⊢
        rw [if_pos (show P 0 k = 4 ∨ P 0 k = 5 by omega)]
        exact Pf_St rfl y2 e44
  rw [if_pos (by first | ((simp (disch := omega) only [jI_lit, jI_neg, jI_add, jI_sub, jI_mul, jI_lt, jI_le, jI_eq, jL_lit, jL_lt, jL_le, jL_eq]) <;> omega) | omega), if_neg (show ¬ P 0 k = 3 by omega), if_neg (show ¬ (P 0 k = 4 ∨ P 0 k = 5) by omega), if_neg (show ¬ P 0 k = 6 by omega)]
  by_cases q7 : P 0 k = 7
  · obtain ⟨a1, a2, a3, a4, a5⟩ := fA (by omega)
    obtain ⟨b1, b2', b3, b4, b5⟩ := fB (by omega)
    have ll6 := l16 (by omega)
    have z : ¬ (fnd (fun h => hf r h != 0) (2 * A) (2 * l) ≠ -1) := fun x => by
      unfold sp8 zsQ at zs
      rw [← hA, ← hl, if_pos ⟨q7, x⟩] at zs
      exact nomatch zs
    obtain ⟨t', y1⟩ := s_doProduct (s := s) (t := t) hm hb a1 a2 b1 b2' a3 a4 (by omega) b3 b4 (by omega) (Snd_flp (c4 (Or.inl (by omega)))) (Snd_flp (c5 (by omega)))
    (rw [if_pos (by first | ((simp (disch := omega) only [jI_lit, jI_neg, jI_add, jI_sub, jI_mul, jI_lt, jI_le, jI_eq, jL_lit, jL_lt, jL_le, jL_eq]) <;> omega) | omega), if_pos q7, if_neg z]; (try rw [y1]); rw [o_ob])
    exact ⟨f, s, t', rfl, fun _ _ => rfl, fun _ _ => rfl, h0, fun _ => e44⟩
  rw [if_neg (by first | ((simp (disch := omega) only [jI_lit, jI_neg, jI_add, jI_sub, jI_mul, jI_lt, jI_le, jI_eq, jL_lit, jL_lt, jL_le, jL_eq]) <;> omega) | omega), if_neg q7]
  by_cases q8 : P 0 k = 8
  · obtain ⟨a1, a2, a3, a4, a5⟩ := fA (by omega)
    obtain ⟨b1, b2', b3, b4, b5⟩ := fB (by omega)
    have ll6 := l16 (by omega)
    have ll := c3 (Or.inr q8)
    obtain ⟨f', t', y1, y2⟩ := s_doQuotient (s := s) (t := t) hm hb a1 a2 b1 b2' a3 (by omega) b3 b4 (by omega) (Snd_flp (c4 (Or.inl (by omega)))) (Snd_flp (c5 (by omega))) h0
    (rw [if_pos (by first | ((simp (disch := omega) only [jI_lit, jI_neg, jI_add, jI_sub, jI_mul, jI_lt, jI_le, jI_eq, jL_lit, jL_lt, jL_le, jL_eq]) <;> omega) | omega), if_pos q8]; (try rw [y1]); rw [o_ob])
    unfold prD at y2 ⊢
    split at y2
    · rename_i z
      rw [if_pos z, if_pos z]
      exact Pf_St rfl y2 e44
    · rename_i z
      rw [if_neg z, if_neg z]
      exact Pf_St rfl y2 e44
  rw [if_neg (by first | ((simp (disch := omega) only [jI_lit, jI_neg, jI_add, jI_sub, jI_mul, jI_lt, jI_le, jI_eq, jL_lit, jL_lt, jL_le, jL_eq]) <;> omega) | omega), if_neg q8]
  by_cases q11 : P 0 k ≤ 11
  · obtain ⟨a1, a2, a3, a4, a5⟩ := fA (by omega)
    obtain ⟨b1, b2', b3, b4, b5⟩ := fB (by omega)
    have en : l = n := by
      rw [hl, hn]
      unfold lnB
      rw [if_neg (by omega), if_pos q11]
    rw [if_neg (by first | ((simp (disch := omega) only [jI_lit, jI_neg, jI_add, jI_sub, jI_mul, jI_lt, jI_le, jI_eq, jL_lit, jL_lt, jL_le, jL_eq]) <;> omega) | omega), if_pos (show P 0 k = 9 ∨ P 0 k = 10 ∨ P 0 k = 11 by omega), s_doCopy hm hb (by omega) q11 a1 a2 b1 a3 (by omega), o_ob]
    exact ⟨f, s, t, rfl, fun _ _ => rfl, fun _ _ => rfl, h0, fun _ => e44⟩
  rw [if_pos (by first | ((simp (disch := omega) only [jI_lit, jI_neg, jI_add, jI_sub, jI_mul, jI_lt, jI_le, jI_eq, jL_lit, jL_lt, jL_le, jL_eq]) <;> omega) | omega), if_neg (show ¬ (P 0 k = 9 ∨ P 0 k = 10 ∨ P 0 k = 11) by omega)]
  by_cases q13 : P 0 k ≤ 13
  · obtain ⟨a1, a2, a3, a4, a5⟩ := fA (by omega)
    obtain ⟨mk, hmk⟩ : ∃ mk : Bool, mk = decide (P 0 k = 13) := ⟨_, rfl⟩
    obtain ⟨g, pt, y1, y2, y3⟩ := s_doEdit (s := s) (t := t) (src0 := opB P r k) (mk := mk) hm hb h0 a1 a2 x36 rB.1 rB.2 a3 a4 a5
    have e115 : (if jI (P 0 k) = 13 then fX13_perform_115 1 m (MS c m f r s t) else fX13_perform_115 0 m (MS c m f r s t)) = some (MS c m g (prE r A n (opB P r k) mk).1 (va_up s 22 pt) t) := by
      unfold fX13_perform_115
      by_cases z : P 0 k = 13
      · have : mk = true := by rw [hmk]; simpa using z
        rw [this] at y1 ⊢
        (rw [if_pos (by first | ((simp (disch := omega) only [jI_lit, jI_neg, jI_add, jI_sub, jI_mul, jI_lt, jI_le, jI_eq, jL_lit, jL_lt, jL_le, jL_eq]) <;> omega) | omega)]; (try rw [show (1 : Int32) = jI (b2 true) from rfl]); (try rw [y1]); rw [o_ob])
      · have : mk = false := by rw [hmk]; simpa using z
        rw [this] at y1 ⊢
        (rw [if_neg (by first | ((simp (disch := omega) only [jI_lit, jI_neg, jI_add, jI_sub, jI_mul, jI_lt, jI_le, jI_eq, jL_lit, jL_lt, jL_le, jL_eq]) <;> omega) | omega)]; (try rw [show (0 : Int32) = jI (b2 false) from rfl]); (try rw [y1]); rw [o_ob])
    (rw [if_neg (by first | ((simp (disch := omega) only [jI_lit, jI_neg, jI_add, jI_sub, jI_mul, jI_lt, jI_le, jI_eq, jL_lit, jL_lt, jL_le, jL_eq]) <;> omega) | omega)]; (try rw [e115]); rw [if_pos (show P 0 k = 12 ∨ P 0 k = 13 by omega)])
    have em : (mk = true) = (P 0 k = 13) := by rw [hmk]; simp
    unfold prE at y3 ⊢
    cases hS : edS r A (opB P r k) n with
    | inl a =>
      obtain ⟨cc, xx, u⟩ := a
      rw [hS] at y3
      exact ⟨g, _, t, rfl, fun j hj => y2 j (by omega), fun j hj => va_up_ne _ _ hj, y3, (fun x => nomatch x)⟩
    | inr a =>
      obtain ⟨u, src, waits, seen, any, mark⟩ := a
      rw [hS] at y3
      simp only [em]
      exact ⟨g, _, t, rfl, fun j hj => y2 j (by omega), fun j hj => va_up_ne _ _ hj, y3, fun _ => (y2 44 (by omega)).trans e44⟩
  rw [if_pos (by first | ((simp (disch := omega) only [jI_lit, jI_neg, jI_add, jI_sub, jI_mul, jI_lt, jI_le, jI_eq, jL_lit, jL_lt, jL_le, jL_eq]) <;> omega) | omega), if_neg (show ¬ (P 0 k = 12 ∨ P 0 k = 13) by omega)]
  by_cases q14 : P 0 k = 14
  · obtain ⟨a1, a2, a3, a4, a5⟩ := fA (by omega)
    have ll4 := l14 q14
    have g := g6 q14
    have e9 := i10 (Or.inl q14)
    have e10 := i11 (Or.inl q14)
    obtain ⟨f', t', y1, y2⟩ := s_doShift (s := s) (t := t) (sh := P 4 k) (rd := (P 5 k).toNat) hm hb a1 a2 a3 a4 (by omega) (Snd_flp (c4 (by omega))) h0 h273 (by omega) (by omega) (by omega)
    rw [show (((P 5 k).toNat : Nat) : Int) = P 5 k by omega] at y1
    (rw [if_pos (by first | ((simp (disch := omega) only [jI_lit, jI_neg, jI_add, jI_sub, jI_mul, jI_lt, jI_le, jI_eq, jL_lit, jL_lt, jL_le, jL_eq]) <;> omega) | omega), if_pos q14]; (try rw [s_R9 hm]); rw [o_ob, s_a9 hm (by omega) (by omega), o_ob]; (try rw [s_R10 hm]); rw [o_ob, s_a10 hm (by omega) (by omega), o_ob]; (try rw [show ((k : Int)).toNat = k by omega]); (try rw [e9]); (try rw [e10]); (try rw [y1]); rw [o_ob])
    exact Pf_St rfl y2 e44
  rw [if_neg (by first | ((simp (disch := omega) only [jI_lit, jI_neg, jI_add, jI_sub, jI_mul, jI_lt, jI_le, jI_eq, jL_lit, jL_lt, jL_le, jL_eq]) <;> omega) | omega), if_neg q14]
  by_cases q15 : P 0 k = 15
  · obtain ⟨a1, a2, a3, a4, a5⟩ := fA (by omega)
    rw [if_pos (by first | ((simp (disch := omega) only [jI_lit, jI_neg, jI_add, jI_sub, jI_mul, jI_lt, jI_le, jI_eq, jL_lit, jL_lt, jL_le, jL_eq]) <;> omega) | omega), if_pos q15, s_doTest hm hb a1 a2 a3 a4, o_ob]
    exact ⟨f, s, t, rfl, fun _ _ => rfl, fun _ _ => rfl, h0, fun _ => e44⟩
  rw [if_neg (by first | ((simp (disch := omega) only [jI_lit, jI_neg, jI_add, jI_sub, jI_mul, jI_lt, jI_le, jI_eq, jL_lit, jL_lt, jL_le, jL_eq]) <;> omega) | omega), if_neg q15]
  by_cases q16 : P 0 k = 16
  · obtain ⟨a1, a2, a3, a4, a5⟩ := fA (by omega)
    have e8 : n = 8 := by rw [hn, l8 (Or.inl q16)]; rfl
    have g := g7 (by omega) (by omega)
    have e9 := i10 (by omega)
    subst e8
    obtain ⟨f', t', y1, y2⟩ := s_doBinary (s := s) (t := t) (q := (P 4 k).toNat) hm hb a1 a2 a3 (Snd_flp (c4 (by omega))) h0 (by omega)
    rw [show (((P 4 k).toNat : Nat) : Int) = P 4 k by omega] at y1
    (rw [if_pos (by first | ((simp (disch := omega) only [jI_lit, jI_neg, jI_add, jI_sub, jI_mul, jI_lt, jI_le, jI_eq, jL_lit, jL_lt, jL_le, jL_eq]) <;> omega) | omega), if_pos q16]; (try rw [s_R9 hm]); rw [o_ob, s_a9 hm (by omega) (by omega), o_ob]; (try rw [show ((k : Int)).toNat = k by omega]); (try rw [e9]); (try rw [y1]); rw [o_ob])
    unfold prB at y2 ⊢
    obtain ⟨w, hw⟩ : ∃ w : Int, w = if pks r A 8 then -(pkv r A 8 : Int) else pkv r A 8 := ⟨_, rfl⟩
    rw [← hw] at y2 ⊢
    by_cases z : w < -2147483648 ∨ 2147483647 < w
    · rw [if_pos z] at y2 ⊢
      rw [if_pos z]
      exact Pf_St rfl y2 e44
    · rw [if_neg z] at y2 ⊢
      rw [if_neg z]
      exact Pf_St rfl y2 e44
  rw [if_neg (by first | ((simp (disch := omega) only [jI_lit, jI_neg, jI_add, jI_sub, jI_mul, jI_lt, jI_le, jI_eq, jL_lit, jL_lt, jL_le, jL_eq]) <;> omega) | omega), if_neg q16]
  by_cases q17 : P 0 k = 17
  · obtain ⟨a1, a2, a3, a4, a5⟩ := fA (by omega)
    have e8 : n = 8 := by rw [hn, l8 (Or.inr q17)]; rfl
    have g := g7 (by omega) (by omega)
    have e9 := i10 (by omega)
    subst e8
    obtain ⟨t', y1⟩ := s_doDecimal (f := f) (s := s) (t := t) (q := (P 4 k).toNat) hm hb a1 a2 a3 (by omega) (hrg _ (by omega))
    rw [show (((P 4 k).toNat : Nat) : Int) = P 4 k by omega] at y1
    (rw [if_pos (by first | ((simp (disch := omega) only [jI_lit, jI_neg, jI_add, jI_sub, jI_mul, jI_lt, jI_le, jI_eq, jL_lit, jL_lt, jL_le, jL_eq]) <;> omega) | omega), if_pos q17]; (try rw [s_R9 hm]); rw [o_ob, s_a9 hm (by omega) (by omega), o_ob]; (try rw [show ((k : Int)).toNat = k by omega]); (try rw [e9]); (try rw [y1]); rw [o_ob])
    exact ⟨f, s, t', rfl, fun _ _ => rfl, fun _ _ => rfl, h0, fun _ => e44⟩
  rw [if_neg (by first | ((simp (disch := omega) only [jI_lit, jI_neg, jI_add, jI_sub, jI_mul, jI_lt, jI_le, jI_eq, jL_lit, jL_lt, jL_le, jL_eq]) <;> omega) | omega), if_neg q17]
  obtain ⟨f', y1, y2, y3⟩ := s_doRegister (r := r) (t := t) hm hp' hk (by omega) e44 h264 h266 hrg
  rw [y1, o_ob]
  have ed : ∀ (o : (Nat → Int) × Option FT6 × Int), o.1 = (prR P r k).1 → o.2.1 = none → o.2.2 = (prR P r k).2 → PfO c m f s k (some (MS c m f' (prR P r k).1 s t)) o := fun o p1 p2 p3 => ⟨f', s, t, by rw [p1], fun j hj => y2 j (by omega), fun _ _ => rfl, by rw [p2]; exact (y2 38 (by omega)).trans h0, fun _ => by rw [p3]; exact y3⟩
  unfold prR at ed ⊢
  by_cases q18 : P 0 k = 18
  · rw [if_pos q18] at ed ⊢; rw [if_pos q18]; exact ed _ rfl rfl rfl
  rw [if_neg q18] at ed ⊢; rw [if_neg q18]
  by_cases q19 : P 0 k = 19
  · rw [if_pos q19] at ed ⊢; rw [if_pos q19]; exact ed _ rfl rfl rfl
  rw [if_neg q19] at ed ⊢; rw [if_neg q19]
  by_cases q20 : P 0 k = 20
  · rw [if_pos q20] at ed ⊢; rw [if_pos q20]; exact ed _ rfl rfl rfl
  rw [if_neg q20] at ed ⊢; rw [if_neg q20]
  by_cases q21 : P 0 k = 21
  · rw [if_pos q21] at ed ⊢; rw [if_pos q21]; exact ed _ rfl rfl rfl
  rw [if_neg q21] at ed ⊢; rw [if_neg q21]
  by_cases q22 : P 0 k = 22
  · rw [if_pos q22] at ed ⊢; rw [if_pos q22]; exact ed _ rfl rfl rfl
  rw [if_neg q22] at ed ⊢; rw [if_neg q22]
  by_cases q23 : P 0 k = 23
  · rw [if_pos q23] at ed ⊢; rw [if_pos q23]; exact ed _ rfl rfl rfl
  rw [if_neg q23] at ed ⊢; rw [if_neg q23]; exact ed _ rfl rfl rfl
theorem s_performX {k : Nat} {o : Int} (hm : Mo c m) (h0 : 1 ≤ f 38) (h1 : f 38 ≤ 8) : fX13_perform m (jI (k : Int)) (jI o) (MS c m f r s t) = some (MS c m f r s t) := by
  unfold fX13_perform
  (rw [s_gd _ hm]; (try rw [s_gI hm]); rw [o_ob, if_neg (by first | ((simp (disch := omega) only [jI_lit, jI_neg, jI_add, jI_sub, jI_mul, jI_lt, jI_le, jI_eq, jL_lit, jL_lt, jL_le, jL_eq]) <;> omega) | omega)])
end RST
