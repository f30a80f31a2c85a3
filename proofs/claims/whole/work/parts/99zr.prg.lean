section RUR
variable {c : MC} {m : Nat} {f r : Nat → Int} {s t : SI2} {many k mm n : Nat} {P : PG} {A : Nat → Nat → Int} {nt cr tp : Nat → Int} {fp : Int} {im : Option DS}
def parR (st : LNS) (Q : Nat → Int) : MD → (Int × Int) ⊕ (LNS × (Nat → Int))
  | .inl x => .inl x
  | .inr _ => if fnd (bdq st) 0 st.1 = -1 then .inr (st, Q) else .inl (3, st.2.2.2.2.2 (fnd (bdq st) 0 st.1).toNat)
theorem par_x {tx : Nat → Int} {a : Nat} {M : MD} {st : LNS} {Q : Nat → Int} (h : prsL tx a (a + 1) (tok tx a 0) s00 (fun _ => 0) = (M, st, Q)) : par tx a = parR st Q M := by
  unfold par
  rw [h]
  cases M with
  | inl x => rfl
  | inr T => rfl
/-- only the text was read -/
theorem RF_rd {f' : Nat → Int} {s' : SI2} (h : RF c m f r s many P k A mm nt cr n tp fp im) (h16 : f' 16 = 0) (h25 : f' 25 = fp) (hf : ∀ j, j = 13 ∨ j = 58 ∨ j = 59 ∨ j = 67 ∨ j = 68 ∨ j = 69 → f' j = f j) (hs : ∀ j, j < 5 ∨ 17 < j ∨ j = 13 → s' j = s j) (h5 : ∀ j i, (j = 5 ∨ (9 ≤ j ∧ j ≤ 11)) → i < 60 → s' j i = s j i) (h6 : ∀ j i, 6 ≤ j → j ≤ 8 → i < 120 → s' j i = s j i) (h12 : ∀ i, i < 256 → s' 12 i = s 12 i) : RF c m f' r s' many P k A mm nt cr 0 tp fp im := by
  obtain ⟨h1, ⟨p1, p2, p3, p4⟩, h3, h4, ⟨a1, a2, a3⟩, ⟨b1, b2', b3⟩, h7, ⟨d1, d2, d3⟩, h9, ⟨i1, i2⟩⟩ := h
  refine ⟨h1, ⟨(hf 13 (by omega)).trans p1, p2, fun i hi => ?_, fun j hj => by rw [h12 j hj]; exact p4 j hj⟩, h3, h4, ⟨(hf 58 (by omega)).trans a1, a2, fun i hi => by rw [hs 25 (by omega)]; exact a3 i hi⟩, ⟨(hf 59 (by omega)).trans b1, b2', fun i hi => ?_⟩, fun j hj => by rw [hs 4 (by omega)]; exact h7 j hj, ⟨h16, by omega, fun j hj => by rw [hs 13 (by omega)]; exact d3 j hj⟩, h25, ⟨(hf 67 (by omega)).trans i1, fun r' k' A' m' nt' cr' q => ?_⟩⟩
  · rw [h5 5 i (by omega) (by omega), h6 6 (2 * i) (by omega) (by omega) (by omega), h6 7 (2 * i) (by omega) (by omega) (by omega), h6 6 (2 * i + 1) (by omega) (by omega) (by omega), h6 7 (2 * i + 1) (by omega) (by omega) (by omega), h6 8 (2 * i) (by omega) (by omega) (by omega), h6 8 (2 * i + 1) (by omega) (by omega) (by omega), h5 9 i (by omega) (by omega), h5 10 i (by omega) (by omega), h5 11 i (by omega) (by omega)]
    exact p3 i hi
  · rw [hs 28 (by omega), hs 29 (by omega), hs 30 (by omega)]
    exact b3 i hi
  · have x := i2 r' k' A' m' nt' cr' q
    rw [hf 68 (by omega), hf 69 (by omega), hs 31 (by omega), hs 32 (by omega), hs 33 (by omega), hs 34 (by omega), hs 35 (by omega), hs 36 (by omega)]
    exact x
theorem z_ProgX {a : Int} (h : RF c m f r s many P k A mm nt cr n tp fp im) (a1 : -2147483648 ≤ a) (a2 : a < 2147483648) (hn : ¬ (0 ≤ a ∧ a ≤ n)) : Rk c m f r s (fX13_program m (jI a) (MS c m f r s t)) (.inl 1) := by
  have hm := h.1
  obtain ⟨d1, d2, -⟩ := h.2.2.2.2.2.2.2.1
  have fin : Rk c m f r s (fX13_program_17 m (MS c m (va_up f 2 0) r s t)) (.inl 1) := by
    unfold fX13_program_17
    exact Rk_fl (k := 1) hm Kf_2 (Ks_rf s)
  unfold fX13_program
  (rw [s_gd _ hm]; (try rw [show (0 : Int32) = jI 0 from rfl]); rw [s_pI hm, o_ob])
  by_cases x1 : jI a < jI 0
  · rw [if_pos x1]; exact fin
  (rw [if_neg x1]; (try rw [s_gI hm]); rw [o_ob]; (try rw [va_up_ne _ _ (show (16 : Nat) ≠ 2 by omega)]); (try rw [d1]))
  rw [jI_lt (by omega) (by omega) (by omega) (by omega)] at x1
  rw [if_neg (by rw [jI_le (by omega) (by omega) (by omega) (by omega)]; omega)]
  exact fin
/-- a program: what comes of it -/
def PgO (c : MC) (m : Nat) (r : Nat → Int) (t : SI2) (many : Nat) (P : PG) (k : Nat) (A : Nat → Nat → Int) (mm : Nat) (nt cr tp : Nat → Int) (im : Option DS) (a : Nat) (o : Option (Int32 × Hp)) : Prop :=
  (∃ cc pl f' s', par tp a = .inl (cc, pl) ∧ 1 ≤ cc ∧ cc ≤ 4 ∧ o = some (jI cc, MS c m f' r s' t) ∧ f' 2 = 0 ∧ RF c m f' r s' many P k A mm nt (va_up cr 0 (cr 0 + 1)) 0 tp pl im) ∨
  (∃ st Q f' s', par tp a = .inr (st, Q) ∧ STK st ∧ o = some (jI 0, MS c m f' (bgn (pgm st Q) st.1 emp) s' t) ∧ f' 2 = 0 ∧ RF c m f' (bgn (pgm st Q) st.1 emp) s' st.1 (pgm st Q) 0 A 0 nt cr 0 tp (-1) none)
theorem z_Prog {a : Nat} (h : RF c m f r s many P k A mm nt cr n tp fp im) (ha : a ≤ n) : PgO c m r t many P k A mm nt cr tp im a (fX13_program m (jI (a : Int)) (MS c m f r s t)) := by
  have hm := h.1
  obtain ⟨d1, d2, d3⟩ := h.2.2.2.2.2.2.2.1
  have zt := h.2.2.2.1
  have ok := h.2.2.1
  obtain ⟨f1, hf1⟩ : ∃ f1, f1 = va_up (va_up (va_up (va_up (va_up (va_up (va_up f 2 0) 16 0) 18 (a : Int)) 17 0) 23 0) 25 (-1)) 14 0 := ⟨_, rfl⟩
  have g2 : f1 2 = 0 := by ((try rw [hf1]); (try rw [va_up_ne _ _ (by omega)]); (try rw [va_up_ne _ _ (by omega)]); (try rw [va_up_ne _ _ (by omega)]); (try rw [va_up_ne _ _ (by omega)]); (try rw [va_up_ne _ _ (by omega)]); (try rw [va_up_ne _ _ (by omega)]); (try rw [va_up_self]))
  have g16 : f1 16 = 0 := by ((try rw [hf1]); (try rw [va_up_ne _ _ (by omega)]); (try rw [va_up_ne _ _ (by omega)]); (try rw [va_up_ne _ _ (by omega)]); (try rw [va_up_ne _ _ (by omega)]); (try rw [va_up_ne _ _ (by omega)]); (try rw [va_up_self]))
  have g18 : f1 18 = (a : Int) := by ((try rw [hf1]); (try rw [va_up_ne _ _ (by omega)]); (try rw [va_up_ne _ _ (by omega)]); (try rw [va_up_ne _ _ (by omega)]); (try rw [va_up_ne _ _ (by omega)]); (try rw [va_up_self]))
  have g17 : f1 17 = ((0 : Nat) : Int) := by ((try rw [hf1]); (try rw [va_up_ne _ _ (by omega)]); (try rw [va_up_ne _ _ (by omega)]); (try rw [va_up_ne _ _ (by omega)]); (try rw [va_up_self])); rfl
  have g23 : f1 23 = 0 := by ((try rw [hf1]); (try rw [va_up_ne _ _ (by omega)]); (try rw [va_up_ne _ _ (by omega)]); (try rw [va_up_self]))
  have g25 : f1 25 = -1 := by ((try rw [hf1]); (try rw [va_up_ne _ _ (by omega)]); (try rw [va_up_self]))
  have g14 : f1 14 = 0 := by rw [hf1, va_up_self]
  have gx : ∀ j, j ≠ 2 → j ≠ 16 → j ≠ 18 → j ≠ 17 → j ≠ 23 → j ≠ 25 → j ≠ 14 → f1 j = f j := fun j q1 q2 q3 q4 q5 q6 q7 => by ((try rw [hf1]); (try rw [va_up_ne _ _ q7]); (try rw [va_up_ne _ _ q6]); (try rw [va_up_ne _ _ q5]); (try rw [va_up_ne _ _ q4]); (try rw [va_up_ne _ _ q3]); (try rw [va_up_ne _ _ q2]); (try rw [va_up_ne _ _ q1]))
  obtain ⟨s1, hs1⟩ : ∃ s1 : SI2, s1 = va_up s 12 (flA (s 12) 256 256 0) := ⟨_, rfl⟩
  have u : ∀ j, j ≠ 12 → s1 j = s j := fun j hj => by rw [hs1, va_up_ne _ _ hj]
  have ul : ∀ i, i < 256 → s1 12 i = s 12 i := fun i hi => by rw [hs1, va_up_self]; unfold flA; rw [if_neg (by omega)]
  have uh : ∀ i, i < 256 → s1 12 (256 + i) = 0 := fun i hi => by rw [hs1, va_up_self]; unfold flA; rw [if_pos (by omega)]
  have ht : TxR s1 tp a := ⟨by omega, fun j hj => by rw [u 13 (by omega)]; exact d3 j hj⟩
  obtain ⟨f2, e1, e2, e3, e4, e5, e6, e7⟩ := s_stepOn (f := f1) (r := r) (t := t) hm g18 (by omega) g17 (by omega) ht.2
  have L2 : LvR f2 tp a (tok tp a 0) := ⟨(e7 23 (by omega)).trans g23, e3, e4, e5, e2, (e7 18 (by omega)).trans g18, TOK_tok (by omega), fun q => by rw [e6, if_pos q]⟩
  have S2 : RdS f2 s1 tp a s00 (fun _ => 0) := ⟨⟨(e7 14 (by omega)).trans (g14.trans rfl), by show (0 : Nat) ≤ 60; omega, fun i hi => absurd hi (Nat.not_lt_zero i)⟩, fun i hi => absurd hi (Nat.not_lt_zero i), ⟨fun j _ => ⟨by show (0 : Int) ≤ 0; omega, by show (0 : Int) < 256; omega⟩, fun _ _ => rfl⟩, uh⟩
  obtain ⟨f3, s3, M, st, Q, x1, x2, x3, x4, x5, x6⟩ := s_lines (r := r) (t := t) hm ht L2 S2
  have px := par_x x5
  have fx : ∀ j, (j < 14 ∨ j = 15 ∨ 25 < j) → j ≠ 2 → f3 j = f j := fun j q1 q2 => by rw [x3 j (by omega), e7 j (by omega), gx j q2 (by omega) (by omega) (by omega) (by omega) (by omega) (by omega)]
  have f32 : f3 2 = 0 := by rw [x3 2 (by omega), e7 2 (by omega)]; exact g2
  have f316 : f3 16 = 0 := by rw [x3 16 (by omega), e7 16 (by omega)]; exact g16
  have f325 : f3 25 = -1 := by rw [x3 25 (by omega), e7 25 (by omega)]; exact g25
  obtain ⟨w1, w2, w3, w4⟩ := x4
  -- up to there
  have run : fX13_program m (jI (a : Int)) (MS c m f r s t) = fX13_program_104 m (MS c m f3 r s3 t) := by
    have key := lp_up (z := fun _ _ _ => none) (S := fX13_program_55) (β := Int32 × Hp) (fun kk (i : Nat) => kk m (jI (i : Int)) (MS c m f1 r (va_up s 12 (flA (s 12) 256 i 0)) t)) (E := fX13_program_104 m (MS c m f3 r s3 t)) (M := 256) ?_ ?_ FU 0 (by omega) (FU_lt (by omega))
    · have key : lp (fun _ _ _ => none) fX13_program_55 FU m 0 (MS c m f1 r (va_up s 12 (flA (s 12) 256 0 0)) t) = _ := key
      rw [flA_0, up_id] at key
      unfold fX13_program
      (rw [s_gd _ hm]; (try rw [show (0 : Int32) = jI 0 from rfl]); rw [s_pI hm, o_ob, if_neg (by rw [jI_lt (by omega) (by omega) (by omega) (by omega)]; omega)]; (try rw [s_gI hm]); rw [o_ob]; (try rw [va_up_ne _ _ (show (16 : Nat) ≠ 2 by omega)]); (try rw [d1]); rw [if_pos (by rw [jI_le (by omega) (by omega) (by omega) (by omega)]; omega), s_pI hm, o_ob, s_pI hm, o_ob, s_pI hm, o_ob, s_pI hm, o_ob]; (try rw [show (-1 : Int32) = jI (-1) from rfl]); rw [s_pI hm, o_ob, s_pI hm, o_ob]; (try rw [← hf1]))
      exact key
    · intro i hi kk
      have ek : jI (i : Int) + 1 = jI ((i + 1 : Nat) : Int) := by rw [show (1 : Int32) = jI 1 from rfl, jI_add]; congr 1
      have es : va_up (va_up s 12 (flA (s 12) 256 i 0)) 12 (va_up ((va_up s 12 (flA (s 12) 256 i 0)) 12) (256 + i) 0) = va_up s 12 (flA (s 12) 256 (i + 1) 0) := by
        ((try rw [upup]); (try rw [va_up_self]); rw [flA_s])
      show fX13_program_55 kk m (jI (i : Int)) (MS c m f1 r (va_up s 12 (flA (s 12) 256 i 0)) t) = _
      unfold fX13_program_55
      (rw [if_neg (by first | ((simp (disch := omega) only [jI_lit, jI_neg, jI_add, jI_sub, jI_mul, jI_lt, jI_le, jI_eq, jL_lit, jL_lt, jL_le, jL_eq]) <;> omega) | omega)]; (try rw [s_R12 hm]); rw [o_ob]; (try rw [show (256 : Int32) = jI 256 from rfl]); (try rw [show (0 : Int32) = jI 0 from rfl]); (try rw [jI_add]); rw [s_q12 hm (by omega) (by omega), o_ob]; (try rw [show ((256 : Int) + (i : Int)).toNat = 256 + i by omega]); rw [es, o_lt, ek])
    · intro kk
      show fX13_program_55 kk m (jI ((256 : Nat) : Int)) (MS c m f1 r (va_up s 12 (flA (s 12) 256 256 0)) t) = _
      unfold fX13_program_55
      (rw [if_pos (by first | ((simp (disch := omega) only [jI_lit, jI_neg, jI_add, jI_sub, jI_mul, jI_lt, jI_le, jI_eq, jL_lit, jL_lt, jL_le, jL_eq]) <;> omega) | omega)]; (try rw [← hs1]); (try rw [e1]); rw [o_ob])
      exact x1
  rw [run]
  -- a fault is told
  have told : ∀ (F : Nat → Int) (S : SI2) (cc pl : Int), par tp a = .inl (cc, pl) → 1 ≤ cc → cc ≤ 4 → F 23 = cc → F 24 = pl → (∀ j, j ≠ 23 → j ≠ 24 → F j = f3 j) → (∀ j, j ≠ 11 → S j = s3 j) → (∀ y, y < 60 → S 11 y = s3 11 y) → fX13_findNames m (MS c m f3 r s3 t) = some (MS c m F r S t) → PgO c m r t many P k A mm nt cr tp im a (fX13_program_104 m (MS c m f3 r s3 t)) := by
    intro F S cc pl q0 q1 q2 q3 q4 q5 q6 q7 q8
    left
    have n0 : ¬ jI cc = 0 := by rw [show (0 : Int32) = jI 0 from rfl, jI_eq (by omega) (by omega) (by omega) (by omega)]; omega
    have RF1 : RF c m (va_up F 25 pl) r S many P k A mm nt cr 0 tp pl im := by
      have fF : ∀ j, j = 13 ∨ j = 58 ∨ j = 59 ∨ j = 67 ∨ j = 68 ∨ j = 69 → (va_up F 25 pl) j = (va_up f 25 pl) j := fun j hj => by ((try rw [va_up_ne _ _ (by omega)]); rw [q5 j (by omega) (by omega), fx j (by omega) (by omega)]; (try rw [va_up_ne _ _ (by omega)]))
      have h0 : RF c m (va_up f 25 pl) r s many P k A mm nt cr n tp pl im := by
        obtain ⟨y1, ⟨p1, p2⟩, y3, y4, ⟨a1, a2⟩, ⟨b1, b2'⟩, y7, ⟨c1, c2⟩, y9, ⟨i1, i2⟩⟩ := h
        refine ⟨y1, ⟨by rw [va_up_ne _ _ (by omega)]; exact p1, p2⟩, y3, y4, ⟨by rw [va_up_ne _ _ (by omega)]; exact a1, a2⟩, ⟨by rw [va_up_ne _ _ (by omega)]; exact b1, b2'⟩, y7, ⟨by rw [va_up_ne _ _ (by omega)]; exact c1, c2⟩, va_up_self _ _ _, ⟨by rw [va_up_ne _ _ (by omega)]; exact i1, fun r' k' A' m' nt' cr' q => ?_⟩⟩
        have x := i2 r' k' A' m' nt' cr' q
        rw [va_up_ne _ _ (by omega), va_up_ne _ _ (by omega)]
        exact x
      refine RF_rd h0 (by rw [va_up_ne _ _ (by omega), q5 16 (by omega) (by omega)]; exact f316) (va_up_self _ _ _) fF (fun j hj => ?_) (fun j i hj hi => ?_) (fun j i h6 h8 hi => ?_) (fun i hi => ?_)
      · rw [q6 j (by omega), w1 j hj, u j (by omega)]
      · by_cases z : j = 11
        · rw [z, q7 i hi, w2 11 i (by omega) hi, u 11 (by omega)]
        · rw [q6 j z, w2 j i hj hi, u j (by omega)]
      · rw [q6 j (by omega), w3 j i h6 h8 hi, u j (by omega)]
      · rw [q6 12 (by omega), w4 i hi, ul i hi]
    have RF2 := RF_cr (w := 0) RF1 (by omega)
    refine ⟨cc, pl, _, _, q0, q1, q2, ?_, ?_, RF2⟩
    · unfold fX13_program_104
      ((try rw [q8]); rw [o_ob]; (try rw [s_gI hm]); rw [o_ob]; (try rw [q3]); rw [if_neg n0]; (try rw [s_gI hm]); rw [o_ob]; (try rw [q4]); rw [s_pI hm, o_ob]; (try rw [s_R4 hm]); rw [o_ob]; (try rw [show (0 : Int32) = jI 0 from rfl]); rw [s_a4 hm (by omega) (by omega), o_ob]; (try rw [show (1 : Int32) = jI 1 from rfl]); (try rw [jI_add]); rw [s_q4 hm (by omega) (by omega), o_ob]; (try rw [s_gI hm]); rw [o_ob]; (try rw [va_up_ne _ _ (show (23 : Nat) ≠ 25 by omega)]); (try rw [q3]))
      rfl
    · rw [va_up_ne _ _ (by omega), q5 2 (by omega) (by omega)]; exact f32
  cases M with
  | inl e =>
    have ne := SmR_f x2
    have px : par tp a = .inl e := px
    obtain ⟨cc, pl⟩ := e
    obtain ⟨y1, y2, y3, y4, -⟩ := x2
    refine told f3 s3 cc pl px y3 y4 y1 y2 (fun _ _ _ => rfl) (fun _ _ => rfl) (fun _ _ => rfl) ?_
    have k2 := lp_up (z := fun _ _ _ => none) (S := fX13_findNames_2) (β := Hp) (fun kk (_ : Nat) => kk m 0 (MS c m f3 r s3 t)) (E := some (MS c m f3 r s3 t)) (M := 0) (fun i hi => by omega) (fun kk => by
      unfold fX13_findNames_2
      rw [s_gI hm, o_ob]
      by_cases z : jI (f3 14) ≤ 0
      · rw [if_pos z]
      · (rw [if_neg z]; (try rw [s_gI hm]); rw [o_ob, if_neg ne])) FU 0 (by omega) (FU_lt (by omega))
    have k2 : lp (fun _ _ _ => none) fX13_findNames_2 FU m 0 (MS c m f3 r s3 t) = _ := k2
    unfold fX13_findNames
    rw [s_gd _ hm]
    exact k2
  | inr T =>
    have px : par tp a = if fnd (bdq st) 0 st.1 = -1 then .inr (st, Q) else .inl (3, st.2.2.2.2.2 (fnd (bdq st) 0 st.1).toNat) := px
    have S3 := x6 T rfl
    have ht3 : TxR s3 tp a := ⟨ht.1, fun j hj => by rw [w1 13 (by omega)]; exact ht.2 j hj⟩
    have y23 : f3 23 = 0 := x2.1
    obtain ⟨F, S, z1, z2, z3, z4⟩ := s_bindN (T := T) (r := r) (t := t) hm ht3 y23 S3
    rcases z4 with ⟨z5, z6, z7⟩ | ⟨x0, z5, z6⟩
    rotate_left
    · rw [if_neg (by rw [z5]; omega), z5] at px
      have e0 : ((x0 : Nat) : Int).toNat = x0 := by omega
      rw [e0] at px
      exact told F S 3 _ px (by omega) (by omega) (by ((try rw [z6]); (try rw [va_up_ne _ _ (by omega)]); (try rw [va_up_self]))) (by rw [z6, va_up_self]) (fun j a1 a2 => by ((try rw [z6]); (try rw [va_up_ne _ _ a2]); (try rw [va_up_ne _ _ a1]))) z2 z3 z1
    · right
      rw [if_pos z7] at px
      subst z5
      obtain ⟨f', hf'⟩ : ∃ f', f' = F := ⟨_, rfl⟩
      subst hf'
      obtain ⟨sN, sO, sQ⟩ := S3
      have h14 := sN.1
      have h60 := sN.2.1
      have sO2 : RdO S tp a st := RdO_fr sO (fun i _ => by rw [z2 5 (by omega)]) (fun i _ j _ _ => ⟨by rw [z2 j (by omega)], by rw [z2 j (by omega)]⟩) (fun i _ j _ _ => by rw [z2 j (by omega)]) (fun i _ => ⟨by rw [z2 16 (by omega)], by rw [z2 17 (by omega)]⟩)
      have sQ2 : LdR S Q := ⟨sQ.1, fun j hj => by rw [z2 12 (by omega)]; exact sQ.2 j hj⟩
      obtain ⟨v1, v2, v3⟩ := s_takeOver (r := r) (t := t) hm sO2 sQ2 h60 z7 z6 h14 zt
      refine ⟨st, Q, va_up (va_up (va_up (va_up f' 13 (st.1 : Int)) 58 0) 59 0) 67 0, tkO S, px, v3, ?_, ?_, ?_⟩
      rotate_left
      rotate_left
      · refine ⟨hm, v2, RowOK_bgn (RowOK_emp (by omega)) h60 (fun j hj => (v2.2.2.2 j hj).2), Zt_bgE, ⟨?_, by omega, fun i hi => by omega⟩, ⟨?_, ⟨by omega, fun i hi => by omega⟩, fun i hi => by omega⟩, fun j hj => ?_, ⟨?_, by omega, fun j hj => ?_⟩, ?_, ⟨?_, fun r' k' A' m' nt' cr' q => absurd q (by simp)⟩⟩
        · ((try rw [va_up_ne _ _ (by omega)]); (try rw [va_up_ne _ _ (by omega)]); (try rw [va_up_self])); rfl
        · rw [va_up_ne _ _ (by omega), va_up_self]; rfl
        · rw [tkO_ne (by omega), z2 4 (by omega), w1 4 (by omega), u 4 (by omega)]; exact h.2.2.2.2.2.2.1 j hj
        · ((try rw [va_up_ne _ _ (by omega)]); (try rw [va_up_ne _ _ (by omega)]); (try rw [va_up_ne _ _ (by omega)]); (try rw [va_up_ne _ _ (by omega)]); (try rw [f316])); rfl
        · rw [tkO_ne (by omega), z2 13 (by omega), w1 13 (by omega), u 13 (by omega)]; exact d3 j hj
        · ((try rw [va_up_ne _ _ (by omega)]); (try rw [va_up_ne _ _ (by omega)]); (try rw [va_up_ne _ _ (by omega)]); (try rw [va_up_ne _ _ (by omega)])); exact f325
        · rw [va_up_self, if_pos rfl]
      · unfold fX13_program_104
        ((try rw [z1]); rw [o_ob]; (try rw [s_gI hm]); rw [o_ob]; (try rw [y23]); rw [if_pos (show jI 0 = 0 from rfl)]; (try rw [v1]); rw [o_ob])
        rfl
      · ((try rw [va_up_ne _ _ (by omega)]); (try rw [va_up_ne _ _ (by omega)]); (try rw [va_up_ne _ _ (by omega)]); (try rw [va_up_ne _ _ (by omega)])); exact f32
end RUR
