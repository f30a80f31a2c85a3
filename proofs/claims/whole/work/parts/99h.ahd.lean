section RAJ
variable {c : MC} {m : Nat} {f r : Nat → Int} {s t : SI2} {many k mm n : Nat} {P : PG} {A : Nat → Nat → Int} {nt cr tp : Nat → Int} {fp : Int} {im : Option DS}
theorem z_Spoilt {p l a w : Int} (h : RF c m f r s many P k A mm nt cr n tp fp im) (p1 : -2147483648 ≤ p) (p2 : p < 2147483648) (l1 : -2147483648 ≤ l) (l2 : l < 2147483648) (a1 : -2147483648 ≤ a) (a2 : a < 2147483648) (w1 : -2147483648 ≤ w) (w2 : w < 2147483648) : Rk c m f r s (fX13_spoilt m (jI p) (jI l) (jI a) (jI w) (MS c m f r s t)) (if 0 ≤ w ∧ w ≤ 3 then (if 1 ≤ l ∧ l ≤ 3 ∧ 0 ≤ p ∧ p + l ≤ 256 then (if 1 ≤ a ∧ a ≤ 60 then .inr (jI (spl P many r a.toNat p.toNat l.toNat w)) else .inl 2) else .inl 2) else .inl 1) := by
  have hm := h.1
  have pr := h.2.1
  have ok := h.2.2.1
  have zt := h.2.2.2.1
  have hpg : ∀ k, k < many → PGk P many k := fun k hk => (pr.2.2.1 k hk).1
  have h60 := pr.2.1
  have fl : Rk c m f r s (fX13_spoilt_46 m (MS c m (va_up f 2 0) r s t)) (.inl 2) := by
    unfold fX13_spoilt_46
    exact Rk_fl (k := 2) hm Kf_2 (Ks_rf s)
  unfold fX13_spoilt
  (rw [s_gd _ hm, i0_3 w1 w2, i1_60 a1 a2]; (try rw [show (0 : Int32) = jI 0 from rfl]); rw [s_pI hm, o_ob, o_ob])
  by_cases cw : 0 ≤ w ∧ w ≤ 3
  rotate_left
  · rw [if_neg cw, if_neg cw, if_pos (by decide)]
    exact Rk_fl (k := 1) hm Kf_2 (Ks_rf s)
  (rw [if_pos cw, if_pos cw, if_neg (by decide)]; (try rw [show (3 : Int32) = jI 3 from rfl]); rw [s_isField (mx := 3) hm p1 p2 l1 l2 (by omega) (by omega), o_ob])
  by_cases cl : 1 ≤ l ∧ l ≤ 3 ∧ 0 ≤ p ∧ p + l ≤ 256
  rotate_left
  · rw [if_neg cl, if_neg cl, if_pos (by decide)]
    exact fl
  rw [if_pos cl, if_pos cl, if_neg (by decide), o_ob]
  by_cases ca : 1 ≤ a ∧ a ≤ 60
  rotate_left
  · rw [if_neg ca, if_neg ca, if_pos (by decide)]
    exact fl
  rw [if_pos ca, if_pos ca, if_neg (by decide)]
  obtain ⟨pl, rfl⟩ : ∃ pl : Nat, p = pl := ⟨p.toNat, by omega⟩
  obtain ⟨ln, rfl⟩ : ∃ ln : Nat, l = ln := ⟨l.toNat, by omega⟩
  obtain ⟨n', rfl⟩ : ∃ n' : Nat, a = n' := ⟨a.toNat, by omega⟩
  simp only [Int.toNat_natCast]
  -- the run without a fault of ours
  obtain ⟨f2, s2, t2, e2, v1, v2⟩ := s_goToFault (t := t) (n := n') hm (LA_Pr (LA_in (f := f) (s := s) (r := r)) pr) ok (by omega) (by omega)
  have l2' := LA_sq (LA_in (f := f) (s := s) (r := r)) v1 v2
  obtain ⟨oku, k1, k2⟩ := rtf_ok ok hpg h60 n' (by omega)
  have ztu : Zt (rtf P many r n').1 := fun j hj => by rw [rtf_hi ok hpg h60 hj n' (by omega)]; exact zt j hj
  obtain ⟨base, hbase⟩ : ∃ base, base = (rtf P many r n').1 := ⟨_, rfl⟩
  obtain ⟨sound, hsound⟩ : ∃ sound, sound = ((rtf P many r n').2 == 0) := ⟨_, rfl⟩
  have es : (if (rtf P many r n').2 = 0 then (0 : Int) else 1) = if sound = true then 0 else 1 := by
    rw [hsound]
    by_cases q : (rtf P many r n').2 = 0
    · rw [if_pos q, if_pos (by rw [q]; rfl)]
    · rw [if_neg q, if_neg (by simpa using q)]
  rw [es, ← hbase] at e2
  rw [← hbase] at oku ztu
  have hb := oku.2.1
  obtain ⟨s3, hs3⟩ : ∃ x : SI2, x = va_up s2 27 (fun x => if x < 414 then base x else s2 27 x) := ⟨_, rfl⟩
  have l3 : LA f s r f2 s3 := by
    obtain ⟨c1, c2, c3, c4⟩ := l2'
    refine ⟨c1, c2, fun j a b d e => ?_, fun j hj => ?_⟩
    · rw [hs3, va_up_ne _ _ e]; exact c3 j a b d e
    · rw [hs3, va_up_ne _ _ (by omega)]; exact c4 j hj
  have g3 : GA f s r base (f2, s3, t2) := ⟨l3, fun j hj => by show s3 27 j = base j; rw [hs3, va_up_self]; exact if_pos hj⟩
  (rw [s_remember hm, o_ob, e2, o_ob2]; (try rw [s_R62 hm]); rw [o_ob]; (try rw [s_R3 hm]); rw [o_ob, s_cpF hm (by omega) (by omega) rfl rfl (by omega), o_ob]; (try rw [← hs3]); (try rw [show (0 : Int32) = jI 0 from rfl]); rw [LA_bk hm l3 zt ztu, o_ob2]; (try rw [show (2 : Int32) = jI 2 from rfl]); (try rw [jI_mul]); rw [o_lt])
  obtain ⟨Q, hQ⟩ : ∃ Q : Int → Nat → Bool, Q = fun v => sQ P many r base sound n' pl v := ⟨_, rfl⟩
  have eQ : spl P many r n' pl ln w = if w = 3 then fstv pl (Q 2) (32 * ln) else (cnt (Q w) (32 * ln) : Nat) := by
    rw [hQ, hbase, hsound]; rfl
  have bfst : ∀ j, j < 100000 → -1 ≤ fstv pl (Q 2) j ∧ fstv pl (Q 2) j < 2147483648 := fun j hj => fstv_r (by omega) hj
  have bcnt : ∀ j, (cnt (Q w) j : Int) ≤ j := fun j => by have := cnt_le (Q w) j; omega
  have key := lp_sr (z := fun _ _ _ _ _ _ _ _ _ _ => none) (S := fX13_spoilt_91) (β := Int32 × Hp) (ev := fun kk (i : Nat) (x : (Nat → Int) × SI2 × SI2) => kk m (jI (pl : Int)) (jI (ln : Int)) (jI (n' : Int)) (jI w) (jI (cnt (Q w) (16 * i) : Nat)) (jI (fstv pl (Q 2) (16 * i))) (jI (if sound = true then 0 else 1)) (jI ((2 * pl + i : Nat) : Int)) (MS c m x.1 r x.2.1 x.2.2)) (hi := 2 * ln) (Inv := fun _ x => GA f s r base x) (Post := fun q => Rk c m f r s q (.inr (jI (spl P many r n' pl ln w)))) ?_ ?_ FU 0 (f2, s3, t2) (by omega) (FU_lt (by omega)) g3
  · have e1 : jI (fstv pl (Q 2) (16 * 0)) = -1 := rfl
    have e2 : jI (cnt (Q w) (16 * 0) : Nat) = 0 := rfl
    rw [e1, e2] at key
    exact key
  · intro i x hi hx kk
    right
    show ∃ y : (Nat → Int) × SI2 × SI2, GA f s r base y ∧ fX13_spoilt_91 kk m (jI (pl : Int)) (jI (ln : Int)) (jI (n' : Int)) (jI w) (jI (cnt (Q w) (16 * i) : Nat)) (jI (fstv pl (Q 2) (16 * i))) (jI (if sound = true then 0 else 1)) (jI ((2 * pl + i : Nat) : Int)) (MS c m x.1 r x.2.1 x.2.2) = kk m (jI (pl : Int)) (jI (ln : Int)) (jI (n' : Int)) (jI w) (jI (cnt (Q w) (16 * (i + 1)) : Nat)) (jI (fstv pl (Q 2) (16 * (i + 1)))) (jI (if sound = true then 0 else 1)) (jI ((2 * pl + (i + 1) : Nat) : Int)) (MS c m y.1 r y.2.1 y.2.2)
    unfold fX13_spoilt_91
    rw [if_neg (by first | ((simp (disch := omega) only [jI_lit, jI_neg, jI_add, jI_sub, jI_mul, jI_lt, jI_le, jI_eq, jL_lit, jL_lt, jL_le, jL_eq]) <;> omega) | omega)]
    have hh : 2 * pl + i < 512 := by omega
    have inn := lp_sr (z := fun _ _ _ _ _ _ _ _ _ _ _ => none) (S := fX13_spoilt_104 kk) (β := Int32 × Hp) (ev := fun k2 (z : Nat) (x : (Nat → Int) × SI2 × SI2) => k2 m (jI (pl : Int)) (jI (ln : Int)) (jI (n' : Int)) (jI w) (jI (cnt (Q w) (16 * i + z) : Nat)) (jI (fstv pl (Q 2) (16 * i + z))) (jI (if sound = true then 0 else 1)) (jI ((2 * pl + i : Nat) : Int)) (jI (z : Int)) (MS c m x.1 r x.2.1 x.2.2)) (hi := 16) (Inv := fun _ x => GA f s r base x) (Post := fun q => ∃ y : (Nat → Int) × SI2 × SI2, GA f s r base y ∧ q = kk m (jI (pl : Int)) (jI (ln : Int)) (jI (n' : Int)) (jI w) (jI (cnt (Q w) (16 * (i + 1)) : Nat)) (jI (fstv pl (Q 2) (16 * (i + 1)))) (jI (if sound = true then 0 else 1)) (jI ((2 * pl + (i + 1) : Nat) : Int)) (MS c m y.1 r y.2.1 y.2.2)) ?_ ?_ FU 0 x (by omega) (FU_lt (by omega)) hx
    · exact inn
    · intro z y hz hy k2
      right
      have bc := bcnt (16 * i + z)
      have bf := bfst (16 * i + z) (by omega)
      have hfb := ok.1 ((2 * pl + i) / 2) (by omega)
      have hfr : 0 ≤ hf r (2 * pl + i) ∧ hf r (2 * pl + i) < 16 := by unfold hf; split <;> omega
      have m16 : (16 * i + z) / 16 = i := by omega
      have r16 : (16 * i + z) % 16 = z := by omega
      show ∃ y' : (Nat → Int) × SI2 × SI2, GA f s r base y' ∧ fX13_spoilt_104 kk k2 m (jI (pl : Int)) (jI (ln : Int)) (jI (n' : Int)) (jI w) (jI (cnt (Q w) (16 * i + z) : Nat)) (jI (fstv pl (Q 2) (16 * i + z))) (jI (if sound = true then 0 else 1)) (jI ((2 * pl + i : Nat) : Int)) (jI (z : Int)) (MS c m y.1 r y.2.1 y.2.2) = k2 m (jI (pl : Int)) (jI (ln : Int)) (jI (n' : Int)) (jI w) (jI (cnt (Q w) (16 * i + (z + 1)) : Nat)) (jI (fstv pl (Q 2) (16 * i + (z + 1)))) (jI (if sound = true then 0 else 1)) (jI ((2 * pl + i : Nat) : Int)) (jI ((z + 1 : Nat) : Int)) (MS c m y'.1 r y'.2.1 y'.2.2)
      have ez : jI (z : Int) + 1 = jI ((z + 1 : Nat) : Int) := by rw [show (1 : Int32) = jI 1 from rfl, jI_add]; rfl
      rw [show 16 * i + (z + 1) = 16 * i + z + 1 by omega]
      unfold fX13_spoilt_104 fX13_spoilt_152
      (rw [if_neg (by first | ((simp (disch := omega) only [jI_lit, jI_neg, jI_add, jI_sub, jI_mul, jI_lt, jI_le, jI_eq, jL_lit, jL_lt, jL_le, jL_eq]) <;> omega) | omega), s_half hm ok.1 (by omega) (by omega), o_ob]; (try rw [show (((2 * pl + i : Nat) : Int)).toNat = 2 * pl + i by omega]))
      by_cases q : (z : Int) = hf r (2 * pl + i)
      · have n0 : ∀ v, Q v (16 * i + z) = false := fun v => by rw [hQ]; show sQ P many r base sound n' pl v (16 * i + z) = false; unfold sQ; ((try rw [m16]); (try rw [r16]); rw [q]); simp
        refine ⟨y, hy, ?_⟩
        rw [if_pos (by rw [q]), o_lt, cnt_f (n0 w), fstv_f (n0 2), ez]
      · obtain ⟨y', hy', e'⟩ := s_spoil (z := z) (sound := sound) h hy hb hh hz (show n' ≤ 60 by omega)
        obtain ⟨vd, hvd⟩ : ∃ vd, vd = vrd (rtf P many (pth r (2 * pl + i) (z : Int)) n').1 base (rtf P many (pth r (2 * pl + i) (z : Int)) n').2 sound (2 * pl + i) := ⟨_, rfl⟩
        rw [← hvd] at e'
        have vr : vd = 0 ∨ vd = 1 ∨ vd = 2 := by rw [hvd]; exact vrd_r _ _ _ _ _
        have qv : ∀ v, Q v (16 * i + z) = (vd == v) := fun v => by
          rw [hQ]
          show sQ P many r base sound n' pl v (16 * i + z) = _
          unfold sQ
          ((try rw [m16]); (try rw [r16]); (try rw [← hvd]))
          have : ((z : Int) != hf r (2 * pl + i)) = true := by simpa using q
          rw [this, Bool.true_and]
        refine ⟨y', hy', ?_⟩
        rw [if_neg (by rw [jI_eq (by omega) (by omega) (by omega) (by omega)]; exact q), e', o_ob2]
        -- the first of them
        have tail : ∀ cc : Int, (if jI vd = 2 then (if jI (fstv pl (Q 2) (16 * i + z)) = (-1) then lt (((100 : Int32) * jI ((2 * pl + i : Nat) : Int)) + jI (z : Int)) fun z6 => lt (jI (z : Int) + 1) fun z7 => k2 m (jI (pl : Int)) (jI (ln : Int)) (jI (n' : Int)) (jI w) (jI cc) z6 (jI (if sound = true then 0 else 1)) (jI ((2 * pl + i : Nat) : Int)) z7 (MS c m y'.1 r y'.2.1 y'.2.2) else lt (jI (z : Int) + 1) fun z5 => k2 m (jI (pl : Int)) (jI (ln : Int)) (jI (n' : Int)) (jI w) (jI cc) (jI (fstv pl (Q 2) (16 * i + z))) (jI (if sound = true then 0 else 1)) (jI ((2 * pl + i : Nat) : Int)) z5 (MS c m y'.1 r y'.2.1 y'.2.2)) else lt (jI (z : Int) + 1) fun z3 => k2 m (jI (pl : Int)) (jI (ln : Int)) (jI (n' : Int)) (jI w) (jI cc) (jI (fstv pl (Q 2) (16 * i + z))) (jI (if sound = true then 0 else 1)) (jI ((2 * pl + i : Nat) : Int)) z3 (MS c m y'.1 r y'.2.1 y'.2.2)) = k2 m (jI (pl : Int)) (jI (ln : Int)) (jI (n' : Int)) (jI w) (jI cc) (jI (fstv pl (Q 2) (16 * i + z + 1))) (jI (if sound = true then 0 else 1)) (jI ((2 * pl + i : Nat) : Int)) (jI ((z + 1 : Nat) : Int)) (MS c m y'.1 r y'.2.1 y'.2.2) := by
          intro cc
          by_cases c2 : vd = 2
          · have t2 : Q 2 (16 * i + z) = true := by rw [qv, c2]; rfl
            rw [fstv_t t2, if_pos (by rw [c2]; rfl)]
            by_cases c3 : fstv pl (Q 2) (16 * i + z) = -1
            · (rw [if_pos c3, if_pos (by rw [c3]; rfl), o_lt, o_lt, ez]; (try rw [show (100 : Int32) = jI 100 from rfl]); (try rw [jI_mul]); (try rw [jI_add]); (try rw [show 100 * ((2 * pl + i : Nat) : Int) + (z : Int) = 100 * (2 * (pl : Int) + ((16 * i + z : Nat) : Int) / 16) + ((16 * i + z : Nat) : Int) % 16 by omega]))
            · rw [if_neg c3, if_neg (show ¬ jI (fstv pl (Q 2) (16 * i + z)) = -1 by rw [show (-1 : Int32) = jI (-1) from rfl, jI_eq (by omega) (by omega) (by omega) (by omega)]; exact c3), o_lt, ez]
          · have t2 : Q 2 (16 * i + z) = false := by rw [qv]; simpa using c2
            rw [fstv_f t2, if_neg (show ¬ jI vd = 2 by rw [show (2 : Int32) = jI 2 from rfl, jI_eq (by omega) (by omega) (by omega) (by omega)]; exact c2), o_lt, ez]
        by_cases c1 : vd = w
        · have t1 : Q w (16 * i + z) = true := by rw [qv, c1]; simp
          rw [if_pos (by rw [c1]), o_lt, cnt_t t1]
          have e1 : jI ((cnt (Q w) (16 * i + z) : Nat) : Int) + 1 = jI ((cnt (Q w) (16 * i + z) + 1 : Nat) : Int) := by rw [show (1 : Int32) = jI 1 from rfl, jI_add]; rfl
          rw [e1]
          exact tail _
        · have t1 : Q w (16 * i + z) = false := by rw [qv]; simpa using c1
          rw [if_neg (show ¬ jI vd = jI w by rw [jI_eq (by omega) (by omega) (by omega) (by omega)]; exact c1), o_lt, cnt_f t1]
          have e1 : jI ((cnt (Q w) (16 * i + z) : Nat) : Int) + 0 = jI ((cnt (Q w) (16 * i + z) : Nat) : Int) := by ((try rw [show (0 : Int32) = jI 0 from rfl]); (try rw [jI_add]); rw [Int.add_zero])
          rw [e1]
          exact tail _
    · intro y hy k2
      refine ⟨y, hy, ?_⟩
      show fX13_spoilt_104 kk k2 m (jI (pl : Int)) (jI (ln : Int)) (jI (n' : Int)) (jI w) (jI (cnt (Q w) (16 * i + 16) : Nat)) (jI (fstv pl (Q 2) (16 * i + 16))) (jI (if sound = true then 0 else 1)) (jI ((2 * pl + i : Nat) : Int)) (jI ((16 : Nat) : Int)) (MS c m y.1 r y.2.1 y.2.2) = _
      unfold fX13_spoilt_104
      (rw [if_pos (by first | ((simp (disch := omega) only [jI_lit, jI_neg, jI_add, jI_sub, jI_mul, jI_lt, jI_le, jI_eq, jL_lit, jL_lt, jL_le, jL_eq]) <;> omega) | omega), o_lt]; (try rw [show (1 : Int32) = jI 1 from rfl]); (try rw [jI_add]); (try rw [show 16 * (i + 1) = 16 * i + 16 by omega]))
      rfl
  · intro x hx kk
    show Rk c m f r s (fX13_spoilt_91 kk m (jI (pl : Int)) (jI (ln : Int)) (jI (n' : Int)) (jI w) (jI (cnt (Q w) (16 * (2 * ln)) : Nat)) (jI (fstv pl (Q 2) (16 * (2 * ln)))) (jI (if sound = true then 0 else 1)) (jI ((2 * pl + 2 * ln : Nat) : Int)) (MS c m x.1 r x.2.1 x.2.2)) _
    unfold fX13_spoilt_91
    (rw [if_pos (by first | ((simp (disch := omega) only [jI_lit, jI_neg, jI_add, jI_sub, jI_mul, jI_lt, jI_le, jI_eq, jL_lit, jL_lt, jL_le, jL_eq]) <;> omega) | omega), eQ]; (try rw [show 16 * (2 * ln) = 32 * ln by omega]))
    by_cases c3 : w = 3
    · rw [if_pos c3, if_pos (by rw [c3]; rfl)]
      exact LA_Rk hx.1 rfl
    · rw [if_neg c3, if_neg (show ¬ jI w = 3 by rw [show (3 : Int32) = jI 3 from rfl, jI_eq (by omega) (by omega) (by omega) (by omega)]; exact c3)]
      exact LA_Rk hx.1 rfl
end RAJ
