section RAL
variable {c : MC} {m : Nat} {f r : Nat → Int} {s t : SI2} {many k mm n : Nat} {P : PG} {A : Nat → Nat → Int} {nt cr tp : Nat → Int} {fp : Int} {im : Option DS}
theorem s_draw {d sd : Int} (hm : Mo c m) (h66 : f 66 = sd) (d1 : 1 ≤ d) (d2 : d ≤ 256) : fX13_drawOf m (jI d) (MS c m f r s t) = some (jI (drw (nxt sd) d), MS c m (va_up f 66 (nxt sd)) r s t) := by
  have hb : -2147483648 ≤ nxt sd ∧ nxt sd < 2147483648 := bm_r (sd * 1103515245 + 12345)
  have e1 : (jI sd * (1103515245 : Int32)) + (12345 : Int32) = jI (nxt sd) := by
    ((try rw [show (1103515245 : Int32) = jI 1103515245 from rfl]); (try rw [show (12345 : Int32) = jI 12345 from rfl]); (try rw [jI_mul]); (try rw [jI_add]))
    exact jI_bm _
  have e2 : irm ((jI (nxt sd) >>> ((16 : Int32) &&& (31 : Int32))) &&& (32767 : Int32)) (jI d) = jI (drw (nxt sd) d) := by
    have e3 : jI (nxt sd) >>> ((16 : Int32) &&& (31 : Int32)) = jI (nxt sd / 65536) := jI_shr16 hb.1 hb.2
    have e4 : jI (nxt sd / 65536) &&& (32767 : Int32) = jI (nxt sd / 65536 % 32768) := jI_and32767 _
    ((try rw [e3]); (try rw [e4]); rw [jI_rem (by omega) (by omega) (by omega) (by omega)])
    rfl
  unfold fX13_drawOf
  (rw [s_gd _ hm]; (try rw [s_gI hm]); rw [o_ob]; (try rw [h66]); (try rw [e1]); rw [s_pI hm, o_ob]; (try rw [s_gI hm]); rw [o_ob]; (try rw [va_up_self]); rw [e2])
  unfold nz
  rw [if_neg (show ¬ (jI d = 0) by rw [show (0 : Int32) = jI 0 from rfl, jI_eq (by omega) (by omega) (by omega) (by omega)]; omega)]
theorem LA_66 {f1 : Nat → Int} {s1 : SI2} {z : Int} (h : LA f s r f1 s1) : LA f s r (va_up f1 66 z) s1 := by
  obtain ⟨a1, a2, a3, a4⟩ := h
  exact ⟨by rw [va_up_ne _ _ (by omega)]; exact a1, fun j a b d => by rw [va_up_ne _ _ d]; exact a2 j a b d, a3, a4⟩
theorem Zt_bgn (h : Zt r) : Zt (bgn P many r) := fun j hj => by unfold bgn; rw [if_neg (by omega), if_neg (by omega), if_neg (by omega), if_neg (by omega)]; exact h j hj
theorem Zt_hpn {sd an : Int} (h : Zt r) : Zt (hpn P many r sd an).1 := by
  have d1 := drw_r (s := nxt (nxt sd)) (n := 256) (by omega)
  unfold hpn
  by_cases c : drw (nxt sd) 3 = 0
  · rw [if_pos c]
    exact Zt_up h (by omega)
  · rw [if_neg c]
    by_cases c2 : drw (nxt sd) 3 = 1 ∧ r 276 ≠ 0
    · rw [if_pos c2]; exact Zt_bgn h
    · rw [if_neg c2]; exact h
/-- the years, one by one -/
def YA (f : Nat → Int) (s : SI2) (r : Nat → Int) (P : PG) (many : Nat) (sd : Int) (i : Nat) (x : (Nat → Int) × SI2 × SI2) : Prop :=
  LA f s r x.1 x.2.1 ∧ x.1 66 = (yrs P many r sd i).2.1 ∧ Zt (yrs P many r sd i).1 ∧ (0 ≤ (yrs P many r sd i).2.2 ∧ (yrs P many r sd i).2.2 ≤ i)
theorem s_year {kk : Nat → Int32 → Int32 → Int32 → Int32 → Hp → Option (Int32 × Hp)} {x2 x3 : Int32} {sd : Int} {i : Nat} {x : (Nat → Int) × SI2 × SI2} (h : RF c m f r s many P k A mm nt cr n tp fp im) (hx : YA f s r P many sd i x) (hi : i < 20) :
    ∃ y, YA f s r P many sd (i + 1) y ∧ (ob2 (fX13_drawOf m 3 (MS c m x.1 (yrs P many r sd i).1 x.2.1 x.2.2)) fun v2 h => if v2 = 0 then ob2 (fX13_drawOf m 256 h) fun v10 h => ob (gR 11 m 3 h) fun v11 => ob2 (fX13_drawOf m 256 h) fun v12 h => ob (qI v11 v10 v12 h) fun h => fX13_years_124 kk m x2 x3 (jI (yrs P many r sd i).2.2) (jI (i : Int)) h else if v2 = 1 then ob (gR 11 m 3 h) fun v5 => ob (aI v5 276 h) fun v6 => if v6 = 0 then fX13_years_124 kk m x2 x3 (jI (yrs P many r sd i).2.2) (jI (i : Int)) h else ob (fX13_beginNow m h) fun h => lt (jI (yrs P many r sd i).2.2 + 1) fun z9 => fX13_years_124 kk m x2 x3 z9 (jI (i : Int)) h else fX13_years_124 kk m x2 x3 (jI (yrs P many r sd i).2.2) (jI (i : Int)) h) = kk m x2 x3 (jI (yrs P many r sd (i + 1)).2.2) (jI ((i + 1 : Nat) : Int)) (MS c m y.1 (yrs P many r sd (i + 1)).1 y.2.1 y.2.2) := by
  have hm := h.1
  have pr := h.2.1
  have ok := h.2.2.1
  have hpg : ∀ k, k < many → PGk P many k := fun k hk => (pr.2.2.1 k hk).1
  have hP : ∀ k, k < 256 → 0 ≤ P 7 k ∧ P 7 k < 256 := fun k hk => (pr.2.2.2 k hk).2
  have h60 := pr.2.1
  have oki := yrs_ok (sd := sd) ok hpg h60 hP (by omega) i (by omega)
  obtain ⟨f1, s1, t1⟩ := x
  obtain ⟨l1, g66, zi, an0, an1⟩ := hx
  have l1 : LA f s r f1 s1 := l1
  have g66 : f1 66 = (yrs P many r sd i).2.1 := g66
  have hk := hpn_ok (sd := (yrs P many r sd i).2.1) (an := (yrs P many r sd i).2.2) oki h60 hP
  have zh : Zt (hpn P many (yrs P many r sd i).1 (yrs P many r sd i).2.1 (yrs P many r sd i).2.2).1 := Zt_hpn zi
  have eN : yrs P many r sd (i + 1) = (stpN P many 5 (hpn P many (yrs P many r sd i).1 (yrs P many r sd i).2.1 (yrs P many r sd i).2.2).1, (hpn P many (yrs P many r sd i).1 (yrs P many r sd i).2.1 (yrs P many r sd i).2.2).2) := rfl
  -- behind what happens
  have go : ∀ (H : (Nat → Int) × Int × Int) (F : Nat → Int), H = hpn P many (yrs P many r sd i).1 (yrs P many r sd i).2.1 (yrs P many r sd i).2.2 → LA f s r F s1 → F 66 = H.2.1 → 0 ≤ H.2.2 → H.2.2 ≤ i + 1 → ∃ y, YA f s r P many sd (i + 1) y ∧ fX13_years_124 kk m x2 x3 (jI H.2.2) (jI (i : Int)) (MS c m F H.1 s1 t1) = kk m x2 x3 (jI (yrs P many r sd (i + 1)).2.2) (jI ((i + 1 : Nat) : Int)) (MS c m y.1 (yrs P many r sd (i + 1)).1 y.2.1 y.2.2) := by
    intro H F hH lF F66 b1 b2'
    rw [← hH] at hk zh eN
    obtain ⟨f3, s3, t3, e3, v1, v2⟩ := s_goOn (t := t1) (n := 5) hm (LA_Pr lF pr) hk.1 (by omega) (by omega)
    have l3 := LA_sq lF v1 v2
    refine ⟨(f3, s3, t3), ⟨l3, ?_, ?_, ?_⟩, ?_⟩
    · rw [eN]
      exact (v1 66 (by omega)).trans F66
    · rw [eN]
      exact Zt_stpN hk.1 hpg h60 zh (by omega)
    · rw [eN]
      exact ⟨b1, by show H.2.2 ≤ ((i + 1 : Nat) : Int); omega⟩
    · have e3 : fX13_goOn m 5 (MS c m F H.1 s1 t1) = some (MS c m f3 (stpN P many 5 H.1) s3 t3) := e3
      unfold fX13_years_124
      ((try rw [e3]); rw [o_ob, o_lt]; (try rw [show (1 : Int32) = jI 1 from rfl]); (try rw [jI_add]); rw [eN])
      rfl
  obtain ⟨u, hu⟩ : ∃ u, u = (yrs P many r sd i).1 := ⟨_, rfl⟩
  obtain ⟨sd', hsd⟩ : ∃ z, z = (yrs P many r sd i).2.1 := ⟨_, rfl⟩
  obtain ⟨an, han⟩ : ∃ z, z = (yrs P many r sd i).2.2 := ⟨_, rfl⟩
  rw [← hu] at oki zi go ⊢
  rw [← hsd] at g66 go
  rw [← han] at an0 an1 go ⊢
  have dr3 := drw_r (s := nxt sd') (n := 3) (by omega)
  have dr1 := drw_r (s := nxt (nxt sd')) (n := 256) (by omega)
  have dr2 := drw_r (s := nxt (nxt (nxt sd'))) (n := 256) (by omega)
  have l2 : LA f s r (va_up f1 66 (nxt sd')) s1 := LA_66 l1
  have b276 := oki.2.1 276
  ((try rw [show (3 : Int32) = jI 3 from rfl]); rw [s_draw (d := 3) hm g66 (by omega) (by omega), o_ob2])
  by_cases c0 : drw (nxt sd') 3 = 0
  · (rw [if_pos (by rw [c0]; rfl)]; (try rw [show (256 : Int32) = jI 256 from rfl]); rw [s_draw (d := 256) (sd := nxt sd') hm (va_up_self _ _ _) (by omega) (by omega), o_ob2]; (try rw [s_R3 hm]); rw [o_ob, s_draw (d := 256) (sd := nxt (nxt sd')) hm (va_up_self _ _ _) (by omega) (by omega), o_ob2, s_q3 hm (by omega) (by omega), o_ob]; (try rw [upup]); (try rw [upup]))
    exact go (va_up u (drw (nxt (nxt sd')) 256).toNat (drw (nxt (nxt (nxt sd'))) 256), nxt (nxt (nxt sd')), an) _ (by unfold hpn; rw [if_pos c0]) (LA_66 l1) (va_up_self _ _ _) an0 (by show an ≤ _; omega)
  · rw [if_neg (show ¬ jI (drw (nxt sd') 3) = 0 by rw [show (0 : Int32) = jI 0 from rfl, jI_eq (by omega) (by omega) (by omega) (by omega)]; exact c0)]
    by_cases c1 : drw (nxt sd') 3 = 1
    · (rw [if_pos (by rw [c1]; rfl)]; (try rw [s_R3 hm]); rw [o_ob]; (try rw [show (276 : Int32) = jI 276 from rfl]); rw [s_a3 hm (by omega) (by omega), o_ob]; (try rw [show (276 : Int).toNat = 276 from rfl]))
      by_cases c2 : u 276 = 0
      · rw [if_pos (by rw [c2]; rfl)]
        exact go (u, nxt sd', an) _ (by unfold hpn; rw [if_neg c0, if_neg (fun q => q.2 c2)]) l2 (va_up_self _ _ _) an0 (by show an ≤ _; omega)
      · (rw [if_neg (show ¬ jI (u 276) = 0 by rw [show (0 : Int32) = jI 0 from rfl, jI_eq (by omega) (by omega) (by omega) (by omega)]; exact c2), s_beginNow hm (LA_Pr l2 pr), o_ob, o_lt]; (try rw [show (1 : Int32) = jI 1 from rfl]); (try rw [jI_add]))
        exact go (bgn P many u, nxt sd', an + 1) _ (by unfold hpn; rw [if_neg c0, if_pos ⟨c1, c2⟩]) l2 (va_up_self _ _ _) (by show 0 ≤ an + 1; omega) (by show an + 1 ≤ _; omega)
    · rw [if_neg (show ¬ jI (drw (nxt sd') 3) = 1 by rw [show (1 : Int32) = jI 1 from rfl, jI_eq (by omega) (by omega) (by omega) (by omega)]; exact c1)]
      exact go (u, nxt sd', an) _ (by unfold hpn; rw [if_neg c0, if_neg (fun q => c1 q.1)]) l2 (va_up_self _ _ _) an0 (by show an ≤ _; omega)
theorem s_y141 {x3 an : Int} {u : Nat → Int} {x : (Nat → Int) × SI2 × SI2} (hm : Mo c m) (hx : LA f s r x.1 x.2.1) (zr : Zt r) (zu : Zt u) (hr : Rng r) (hu : Rng u) (b3 : 0 ≤ x3 ∧ x3 ≤ 2) :
    Rk c m f r s (lp (fun _ _ _ _ _ _ => none) fX13_years_141 FU m (jI x3) (jI an) 0 0 (MS c m x.1 u x.2.1 x.2.2)) (.inr (jI (if x3 = 0 then u 278 - r 278 else if x3 = 1 then an else (cnt (fun i => u i != r i) 256 : Nat)))) := by
  have key := lp_up (z := fun _ _ _ _ _ _ => none) (S := fX13_years_141) (β := Int32 × Hp) (fun kk (i : Nat) => kk m (jI x3) (jI an) (jI (cnt (fun i => u i != r i) i : Nat)) (jI (i : Int)) (MS c m x.1 u x.2.1 x.2.2)) (E := some (jI (if x3 = 0 then u 278 - r 278 else if x3 = 1 then an else (cnt (fun i => u i != r i) 256 : Nat)), MS c m x.1 r x.2.1 x.2.2)) (M := 256) ?_ ?_ FU 0 (by omega) (FU_lt (by omega))
  · have key : lp (fun _ _ _ _ _ _ => none) fX13_years_141 FU m (jI x3) (jI an) (jI 0) (jI 0) (MS c m x.1 u x.2.1 x.2.2) = _ := key
    exact LA_Rk hx key
  · intro i hi kk
    have bu := hu i
    have br := hr i
    unfold fX13_years_141
    (rw [if_neg (by first | ((simp (disch := omega) only [jI_lit, jI_neg, jI_add, jI_sub, jI_mul, jI_lt, jI_le, jI_eq, jL_lit, jL_lt, jL_le, jL_eq]) <;> omega) | omega)]; (try rw [s_R3 hm]); rw [o_ob, s_a3 hm (by omega) (by omega), o_ob]; (try rw [s_R61 hm]); rw [o_ob, s_a26 hm (by omega) (by omega), o_ob]; (try rw [show ((i : Int)).toNat = i by omega]); rw [hx.2.2.2 i (by omega)])
    have ei : jI (i : Int) + 1 = jI ((i + 1 : Nat) : Int) := by rw [show (1 : Int32) = jI 1 from rfl, jI_add]; rfl
    by_cases q : u i = r i
    · have e1 : jI ((cnt (fun i => u i != r i) i : Nat) : Int) + 0 = jI ((cnt (fun i => u i != r i) i : Nat) : Int) := by ((try rw [show (0 : Int32) = jI 0 from rfl]); (try rw [jI_add]); rw [Int.add_zero])
      (rw [if_pos (by rw [q]), o_lt, o_lt]; (try rw [e1]); rw [ei, cnt_f (show (fun i => u i != r i) i = false by show (u i != r i) = false; rw [q]; simp)])
    · have e1 : jI ((cnt (fun i => u i != r i) i : Nat) : Int) + 1 = jI ((cnt (fun i => u i != r i) i + 1 : Nat) : Int) := by rw [show (1 : Int32) = jI 1 from rfl, jI_add]; rfl
      (rw [if_neg (by rw [jI_eq (by omega) (by omega) (by omega) (by omega)]; exact q), o_lt, o_lt]; (try rw [e1]); rw [ei, cnt_t (show (fun i => u i != r i) i = true by show (u i != r i) = true; simpa using q)])
  · intro kk
    unfold fX13_years_141 fX13_years_219
    rw [if_pos (by first | ((simp (disch := omega) only [jI_lit, jI_neg, jI_add, jI_sub, jI_mul, jI_lt, jI_le, jI_eq, jL_lit, jL_lt, jL_le, jL_eq]) <;> omega) | omega)]
    by_cases q0 : x3 = 0
    · (rw [if_pos (by rw [q0]; rfl), if_pos q0]; (try rw [s_R3 hm]); rw [o_ob]; (try rw [show (278 : Int32) = jI 278 from rfl]); rw [s_a3 hm (by omega) (by omega), o_ob]; (try rw [s_R61 hm]); rw [o_ob, s_a26 hm (by omega) (by omega), o_ob]; (try rw [show (278 : Int).toNat = 278 from rfl]); rw [hx.2.2.2 278 (by omega)]; (try rw [jI_sub]); rw [LA_bk hm hx zr zu, o_ob2])
    · rw [if_neg (show ¬ jI x3 = 0 by rw [show (0 : Int32) = jI 0 from rfl, jI_eq (by omega) (by omega) (by omega) (by omega)]; exact q0), if_neg q0]
      by_cases q1 : x3 = 1
      · rw [if_pos (by rw [q1]; rfl), if_pos q1, LA_bk hm hx zr zu, o_ob2]
      · rw [if_neg (show ¬ jI x3 = 1 by rw [show (1 : Int32) = jI 1 from rfl, jI_eq (by omega) (by omega) (by omega) (by omega)]; exact q1), if_neg q1, LA_bk hm hx zr zu, o_ob2]
theorem z_Years {sd y a : Int} (h : RF c m f r s many P k A mm nt cr n tp fp im) (y1 : -2147483648 ≤ y) (y2 : y < 2147483648) (a1 : -2147483648 ≤ a) (a2 : a < 2147483648) : Rk c m f r s (fX13_years m (jI sd) (jI y) (jI a) (MS c m f r s t)) (if 0 ≤ a ∧ a ≤ 2 then (if 0 ≤ y ∧ y ≤ 20 then .inr (jI (agd P many r sd y.toNat a)) else .inl 2) else .inl 1) := by
  have hm := h.1
  have pr := h.2.1
  have ok := h.2.2.1
  have zt := h.2.2.2.1
  have hpg : ∀ k, k < many → PGk P many k := fun k hk => (pr.2.2.1 k hk).1
  have hP : ∀ k, k < 256 → 0 ≤ P 7 k ∧ P 7 k < 256 := fun k hk => (pr.2.2.2 k hk).2
  unfold fX13_years
  (rw [s_gd _ hm, i0_2 a1 a2, i0_20 y1 y2]; (try rw [show (0 : Int32) = jI 0 from rfl]); rw [s_pI hm, o_ob, o_ob])
  by_cases ca : 0 ≤ a ∧ a ≤ 2
  rotate_left
  · rw [if_neg ca, if_neg ca, if_pos (by decide)]
    exact Rk_fl (k := 1) hm Kf_2 (Ks_rf s)
  rw [if_pos ca, if_pos ca, if_neg (by decide), o_ob]
  by_cases cy : 0 ≤ y ∧ y ≤ 20
  rotate_left
  · rw [if_neg cy, if_neg cy, if_pos (by decide)]
    exact Rk_fl (k := 2) hm Kf_2 (Ks_rf s)
  obtain ⟨n', rfl⟩ : ∃ n' : Nat, y = n' := ⟨y.toNat, by omega⟩
  rw [if_pos cy, if_pos cy, if_neg (by decide), s_remember hm, o_ob, s_pI hm, o_ob]
  simp only [Int.toNat_natCast]
  have key := lp_sr (z := fun _ _ _ _ _ _ => none) (S := fX13_years_56) (β := Int32 × Hp) (ev := fun kk (i : Nat) (x : (Nat → Int) × SI2 × SI2) => kk m (jI (n' : Int)) (jI a) (jI (yrs P many r sd i).2.2) (jI (i : Int)) (MS c m x.1 (yrs P many r sd i).1 x.2.1 x.2.2)) (hi := n') (Inv := fun i x => YA f s r P many sd i x) (Post := fun q => Rk c m f r s q (.inr (jI (agd P many r sd n' a)))) ?_ ?_ FU 0 (va_up (va_up f 2 0) 66 sd, va_up s 26 (fun x => if x < 414 then r x else s 26 x), t) (by omega) (FU_lt (by omega)) ⟨LA_66 LA_in, (by show va_up (va_up f 2 0) 66 sd 66 = sd; exact va_up_self _ _ _), zt, by show (0 : Int) ≤ 0 ∧ (0 : Int) ≤ 0; omega⟩
  · exact key
  · intro i x hi hx kk
    right
    obtain ⟨y', hy, e⟩ := s_year (kk := kk) (x2 := jI (n' : Int)) (x3 := jI a) h hx (by omega)
    refine ⟨y', hy, ?_⟩
    show fX13_years_56 kk m (jI (n' : Int)) (jI a) (jI (yrs P many r sd i).2.2) (jI (i : Int)) (MS c m x.1 (yrs P many r sd i).1 x.2.1 x.2.2) = _
    unfold fX13_years_56
    rw [if_neg (by first | ((simp (disch := omega) only [jI_lit, jI_neg, jI_add, jI_sub, jI_mul, jI_lt, jI_le, jI_eq, jL_lit, jL_lt, jL_le, jL_eq]) <;> omega) | omega)]
    exact e
  · intro x hx kk
    have oki := yrs_ok (sd := sd) ok hpg pr.2.1 hP (by omega) n' (by omega)
    show Rk c m f r s (fX13_years_56 kk m (jI (n' : Int)) (jI a) (jI (yrs P many r sd n').2.2) (jI (n' : Int)) (MS c m x.1 (yrs P many r sd n').1 x.2.1 x.2.2)) _
    unfold fX13_years_56
    rw [if_pos (by first | ((simp (disch := omega) only [jI_lit, jI_neg, jI_add, jI_sub, jI_mul, jI_lt, jI_le, jI_eq, jL_lit, jL_lt, jL_le, jL_eq]) <;> omega) | omega)]
    exact s_y141 hm hx.1 zt hx.2.2.1 ok.2.1 oki.2.1 ca
end RAL
