section RAE
variable {c : MC} {m : Nat} {f r : Nat → Int} {s t : SI2} {many k mm n : Nat} {P : PG} {A : Nat → Nat → Int} {nt cr tp : Nat → Int} {fp : Int} {im : Option DS}
theorem stp_277 {T : Int} (ok : RowOK many T r) (pg : ∀ k, k < many → PGk P many k) (hm : many ≤ 60) (hs : r 276 = 0) : stp P many r 277 = r 277 + 1 := by
  obtain ⟨k, hk⟩ : ∃ k, k = (r 265).toNat := ⟨_, rfl⟩
  have h1 := ok.2.2.2.1
  have h2 := ok.2.2.2.2.1 hs
  obtain ⟨rq, fk, -⟩ := exe_ok ok (pg k (by omega)) (by omega)
  obtain ⟨⟨u, fo, nx⟩, ho⟩ : ∃ z, z = exe P r k := ⟨_, rfl⟩
  rw [← ho] at rq fk
  have uj : u 277 = r 277 := rq.2.2.2.2 277 (by omega) (by omega)
  cases hfo : fo with
  | none =>
    rw [hfo] at ho
    (rw [stp_none hs hk ho.symm]; (try rw [va_up_self]); rw [uj])
  | some x =>
    have fx : FOK x := (fk x hfo).1
    rw [hfo] at ho
    (rw [stp_some hs hk ho.symm (by have := fx.1; omega)]; (try rw [va_up_self]); rw [uj])
theorem stpN_277 {T : Int} (ok : RowOK many T r) (pg : ∀ k, k < many → PGk P many k) (hm : many ≤ 60) : ∀ a : Nat, T + a < 1000000 → (∀ j, j < a → stpN P many j r 276 = 0) → stpN P many a r 277 = r 277 + (a : Int)
  | 0, _, _ => by show r 277 = _; omega
  | a + 1, h, h0 => by
    show stp P many (stpN P many a r) 277 = _
    rw [stp_277 (stpN_ok ok pg hm a (by omega)) pg hm (h0 a (by omega)), stpN_277 ok pg hm a (by omega) (fun j hj => h0 j (by omega))]
    omega
theorem sdn_277 {T : Int} {a : Nat} (ok : RowOK many T r) (pg : ∀ k, k < many → PGk P many k) (hm : many ≤ 60) (hT : T + a < 1000000) : stpN P many a r 277 = r 277 + (sdn P many r a : Int) := by
  by_cases c : fnd (fun j => stpN P many j r 276 != 0) 0 a = -1
  · have h0 : ∀ j, j < a → stpN P many j r 276 = 0 := fun j hj => by
      have := fnd_none c j (by omega) (by omega)
      simpa using this
    rw [sdn_all h0]
    exact stpN_277 ok pg hm a hT h0
  · obtain ⟨q, b1, b2', b3, b4, b5⟩ := fnd_some c
    have h0 : ∀ j, j < q → stpN P many j r 276 = 0 := fun j hj => by
      have := b5 j (by omega) hj
      simpa using this
    have h1 : stpN P many q r 276 ≠ 0 := by simpa using b4
    rw [sdn_at (by omega) h1 h0, stpN_st (n := a) (i := q) (by omega) h1]
    exact stpN_277 ok pg hm q (by omega) h0
theorem z_Steps0 {a : Int} (h : RF c m f r s many P k A mm nt cr n tp fp im) (a1 : -2147483648 ≤ a) (a2 : a < 2147483648) (hn : ¬ (r 276 = 0 ∧ 1 ≤ a ∧ a ≤ 50 ∧ r 277 + a ≤ 20000)) : RO c m (fX13_steps m (jI a) (MS c m f r s t)) (jI (-1)) r many P k A mm nt (va_up cr 1 (cr 1 + 1)) n tp fp im := by
  have hm := h.1
  have ok := h.2.2.1
  have o276 := ok.2.1 276
  have t1 := ok.2.2.2.2.2.2.2.2.2.1
  have fl : RO c m (fX13_steps_44 m (MS c m (va_up f 2 0) r s t)) (jI (-1)) r many P k A mm nt (va_up cr 1 (cr 1 + 1)) n tp fp im := by
    unfold fX13_steps_44
    exact z_rf (w := 1) (RF_2 h) (va_up_self _ _ _) (by omega)
  clear ok
  unfold fX13_steps
  (rw [s_gd _ hm, i1_50 a1 a2]; (try rw [show (0 : Int32) = jI 0 from rfl]); rw [s_pI hm, o_ob]; (try rw [s_R3 hm]); rw [o_ob]; (try rw [show (276 : Int32) = jI 276 from rfl]); rw [s_a3 hm (by omega) (by omega), o_ob]; (try rw [show (276 : Int).toNat = 276 from rfl]))
  by_cases x : r 276 = 0
  · rw [if_pos (show jI (r 276) = jI 0 by rw [x]), o_ob]
    by_cases y : 1 ≤ a ∧ a ≤ 50
    · (rw [if_pos y, if_neg (by decide)]; (try rw [s_R3 hm]); rw [o_ob]; (try rw [show (277 : Int32) = jI 277 from rfl]); rw [s_a3 hm (by omega) (by omega), o_ob]; (try rw [show (277 : Int).toNat = 277 from rfl]); (try rw [jI_add]); rw [if_neg (show ¬ (jI (r 277 + a) ≤ 20000) by rw [show (20000 : Int32) = jI 20000 from rfl, jI_le (by omega) (by omega) (by omega) (by omega)]; omega)])
      exact fl
    · rw [if_neg y, if_pos (by decide)]; exact fl
  · have b : -2147483648 ≤ r 276 ∧ r 276 < 2147483648 := by omega
    rw [if_neg (show ¬ jI (r 276) = jI 0 by rw [jI_eq (by omega) (by omega) (by omega) (by omega)]; exact x)]
    exact fl
theorem z_Steps1 {a : Nat} (h : RF c m f r s many P k A mm nt cr n tp fp im) (hs : r 276 = 0) (a1 : 1 ≤ a) (a2 : a ≤ 50) (ht : r 277 + (a : Int) ≤ 20000) : RO c m (fX13_steps m (jI (a : Int)) (MS c m f r s t)) (jI (sdn P many r a : Int)) (stpN P many a r) many P (actK k) (actA A k r) mm nt cr n tp fp im := by
  have hm := h.1
  have hp := h.2.1
  have ok := h.2.2.1
  have zt := h.2.2.2.1
  have hpg : ∀ k, k < many → PGk P many k := fun k hk => (hp.2.2.1 k hk).1
  have h60 := hp.2.1
  have t1 := ok.2.2.2.2.2.2.2.2.2.1
  have ok' : RowOK many (r 277) r := by
    obtain ⟨a1, a2, a3, a4, a5, a6, a7, a8, a9, a10, a11⟩ := ok
    exact ⟨a1, a2, a3, a4, a5, a6, a7, a8, a9, ⟨a10.1, by omega⟩, a11⟩
  have okN : RowOK many 20000 (stpN P many a r) := RowOK_T (stpN_ok (P := P) ok' hpg h60 a (by omega)) (by omega)
  have ztN : Zt (stpN P many a r) := Zt_stpN ok' hpg h60 zt (by omega)
  have e277 := sdn_277 (a := a) ok' hpg h60 (by omega)
  obtain ⟨f1, s1, e1, h1, e2⟩ := s_keep (t := t) (RF_2 (z := 0) h)
  obtain ⟨f3, s3, t3, e3, v1, v2⟩ := s_goOn (t := t) (n := a) hm h1.2.1 ok' (by omega) (by omega)
  clear ok ok'
  unfold fX13_steps
  (rw [s_gd _ hm, i1_50 (by omega) (by omega)]; (try rw [show (0 : Int32) = jI 0 from rfl]); rw [s_pI hm, o_ob]; (try rw [s_R3 hm]); rw [o_ob]; (try rw [show (276 : Int32) = jI 276 from rfl]); rw [s_a3 hm (by omega) (by omega), o_ob]; (try rw [show (276 : Int).toNat = 276 from rfl]); rw [if_pos (show jI (r 276) = jI 0 by rw [hs]), o_ob, if_pos (show 1 ≤ (a : Int) ∧ (a : Int) ≤ 50 by omega), if_neg (by decide)]; (try rw [s_R3 hm]); rw [o_ob]; (try rw [show (277 : Int32) = jI 277 from rfl]); rw [s_a3 hm (by omega) (by omega), o_ob]; (try rw [show (277 : Int).toNat = 277 from rfl]); (try rw [jI_add]); rw [if_pos (show jI (r 277 + (a : Int)) ≤ 20000 by rw [show (20000 : Int32) = jI 20000 from rfl, jI_le (by omega) (by omega) (by omega) (by omega)]; omega)]; (try rw [e1]); rw [o_ob]; (try rw [s_R3 hm]); rw [o_ob, s_a3 hm (by omega) (by omega), o_ob]; (try rw [show (277 : Int).toNat = 277 from rfl]); (try rw [e3]); rw [o_ob]; (try rw [s_R3 hm]); rw [o_ob, s_a3 hm (by omega) (by omega), o_ob]; (try rw [show (277 : Int).toNat = 277 from rfl]); (try rw [jI_sub]); (try rw [e277]); (try rw [show r 277 + (sdn P many r a : Int) - r 277 = (sdn P many r a : Int) by omega]))
  exact ⟨f3, s3, t3, rfl, (v1 2 (by omega)).trans (e2.trans (va_up_self _ _ _)), RF_row (RF_k h1 (fun j _ a _ => v1 j (by omega)) (fun j a _ _ _ => v2 j a)) okN ztN⟩
/-! the tape -/
theorem jI_shr8 {z : Int} (h1 : -2147483648 ≤ z) (h2 : z < 2147483648) : jI z >>> (jI 8 &&& (31 : Int32)) = jI (z / 256) := by
  apply Int32.toInt_inj.1
  rw [pk_shr _ _ 8 (by decide +kernel), jI_int h1 h2, jI_int (by omega) (by omega), Int.shiftRight_eq_div_pow]
  rfl
theorem jI_shr16 {z : Int} (h1 : -2147483648 ≤ z) (h2 : z < 2147483648) : jI z >>> (jI 16 &&& (31 : Int32)) = jI (z / 65536) := by
  apply Int32.toInt_inj.1
  rw [pk_shr _ _ 16 (by decide +kernel), jI_int h1 h2, jI_int (by omega) (by omega), Int.shiftRight_eq_div_pow]
  rfl
theorem jI_shr24 {z : Int} (h1 : -2147483648 ≤ z) (h2 : z < 2147483648) : jI z >>> (jI 24 &&& (31 : Int32)) = jI (z / 16777216) := by
  apply Int32.toInt_inj.1
  rw [pk_shr _ _ 24 (by decide +kernel), jI_int h1 h2, jI_int (by omega) (by omega), Int.shiftRight_eq_div_pow]
  rfl
theorem f_b {z : Int} {i : Nat} (hi : i < 4) (h1 : -2147483648 ≤ z) (h2 : z < 2147483648) : (jI z >>> (jI (24 - 8 * (i : Int)) &&& (31 : Int32))) &&& (255 : Int32) = jI (apJ z i) := by
  unfold apJ
  rcases (by omega : i = 0 ∨ i = 1 ∨ i = 2 ∨ i = 3) with e | e | e | e <;> subst e
  · ((try rw [show (24 - 8 * ((0 : Nat) : Int)) = 24 from rfl]); rw [jI_shr24 h1 h2]; (try rw [and255]))
    rw [show (if (0 : Nat) = 0 then (16777216 : Int) else if (0 : Nat) = 1 then 65536 else if (0 : Nat) = 2 then 256 else 1) = 16777216 from rfl]
    congr 1; omega
  · ((try rw [show (24 - 8 * ((1 : Nat) : Int)) = 16 from rfl]); rw [jI_shr16 h1 h2]; (try rw [and255]))
    rw [show (if (1 : Nat) = 0 then (16777216 : Int) else if (1 : Nat) = 1 then 65536 else if (1 : Nat) = 2 then 256 else 1) = 65536 from rfl]
    congr 1; omega
  · ((try rw [show (24 - 8 * ((2 : Nat) : Int)) = 8 from rfl]); rw [jI_shr8 h1 h2]; (try rw [and255]))
    rw [show (if (2 : Nat) = 0 then (16777216 : Int) else if (2 : Nat) = 1 then 65536 else if (2 : Nat) = 2 then 256 else 1) = 256 from rfl]
    congr 1; omega
  · have e0 : jI z >>> (jI 0 &&& (31 : Int32)) = jI z := jI_shr0 (jI z)
    ((try rw [show (24 - 8 * ((3 : Nat) : Int)) = 0 from rfl]); (try rw [e0]); (try rw [and255]))
    rw [show (if (3 : Nat) = 0 then (16777216 : Int) else if (3 : Nat) = 1 then 65536 else if (3 : Nat) = 2 then 256 else 1) = 1 from rfl, Int.ediv_one]
    congr 1; omega
theorem ir4 {z : Int} (h1 : 0 ≤ z) (h2 : z < 2147483648) : irm (jI z) (4 : Int32) = jI (z % 4) := by
  rw [show (4 : Int32) = jI 4 from rfl]
  exact jI_rem h1 h2 (by omega) (by omega)
theorem s_f76 {kk : Nat → Int32 → Int32 → Int32 → Int32 → Int32 → Int32 → Hp → Option (Int32 × Hp)} {i n : Nat} {x1 x2 x3 x4 x5 : Int32} {z : Int} (hm : Mo c m) (g16 : f 16 = ((n + i : Nat) : Int)) (hi : n + i < 700) (i2 : i < 20) (h1 : -2147483648 ≤ z) (h2 : z < 2147483648) : fX13_feed_76 kk m x1 x2 x3 x4 x5 (jI (i : Int)) (jI z) (MS c m f r s t) = kk m x1 x2 x3 x4 x5 (jI ((i + 1 : Nat) : Int)) (MS c m (va_up f 16 ((n + i + 1 : Nat) : Int)) r (va_up s 13 (va_up (s 13) (n + i) (apJ z (i % 4)))) t) := by
  unfold fX13_feed_76
  have e : (jI z >>> (((24 : Int32) - ((8 : Int32) * irm (jI (i : Int)) 4)) &&& (31 : Int32))) &&& (255 : Int32) = jI (apJ z (i % 4)) := by
    (rw [ir4 (by omega) (by omega)]; (try rw [show (24 : Int32) = jI 24 from rfl]); (try rw [show (8 : Int32) = jI 8 from rfl]); (try rw [jI_mul]); (try rw [jI_sub]); (try rw [show (i : Int) % 4 = ((i % 4 : Nat) : Int) by omega]))
    exact f_b (by omega) h1 h2
  (rw [e]; (try rw [s_R15 hm]); rw [o_ob]; (try rw [s_gI hm]); rw [o_ob]; (try rw [g16]); rw [s_q13 hm (by omega) (by omega), o_ob]; (try rw [s_gI hm]); rw [o_ob]; (try rw [g16]); (try rw [show (1 : Int32) = jI 1 from rfl]); (try rw [jI_add]); rw [s_pI hm, o_ob, o_lt]; (try rw [jI_add]); (try rw [show (((n + i : Nat) : Int)).toNat = n + i by omega]))
  rfl
def zz5 (z1 z2 z3 z4 z5 : Int) (q : Nat) : Int := if q = 0 then z1 else if q = 1 then z2 else if q = 2 then z3 else if q = 3 then z4 else z5
theorem tp5 {z1 z2 z3 z4 z5 : Int} {u : Nat → Int} {j : Nat} : tpT (tpT (tpT (tpT (tpT u n z1) (n + 4) z2) (n + 8) z3) (n + 12) z4) (n + 16) z5 j = if n ≤ j ∧ j < n + 20 then apJ (zz5 z1 z2 z3 z4 z5 ((j - n) / 4)) ((j - n) % 4) else u j := by
  unfold tpT
  by_cases q : n ≤ j ∧ j < n + 20
  · rw [if_pos q]
    rcases (by omega : (n + 16 ≤ j) ∨ (n + 12 ≤ j ∧ j < n + 16) ∨ (n + 8 ≤ j ∧ j < n + 12) ∨ (n + 4 ≤ j ∧ j < n + 8) ∨ (j < n + 4)) with e | e | e | e | e
    · (rw [if_pos (by omega)]; (try rw [show (j - n) / 4 = 4 by omega]); (try rw [show (j - n) % 4 = j - (n + 16) by omega])); rfl
    · (rw [if_neg (by omega), if_pos (by omega)]; (try rw [show (j - n) / 4 = 3 by omega]); (try rw [show (j - n) % 4 = j - (n + 12) by omega])); rfl
    · (rw [if_neg (by omega), if_neg (by omega), if_pos (by omega)]; (try rw [show (j - n) / 4 = 2 by omega]); (try rw [show (j - n) % 4 = j - (n + 8) by omega])); rfl
    · (rw [if_neg (by omega), if_neg (by omega), if_neg (by omega), if_pos (by omega)]; (try rw [show (j - n) / 4 = 1 by omega]); (try rw [show (j - n) % 4 = j - (n + 4) by omega])); rfl
    · (rw [if_neg (by omega), if_neg (by omega), if_neg (by omega), if_neg (by omega), if_pos (by omega)]; (try rw [show (j - n) / 4 = 0 by omega]); (try rw [show (j - n) % 4 = j - n by omega])); rfl
  · rw [if_neg q, if_neg (by omega), if_neg (by omega), if_neg (by omega), if_neg (by omega), if_neg (by omega)]
theorem z_Feed0 {z1 z2 z3 z4 z5 : Int} (h : RF c m f r s many P k A mm nt cr n tp fp im) (hn : ¬ n ≤ 680) : RO c m (fX13_feed m (jI z1) (jI z2) (jI z3) (jI z4) (jI z5) (MS c m f r s t)) (jI (-1)) r many P k A mm nt cr n tp fp im := by
  have hm := h.1
  obtain ⟨e16, h700, -⟩ := h.2.2.2.2.2.2.2.1
  unfold fX13_feed
  (rw [s_gd _ hm]; (try rw [show (0 : Int32) = jI 0 from rfl]); rw [s_pI hm, o_ob]; (try rw [s_gI hm]); rw [o_ob]; (try rw [va_up_ne _ _ (show (16 : Nat) ≠ 2 by omega)]); (try rw [e16]); (try rw [show (20 : Int32) = jI 20 from rfl]); (try rw [jI_add]); rw [if_neg (show ¬ (jI ((n : Int) + 20) ≤ 700) by rw [show (700 : Int32) = jI 700 from rfl, jI_le (by omega) (by omega) (by omega) (by omega)]; omega)])
  exact ⟨_, s, t, rfl, va_up_self _ _ _, RF_2 h⟩
theorem z_Feed1 {z1 z2 z3 z4 z5 : Int} (h : RF c m f r s many P k A mm nt cr n tp fp im) (hn : n ≤ 680) (a1 : -2147483648 ≤ z1 ∧ z1 < 2147483648) (a2 : -2147483648 ≤ z2 ∧ z2 < 2147483648) (a3 : -2147483648 ≤ z3 ∧ z3 < 2147483648) (a4 : -2147483648 ≤ z4 ∧ z4 < 2147483648) (a5 : -2147483648 ≤ z5 ∧ z5 < 2147483648) : RO c m (fX13_feed m (jI z1) (jI z2) (jI z3) (jI z4) (jI z5) (MS c m f r s t)) (jI ((n + 20 : Nat) : Int)) r many P k A mm nt cr (n + 20) (tpT (tpT (tpT (tpT (tpT tp n z1) (n + 4) z2) (n + 8) z3) (n + 12) z4) (n + 16) z5) fp im := by
  have hm := h.1
  obtain ⟨e16, h700, -⟩ := h.2.2.2.2.2.2.2.1
  obtain ⟨g, hg⟩ : ∃ g, g = va_up f 2 0 := ⟨_, rfl⟩
  have g16 : g 16 = (n : Int) := by rw [hg, va_up_ne _ _ (by omega)]; exact e16
  obtain ⟨tq, htq⟩ : ∃ tq : Nat → Nat → Int, tq = fun i j => if n ≤ j ∧ j < n + i then apJ (zz5 z1 z2 z3 z4 z5 ((j - n) / 4)) ((j - n) % 4) else s 13 j := ⟨_, rfl⟩
  have t0 : tq 0 = s 13 := by rw [htq]; funext j; exact if_neg (by omega)
  have ts : ∀ i, va_up (tq i) (n + i) (apJ (zz5 z1 z2 z3 z4 z5 (i / 4)) (i % 4)) = tq (i + 1) := fun i => by
    rw [htq]
    funext j
    show va_up (fun j => if n ≤ j ∧ j < n + i then apJ (zz5 z1 z2 z3 z4 z5 ((j - n) / 4)) ((j - n) % 4) else s 13 j) (n + i) (apJ (zz5 z1 z2 z3 z4 z5 (i / 4)) (i % 4)) j = if n ≤ j ∧ j < n + (i + 1) then apJ (zz5 z1 z2 z3 z4 z5 ((j - n) / 4)) ((j - n) % 4) else s 13 j
    by_cases q : j = n + i
    · (rw [q]; (try rw [va_up_self]); rw [if_pos (by omega)]; (try rw [show n + i - n = i by omega]))
    · rw [va_up_ne _ _ q]
      by_cases q2 : n ≤ j ∧ j < n + i
      · rw [if_pos q2, if_pos (by omega)]
      · rw [if_neg q2, if_neg (by omega)]
  unfold fX13_feed
  (rw [s_gd _ hm]; (try rw [show (0 : Int32) = jI 0 from rfl]); rw [s_pI hm, o_ob]; (try rw [← hg]); (try rw [s_gI hm]); rw [o_ob]; (try rw [g16]); (try rw [show (20 : Int32) = jI 20 from rfl]); (try rw [jI_add]); rw [if_pos (show jI ((n : Int) + 20) ≤ 700 by rw [show (700 : Int32) = jI 700 from rfl, jI_le (by omega) (by omega) (by omega) (by omega)]; omega)])
  have key := lp_up (z := fun _ _ _ _ _ _ _ _ => none) (S := fX13_feed_23) (β := Int32 × Hp) (fun kk (i : Nat) => kk m (jI z1) (jI z2) (jI z3) (jI z4) (jI z5) (jI (i : Int)) (MS c m (va_up g 16 ((n + i : Nat) : Int)) r (va_up s 13 (tq i)) t)) (E := some (jI ((n + 20 : Nat) : Int), MS c m (va_up g 16 ((n + 20 : Nat) : Int)) r (va_up s 13 (tq 20)) t)) (M := 20) ?_ ?_ FU 0 (by omega) (FU_lt (by omega))
  · have e0 : va_up g 16 ((n + 0 : Nat) : Int) = g := by ((try rw [show n + 0 = n from rfl]); rw [← g16, up_id])
    rw [t0, up_id, e0] at key
    have key : lp (fun _ _ _ _ _ _ _ _ => none) fX13_feed_23 FU m (jI z1) (jI z2) (jI z3) (jI z4) (jI z5) (jI 0) (MS c m g r s t) = _ := key
    rw [key]
    refine ⟨_, _, t, rfl, by ((try rw [va_up_ne _ _ (by omega)]); rw [hg]; (try rw [va_up_self])), ?_⟩
    obtain ⟨h1, ⟨q1, q2, q3, q4⟩, ok, zt, ⟨a1', a2', a3'⟩, ⟨b1, b2', b3⟩, h7, ⟨d1, d2, d3⟩, h25, ⟨i1, i2⟩⟩ := h
    have gn : ∀ j, j ≠ 2 → j ≠ 16 → (va_up g 16 ((n + 20 : Nat) : Int)) j = f j := fun j a b => by ((try rw [va_up_ne _ _ b]); rw [hg]; (try rw [va_up_ne _ _ a]))
    have en : ∀ j, j ≠ 13 → (va_up s 13 (tq 20)) j = s j := fun j a => va_up_ne _ _ a
    refine ⟨h1, ⟨(gn 13 (by omega) (by omega)).trans q1, q2, fun k hk => ?_, fun j hj => by rw [en 12 (by omega)]; exact q4 j hj⟩, ok, zt, ⟨(gn 58 (by omega) (by omega)).trans a1', a2', fun i hi => by rw [en 25 (by omega)]; exact a3' i hi⟩, ⟨(gn 59 (by omega) (by omega)).trans b1, b2', fun i hi => ?_⟩, fun j hj => by rw [en 4 (by omega)]; exact h7 j hj, ⟨va_up_self _ _ _, by omega, fun j hj => ?_⟩, (gn 25 (by omega) (by omega)).trans h25, ⟨(gn 67 (by omega) (by omega)).trans i1, fun r' k' A' m' nt' cr' q => ?_⟩⟩
    · rw [en 5 (by omega), en 6 (by omega), en 7 (by omega), en 8 (by omega), en 9 (by omega), en 10 (by omega), en 11 (by omega)]
      exact q3 k hk
    · rw [en 28 (by omega), en 29 (by omega), en 30 (by omega)]
      exact b3 i hi
    · ((try rw [va_up_self]); (try rw [tp5]); rw [htq])
      show (if n ≤ j ∧ j < n + 20 then apJ (zz5 z1 z2 z3 z4 z5 ((j - n) / 4)) ((j - n) % 4) else s 13 j) = _ ∧ _
      by_cases q : n ≤ j ∧ j < n + 20
      · rw [if_pos q, if_pos q]
        exact ⟨rfl, apJ_r _ _⟩
      · rw [if_neg q, if_neg q]
        exact d3 j hj
    · rw [gn 68 (by omega) (by omega), gn 69 (by omega) (by omega), en 31 (by omega), en 32 (by omega), en 33 (by omega), en 34 (by omega), en 35 (by omega), en 36 (by omega)]
      exact i2 r' k' A' m' nt' cr' q
  · intro i hi kk
    have l4 : (4 : Int32) = jI 4 := rfl
    have l8 : (8 : Int32) = jI 8 := rfl
    have l12 : (12 : Int32) = jI 12 := rfl
    have l16 : (16 : Int32) = jI 16 := rfl
    have l20 : (20 : Int32) = jI 20 := rfl
    have go : ∀ z : Int, z = zz5 z1 z2 z3 z4 z5 (i / 4) → -2147483648 ≤ z → z < 2147483648 → fX13_feed_76 kk m (jI z1) (jI z2) (jI z3) (jI z4) (jI z5) (jI (i : Int)) (jI z) (MS c m (va_up g 16 ((n + i : Nat) : Int)) r (va_up s 13 (tq i)) t) = kk m (jI z1) (jI z2) (jI z3) (jI z4) (jI z5) (jI ((i + 1 : Nat) : Int)) (MS c m (va_up g 16 ((n + (i + 1) : Nat) : Int)) r (va_up s 13 (tq (i + 1))) t) := by
      intro z hz b1 b2'
      (rw [s_f76 (n := n) hm (va_up_self _ _ _) (by omega) (by omega) b1 b2']; (try rw [upup]); (try rw [va_up_self]); (try rw [upup]); rw [hz, ts])
      rfl
    unfold fX13_feed_23
    rw [if_neg (by first | ((simp (disch := omega) only [jI_lit, jI_neg, jI_add, jI_sub, jI_mul, jI_lt, jI_le, jI_eq, jL_lit, jL_lt, jL_le, jL_eq]) <;> omega) | omega)]
    rcases (by omega : i < 4 ∨ (4 ≤ i ∧ i < 8) ∨ (8 ≤ i ∧ i < 12) ∨ (12 ≤ i ∧ i < 16) ∨ (16 ≤ i ∧ i < 20)) with e | e | e | e | e
    · rw [if_neg (by first | ((simp (disch := omega) only [jI_lit, jI_neg, jI_add, jI_sub, jI_mul, jI_lt, jI_le, jI_eq, jL_lit, jL_lt, jL_le, jL_eq]) <;> omega) | omega)]
      exact go z1 (by rw [show i / 4 = 0 by omega]; rfl) a1.1 a1.2
    · rw [if_pos (by first | ((simp (disch := omega) only [jI_lit, jI_neg, jI_add, jI_sub, jI_mul, jI_lt, jI_le, jI_eq, jL_lit, jL_lt, jL_le, jL_eq]) <;> omega) | omega), if_neg (by first | ((simp (disch := omega) only [jI_lit, jI_neg, jI_add, jI_sub, jI_mul, jI_lt, jI_le, jI_eq, jL_lit, jL_lt, jL_le, jL_eq]) <;> omega) | omega)]
      exact go z2 (by rw [show i / 4 = 1 by omega]; rfl) a2.1 a2.2
    · rw [if_pos (by first | ((simp (disch := omega) only [jI_lit, jI_neg, jI_add, jI_sub, jI_mul, jI_lt, jI_le, jI_eq, jL_lit, jL_lt, jL_le, jL_eq]) <;> omega) | omega), if_pos (by first | ((simp (disch := omega) only [jI_lit, jI_neg, jI_add, jI_sub, jI_mul, jI_lt, jI_le, jI_eq, jL_lit, jL_lt, jL_le, jL_eq]) <;> omega) | omega), if_neg (by first | ((simp (disch := omega) only [jI_lit, jI_neg, jI_add, jI_sub, jI_mul, jI_lt, jI_le, jI_eq, jL_lit, jL_lt, jL_le, jL_eq]) <;> omega) | omega)]
      exact go z3 (by rw [show i / 4 = 2 by omega]; rfl) a3.1 a3.2
    · rw [if_pos (by first | ((simp (disch := omega) only [jI_lit, jI_neg, jI_add, jI_sub, jI_mul, jI_lt, jI_le, jI_eq, jL_lit, jL_lt, jL_le, jL_eq]) <;> omega) | omega), if_pos (by first | ((simp (disch := omega) only [jI_lit, jI_neg, jI_add, jI_sub, jI_mul, jI_lt, jI_le, jI_eq, jL_lit, jL_lt, jL_le, jL_eq]) <;> omega) | omega), if_pos (by first | ((simp (disch := omega) only [jI_lit, jI_neg, jI_add, jI_sub, jI_mul, jI_lt, jI_le, jI_eq, jL_lit, jL_lt, jL_le, jL_eq]) <;> omega) | omega), if_neg (by first | ((simp (disch := omega) only [jI_lit, jI_neg, jI_add, jI_sub, jI_mul, jI_lt, jI_le, jI_eq, jL_lit, jL_lt, jL_le, jL_eq]) <;> omega) | omega)]
      exact go z4 (by rw [show i / 4 = 3 by omega]; rfl) a4.1 a4.2
    · rw [if_pos (by first | ((simp (disch := omega) only [jI_lit, jI_neg, jI_add, jI_sub, jI_mul, jI_lt, jI_le, jI_eq, jL_lit, jL_lt, jL_le, jL_eq]) <;> omega) | omega), if_pos (by first | ((simp (disch := omega) only [jI_lit, jI_neg, jI_add, jI_sub, jI_mul, jI_lt, jI_le, jI_eq, jL_lit, jL_lt, jL_le, jL_eq]) <;> omega) | omega), if_pos (by first | ((simp (disch := omega) only [jI_lit, jI_neg, jI_add, jI_sub, jI_mul, jI_lt, jI_le, jI_eq, jL_lit, jL_lt, jL_le, jL_eq]) <;> omega) | omega), if_pos (by first | ((simp (disch := omega) only [jI_lit, jI_neg, jI_add, jI_sub, jI_mul, jI_lt, jI_le, jI_eq, jL_lit, jL_lt, jL_le, jL_eq]) <;> omega) | omega)]
      exact go z5 (by rw [show i / 4 = 4 by omega]; rfl) a5.1 a5.2
  · intro kk
    unfold fX13_feed_23
    (rw [if_pos (by first | ((simp (disch := omega) only [jI_lit, jI_neg, jI_add, jI_sub, jI_mul, jI_lt, jI_le, jI_eq, jL_lit, jL_lt, jL_le, jL_eq]) <;> omega) | omega)]; (try rw [s_gI hm]); rw [o_ob]; (try rw [va_up_self]))
end RAE
