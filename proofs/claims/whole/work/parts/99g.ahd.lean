section RAI
variable {c : MC} {m : Nat} {f r : Nat → Int} {s t : SI2} {many k mm n : Nat} {P : PG} {A : Nat → Nat → Int} {nt cr tp : Nat → Int} {fp : Int} {im : Option DS}
theorem rtf_278 {T : Int} (ok : RowOK many T r) (pg : ∀ k, k < many → PGk P many k) (hm : many ≤ 60) : ∀ i : Nat, T + i < 900000 → (rtf P many r i).1 278 = r 278 + (if (rtf P many r i).2 = 0 then 0 else 1)
  | 0, _ => by show r 278 = r 278 + (if (0 : Int) = 0 then 0 else 1); rw [if_pos rfl]; omega
  | i + 1, h => by
    have ih := rtf_278 ok pg hm i (by omega)
    by_cases c : (rtf P many r i).1 276 = 0 ∧ (rtf P many r i).2 = 0
    · rw [if_pos c.2] at ih
      rw [rtf_go c.1 c.2]
      have := stp_278 (rtf_ok ok pg hm i (by omega)).1 pg c.1
      show stp P many (rtf P many r i).1 278 = r 278 + (if knd P (rtf P many r i).1 = 0 then 0 else 1)
      rw [this, ih]
      omega
    · rw [rtf_no c]; exact ih
theorem rtf_hi {T : Int} {j : Nat} (ok : RowOK many T r) (pg : ∀ k, k < many → PGk P many k) (hm : many ≤ 60) (hj : 414 ≤ j) : ∀ i : Nat, T + i < 900000 → (rtf P many r i).1 j = r j
  | 0, _ => rfl
  | i + 1, h => by
    have ih := rtf_hi ok pg hm hj i (by omega)
    by_cases c : (rtf P many r i).1 276 = 0 ∧ (rtf P many r i).2 = 0
    · rw [rtf_go c.1 c.2]
      show stp P many (rtf P many r i).1 j = r j
      rw [stp_hi (rtf_ok ok pg hm i (by omega)).1 pg hm hj, ih]
    · rw [rtf_no c]; exact ih
/-- one step more, the row as far as its first fault -/
theorem rtf_stp {T : Int} {i : Nat} (h2 : (rtf P many r i).2 = 0) : stp P many (rtf P many r i).1 = (rtf P many r (i + 1)).1 := by
  by_cases c : (rtf P many r i).1 276 = 0
  · rw [rtf_go c h2]
  · rw [rtf_no (fun q => c q.1), stp_st c]
theorem s_goToFault {T : Int} (hm : Mo c m) (hp : Pr f s P many) (ok : RowOK many T r) (hT : T < 700000) (hn : n ≤ 200) : ∃ f' s' t', fX13_goToFault m (jI (n : Int)) (MS c m f r s t) = some (jI (if (rtf P many r n).2 = 0 then 0 else 1), MS c m f' (rtf P many r n).1 s' t') ∧ (∀ j, j < 34 ∨ 51 < j → f' j = f j) ∧ (∀ j, j ≠ 22 → s' j = s j) := by
  have hpg : ∀ k, k < many → PGk P many k := fun k hk => (hp.2.2.1 k hk).1
  have h60 := hp.2.1
  have b0 := ok.2.1 278
  unfold fX13_goToFault
  (rw [s_gd _ hm]; (try rw [s_R3 hm]); rw [o_ob]; (try rw [show (278 : Int32) = jI 278 from rfl]); rw [s_a3 hm (by omega) (by omega), o_ob]; (try rw [show (278 : Int).toNat = 278 from rfl]))
  have key := lp_sr (z := fun _ _ _ _ _ => none) (S := fX13_goToFault_11) (β := Int32 × Hp) (ev := fun k (i : Nat) (x : (Nat → Int) × SI2 × SI2) => k m (jI (n : Int)) (jI (r 278)) (jI (i : Int)) (MS c m x.1 (rtf P many r i).1 x.2.1 x.2.2)) (hi := n) (Inv := fun i x => (∀ j, j < 34 ∨ 51 < j → x.1 j = f j) ∧ (∀ j, j ≠ 22 → x.2.1 j = s j)) (Post := fun q => ∃ f' s' t', q = some (jI (if (rtf P many r n).2 = 0 then 0 else 1), MS c m f' (rtf P many r n).1 s' t') ∧ (∀ j, j < 34 ∨ 51 < j → f' j = f j) ∧ (∀ j, j ≠ 22 → s' j = s j)) ?_ ?_ FU 0 (f, s, t) (by omega) (FU_lt (by omega)) ⟨fun _ _ => rfl, fun _ _ => rfl⟩
  · exact key
  · intro i x hi hx kk
    obtain ⟨f1, s1, t1⟩ := x
    obtain ⟨a1, a2⟩ := hx
    have a1 : ∀ j, j < 34 ∨ 51 < j → f1 j = f j := a1
    have a2 : ∀ j, j ≠ 22 → s1 j = s j := a2
    have oki := (rtf_ok ok hpg h60 i (by omega)).1
    have bi := oki.2.1 278
    have e8 := rtf_278 ok hpg h60 i (by omega)
    show (∃ f' s' t', fX13_goToFault_11 kk m (jI (n : Int)) (jI (r 278)) (jI (i : Int)) (MS c m f1 (rtf P many r i).1 s1 t1) = _ ∧ _) ∨ ∃ y : (Nat → Int) × SI2 × SI2, _ ∧ fX13_goToFault_11 kk m (jI (n : Int)) (jI (r 278)) (jI (i : Int)) (MS c m f1 (rtf P many r i).1 s1 t1) = kk m (jI (n : Int)) (jI (r 278)) (jI ((i + 1 : Nat) : Int)) (MS c m y.1 (rtf P many r (i + 1)).1 y.2.1 y.2.2)
    unfold fX13_goToFault_11 fX13_goToFault_38
    (rw [if_neg (by first | ((simp (disch := omega) only [jI_lit, jI_neg, jI_add, jI_sub, jI_mul, jI_lt, jI_le, jI_eq, jL_lit, jL_lt, jL_le, jL_eq]) <;> omega) | omega)]; (try rw [s_R3 hm]); rw [o_ob]; (try rw [show (278 : Int32) = jI 278 from rfl]); rw [s_a3 hm (by omega) (by omega), o_ob]; (try rw [show (278 : Int).toNat = 278 from rfl]))
    by_cases q : (rtf P many r i).2 = 0
    · right
      rw [if_pos q] at e8
      obtain ⟨f2, s2, t2, b1, b2', b3⟩ := s_aStep (t := t1) hm (Pr_sq hp (a1 13 (by omega)) a2) oki (by omega)
      refine ⟨(f2, s2, t2), ⟨fun j hj => (b2' j hj).trans (a1 j hj), fun j hj => (b3 j hj).trans (a2 j hj)⟩, ?_⟩
      (rw [if_pos (show jI ((rtf P many r i).1 278) = jI (r 278) by rw [e8]; congr 1; omega)]; (try rw [b1]); rw [o_ob, o_lt]; (try rw [show (1 : Int32) = jI 1 from rfl]); (try rw [jI_add]); rw [rtf_stp (T := T) q])
      rfl
    · left
      rw [if_neg q] at e8
      refine ⟨f1, s1, t1, ?_, a1, a2⟩
      (rw [rtf_st (n := n) (i := i) (by omega) (fun z => q z.2), if_neg q, if_neg (show ¬ jI ((rtf P many r i).1 278) = jI (r 278) by rw [jI_eq (by omega) (by omega) (by omega) (by omega)]; omega)]; (try rw [s_R3 hm]); rw [o_ob, s_a3 hm (by omega) (by omega), o_ob]; (try rw [show (278 : Int).toNat = 278 from rfl]); rw [if_neg (show ¬ jI ((rtf P many r i).1 278) ≤ jI (r 278) by rw [jI_le (by omega) (by omega) (by omega) (by omega)]; omega)])
      rfl
  · intro x hx kk
    obtain ⟨f1, s1, t1⟩ := x
    obtain ⟨a1, a2⟩ := hx
    have oki := (rtf_ok ok hpg h60 n (by omega)).1
    have bi := oki.2.1 278
    have e8 := rtf_278 ok hpg h60 n (by omega)
    refine ⟨f1, s1, t1, ?_, a1, a2⟩
    show fX13_goToFault_11 kk m (jI (n : Int)) (jI (r 278)) (jI (n : Int)) (MS c m f1 (rtf P many r n).1 s1 t1) = _
    unfold fX13_goToFault_11 fX13_goToFault_38
    (rw [if_pos (by first | ((simp (disch := omega) only [jI_lit, jI_neg, jI_add, jI_sub, jI_mul, jI_lt, jI_le, jI_eq, jL_lit, jL_lt, jL_le, jL_eq]) <;> omega) | omega)]; (try rw [s_R3 hm]); rw [o_ob]; (try rw [show (278 : Int32) = jI 278 from rfl]); rw [s_a3 hm (by omega) (by omega), o_ob]; (try rw [show (278 : Int).toNat = 278 from rfl]))
    by_cases q : (rtf P many r n).2 = 0
    · rw [if_pos q] at e8
      rw [if_pos q, if_pos (show jI ((rtf P many r n).1 278) ≤ jI (r 278) by rw [jI_le (by omega) (by omega) (by omega) (by omega)]; omega)]
      rfl
    · rw [if_neg q] at e8
      rw [if_neg q, if_neg (show ¬ jI ((rtf P many r n).1 278) ≤ jI (r 278) by rw [jI_le (by omega) (by omega) (by omega) (by omega)]; omega)]
      rfl
theorem s_named {h : Nat} (hm : Mo c m) (hr : Rng r) (hh : h < 512) : fX13_isNamed m (jI (h : Int)) (MS c m f r s t) = some (if (r 280 = 4 ∨ r 280 = 5) ∧ r 286 = ((h / 2 : Nat) : Int) ∧ r 287 = ((h % 2 : Nat) : Int) then jI 1 else jI 0) := by
  have b0 := hr 280
  have b6 := hr 286
  have b7 := hr 287
  have go : fX13_isNamed_24 (MS c m f r s t) m (jI (h : Int)) = some (if r 286 = ((h / 2 : Nat) : Int) ∧ r 287 = ((h % 2 : Nat) : Int) then jI 1 else jI 0) := by
    unfold fX13_isNamed_24
    ((try rw [s_R3 hm]); rw [o_ob]; (try rw [show (286 : Int32) = jI 286 from rfl]); rw [s_a3 hm (by omega) (by omega), o_ob]; (try rw [show (286 : Int).toNat = 286 from rfl]); rw [id2 (by omega) (by omega)]; (try rw [show (h : Int) / 2 = ((h / 2 : Nat) : Int) by omega]))
    by_cases x : r 286 = ((h / 2 : Nat) : Int)
    · (rw [if_pos (by rw [x])]; (try rw [s_R3 hm]); rw [o_ob]; (try rw [show (287 : Int32) = jI 287 from rfl]); rw [s_a3 hm (by omega) (by omega), o_ob]; (try rw [show (287 : Int).toNat = 287 from rfl]); rw [ir2 (by omega) (by omega)]; (try rw [show (h : Int) % 2 = ((h % 2 : Nat) : Int) by omega]))
      by_cases y : r 287 = ((h % 2 : Nat) : Int)
      · rw [if_pos (by rw [y]), if_pos ⟨x, y⟩]; rfl
      · rw [if_neg (by rw [jI_eq (by omega) (by omega) (by omega) (by omega)]; exact y), if_neg (fun z => y z.2)]; rfl
    · rw [if_neg (by rw [jI_eq (by omega) (by omega) (by omega) (by omega)]; exact x), if_neg (fun z => x z.1)]; rfl
  unfold fX13_isNamed
  (rw [s_gd _ hm]; (try rw [s_R3 hm]); rw [o_ob]; (try rw [show (280 : Int32) = jI 280 from rfl]); rw [s_a3 hm (by omega) (by omega), o_ob]; (try rw [show (280 : Int).toNat = 280 from rfl]))
  by_cases x : r 280 = 4
  · rw [if_pos (by rw [x]; rfl), go]
    simp only [x, true_or, true_and]
  · (rw [if_neg (show ¬ jI (r 280) = 4 by rw [show (4 : Int32) = jI 4 from rfl, jI_eq (by omega) (by omega) (by omega) (by omega)]; exact x)]; (try rw [s_R3 hm]); rw [o_ob, s_a3 hm (by omega) (by omega), o_ob]; (try rw [show (280 : Int).toNat = 280 from rfl]))
    by_cases y : r 280 = 5
    · rw [if_pos (by rw [y]; rfl), go]
      simp only [y, or_true, true_and]
    · rw [if_neg (show ¬ jI (r 280) = 5 by rw [show (5 : Int32) = jI 5 from rfl, jI_eq (by omega) (by omega) (by omega) (by omega)]; exact y), if_neg (fun z => by rcases z.1 with z | z; exact x z; exact y z)]
      rfl
theorem s_harm {q : Nat → Int} {x : Int} (hm : Mo c m) (hq : ∀ j, j < 414 → s 27 j = q j) (hq2 : Rng q) (hr : Rng r) (x1 : -2147483648 ≤ x) (x2 : x < 2147483648) : fX13_isHarmless m (jI x) (MS c m f r s t) = some (jI (b2 (allb (alk r q x) 266))) := by
  unfold fX13_isHarmless
  rw [s_gd _ hm]
  have key := lp_sr (z := fun _ _ _ => none) (S := fX13_isHarmless_2 (MS c m f r s t)) (β := Int32) (ev := fun k (i : Nat) (_ : Unit) => k m (jI x) (jI (i : Int))) (hi := 266) (Inv := fun i _ => ∀ j, j < i → alk r q x j = true) (Post := fun o => o = some (jI (b2 (allb (alk r q x) 266)))) ?_ ?_ FU 0 () (by omega) (FU_lt (by omega)) (fun j hj => by omega)
  · exact key
  · intro i _ hi h0 kk
    have nx : ∀ res, alk r q x i = true → res = kk m (jI x) (jI ((i + 1 : Nat) : Int)) → res = some (jI (b2 (allb (alk r q x) 266))) ∨ ∃ _ : Unit, (∀ j, j < i + 1 → alk r q x j = true) ∧ res = kk m (jI x) (jI ((i + 1 : Nat) : Int)) := fun res q0 er => Or.inr ⟨(), fun j hj => by
      by_cases d : j = i
      · rw [d]; exact q0
      · exact h0 j (by omega), er⟩
    have bq := hq2 i
    have br := hr i
    show fX13_isHarmless_2 (MS c m f r s t) kk m (jI x) (jI (i : Int)) = _ ∨ ∃ _ : Unit, _ ∧ fX13_isHarmless_2 (MS c m f r s t) kk m (jI x) (jI (i : Int)) = kk m (jI x) (jI ((i + 1 : Nat) : Int))
    unfold fX13_isHarmless_2
    rw [if_neg (by first | ((simp (disch := omega) only [jI_lit, jI_neg, jI_add, jI_sub, jI_mul, jI_lt, jI_le, jI_eq, jL_lit, jL_lt, jL_le, jL_eq]) <;> omega) | omega)]
    by_cases cx : (i : Int) = x
    · (rw [if_pos (by first | ((simp (disch := omega) only [jI_lit, jI_neg, jI_add, jI_sub, jI_mul, jI_lt, jI_le, jI_eq, jL_lit, jL_lt, jL_le, jL_eq]) <;> omega) | omega), o_lt]; (try rw [show (1 : Int32) = jI 1 from rfl]); (try rw [jI_add]))
      refine nx _ ?_ rfl
      unfold alk
      rw [cx]; simp
    · (rw [if_neg (by first | ((simp (disch := omega) only [jI_lit, jI_neg, jI_add, jI_sub, jI_mul, jI_lt, jI_le, jI_eq, jL_lit, jL_lt, jL_le, jL_eq]) <;> omega) | omega)]; (try rw [s_R3 hm]); rw [o_ob, s_a3 hm (by omega) (by omega), o_ob]; (try rw [s_R62 hm]); rw [o_ob, s_a27 hm (by omega) (by omega), o_ob]; (try rw [show ((i : Int)).toNat = i by omega]); rw [hq i (by omega)])
      by_cases cq : r i = q i
      · (rw [if_pos (by rw [cq]), o_lt]; (try rw [show (1 : Int32) = jI 1 from rfl]); (try rw [jI_add]))
        refine nx _ ?_ rfl
        unfold alk
        rw [cq]; simp
      · left
        rw [if_neg (show ¬ jI (r i) = jI (q i) by rw [jI_eq (by omega) (by omega) (by omega) (by omega)]; exact cq)]
        have : allb (alk r q x) 266 = false := by
          cases e : allb (alk r q x) 266 with
          | false => rfl
          | true =>
            have := (allb_iff _ _).1 e i hi
            unfold alk at this
            simp at this
            omega
        rw [this]; rfl
  · intro _ h0 kk
    show fX13_isHarmless_2 (MS c m f r s t) kk m (jI x) (jI ((266 : Nat) : Int)) = _
    unfold fX13_isHarmless_2
    rw [if_pos (by first | ((simp (disch := omega) only [jI_lit, jI_neg, jI_add, jI_sub, jI_mul, jI_lt, jI_le, jI_eq, jL_lit, jL_lt, jL_le, jL_eq]) <;> omega) | omega), (allb_iff _ _).2 (fun i hi => h0 i hi)]
    rfl
/-- a look-ahead's scratch, and the row that it compares with -/
def GA (f : Nat → Int) (s : SI2) (r base : Nat → Int) (x : (Nat → Int) × SI2 × SI2) : Prop := LA f s r x.1 x.2.1 ∧ ∀ j, j < 414 → x.2.1 27 j = base j
theorem s_spoil {h z : Nat} {base : Nat → Int} {sound : Bool} {x : (Nat → Int) × SI2 × SI2} (hf : RF c m f r s many P k A mm nt cr n tp fp im) (hx : GA f s r base x) (hb : Rng base) (hh : h < 512) (hz : z < 16) {n' : Nat} (hn' : n' ≤ 60) : ∃ y, GA f s r base y ∧ fX13_spoil m (jI (h : Int)) (jI (z : Int)) (jI (n' : Int)) (jI (if sound = true then 0 else 1)) (MS c m x.1 r x.2.1 x.2.2) = some (jI (vrd (rtf P many (pth r h (z : Int)) n').1 base (rtf P many (pth r h (z : Int)) n').2 sound h), MS c m y.1 r y.2.1 y.2.2) := by
  have hm := hf.1
  have pr := hf.2.1
  have ok := hf.2.2.1
  have zt := hf.2.2.2.1
  have hpg : ∀ k, k < many → PGk P many k := fun k hk => (pr.2.2.1 k hk).1
  have h60 := pr.2.1
  obtain ⟨f1, s1, t1⟩ := x
  obtain ⟨l1, hq⟩ := hx
  have okp := RowOK_pth (z := (z : Int)) ok hh (by omega) (by omega)
  have ztp : Zt (pth r h (z : Int)) := Zt_up zt (by omega)
  obtain ⟨f2, s2, t2, e2, v1, v2⟩ := s_goToFault (t := t1) (n := n') hm (LA_Pr l1 pr) okp (by omega) (by omega)
  have l2 := LA_sq l1 v1 v2
  have hq2 : ∀ j, j < 414 → s2 27 j = base j := fun j hj => by rw [v2 27 (by omega)]; exact hq j hj
  obtain ⟨oku, k1, k2⟩ := rtf_ok okp hpg h60 n' (by omega)
  have ku := rtf_kd okp hpg h60 n' (by omega)
  have ztu : Zt (rtf P many (pth r h (z : Int)) n').1 := fun j hj => by rw [rtf_hi okp hpg h60 hj n' (by omega)]; exact ztp j hj
  obtain ⟨u, hu⟩ : ∃ u, u = (rtf P many (pth r h (z : Int)) n').1 := ⟨_, rfl⟩
  obtain ⟨kd, hkd⟩ : ∃ kd, kd = (rtf P many (pth r h (z : Int)) n').2 := ⟨_, rfl⟩
  rw [← hu] at e2 oku ku ztu ⊢
  rw [← hkd] at e2 k1 k2 ku ⊢
  have fin : ∀ v : Int, v = vrd u base kd sound h → ∃ y, GA f s r base y ∧ fX13_spoil_55 m (jI v) (MS c m f2 u s2 t2) = some (jI (vrd u base kd sound h), MS c m y.1 r y.2.1 y.2.2) := by
    intro v hv
    refine ⟨(f2, s2, t2), ⟨l2, hq2⟩, ?_⟩
    unfold fX13_spoil_55
    rw [LA_bk hm l2 zt ztu, o_ob2, hv]
  have g30 : ¬ ((kd = 4 ∨ kd = 5) ∧ u 286 = ((h / 2 : Nat) : Int) ∧ u 287 = ((h % 2 : Nat) : Int)) → ∃ y, GA f s r base y ∧ fX13_spoil_30 fX13_spoil_55 m (jI (h : Int)) (jI (if sound = true then 0 else 1)) (jI (if kd = 0 then 0 else 1)) (MS c m f2 u s2 t2) = some (jI (vrd u base kd sound h), MS c m y.1 r y.2.1 y.2.2) := by
    intro c4
    unfold fX13_spoil_30 fX13_spoil_54
    by_cases c0 : kd = 0
    · rw [if_pos c0, if_pos (by rfl)]
      cases sound with
      | false =>
        rw [if_neg (show ¬ false = true by decide), if_neg (by decide)]
        refine fin 2 ?_
        unfold vrd
        rw [if_neg c4, if_neg (by simp)]
      | true =>
        (rw [if_pos rfl, if_pos (by rfl), id2 (by omega) (by omega)]; (try rw [show (h : Int) / 2 = ((h / 2 : Nat) : Int) by omega]); rw [s_harm hm hq2 hb oku.2.1 (by omega) (by omega), o_ob])
        cases ha : allb (alk u base ((h / 2 : Nat) : Int)) 266 with
        | false =>
          rw [if_pos (by rfl)]
          refine fin 2 ?_
          unfold vrd
          rw [if_neg c4, if_neg (fun q => by rw [ha] at q; exact absurd q.2.2 (by decide))]
        | true =>
          rw [if_neg (by decide)]
          refine fin 1 ?_
          unfold vrd
          rw [if_neg c4, if_pos ⟨c0, rfl, ha⟩]
    · rw [if_neg c0, if_neg (by decide)]
      refine fin 2 ?_
      unfold vrd
      rw [if_neg c4, if_neg (fun q => c0 q.1)]
  unfold fX13_spoil
  (rw [s_gd _ hm, s_lay hm ok.1 (by omega) (by omega), o_ob]; (try rw [show ((h : Int)).toNat = h by omega]); rw [e2, o_ob2])
  by_cases c0 : kd = 0
  · rw [if_pos (by rw [if_pos c0]; rfl)]
    exact g30 (fun q => by omega)
  · rw [if_neg (by rw [if_neg c0]; decide), s_named hm oku.2.1 hh, o_ob, ku c0]
    by_cases c4 : (kd = 4 ∨ kd = 5) ∧ u 286 = ((h / 2 : Nat) : Int) ∧ u 287 = ((h % 2 : Nat) : Int)
    · rw [if_pos c4, if_neg (by decide)]
      refine fin 0 ?_
      unfold vrd
      rw [if_pos c4]
    · rw [if_neg c4, if_pos (by decide)]
      exact g30 c4
end RAI
