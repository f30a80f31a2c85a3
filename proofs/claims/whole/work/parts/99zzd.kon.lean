section KOX
variable {args : Array Value} {s : State}
theorem va_eqL {t u : Term} {a : Nat} (h : (Cond.eq t u).before args s = true) (hu : u.eval args s none [] s = some (.ref a)) : t.eval args s none [] s = some (.ref a) := va_eqI (by simpa [Cond.before, Cond.holds] using h) hu
theorem ent (hg : gvn.before args s = true) (n : Nat) (w : Cond) (h : pkn 15 gvn n = w) : w.before args s = true := h ▸ pkn_ok 15 gvn n hg
theorem tb_all {ws : List Cond} (is : List Nat) (h : ws.map some = is.map (fun i => lw_tbl[i]?)) : ∀ w ∈ ws, w ∈ lw_tbl := by
  intro w hw
  have h1 : some w ∈ is.map (fun i => lw_tbl[i]?) := by rw [← h]; exact List.mem_map.mpr ⟨w, hw, rfl⟩
  obtain ⟨i, -, hi⟩ := List.mem_map.mp h1
  exact List.mem_of_getElem? hi
set_option maxRecDepth 100000 in
theorem ij_0 : ∀ w ∈ u_ws RJ0 TJ0 2, w ∈ lw_tbl := tb_all [1417, 1419] (by decide +kernel)
/-- the classes -/
theorem kn_cl (hts : ∀ w ∈ lw_tbl, w.before args s = true) : ∃ (cC : Nat → ClassId) (iS : Nat → Nat → Nat), ∀ (c : Nat) (q : vw_C), vwCl[c]? = some q → u_Kn s q.1 q.2.1 q.2.2 (cC c) (iS c) := by
  have hU : ∀ w ∈ UW, w.before args s = true := fun w h => hts w (List.mem_filter.mp h).1
  have h0 : ∀ c : Nat, ∃ p : ClassId × (Nat → Nat), ∀ q : vw_C, vwCl[c]? = some q → u_Kn s q.1 q.2.1 q.2.2 p.1 p.2 := by
    intro c
    match c with
    | 0 =>
      obtain ⟨a, f, h⟩ := u_known (C := RJ0) (T := TJ0) (N := 2) hts ij_0 (hts _ (tb_6 59 rfl))
      exact ⟨(a, f), fun q hq => by cases hq; exact h⟩
    | 1 =>
      obtain ⟨a, f, h⟩ := u_known (C := RX1) (T := TX1) (N := 3) hU iu_1 (hts _ (tb_1 114 rfl))
      exact ⟨(a, f), fun q hq => by cases hq; exact h⟩
    | 2 =>
      obtain ⟨a, f, h⟩ := u_known (C := RX2) (T := TX2) (N := 7) hU iu_2 (hts _ (tb_2 101 rfl))
      exact ⟨(a, f), fun q hq => by cases hq; exact h⟩
    | 3 =>
      obtain ⟨a, f, h⟩ := u_known (C := RX3) (T := TX3) (N := 17) hU iu_3 (hts _ (tb_1 130 rfl))
      exact ⟨(a, f), fun q hq => by cases hq; exact h⟩
    | 4 =>
      obtain ⟨a, f, h⟩ := u_known (C := RX4) (T := TX4) (N := 5) hU iu_4 (hts _ (tb_1 102 rfl))
      exact ⟨(a, f), fun q hq => by cases hq; exact h⟩
    | 5 =>
      obtain ⟨a, f, h⟩ := u_known (C := RX5) (T := TX5) (N := 11) hU iu_5 (hts _ (tb_1 212 rfl))
      exact ⟨(a, f), fun q hq => by cases hq; exact h⟩
    | 6 =>
      obtain ⟨a, f, h⟩ := u_known (C := RX6) (T := TX6) (N := 3) hU iu_6 (hts _ (tb_1 37 rfl))
      exact ⟨(a, f), fun q hq => by cases hq; exact h⟩
    | 7 =>
      obtain ⟨a, f, h⟩ := u_known (C := RX8) (T := TX8) (N := 12) hU iu_7 (hts _ (tb_1 56 rfl))
      exact ⟨(a, f), fun q hq => by cases hq; exact h⟩
    | 8 =>
      obtain ⟨a, f, h⟩ := u_known (C := RX9) (T := TX9) (N := 14) hU iu_8 (hts _ (tb_1 108 rfl))
      exact ⟨(a, f), fun q hq => by cases hq; exact h⟩
    | 9 =>
      obtain ⟨a, f, h⟩ := u_known (C := RX10) (T := TX10) (N := 1) hU iu_9 (hts _ (tb_1 136 rfl))
      exact ⟨(a, f), fun q hq => by cases hq; exact h⟩
    | 10 =>
      obtain ⟨a, f, h⟩ := u_known (C := RX12) (T := TX12) (N := 13) hU iu_10 (hts _ (tb_1 29 rfl))
      exact ⟨(a, f), fun q hq => by cases hq; exact h⟩
    | 11 =>
      obtain ⟨a, f, h⟩ := u_known (C := RX13) (T := TX13) (N := 76) hU iu_11 (hts _ (tb_7 44 rfl))
      exact ⟨(a, f), fun q hq => by cases hq; exact h⟩
    | (n + 12) => exact ⟨(0, fun _ => 0), fun q hq => absurd hq (by rw [List.getElem?_eq_none (show vwCl.length ≤ n + 12 from Nat.le_add_left 12 n)]; exact fun z => nomatch z)⟩
  obtain ⟨f, hf⟩ := Classical.axiomOfChoice h0
  exact ⟨fun c => (f c).1, fun c => (f c).2, hf⟩
/-- the arrays -/
theorem kn_a1 {ty : FieldType} (hty : ty = .int ∨ ty = .long) (h : (Cond.arrayClass ty).before args s = true) : ∃ cA : ClassId, ArrOfT s cA ty ∧ va_RA s cA ty := by
  obtain ⟨c, k, comp, h1, h2, h3⟩ := Cond.arrayClass_spec h
  refine ⟨c, ?_, ?_⟩
  · rcases hty with rfl | rfl
    · exact fun n z => ⟨(fun k h => (by cases h)), k, h2, comp, h3⟩
    · exact fun n z => ⟨(fun k h => (by cases h)), k, h2, comp, h3⟩
  · rcases hty with rfl | rfl
    · exact h1
    · exact h1
theorem kn_a2 {C : String} (h : (Cond.arrayOver (.object C)).before args s = true) : ∃ cA : ClassId, ArrOfT s cA (.object C) ∧ va_RA s cA (.object C) := by
  obtain ⟨comp, c, k, h1, -, h2, h3, h4⟩ := Cond.arrayOver_spec h
  exact ⟨c, fun n z => ⟨(fun k h => (by cases h)), k, h2, comp, h3⟩, k, comp, h2, h3, h1, h4⟩
theorem kn_ar (hts : ∀ w ∈ lw_tbl, w.before args s = true) : ∃ ar : Nat → ClassId, ∀ (k : Nat) (q : ClassId × FieldType), [(ar 0, FieldType.int), (ar 1, .long), (ar 2, .object "NibbleEngine$Row"), (ar 3, .object "NibbleEngine$Instruction"), (ar 4, .object "java/lang/String")][k]? = some q → ArrOfT s q.1 q.2 ∧ va_RA s q.1 q.2 := by
  obtain ⟨c0, h0⟩ := kn_a1 (Or.inl rfl) (hts _ (tb_1 54 rfl))
  obtain ⟨c1, h1⟩ := kn_a1 (Or.inr rfl) (hts _ (tb_1 100 rfl))
  obtain ⟨c2, h2⟩ := kn_a2 (hts _ (tb_2 108 rfl))
  obtain ⟨c3, h3⟩ := kn_a2 (hts _ (tb_1 43 rfl))
  obtain ⟨c4, h4⟩ := kn_a2 (hts _ (tb_7 50 rfl))
  refine ⟨fun k => match k with | 0 => c0 | 1 => c1 | 2 => c2 | 3 => c3 | _ => c4, fun k q hq => ?_⟩
  match k, hq with
  | 0, hq => cases hq; exact h0
  | 1, hq => cases hq; exact h1
  | 2, hq => cases hq; exact h2
  | 3, hq => cases hq; exact h3
  | 4, hq => cases hq; exact h4
/-- the Strings -/
theorem kn_st (hg : gvn.before args s = true) : ∃ st sv : Nat → Nat, ∀ i, i < 69 → (tmS i).eval args s none [] s = some (.ref (st i)) ∧ (tmV i).eval args s none [] s = some (.ref (sv i)) := by
  have h0 : ∀ i : Nat, ∃ q : Nat × Nat, i < 69 → (tmS i).eval args s none [] s = some (.ref q.1) ∧ (tmV i).eval args s none [] s = some (.ref q.2) := by
    intro i
    by_cases hi : i < 69
    · obtain ⟨a, c, cA, k9, q1, -⟩ := Cond.exactly_spec (ent hg _ _ (kE i hi))
      obtain ⟨t, ht, -⟩ := va_Tof (f := fun j => .int (Int32.ofNat ((strT.getD i []).getD j 0))) (A := fun _ => False) (kN i hi) (ent hg _ _ (kA i hi)) (va_eqt (ent hg _ _ (kL i hi))) (fun j hj => va_eqt (ent hg _ _ (kJ i hi j hj))) (fun _ _ h => h)
      exact ⟨(a, t), fun _ => ⟨q1, ht⟩⟩
    · exact ⟨(0, 0), fun h => absurd h hi⟩
  obtain ⟨f, hf⟩ := Classical.axiomOfChoice h0
  exact ⟨fun i => (f i).1, fun i => (f i).2, hf⟩
theorem kn_wd (hg : gvn.before args s = true) : ∃ wd : Nat → Nat, ∀ i, i < 29 → (tmW i).eval args s none [] s = some (.ref (wd i)) := by
  have h0 : ∀ i : Nat, ∃ q : Nat, i < 29 → (tmW i).eval args s none [] s = some (.ref q) := by
    intro i
    by_cases hi : i < 29
    · obtain ⟨a, c, cA, k9, q1, -⟩ := Cond.exactly_spec (ent hg _ _ (kwE i hi))
      exact ⟨a, fun _ => q1⟩
    · exact ⟨0, fun h => absurd h hi⟩
  exact Classical.axiomOfChoice h0
theorem kn_S {E : EE} {A : Nat → Prop} (hg : gvn.before args s = true) (hA : ∀ a : Nat, a < s.heap.size → ¬ A a) (es : ∀ i, i < 69 → (tmS i).eval args s none [] s = some (.ref (E.2.2.2.2.1 i)) ∧ (tmV i).eval args s none [] s = some (.ref (E.2.2.2.2.2 i))) (i : Nat) (hi : i < 69) : KS E A s i := by
  obtain ⟨e1, e2⟩ := es i hi
  obtain ⟨t, ht, hT⟩ := va_Tof (f := fun j => .int (Int32.ofNat ((strT.getD i []).getD j 0))) (A := A) (kN i hi) (ent hg _ _ (kA i hi)) (va_eqt (ent hg _ _ (kL i hi))) (fun j hj => va_eqt (ent hg _ _ (kJ i hi j hj))) hA
  have et : t = E.2.2.2.2.2 i := by
    have := ht.symm.trans e2
    injection this with this
    injection this
  rw [et] at hT
  exact ⟨va_Oof (ent hg _ _ (kE i hi)) e1 hA, vk_OFof e1 (va_eqt (ent hg _ _ (kC i hi))) hA, vk_OFof e1 e2 hA, hT⟩
theorem kn_W {E : EE} {A : Nat → Prop} (hts : ∀ w ∈ lw_tbl, w.before args s = true) (hg : gvn.before args s = true) (hA : ∀ a : Nat, a < s.heap.size → ¬ A a) (es : ∀ i, i < 69 → (tmS i).eval args s none [] s = some (.ref (E.2.2.2.2.1 i)) ∧ (tmV i).eval args s none [] s = some (.ref (E.2.2.2.2.2 i))) (ew : ∀ i, i < 29 → (tmW i).eval args s none [] s = some (.ref (E.2.2.2.1 i))) (i : Nat) (hi : i < 29) : KW E A s i := by
  have e1 := ew i hi
  exact ⟨va_Zref (hts _ (List.mem_of_getElem? (klW i hi))) (hts _ (tb_1 11 rfl)) e1 hA, va_Oof (ent hg _ _ (kwE i hi)) e1 hA, vk_OFof e1 (va_eqt (ent hg _ _ (kwO i hi))) hA, vk_OFof e1 (va_eqt (ent hg _ _ (kwP i hi))) hA, vk_OFof e1 (va_eqt (ent hg _ _ (kwS i hi))) hA, vk_OFof e1 (va_eqL (ent hg _ _ (kwT i hi)) (es _ (kwX i hi).1).1) hA, vk_OFof e1 (va_eqL (ent hg _ _ (kwF i hi)) (es _ (kwX i hi).2).1) hA⟩
theorem kn_cast (hts : ∀ w ∈ lw_tbl, w.before args s = true) (k : Nat) : (Cond.castable (exN k) (exN k)).before args s = true := by
  unfold exN
  by_cases q1 : k = 1
  · rw [if_pos q1]; exact (hts _ (tb_5 185 rfl))
  · rw [if_neg q1]
    by_cases q2 : k = 2
    · rw [if_pos q2]; exact (hts _ (tb_4 134 rfl))
    · rw [if_neg q2]; exact (hts _ (tb_6 57 rfl))
theorem kn_ex (hts : ∀ w ∈ lw_tbl, w.before args s = true) (k : Nat) (w : Cond) (hw : w ∈ exW k) : va_Nw w s := by
  simp only [exW, List.mem_cons, List.not_mem_nil, or_false] at hw
  rcases hw with rfl | rfl | rfl | rfl
  · exact va_Nw.of rfl (kn_cast hts k)
  · exact va_Nw.of rfl (hts _ (tb_4 136 rfl))
  · exact va_Nw.of rfl (hts _ (tb_4 138 rfl))
  · exact va_Nw.of rfl (hts _ (tb_4 140 rfl))
theorem kn_le (hts : ∀ w ∈ lw_tbl, w.before args s = true) (hg : gvn.before args s = true) : ∀ q ∈ exL, ∃ sa : Nat, vk_R q.1 q.2.1 q.2.2 sa s := by
  have h0 : ∀ i, i < 19 → ∃ sa : Nat, vk_R (exL.getD i ("", 0, "")).1 (exL.getD i ("", 0, "")).2.1 (exL.getD i ("", 0, "")).2.2 sa s := by
    intro i hi
    obtain ⟨a, c, cA, k9, q1, -⟩ := Cond.exactly_spec (ent hg _ _ (keE i hi))
    exact ⟨a, vk_R.of (hts _ (List.mem_of_getElem? (klE i hi))) q1⟩
  intro q hq
  obtain ⟨i, hi, rfl⟩ := List.getElem_of_mem hq
  have h := h0 i hi
  have e : exL.getD i ("", 0, "") = exL[i] := by rw [List.getD_eq_getElem?_getD, List.getElem?_eq_getElem hi]; rfl
  rw [e] at h
  exact h
/-- the law's ground -/
theorem kon_law (hts : ∀ w ∈ lw_tbl, w.before args s = true) (hg : gvn.before args s = true) : ∃ E : EE, va_K (EG E) vwCl (tysE E) s ∧ (∀ A : Nat → Prop, (∀ q : Nat, A q → s.heap.size ≤ q) → Kon E A s) ∧ KonL s := by
  obtain ⟨cC, iS, hcl⟩ := kn_cl hts
  obtain ⟨ar, har⟩ := kn_ar hts
  obtain ⟨st, sv, hst⟩ := kn_st hg
  obtain ⟨wd, hwd⟩ := kn_wd hg
  refine ⟨(cC, iS, ar, wd, st, sv), ⟨hcl, har⟩, fun A hA' => ?_, va_Nc.of (ent hg _ _ k1_n21), va_Nc.of (ent hg _ _ k1_n31), va_Nc.of (ent hg _ _ k1_n32)⟩
  have hA : ∀ a : Nat, a < s.heap.size → ¬ A a := fun a h q => absurd (hA' a q) (Nat.not_le.mpr h)
  refine ⟨fun i hi => kn_W hts hg hA hst hwd i hi, fun i hi => kn_S hg hA hst i hi, ?_, ?_, va_Zof (hts _ (tb_4 234 rfl)) (hts _ (tb_1 19 rfl)) (va_eqt (ent hg _ _ k1_cs)) hA, fun i h1 h2 => ?_, kn_le hts hg, vx_Zqof (hts _ (tb_4 159 rfl)) (hts _ (tb_1 14 rfl)) (ent hg _ _ k1_us) hA, vx_Zqof (hts _ (tb_4 161 rfl)) (hts _ (tb_1 14 rfl)) (ent hg _ _ k1_su) hA, va_Zqof (hts _ (tb_5 10 rfl)) (hts _ (tb_1 21 rfl)) (ent hg _ _ k1_si) hA, ⟨va_AO.of (hts _ (tb_2 108 rfl)), va_AO.of (hts _ (tb_1 43 rfl)), va_AO.of (hts _ (tb_7 50 rfl))⟩, kn_ex hts⟩
  · obtain ⟨t, ht, hT⟩ := va_Tof (tm := tmA) (N := 29) (f := fun j => .ref (wd j)) (A := A) (by decide) (ent hg _ _ k1_alA) (va_eqt (ent hg _ _ k1_alL)) (fun j hj => va_eqL (ent hg _ _ (kaE j hj)) (hwd j hj)) hA
    exact ⟨t, va_Zref (hts _ (tb_4 224 rfl)) (hts _ (tb_1 11 rfl)) ht hA, hT⟩
  · obtain ⟨t, ht, hT⟩ := va_Tof (tm := tmM) (N := 29) (f := fun j => .int (wSm.getD j 0)) (A := A) (by decide) (ent hg _ _ k1_smA) (va_eqt (ent hg _ _ k1_smL)) (fun j hj => va_eqt (ent hg _ _ (kmE j hj))) hA
    exact ⟨t, va_Zref (hts _ (tb_3 5 rfl)) (hts _ (tb_1 26 rfl)) ht hA, hT⟩
  · obtain ⟨j, rfl⟩ : ∃ j, i = j + 40 := ⟨i - 40, by omega⟩
    exact vk_R.of (hts _ (List.mem_of_getElem? (klS j (by omega)))) (hst _ h2).1
end KOX
