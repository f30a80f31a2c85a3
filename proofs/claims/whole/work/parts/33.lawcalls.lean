/-! calls from the law's body -/
section GLC
variable {p : Program} {l : Launch} {e : Env} {R : Room} {s : State} {m : MethodId} {args : Array Value} {below : List Frame} {meth : Method} {c : Code} {E : EE} {H : Heap} {locs : List Loc} {cells slots : Nat} {Q : State → Prop} {h g h' : Hp}
variable {y : MethodName} {b cc : ByteArray} {own : String} {maxL nL n index D DD mc ms pc : Nat} {ls : Array Slot} {ret : Option FieldType} {Qc : Array Value → State → Outcome → State → Prop} {As st rest : List Value} {av : List Value} {a ci : Nat}
theorem callbL (X : CxL p E DD R s m args c cc own nL) (O : CO own index y b maxL ret n) (hD : D + 1 ≤ DD) : CallB R s args own index y b maxL ret (wsM y b maxL ret) (rmm D mc ms) mc ms n := by
  obtain ⟨hx, hb, hu, hown, hK9, hml, hR, -⟩ := X
  obtain ⟨o1, o2, o3, o4, o5, o6⟩ := O
  refine ⟨rfl, rfl, Nat.le_trans hD hR.1, ?_, ?_, List.mem_cons_self, hu _ o2, hu _ o3, o4, ?_, hu _ o1⟩
  · show 8 + (maxL + 11) + 64 * D ≤ R.locals
    have := hR.2
    omega
  · intro w hw a' U hW
    rcases List.mem_cons.mp hw with rfl | hw
    · exact word_at hW (uw_good o2) (hu _ o2)
    · exact word_at hW (uw_good hw) (hu _ hw)
  · intro sig hsig
    rw [hsig] at o5
    exact (Option.some.inj o5).symm
/-- a method of the class (or, the other way round, of the reference) -/
theorem runVL (X : CxL p E DD R s m args c cc own nL) (S : StL E s h g H locs) (O : COV own index y b maxL ret n ci) (hD : D + 1 ≤ DD) (hM : Met l y (wsM y b maxL ret) (rmm D mc ms) (PcE E (AX s g) h (rv a :: As)) Qc mc ms (AX s g)) (hk : hK h a = ci) (hn : As.length = n) (hl : ls.size = nL) (hst : (rest.map fun v => v.category).sum ≤ 8) (hs : st = As.reverse ++ rv a :: rest) (hf : cells + mc ≤ R.cells ∧ slots + ms ≤ R.slots)
    (hdg : decode cc pc = .ok (.invokevirtual index, 3)) : va_Run p l e R s m args below meth c H locs cells slots mc ms (F0 m pc ls st) rest (Qc (rv a :: As).toArray) (AX s g) := by
  obtain ⟨o1, o2, o3, T, N, o4, o5, o6⟩ := O
  have cb := callbL (mc := mc) (ms := ms) X o1 hD
  have hpre := fun (U : State) (hU : U.heap = H) (hW : s.WarmedH U.vm) => (pre_okL X S (rv a :: As) U hU hW).1
  obtain ⟨hx, hb, hu, hown, hK9, hml, hR, hKo, hKL⟩ := X
  obtain ⟨⟨h0, L, hL, hP, hD9⟩, hS⟩ := S
  have hra := rv_ref (dom_ne h0 hk o5)
  rw [hra] at hM hs hpre ⊢
  obtain ⟨q0, hq⟩ := va_pl_get (X := []) (f := cellOf E h) ((hL a).2 (by rw [hk]; exact o5))
  rw [cellOf_obj hk o6] at hq
  exact va_runV (C := y.cls) (ws := wsM y b maxL ret) (rm := rmm D mc ms) ⟨hx, hb, hml, hown, hu⟩ hM ⟨cb, hu _ o2, hu _ o3⟩ ⟨blindE, va_recv hK9 hP o4 hq, hpre⟩ rfl hn hl hs (lv_room hst) hdg hf
/-- a method that makes cells -/
theorem runVLF (X : CxL p E DD R s m args c cc own nL) (S : StL E s h g H locs) (hsz : H.size = hX h) (O : COV own index y b maxL ret n ci) (hD : D + 1 ≤ DD) (hM : Met l y (wsM y b maxL ret) (rmm D mc ms) (PcF E (AX s g) h (rv a :: As)) Qc mc ms (AX s g)) (hk : hK h a = ci) (hn : As.length = n) (hl : ls.size = nL) (hst : (rest.map fun v => v.category).sum ≤ 8) (hs : st = As.reverse ++ rv a :: rest) (hf : cells + mc ≤ R.cells ∧ slots + ms ≤ R.slots)
    (hdg : decode cc pc = .ok (.invokevirtual index, 3)) : va_Run p l e R s m args below meth c H locs cells slots mc ms (F0 m pc ls st) rest (Qc (rv a :: As).toArray) (AX s g) := by
  obtain ⟨o1, o2, o3, T, N, o4, o5, o6⟩ := O
  have cb := callbL (mc := mc) (ms := ms) X o1 hD
  have hpre : ∀ (U : State), U.heap = H → s.WarmedH U.vm → PcF E (AX s g) h (rv a :: As) (rv a :: As).toArray U := fun U hU hW => ⟨(pre_okL X S (rv a :: As) U hU hW).1, by rw [hU]; exact hsz⟩
  obtain ⟨hx, hb, hu, hown, hK9, hml, hR, hKo, hKL⟩ := X
  obtain ⟨⟨h0, L, hL, hP, hD9⟩, hS⟩ := S
  have hra := rv_ref (dom_ne h0 hk o5)
  rw [hra] at hM hs hpre ⊢
  obtain ⟨q0, hq⟩ := va_pl_get (X := []) (f := cellOf E h) ((hL a).2 (by rw [hk]; exact o5))
  rw [cellOf_obj hk o6] at hq
  exact va_runV (C := y.cls) (ws := wsM y b maxL ret) (rm := rmm D mc ms) ⟨hx, hb, hml, hown, hu⟩ hM ⟨cb, hu _ o2, hu _ o3⟩ ⟨blindF, va_recv hK9 hP o4 hq, hpre⟩ rfl hn hl hs (lv_room hst) hdg hf
/-- what a call hands back: the new heap of the one, the other's as it was -/
theorem g_L {gf : JFrame} {Qa : State → Outcome → State → Prop} {k9 n9 : Nat} (S : StL E s h g H locs) (hr : va_Run p l e R s m args below meth c H locs cells slots k9 n9 gf rest Qa (AX s g))
    (hQ : ∀ (st₀ t : State) (v : Option Value), st₀.heap = H → Qa st₀ (.returned v) t → Rp E (AX s g) h' t.heap ∧ va_F (AX s g) st₀ t)
    (kk : ∀ (v : Option Value) (st₀ t : State) (H1 : Heap) (locs1 : List Loc), st₀.heap = H → t.heap = H1 → H.size ≤ H1.size → Qa st₀ (.returned v) t → StL E s h' g H1 locs1 → W p l e R s m args below meth c H1 locs1 (cells + k9) (slots + n9) Q { gf with pc := gf.pc + 3, stack := v.toList ++ rest }) : W p l e R s m args below meth c H locs cells slots Q gf := by
  intro T hT X
  obtain ⟨v, st₀, t, T', L, b0, X', hL, e1, e2, q0, st⟩ := hr T hT X
  obtain ⟨q1, z1, z2⟩ := hQ st₀ t v b0 q0
  rw [b0] at z1 z2
  obtain ⟨t2, c1, c2⟩ := kk v st₀ t t.heap (locs ++ L) b0 rfl z1 q0 (S.step q1 ⟨z1, z2⟩ hL) T' e1 X'
  exact ⟨t2, st t2 c1, c2⟩
theorem g_ciL {v : Int32} (S : StL E s h g H locs) (hr : va_Run p l e R s m args below meth c H locs cells slots mc ms (F0 m pc ls st) rest (Qi E (AX s g) h' v av.toArray) (AX s g))
    (kk : ∀ (H1 : Heap) (locs1 : List Loc), StL E s h' g H1 locs1 → W p l e R s m args below meth c H1 locs1 (cells + mc) (slots + ms) Q (F0 m (pc + 3) ls (.int v :: rest))) : W p l e R s m args below meth c H locs cells slots Q (F0 m pc ls st) := by
  refine g_L (h' := h') S hr (fun st₀ t v b0 q => ?_) (fun v st₀ t H1 locs1 b0 ht hz q S1 => ?_)
  · obtain ⟨⟨r, u, hv, -, hB⟩, hF⟩ := q
    exact ⟨hB, hF⟩
  · obtain ⟨⟨r, u, hv, hp, hB⟩, hF⟩ := q
    cases hv
    subst hp
    exact kk H1 locs1 S1
theorem g_clL {v : Int64} (S : StL E s h g H locs) (hr : va_Run p l e R s m args below meth c H locs cells slots mc ms (F0 m pc ls st) rest (Ql E (AX s g) h' v av.toArray) (AX s g))
    (kk : ∀ (H1 : Heap) (locs1 : List Loc), StL E s h' g H1 locs1 → W p l e R s m args below meth c H1 locs1 (cells + mc) (slots + ms) Q (F0 m (pc + 3) ls (.long v :: rest))) : W p l e R s m args below meth c H locs cells slots Q (F0 m pc ls st) := by
  refine g_L (h' := h') S hr (fun st₀ t v b0 q => ?_) (fun v st₀ t H1 locs1 b0 ht hz q S1 => ?_)
  · obtain ⟨⟨r, u, hv, -, hB⟩, hF⟩ := q
    exact ⟨hB, hF⟩
  · obtain ⟨⟨r, u, hv, hp, hB⟩, hF⟩ := q
    cases hv
    subst hp
    exact kk H1 locs1 S1
theorem g_cvL (S : StL E s h g H locs) (hr : va_Run p l e R s m args below meth c H locs cells slots mc ms (F0 m pc ls st) rest (Qv E (AX s g) h' av.toArray) (AX s g))
    (kk : ∀ (H1 : Heap) (locs1 : List Loc), StL E s h' g H1 locs1 → W p l e R s m args below meth c H1 locs1 (cells + mc) (slots + ms) Q (F0 m (pc + 3) ls rest)) : W p l e R s m args below meth c H locs cells slots Q (F0 m pc ls st) := by
  refine g_L (h' := h') S hr (fun st₀ t v b0 q => ?_) (fun v st₀ t H1 locs1 b0 ht hz q S1 => ?_)
  · obtain ⟨⟨u, hv, -, hB⟩, hF⟩ := q
    exact ⟨hB, hF⟩
  · obtain ⟨⟨u, hv, -, hB⟩, hF⟩ := q
    cases hv
    exact kk H1 locs1 S1
/-- a call that makes cells: what it took, counted -/
theorem g_ciLA {v : Int32} {k9 n9 : Nat} (S : StL E s h g H locs) (hr : va_Run p l e R s m args below meth c H locs cells slots k9 n9 (F0 m pc ls st) rest (QG (Qi E (AX s g) h' v) h h' av.toArray) (AX s g))
    (kk : ∀ (H1 : Heap) (locs1 : List Loc), StL E s h' g H1 locs1 → H1.size = hX h' → W p l e R s m args below meth c H1 locs1 (hX h' - s.heap.size) (slots + (hU h' - hU h)) Q (F0 m (pc + 3) ls (.int v :: rest))) : W p l e R s m args below meth c H locs cells slots Q (F0 m pc ls st) := by
  refine W_know fun w1 w2 w3 => ?_
  refine g_L (h' := h') S hr (fun st₀ t v b0 q => ?_) (fun v st₀ t H1 locs1 b0 ht hz q S1 => ?_)
  · obtain ⟨⟨⟨r, u, hv, -, hB⟩, hF⟩, -⟩ := q
    exact ⟨hB, hF⟩
  · obtain ⟨⟨⟨r, u, hv, hp, hB⟩, hF⟩, q3, q4, q5⟩ := q
    cases hv
    subst hp
    rw [ht] at q3 q4 q5
    rw [b0] at q4 q5
    have hadd : nS s.heap H1 = nS s.heap H + nS H H1 := nS_add S.2.2.1 hz q5
    have hge := S1.2.2.1
    exact W_narrow (by omega) (by omega) (kk H1 locs1 S1 q3)
/-- a helper of the law -/
theorem runHL {hh : List (Nat × Nat × Nat × Nat)} {Pc : Array Value → State → Prop} (X : CxL p E DD R s m args c cc own nL) (hbl : FrameBlind Pc) (hpre : ∀ U : State, U.heap = H → s.WarmedH U.vm → Pc As.toArray U)
    (o1 : Cond.methodLink own index y ∈ UW) (o2 : Cond.codeWith y b maxL ret hh ∈ UW) (o3 : Cond.initialized y.cls ∈ UW) (o4 : y.cls ≠ "java/lang/invoke/MethodHandle" ∧ y.cls ≠ "java/lang/invoke/VarHandle") (o5 : (parseMethodDescriptor y.desc).map (fun d => d.parameters.length) = some n) (o6 : maxL ≤ 45) (o7 : Cond.static y ∈ UW)
    (hD : D + 1 ≤ DD) (hM : vx_Met l y (wsH y b maxL ret hh) (rmm D mc ms) Pc Qc noX mc ms (AX s g)) (hn : As.length = n) (hl : ls.size = nL) (hst : (rest.map fun v => v.category).sum ≤ 8) (hs : st = As.reverse ++ rest) (hf : cells + mc ≤ R.cells ∧ slots + ms ≤ R.slots)
    (hdg : decode cc pc = .ok (.invokestatic index, 3)) : va_Run p l e R s m args below meth c H locs cells slots mc ms (F0 m pc ls st) rest (Qc As.toArray) (AX s g) := by
  obtain ⟨hx, hb, hu, hown, hK9, hml, hR, hKo, hKL⟩ := X
  have cw : vx_CSW R s args own index y b maxL ret hh (wsH y b maxL ret hh) (rmm D mc ms) mc ms n := by
    refine ⟨⟨rfl, rfl, Nat.le_trans hD hR.1, ?_, ?_, List.mem_cons_self⟩, hu _ o2, hu _ o3, o4, ?_, hu _ o1, hu _ o7⟩
    · show 8 + (maxL + 11) + 64 * D ≤ R.locals
      have := hR.2
      omega
    · intro w hw a' U hW
      rcases List.mem_cons.mp hw with rfl | hw
      · exact word_at hW (uw_good o2) (hu _ o2)
      · exact word_at hW (uw_good hw) (hu _ hw)
    · intro sig hsig
      rw [hsig] at o5
      exact (Option.some.inj o5).symm
  have key := vx_runSX (ws := wsH y b maxL ret hh) (rm := rmm D mc ms) (e := e) (below := below) (meth := meth) (locs := locs) ⟨hx, hb, hml, hown, hu⟩ hM cw ⟨hbl, hpre⟩ (g := F0 m pc ls st) rfl hn hl hs (lv_room hst) hdg hf
  intro T hT X'
  rcases key T hT X' with hkey | ⟨q, st₀, t, T', L, En, ce, b0, X2, hL, e1, e2, q0, -⟩
  · exact hkey
  · exact q0.elim
end GLC
