/-! the law's helpers: static methods with tables of their own -/
section GL
variable {p : Program} {l : Launch} {e : Env} {R : Room} {s : State} {m : MethodId} {args : Array Value} {below : List Frame} {meth : Method} {c : Code} {E : EE} {A : Nat → Prop} {H : Heap} {locs : List Loc} {cells slots : Nat} {Q : State → Prop} {h : Hp}
/-- which exception isn't which -/
def KonL (s : State) : Prop := va_Nc (exN 2) (exN 1) s ∧ va_Nc (exN 3) (exN 1) s ∧ va_Nc (exN 3) (exN 2) s
theorem KonL.moved {u U : State} (hvm : u.vm.Alike U.vm) (h : KonL u) : KonL U := ⟨h.1.moved hvm, h.2.1.moved hvm, h.2.2.moved hvm⟩
def noX : String → State → State → Prop := fun _ _ _ => False
def wsH (y : MethodName) (b : ByteArray) (maxL : Nat) (ret : Option FieldType) (hh : List (Nat × Nat × Nat × Nat)) : List Cond := Cond.codeWith y b maxL ret hh :: UW
def PcL (E : EE) (A : Nat → Prop) (h : Hp) (av : List Value) : Array Value → State → Prop := fun a U => PcE E A h av a U ∧ KonL U
theorem blindL {av : List Value} : FrameBlind (PcL E A h av) := fun a U g mk q => ⟨blindE a U g mk q.1, KonL.moved (Vm.Alike.refl U.vm) q.2⟩
theorem met_ofH {y : MethodName} {b : ByteArray} {maxL D mc ms : Nat} {ret : Option FieldType} {av : List Value} {hh : List (Nat × Nat × Nat × Nat)} {Qc : Array Value → State → Outcome → State → Prop} (hy : plainName y.cls = true) (hn : (lg_sl av).length ≤ maxL)
    (body : ∀ (p : Program) (e : Env) (s : State) (m : MethodId) (args : Array Value) (below : List Frame) (meth : Method) (c : Code) (ls : Array Slot), Cx p E A D (rmm D mc ms) s m args c b y.cls maxL → meth.sig.returnType = ret → meth.locks = false → c.exceptionTable.toList = tableOf hh → KonL s → St E A s h s.heap [] → lv_has ls maxL (lv_args 0 av) →
      W p l e (rmm D mc ms) s m args below meth c s.heap [] 0 0 (MQ below Qc args s mc ms A) (F0 m 0 ls [])) : vx_Met l y (wsH y b maxL ret hh) (rmm D mc ms) (PcL E A h av) Qc noX mc ms A := by
  refine vx_ofWH (cc := b) (maxL := maxL) (ret := ret) (hh := hh) hy rfl ?_
  intro p e s m args below meth c s₁ B hml hv
  obtain ⟨⟨rfl, hR, hK9, hKo, hA⟩, hL⟩ := hv
  have hts := atoms_spec (ws := wsH y b maxL ret hh) B.pre
  rw [lg_entry_eq]
  exact vx_ret (body p e s m _ below meth c _ ⟨B.exec, B.bytes, fun w hw => hts w (List.mem_cons_of_mem _ hw), findClass_of_methodNamed B.named, hK9, hml, ⟨Nat.le_refl _, Nat.le_refl _⟩, hKo, hA⟩ B.returns B.notSynchronized (vx_table (x := y) B (hts _ List.mem_cons_self)) hL ⟨hR, va_S.rf⟩ (lv_entry av hn))
theorem w_widen {g : JFrame} {k n : Nat} (h1 : cells ≤ k) (h2 : slots ≤ n) (kk : W p l e R s m args below meth c H locs k n Q g) : W p l e R s m args below meth c H locs cells slots Q g := fun T hT X => kk T hT (stand_widen X h1 h2)
theorem ex_cast {DD nL : Nat} {cc : ByteArray} {own : String} (X : Cx p E A DD R s m args c cc own nL) (k : Nat) : (Cond.castable (exN k) (exN k)).before args s = true := by
  obtain ⟨-, -, -, -, -, -, -, hKo, -⟩ := X
  obtain ⟨-, -, -, -, -, -, -, -, -, -, -, hcast⟩ := hKo
  exact exW_use k _ List.mem_cons_self (hcast k _ List.mem_cons_self)
def ex_row (q : Nat × Nat × Nat × Nat) : ExceptionTableEntry := ⟨q.1, q.2.1, q.2.2.1, q.2.2.2⟩
def ex_rows (L : List (Nat × Nat × Nat × Nat)) : List ExceptionTableEntry := L.map ex_row
theorem ex_pass1 {DD nL pc : Nat} {cc : ByteArray} {own F n1 : String} {q1 : Nat × Nat × Nat × Nat} (X : Cx p E A DD R s m args c cc own nL) (z1 : q1.2.2.2 ≠ 0) (h1 : Cond.classLink own q1.2.2.2 n1 ∈ UW) (c1 : va_Nc F n1 s) :
    ∀ z ∈ ex_rows [q1], covers z pc = false ∨ (z.catchType ≠ 0 ∧ ∃ nm : String, (Cond.classLink own z.catchType nm).before args s = true ∧ va_Nc F nm s) := by
  intro z hz
  rcases List.mem_cons.mp hz with rfl | hz
  · exact Or.inr ⟨z1, n1, X.2.2.1 _ h1, c1⟩
  · exact nomatch hz
theorem ex_pass2 {DD nL pc : Nat} {cc : ByteArray} {own F n1 n2 : String} {q1 q2 : Nat × Nat × Nat × Nat} (X : Cx p E A DD R s m args c cc own nL) (z1 : q1.2.2.2 ≠ 0) (z2 : q2.2.2.2 ≠ 0) (h1 : Cond.classLink own q1.2.2.2 n1 ∈ UW) (h2 : Cond.classLink own q2.2.2.2 n2 ∈ UW) (c1 : va_Nc F n1 s) (c2 : va_Nc F n2 s) :
    ∀ z ∈ ex_rows [q1, q2], covers z pc = false ∨ (z.catchType ≠ 0 ∧ ∃ nm : String, (Cond.classLink own z.catchType nm).before args s = true ∧ va_Nc F nm s) := by
  intro z hz
  rcases List.mem_cons.mp hz with rfl | hz
  · exact Or.inr ⟨z1, n1, X.2.2.1 _ h1, c1⟩
  · exact ex_pass1 X z2 h2 c2 z hz

theorem coL_15 : COV RL 15 yX12_count cX12_count 3 (some .int) 1 10 := ⟨⟨(uw_5 166 rfl rfl), (uw_5 169 rfl rfl), (uw_1 1 rfl rfl), by decide, by decide +kernel, by decide⟩, (uw_5 167 rfl rfl), (uw_5 168 rfl rfl), _, _, rfl, by decide, by decide⟩
theorem coL_20 : COV RL 20 yX12_at cX12_at 2 (some .int) 1 10 := ⟨⟨(uw_5 202 rfl rfl), (uw_5 205 rfl rfl), (uw_1 1 rfl rfl), by decide, by decide +kernel, by decide⟩, (uw_5 203 rfl rfl), (uw_5 204 rfl rfl), _, _, rfl, by decide, by decide⟩
theorem coL_23 : COV RL 23 yX12_register cX12_register 2 (some .int) 1 10 := ⟨⟨(uw_5 214 rfl rfl), (uw_5 217 rfl rfl), (uw_1 1 rfl rfl), by decide, by decide +kernel, by decide⟩, (uw_5 215 rfl rfl), (uw_5 216 rfl rfl), _, _, rfl, by decide, by decide⟩
theorem coL_26 : COV RL 26 yX12_guard cX12_guard 2 (some .int) 1 10 := ⟨⟨(uw_5 226 rfl rfl), (uw_5 229 rfl rfl), (uw_1 1 rfl rfl), by decide, by decide +kernel, by decide⟩, (uw_5 227 rfl rfl), (uw_5 228 rfl rfl), _, _, rfl, by decide, by decide⟩
theorem coL_29 : COV RL 29 yX12_done cX12_done 2 (some .int) 1 10 := ⟨⟨(uw_5 238 rfl rfl), (uw_6 1 rfl rfl), (uw_1 1 rfl rfl), by decide, by decide +kernel, by decide⟩, (uw_5 239 rfl rfl), (uw_6 0 rfl rfl), _, _, rfl, by decide, by decide⟩
theorem coL_32 : COV RL 32 yX12_trace cX12_trace 2 (some .int) 1 10 := ⟨⟨(uw_6 6 rfl rfl), (uw_6 9 rfl rfl), (uw_1 1 rfl rfl), by decide, by decide +kernel, by decide⟩, (uw_6 7 rfl rfl), (uw_6 8 rfl rfl), _, _, rfl, by decide, by decide⟩
theorem coL_35 : COV RL 35 yX12_why cX12_why 5 (some .int) 2 10 := ⟨⟨(uw_6 18 rfl rfl), (uw_6 21 rfl rfl), (uw_1 1 rfl rfl), by decide, by decide +kernel, by decide⟩, (uw_6 19 rfl rfl), (uw_6 20 rfl rfl), _, _, rfl, by decide, by decide⟩
theorem coL_39 : COV RL 39 yX12_flaws cX12_flaws 8 (some .int) 4 10 := ⟨⟨(uw_6 30 rfl rfl), (uw_6 33 rfl rfl), (uw_1 1 rfl rfl), by decide, by decide +kernel, by decide⟩, (uw_6 31 rfl rfl), (uw_6 32 rfl rfl), _, _, rfl, by decide, by decide⟩
theorem coL_43 : COV RL 43 yX12_number cX12_number 4 (some .long) 3 10 := ⟨⟨(uw_6 64 rfl rfl), (uw_6 67 rfl rfl), (uw_1 1 rfl rfl), by decide, by decide +kernel, by decide⟩, (uw_6 65 rfl rfl), (uw_6 66 rfl rfl), _, _, rfl, by decide, by decide⟩
theorem coL_49 : COV RL 49 yX12_need cX12_need 6 (some .int) 5 10 := ⟨⟨(uw_6 86 rfl rfl), (uw_6 89 rfl rfl), (uw_1 1 rfl rfl), by decide, by decide +kernel, by decide⟩, (uw_6 87 rfl rfl), (uw_6 88 rfl rfl), _, _, rfl, by decide, by decide⟩
theorem coL_53 : COV RL 53 yX12_rounds cX12_rounds 6 (some .int) 3 10 := ⟨⟨(uw_6 96 rfl rfl), (uw_6 99 rfl rfl), (uw_1 1 rfl rfl), by decide, by decide +kernel, by decide⟩, (uw_6 97 rfl rfl), (uw_6 98 rfl rfl), _, _, rfl, by decide, by decide⟩
theorem coL_57 : COV RL 57 yX12_unedited cX12_unedited 7 (some .long) 4 10 := ⟨⟨(uw_6 105 rfl rfl), (uw_6 108 rfl rfl), (uw_1 1 rfl rfl), by decide, by decide +kernel, by decide⟩, (uw_6 106 rfl rfl), (uw_6 107 rfl rfl), _, _, rfl, by decide, by decide⟩
theorem coL_61 : COV RL 61 yX12_then cX12_then 3 (some .int) 2 10 := ⟨⟨(uw_6 138 rfl rfl), (uw_6 141 rfl rfl), (uw_1 1 rfl rfl), by decide, by decide +kernel, by decide⟩, (uw_6 139 rfl rfl), (uw_6 140 rfl rfl), _, _, rfl, by decide, by decide⟩
theorem coL_64 : COV RL 64 yX12_holds cX12_holds 3 (some .int) 2 10 := ⟨⟨(uw_6 154 rfl rfl), (uw_6 157 rfl rfl), (uw_1 1 rfl rfl), by decide, by decide +kernel, by decide⟩, (uw_6 155 rfl rfl), (uw_6 156 rfl rfl), _, _, rfl, by decide, by decide⟩
theorem coL_67 : COV RL 67 yX12_where cX12_where 4 (some .int) 2 10 := ⟨⟨(uw_6 161 rfl rfl), (uw_6 164 rfl rfl), (uw_1 1 rfl rfl), by decide, by decide +kernel, by decide⟩, (uw_6 162 rfl rfl), (uw_6 163 rfl rfl), _, _, rfl, by decide, by decide⟩
theorem coL_70 : COV RL 70 yX12_faults cX12_faults 2 (some .int) 1 10 := ⟨⟨(uw_6 173 rfl rfl), (uw_6 176 rfl rfl), (uw_1 1 rfl rfl), by decide, by decide +kernel, by decide⟩, (uw_6 174 rfl rfl), (uw_6 175 rfl rfl), _, _, rfl, by decide, by decide⟩
theorem coL_73 : COV RL 73 yX12_changes cX12_changes 2 (some .int) 1 10 := ⟨⟨(uw_6 184 rfl rfl), (uw_6 187 rfl rfl), (uw_1 1 rfl rfl), by decide, by decide +kernel, by decide⟩, (uw_6 185 rfl rfl), (uw_6 186 rfl rfl), _, _, rfl, by decide, by decide⟩
theorem coL_76 : COV RL 76 yX12_spoilt cX12_spoilt 5 (some .int) 4 10 := ⟨⟨(uw_6 196 rfl rfl), (uw_6 199 rfl rfl), (uw_1 1 rfl rfl), by decide, by decide +kernel, by decide⟩, (uw_6 197 rfl rfl), (uw_6 198 rfl rfl), _, _, rfl, by decide, by decide⟩
theorem coL_80 : COV RL 80 yX12_blamed cX12_blamed 4 (some .int) 3 10 := ⟨⟨(uw_6 234 rfl rfl), (uw_6 237 rfl rfl), (uw_1 1 rfl rfl), by decide, by decide +kernel, by decide⟩, (uw_6 235 rfl rfl), (uw_6 236 rfl rfl), _, _, rfl, by decide, by decide⟩
theorem coL_83 : COV RL 83 yX12_years cX12_years 4 (some .int) 3 10 := ⟨⟨(uw_7 19 rfl rfl), (uw_7 22 rfl rfl), (uw_1 1 rfl rfl), by decide, by decide +kernel, by decide⟩, (uw_7 20 rfl rfl), (uw_7 21 rfl rfl), _, _, rfl, by decide, by decide⟩
def fL_count (a0 : Nat) (a1 : Int32) (a2 : Nat) (h : Hp) : Option (Int32 × Hp) := match fX12_count a0 a1 h with
  | none => none
  | some (.inl k) => if k = 1 then some (1, h) else none
  | some (.inr r) => ob (qL a2 0 (Int32.toInt64 r) h) fun h => some (0, h)
theorem cL_count_h (l : Launch) (hlt : l.stackTraces = false) {E : EE} {A : Nat → Prop} {a0 : Nat} {a1 : Int32} {a2 : Nat} {h h9 : Hp} {r9 : Int32} (hf : fL_count a0 a1 a2 h = some (r9, h9)) : vx_Met l yL_count (wsH yL_count cL_count 4 (some .int) [(0, 9, 12, 18)]) (rmm 12 1 6) (PcL E A h [rv a0, .int a1, rv a2]) (Qi E A h9 r9) noX 1 6 A := by
  refine met_ofH (by decide +kernel) (by simp [lg_sl, cat_rv, cat_wv, cat_sv, cat_i, cat_l, cat_a]) (fun p e s m args below meth c ls X hr hlk htab hKL S hl => ?_)
  have hl : lv_has ls 4 [(0, rv a0), (1, .int a1), (2, rv a2)] := by simpa [lv_args, cat_rv, cat_wv, cat_sv, cat_i, cat_l, cat_a] using hl
  generalize hH : s.heap = H at S ⊢
  generalize hlo : ([] : List Loc) = locs at S ⊢
  clear hH hlo
  unfold fL_count at hf
  refine g_aload_n X (or_rv _) dL_count_0 rfl (lv_at hl 2 rfl) ?_
  refine lv_iconst (v := 0) X.1 X.2.1 dL_count_1 (by decide) ?_
  refine g_aload_n X (or_rv _) dL_count_2 rfl (lv_at hl 0 rfl) ?_
  refine lv_iload_n X.1 X.2.1 dL_count_3 rfl (lv_at hl 1 rfl) ?_
  cases hc : fX12_count a0 a1 h with
  | none => rw [hc] at hf; exact nomatch hf
  | some z =>
    rw [hc] at hf
    rcases z with k | r
    · dsimp only at hf
      by_cases e1 : k = 1
      · subst e1
        rw [if_pos rfl] at hf
        cases hf
        refine g_thrown S (runVX (As := [.int a1]) (rest := [.int 0, rv a2]) X S coL_15 (by decide) (cX12_count_x l hlt hc) (tkX12_count hc) rfl hl.1 (by simp [cat_rv, cat_wv, cat_sv, cat_i, cat_l, cat_a]) rfl ⟨Nat.le_refl _, Nat.le_refl _⟩ dL_count_4) (fun ce q9 H1 locs1 S1 hz hce hcv hcl => ?_)
        refine vx_catch (name := exN 1) X.2.2.2.1 (ex_rows []) (ex_row (0, 9, 12, 18)) (ex_rows []) (htab.trans rfl) (fun z hz => nomatch hz) (by decide) (by decide) (X.2.2.1 _ (uw_5 165 rfl rfl)) (ex_cast X 1) hce hcv hcl ?_
        refine g_astore_n (i := 3) (lv' := [(3, .ref q9), (0, rv a0), (1, .int a1), (2, rv a2)]) X (Or.inr ⟨_, rfl⟩) dL_count_12 rfl hl (by decide) (by simp [cat_rv, cat_wv, cat_sv, cat_i, cat_l, cat_a]) (fun ls hl => ?_)
        refine lv_iconst (v := 1) X.1 X.2.1 dL_count_13 (by decide) ?_
        exact g_ri X S1 hr hlk dL_count_14
      · rw [if_neg e1] at hf
        exact nomatch hf
    · dsimp only at hf
      refine g_ci S (runV (As := [.int a1]) (rest := [.int 0, rv a2]) X S coL_15 (by decide) (cX12_count_m l hc) (tkX12_count hc) rfl hl.1 (by simp [cat_rv, cat_wv, cat_sv, cat_i, cat_l, cat_a]) rfl ⟨Nat.zero_le _, Nat.zero_le _⟩ dL_count_4) (fun H locs S => ?_)
      refine lv_i2l (v := Int32.toInt64 r) X.1 X.2.1 dL_count_7 rfl ?_
      refine g_qL X S dL_count_8 hf (fun h H locs hm hf S => ?_)
      refine lv_goto (tgt := 15) X.1 X.2.1 dL_count_9 (by decide) ?_
      cases hf
      refine lv_iconst (v := 0) X.1 X.2.1 dL_count_15 (by decide) ?_
      exact w_widen (Nat.zero_le _) (Nat.zero_le _) (g_ri X S hr hlk dL_count_16)
def fL_at (a0 : Nat) (a1 : Int32) (a2 : Nat) (h : Hp) : Option (Int32 × Hp) := match fX12_at a0 a1 h with
  | none => none
  | some (.inl k) => if k = 1 then some (1, h) else none
  | some (.inr r) => ob (qL a2 0 (Int32.toInt64 r) h) fun h => some (0, h)
theorem cL_at_h (l : Launch) (hlt : l.stackTraces = false) {E : EE} {A : Nat → Prop} {a0 : Nat} {a1 : Int32} {a2 : Nat} {h h9 : Hp} {r9 : Int32} (hf : fL_at a0 a1 a2 h = some (r9, h9)) : vx_Met l yL_at (wsH yL_at cL_at 4 (some .int) [(0, 9, 12, 18)]) (rmm 11 1 6) (PcL E A h [rv a0, .int a1, rv a2]) (Qi E A h9 r9) noX 1 6 A := by
  refine met_ofH (by decide +kernel) (by simp [lg_sl, cat_rv, cat_wv, cat_sv, cat_i, cat_l, cat_a]) (fun p e s m args below meth c ls X hr hlk htab hKL S hl => ?_)
  have hl : lv_has ls 4 [(0, rv a0), (1, .int a1), (2, rv a2)] := by simpa [lv_args, cat_rv, cat_wv, cat_sv, cat_i, cat_l, cat_a] using hl
  generalize hH : s.heap = H at S ⊢
  generalize hlo : ([] : List Loc) = locs at S ⊢
  clear hH hlo
  unfold fL_at at hf
  refine g_aload_n X (or_rv _) dL_at_0 rfl (lv_at hl 2 rfl) ?_
  refine lv_iconst (v := 0) X.1 X.2.1 dL_at_1 (by decide) ?_
  refine g_aload_n X (or_rv _) dL_at_2 rfl (lv_at hl 0 rfl) ?_
  refine lv_iload_n X.1 X.2.1 dL_at_3 rfl (lv_at hl 1 rfl) ?_
  cases hc : fX12_at a0 a1 h with
  | none => rw [hc] at hf; exact nomatch hf
  | some z =>
    rw [hc] at hf
    rcases z with k | r
    · dsimp only at hf
      by_cases e1 : k = 1
      · subst e1
        rw [if_pos rfl] at hf
        cases hf
        refine g_thrown S (runVX (As := [.int a1]) (rest := [.int 0, rv a2]) X S coL_20 (by decide) (cX12_at_x l hlt hc) (tkX12_at hc) rfl hl.1 (by simp [cat_rv, cat_wv, cat_sv, cat_i, cat_l, cat_a]) rfl ⟨Nat.le_refl _, Nat.le_refl _⟩ dL_at_4) (fun ce q9 H1 locs1 S1 hz hce hcv hcl => ?_)
        refine vx_catch (name := exN 1) X.2.2.2.1 (ex_rows []) (ex_row (0, 9, 12, 18)) (ex_rows []) (htab.trans rfl) (fun z hz => nomatch hz) (by decide) (by decide) (X.2.2.1 _ (uw_5 165 rfl rfl)) (ex_cast X 1) hce hcv hcl ?_
        refine g_astore_n (i := 3) (lv' := [(3, .ref q9), (0, rv a0), (1, .int a1), (2, rv a2)]) X (Or.inr ⟨_, rfl⟩) dL_at_12 rfl hl (by decide) (by simp [cat_rv, cat_wv, cat_sv, cat_i, cat_l, cat_a]) (fun ls hl => ?_)
        refine lv_iconst (v := 1) X.1 X.2.1 dL_at_13 (by decide) ?_
        exact g_ri X S1 hr hlk dL_at_14
      · rw [if_neg e1] at hf
        exact nomatch hf
    · dsimp only at hf
      refine g_ci S (runV (As := [.int a1]) (rest := [.int 0, rv a2]) X S coL_20 (by decide) (cX12_at_m l hc) (tkX12_at hc) rfl hl.1 (by simp [cat_rv, cat_wv, cat_sv, cat_i, cat_l, cat_a]) rfl ⟨Nat.zero_le _, Nat.zero_le _⟩ dL_at_4) (fun H locs S => ?_)
      refine lv_i2l (v := Int32.toInt64 r) X.1 X.2.1 dL_at_7 rfl ?_
      refine g_qL X S dL_at_8 hf (fun h H locs hm hf S => ?_)
      refine lv_goto (tgt := 15) X.1 X.2.1 dL_at_9 (by decide) ?_
      cases hf
      refine lv_iconst (v := 0) X.1 X.2.1 dL_at_15 (by decide) ?_
      exact w_widen (Nat.zero_le _) (Nat.zero_le _) (g_ri X S hr hlk dL_at_16)
def fL_register (a0 : Nat) (a1 : Int32) (a2 : Nat) (h : Hp) : Option (Int32 × Hp) := match fX12_register a0 a1 h with
  | none => none
  | some (.inl k) => if k = 1 then some (1, h) else none
  | some (.inr r) => ob (qL a2 0 (Int32.toInt64 r) h) fun h => some (0, h)
theorem cL_register_h (l : Launch) (hlt : l.stackTraces = false) {E : EE} {A : Nat → Prop} {a0 : Nat} {a1 : Int32} {a2 : Nat} {h h9 : Hp} {r9 : Int32} (hf : fL_register a0 a1 a2 h = some (r9, h9)) : vx_Met l yL_register (wsH yL_register cL_register 4 (some .int) [(0, 9, 12, 18)]) (rmm 10 1 6) (PcL E A h [rv a0, .int a1, rv a2]) (Qi E A h9 r9) noX 1 6 A := by
  refine met_ofH (by decide +kernel) (by simp [lg_sl, cat_rv, cat_wv, cat_sv, cat_i, cat_l, cat_a]) (fun p e s m args below meth c ls X hr hlk htab hKL S hl => ?_)
  have hl : lv_has ls 4 [(0, rv a0), (1, .int a1), (2, rv a2)] := by simpa [lv_args, cat_rv, cat_wv, cat_sv, cat_i, cat_l, cat_a] using hl
  generalize hH : s.heap = H at S ⊢
  generalize hlo : ([] : List Loc) = locs at S ⊢
  clear hH hlo
  unfold fL_register at hf
  refine g_aload_n X (or_rv _) dL_register_0 rfl (lv_at hl 2 rfl) ?_
  refine lv_iconst (v := 0) X.1 X.2.1 dL_register_1 (by decide) ?_
  refine g_aload_n X (or_rv _) dL_register_2 rfl (lv_at hl 0 rfl) ?_
  refine lv_iload_n X.1 X.2.1 dL_register_3 rfl (lv_at hl 1 rfl) ?_
  cases hc : fX12_register a0 a1 h with
  | none => rw [hc] at hf; exact nomatch hf
  | some z =>
    rw [hc] at hf
    rcases z with k | r
    · dsimp only at hf
      by_cases e1 : k = 1
      · subst e1
        rw [if_pos rfl] at hf
        cases hf
        refine g_thrown S (runVX (As := [.int a1]) (rest := [.int 0, rv a2]) X S coL_23 (by decide) (cX12_register_x l hlt hc) (tkX12_register hc) rfl hl.1 (by simp [cat_rv, cat_wv, cat_sv, cat_i, cat_l, cat_a]) rfl ⟨Nat.le_refl _, Nat.le_refl _⟩ dL_register_4) (fun ce q9 H1 locs1 S1 hz hce hcv hcl => ?_)
        refine vx_catch (name := exN 1) X.2.2.2.1 (ex_rows []) (ex_row (0, 9, 12, 18)) (ex_rows []) (htab.trans rfl) (fun z hz => nomatch hz) (by decide) (by decide) (X.2.2.1 _ (uw_5 165 rfl rfl)) (ex_cast X 1) hce hcv hcl ?_
        refine g_astore_n (i := 3) (lv' := [(3, .ref q9), (0, rv a0), (1, .int a1), (2, rv a2)]) X (Or.inr ⟨_, rfl⟩) dL_register_12 rfl hl (by decide) (by simp [cat_rv, cat_wv, cat_sv, cat_i, cat_l, cat_a]) (fun ls hl => ?_)
        refine lv_iconst (v := 1) X.1 X.2.1 dL_register_13 (by decide) ?_
        exact g_ri X S1 hr hlk dL_register_14
      · rw [if_neg e1] at hf
        exact nomatch hf
    · dsimp only at hf
      refine g_ci S (runV (As := [.int a1]) (rest := [.int 0, rv a2]) X S coL_23 (by decide) (cX12_register_m l hc) (tkX12_register hc) rfl hl.1 (by simp [cat_rv, cat_wv, cat_sv, cat_i, cat_l, cat_a]) rfl ⟨Nat.zero_le _, Nat.zero_le _⟩ dL_register_4) (fun H locs S => ?_)
      refine lv_i2l (v := Int32.toInt64 r) X.1 X.2.1 dL_register_7 rfl ?_
      refine g_qL X S dL_register_8 hf (fun h H locs hm hf S => ?_)
      refine lv_goto (tgt := 15) X.1 X.2.1 dL_register_9 (by decide) ?_
      cases hf
      refine lv_iconst (v := 0) X.1 X.2.1 dL_register_15 (by decide) ?_
      exact w_widen (Nat.zero_le _) (Nat.zero_le _) (g_ri X S hr hlk dL_register_16)
def fL_guard (a0 : Nat) (a1 : Int32) (a2 : Nat) (h : Hp) : Option (Int32 × Hp) := match fX12_guard a0 a1 h with
  | none => none
  | some (.inl k) => if k = 1 then some (1, h) else none
  | some (.inr r) => ob (qL a2 0 (Int32.toInt64 r) h) fun h => some (0, h)
theorem cL_guard_h (l : Launch) (hlt : l.stackTraces = false) {E : EE} {A : Nat → Prop} {a0 : Nat} {a1 : Int32} {a2 : Nat} {h h9 : Hp} {r9 : Int32} (hf : fL_guard a0 a1 a2 h = some (r9, h9)) : vx_Met l yL_guard (wsH yL_guard cL_guard 4 (some .int) [(0, 9, 12, 18)]) (rmm 10 1 6) (PcL E A h [rv a0, .int a1, rv a2]) (Qi E A h9 r9) noX 1 6 A := by
  refine met_ofH (by decide +kernel) (by simp [lg_sl, cat_rv, cat_wv, cat_sv, cat_i, cat_l, cat_a]) (fun p e s m args below meth c ls X hr hlk htab hKL S hl => ?_)
  have hl : lv_has ls 4 [(0, rv a0), (1, .int a1), (2, rv a2)] := by simpa [lv_args, cat_rv, cat_wv, cat_sv, cat_i, cat_l, cat_a] using hl
  generalize hH : s.heap = H at S ⊢
  generalize hlo : ([] : List Loc) = locs at S ⊢
  clear hH hlo
  unfold fL_guard at hf
  refine g_aload_n X (or_rv _) dL_guard_0 rfl (lv_at hl 2 rfl) ?_
  refine lv_iconst (v := 0) X.1 X.2.1 dL_guard_1 (by decide) ?_
  refine g_aload_n X (or_rv _) dL_guard_2 rfl (lv_at hl 0 rfl) ?_
  refine lv_iload_n X.1 X.2.1 dL_guard_3 rfl (lv_at hl 1 rfl) ?_
  cases hc : fX12_guard a0 a1 h with
  | none => rw [hc] at hf; exact nomatch hf
  | some z =>
    rw [hc] at hf
    rcases z with k | r
    · dsimp only at hf
      by_cases e1 : k = 1
      · subst e1
        rw [if_pos rfl] at hf
        cases hf
        refine g_thrown S (runVX (As := [.int a1]) (rest := [.int 0, rv a2]) X S coL_26 (by decide) (cX12_guard_x l hlt hc) (tkX12_guard hc) rfl hl.1 (by simp [cat_rv, cat_wv, cat_sv, cat_i, cat_l, cat_a]) rfl ⟨Nat.le_refl _, Nat.le_refl _⟩ dL_guard_4) (fun ce q9 H1 locs1 S1 hz hce hcv hcl => ?_)
        refine vx_catch (name := exN 1) X.2.2.2.1 (ex_rows []) (ex_row (0, 9, 12, 18)) (ex_rows []) (htab.trans rfl) (fun z hz => nomatch hz) (by decide) (by decide) (X.2.2.1 _ (uw_5 165 rfl rfl)) (ex_cast X 1) hce hcv hcl ?_
        refine g_astore_n (i := 3) (lv' := [(3, .ref q9), (0, rv a0), (1, .int a1), (2, rv a2)]) X (Or.inr ⟨_, rfl⟩) dL_guard_12 rfl hl (by decide) (by simp [cat_rv, cat_wv, cat_sv, cat_i, cat_l, cat_a]) (fun ls hl => ?_)
        refine lv_iconst (v := 1) X.1 X.2.1 dL_guard_13 (by decide) ?_
        exact g_ri X S1 hr hlk dL_guard_14
      · rw [if_neg e1] at hf
        exact nomatch hf
    · dsimp only at hf
      refine g_ci S (runV (As := [.int a1]) (rest := [.int 0, rv a2]) X S coL_26 (by decide) (cX12_guard_m l hc) (tkX12_guard hc) rfl hl.1 (by simp [cat_rv, cat_wv, cat_sv, cat_i, cat_l, cat_a]) rfl ⟨Nat.zero_le _, Nat.zero_le _⟩ dL_guard_4) (fun H locs S => ?_)
      refine lv_i2l (v := Int32.toInt64 r) X.1 X.2.1 dL_guard_7 rfl ?_
      refine g_qL X S dL_guard_8 hf (fun h H locs hm hf S => ?_)
      refine lv_goto (tgt := 15) X.1 X.2.1 dL_guard_9 (by decide) ?_
      cases hf
      refine lv_iconst (v := 0) X.1 X.2.1 dL_guard_15 (by decide) ?_
      exact w_widen (Nat.zero_le _) (Nat.zero_le _) (g_ri X S hr hlk dL_guard_16)
def fL_done (a0 : Nat) (a1 : Int32) (a2 : Nat) (h : Hp) : Option (Int32 × Hp) := match fX12_done a0 a1 h with
  | none => none
  | some (.inl k) => if k = 1 then some (1, h) else none
  | some (.inr r) => ob (qL a2 0 (Int32.toInt64 r) h) fun h => some (0, h)
theorem cL_done_h (l : Launch) (hlt : l.stackTraces = false) {E : EE} {A : Nat → Prop} {a0 : Nat} {a1 : Int32} {a2 : Nat} {h h9 : Hp} {r9 : Int32} (hf : fL_done a0 a1 a2 h = some (r9, h9)) : vx_Met l yL_done (wsH yL_done cL_done 4 (some .int) [(0, 9, 12, 18)]) (rmm 12 1 6) (PcL E A h [rv a0, .int a1, rv a2]) (Qi E A h9 r9) noX 1 6 A := by
  refine met_ofH (by decide +kernel) (by simp [lg_sl, cat_rv, cat_wv, cat_sv, cat_i, cat_l, cat_a]) (fun p e s m args below meth c ls X hr hlk htab hKL S hl => ?_)
  have hl : lv_has ls 4 [(0, rv a0), (1, .int a1), (2, rv a2)] := by simpa [lv_args, cat_rv, cat_wv, cat_sv, cat_i, cat_l, cat_a] using hl
  generalize hH : s.heap = H at S ⊢
  generalize hlo : ([] : List Loc) = locs at S ⊢
  clear hH hlo
  unfold fL_done at hf
  refine g_aload_n X (or_rv _) dL_done_0 rfl (lv_at hl 2 rfl) ?_
  refine lv_iconst (v := 0) X.1 X.2.1 dL_done_1 (by decide) ?_
  refine g_aload_n X (or_rv _) dL_done_2 rfl (lv_at hl 0 rfl) ?_
  refine lv_iload_n X.1 X.2.1 dL_done_3 rfl (lv_at hl 1 rfl) ?_
  cases hc : fX12_done a0 a1 h with
  | none => rw [hc] at hf; exact nomatch hf
  | some z =>
    rw [hc] at hf
    rcases z with k | r
    · dsimp only at hf
      by_cases e1 : k = 1
      · subst e1
        rw [if_pos rfl] at hf
        cases hf
        refine g_thrown S (runVX (As := [.int a1]) (rest := [.int 0, rv a2]) X S coL_29 (by decide) (cX12_done_x l hlt hc) (tkX12_done hc) rfl hl.1 (by simp [cat_rv, cat_wv, cat_sv, cat_i, cat_l, cat_a]) rfl ⟨Nat.le_refl _, Nat.le_refl _⟩ dL_done_4) (fun ce q9 H1 locs1 S1 hz hce hcv hcl => ?_)
        refine vx_catch (name := exN 1) X.2.2.2.1 (ex_rows []) (ex_row (0, 9, 12, 18)) (ex_rows []) (htab.trans rfl) (fun z hz => nomatch hz) (by decide) (by decide) (X.2.2.1 _ (uw_5 165 rfl rfl)) (ex_cast X 1) hce hcv hcl ?_
        refine g_astore_n (i := 3) (lv' := [(3, .ref q9), (0, rv a0), (1, .int a1), (2, rv a2)]) X (Or.inr ⟨_, rfl⟩) dL_done_12 rfl hl (by decide) (by simp [cat_rv, cat_wv, cat_sv, cat_i, cat_l, cat_a]) (fun ls hl => ?_)
        refine lv_iconst (v := 1) X.1 X.2.1 dL_done_13 (by decide) ?_
        exact g_ri X S1 hr hlk dL_done_14
      · rw [if_neg e1] at hf
        exact nomatch hf
    · dsimp only at hf
      refine g_ci S (runV (As := [.int a1]) (rest := [.int 0, rv a2]) X S coL_29 (by decide) (cX12_done_m l hc) (tkX12_done hc) rfl hl.1 (by simp [cat_rv, cat_wv, cat_sv, cat_i, cat_l, cat_a]) rfl ⟨Nat.zero_le _, Nat.zero_le _⟩ dL_done_4) (fun H locs S => ?_)
      refine lv_i2l (v := Int32.toInt64 r) X.1 X.2.1 dL_done_7 rfl ?_
      refine g_qL X S dL_done_8 hf (fun h H locs hm hf S => ?_)
      refine lv_goto (tgt := 15) X.1 X.2.1 dL_done_9 (by decide) ?_
      cases hf
      refine lv_iconst (v := 0) X.1 X.2.1 dL_done_15 (by decide) ?_
      exact w_widen (Nat.zero_le _) (Nat.zero_le _) (g_ri X S hr hlk dL_done_16)
def fL_trace (a0 : Nat) (a1 : Int32) (a2 : Nat) (h : Hp) : Option (Int32 × Hp) := match fX12_trace a0 a1 h with
  | none => none
  | some (.inl k) => if k = 1 then some (1, h) else none
  | some (.inr r) => ob (qL a2 0 (Int32.toInt64 r) h) fun h => some (0, h)
theorem cL_trace_h (l : Launch) (hlt : l.stackTraces = false) {E : EE} {A : Nat → Prop} {a0 : Nat} {a1 : Int32} {a2 : Nat} {h h9 : Hp} {r9 : Int32} (hf : fL_trace a0 a1 a2 h = some (r9, h9)) : vx_Met l yL_trace (wsH yL_trace cL_trace 4 (some .int) [(0, 9, 12, 18)]) (rmm 11 1 6) (PcL E A h [rv a0, .int a1, rv a2]) (Qi E A h9 r9) noX 1 6 A := by
  refine met_ofH (by decide +kernel) (by simp [lg_sl, cat_rv, cat_wv, cat_sv, cat_i, cat_l, cat_a]) (fun p e s m args below meth c ls X hr hlk htab hKL S hl => ?_)
  have hl : lv_has ls 4 [(0, rv a0), (1, .int a1), (2, rv a2)] := by simpa [lv_args, cat_rv, cat_wv, cat_sv, cat_i, cat_l, cat_a] using hl
  generalize hH : s.heap = H at S ⊢
  generalize hlo : ([] : List Loc) = locs at S ⊢
  clear hH hlo
  unfold fL_trace at hf
  refine g_aload_n X (or_rv _) dL_trace_0 rfl (lv_at hl 2 rfl) ?_
  refine lv_iconst (v := 0) X.1 X.2.1 dL_trace_1 (by decide) ?_
  refine g_aload_n X (or_rv _) dL_trace_2 rfl (lv_at hl 0 rfl) ?_
  refine lv_iload_n X.1 X.2.1 dL_trace_3 rfl (lv_at hl 1 rfl) ?_
  cases hc : fX12_trace a0 a1 h with
  | none => rw [hc] at hf; exact nomatch hf
  | some z =>
    rw [hc] at hf
    rcases z with k | r
    · dsimp only at hf
      by_cases e1 : k = 1
      · subst e1
        rw [if_pos rfl] at hf
        cases hf
        refine g_thrown S (runVX (As := [.int a1]) (rest := [.int 0, rv a2]) X S coL_32 (by decide) (cX12_trace_x l hlt hc) (tkX12_trace hc) rfl hl.1 (by simp [cat_rv, cat_wv, cat_sv, cat_i, cat_l, cat_a]) rfl ⟨Nat.le_refl _, Nat.le_refl _⟩ dL_trace_4) (fun ce q9 H1 locs1 S1 hz hce hcv hcl => ?_)
        refine vx_catch (name := exN 1) X.2.2.2.1 (ex_rows []) (ex_row (0, 9, 12, 18)) (ex_rows []) (htab.trans rfl) (fun z hz => nomatch hz) (by decide) (by decide) (X.2.2.1 _ (uw_5 165 rfl rfl)) (ex_cast X 1) hce hcv hcl ?_
        refine g_astore_n (i := 3) (lv' := [(3, .ref q9), (0, rv a0), (1, .int a1), (2, rv a2)]) X (Or.inr ⟨_, rfl⟩) dL_trace_12 rfl hl (by decide) (by simp [cat_rv, cat_wv, cat_sv, cat_i, cat_l, cat_a]) (fun ls hl => ?_)
        refine lv_iconst (v := 1) X.1 X.2.1 dL_trace_13 (by decide) ?_
        exact g_ri X S1 hr hlk dL_trace_14
      · rw [if_neg e1] at hf
        exact nomatch hf
    · dsimp only at hf
      refine g_ci S (runV (As := [.int a1]) (rest := [.int 0, rv a2]) X S coL_32 (by decide) (cX12_trace_m l hc) (tkX12_trace hc) rfl hl.1 (by simp [cat_rv, cat_wv, cat_sv, cat_i, cat_l, cat_a]) rfl ⟨Nat.zero_le _, Nat.zero_le _⟩ dL_trace_4) (fun H locs S => ?_)
      refine lv_i2l (v := Int32.toInt64 r) X.1 X.2.1 dL_trace_7 rfl ?_
      refine g_qL X S dL_trace_8 hf (fun h H locs hm hf S => ?_)
      refine lv_goto (tgt := 15) X.1 X.2.1 dL_trace_9 (by decide) ?_
      cases hf
      refine lv_iconst (v := 0) X.1 X.2.1 dL_trace_15 (by decide) ?_
      exact w_widen (Nat.zero_le _) (Nat.zero_le _) (g_ri X S hr hlk dL_trace_16)
def fL_why (a0 : Nat) (a1 : Int32) (a2 : Int32) (a3 : Nat) (h : Hp) : Option (Int32 × Hp) := match fX12_why a0 a1 a2 h with
  | none => none
  | some (.inl k) => if k = 1 then some (1, h) else none
  | some (.inr r) => ob (qL a3 0 (Int32.toInt64 r) h) fun h => some (0, h)
theorem cL_why_h (l : Launch) (hlt : l.stackTraces = false) {E : EE} {A : Nat → Prop} {a0 : Nat} {a1 : Int32} {a2 : Int32} {a3 : Nat} {h h9 : Hp} {r9 : Int32} (hf : fL_why a0 a1 a2 a3 h = some (r9, h9)) : vx_Met l yL_why (wsH yL_why cL_why 5 (some .int) [(0, 10, 13, 18)]) (rmm 10 1 6) (PcL E A h [rv a0, .int a1, .int a2, rv a3]) (Qi E A h9 r9) noX 1 6 A := by
  refine met_ofH (by decide +kernel) (by simp [lg_sl, cat_rv, cat_wv, cat_sv, cat_i, cat_l, cat_a]) (fun p e s m args below meth c ls X hr hlk htab hKL S hl => ?_)
  have hl : lv_has ls 5 [(0, rv a0), (1, .int a1), (2, .int a2), (3, rv a3)] := by simpa [lv_args, cat_rv, cat_wv, cat_sv, cat_i, cat_l, cat_a] using hl
  generalize hH : s.heap = H at S ⊢
  generalize hlo : ([] : List Loc) = locs at S ⊢
  clear hH hlo
  unfold fL_why at hf
  refine g_aload_n X (or_rv _) dL_why_0 rfl (lv_at hl 3 rfl) ?_
  refine lv_iconst (v := 0) X.1 X.2.1 dL_why_1 (by decide) ?_
  refine g_aload_n X (or_rv _) dL_why_2 rfl (lv_at hl 0 rfl) ?_
  refine lv_iload_n X.1 X.2.1 dL_why_3 rfl (lv_at hl 1 rfl) ?_
  refine lv_iload_n X.1 X.2.1 dL_why_4 rfl (lv_at hl 2 rfl) ?_
  cases hc : fX12_why a0 a1 a2 h with
  | none => rw [hc] at hf; exact nomatch hf
  | some z =>
    rw [hc] at hf
    rcases z with k | r
    · dsimp only at hf
      by_cases e1 : k = 1
      · subst e1
        rw [if_pos rfl] at hf
        cases hf
        refine g_thrown S (runVX (As := [.int a1, .int a2]) (rest := [.int 0, rv a3]) X S coL_35 (by decide) (cX12_why_x l hlt hc) (tkX12_why hc) rfl hl.1 (by simp [cat_rv, cat_wv, cat_sv, cat_i, cat_l, cat_a]) rfl ⟨Nat.le_refl _, Nat.le_refl _⟩ dL_why_5) (fun ce q9 H1 locs1 S1 hz hce hcv hcl => ?_)
        refine vx_catch (name := exN 1) X.2.2.2.1 (ex_rows []) (ex_row (0, 10, 13, 18)) (ex_rows []) (htab.trans rfl) (fun z hz => nomatch hz) (by decide) (by decide) (X.2.2.1 _ (uw_5 165 rfl rfl)) (ex_cast X 1) hce hcv hcl ?_
        refine g_astore (i := 4) (lv' := [(4, .ref q9), (0, rv a0), (1, .int a1), (2, .int a2), (3, rv a3)]) X (Or.inr ⟨_, rfl⟩) dL_why_13 hl (by decide) (by simp [cat_rv, cat_wv, cat_sv, cat_i, cat_l, cat_a]) (fun ls hl => ?_)
        refine lv_iconst (v := 1) X.1 X.2.1 dL_why_15 (by decide) ?_
        exact g_ri X S1 hr hlk dL_why_16
      · rw [if_neg e1] at hf
        exact nomatch hf
    · dsimp only at hf
      refine g_ci S (runV (As := [.int a1, .int a2]) (rest := [.int 0, rv a3]) X S coL_35 (by decide) (cX12_why_m l hc) (tkX12_why hc) rfl hl.1 (by simp [cat_rv, cat_wv, cat_sv, cat_i, cat_l, cat_a]) rfl ⟨Nat.zero_le _, Nat.zero_le _⟩ dL_why_5) (fun H locs S => ?_)
      refine lv_i2l (v := Int32.toInt64 r) X.1 X.2.1 dL_why_8 rfl ?_
      refine g_qL X S dL_why_9 hf (fun h H locs hm hf S => ?_)
      refine lv_goto (tgt := 17) X.1 X.2.1 dL_why_10 (by decide) ?_
      cases hf
      refine lv_iconst (v := 0) X.1 X.2.1 dL_why_17 (by decide) ?_
      exact w_widen (Nat.zero_le _) (Nat.zero_le _) (g_ri X S hr hlk dL_why_18)
def fL_flaws (a0 : Nat) (a1 : Int32) (a2 : Int32) (a3 : Int32) (a4 : Int32) (a5 : Nat) (h : Hp) : Option (Int32 × Hp) := match fX12_flaws a0 a1 a2 a3 a4 h with
  | none => none
  | some (.inl k) => if k = 1 then some (1, h) else if k = 2 then some (2, h) else none
  | some (.inr r) => ob (qL a5 0 (Int32.toInt64 r) h) fun h => some (0, h)
theorem cL_flaws_h (l : Launch) (hlt : l.stackTraces = false) {E : EE} {A : Nat → Prop} {a0 : Nat} {a1 : Int32} {a2 : Int32} {a3 : Int32} {a4 : Int32} {a5 : Nat} {h h9 : Hp} {r9 : Int32} (hf : fL_flaws a0 a1 a2 a3 a4 a5 h = some (r9, h9)) : vx_Met l yL_flaws (wsH yL_flaws cL_flaws 7 (some .int) [(0, 14, 17, 18), (0, 14, 21, 13)]) (rmm 11 1 6) (PcL E A h [rv a0, .int a1, .int a2, .int a3, .int a4, rv a5]) (Qi E A h9 r9) noX 1 6 A := by
  refine met_ofH (by decide +kernel) (by simp [lg_sl, cat_rv, cat_wv, cat_sv, cat_i, cat_l, cat_a]) (fun p e s m args below meth c ls X hr hlk htab hKL S hl => ?_)
  have hl : lv_has ls 7 [(0, rv a0), (1, .int a1), (2, .int a2), (3, .int a3), (4, .int a4), (5, rv a5)] := by simpa [lv_args, cat_rv, cat_wv, cat_sv, cat_i, cat_l, cat_a] using hl
  generalize hH : s.heap = H at S ⊢
  generalize hlo : ([] : List Loc) = locs at S ⊢
  clear hH hlo
  unfold fL_flaws at hf
  refine g_aload X (or_rv _) dL_flaws_0 (lv_at hl 5 rfl) ?_
  refine lv_iconst (v := 0) X.1 X.2.1 dL_flaws_2 (by decide) ?_
  refine g_aload_n X (or_rv _) dL_flaws_3 rfl (lv_at hl 0 rfl) ?_
  refine lv_iload_n X.1 X.2.1 dL_flaws_4 rfl (lv_at hl 1 rfl) ?_
  refine lv_iload_n X.1 X.2.1 dL_flaws_5 rfl (lv_at hl 2 rfl) ?_
  refine lv_iload_n X.1 X.2.1 dL_flaws_6 rfl (lv_at hl 3 rfl) ?_
  refine lv_iload X.1 X.2.1 dL_flaws_7 (lv_at hl 4 rfl) ?_
  cases hc : fX12_flaws a0 a1 a2 a3 a4 h with
  | none => rw [hc] at hf; exact nomatch hf
  | some z =>
    rw [hc] at hf
    rcases z with k | r
    · dsimp only at hf
      by_cases e1 : k = 1
      · subst e1
        rw [if_pos rfl] at hf
        cases hf
        refine g_thrown S (runVX (As := [.int a1, .int a2, .int a3, .int a4]) (rest := [.int 0, rv a5]) X S coL_39 (by decide) (cX12_flaws_x l hlt hc) (tkX12_flaws hc) rfl hl.1 (by simp [cat_rv, cat_wv, cat_sv, cat_i, cat_l, cat_a]) rfl ⟨Nat.le_refl _, Nat.le_refl _⟩ dL_flaws_9) (fun ce q9 H1 locs1 S1 hz hce hcv hcl => ?_)
        refine vx_catch (name := exN 1) X.2.2.2.1 (ex_rows []) (ex_row (0, 14, 17, 18)) (ex_rows [(0, 14, 21, 13)]) (htab.trans rfl) (fun z hz => nomatch hz) (by decide) (by decide) (X.2.2.1 _ (uw_5 165 rfl rfl)) (ex_cast X 1) hce hcv hcl ?_
        refine g_astore (i := 6) (lv' := [(6, .ref q9), (0, rv a0), (1, .int a1), (2, .int a2), (3, .int a3), (4, .int a4), (5, rv a5)]) X (Or.inr ⟨_, rfl⟩) dL_flaws_17 hl (by decide) (by simp [cat_rv, cat_wv, cat_sv, cat_i, cat_l, cat_a]) (fun ls hl => ?_)
        refine lv_iconst (v := 1) X.1 X.2.1 dL_flaws_19 (by decide) ?_
        exact g_ri X S1 hr hlk dL_flaws_20
      · rw [if_neg e1] at hf
        by_cases e2 : k = 2
        · subst e2
          rw [if_pos rfl] at hf
          cases hf
          refine g_thrown S (runVX (As := [.int a1, .int a2, .int a3, .int a4]) (rest := [.int 0, rv a5]) X S coL_39 (by decide) (cX12_flaws_x l hlt hc) (tkX12_flaws hc) rfl hl.1 (by simp [cat_rv, cat_wv, cat_sv, cat_i, cat_l, cat_a]) rfl ⟨Nat.le_refl _, Nat.le_refl _⟩ dL_flaws_9) (fun ce q9 H1 locs1 S1 hz hce hcv hcl => ?_)
          refine vx_catch (name := exN 2) X.2.2.2.1 (ex_rows [(0, 14, 17, 18)]) (ex_row (0, 14, 21, 13)) (ex_rows []) (htab.trans rfl) (ex_pass1 X (by decide) ((uw_5 165 rfl rfl)) hKL.1) (by decide) (by decide) (X.2.2.1 _ (uw_4 127 rfl rfl)) (ex_cast X 2) hce hcv hcl ?_
          refine g_astore (i := 6) (lv' := [(6, .ref q9), (0, rv a0), (1, .int a1), (2, .int a2), (3, .int a3), (4, .int a4), (5, rv a5)]) X (Or.inr ⟨_, rfl⟩) dL_flaws_21 hl (by decide) (by simp [cat_rv, cat_wv, cat_sv, cat_i, cat_l, cat_a]) (fun ls hl => ?_)
          refine lv_iconst (v := 2) X.1 X.2.1 dL_flaws_23 (by decide) ?_
          exact g_ri X S1 hr hlk dL_flaws_24
        · rw [if_neg e2] at hf
          exact nomatch hf
    · dsimp only at hf
      refine g_ci S (runV (As := [.int a1, .int a2, .int a3, .int a4]) (rest := [.int 0, rv a5]) X S coL_39 (by decide) (cX12_flaws_m l hc) (tkX12_flaws hc) rfl hl.1 (by simp [cat_rv, cat_wv, cat_sv, cat_i, cat_l, cat_a]) rfl ⟨Nat.zero_le _, Nat.zero_le _⟩ dL_flaws_9) (fun H locs S => ?_)
      refine lv_i2l (v := Int32.toInt64 r) X.1 X.2.1 dL_flaws_12 rfl ?_
      refine g_qL X S dL_flaws_13 hf (fun h H locs hm hf S => ?_)
      refine lv_goto (tgt := 25) X.1 X.2.1 dL_flaws_14 (by decide) ?_
      cases hf
      refine lv_iconst (v := 0) X.1 X.2.1 dL_flaws_25 (by decide) ?_
      exact w_widen (Nat.zero_le _) (Nat.zero_le _) (g_ri X S hr hlk dL_flaws_26)
def fL_number (a0 : Nat) (a1 : Int32) (a2 : Int32) (a3 : Int32) (a4 : Nat) (h : Hp) : Option (Int32 × Hp) := match fX12_number a0 a1 a2 a3 h with
  | none => none
  | some (.inl k, h) => if k = 1 then some (1, h) else if k = 2 then some (2, h) else if k = 3 then some (3, h) else none
  | some (.inr r, h) => ob (qL a4 0 r h) fun h => some (0, h)
theorem cL_number_h (l : Launch) (hlt : l.stackTraces = false) {E : EE} {A : Nat → Prop} {a0 : Nat} {a1 : Int32} {a2 : Int32} {a3 : Int32} {a4 : Nat} {h h9 : Hp} {r9 : Int32} (hf : fL_number a0 a1 a2 a3 a4 h = some (r9, h9)) : vx_Met l yL_number (wsH yL_number cL_number 6 (some .int) [(0, 11, 14, 18), (0, 11, 18, 13), (0, 11, 22, 47)]) (rmm 11 1 6) (PcL E A h [rv a0, .int a1, .int a2, .int a3, rv a4]) (Qi E A h9 r9) noX 1 6 A := by
  refine met_ofH (by decide +kernel) (by simp [lg_sl, cat_rv, cat_wv, cat_sv, cat_i, cat_l, cat_a]) (fun p e s m args below meth c ls X hr hlk htab hKL S hl => ?_)
  have hl : lv_has ls 6 [(0, rv a0), (1, .int a1), (2, .int a2), (3, .int a3), (4, rv a4)] := by simpa [lv_args, cat_rv, cat_wv, cat_sv, cat_i, cat_l, cat_a] using hl
  generalize hH : s.heap = H at S ⊢
  generalize hlo : ([] : List Loc) = locs at S ⊢
  clear hH hlo
  unfold fL_number at hf
  refine g_aload X (or_rv _) dL_number_0 (lv_at hl 4 rfl) ?_
  refine lv_iconst (v := 0) X.1 X.2.1 dL_number_2 (by decide) ?_
  refine g_aload_n X (or_rv _) dL_number_3 rfl (lv_at hl 0 rfl) ?_
  refine lv_iload_n X.1 X.2.1 dL_number_4 rfl (lv_at hl 1 rfl) ?_
  refine lv_iload_n X.1 X.2.1 dL_number_5 rfl (lv_at hl 2 rfl) ?_
  refine lv_iload_n X.1 X.2.1 dL_number_6 rfl (lv_at hl 3 rfl) ?_
  cases hc : fX12_number a0 a1 a2 a3 h with
  | none => rw [hc] at hf; exact nomatch hf
  | some z =>
    rw [hc] at hf
    obtain ⟨z, h⟩ := z
    rcases z with k | r
    · dsimp only at hf
      by_cases e1 : k = 1
      · subst e1
        rw [if_pos rfl] at hf
        cases hf
        refine g_thrown S (runVX (As := [.int a1, .int a2, .int a3]) (rest := [.int 0, rv a4]) X S coL_43 (by decide) (cX12_number_x l hlt hc) (tkX12_number hc) rfl hl.1 (by simp [cat_rv, cat_wv, cat_sv, cat_i, cat_l, cat_a]) rfl ⟨Nat.le_refl _, Nat.le_refl _⟩ dL_number_7) (fun ce q9 H1 locs1 S1 hz hce hcv hcl => ?_)
        refine vx_catch (name := exN 1) X.2.2.2.1 (ex_rows []) (ex_row (0, 11, 14, 18)) (ex_rows [(0, 11, 18, 13), (0, 11, 22, 47)]) (htab.trans rfl) (fun z hz => nomatch hz) (by decide) (by decide) (X.2.2.1 _ (uw_5 165 rfl rfl)) (ex_cast X 1) hce hcv hcl ?_
        refine g_astore (i := 5) (lv' := [(5, .ref q9), (0, rv a0), (1, .int a1), (2, .int a2), (3, .int a3), (4, rv a4)]) X (Or.inr ⟨_, rfl⟩) dL_number_14 hl (by decide) (by simp [cat_rv, cat_wv, cat_sv, cat_i, cat_l, cat_a]) (fun ls hl => ?_)
        refine lv_iconst (v := 1) X.1 X.2.1 dL_number_16 (by decide) ?_
        exact g_ri X S1 hr hlk dL_number_17
      · rw [if_neg e1] at hf
        by_cases e2 : k = 2
        · subst e2
          rw [if_pos rfl] at hf
          cases hf
          refine g_thrown S (runVX (As := [.int a1, .int a2, .int a3]) (rest := [.int 0, rv a4]) X S coL_43 (by decide) (cX12_number_x l hlt hc) (tkX12_number hc) rfl hl.1 (by simp [cat_rv, cat_wv, cat_sv, cat_i, cat_l, cat_a]) rfl ⟨Nat.le_refl _, Nat.le_refl _⟩ dL_number_7) (fun ce q9 H1 locs1 S1 hz hce hcv hcl => ?_)
          refine vx_catch (name := exN 2) X.2.2.2.1 (ex_rows [(0, 11, 14, 18)]) (ex_row (0, 11, 18, 13)) (ex_rows [(0, 11, 22, 47)]) (htab.trans rfl) (ex_pass1 X (by decide) ((uw_5 165 rfl rfl)) hKL.1) (by decide) (by decide) (X.2.2.1 _ (uw_4 127 rfl rfl)) (ex_cast X 2) hce hcv hcl ?_
          refine g_astore (i := 5) (lv' := [(5, .ref q9), (0, rv a0), (1, .int a1), (2, .int a2), (3, .int a3), (4, rv a4)]) X (Or.inr ⟨_, rfl⟩) dL_number_18 hl (by decide) (by simp [cat_rv, cat_wv, cat_sv, cat_i, cat_l, cat_a]) (fun ls hl => ?_)
          refine lv_iconst (v := 2) X.1 X.2.1 dL_number_20 (by decide) ?_
          exact g_ri X S1 hr hlk dL_number_21
        · rw [if_neg e2] at hf
          by_cases e3 : k = 3
          · subst e3
            rw [if_pos rfl] at hf
            cases hf
            refine g_thrown S (runVX (As := [.int a1, .int a2, .int a3]) (rest := [.int 0, rv a4]) X S coL_43 (by decide) (cX12_number_x l hlt hc) (tkX12_number hc) rfl hl.1 (by simp [cat_rv, cat_wv, cat_sv, cat_i, cat_l, cat_a]) rfl ⟨Nat.le_refl _, Nat.le_refl _⟩ dL_number_7) (fun ce q9 H1 locs1 S1 hz hce hcv hcl => ?_)
            refine vx_catch (name := exN 3) X.2.2.2.1 (ex_rows [(0, 11, 14, 18), (0, 11, 18, 13)]) (ex_row (0, 11, 22, 47)) (ex_rows []) (htab.trans rfl) (ex_pass2 X (by decide) (by decide) ((uw_5 165 rfl rfl)) ((uw_4 127 rfl rfl)) hKL.2.1 hKL.2.2) (by decide) (by decide) (X.2.2.1 _ (uw_6 45 rfl rfl)) (ex_cast X 3) hce hcv hcl ?_
            refine g_astore (i := 5) (lv' := [(5, .ref q9), (0, rv a0), (1, .int a1), (2, .int a2), (3, .int a3), (4, rv a4)]) X (Or.inr ⟨_, rfl⟩) dL_number_22 hl (by decide) (by simp [cat_rv, cat_wv, cat_sv, cat_i, cat_l, cat_a]) (fun ls hl => ?_)
            refine lv_iconst (v := 3) X.1 X.2.1 dL_number_24 (by decide) ?_
            exact g_ri X S1 hr hlk dL_number_25
          · rw [if_neg e3] at hf
            exact nomatch hf
    · dsimp only at hf
      refine g_cl S (runV (As := [.int a1, .int a2, .int a3]) (rest := [.int 0, rv a4]) X S coL_43 (by decide) (cX12_number_m l hc) (tkX12_number hc) rfl hl.1 (by simp [cat_rv, cat_wv, cat_sv, cat_i, cat_l, cat_a]) rfl ⟨Nat.zero_le _, Nat.zero_le _⟩ dL_number_7) (fun H locs S => ?_)
      refine g_qL X S dL_number_10 hf (fun h H locs hm hf S => ?_)
      refine lv_goto (tgt := 26) X.1 X.2.1 dL_number_11 (by decide) ?_
      cases hf
      refine lv_iconst (v := 0) X.1 X.2.1 dL_number_26 (by decide) ?_
      exact w_widen (Nat.zero_le _) (Nat.zero_le _) (g_ri X S hr hlk dL_number_27)
def fL_need (a0 : Nat) (a1 : Int32) (a2 : Int32) (a3 : Int32) (a4 : Int32) (a5 : Int32) (a6 : Nat) (h : Hp) : Option (Int32 × Hp) := match fX12_need a0 a1 a2 a3 a4 a5 h with
  | none => none
  | some (.inl k, h) => if k = 1 then some (1, h) else if k = 2 then some (2, h) else none
  | some (.inr r, h) => ob (qL a6 0 (Int32.toInt64 r) h) fun h => some (0, h)
theorem cL_need_h (l : Launch) (hlt : l.stackTraces = false) {E : EE} {A : Nat → Prop} {a0 : Nat} {a1 : Int32} {a2 : Int32} {a3 : Int32} {a4 : Int32} {a5 : Int32} {a6 : Nat} {h h9 : Hp} {r9 : Int32} (hf : fL_need a0 a1 a2 a3 a4 a5 a6 h = some (r9, h9)) : vx_Met l yL_need (wsH yL_need cL_need 8 (some .int) [(0, 16, 19, 18), (0, 16, 23, 13)]) (rmm 11 1 6) (PcL E A h [rv a0, .int a1, .int a2, .int a3, .int a4, .int a5, rv a6]) (Qi E A h9 r9) noX 1 6 A := by
  refine met_ofH (by decide +kernel) (by simp [lg_sl, cat_rv, cat_wv, cat_sv, cat_i, cat_l, cat_a]) (fun p e s m args below meth c ls X hr hlk htab hKL S hl => ?_)
  have hl : lv_has ls 8 [(0, rv a0), (1, .int a1), (2, .int a2), (3, .int a3), (4, .int a4), (5, .int a5), (6, rv a6)] := by simpa [lv_args, cat_rv, cat_wv, cat_sv, cat_i, cat_l, cat_a] using hl
  generalize hH : s.heap = H at S ⊢
  generalize hlo : ([] : List Loc) = locs at S ⊢
  clear hH hlo
  unfold fL_need at hf
  refine g_aload X (or_rv _) dL_need_0 (lv_at hl 6 rfl) ?_
  refine lv_iconst (v := 0) X.1 X.2.1 dL_need_2 (by decide) ?_
  refine g_aload_n X (or_rv _) dL_need_3 rfl (lv_at hl 0 rfl) ?_
  refine lv_iload_n X.1 X.2.1 dL_need_4 rfl (lv_at hl 1 rfl) ?_
  refine lv_iload_n X.1 X.2.1 dL_need_5 rfl (lv_at hl 2 rfl) ?_
  refine lv_iload_n X.1 X.2.1 dL_need_6 rfl (lv_at hl 3 rfl) ?_
  refine lv_iload X.1 X.2.1 dL_need_7 (lv_at hl 4 rfl) ?_
  refine lv_iload X.1 X.2.1 dL_need_9 (lv_at hl 5 rfl) ?_
  cases hc : fX12_need a0 a1 a2 a3 a4 a5 h with
  | none => rw [hc] at hf; exact nomatch hf
  | some z =>
    rw [hc] at hf
    obtain ⟨z, h⟩ := z
    rcases z with k | r
    · dsimp only at hf
      by_cases e1 : k = 1
      · subst e1
        rw [if_pos rfl] at hf
        cases hf
        refine g_thrown S (runVX (As := [.int a1, .int a2, .int a3, .int a4, .int a5]) (rest := [.int 0, rv a6]) X S coL_49 (by decide) (cX12_need_x l hlt hc) (tkX12_need hc) rfl hl.1 (by simp [cat_rv, cat_wv, cat_sv, cat_i, cat_l, cat_a]) rfl ⟨Nat.le_refl _, Nat.le_refl _⟩ dL_need_11) (fun ce q9 H1 locs1 S1 hz hce hcv hcl => ?_)
        refine vx_catch (name := exN 1) X.2.2.2.1 (ex_rows []) (ex_row (0, 16, 19, 18)) (ex_rows [(0, 16, 23, 13)]) (htab.trans rfl) (fun z hz => nomatch hz) (by decide) (by decide) (X.2.2.1 _ (uw_5 165 rfl rfl)) (ex_cast X 1) hce hcv hcl ?_
        refine g_astore (i := 7) (lv' := [(7, .ref q9), (0, rv a0), (1, .int a1), (2, .int a2), (3, .int a3), (4, .int a4), (5, .int a5), (6, rv a6)]) X (Or.inr ⟨_, rfl⟩) dL_need_19 hl (by decide) (by simp [cat_rv, cat_wv, cat_sv, cat_i, cat_l, cat_a]) (fun ls hl => ?_)
        refine lv_iconst (v := 1) X.1 X.2.1 dL_need_21 (by decide) ?_
        exact g_ri X S1 hr hlk dL_need_22
      · rw [if_neg e1] at hf
        by_cases e2 : k = 2
        · subst e2
          rw [if_pos rfl] at hf
          cases hf
          refine g_thrown S (runVX (As := [.int a1, .int a2, .int a3, .int a4, .int a5]) (rest := [.int 0, rv a6]) X S coL_49 (by decide) (cX12_need_x l hlt hc) (tkX12_need hc) rfl hl.1 (by simp [cat_rv, cat_wv, cat_sv, cat_i, cat_l, cat_a]) rfl ⟨Nat.le_refl _, Nat.le_refl _⟩ dL_need_11) (fun ce q9 H1 locs1 S1 hz hce hcv hcl => ?_)
          refine vx_catch (name := exN 2) X.2.2.2.1 (ex_rows [(0, 16, 19, 18)]) (ex_row (0, 16, 23, 13)) (ex_rows []) (htab.trans rfl) (ex_pass1 X (by decide) ((uw_5 165 rfl rfl)) hKL.1) (by decide) (by decide) (X.2.2.1 _ (uw_4 127 rfl rfl)) (ex_cast X 2) hce hcv hcl ?_
          refine g_astore (i := 7) (lv' := [(7, .ref q9), (0, rv a0), (1, .int a1), (2, .int a2), (3, .int a3), (4, .int a4), (5, .int a5), (6, rv a6)]) X (Or.inr ⟨_, rfl⟩) dL_need_23 hl (by decide) (by simp [cat_rv, cat_wv, cat_sv, cat_i, cat_l, cat_a]) (fun ls hl => ?_)
          refine lv_iconst (v := 2) X.1 X.2.1 dL_need_25 (by decide) ?_
          exact g_ri X S1 hr hlk dL_need_26
        · rw [if_neg e2] at hf
          exact nomatch hf
    · dsimp only at hf
      refine g_ci S (runV (As := [.int a1, .int a2, .int a3, .int a4, .int a5]) (rest := [.int 0, rv a6]) X S coL_49 (by decide) (cX12_need_m l hc) (tkX12_need hc) rfl hl.1 (by simp [cat_rv, cat_wv, cat_sv, cat_i, cat_l, cat_a]) rfl ⟨Nat.zero_le _, Nat.zero_le _⟩ dL_need_11) (fun H locs S => ?_)
      refine lv_i2l (v := Int32.toInt64 r) X.1 X.2.1 dL_need_14 rfl ?_
      refine g_qL X S dL_need_15 hf (fun h H locs hm hf S => ?_)
      refine lv_goto (tgt := 27) X.1 X.2.1 dL_need_16 (by decide) ?_
      cases hf
      refine lv_iconst (v := 0) X.1 X.2.1 dL_need_27 (by decide) ?_
      exact w_widen (Nat.zero_le _) (Nat.zero_le _) (g_ri X S hr hlk dL_need_28)
def fL_rounds (a0 : Nat) (a1 : Int32) (a2 : Int32) (a3 : Int32) (a4 : Nat) (h : Hp) : Option (Int32 × Hp) := match fX12_rounds a0 a1 a2 a3 h with
  | none => none
  | some (.inl k, h) => if k = 1 then some (1, h) else if k = 2 then some (2, h) else none
  | some (.inr r, h) => ob (qL a4 0 (Int32.toInt64 r) h) fun h => some (0, h)
theorem cL_rounds_h (l : Launch) (hlt : l.stackTraces = false) {E : EE} {A : Nat → Prop} {a0 : Nat} {a1 : Int32} {a2 : Int32} {a3 : Int32} {a4 : Nat} {h h9 : Hp} {r9 : Int32} (hf : fL_rounds a0 a1 a2 a3 a4 h = some (r9, h9)) : vx_Met l yL_rounds (wsH yL_rounds cL_rounds 6 (some .int) [(0, 12, 15, 18), (0, 12, 19, 13)]) (rmm 11 1 6) (PcL E A h [rv a0, .int a1, .int a2, .int a3, rv a4]) (Qi E A h9 r9) noX 1 6 A := by
  refine met_ofH (by decide +kernel) (by simp [lg_sl, cat_rv, cat_wv, cat_sv, cat_i, cat_l, cat_a]) (fun p e s m args below meth c ls X hr hlk htab hKL S hl => ?_)
  have hl : lv_has ls 6 [(0, rv a0), (1, .int a1), (2, .int a2), (3, .int a3), (4, rv a4)] := by simpa [lv_args, cat_rv, cat_wv, cat_sv, cat_i, cat_l, cat_a] using hl
  generalize hH : s.heap = H at S ⊢
  generalize hlo : ([] : List Loc) = locs at S ⊢
  clear hH hlo
  unfold fL_rounds at hf
  refine g_aload X (or_rv _) dL_rounds_0 (lv_at hl 4 rfl) ?_
  refine lv_iconst (v := 0) X.1 X.2.1 dL_rounds_2 (by decide) ?_
  refine g_aload_n X (or_rv _) dL_rounds_3 rfl (lv_at hl 0 rfl) ?_
  refine lv_iload_n X.1 X.2.1 dL_rounds_4 rfl (lv_at hl 1 rfl) ?_
  refine lv_iload_n X.1 X.2.1 dL_rounds_5 rfl (lv_at hl 2 rfl) ?_
  refine lv_iload_n X.1 X.2.1 dL_rounds_6 rfl (lv_at hl 3 rfl) ?_
  cases hc : fX12_rounds a0 a1 a2 a3 h with
  | none => rw [hc] at hf; exact nomatch hf
  | some z =>
    rw [hc] at hf
    obtain ⟨z, h⟩ := z
    rcases z with k | r
    · dsimp only at hf
      by_cases e1 : k = 1
      · subst e1
        rw [if_pos rfl] at hf
        cases hf
        refine g_thrown S (runVX (As := [.int a1, .int a2, .int a3]) (rest := [.int 0, rv a4]) X S coL_53 (by decide) (cX12_rounds_x l hlt hc) (tkX12_rounds hc) rfl hl.1 (by simp [cat_rv, cat_wv, cat_sv, cat_i, cat_l, cat_a]) rfl ⟨Nat.le_refl _, Nat.le_refl _⟩ dL_rounds_7) (fun ce q9 H1 locs1 S1 hz hce hcv hcl => ?_)
        refine vx_catch (name := exN 1) X.2.2.2.1 (ex_rows []) (ex_row (0, 12, 15, 18)) (ex_rows [(0, 12, 19, 13)]) (htab.trans rfl) (fun z hz => nomatch hz) (by decide) (by decide) (X.2.2.1 _ (uw_5 165 rfl rfl)) (ex_cast X 1) hce hcv hcl ?_
        refine g_astore (i := 5) (lv' := [(5, .ref q9), (0, rv a0), (1, .int a1), (2, .int a2), (3, .int a3), (4, rv a4)]) X (Or.inr ⟨_, rfl⟩) dL_rounds_15 hl (by decide) (by simp [cat_rv, cat_wv, cat_sv, cat_i, cat_l, cat_a]) (fun ls hl => ?_)
        refine lv_iconst (v := 1) X.1 X.2.1 dL_rounds_17 (by decide) ?_
        exact g_ri X S1 hr hlk dL_rounds_18
      · rw [if_neg e1] at hf
        by_cases e2 : k = 2
        · subst e2
          rw [if_pos rfl] at hf
          cases hf
          refine g_thrown S (runVX (As := [.int a1, .int a2, .int a3]) (rest := [.int 0, rv a4]) X S coL_53 (by decide) (cX12_rounds_x l hlt hc) (tkX12_rounds hc) rfl hl.1 (by simp [cat_rv, cat_wv, cat_sv, cat_i, cat_l, cat_a]) rfl ⟨Nat.le_refl _, Nat.le_refl _⟩ dL_rounds_7) (fun ce q9 H1 locs1 S1 hz hce hcv hcl => ?_)
          refine vx_catch (name := exN 2) X.2.2.2.1 (ex_rows [(0, 12, 15, 18)]) (ex_row (0, 12, 19, 13)) (ex_rows []) (htab.trans rfl) (ex_pass1 X (by decide) ((uw_5 165 rfl rfl)) hKL.1) (by decide) (by decide) (X.2.2.1 _ (uw_4 127 rfl rfl)) (ex_cast X 2) hce hcv hcl ?_
          refine g_astore (i := 5) (lv' := [(5, .ref q9), (0, rv a0), (1, .int a1), (2, .int a2), (3, .int a3), (4, rv a4)]) X (Or.inr ⟨_, rfl⟩) dL_rounds_19 hl (by decide) (by simp [cat_rv, cat_wv, cat_sv, cat_i, cat_l, cat_a]) (fun ls hl => ?_)
          refine lv_iconst (v := 2) X.1 X.2.1 dL_rounds_21 (by decide) ?_
          exact g_ri X S1 hr hlk dL_rounds_22
        · rw [if_neg e2] at hf
          exact nomatch hf
    · dsimp only at hf
      refine g_ci S (runV (As := [.int a1, .int a2, .int a3]) (rest := [.int 0, rv a4]) X S coL_53 (by decide) (cX12_rounds_m l hc) (tkX12_rounds hc) rfl hl.1 (by simp [cat_rv, cat_wv, cat_sv, cat_i, cat_l, cat_a]) rfl ⟨Nat.zero_le _, Nat.zero_le _⟩ dL_rounds_7) (fun H locs S => ?_)
      refine lv_i2l (v := Int32.toInt64 r) X.1 X.2.1 dL_rounds_10 rfl ?_
      refine g_qL X S dL_rounds_11 hf (fun h H locs hm hf S => ?_)
      refine lv_goto (tgt := 23) X.1 X.2.1 dL_rounds_12 (by decide) ?_
      cases hf
      refine lv_iconst (v := 0) X.1 X.2.1 dL_rounds_23 (by decide) ?_
      exact w_widen (Nat.zero_le _) (Nat.zero_le _) (g_ri X S hr hlk dL_rounds_24)
def fL_unedited (a0 : Nat) (a1 : Int32) (a2 : Int32) (a3 : Int32) (a4 : Int32) (a5 : Nat) (h : Hp) : Option (Int32 × Hp) := match fX12_unedited a0 a1 a2 a3 a4 h with
  | none => none
  | some (.inl k, h) => if k = 1 then some (1, h) else if k = 2 then some (2, h) else none
  | some (.inr r, h) => ob (qL a5 0 r h) fun h => some (0, h)
theorem cL_unedited_h (l : Launch) (hlt : l.stackTraces = false) {E : EE} {A : Nat → Prop} {a0 : Nat} {a1 : Int32} {a2 : Int32} {a3 : Int32} {a4 : Int32} {a5 : Nat} {h h9 : Hp} {r9 : Int32} (hf : fL_unedited a0 a1 a2 a3 a4 a5 h = some (r9, h9)) : vx_Met l yL_unedited (wsH yL_unedited cL_unedited 7 (some .int) [(0, 13, 16, 18), (0, 13, 20, 13)]) (rmm 13 1 6) (PcL E A h [rv a0, .int a1, .int a2, .int a3, .int a4, rv a5]) (Qi E A h9 r9) noX 1 6 A := by
  refine met_ofH (by decide +kernel) (by simp [lg_sl, cat_rv, cat_wv, cat_sv, cat_i, cat_l, cat_a]) (fun p e s m args below meth c ls X hr hlk htab hKL S hl => ?_)
  have hl : lv_has ls 7 [(0, rv a0), (1, .int a1), (2, .int a2), (3, .int a3), (4, .int a4), (5, rv a5)] := by simpa [lv_args, cat_rv, cat_wv, cat_sv, cat_i, cat_l, cat_a] using hl
  generalize hH : s.heap = H at S ⊢
  generalize hlo : ([] : List Loc) = locs at S ⊢
  clear hH hlo
  unfold fL_unedited at hf
  refine g_aload X (or_rv _) dL_unedited_0 (lv_at hl 5 rfl) ?_
  refine lv_iconst (v := 0) X.1 X.2.1 dL_unedited_2 (by decide) ?_
  refine g_aload_n X (or_rv _) dL_unedited_3 rfl (lv_at hl 0 rfl) ?_
  refine lv_iload_n X.1 X.2.1 dL_unedited_4 rfl (lv_at hl 1 rfl) ?_
  refine lv_iload_n X.1 X.2.1 dL_unedited_5 rfl (lv_at hl 2 rfl) ?_
  refine lv_iload_n X.1 X.2.1 dL_unedited_6 rfl (lv_at hl 3 rfl) ?_
  refine lv_iload X.1 X.2.1 dL_unedited_7 (lv_at hl 4 rfl) ?_
  cases hc : fX12_unedited a0 a1 a2 a3 a4 h with
  | none => rw [hc] at hf; exact nomatch hf
  | some z =>
    rw [hc] at hf
    obtain ⟨z, h⟩ := z
    rcases z with k | r
    · dsimp only at hf
      by_cases e1 : k = 1
      · subst e1
        rw [if_pos rfl] at hf
        cases hf
        refine g_thrown S (runVX (As := [.int a1, .int a2, .int a3, .int a4]) (rest := [.int 0, rv a5]) X S coL_57 (by decide) (cX12_unedited_x l hlt hc) (tkX12_unedited hc) rfl hl.1 (by simp [cat_rv, cat_wv, cat_sv, cat_i, cat_l, cat_a]) rfl ⟨Nat.le_refl _, Nat.le_refl _⟩ dL_unedited_9) (fun ce q9 H1 locs1 S1 hz hce hcv hcl => ?_)
        refine vx_catch (name := exN 1) X.2.2.2.1 (ex_rows []) (ex_row (0, 13, 16, 18)) (ex_rows [(0, 13, 20, 13)]) (htab.trans rfl) (fun z hz => nomatch hz) (by decide) (by decide) (X.2.2.1 _ (uw_5 165 rfl rfl)) (ex_cast X 1) hce hcv hcl ?_
        refine g_astore (i := 6) (lv' := [(6, .ref q9), (0, rv a0), (1, .int a1), (2, .int a2), (3, .int a3), (4, .int a4), (5, rv a5)]) X (Or.inr ⟨_, rfl⟩) dL_unedited_16 hl (by decide) (by simp [cat_rv, cat_wv, cat_sv, cat_i, cat_l, cat_a]) (fun ls hl => ?_)
        refine lv_iconst (v := 1) X.1 X.2.1 dL_unedited_18 (by decide) ?_
        exact g_ri X S1 hr hlk dL_unedited_19
      · rw [if_neg e1] at hf
        by_cases e2 : k = 2
        · subst e2
          rw [if_pos rfl] at hf
          cases hf
          refine g_thrown S (runVX (As := [.int a1, .int a2, .int a3, .int a4]) (rest := [.int 0, rv a5]) X S coL_57 (by decide) (cX12_unedited_x l hlt hc) (tkX12_unedited hc) rfl hl.1 (by simp [cat_rv, cat_wv, cat_sv, cat_i, cat_l, cat_a]) rfl ⟨Nat.le_refl _, Nat.le_refl _⟩ dL_unedited_9) (fun ce q9 H1 locs1 S1 hz hce hcv hcl => ?_)
          refine vx_catch (name := exN 2) X.2.2.2.1 (ex_rows [(0, 13, 16, 18)]) (ex_row (0, 13, 20, 13)) (ex_rows []) (htab.trans rfl) (ex_pass1 X (by decide) ((uw_5 165 rfl rfl)) hKL.1) (by decide) (by decide) (X.2.2.1 _ (uw_4 127 rfl rfl)) (ex_cast X 2) hce hcv hcl ?_
          refine g_astore (i := 6) (lv' := [(6, .ref q9), (0, rv a0), (1, .int a1), (2, .int a2), (3, .int a3), (4, .int a4), (5, rv a5)]) X (Or.inr ⟨_, rfl⟩) dL_unedited_20 hl (by decide) (by simp [cat_rv, cat_wv, cat_sv, cat_i, cat_l, cat_a]) (fun ls hl => ?_)
          refine lv_iconst (v := 2) X.1 X.2.1 dL_unedited_22 (by decide) ?_
          exact g_ri X S1 hr hlk dL_unedited_23
        · rw [if_neg e2] at hf
          exact nomatch hf
    · dsimp only at hf
      refine g_cl S (runV (As := [.int a1, .int a2, .int a3, .int a4]) (rest := [.int 0, rv a5]) X S coL_57 (by decide) (cX12_unedited_m l hc) (tkX12_unedited hc) rfl hl.1 (by simp [cat_rv, cat_wv, cat_sv, cat_i, cat_l, cat_a]) rfl ⟨Nat.zero_le _, Nat.zero_le _⟩ dL_unedited_9) (fun H locs S => ?_)
      refine g_qL X S dL_unedited_12 hf (fun h H locs hm hf S => ?_)
      refine lv_goto (tgt := 24) X.1 X.2.1 dL_unedited_13 (by decide) ?_
      cases hf
      refine lv_iconst (v := 0) X.1 X.2.1 dL_unedited_24 (by decide) ?_
      exact w_widen (Nat.zero_le _) (Nat.zero_le _) (g_ri X S hr hlk dL_unedited_25)
def fL_then (a0 : Nat) (a1 : Int32) (a2 : Int32) (a3 : Nat) (h : Hp) : Option (Int32 × Hp) := match fX12_then a0 a1 a2 h with
  | none => none
  | some (.inl k, h) => if k = 1 then some (1, h) else if k = 2 then some (2, h) else none
  | some (.inr r, h) => ob (qL a3 0 (Int32.toInt64 r) h) fun h => some (0, h)
theorem cL_then_h (l : Launch) (hlt : l.stackTraces = false) {E : EE} {A : Nat → Prop} {a0 : Nat} {a1 : Int32} {a2 : Int32} {a3 : Nat} {h h9 : Hp} {r9 : Int32} (hf : fL_then a0 a1 a2 a3 h = some (r9, h9)) : vx_Met l yL_then (wsH yL_then cL_then 5 (some .int) [(0, 10, 13, 18), (0, 10, 17, 13)]) (rmm 15 1 6) (PcL E A h [rv a0, .int a1, .int a2, rv a3]) (Qi E A h9 r9) noX 1 6 A := by
  refine met_ofH (by decide +kernel) (by simp [lg_sl, cat_rv, cat_wv, cat_sv, cat_i, cat_l, cat_a]) (fun p e s m args below meth c ls X hr hlk htab hKL S hl => ?_)
  have hl : lv_has ls 5 [(0, rv a0), (1, .int a1), (2, .int a2), (3, rv a3)] := by simpa [lv_args, cat_rv, cat_wv, cat_sv, cat_i, cat_l, cat_a] using hl
  generalize hH : s.heap = H at S ⊢
  generalize hlo : ([] : List Loc) = locs at S ⊢
  clear hH hlo
  unfold fL_then at hf
  refine g_aload_n X (or_rv _) dL_then_0 rfl (lv_at hl 3 rfl) ?_
  refine lv_iconst (v := 0) X.1 X.2.1 dL_then_1 (by decide) ?_
  refine g_aload_n X (or_rv _) dL_then_2 rfl (lv_at hl 0 rfl) ?_
  refine lv_iload_n X.1 X.2.1 dL_then_3 rfl (lv_at hl 1 rfl) ?_
  refine lv_iload_n X.1 X.2.1 dL_then_4 rfl (lv_at hl 2 rfl) ?_
  cases hc : fX12_then a0 a1 a2 h with
  | none => rw [hc] at hf; exact nomatch hf
  | some z =>
    rw [hc] at hf
    obtain ⟨z, h⟩ := z
    rcases z with k | r
    · dsimp only at hf
      by_cases e1 : k = 1
      · subst e1
        rw [if_pos rfl] at hf
        cases hf
        refine g_thrown S (runVX (As := [.int a1, .int a2]) (rest := [.int 0, rv a3]) X S coL_61 (by decide) (cX12_then_x l hlt hc) (tkX12_then hc) rfl hl.1 (by simp [cat_rv, cat_wv, cat_sv, cat_i, cat_l, cat_a]) rfl ⟨Nat.le_refl _, Nat.le_refl _⟩ dL_then_5) (fun ce q9 H1 locs1 S1 hz hce hcv hcl => ?_)
        refine vx_catch (name := exN 1) X.2.2.2.1 (ex_rows []) (ex_row (0, 10, 13, 18)) (ex_rows [(0, 10, 17, 13)]) (htab.trans rfl) (fun z hz => nomatch hz) (by decide) (by decide) (X.2.2.1 _ (uw_5 165 rfl rfl)) (ex_cast X 1) hce hcv hcl ?_
        refine g_astore (i := 4) (lv' := [(4, .ref q9), (0, rv a0), (1, .int a1), (2, .int a2), (3, rv a3)]) X (Or.inr ⟨_, rfl⟩) dL_then_13 hl (by decide) (by simp [cat_rv, cat_wv, cat_sv, cat_i, cat_l, cat_a]) (fun ls hl => ?_)
        refine lv_iconst (v := 1) X.1 X.2.1 dL_then_15 (by decide) ?_
        exact g_ri X S1 hr hlk dL_then_16
      · rw [if_neg e1] at hf
        by_cases e2 : k = 2
        · subst e2
          rw [if_pos rfl] at hf
          cases hf
          refine g_thrown S (runVX (As := [.int a1, .int a2]) (rest := [.int 0, rv a3]) X S coL_61 (by decide) (cX12_then_x l hlt hc) (tkX12_then hc) rfl hl.1 (by simp [cat_rv, cat_wv, cat_sv, cat_i, cat_l, cat_a]) rfl ⟨Nat.le_refl _, Nat.le_refl _⟩ dL_then_5) (fun ce q9 H1 locs1 S1 hz hce hcv hcl => ?_)
          refine vx_catch (name := exN 2) X.2.2.2.1 (ex_rows [(0, 10, 13, 18)]) (ex_row (0, 10, 17, 13)) (ex_rows []) (htab.trans rfl) (ex_pass1 X (by decide) ((uw_5 165 rfl rfl)) hKL.1) (by decide) (by decide) (X.2.2.1 _ (uw_4 127 rfl rfl)) (ex_cast X 2) hce hcv hcl ?_
          refine g_astore (i := 4) (lv' := [(4, .ref q9), (0, rv a0), (1, .int a1), (2, .int a2), (3, rv a3)]) X (Or.inr ⟨_, rfl⟩) dL_then_17 hl (by decide) (by simp [cat_rv, cat_wv, cat_sv, cat_i, cat_l, cat_a]) (fun ls hl => ?_)
          refine lv_iconst (v := 2) X.1 X.2.1 dL_then_19 (by decide) ?_
          exact g_ri X S1 hr hlk dL_then_20
        · rw [if_neg e2] at hf
          exact nomatch hf
    · dsimp only at hf
      refine g_ci S (runV (As := [.int a1, .int a2]) (rest := [.int 0, rv a3]) X S coL_61 (by decide) (cX12_then_m l hc) (tkX12_then hc) rfl hl.1 (by simp [cat_rv, cat_wv, cat_sv, cat_i, cat_l, cat_a]) rfl ⟨Nat.zero_le _, Nat.zero_le _⟩ dL_then_5) (fun H locs S => ?_)
      refine lv_i2l (v := Int32.toInt64 r) X.1 X.2.1 dL_then_8 rfl ?_
      refine g_qL X S dL_then_9 hf (fun h H locs hm hf S => ?_)
      refine lv_goto (tgt := 21) X.1 X.2.1 dL_then_10 (by decide) ?_
      cases hf
      refine lv_iconst (v := 0) X.1 X.2.1 dL_then_21 (by decide) ?_
      exact w_widen (Nat.zero_le _) (Nat.zero_le _) (g_ri X S hr hlk dL_then_22)
def fL_holds (a0 : Nat) (a1 : Int32) (a2 : Int32) (a3 : Nat) (h : Hp) : Option (Int32 × Hp) := match fX12_holds a0 a1 a2 h with
  | none => none
  | some (.inl k, h) => if k = 1 then some (1, h) else if k = 2 then some (2, h) else none
  | some (.inr r, h) => ob (qL a3 0 (Int32.toInt64 r) h) fun h => some (0, h)
theorem cL_holds_h (l : Launch) (hlt : l.stackTraces = false) {E : EE} {A : Nat → Prop} {a0 : Nat} {a1 : Int32} {a2 : Int32} {a3 : Nat} {h h9 : Hp} {r9 : Int32} (hf : fL_holds a0 a1 a2 a3 h = some (r9, h9)) : vx_Met l yL_holds (wsH yL_holds cL_holds 5 (some .int) [(0, 10, 13, 18), (0, 10, 17, 13)]) (rmm 15 1 6) (PcL E A h [rv a0, .int a1, .int a2, rv a3]) (Qi E A h9 r9) noX 1 6 A := by
  refine met_ofH (by decide +kernel) (by simp [lg_sl, cat_rv, cat_wv, cat_sv, cat_i, cat_l, cat_a]) (fun p e s m args below meth c ls X hr hlk htab hKL S hl => ?_)
  have hl : lv_has ls 5 [(0, rv a0), (1, .int a1), (2, .int a2), (3, rv a3)] := by simpa [lv_args, cat_rv, cat_wv, cat_sv, cat_i, cat_l, cat_a] using hl
  generalize hH : s.heap = H at S ⊢
  generalize hlo : ([] : List Loc) = locs at S ⊢
  clear hH hlo
  unfold fL_holds at hf
  refine g_aload_n X (or_rv _) dL_holds_0 rfl (lv_at hl 3 rfl) ?_
  refine lv_iconst (v := 0) X.1 X.2.1 dL_holds_1 (by decide) ?_
  refine g_aload_n X (or_rv _) dL_holds_2 rfl (lv_at hl 0 rfl) ?_
  refine lv_iload_n X.1 X.2.1 dL_holds_3 rfl (lv_at hl 1 rfl) ?_
  refine lv_iload_n X.1 X.2.1 dL_holds_4 rfl (lv_at hl 2 rfl) ?_
  cases hc : fX12_holds a0 a1 a2 h with
  | none => rw [hc] at hf; exact nomatch hf
  | some z =>
    rw [hc] at hf
    obtain ⟨z, h⟩ := z
    rcases z with k | r
    · dsimp only at hf
      by_cases e1 : k = 1
      · subst e1
        rw [if_pos rfl] at hf
        cases hf
        refine g_thrown S (runVX (As := [.int a1, .int a2]) (rest := [.int 0, rv a3]) X S coL_64 (by decide) (cX12_holds_x l hlt hc) (tkX12_holds hc) rfl hl.1 (by simp [cat_rv, cat_wv, cat_sv, cat_i, cat_l, cat_a]) rfl ⟨Nat.le_refl _, Nat.le_refl _⟩ dL_holds_5) (fun ce q9 H1 locs1 S1 hz hce hcv hcl => ?_)
        refine vx_catch (name := exN 1) X.2.2.2.1 (ex_rows []) (ex_row (0, 10, 13, 18)) (ex_rows [(0, 10, 17, 13)]) (htab.trans rfl) (fun z hz => nomatch hz) (by decide) (by decide) (X.2.2.1 _ (uw_5 165 rfl rfl)) (ex_cast X 1) hce hcv hcl ?_
        refine g_astore (i := 4) (lv' := [(4, .ref q9), (0, rv a0), (1, .int a1), (2, .int a2), (3, rv a3)]) X (Or.inr ⟨_, rfl⟩) dL_holds_13 hl (by decide) (by simp [cat_rv, cat_wv, cat_sv, cat_i, cat_l, cat_a]) (fun ls hl => ?_)
        refine lv_iconst (v := 1) X.1 X.2.1 dL_holds_15 (by decide) ?_
        exact g_ri X S1 hr hlk dL_holds_16
      · rw [if_neg e1] at hf
        by_cases e2 : k = 2
        · subst e2
          rw [if_pos rfl] at hf
          cases hf
          refine g_thrown S (runVX (As := [.int a1, .int a2]) (rest := [.int 0, rv a3]) X S coL_64 (by decide) (cX12_holds_x l hlt hc) (tkX12_holds hc) rfl hl.1 (by simp [cat_rv, cat_wv, cat_sv, cat_i, cat_l, cat_a]) rfl ⟨Nat.le_refl _, Nat.le_refl _⟩ dL_holds_5) (fun ce q9 H1 locs1 S1 hz hce hcv hcl => ?_)
          refine vx_catch (name := exN 2) X.2.2.2.1 (ex_rows [(0, 10, 13, 18)]) (ex_row (0, 10, 17, 13)) (ex_rows []) (htab.trans rfl) (ex_pass1 X (by decide) ((uw_5 165 rfl rfl)) hKL.1) (by decide) (by decide) (X.2.2.1 _ (uw_4 127 rfl rfl)) (ex_cast X 2) hce hcv hcl ?_
          refine g_astore (i := 4) (lv' := [(4, .ref q9), (0, rv a0), (1, .int a1), (2, .int a2), (3, rv a3)]) X (Or.inr ⟨_, rfl⟩) dL_holds_17 hl (by decide) (by simp [cat_rv, cat_wv, cat_sv, cat_i, cat_l, cat_a]) (fun ls hl => ?_)
          refine lv_iconst (v := 2) X.1 X.2.1 dL_holds_19 (by decide) ?_
          exact g_ri X S1 hr hlk dL_holds_20
        · rw [if_neg e2] at hf
          exact nomatch hf
    · dsimp only at hf
      refine g_ci S (runV (As := [.int a1, .int a2]) (rest := [.int 0, rv a3]) X S coL_64 (by decide) (cX12_holds_m l hc) (tkX12_holds hc) rfl hl.1 (by simp [cat_rv, cat_wv, cat_sv, cat_i, cat_l, cat_a]) rfl ⟨Nat.zero_le _, Nat.zero_le _⟩ dL_holds_5) (fun H locs S => ?_)
      refine lv_i2l (v := Int32.toInt64 r) X.1 X.2.1 dL_holds_8 rfl ?_
      refine g_qL X S dL_holds_9 hf (fun h H locs hm hf S => ?_)
      refine lv_goto (tgt := 21) X.1 X.2.1 dL_holds_10 (by decide) ?_
      cases hf
      refine lv_iconst (v := 0) X.1 X.2.1 dL_holds_21 (by decide) ?_
      exact w_widen (Nat.zero_le _) (Nat.zero_le _) (g_ri X S hr hlk dL_holds_22)
def fL_where (a0 : Nat) (a1 : Int32) (a2 : Int32) (a3 : Nat) (h : Hp) : Option (Int32 × Hp) := match fX12_where a0 a1 a2 h with
  | none => none
  | some (.inl k, h) => if k = 1 then some (1, h) else if k = 2 then some (2, h) else none
  | some (.inr r, h) => ob (qL a3 0 (Int32.toInt64 r) h) fun h => some (0, h)
theorem cL_where_h (l : Launch) (hlt : l.stackTraces = false) {E : EE} {A : Nat → Prop} {a0 : Nat} {a1 : Int32} {a2 : Int32} {a3 : Nat} {h h9 : Hp} {r9 : Int32} (hf : fL_where a0 a1 a2 a3 h = some (r9, h9)) : vx_Met l yL_where (wsH yL_where cL_where 5 (some .int) [(0, 10, 13, 18), (0, 10, 17, 13)]) (rmm 15 1 6) (PcL E A h [rv a0, .int a1, .int a2, rv a3]) (Qi E A h9 r9) noX 1 6 A := by
  refine met_ofH (by decide +kernel) (by simp [lg_sl, cat_rv, cat_wv, cat_sv, cat_i, cat_l, cat_a]) (fun p e s m args below meth c ls X hr hlk htab hKL S hl => ?_)
  have hl : lv_has ls 5 [(0, rv a0), (1, .int a1), (2, .int a2), (3, rv a3)] := by simpa [lv_args, cat_rv, cat_wv, cat_sv, cat_i, cat_l, cat_a] using hl
  generalize hH : s.heap = H at S ⊢
  generalize hlo : ([] : List Loc) = locs at S ⊢
  clear hH hlo
  unfold fL_where at hf
  refine g_aload_n X (or_rv _) dL_where_0 rfl (lv_at hl 3 rfl) ?_
  refine lv_iconst (v := 0) X.1 X.2.1 dL_where_1 (by decide) ?_
  refine g_aload_n X (or_rv _) dL_where_2 rfl (lv_at hl 0 rfl) ?_
  refine lv_iload_n X.1 X.2.1 dL_where_3 rfl (lv_at hl 1 rfl) ?_
  refine lv_iload_n X.1 X.2.1 dL_where_4 rfl (lv_at hl 2 rfl) ?_
  cases hc : fX12_where a0 a1 a2 h with
  | none => rw [hc] at hf; exact nomatch hf
  | some z =>
    rw [hc] at hf
    obtain ⟨z, h⟩ := z
    rcases z with k | r
    · dsimp only at hf
      by_cases e1 : k = 1
      · subst e1
        rw [if_pos rfl] at hf
        cases hf
        refine g_thrown S (runVX (As := [.int a1, .int a2]) (rest := [.int 0, rv a3]) X S coL_67 (by decide) (cX12_where_x l hlt hc) (tkX12_where hc) rfl hl.1 (by simp [cat_rv, cat_wv, cat_sv, cat_i, cat_l, cat_a]) rfl ⟨Nat.le_refl _, Nat.le_refl _⟩ dL_where_5) (fun ce q9 H1 locs1 S1 hz hce hcv hcl => ?_)
        refine vx_catch (name := exN 1) X.2.2.2.1 (ex_rows []) (ex_row (0, 10, 13, 18)) (ex_rows [(0, 10, 17, 13)]) (htab.trans rfl) (fun z hz => nomatch hz) (by decide) (by decide) (X.2.2.1 _ (uw_5 165 rfl rfl)) (ex_cast X 1) hce hcv hcl ?_
        refine g_astore (i := 4) (lv' := [(4, .ref q9), (0, rv a0), (1, .int a1), (2, .int a2), (3, rv a3)]) X (Or.inr ⟨_, rfl⟩) dL_where_13 hl (by decide) (by simp [cat_rv, cat_wv, cat_sv, cat_i, cat_l, cat_a]) (fun ls hl => ?_)
        refine lv_iconst (v := 1) X.1 X.2.1 dL_where_15 (by decide) ?_
        exact g_ri X S1 hr hlk dL_where_16
      · rw [if_neg e1] at hf
        by_cases e2 : k = 2
        · subst e2
          rw [if_pos rfl] at hf
          cases hf
          refine g_thrown S (runVX (As := [.int a1, .int a2]) (rest := [.int 0, rv a3]) X S coL_67 (by decide) (cX12_where_x l hlt hc) (tkX12_where hc) rfl hl.1 (by simp [cat_rv, cat_wv, cat_sv, cat_i, cat_l, cat_a]) rfl ⟨Nat.le_refl _, Nat.le_refl _⟩ dL_where_5) (fun ce q9 H1 locs1 S1 hz hce hcv hcl => ?_)
          refine vx_catch (name := exN 2) X.2.2.2.1 (ex_rows [(0, 10, 13, 18)]) (ex_row (0, 10, 17, 13)) (ex_rows []) (htab.trans rfl) (ex_pass1 X (by decide) ((uw_5 165 rfl rfl)) hKL.1) (by decide) (by decide) (X.2.2.1 _ (uw_4 127 rfl rfl)) (ex_cast X 2) hce hcv hcl ?_
          refine g_astore (i := 4) (lv' := [(4, .ref q9), (0, rv a0), (1, .int a1), (2, .int a2), (3, rv a3)]) X (Or.inr ⟨_, rfl⟩) dL_where_17 hl (by decide) (by simp [cat_rv, cat_wv, cat_sv, cat_i, cat_l, cat_a]) (fun ls hl => ?_)
          refine lv_iconst (v := 2) X.1 X.2.1 dL_where_19 (by decide) ?_
          exact g_ri X S1 hr hlk dL_where_20
        · rw [if_neg e2] at hf
          exact nomatch hf
    · dsimp only at hf
      refine g_ci S (runV (As := [.int a1, .int a2]) (rest := [.int 0, rv a3]) X S coL_67 (by decide) (cX12_where_m l hc) (tkX12_where hc) rfl hl.1 (by simp [cat_rv, cat_wv, cat_sv, cat_i, cat_l, cat_a]) rfl ⟨Nat.zero_le _, Nat.zero_le _⟩ dL_where_5) (fun H locs S => ?_)
      refine lv_i2l (v := Int32.toInt64 r) X.1 X.2.1 dL_where_8 rfl ?_
      refine g_qL X S dL_where_9 hf (fun h H locs hm hf S => ?_)
      refine lv_goto (tgt := 21) X.1 X.2.1 dL_where_10 (by decide) ?_
      cases hf
      refine lv_iconst (v := 0) X.1 X.2.1 dL_where_21 (by decide) ?_
      exact w_widen (Nat.zero_le _) (Nat.zero_le _) (g_ri X S hr hlk dL_where_22)
def fL_faults (a0 : Nat) (a1 : Int32) (a2 : Nat) (h : Hp) : Option (Int32 × Hp) := match fX12_faults a0 a1 h with
  | none => none
  | some (.inl k, h) => if k = 1 then some (1, h) else none
  | some (.inr r, h) => ob (qL a2 0 (Int32.toInt64 r) h) fun h => some (0, h)
theorem cL_faults_h (l : Launch) (hlt : l.stackTraces = false) {E : EE} {A : Nat → Prop} {a0 : Nat} {a1 : Int32} {a2 : Nat} {h h9 : Hp} {r9 : Int32} (hf : fL_faults a0 a1 a2 h = some (r9, h9)) : vx_Met l yL_faults (wsH yL_faults cL_faults 4 (some .int) [(0, 9, 12, 18)]) (rmm 15 1 6) (PcL E A h [rv a0, .int a1, rv a2]) (Qi E A h9 r9) noX 1 6 A := by
  refine met_ofH (by decide +kernel) (by simp [lg_sl, cat_rv, cat_wv, cat_sv, cat_i, cat_l, cat_a]) (fun p e s m args below meth c ls X hr hlk htab hKL S hl => ?_)
  have hl : lv_has ls 4 [(0, rv a0), (1, .int a1), (2, rv a2)] := by simpa [lv_args, cat_rv, cat_wv, cat_sv, cat_i, cat_l, cat_a] using hl
  generalize hH : s.heap = H at S ⊢
  generalize hlo : ([] : List Loc) = locs at S ⊢
  clear hH hlo
  unfold fL_faults at hf
  refine g_aload_n X (or_rv _) dL_faults_0 rfl (lv_at hl 2 rfl) ?_
  refine lv_iconst (v := 0) X.1 X.2.1 dL_faults_1 (by decide) ?_
  refine g_aload_n X (or_rv _) dL_faults_2 rfl (lv_at hl 0 rfl) ?_
  refine lv_iload_n X.1 X.2.1 dL_faults_3 rfl (lv_at hl 1 rfl) ?_
  cases hc : fX12_faults a0 a1 h with
  | none => rw [hc] at hf; exact nomatch hf
  | some z =>
    rw [hc] at hf
    obtain ⟨z, h⟩ := z
    rcases z with k | r
    · dsimp only at hf
      by_cases e1 : k = 1
      · subst e1
        rw [if_pos rfl] at hf
        cases hf
        refine g_thrown S (runVX (As := [.int a1]) (rest := [.int 0, rv a2]) X S coL_70 (by decide) (cX12_faults_x l hlt hc) (tkX12_faults hc) rfl hl.1 (by simp [cat_rv, cat_wv, cat_sv, cat_i, cat_l, cat_a]) rfl ⟨Nat.le_refl _, Nat.le_refl _⟩ dL_faults_4) (fun ce q9 H1 locs1 S1 hz hce hcv hcl => ?_)
        refine vx_catch (name := exN 1) X.2.2.2.1 (ex_rows []) (ex_row (0, 9, 12, 18)) (ex_rows []) (htab.trans rfl) (fun z hz => nomatch hz) (by decide) (by decide) (X.2.2.1 _ (uw_5 165 rfl rfl)) (ex_cast X 1) hce hcv hcl ?_
        refine g_astore_n (i := 3) (lv' := [(3, .ref q9), (0, rv a0), (1, .int a1), (2, rv a2)]) X (Or.inr ⟨_, rfl⟩) dL_faults_12 rfl hl (by decide) (by simp [cat_rv, cat_wv, cat_sv, cat_i, cat_l, cat_a]) (fun ls hl => ?_)
        refine lv_iconst (v := 1) X.1 X.2.1 dL_faults_13 (by decide) ?_
        exact g_ri X S1 hr hlk dL_faults_14
      · rw [if_neg e1] at hf
        exact nomatch hf
    · dsimp only at hf
      refine g_ci S (runV (As := [.int a1]) (rest := [.int 0, rv a2]) X S coL_70 (by decide) (cX12_faults_m l hc) (tkX12_faults hc) rfl hl.1 (by simp [cat_rv, cat_wv, cat_sv, cat_i, cat_l, cat_a]) rfl ⟨Nat.zero_le _, Nat.zero_le _⟩ dL_faults_4) (fun H locs S => ?_)
      refine lv_i2l (v := Int32.toInt64 r) X.1 X.2.1 dL_faults_7 rfl ?_
      refine g_qL X S dL_faults_8 hf (fun h H locs hm hf S => ?_)
      refine lv_goto (tgt := 15) X.1 X.2.1 dL_faults_9 (by decide) ?_
      cases hf
      refine lv_iconst (v := 0) X.1 X.2.1 dL_faults_15 (by decide) ?_
      exact w_widen (Nat.zero_le _) (Nat.zero_le _) (g_ri X S hr hlk dL_faults_16)
def fL_changes (a0 : Nat) (a1 : Int32) (a2 : Nat) (h : Hp) : Option (Int32 × Hp) := match fX12_changes a0 a1 h with
  | none => none
  | some (.inl k, h) => if k = 1 then some (1, h) else none
  | some (.inr r, h) => ob (qL a2 0 (Int32.toInt64 r) h) fun h => some (0, h)
theorem cL_changes_h (l : Launch) (hlt : l.stackTraces = false) {E : EE} {A : Nat → Prop} {a0 : Nat} {a1 : Int32} {a2 : Nat} {h h9 : Hp} {r9 : Int32} (hf : fL_changes a0 a1 a2 h = some (r9, h9)) : vx_Met l yL_changes (wsH yL_changes cL_changes 4 (some .int) [(0, 9, 12, 18)]) (rmm 15 1 6) (PcL E A h [rv a0, .int a1, rv a2]) (Qi E A h9 r9) noX 1 6 A := by
  refine met_ofH (by decide +kernel) (by simp [lg_sl, cat_rv, cat_wv, cat_sv, cat_i, cat_l, cat_a]) (fun p e s m args below meth c ls X hr hlk htab hKL S hl => ?_)
  have hl : lv_has ls 4 [(0, rv a0), (1, .int a1), (2, rv a2)] := by simpa [lv_args, cat_rv, cat_wv, cat_sv, cat_i, cat_l, cat_a] using hl
  generalize hH : s.heap = H at S ⊢
  generalize hlo : ([] : List Loc) = locs at S ⊢
  clear hH hlo
  unfold fL_changes at hf
  refine g_aload_n X (or_rv _) dL_changes_0 rfl (lv_at hl 2 rfl) ?_
  refine lv_iconst (v := 0) X.1 X.2.1 dL_changes_1 (by decide) ?_
  refine g_aload_n X (or_rv _) dL_changes_2 rfl (lv_at hl 0 rfl) ?_
  refine lv_iload_n X.1 X.2.1 dL_changes_3 rfl (lv_at hl 1 rfl) ?_
  cases hc : fX12_changes a0 a1 h with
  | none => rw [hc] at hf; exact nomatch hf
  | some z =>
    rw [hc] at hf
    obtain ⟨z, h⟩ := z
    rcases z with k | r
    · dsimp only at hf
      by_cases e1 : k = 1
      · subst e1
        rw [if_pos rfl] at hf
        cases hf
        refine g_thrown S (runVX (As := [.int a1]) (rest := [.int 0, rv a2]) X S coL_73 (by decide) (cX12_changes_x l hlt hc) (tkX12_changes hc) rfl hl.1 (by simp [cat_rv, cat_wv, cat_sv, cat_i, cat_l, cat_a]) rfl ⟨Nat.le_refl _, Nat.le_refl _⟩ dL_changes_4) (fun ce q9 H1 locs1 S1 hz hce hcv hcl => ?_)
        refine vx_catch (name := exN 1) X.2.2.2.1 (ex_rows []) (ex_row (0, 9, 12, 18)) (ex_rows []) (htab.trans rfl) (fun z hz => nomatch hz) (by decide) (by decide) (X.2.2.1 _ (uw_5 165 rfl rfl)) (ex_cast X 1) hce hcv hcl ?_
        refine g_astore_n (i := 3) (lv' := [(3, .ref q9), (0, rv a0), (1, .int a1), (2, rv a2)]) X (Or.inr ⟨_, rfl⟩) dL_changes_12 rfl hl (by decide) (by simp [cat_rv, cat_wv, cat_sv, cat_i, cat_l, cat_a]) (fun ls hl => ?_)
        refine lv_iconst (v := 1) X.1 X.2.1 dL_changes_13 (by decide) ?_
        exact g_ri X S1 hr hlk dL_changes_14
      · rw [if_neg e1] at hf
        exact nomatch hf
    · dsimp only at hf
      refine g_ci S (runV (As := [.int a1]) (rest := [.int 0, rv a2]) X S coL_73 (by decide) (cX12_changes_m l hc) (tkX12_changes hc) rfl hl.1 (by simp [cat_rv, cat_wv, cat_sv, cat_i, cat_l, cat_a]) rfl ⟨Nat.zero_le _, Nat.zero_le _⟩ dL_changes_4) (fun H locs S => ?_)
      refine lv_i2l (v := Int32.toInt64 r) X.1 X.2.1 dL_changes_7 rfl ?_
      refine g_qL X S dL_changes_8 hf (fun h H locs hm hf S => ?_)
      refine lv_goto (tgt := 15) X.1 X.2.1 dL_changes_9 (by decide) ?_
      cases hf
      refine lv_iconst (v := 0) X.1 X.2.1 dL_changes_15 (by decide) ?_
      exact w_widen (Nat.zero_le _) (Nat.zero_le _) (g_ri X S hr hlk dL_changes_16)
def fL_spoilt (a0 : Nat) (a1 : Int32) (a2 : Int32) (a3 : Int32) (a4 : Int32) (a5 : Nat) (h : Hp) : Option (Int32 × Hp) := match fX12_spoilt a0 a1 a2 a3 a4 h with
  | none => none
  | some (.inl k, h) => if k = 1 then some (1, h) else if k = 2 then some (2, h) else none
  | some (.inr r, h) => ob (qL a5 0 (Int32.toInt64 r) h) fun h => some (0, h)
theorem cL_spoilt_h (l : Launch) (hlt : l.stackTraces = false) {E : EE} {A : Nat → Prop} {a0 : Nat} {a1 : Int32} {a2 : Int32} {a3 : Int32} {a4 : Int32} {a5 : Nat} {h h9 : Hp} {r9 : Int32} (hf : fL_spoilt a0 a1 a2 a3 a4 a5 h = some (r9, h9)) : vx_Met l yL_spoilt (wsH yL_spoilt cL_spoilt 7 (some .int) [(0, 14, 17, 18), (0, 14, 21, 13)]) (rmm 16 1 6) (PcL E A h [rv a0, .int a1, .int a2, .int a3, .int a4, rv a5]) (Qi E A h9 r9) noX 1 6 A := by
  refine met_ofH (by decide +kernel) (by simp [lg_sl, cat_rv, cat_wv, cat_sv, cat_i, cat_l, cat_a]) (fun p e s m args below meth c ls X hr hlk htab hKL S hl => ?_)
  have hl : lv_has ls 7 [(0, rv a0), (1, .int a1), (2, .int a2), (3, .int a3), (4, .int a4), (5, rv a5)] := by simpa [lv_args, cat_rv, cat_wv, cat_sv, cat_i, cat_l, cat_a] using hl
  generalize hH : s.heap = H at S ⊢
  generalize hlo : ([] : List Loc) = locs at S ⊢
  clear hH hlo
  unfold fL_spoilt at hf
  refine g_aload X (or_rv _) dL_spoilt_0 (lv_at hl 5 rfl) ?_
  refine lv_iconst (v := 0) X.1 X.2.1 dL_spoilt_2 (by decide) ?_
  refine g_aload_n X (or_rv _) dL_spoilt_3 rfl (lv_at hl 0 rfl) ?_
  refine lv_iload_n X.1 X.2.1 dL_spoilt_4 rfl (lv_at hl 1 rfl) ?_
  refine lv_iload_n X.1 X.2.1 dL_spoilt_5 rfl (lv_at hl 2 rfl) ?_
  refine lv_iload_n X.1 X.2.1 dL_spoilt_6 rfl (lv_at hl 3 rfl) ?_
  refine lv_iload X.1 X.2.1 dL_spoilt_7 (lv_at hl 4 rfl) ?_
  cases hc : fX12_spoilt a0 a1 a2 a3 a4 h with
  | none => rw [hc] at hf; exact nomatch hf
  | some z =>
    rw [hc] at hf
    obtain ⟨z, h⟩ := z
    rcases z with k | r
    · dsimp only at hf
      by_cases e1 : k = 1
      · subst e1
        rw [if_pos rfl] at hf
        cases hf
        refine g_thrown S (runVX (As := [.int a1, .int a2, .int a3, .int a4]) (rest := [.int 0, rv a5]) X S coL_76 (by decide) (cX12_spoilt_x l hlt hc) (tkX12_spoilt hc) rfl hl.1 (by simp [cat_rv, cat_wv, cat_sv, cat_i, cat_l, cat_a]) rfl ⟨Nat.le_refl _, Nat.le_refl _⟩ dL_spoilt_9) (fun ce q9 H1 locs1 S1 hz hce hcv hcl => ?_)
        refine vx_catch (name := exN 1) X.2.2.2.1 (ex_rows []) (ex_row (0, 14, 17, 18)) (ex_rows [(0, 14, 21, 13)]) (htab.trans rfl) (fun z hz => nomatch hz) (by decide) (by decide) (X.2.2.1 _ (uw_5 165 rfl rfl)) (ex_cast X 1) hce hcv hcl ?_
        refine g_astore (i := 6) (lv' := [(6, .ref q9), (0, rv a0), (1, .int a1), (2, .int a2), (3, .int a3), (4, .int a4), (5, rv a5)]) X (Or.inr ⟨_, rfl⟩) dL_spoilt_17 hl (by decide) (by simp [cat_rv, cat_wv, cat_sv, cat_i, cat_l, cat_a]) (fun ls hl => ?_)
        refine lv_iconst (v := 1) X.1 X.2.1 dL_spoilt_19 (by decide) ?_
        exact g_ri X S1 hr hlk dL_spoilt_20
      · rw [if_neg e1] at hf
        by_cases e2 : k = 2
        · subst e2
          rw [if_pos rfl] at hf
          cases hf
          refine g_thrown S (runVX (As := [.int a1, .int a2, .int a3, .int a4]) (rest := [.int 0, rv a5]) X S coL_76 (by decide) (cX12_spoilt_x l hlt hc) (tkX12_spoilt hc) rfl hl.1 (by simp [cat_rv, cat_wv, cat_sv, cat_i, cat_l, cat_a]) rfl ⟨Nat.le_refl _, Nat.le_refl _⟩ dL_spoilt_9) (fun ce q9 H1 locs1 S1 hz hce hcv hcl => ?_)
          refine vx_catch (name := exN 2) X.2.2.2.1 (ex_rows [(0, 14, 17, 18)]) (ex_row (0, 14, 21, 13)) (ex_rows []) (htab.trans rfl) (ex_pass1 X (by decide) ((uw_5 165 rfl rfl)) hKL.1) (by decide) (by decide) (X.2.2.1 _ (uw_4 127 rfl rfl)) (ex_cast X 2) hce hcv hcl ?_
          refine g_astore (i := 6) (lv' := [(6, .ref q9), (0, rv a0), (1, .int a1), (2, .int a2), (3, .int a3), (4, .int a4), (5, rv a5)]) X (Or.inr ⟨_, rfl⟩) dL_spoilt_21 hl (by decide) (by simp [cat_rv, cat_wv, cat_sv, cat_i, cat_l, cat_a]) (fun ls hl => ?_)
          refine lv_iconst (v := 2) X.1 X.2.1 dL_spoilt_23 (by decide) ?_
          exact g_ri X S1 hr hlk dL_spoilt_24
        · rw [if_neg e2] at hf
          exact nomatch hf
    · dsimp only at hf
      refine g_ci S (runV (As := [.int a1, .int a2, .int a3, .int a4]) (rest := [.int 0, rv a5]) X S coL_76 (by decide) (cX12_spoilt_m l hc) (tkX12_spoilt hc) rfl hl.1 (by simp [cat_rv, cat_wv, cat_sv, cat_i, cat_l, cat_a]) rfl ⟨Nat.zero_le _, Nat.zero_le _⟩ dL_spoilt_9) (fun H locs S => ?_)
      refine lv_i2l (v := Int32.toInt64 r) X.1 X.2.1 dL_spoilt_12 rfl ?_
      refine g_qL X S dL_spoilt_13 hf (fun h H locs hm hf S => ?_)
      refine lv_goto (tgt := 25) X.1 X.2.1 dL_spoilt_14 (by decide) ?_
      cases hf
      refine lv_iconst (v := 0) X.1 X.2.1 dL_spoilt_25 (by decide) ?_
      exact w_widen (Nat.zero_le _) (Nat.zero_le _) (g_ri X S hr hlk dL_spoilt_26)
def fL_blamed (a0 : Nat) (a1 : Int32) (a2 : Int32) (a3 : Int32) (a4 : Nat) (h : Hp) : Option (Int32 × Hp) := match fX12_blamed a0 a1 a2 a3 h with
  | none => none
  | some (.inl k, h) => if k = 1 then some (1, h) else if k = 2 then some (2, h) else none
  | some (.inr r, h) => ob (qL a4 0 (Int32.toInt64 r) h) fun h => some (0, h)
theorem cL_blamed_h (l : Launch) (hlt : l.stackTraces = false) {E : EE} {A : Nat → Prop} {a0 : Nat} {a1 : Int32} {a2 : Int32} {a3 : Int32} {a4 : Nat} {h h9 : Hp} {r9 : Int32} (hf : fL_blamed a0 a1 a2 a3 a4 h = some (r9, h9)) : vx_Met l yL_blamed (wsH yL_blamed cL_blamed 6 (some .int) [(0, 12, 15, 18), (0, 12, 19, 13)]) (rmm 16 1 6) (PcL E A h [rv a0, .int a1, .int a2, .int a3, rv a4]) (Qi E A h9 r9) noX 1 6 A := by
  refine met_ofH (by decide +kernel) (by simp [lg_sl, cat_rv, cat_wv, cat_sv, cat_i, cat_l, cat_a]) (fun p e s m args below meth c ls X hr hlk htab hKL S hl => ?_)
  have hl : lv_has ls 6 [(0, rv a0), (1, .int a1), (2, .int a2), (3, .int a3), (4, rv a4)] := by simpa [lv_args, cat_rv, cat_wv, cat_sv, cat_i, cat_l, cat_a] using hl
  generalize hH : s.heap = H at S ⊢
  generalize hlo : ([] : List Loc) = locs at S ⊢
  clear hH hlo
  unfold fL_blamed at hf
  refine g_aload X (or_rv _) dL_blamed_0 (lv_at hl 4 rfl) ?_
  refine lv_iconst (v := 0) X.1 X.2.1 dL_blamed_2 (by decide) ?_
  refine g_aload_n X (or_rv _) dL_blamed_3 rfl (lv_at hl 0 rfl) ?_
  refine lv_iload_n X.1 X.2.1 dL_blamed_4 rfl (lv_at hl 1 rfl) ?_
  refine lv_iload_n X.1 X.2.1 dL_blamed_5 rfl (lv_at hl 2 rfl) ?_
  refine lv_iload_n X.1 X.2.1 dL_blamed_6 rfl (lv_at hl 3 rfl) ?_
  cases hc : fX12_blamed a0 a1 a2 a3 h with
  | none => rw [hc] at hf; exact nomatch hf
  | some z =>
    rw [hc] at hf
    obtain ⟨z, h⟩ := z
    rcases z with k | r
    · dsimp only at hf
      by_cases e1 : k = 1
      · subst e1
        rw [if_pos rfl] at hf
        cases hf
        refine g_thrown S (runVX (As := [.int a1, .int a2, .int a3]) (rest := [.int 0, rv a4]) X S coL_80 (by decide) (cX12_blamed_x l hlt hc) (tkX12_blamed hc) rfl hl.1 (by simp [cat_rv, cat_wv, cat_sv, cat_i, cat_l, cat_a]) rfl ⟨Nat.le_refl _, Nat.le_refl _⟩ dL_blamed_7) (fun ce q9 H1 locs1 S1 hz hce hcv hcl => ?_)
        refine vx_catch (name := exN 1) X.2.2.2.1 (ex_rows []) (ex_row (0, 12, 15, 18)) (ex_rows [(0, 12, 19, 13)]) (htab.trans rfl) (fun z hz => nomatch hz) (by decide) (by decide) (X.2.2.1 _ (uw_5 165 rfl rfl)) (ex_cast X 1) hce hcv hcl ?_
        refine g_astore (i := 5) (lv' := [(5, .ref q9), (0, rv a0), (1, .int a1), (2, .int a2), (3, .int a3), (4, rv a4)]) X (Or.inr ⟨_, rfl⟩) dL_blamed_15 hl (by decide) (by simp [cat_rv, cat_wv, cat_sv, cat_i, cat_l, cat_a]) (fun ls hl => ?_)
        refine lv_iconst (v := 1) X.1 X.2.1 dL_blamed_17 (by decide) ?_
        exact g_ri X S1 hr hlk dL_blamed_18
      · rw [if_neg e1] at hf
        by_cases e2 : k = 2
        · subst e2
          rw [if_pos rfl] at hf
          cases hf
          refine g_thrown S (runVX (As := [.int a1, .int a2, .int a3]) (rest := [.int 0, rv a4]) X S coL_80 (by decide) (cX12_blamed_x l hlt hc) (tkX12_blamed hc) rfl hl.1 (by simp [cat_rv, cat_wv, cat_sv, cat_i, cat_l, cat_a]) rfl ⟨Nat.le_refl _, Nat.le_refl _⟩ dL_blamed_7) (fun ce q9 H1 locs1 S1 hz hce hcv hcl => ?_)
          refine vx_catch (name := exN 2) X.2.2.2.1 (ex_rows [(0, 12, 15, 18)]) (ex_row (0, 12, 19, 13)) (ex_rows []) (htab.trans rfl) (ex_pass1 X (by decide) ((uw_5 165 rfl rfl)) hKL.1) (by decide) (by decide) (X.2.2.1 _ (uw_4 127 rfl rfl)) (ex_cast X 2) hce hcv hcl ?_
          refine g_astore (i := 5) (lv' := [(5, .ref q9), (0, rv a0), (1, .int a1), (2, .int a2), (3, .int a3), (4, rv a4)]) X (Or.inr ⟨_, rfl⟩) dL_blamed_19 hl (by decide) (by simp [cat_rv, cat_wv, cat_sv, cat_i, cat_l, cat_a]) (fun ls hl => ?_)
          refine lv_iconst (v := 2) X.1 X.2.1 dL_blamed_21 (by decide) ?_
          exact g_ri X S1 hr hlk dL_blamed_22
        · rw [if_neg e2] at hf
          exact nomatch hf
    · dsimp only at hf
      refine g_ci S (runV (As := [.int a1, .int a2, .int a3]) (rest := [.int 0, rv a4]) X S coL_80 (by decide) (cX12_blamed_m l hc) (tkX12_blamed hc) rfl hl.1 (by simp [cat_rv, cat_wv, cat_sv, cat_i, cat_l, cat_a]) rfl ⟨Nat.zero_le _, Nat.zero_le _⟩ dL_blamed_7) (fun H locs S => ?_)
      refine lv_i2l (v := Int32.toInt64 r) X.1 X.2.1 dL_blamed_10 rfl ?_
      refine g_qL X S dL_blamed_11 hf (fun h H locs hm hf S => ?_)
      refine lv_goto (tgt := 23) X.1 X.2.1 dL_blamed_12 (by decide) ?_
      cases hf
      refine lv_iconst (v := 0) X.1 X.2.1 dL_blamed_23 (by decide) ?_
      exact w_widen (Nat.zero_le _) (Nat.zero_le _) (g_ri X S hr hlk dL_blamed_24)
def fL_years (a0 : Nat) (a1 : Int32) (a2 : Int32) (a3 : Int32) (a4 : Nat) (h : Hp) : Option (Int32 × Hp) := match fX12_years a0 a1 a2 a3 h with
  | none => none
  | some (.inl k, h) => if k = 1 then some (1, h) else if k = 2 then some (2, h) else none
  | some (.inr r, h) => ob (qL a4 0 (Int32.toInt64 r) h) fun h => some (0, h)
theorem cL_years_h (l : Launch) (hlt : l.stackTraces = false) {E : EE} {A : Nat → Prop} {a0 : Nat} {a1 : Int32} {a2 : Int32} {a3 : Int32} {a4 : Nat} {h h9 : Hp} {r9 : Int32} (hf : fL_years a0 a1 a2 a3 a4 h = some (r9, h9)) : vx_Met l yL_years (wsH yL_years cL_years 6 (some .int) [(0, 12, 15, 18), (0, 12, 19, 13)]) (rmm 15 1 6) (PcL E A h [rv a0, .int a1, .int a2, .int a3, rv a4]) (Qi E A h9 r9) noX 1 6 A := by
  refine met_ofH (by decide +kernel) (by simp [lg_sl, cat_rv, cat_wv, cat_sv, cat_i, cat_l, cat_a]) (fun p e s m args below meth c ls X hr hlk htab hKL S hl => ?_)
  have hl : lv_has ls 6 [(0, rv a0), (1, .int a1), (2, .int a2), (3, .int a3), (4, rv a4)] := by simpa [lv_args, cat_rv, cat_wv, cat_sv, cat_i, cat_l, cat_a] using hl
  generalize hH : s.heap = H at S ⊢
  generalize hlo : ([] : List Loc) = locs at S ⊢
  clear hH hlo
  unfold fL_years at hf
  refine g_aload X (or_rv _) dL_years_0 (lv_at hl 4 rfl) ?_
  refine lv_iconst (v := 0) X.1 X.2.1 dL_years_2 (by decide) ?_
  refine g_aload_n X (or_rv _) dL_years_3 rfl (lv_at hl 0 rfl) ?_
  refine lv_iload_n X.1 X.2.1 dL_years_4 rfl (lv_at hl 1 rfl) ?_
  refine lv_iload_n X.1 X.2.1 dL_years_5 rfl (lv_at hl 2 rfl) ?_
  refine lv_iload_n X.1 X.2.1 dL_years_6 rfl (lv_at hl 3 rfl) ?_
  cases hc : fX12_years a0 a1 a2 a3 h with
  | none => rw [hc] at hf; exact nomatch hf
  | some z =>
    rw [hc] at hf
    obtain ⟨z, h⟩ := z
    rcases z with k | r
    · dsimp only at hf
      by_cases e1 : k = 1
      · subst e1
        rw [if_pos rfl] at hf
        cases hf
        refine g_thrown S (runVX (As := [.int a1, .int a2, .int a3]) (rest := [.int 0, rv a4]) X S coL_83 (by decide) (cX12_years_x l hlt hc) (tkX12_years hc) rfl hl.1 (by simp [cat_rv, cat_wv, cat_sv, cat_i, cat_l, cat_a]) rfl ⟨Nat.le_refl _, Nat.le_refl _⟩ dL_years_7) (fun ce q9 H1 locs1 S1 hz hce hcv hcl => ?_)
        refine vx_catch (name := exN 1) X.2.2.2.1 (ex_rows []) (ex_row (0, 12, 15, 18)) (ex_rows [(0, 12, 19, 13)]) (htab.trans rfl) (fun z hz => nomatch hz) (by decide) (by decide) (X.2.2.1 _ (uw_5 165 rfl rfl)) (ex_cast X 1) hce hcv hcl ?_
        refine g_astore (i := 5) (lv' := [(5, .ref q9), (0, rv a0), (1, .int a1), (2, .int a2), (3, .int a3), (4, rv a4)]) X (Or.inr ⟨_, rfl⟩) dL_years_15 hl (by decide) (by simp [cat_rv, cat_wv, cat_sv, cat_i, cat_l, cat_a]) (fun ls hl => ?_)
        refine lv_iconst (v := 1) X.1 X.2.1 dL_years_17 (by decide) ?_
        exact g_ri X S1 hr hlk dL_years_18
      · rw [if_neg e1] at hf
        by_cases e2 : k = 2
        · subst e2
          rw [if_pos rfl] at hf
          cases hf
          refine g_thrown S (runVX (As := [.int a1, .int a2, .int a3]) (rest := [.int 0, rv a4]) X S coL_83 (by decide) (cX12_years_x l hlt hc) (tkX12_years hc) rfl hl.1 (by simp [cat_rv, cat_wv, cat_sv, cat_i, cat_l, cat_a]) rfl ⟨Nat.le_refl _, Nat.le_refl _⟩ dL_years_7) (fun ce q9 H1 locs1 S1 hz hce hcv hcl => ?_)
          refine vx_catch (name := exN 2) X.2.2.2.1 (ex_rows [(0, 12, 15, 18)]) (ex_row (0, 12, 19, 13)) (ex_rows []) (htab.trans rfl) (ex_pass1 X (by decide) ((uw_5 165 rfl rfl)) hKL.1) (by decide) (by decide) (X.2.2.1 _ (uw_4 127 rfl rfl)) (ex_cast X 2) hce hcv hcl ?_
          refine g_astore (i := 5) (lv' := [(5, .ref q9), (0, rv a0), (1, .int a1), (2, .int a2), (3, .int a3), (4, rv a4)]) X (Or.inr ⟨_, rfl⟩) dL_years_19 hl (by decide) (by simp [cat_rv, cat_wv, cat_sv, cat_i, cat_l, cat_a]) (fun ls hl => ?_)
          refine lv_iconst (v := 2) X.1 X.2.1 dL_years_21 (by decide) ?_
          exact g_ri X S1 hr hlk dL_years_22
        · rw [if_neg e2] at hf
          exact nomatch hf
    · dsimp only at hf
      refine g_ci S (runV (As := [.int a1, .int a2, .int a3]) (rest := [.int 0, rv a4]) X S coL_83 (by decide) (cX12_years_m l hc) (tkX12_years hc) rfl hl.1 (by simp [cat_rv, cat_wv, cat_sv, cat_i, cat_l, cat_a]) rfl ⟨Nat.zero_le _, Nat.zero_le _⟩ dL_years_7) (fun H locs S => ?_)
      refine lv_i2l (v := Int32.toInt64 r) X.1 X.2.1 dL_years_10 rfl ?_
      refine g_qL X S dL_years_11 hf (fun h H locs hm hf S => ?_)
      refine lv_goto (tgt := 23) X.1 X.2.1 dL_years_12 (by decide) ?_
      cases hf
      refine lv_iconst (v := 0) X.1 X.2.1 dL_years_23 (by decide) ?_
      exact w_widen (Nat.zero_le _) (Nat.zero_le _) (g_ri X S hr hlk dL_years_24)
end GL
