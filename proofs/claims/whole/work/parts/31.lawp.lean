section GLP
variable {p : Program} {l : Launch} {e : Env} {R : Room} {s : State} {m : MethodId} {args : Array Value} {below : List Frame} {meth : Method} {c : Code} {E : EE} {A : Nat → Prop} {H : Heap} {locs : List Loc} {cells slots : Nat} {Q : State → Prop} {h : Hp}
def PcLF (E : EE) (A : Nat → Prop) (h : Hp) (av : List Value) : Array Value → State → Prop := fun a U => PcL E A h av a U ∧ U.heap.size = hX h
theorem blindLF {av : List Value} : FrameBlind (PcLF E A h av) := fun a U g mk q => ⟨blindL a U g mk q.1, q.2⟩
theorem met_ofHA {y : MethodName} {b : ByteArray} {maxL D mc ms : Nat} {ret : Option FieldType} {av : List Value} {hh : List (Nat × Nat × Nat × Nat)} {Qc : Array Value → State → Outcome → State → Prop} (hy : plainName y.cls = true) (hn : (lg_sl av).length ≤ maxL) (hmc : mc + hX h = hC h) (hms : ms + hU h = hZ h)
    (body : ∀ (p : Program) (e : Env) (s : State) (m : MethodId) (args : Array Value) (below : List Frame) (meth : Method) (c : Code) (ls : Array Slot), Cx p E A D (rmm D mc ms) s m args c b y.cls maxL → meth.sig.returnType = ret → meth.locks = false → c.exceptionTable.toList = tableOf hh → KonL s → St E A s h s.heap [] → AlI (rmm D mc ms) s h h 0 0 → lv_has ls maxL (lv_args 0 av) →
      W p l e (rmm D mc ms) s m args below meth c s.heap [] 0 0 (MQ below Qc args s mc ms A) (F0 m 0 ls [])) : vx_Met l y (wsH y b maxL ret hh) (rmm D mc ms) (PcLF E A h av) Qc noX mc ms A := by
  refine vx_ofWH (cc := b) (maxL := maxL) (ret := ret) (hh := hh) hy rfl ?_
  intro p e s m args below meth c s₁ B hml hv
  obtain ⟨⟨⟨rfl, hR, hK9, hKo, hA⟩, hL⟩, hsz⟩ := hv
  have hts := atoms_spec (ws := wsH y b maxL ret hh) B.pre
  rw [lg_entry_eq]
  exact vx_ret (body p e s m _ below meth c _ ⟨B.exec, B.bytes, fun w hw => hts w (List.mem_cons_of_mem _ hw), findClass_of_methodNamed B.named, hK9, hml, ⟨Nat.le_refl _, Nat.le_refl _⟩, hKo, hA⟩ B.returns B.notSynchronized (vx_table (x := y) B (hts _ List.mem_cons_self)) hL ⟨hR, va_S.rf⟩ ⟨hmc, hms, hsz, rfl, rfl, rfl, rfl, Nat.zero_le _, Nat.zero_le _, Or.inl rfl⟩ (lv_entry av hn))
theorem coL_7 : COV RL 7 yX12_program cX12_program 3 (some .int) 1 10 := ⟨⟨(uw_4 128 rfl rfl), (uw_4 131 rfl rfl), (uw_1 1 rfl rfl), by decide, by decide +kernel, by decide⟩, (uw_4 129 rfl rfl), (uw_4 130 rfl rfl), _, _, rfl, by decide, by decide⟩
theorem cL_program_x (l : Launch) (hlt : l.stackTraces = false) {E : EE} {A : Nat → Prop} {a0 : Nat} {a1 : Int32} {a2 : Nat} {h h9 : Hp} (hc : fX12_program a0 a1 h = some (.inl 2, h9)) : vx_Met l yL_program (wsH yL_program cL_program 4 (some .int) [(0, 9, 12, 13)]) (rmm 16 1 6) (PcL E A h [rv a0, .int a1, rv a2]) (Qi E A h9 1) noX 1 6 A := by
  refine met_ofH (by decide +kernel) (by simp [lg_sl, cat_rv, cat_wv, cat_sv, cat_i, cat_l, cat_a]) (fun p e s m args below meth c ls X hr hlk htab hKL S hl => ?_)
  have hl : lv_has ls 4 [(0, rv a0), (1, .int a1), (2, rv a2)] := by simpa [lv_args, cat_rv, cat_wv, cat_sv, cat_i, cat_l, cat_a] using hl
  generalize hH : s.heap = H at S ⊢
  generalize hlo : ([] : List Loc) = locs at S ⊢
  clear hH hlo
  refine g_aload_n X (or_rv _) dL_program_0 rfl (lv_at hl 2 rfl) ?_
  refine lv_iconst (v := 0) X.1 X.2.1 dL_program_1 (by decide) ?_
  refine g_aload_n X (or_rv _) dL_program_2 rfl (lv_at hl 0 rfl) ?_
  refine lv_iload_n X.1 X.2.1 dL_program_3 rfl (lv_at hl 1 rfl) ?_
  refine g_thrown S (runVX (As := [.int a1]) (rest := [.int 0, rv a2]) X S coL_7 (by decide) (cX12_program_x l hlt hc) (tkX12_program hc) rfl hl.1 (by simp [cat_rv, cat_wv, cat_sv, cat_i, cat_l, cat_a]) rfl ⟨Nat.le_refl _, Nat.le_refl _⟩ dL_program_4) (fun ce q9 H1 locs1 S1 hz hce hcv hcl => ?_)
  refine vx_catch (name := exN 2) X.2.2.2.1 (ex_rows []) (ex_row (0, 9, 12, 13)) (ex_rows []) (htab.trans rfl) (fun z hz => nomatch hz) (by decide) (by decide) (X.2.2.1 _ (uw_4 127 rfl rfl)) (ex_cast X 2) hce hcv hcl ?_
  refine g_astore_n (i := 3) (lv' := [(3, .ref q9), (0, rv a0), (1, .int a1), (2, rv a2)]) X (Or.inr ⟨_, rfl⟩) dL_program_12 rfl hl (by decide) (by simp [cat_rv, cat_wv, cat_sv, cat_i, cat_l, cat_a]) (fun ls hl => ?_)
  refine lv_iconst (v := 1) X.1 X.2.1 dL_program_13 (by decide) ?_
  exact g_ri X S1 hr hlk dL_program_14
theorem cL_program_m (l : Launch) {E : EE} {A : Nat → Prop} {a0 : Nat} {a1 : Int32} {a2 : Nat} {h h9 : Hp} {h1 : Hp} {r : Int32} {mc ms : Nat} (hmc : mc + hX h = hC h) (hms : ms + hU h = hZ h) (hc : fX12_program a0 a1 h = some (.inr r, h1)) (hok : okA h h1) (hq : qL a2 0 (Int32.toInt64 r) h1 = some h9) : vx_Met l yL_program (wsH yL_program cL_program 4 (some .int) [(0, 9, 12, 13)]) (rmm 16 mc ms) (PcLF E A h [rv a0, .int a1, rv a2]) (QG (Qi E A h9 0) h h9) noX mc ms A := by
  refine met_ofHA (by decide +kernel) (by simp [lg_sl, cat_rv, cat_wv, cat_sv, cat_i, cat_l, cat_a]) hmc hms (fun p e s m args below meth c ls X hr hlk htab hKL S AI hl => ?_)
  have hf : ob (qL a2 0 (Int32.toInt64 r) h1) (fun h => some h) = some h9 := by rw [hq]; rfl
  have hl : lv_has ls 4 [(0, rv a0), (1, .int a1), (2, rv a2)] := by simpa [lv_args, cat_rv, cat_wv, cat_sv, cat_i, cat_l, cat_a] using hl
  generalize hH : s.heap = H at S ⊢
  generalize hlo : ([] : List Loc) = locs at S ⊢
  clear hH hlo
  refine g_aload_n X (or_rv _) dL_program_0 rfl (lv_at hl 2 rfl) ?_
  refine lv_iconst (v := 0) X.1 X.2.1 dL_program_1 (by decide) ?_
  refine g_aload_n X (or_rv _) dL_program_2 rfl (lv_at hl 0 rfl) ?_
  refine lv_iload_n X.1 X.2.1 dL_program_3 rfl (lv_at hl 1 rfl) ?_
  refine g_ciA S AI hok (fun hsz => runVF (As := [.int a1]) (rest := [.int 0, rv a2]) X S hsz coL_7 (by decide) (cX12_program_m l AI.mcs.1 AI.mcs.2 hc) (tkX12_program hc) rfl hl.1 (by simp [cat_rv, cat_wv, cat_sv, cat_i, cat_l, cat_a]) rfl AI.room dL_program_4) (fun H locs cells slots S AI => ?_)
  refine lv_i2l (v := Int32.toInt64 r) X.1 X.2.1 dL_program_7 rfl ?_
  refine g_qL X S dL_program_8 hf (fun h H locs hm hf S => ?_)
  replace AI := AI.sm hm
  refine lv_goto (tgt := 15) X.1 X.2.1 dL_program_9 (by decide) ?_
  refine lv_iconst (v := 0) X.1 X.2.1 dL_program_15 (by decide) ?_
  cases hf
  exact g_riA X S AI hr hlk dL_program_16
end GLP
