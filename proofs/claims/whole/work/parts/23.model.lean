section GM
variable {p : Program} {l : Launch} {e : Env} {R : Room} {s : State} {m : MethodId} {args : Array Value} {below : List Frame} {meth : Method} {c : Code} {E : EE} {A : Nat → Prop}
def fX13_count (a0 : Nat) (a1 : Int32) (h : Hp) : Option (Int32 × Hp) := gd 11 a0 h (ob (pI 11 a0 2 0 h) fun h => if a1 = 0 then ob (gR 11 a0 3 h) fun v2 => ob (aI v2 277 h) fun v3 => some (v3, h) else if a1 = 1 then ob (gR 11 a0 3 h) fun v5 => ob (aI v5 276 h) fun v6 => some (v6, h) else if a1 = 2 then ob (gR 11 a0 3 h) fun v8 => ob (aI v8 265 h) fun v9 => some (v9, h) else if a1 = 3 then ob (gR 11 a0 3 h) fun v11 => ob (aI v11 264 h) fun v12 => some (v12, h) else if a1 = 4 then ob (gR 11 a0 3 h) fun v14 => ob (aI v14 266 h) fun v15 => some (v15, h) else if a1 = 5 then ob (gI 11 a0 13 h) fun v17 => some (v17, h) else if a1 = 6 then ob (gR 11 a0 3 h) fun v19 => ob (aI v19 278 h) fun v20 => some (v20, h) else if a1 = 7 then ob (fX13_undone a0 h) fun v22 => some (v22, h) else if a1 = 8 then ob (gR 11 a0 3 h) fun v24 => ob (aI v24 279 h) fun v25 => some ((imin 64 v25), h) else if a1 = 9 then ob (gI 11 a0 58 h) fun v27 => some (v27, h) else if a1 = 10 then ob (gI 11 a0 59 h) fun v29 => some (v29, h) else if a1 = 11 then ob (gI 11 a0 16 h) fun v31 => some (v31, h) else if a1 = 12 then ob (gR 11 a0 4 h) fun v33 => ob (aI v33 (a1 - 12) h) fun v34 => some (v34, h) else if a1 = 13 then ob (gR 11 a0 4 h) fun v36 => ob (aI v36 (a1 - 12) h) fun v37 => some (v37, h) else if a1 = 14 then ob (gR 11 a0 4 h) fun v39 => ob (aI v39 (a1 - 12) h) fun v40 => some (v40, h) else ob2 (fX13_fail a0 1 h) fun v41 h => some (v41, h))
theorem tkX13_count {a0 : Nat} {a1 : Int32} {h : Hp} {r9 : Int32 × Hp} (e : fX13_count a0 a1 h = some r9) : hK h a0 = 11 := by
  unfold fX13_count at e
  exact (gd_some e).1
theorem cX13_count_m (l : Launch) {E : EE} {A : Nat → Prop} {a0 : Nat} {a1 : Int32} {h : Hp} {r9 : Int32} {h9 : Hp} (hf : fX13_count a0 a1 h = some (r9, h9)) : Met l yX13_count (wsM yX13_count cX13_count 2 (some .int)) (rmm 9 0 0) (PcE E A h [rv a0, .int a1]) (Qi E A h9 r9) 0 0 A := by
  refine met_of (by decide +kernel) (by simp [lg_sl, cat_rv, cat_wv, cat_sv, cat_i, cat_l, cat_a]) (fun p e s m args below meth c ls X hr hlk hnm S hl => ?_)
  have hl : lv_has ls 2 [(0, rv a0), (1, .int a1)] := by simpa [lv_args, cat_rv, cat_wv, cat_sv, cat_i, cat_l, cat_a] using hl
  generalize hH : s.heap = H at S ⊢
  generalize hlo : ([] : List Loc) = locs at S ⊢
  clear hH hlo
  unfold fX13_count at hf
  obtain ⟨hth, hf⟩ := gd_some hf
  refine g_aload_n X (or_rv _) dX13_count_0 rfl (lv_at hl 0 rfl) ?_
  refine lv_iconst (v := 0) X.1 X.2.1 dX13_count_1 (by decide) ?_
  refine g_pI X S fpX13_187 (Or.inl rfl) dX13_count_2 hf (fun h H locs hm hf S => ?_)
  refine lv_iload_n X.1 X.2.1 dX13_count_5 rfl (lv_at hl 1 rfl) ?_
  by_cases c1 : a1 = 0
  · replace hf := (if_pos c1).symm.trans hf
    refine lv_tableIn (tgt := 80) X.1 X.2.1 dX13_count_6 (by rw [c1]; decide) (by rw [c1]; decide) (by rw [c1]; rfl) (by decide) ?_
    refine g_aload_n X (or_rv _) dX13_count_80 rfl (lv_at hl 0 rfl) ?_
    refine g_gR X S foX13_76 dX13_count_81 hf (fun v2 hf => ?_)
    refine lv_sipush (v := 277) X.1 X.2.1 dX13_count_84 (by decide) ?_
    refine g_aI X S dX13_count_87 hf (fun v3 hf => ?_)
    cases hf; exact g_ri X S hr hlk dX13_count_88
  replace hf := (if_neg c1).symm.trans hf
  by_cases c4 : a1 = 1
  · replace hf := (if_pos c4).symm.trans hf
    refine lv_tableIn (tgt := 89) X.1 X.2.1 dX13_count_6 (by rw [c4]; decide) (by rw [c4]; decide) (by rw [c4]; rfl) (by decide) ?_
    refine g_aload_n X (or_rv _) dX13_count_89 rfl (lv_at hl 0 rfl) ?_
    refine g_gR X S foX13_76 dX13_count_90 hf (fun v5 hf => ?_)
    refine lv_sipush (v := 276) X.1 X.2.1 dX13_count_93 (by decide) ?_
    refine g_aI X S dX13_count_96 hf (fun v6 hf => ?_)
    cases hf; exact g_ri X S hr hlk dX13_count_97
  replace hf := (if_neg c4).symm.trans hf
  by_cases c7 : a1 = 2
  · replace hf := (if_pos c7).symm.trans hf
    refine lv_tableIn (tgt := 98) X.1 X.2.1 dX13_count_6 (by rw [c7]; decide) (by rw [c7]; decide) (by rw [c7]; rfl) (by decide) ?_
    refine g_aload_n X (or_rv _) dX13_count_98 rfl (lv_at hl 0 rfl) ?_
    refine g_gR X S foX13_76 dX13_count_99 hf (fun v8 hf => ?_)
    refine lv_sipush (v := 265) X.1 X.2.1 dX13_count_102 (by decide) ?_
    refine g_aI X S dX13_count_105 hf (fun v9 hf => ?_)
    cases hf; exact g_ri X S hr hlk dX13_count_106
  replace hf := (if_neg c7).symm.trans hf
  by_cases c10 : a1 = 3
  · replace hf := (if_pos c10).symm.trans hf
    refine lv_tableIn (tgt := 107) X.1 X.2.1 dX13_count_6 (by rw [c10]; decide) (by rw [c10]; decide) (by rw [c10]; rfl) (by decide) ?_
    refine g_aload_n X (or_rv _) dX13_count_107 rfl (lv_at hl 0 rfl) ?_
    refine g_gR X S foX13_76 dX13_count_108 hf (fun v11 hf => ?_)
    refine lv_sipush (v := 264) X.1 X.2.1 dX13_count_111 (by decide) ?_
    refine g_aI X S dX13_count_114 hf (fun v12 hf => ?_)
    cases hf; exact g_ri X S hr hlk dX13_count_115
  replace hf := (if_neg c10).symm.trans hf
  by_cases c13 : a1 = 4
  · replace hf := (if_pos c13).symm.trans hf
    refine lv_tableIn (tgt := 116) X.1 X.2.1 dX13_count_6 (by rw [c13]; decide) (by rw [c13]; decide) (by rw [c13]; rfl) (by decide) ?_
    refine g_aload_n X (or_rv _) dX13_count_116 rfl (lv_at hl 0 rfl) ?_
    refine g_gR X S foX13_76 dX13_count_117 hf (fun v14 hf => ?_)
    refine lv_sipush (v := 266) X.1 X.2.1 dX13_count_120 (by decide) ?_
    refine g_aI X S dX13_count_123 hf (fun v15 hf => ?_)
    cases hf; exact g_ri X S hr hlk dX13_count_124
  replace hf := (if_neg c13).symm.trans hf
  by_cases c16 : a1 = 5
  · replace hf := (if_pos c16).symm.trans hf
    refine lv_tableIn (tgt := 125) X.1 X.2.1 dX13_count_6 (by rw [c16]; decide) (by rw [c16]; decide) (by rw [c16]; rfl) (by decide) ?_
    refine g_aload_n X (or_rv _) dX13_count_125 rfl (lv_at hl 0 rfl) ?_
    refine g_gI X S foX13_345 rfl dX13_count_126 hf (fun v17 hf => ?_)
    cases hf; exact g_ri X S hr hlk dX13_count_129
  replace hf := (if_neg c16).symm.trans hf
  by_cases c18 : a1 = 6
  · replace hf := (if_pos c18).symm.trans hf
    refine lv_tableIn (tgt := 130) X.1 X.2.1 dX13_count_6 (by rw [c18]; decide) (by rw [c18]; decide) (by rw [c18]; rfl) (by decide) ?_
    refine g_aload_n X (or_rv _) dX13_count_130 rfl (lv_at hl 0 rfl) ?_
    refine g_gR X S foX13_76 dX13_count_131 hf (fun v19 hf => ?_)
    refine lv_sipush (v := 278) X.1 X.2.1 dX13_count_134 (by decide) ?_
    refine g_aI X S dX13_count_137 hf (fun v20 hf => ?_)
    cases hf; exact g_ri X S hr hlk dX13_count_138
  replace hf := (if_neg c18).symm.trans hf
  by_cases c21 : a1 = 7
  · replace hf := (if_pos c21).symm.trans hf
    refine lv_tableIn (tgt := 139) X.1 X.2.1 dX13_count_6 (by rw [c21]; decide) (by rw [c21]; decide) (by rw [c21]; rfl) (by decide) ?_
    refine g_aload_n X (or_rv _) dX13_count_139 rfl (lv_at hl 0 rfl) ?_
    obtain ⟨v22, hc, hf⟩ := ob_some hf
    refine g_ci S (runV (As := []) (rest := []) X S coX13_590 (by decide) (cX13_undone_m l hc) (tkX13_undone hc) rfl hl.1 (by decide) rfl ⟨Nat.zero_le _, Nat.zero_le _⟩ dX13_count_140) (fun H locs S => ?_)
    cases hf; exact g_ri X S hr hlk dX13_count_143
  replace hf := (if_neg c21).symm.trans hf
  by_cases c23 : a1 = 8
  · replace hf := (if_pos c23).symm.trans hf
    refine lv_tableIn (tgt := 144) X.1 X.2.1 dX13_count_6 (by rw [c23]; decide) (by rw [c23]; decide) (by rw [c23]; rfl) (by decide) ?_
    refine lv_bipush (v := 64) X.1 X.2.1 dX13_count_144 (by decide) ?_
    refine g_aload_n X (or_rv _) dX13_count_146 rfl (lv_at hl 0 rfl) ?_
    refine g_gR X S foX13_76 dX13_count_147 hf (fun v24 hf => ?_)
    refine lv_sipush (v := 279) X.1 X.2.1 dX13_count_150 (by decide) ?_
    refine g_aI X S dX13_count_153 hf (fun v25 hf => ?_)
    refine g_min (rest := []) X hl.1 (by decide) (by decide) mlX13_219 u_min_s u_math u_min_c (Nat.zero_le _) (Nat.zero_le _) dX13_count_154 ?_
    cases hf; exact g_ri X S hr hlk dX13_count_157
  replace hf := (if_neg c23).symm.trans hf
  by_cases c26 : a1 = 9
  · replace hf := (if_pos c26).symm.trans hf
    refine lv_tableIn (tgt := 158) X.1 X.2.1 dX13_count_6 (by rw [c26]; decide) (by rw [c26]; decide) (by rw [c26]; rfl) (by decide) ?_
    refine g_aload_n X (or_rv _) dX13_count_158 rfl (lv_at hl 0 rfl) ?_
    refine g_gI X S foX13_348 rfl dX13_count_159 hf (fun v27 hf => ?_)
    cases hf; exact g_ri X S hr hlk dX13_count_162
  replace hf := (if_neg c26).symm.trans hf
  by_cases c28 : a1 = 10
  · replace hf := (if_pos c28).symm.trans hf
    refine lv_tableIn (tgt := 163) X.1 X.2.1 dX13_count_6 (by rw [c28]; decide) (by rw [c28]; decide) (by rw [c28]; rfl) (by decide) ?_
    refine g_aload_n X (or_rv _) dX13_count_163 rfl (lv_at hl 0 rfl) ?_
    refine g_gI X S foX13_351 rfl dX13_count_164 hf (fun v29 hf => ?_)
    cases hf; exact g_ri X S hr hlk dX13_count_167
  replace hf := (if_neg c28).symm.trans hf
  by_cases c30 : a1 = 11
  · replace hf := (if_pos c30).symm.trans hf
    refine lv_tableIn (tgt := 168) X.1 X.2.1 dX13_count_6 (by rw [c30]; decide) (by rw [c30]; decide) (by rw [c30]; rfl) (by decide) ?_
    refine g_aload_n X (or_rv _) dX13_count_168 rfl (lv_at hl 0 rfl) ?_
    refine g_gI X S foX13_190 rfl dX13_count_169 hf (fun v31 hf => ?_)
    cases hf; exact g_ri X S hr hlk dX13_count_172
  replace hf := (if_neg c30).symm.trans hf
  by_cases c32 : a1 = 12
  · replace hf := (if_pos c32).symm.trans hf
    refine lv_tableIn (tgt := 173) X.1 X.2.1 dX13_count_6 (by rw [c32]; decide) (by rw [c32]; decide) (by rw [c32]; rfl) (by decide) ?_
    refine g_aload_n X (or_rv _) dX13_count_173 rfl (lv_at hl 0 rfl) ?_
    refine g_gR X S foX13_80 dX13_count_174 hf (fun v33 hf => ?_)
    refine lv_iload_n X.1 X.2.1 dX13_count_177 rfl (lv_at hl 1 rfl) ?_
    refine lv_bipush (v := 12) X.1 X.2.1 dX13_count_178 (by decide) ?_
    refine lv_isub X.1 X.2.1 dX13_count_180 ?_
    refine g_aI X S dX13_count_181 hf (fun v34 hf => ?_)
    cases hf; exact g_ri X S hr hlk dX13_count_182
  replace hf := (if_neg c32).symm.trans hf
  by_cases c35 : a1 = 13
  · replace hf := (if_pos c35).symm.trans hf
    refine lv_tableIn (tgt := 173) X.1 X.2.1 dX13_count_6 (by rw [c35]; decide) (by rw [c35]; decide) (by rw [c35]; rfl) (by decide) ?_
    refine g_aload_n X (or_rv _) dX13_count_173 rfl (lv_at hl 0 rfl) ?_
    refine g_gR X S foX13_80 dX13_count_174 hf (fun v36 hf => ?_)
    refine lv_iload_n X.1 X.2.1 dX13_count_177 rfl (lv_at hl 1 rfl) ?_
    refine lv_bipush (v := 12) X.1 X.2.1 dX13_count_178 (by decide) ?_
    refine lv_isub X.1 X.2.1 dX13_count_180 ?_
    refine g_aI X S dX13_count_181 hf (fun v37 hf => ?_)
    cases hf; exact g_ri X S hr hlk dX13_count_182
  replace hf := (if_neg c35).symm.trans hf
  by_cases c38 : a1 = 14
  · replace hf := (if_pos c38).symm.trans hf
    refine lv_tableIn (tgt := 173) X.1 X.2.1 dX13_count_6 (by rw [c38]; decide) (by rw [c38]; decide) (by rw [c38]; rfl) (by decide) ?_
    refine g_aload_n X (or_rv _) dX13_count_173 rfl (lv_at hl 0 rfl) ?_
    refine g_gR X S foX13_80 dX13_count_174 hf (fun v39 hf => ?_)
    refine lv_iload_n X.1 X.2.1 dX13_count_177 rfl (lv_at hl 1 rfl) ?_
    refine lv_bipush (v := 12) X.1 X.2.1 dX13_count_178 (by decide) ?_
    refine lv_isub X.1 X.2.1 dX13_count_180 ?_
    refine g_aI X S dX13_count_181 hf (fun v40 hf => ?_)
    cases hf; exact g_ri X S hr hlk dX13_count_182
  replace hf := (if_neg c38).symm.trans hf
  refine lv_tableOut (tgt := 183) X.1 X.2.1 dX13_count_6 (by have e0 := i32_ne c1 (n := 0) (by decide); have e1 := i32_ne c4 (n := 1) (by decide); have e2 := i32_ne c7 (n := 2) (by decide); have e3 := i32_ne c10 (n := 3) (by decide); have e4 := i32_ne c13 (n := 4) (by decide); have e5 := i32_ne c16 (n := 5) (by decide); have e6 := i32_ne c18 (n := 6) (by decide); have e7 := i32_ne c21 (n := 7) (by decide); have e8 := i32_ne c23 (n := 8) (by decide); have e9 := i32_ne c26 (n := 9) (by decide); have e10 := i32_ne c28 (n := 10) (by decide); have e11 := i32_ne c30 (n := 11) (by decide); have e12 := i32_ne c32 (n := 12) (by decide); have e13 := i32_ne c35 (n := 13) (by decide); have e14 := i32_ne c38 (n := 14) (by decide); omega) (by decide) ?_
  refine g_aload_n X (or_rv _) dX13_count_183 rfl (lv_at hl 0 rfl) ?_
  refine lv_iconst (v := 1) X.1 X.2.1 dX13_count_184 (by decide) ?_
  obtain ⟨v41, h, hc, hf⟩ := ob2_some hf
  refine g_ci S (runV (As := [.int 1]) (rest := []) X S coX13_329 (by decide) (cX13_fail_m l hc) (tkX13_fail hc) rfl hl.1 (by decide) rfl ⟨Nat.zero_le _, Nat.zero_le _⟩ dX13_count_185) (fun H locs S => ?_)
  cases hf; exact g_ri X S hr hlk dX13_count_188
def fX13_at (a0 : Nat) (a1 : Int32) (h : Hp) : Option (Int32 × Hp) := gd 11 a0 h (ob (pI 11 a0 2 0 h) fun h => ob (fX13_isIn (Int32.toInt64 a1) 0 255) fun v1 => if v1 = 0 then ob2 (fX13_fail a0 1 h) fun v3 h => some (v3, h) else ob (gR 11 a0 3 h) fun v4 => ob (aI v4 a1 h) fun v5 => some (v5, h))
theorem tkX13_at {a0 : Nat} {a1 : Int32} {h : Hp} {r9 : Int32 × Hp} (e : fX13_at a0 a1 h = some r9) : hK h a0 = 11 := by
  unfold fX13_at at e
  exact (gd_some e).1
theorem cX13_at_m (l : Launch) {E : EE} {A : Nat → Prop} {a0 : Nat} {a1 : Int32} {h : Hp} {r9 : Int32} {h9 : Hp} (hf : fX13_at a0 a1 h = some (r9, h9)) : Met l yX13_at (wsM yX13_at cX13_at 2 (some .int)) (rmm 9 0 0) (PcE E A h [rv a0, .int a1]) (Qi E A h9 r9) 0 0 A := by
  refine met_of (by decide +kernel) (by simp [lg_sl, cat_rv, cat_wv, cat_sv, cat_i, cat_l, cat_a]) (fun p e s m args below meth c ls X hr hlk hnm S hl => ?_)
  have hl : lv_has ls 2 [(0, rv a0), (1, .int a1)] := by simpa [lv_args, cat_rv, cat_wv, cat_sv, cat_i, cat_l, cat_a] using hl
  generalize hH : s.heap = H at S ⊢
  generalize hlo : ([] : List Loc) = locs at S ⊢
  clear hH hlo
  unfold fX13_at at hf
  obtain ⟨hth, hf⟩ := gd_some hf
  refine g_aload_n X (or_rv _) dX13_at_0 rfl (lv_at hl 0 rfl) ?_
  refine lv_iconst (v := 0) X.1 X.2.1 dX13_at_1 (by decide) ?_
  refine g_pI X S fpX13_187 (Or.inl rfl) dX13_at_2 hf (fun h H locs hm hf S => ?_)
  refine lv_iload_n X.1 X.2.1 dX13_at_5 rfl (lv_at hl 1 rfl) ?_
  refine lv_i2l (v := Int32.toInt64 a1) X.1 X.2.1 dX13_at_6 rfl ?_
  refine lv_lconst (v := 0) X.1 X.2.1 dX13_at_7 (by decide) ?_
  refine lv_ldc2 X.1 X.2.1 X.2.2.2.1 (X.2.2.1 _ kuX13_593) dX13_at_8 ?_
  obtain ⟨v1, hc, hf⟩ := ob_some hf
  refine g_ci S (runS (As := [.long (Int32.toInt64 a1), .long 0, .long 255]) (rest := []) X S coX13_287 (by decide) (cX13_isIn_m l hc) rfl hl.1 (by decide) rfl ⟨Nat.zero_le _, Nat.zero_le _⟩ dX13_at_11) (fun H locs S => ?_)
  refine lv_if_eq (tgt := 26) X.1 X.2.1 dX13_at_14 (by decide) (fun c2 => ?_) (fun c2 => ?_)
  · replace hf := (if_pos c2).symm.trans hf
    refine g_aload_n X (or_rv _) dX13_at_26 rfl (lv_at hl 0 rfl) ?_
    refine lv_iconst (v := 1) X.1 X.2.1 dX13_at_27 (by decide) ?_
    obtain ⟨v3, h, hc, hf⟩ := ob2_some hf
    refine g_ci S (runV (As := [.int 1]) (rest := []) X S coX13_329 (by decide) (cX13_fail_m l hc) (tkX13_fail hc) rfl hl.1 (by decide) rfl ⟨Nat.zero_le _, Nat.zero_le _⟩ dX13_at_28) (fun H locs S => ?_)
    cases hf; exact g_ri X S hr hlk dX13_at_31
  · replace hf := (if_neg c2).symm.trans hf
    refine g_aload_n X (or_rv _) dX13_at_17 rfl (lv_at hl 0 rfl) ?_
    refine g_gR X S foX13_76 dX13_at_18 hf (fun v4 hf => ?_)
    refine lv_iload_n X.1 X.2.1 dX13_at_21 rfl (lv_at hl 1 rfl) ?_
    refine g_aI X S dX13_at_22 hf (fun v5 hf => ?_)
    refine lv_goto (tgt := 31) X.1 X.2.1 dX13_at_23 (by decide) ?_
    cases hf; exact g_ri X S hr hlk dX13_at_31
def fX13_register (a0 : Nat) (a1 : Int32) (h : Hp) : Option (Int32 × Hp) := gd 11 a0 h (ob (pI 11 a0 2 0 h) fun h => ob (fX13_isIn (Int32.toInt64 a1) 0 7) fun v1 => if v1 = 0 then ob2 (fX13_fail a0 1 h) fun v3 h => some (v3, h) else ob (gR 11 a0 3 h) fun v4 => ob (aI v4 (256 + a1) h) fun v5 => some (v5, h))
theorem tkX13_register {a0 : Nat} {a1 : Int32} {h : Hp} {r9 : Int32 × Hp} (e : fX13_register a0 a1 h = some r9) : hK h a0 = 11 := by
  unfold fX13_register at e
  exact (gd_some e).1
theorem cX13_register_m (l : Launch) {E : EE} {A : Nat → Prop} {a0 : Nat} {a1 : Int32} {h : Hp} {r9 : Int32} {h9 : Hp} (hf : fX13_register a0 a1 h = some (r9, h9)) : Met l yX13_register (wsM yX13_register cX13_register 2 (some .int)) (rmm 9 0 0) (PcE E A h [rv a0, .int a1]) (Qi E A h9 r9) 0 0 A := by
  refine met_of (by decide +kernel) (by simp [lg_sl, cat_rv, cat_wv, cat_sv, cat_i, cat_l, cat_a]) (fun p e s m args below meth c ls X hr hlk hnm S hl => ?_)
  have hl : lv_has ls 2 [(0, rv a0), (1, .int a1)] := by simpa [lv_args, cat_rv, cat_wv, cat_sv, cat_i, cat_l, cat_a] using hl
  generalize hH : s.heap = H at S ⊢
  generalize hlo : ([] : List Loc) = locs at S ⊢
  clear hH hlo
  unfold fX13_register at hf
  obtain ⟨hth, hf⟩ := gd_some hf
  refine g_aload_n X (or_rv _) dX13_register_0 rfl (lv_at hl 0 rfl) ?_
  refine lv_iconst (v := 0) X.1 X.2.1 dX13_register_1 (by decide) ?_
  refine g_pI X S fpX13_187 (Or.inl rfl) dX13_register_2 hf (fun h H locs hm hf S => ?_)
  refine lv_iload_n X.1 X.2.1 dX13_register_5 rfl (lv_at hl 1 rfl) ?_
  refine lv_i2l (v := Int32.toInt64 a1) X.1 X.2.1 dX13_register_6 rfl ?_
  refine lv_lconst (v := 0) X.1 X.2.1 dX13_register_7 (by decide) ?_
  refine lv_ldc2 X.1 X.2.1 X.2.2.2.1 (X.2.2.1 _ kuX13_595) dX13_register_8 ?_
  obtain ⟨v1, hc, hf⟩ := ob_some hf
  refine g_ci S (runS (As := [.long (Int32.toInt64 a1), .long 0, .long 7]) (rest := []) X S coX13_287 (by decide) (cX13_isIn_m l hc) rfl hl.1 (by decide) rfl ⟨Nat.zero_le _, Nat.zero_le _⟩ dX13_register_11) (fun H locs S => ?_)
  refine lv_if_eq (tgt := 30) X.1 X.2.1 dX13_register_14 (by decide) (fun c2 => ?_) (fun c2 => ?_)
  · replace hf := (if_pos c2).symm.trans hf
    refine g_aload_n X (or_rv _) dX13_register_30 rfl (lv_at hl 0 rfl) ?_
    refine lv_iconst (v := 1) X.1 X.2.1 dX13_register_31 (by decide) ?_
    obtain ⟨v3, h, hc, hf⟩ := ob2_some hf
    refine g_ci S (runV (As := [.int 1]) (rest := []) X S coX13_329 (by decide) (cX13_fail_m l hc) (tkX13_fail hc) rfl hl.1 (by decide) rfl ⟨Nat.zero_le _, Nat.zero_le _⟩ dX13_register_32) (fun H locs S => ?_)
    cases hf; exact g_ri X S hr hlk dX13_register_35
  · replace hf := (if_neg c2).symm.trans hf
    refine g_aload_n X (or_rv _) dX13_register_17 rfl (lv_at hl 0 rfl) ?_
    refine g_gR X S foX13_76 dX13_register_18 hf (fun v4 hf => ?_)
    refine lv_sipush (v := 256) X.1 X.2.1 dX13_register_21 (by decide) ?_
    refine lv_iload_n X.1 X.2.1 dX13_register_24 rfl (lv_at hl 1 rfl) ?_
    refine lv_iadd X.1 X.2.1 dX13_register_25 ?_
    refine g_aI X S dX13_register_26 hf (fun v5 hf => ?_)
    refine lv_goto (tgt := 35) X.1 X.2.1 dX13_register_27 (by decide) ?_
    cases hf; exact g_ri X S hr hlk dX13_register_35
def fX13_guard (a0 : Nat) (a1 : Int32) (h : Hp) : Option (Int32 × Hp) := gd 11 a0 h (ob (pI 11 a0 2 0 h) fun h => ob (fX13_isIn (Int32.toInt64 a1) 1 8) fun v1 => if v1 = 0 then ob2 (fX13_fail a0 1 h) fun v3 h => some (v3, h) else ob (gR 11 a0 3 h) fun v4 => ob (aI v4 (267 + a1) h) fun v5 => some (v5, h))
theorem tkX13_guard {a0 : Nat} {a1 : Int32} {h : Hp} {r9 : Int32 × Hp} (e : fX13_guard a0 a1 h = some r9) : hK h a0 = 11 := by
  unfold fX13_guard at e
  exact (gd_some e).1
theorem cX13_guard_m (l : Launch) {E : EE} {A : Nat → Prop} {a0 : Nat} {a1 : Int32} {h : Hp} {r9 : Int32} {h9 : Hp} (hf : fX13_guard a0 a1 h = some (r9, h9)) : Met l yX13_guard (wsM yX13_guard cX13_guard 2 (some .int)) (rmm 9 0 0) (PcE E A h [rv a0, .int a1]) (Qi E A h9 r9) 0 0 A := by
  refine met_of (by decide +kernel) (by simp [lg_sl, cat_rv, cat_wv, cat_sv, cat_i, cat_l, cat_a]) (fun p e s m args below meth c ls X hr hlk hnm S hl => ?_)
  have hl : lv_has ls 2 [(0, rv a0), (1, .int a1)] := by simpa [lv_args, cat_rv, cat_wv, cat_sv, cat_i, cat_l, cat_a] using hl
  generalize hH : s.heap = H at S ⊢
  generalize hlo : ([] : List Loc) = locs at S ⊢
  clear hH hlo
  unfold fX13_guard at hf
  obtain ⟨hth, hf⟩ := gd_some hf
  refine g_aload_n X (or_rv _) dX13_guard_0 rfl (lv_at hl 0 rfl) ?_
  refine lv_iconst (v := 0) X.1 X.2.1 dX13_guard_1 (by decide) ?_
  refine g_pI X S fpX13_187 (Or.inl rfl) dX13_guard_2 hf (fun h H locs hm hf S => ?_)
  refine lv_iload_n X.1 X.2.1 dX13_guard_5 rfl (lv_at hl 1 rfl) ?_
  refine lv_i2l (v := Int32.toInt64 a1) X.1 X.2.1 dX13_guard_6 rfl ?_
  refine lv_lconst (v := 1) X.1 X.2.1 dX13_guard_7 (by decide) ?_
  refine lv_ldc2 X.1 X.2.1 X.2.2.2.1 (X.2.2.1 _ kuX13_446) dX13_guard_8 ?_
  obtain ⟨v1, hc, hf⟩ := ob_some hf
  refine g_ci S (runS (As := [.long (Int32.toInt64 a1), .long 1, .long 8]) (rest := []) X S coX13_287 (by decide) (cX13_isIn_m l hc) rfl hl.1 (by decide) rfl ⟨Nat.zero_le _, Nat.zero_le _⟩ dX13_guard_11) (fun H locs S => ?_)
  refine lv_if_eq (tgt := 30) X.1 X.2.1 dX13_guard_14 (by decide) (fun c2 => ?_) (fun c2 => ?_)
  · replace hf := (if_pos c2).symm.trans hf
    refine g_aload_n X (or_rv _) dX13_guard_30 rfl (lv_at hl 0 rfl) ?_
    refine lv_iconst (v := 1) X.1 X.2.1 dX13_guard_31 (by decide) ?_
    obtain ⟨v3, h, hc, hf⟩ := ob2_some hf
    refine g_ci S (runV (As := [.int 1]) (rest := []) X S coX13_329 (by decide) (cX13_fail_m l hc) (tkX13_fail hc) rfl hl.1 (by decide) rfl ⟨Nat.zero_le _, Nat.zero_le _⟩ dX13_guard_32) (fun H locs S => ?_)
    cases hf; exact g_ri X S hr hlk dX13_guard_35
  · replace hf := (if_neg c2).symm.trans hf
    refine g_aload_n X (or_rv _) dX13_guard_17 rfl (lv_at hl 0 rfl) ?_
    refine g_gR X S foX13_76 dX13_guard_18 hf (fun v4 hf => ?_)
    refine lv_sipush (v := 267) X.1 X.2.1 dX13_guard_21 (by decide) ?_
    refine lv_iload_n X.1 X.2.1 dX13_guard_24 rfl (lv_at hl 1 rfl) ?_
    refine lv_iadd X.1 X.2.1 dX13_guard_25 ?_
    refine g_aI X S dX13_guard_26 hf (fun v5 hf => ?_)
    refine lv_goto (tgt := 35) X.1 X.2.1 dX13_guard_27 (by decide) ?_
    cases hf; exact g_ri X S hr hlk dX13_guard_35
def fX13_done (a0 : Nat) (a1 : Int32) (h : Hp) : Option (Int32 × Hp) := gd 11 a0 h (ob (pI 11 a0 2 0 h) fun h => ob (gI 11 a0 13 h) fun v1 => ob (fX13_isIn (Int32.toInt64 a1) 0 (Int32.toInt64 (v1 - 1))) fun v2 => if v2 = 0 then ob2 (fX13_fail a0 1 h) fun v4 h => some (v4, h) else ob (gR 11 a0 3 h) fun v5 => ob (aI v5 (354 + a1) h) fun v6 => some (v6, h))
theorem tkX13_done {a0 : Nat} {a1 : Int32} {h : Hp} {r9 : Int32 × Hp} (e : fX13_done a0 a1 h = some r9) : hK h a0 = 11 := by
  unfold fX13_done at e
  exact (gd_some e).1
theorem cX13_done_m (l : Launch) {E : EE} {A : Nat → Prop} {a0 : Nat} {a1 : Int32} {h : Hp} {r9 : Int32} {h9 : Hp} (hf : fX13_done a0 a1 h = some (r9, h9)) : Met l yX13_done (wsM yX13_done cX13_done 2 (some .int)) (rmm 9 0 0) (PcE E A h [rv a0, .int a1]) (Qi E A h9 r9) 0 0 A := by
  refine met_of (by decide +kernel) (by simp [lg_sl, cat_rv, cat_wv, cat_sv, cat_i, cat_l, cat_a]) (fun p e s m args below meth c ls X hr hlk hnm S hl => ?_)
  have hl : lv_has ls 2 [(0, rv a0), (1, .int a1)] := by simpa [lv_args, cat_rv, cat_wv, cat_sv, cat_i, cat_l, cat_a] using hl
  generalize hH : s.heap = H at S ⊢
  generalize hlo : ([] : List Loc) = locs at S ⊢
  clear hH hlo
  unfold fX13_done at hf
  obtain ⟨hth, hf⟩ := gd_some hf
  refine g_aload_n X (or_rv _) dX13_done_0 rfl (lv_at hl 0 rfl) ?_
  refine lv_iconst (v := 0) X.1 X.2.1 dX13_done_1 (by decide) ?_
  refine g_pI X S fpX13_187 (Or.inl rfl) dX13_done_2 hf (fun h H locs hm hf S => ?_)
  refine lv_iload_n X.1 X.2.1 dX13_done_5 rfl (lv_at hl 1 rfl) ?_
  refine lv_i2l (v := Int32.toInt64 a1) X.1 X.2.1 dX13_done_6 rfl ?_
  refine lv_lconst (v := 0) X.1 X.2.1 dX13_done_7 (by decide) ?_
  refine g_aload_n X (or_rv _) dX13_done_8 rfl (lv_at hl 0 rfl) ?_
  refine g_gI X S foX13_345 rfl dX13_done_9 hf (fun v1 hf => ?_)
  refine lv_iconst (v := 1) X.1 X.2.1 dX13_done_12 (by decide) ?_
  refine lv_isub X.1 X.2.1 dX13_done_13 ?_
  refine lv_i2l (v := Int32.toInt64 (v1 - 1)) X.1 X.2.1 dX13_done_14 rfl ?_
  obtain ⟨v2, hc, hf⟩ := ob_some hf
  refine g_ci S (runS (As := [.long (Int32.toInt64 a1), .long 0, .long (Int32.toInt64 (v1 - 1))]) (rest := []) X S coX13_287 (by decide) (cX13_isIn_m l hc) rfl hl.1 (by decide) rfl ⟨Nat.zero_le _, Nat.zero_le _⟩ dX13_done_15) (fun H locs S => ?_)
  refine lv_if_eq (tgt := 34) X.1 X.2.1 dX13_done_18 (by decide) (fun c3 => ?_) (fun c3 => ?_)
  · replace hf := (if_pos c3).symm.trans hf
    refine g_aload_n X (or_rv _) dX13_done_34 rfl (lv_at hl 0 rfl) ?_
    refine lv_iconst (v := 1) X.1 X.2.1 dX13_done_35 (by decide) ?_
    obtain ⟨v4, h, hc, hf⟩ := ob2_some hf
    refine g_ci S (runV (As := [.int 1]) (rest := []) X S coX13_329 (by decide) (cX13_fail_m l hc) (tkX13_fail hc) rfl hl.1 (by decide) rfl ⟨Nat.zero_le _, Nat.zero_le _⟩ dX13_done_36) (fun H locs S => ?_)
    cases hf; exact g_ri X S hr hlk dX13_done_39
  · replace hf := (if_neg c3).symm.trans hf
    refine g_aload_n X (or_rv _) dX13_done_21 rfl (lv_at hl 0 rfl) ?_
    refine g_gR X S foX13_76 dX13_done_22 hf (fun v5 hf => ?_)
    refine lv_sipush (v := 354) X.1 X.2.1 dX13_done_25 (by decide) ?_
    refine lv_iload_n X.1 X.2.1 dX13_done_28 rfl (lv_at hl 1 rfl) ?_
    refine lv_iadd X.1 X.2.1 dX13_done_29 ?_
    refine g_aI X S dX13_done_30 hf (fun v6 hf => ?_)
    refine lv_goto (tgt := 39) X.1 X.2.1 dX13_done_31 (by decide) ?_
    cases hf; exact g_ri X S hr hlk dX13_done_39
def fX13_trace (a0 : Nat) (a1 : Int32) (h : Hp) : Option (Int32 × Hp) := gd 11 a0 h (ob (pI 11 a0 2 0 h) fun h => ob (gR 11 a0 3 h) fun v1 => ob (aI v1 279 h) fun v2 => ob (fX13_isIn (Int32.toInt64 a1) 0 (Int32.toInt64 ((imin 64 v2) - 1))) fun v3 => if v3 = 0 then ob2 (fX13_fail a0 1 h) fun v5 h => some (v5, h) else ob (gR 11 a0 3 h) fun v6 => ob (gR 11 a0 3 h) fun v7 => ob (aI v7 279 h) fun v8 => ob (aI v6 (290 + (irm ((v8 - 1) - a1) 64)) h) fun v9 => some (v9, h))
theorem tkX13_trace {a0 : Nat} {a1 : Int32} {h : Hp} {r9 : Int32 × Hp} (e : fX13_trace a0 a1 h = some r9) : hK h a0 = 11 := by
  unfold fX13_trace at e
  exact (gd_some e).1
theorem cX13_trace_m (l : Launch) {E : EE} {A : Nat → Prop} {a0 : Nat} {a1 : Int32} {h : Hp} {r9 : Int32} {h9 : Hp} (hf : fX13_trace a0 a1 h = some (r9, h9)) : Met l yX13_trace (wsM yX13_trace cX13_trace 2 (some .int)) (rmm 9 0 0) (PcE E A h [rv a0, .int a1]) (Qi E A h9 r9) 0 0 A := by
  refine met_of (by decide +kernel) (by simp [lg_sl, cat_rv, cat_wv, cat_sv, cat_i, cat_l, cat_a]) (fun p e s m args below meth c ls X hr hlk hnm S hl => ?_)
  have hl : lv_has ls 2 [(0, rv a0), (1, .int a1)] := by simpa [lv_args, cat_rv, cat_wv, cat_sv, cat_i, cat_l, cat_a] using hl
  generalize hH : s.heap = H at S ⊢
  generalize hlo : ([] : List Loc) = locs at S ⊢
  clear hH hlo
  unfold fX13_trace at hf
  obtain ⟨hth, hf⟩ := gd_some hf
  refine g_aload_n X (or_rv _) dX13_trace_0 rfl (lv_at hl 0 rfl) ?_
  refine lv_iconst (v := 0) X.1 X.2.1 dX13_trace_1 (by decide) ?_
  refine g_pI X S fpX13_187 (Or.inl rfl) dX13_trace_2 hf (fun h H locs hm hf S => ?_)
  refine lv_iload_n X.1 X.2.1 dX13_trace_5 rfl (lv_at hl 1 rfl) ?_
  refine lv_i2l (v := Int32.toInt64 a1) X.1 X.2.1 dX13_trace_6 rfl ?_
  refine lv_lconst (v := 0) X.1 X.2.1 dX13_trace_7 (by decide) ?_
  refine lv_bipush (v := 64) X.1 X.2.1 dX13_trace_8 (by decide) ?_
  refine g_aload_n X (or_rv _) dX13_trace_10 rfl (lv_at hl 0 rfl) ?_
  refine g_gR X S foX13_76 dX13_trace_11 hf (fun v1 hf => ?_)
  refine lv_sipush (v := 279) X.1 X.2.1 dX13_trace_14 (by decide) ?_
  refine g_aI X S dX13_trace_17 hf (fun v2 hf => ?_)
  refine g_min (rest := [.long 0, .long (Int32.toInt64 a1)]) X hl.1 (by decide) (by simp [cat_rv, cat_wv, cat_sv, cat_i, cat_l, cat_a]) mlX13_219 u_min_s u_math u_min_c (Nat.zero_le _) (Nat.zero_le _) dX13_trace_18 ?_
  refine lv_iconst (v := 1) X.1 X.2.1 dX13_trace_21 (by decide) ?_
  refine lv_isub X.1 X.2.1 dX13_trace_22 ?_
  refine lv_i2l (v := Int32.toInt64 ((imin 64 v2) - 1)) X.1 X.2.1 dX13_trace_23 rfl ?_
  obtain ⟨v3, hc, hf⟩ := ob_some hf
  refine g_ci S (runS (As := [.long (Int32.toInt64 a1), .long 0, .long (Int32.toInt64 ((imin 64 v2) - 1))]) (rest := []) X S coX13_287 (by decide) (cX13_isIn_m l hc) rfl hl.1 (by decide) rfl ⟨Nat.zero_le _, Nat.zero_le _⟩ dX13_trace_24) (fun H locs S => ?_)
  refine lv_if_eq (tgt := 57) X.1 X.2.1 dX13_trace_27 (by decide) (fun c4 => ?_) (fun c4 => ?_)
  · replace hf := (if_pos c4).symm.trans hf
    refine g_aload_n X (or_rv _) dX13_trace_57 rfl (lv_at hl 0 rfl) ?_
    refine lv_iconst (v := 1) X.1 X.2.1 dX13_trace_58 (by decide) ?_
    obtain ⟨v5, h, hc, hf⟩ := ob2_some hf
    refine g_ci S (runV (As := [.int 1]) (rest := []) X S coX13_329 (by decide) (cX13_fail_m l hc) (tkX13_fail hc) rfl hl.1 (by decide) rfl ⟨Nat.zero_le _, Nat.zero_le _⟩ dX13_trace_59) (fun H locs S => ?_)
    cases hf; exact g_ri X S hr hlk dX13_trace_62
  · replace hf := (if_neg c4).symm.trans hf
    refine g_aload_n X (or_rv _) dX13_trace_30 rfl (lv_at hl 0 rfl) ?_
    refine g_gR X S foX13_76 dX13_trace_31 hf (fun v6 hf => ?_)
    refine lv_sipush (v := 290) X.1 X.2.1 dX13_trace_34 (by decide) ?_
    refine g_aload_n X (or_rv _) dX13_trace_37 rfl (lv_at hl 0 rfl) ?_
    refine g_gR X S foX13_76 dX13_trace_38 hf (fun v7 hf => ?_)
    refine lv_sipush (v := 279) X.1 X.2.1 dX13_trace_41 (by decide) ?_
    refine g_aI X S dX13_trace_44 hf (fun v8 hf => ?_)
    refine lv_iconst (v := 1) X.1 X.2.1 dX13_trace_45 (by decide) ?_
    refine lv_isub X.1 X.2.1 dX13_trace_46 ?_
    refine lv_iload_n X.1 X.2.1 dX13_trace_47 rfl (lv_at hl 1 rfl) ?_
    refine lv_isub X.1 X.2.1 dX13_trace_48 ?_
    refine lv_bipush (v := 64) X.1 X.2.1 dX13_trace_49 (by decide) ?_
    refine g_irem X (by decide) dX13_trace_51 ?_
    refine lv_iadd X.1 X.2.1 dX13_trace_52 ?_
    refine g_aI X S dX13_trace_53 hf (fun v9 hf => ?_)
    refine lv_goto (tgt := 62) X.1 X.2.1 dX13_trace_54 (by decide) ?_
    cases hf; exact g_ri X S hr hlk dX13_trace_62
def fX13_why_56 (x0 : Nat) (h : Hp) : Option (Int32 × Hp) := ob2 (fX13_fail x0 1 h) fun v1 h => some (v1, h)
theorem wfX13_why_56 {r9 : Int32} {h9 : Hp} (X : Cx p E A 9 R s m args c cX13_why yX13_why.cls 3) (hr : meth.sig.returnType = (some .int)) (hlk : meth.locks = false) (hnm : meth.name = yX13_why.name) :
    ∀ (x0 : Nat) (h : Hp) (H : Heap) (locs : List Loc) (ls : Array Slot), lv_has ls 3 [(0, rv x0)] → St E A s h H locs → fX13_why_56 x0 h = some (r9, h9) → W p l e R s m args below meth c H locs 0 0 (MQ below (Qi E A h9 r9) args s 0 0 A) (F0 m 56 ls []) := by
  intro x0 h H locs ls hl S hf
  unfold fX13_why_56 at hf
  refine g_aload_n X (or_rv _) dX13_why_56 rfl (lv_at hl 0 rfl) ?_
  refine lv_iconst (v := 1) X.1 X.2.1 dX13_why_57 (by decide) ?_
  obtain ⟨v1, h, hc, hf⟩ := ob2_some hf
  refine g_ci S (runV (As := [.int 1]) (rest := []) X S coX13_329 (by decide) (cX13_fail_m l hc) (tkX13_fail hc) rfl hl.1 (by decide) rfl ⟨Nat.zero_le _, Nat.zero_le _⟩ dX13_why_58) (fun H locs S => ?_)
  cases hf; exact g_ri X S hr hlk dX13_why_61
def fX13_why_62 (x0 : Nat) (x1 : Int32) (x2 : Int32) (h : Hp) : Option (Int32 × Hp) := ob (gR 11 x0 3 h) fun v1 => ob (aI v1 ((280 + (3 * x1)) + x2) h) fun v2 => some (v2, h)
theorem wfX13_why_62 {r9 : Int32} {h9 : Hp} (X : Cx p E A 9 R s m args c cX13_why yX13_why.cls 3) (hr : meth.sig.returnType = (some .int)) (hlk : meth.locks = false) (hnm : meth.name = yX13_why.name) :
    ∀ (x0 : Nat) (x1 : Int32) (x2 : Int32) (h : Hp) (H : Heap) (locs : List Loc) (ls : Array Slot), lv_has ls 3 [(0, rv x0), (1, .int x1), (2, .int x2)] → St E A s h H locs → fX13_why_62 x0 x1 x2 h = some (r9, h9) → W p l e R s m args below meth c H locs 0 0 (MQ below (Qi E A h9 r9) args s 0 0 A) (F0 m 62 ls []) := by
  intro x0 x1 x2 h H locs ls hl S hf
  unfold fX13_why_62 at hf
  refine g_aload_n X (or_rv _) dX13_why_62 rfl (lv_at hl 0 rfl) ?_
  refine g_gR X S foX13_76 dX13_why_63 hf (fun v1 hf => ?_)
  refine lv_sipush (v := 280) X.1 X.2.1 dX13_why_66 (by decide) ?_
  refine lv_iconst (v := 3) X.1 X.2.1 dX13_why_69 (by decide) ?_
  refine lv_iload_n X.1 X.2.1 dX13_why_70 rfl (lv_at hl 1 rfl) ?_
  refine lv_imul X.1 X.2.1 dX13_why_71 ?_
  refine lv_iadd X.1 X.2.1 dX13_why_72 ?_
  refine lv_iload_n X.1 X.2.1 dX13_why_73 rfl (lv_at hl 2 rfl) ?_
  refine lv_iadd X.1 X.2.1 dX13_why_74 ?_
  refine g_aI X S dX13_why_75 hf (fun v2 hf => ?_)
  cases hf; exact g_ri X S hr hlk dX13_why_76
def fX13_why (a0 : Nat) (a1 : Int32) (a2 : Int32) (h : Hp) : Option (Int32 × Hp) := gd 11 a0 h (ob (pI 11 a0 2 0 h) fun h => ob (gR 11 a0 3 h) fun v1 => ob (aI v1 280 h) fun v2 => if v2 = 0 then fX13_why_56 a0 h else ob (fX13_isIn (Int32.toInt64 a1) 0 2) fun v4 => if v4 = 0 then fX13_why_56 a0 h else ob (fX13_isIn (Int32.toInt64 a2) 0 2) fun v6 => if v6 = 0 then fX13_why_56 a0 h else if a1 = 2 then ob (gR 11 a0 3 h) fun v9 => ob (aI v9 289 h) fun v10 => if v10 = 0 then fX13_why_56 a0 h else fX13_why_62 a0 a1 a2 h else fX13_why_62 a0 a1 a2 h)
theorem tkX13_why {a0 : Nat} {a1 : Int32} {a2 : Int32} {h : Hp} {r9 : Int32 × Hp} (e : fX13_why a0 a1 a2 h = some r9) : hK h a0 = 11 := by
  unfold fX13_why at e
  exact (gd_some e).1
theorem cX13_why_m (l : Launch) {E : EE} {A : Nat → Prop} {a0 : Nat} {a1 : Int32} {a2 : Int32} {h : Hp} {r9 : Int32} {h9 : Hp} (hf : fX13_why a0 a1 a2 h = some (r9, h9)) : Met l yX13_why (wsM yX13_why cX13_why 3 (some .int)) (rmm 9 0 0) (PcE E A h [rv a0, .int a1, .int a2]) (Qi E A h9 r9) 0 0 A := by
  refine met_of (by decide +kernel) (by simp [lg_sl, cat_rv, cat_wv, cat_sv, cat_i, cat_l, cat_a]) (fun p e s m args below meth c ls X hr hlk hnm S hl => ?_)
  have hl : lv_has ls 3 [(0, rv a0), (1, .int a1), (2, .int a2)] := by simpa [lv_args, cat_rv, cat_wv, cat_sv, cat_i, cat_l, cat_a] using hl
  generalize hH : s.heap = H at S ⊢
  generalize hlo : ([] : List Loc) = locs at S ⊢
  clear hH hlo
  unfold fX13_why at hf
  obtain ⟨hth, hf⟩ := gd_some hf
  refine g_aload_n X (or_rv _) dX13_why_0 rfl (lv_at hl 0 rfl) ?_
  refine lv_iconst (v := 0) X.1 X.2.1 dX13_why_1 (by decide) ?_
  refine g_pI X S fpX13_187 (Or.inl rfl) dX13_why_2 hf (fun h H locs hm hf S => ?_)
  refine g_aload_n X (or_rv _) dX13_why_5 rfl (lv_at hl 0 rfl) ?_
  refine g_gR X S foX13_76 dX13_why_6 hf (fun v1 hf => ?_)
  refine lv_sipush (v := 280) X.1 X.2.1 dX13_why_9 (by decide) ?_
  refine g_aI X S dX13_why_12 hf (fun v2 hf => ?_)
  refine lv_if_eq (tgt := 56) X.1 X.2.1 dX13_why_13 (by decide) (fun c3 => ?_) (fun c3 => ?_)
  · replace hf := (if_pos c3).symm.trans hf
    exact wfX13_why_56 X hr hlk hnm _ _ _ _ _ (lv_sub hl [0] rfl) S hf
  · replace hf := (if_neg c3).symm.trans hf
    refine lv_iload_n X.1 X.2.1 dX13_why_16 rfl (lv_at hl 1 rfl) ?_
    refine lv_i2l (v := Int32.toInt64 a1) X.1 X.2.1 dX13_why_17 rfl ?_
    refine lv_lconst (v := 0) X.1 X.2.1 dX13_why_18 (by decide) ?_
    refine lv_ldc2 X.1 X.2.1 X.2.2.2.1 (X.2.2.1 _ kuX13_597) dX13_why_19 ?_
    obtain ⟨v4, hc, hf⟩ := ob_some hf
    refine g_ci S (runS (As := [.long (Int32.toInt64 a1), .long 0, .long 2]) (rest := []) X S coX13_287 (by decide) (cX13_isIn_m l hc) rfl hl.1 (by decide) rfl ⟨Nat.zero_le _, Nat.zero_le _⟩ dX13_why_22) (fun H locs S => ?_)
    refine lv_if_eq (tgt := 56) X.1 X.2.1 dX13_why_25 (by decide) (fun c5 => ?_) (fun c5 => ?_)
    · replace hf := (if_pos c5).symm.trans hf
      exact wfX13_why_56 X hr hlk hnm _ _ _ _ _ (lv_sub hl [0] rfl) S hf
    · replace hf := (if_neg c5).symm.trans hf
      refine lv_iload_n X.1 X.2.1 dX13_why_28 rfl (lv_at hl 2 rfl) ?_
      refine lv_i2l (v := Int32.toInt64 a2) X.1 X.2.1 dX13_why_29 rfl ?_
      refine lv_lconst (v := 0) X.1 X.2.1 dX13_why_30 (by decide) ?_
      refine lv_ldc2 X.1 X.2.1 X.2.2.2.1 (X.2.2.1 _ kuX13_597) dX13_why_31 ?_
      obtain ⟨v6, hc, hf⟩ := ob_some hf
      refine g_ci S (runS (As := [.long (Int32.toInt64 a2), .long 0, .long 2]) (rest := []) X S coX13_287 (by decide) (cX13_isIn_m l hc) rfl hl.1 (by decide) rfl ⟨Nat.zero_le _, Nat.zero_le _⟩ dX13_why_34) (fun H locs S => ?_)
      refine lv_if_eq (tgt := 56) X.1 X.2.1 dX13_why_37 (by decide) (fun c7 => ?_) (fun c7 => ?_)
      · replace hf := (if_pos c7).symm.trans hf
        exact wfX13_why_56 X hr hlk hnm _ _ _ _ _ (lv_sub hl [0] rfl) S hf
      · replace hf := (if_neg c7).symm.trans hf
        refine lv_iload_n X.1 X.2.1 dX13_why_40 rfl (lv_at hl 1 rfl) ?_
        refine lv_iconst (v := 2) X.1 X.2.1 dX13_why_41 (by decide) ?_
        refine lv_icmp_ne (tgt := 62) X.1 X.2.1 dX13_why_42 (by decide) (fun c8 => ?_) (fun c8 => ?_)
        · replace hf := (if_neg c8).symm.trans hf
          exact wfX13_why_62 X hr hlk hnm _ _ _ _ _ _ _ hl S hf
        · replace hf := (if_pos c8).symm.trans hf
          refine g_aload_n X (or_rv _) dX13_why_45 rfl (lv_at hl 0 rfl) ?_
          refine g_gR X S foX13_76 dX13_why_46 hf (fun v9 hf => ?_)
          refine lv_sipush (v := 289) X.1 X.2.1 dX13_why_49 (by decide) ?_
          refine g_aI X S dX13_why_52 hf (fun v10 hf => ?_)
          refine lv_if_ne (tgt := 62) X.1 X.2.1 dX13_why_53 (by decide) (fun c11 => ?_) (fun c11 => ?_)
          · replace hf := (if_neg c11).symm.trans hf
            exact wfX13_why_62 X hr hlk hnm _ _ _ _ _ _ _ hl S hf
          · replace hf := (if_pos c11).symm.trans hf
            exact wfX13_why_56 X hr hlk hnm _ _ _ _ _ (lv_sub hl [0] rfl) S hf
def fX13_isField (a0 : Nat) (a1 : Int32) (a2 : Int32) (a3 : Int32) (h : Hp) : Option (Int32) := gd 11 a0 h (ob (fX13_isIn (Int32.toInt64 a2) 1 (Int32.toInt64 a3)) fun v1 => if v1 = 0 then some 0 else ob (fX13_isThere a1 a2) fun v3 => if v3 = 0 then some 0 else some 1)
theorem tkX13_isField {a0 : Nat} {a1 : Int32} {a2 : Int32} {a3 : Int32} {h : Hp} {r9 : Int32} (e : fX13_isField a0 a1 a2 a3 h = some r9) : hK h a0 = 11 := by
  unfold fX13_isField at e
  exact (gd_some e).1
theorem cX13_isField_m (l : Launch) {E : EE} {A : Nat → Prop} {a0 : Nat} {a1 : Int32} {a2 : Int32} {a3 : Int32} {h : Hp} {r9 : Int32} (hf : fX13_isField a0 a1 a2 a3 h = some r9) : Met l yX13_isField (wsM yX13_isField cX13_isField 4 (some .boolean)) (rmm 9 0 0) (PcE E A h [rv a0, .int a1, .int a2, .int a3]) (Qi E A h r9) 0 0 A := by
  refine met_of (by decide +kernel) (by simp [lg_sl, cat_rv, cat_wv, cat_sv, cat_i, cat_l, cat_a]) (fun p e s m args below meth c ls X hr hlk hnm S hl => ?_)
  have hl : lv_has ls 4 [(0, rv a0), (1, .int a1), (2, .int a2), (3, .int a3)] := by simpa [lv_args, cat_rv, cat_wv, cat_sv, cat_i, cat_l, cat_a] using hl
  generalize hH : s.heap = H at S ⊢
  generalize hlo : ([] : List Loc) = locs at S ⊢
  clear hH hlo
  unfold fX13_isField at hf
  obtain ⟨hth, hf⟩ := gd_some hf
  refine lv_iload_n X.1 X.2.1 dX13_isField_0 rfl (lv_at hl 2 rfl) ?_
  refine lv_i2l (v := Int32.toInt64 a2) X.1 X.2.1 dX13_isField_1 rfl ?_
  refine lv_lconst (v := 1) X.1 X.2.1 dX13_isField_2 (by decide) ?_
  refine lv_iload_n X.1 X.2.1 dX13_isField_3 rfl (lv_at hl 3 rfl) ?_
  refine lv_i2l (v := Int32.toInt64 a3) X.1 X.2.1 dX13_isField_4 rfl ?_
  obtain ⟨v1, hc, hf⟩ := ob_some hf
  refine g_ci S (runS (As := [.long (Int32.toInt64 a2), .long 1, .long (Int32.toInt64 a3)]) (rest := []) X S coX13_287 (by decide) (cX13_isIn_m l hc) rfl hl.1 (by decide) rfl ⟨Nat.zero_le _, Nat.zero_le _⟩ dX13_isField_5) (fun H locs S => ?_)
  refine lv_if_eq (tgt := 23) X.1 X.2.1 dX13_isField_8 (by decide) (fun c2 => ?_) (fun c2 => ?_)
  · replace hf := (if_pos c2).symm.trans hf
    refine lv_iconst (v := 0) X.1 X.2.1 dX13_isField_23 (by decide) ?_
    cases hf; exact g_rz X S hr hlk (by decide) dX13_isField_24
  · replace hf := (if_neg c2).symm.trans hf
    refine lv_iload_n X.1 X.2.1 dX13_isField_11 rfl (lv_at hl 1 rfl) ?_
    refine lv_iload_n X.1 X.2.1 dX13_isField_12 rfl (lv_at hl 2 rfl) ?_
    obtain ⟨v3, hc, hf⟩ := ob_some hf
    refine g_ci S (runS (As := [.int a1, .int a2]) (rest := []) X S coX13_427 (by decide) (cX13_isThere_m l hc) rfl hl.1 (by decide) rfl ⟨Nat.zero_le _, Nat.zero_le _⟩ dX13_isField_13) (fun H locs S => ?_)
    refine lv_if_eq (tgt := 23) X.1 X.2.1 dX13_isField_16 (by decide) (fun c4 => ?_) (fun c4 => ?_)
    · replace hf := (if_pos c4).symm.trans hf
      refine lv_iconst (v := 0) X.1 X.2.1 dX13_isField_23 (by decide) ?_
      cases hf; exact g_rz X S hr hlk (by decide) dX13_isField_24
    · replace hf := (if_neg c4).symm.trans hf
      refine lv_iconst (v := 1) X.1 X.2.1 dX13_isField_19 (by decide) ?_
      refine lv_goto (tgt := 24) X.1 X.2.1 dX13_isField_20 (by decide) ?_
      cases hf; exact g_rz X S hr hlk (by decide) dX13_isField_24
def fX13_isFlaw_33 (h : Hp) (y0 : Int32) (y1 : Int32) : Option (Int32) := if y1 = y0 then some 0 else some 1
theorem wfX13_isFlaw_33 {h : Hp} {r9 : Int32} (X : Cx p E A 9 R s m args c cX13_isFlaw yX13_isFlaw.cls 5) (hr : meth.sig.returnType = (some .boolean)) (hlk : meth.locks = false) (hnm : meth.name = yX13_isFlaw.name) :
    ∀ (y0 : Int32) (y1 : Int32) (H : Heap) (locs : List Loc) (ls : Array Slot), lv_has ls 5 [] → St E A s h H locs → fX13_isFlaw_33 h y0 y1 = some r9 → W p l e R s m args below meth c H locs 0 0 (MQ below (Qi E A h r9) args s 0 0 A) (F0 m 33 ls [.int y0, .int y1]) := by
  intro y0 y1 H locs ls hl S hf
  unfold fX13_isFlaw_33 at hf
  refine lv_icmp_eq (tgt := 40) X.1 X.2.1 dX13_isFlaw_33 (by decide) (fun c1 => ?_) (fun c1 => ?_)
  · replace hf := (if_pos c1).symm.trans hf
    refine lv_iconst (v := 0) X.1 X.2.1 dX13_isFlaw_40 (by decide) ?_
    cases hf; exact g_rz X S hr hlk (by decide) dX13_isFlaw_41
  · replace hf := (if_neg c1).symm.trans hf
    refine lv_iconst (v := 1) X.1 X.2.1 dX13_isFlaw_36 (by decide) ?_
    refine lv_goto (tgt := 41) X.1 X.2.1 dX13_isFlaw_37 (by decide) ?_
    cases hf; exact g_rz X S hr hlk (by decide) dX13_isFlaw_41
def fX13_isFlaw_23 (h : Hp) (x1 : Int32) (x2 : Int32) (y0 : Int32) : Option (Int32) := if x1 = x2 then fX13_isFlaw_33 h 1 y0 else fX13_isFlaw_33 h 0 y0
theorem wfX13_isFlaw_23 {h : Hp} {r9 : Int32} (X : Cx p E A 9 R s m args c cX13_isFlaw yX13_isFlaw.cls 5) (hr : meth.sig.returnType = (some .boolean)) (hlk : meth.locks = false) (hnm : meth.name = yX13_isFlaw.name) :
    ∀ (x1 : Int32) (x2 : Int32) (y0 : Int32) (H : Heap) (locs : List Loc) (ls : Array Slot), lv_has ls 5 [(1, .int x1), (2, .int x2)] → St E A s h H locs → fX13_isFlaw_23 h x1 x2 y0 = some r9 → W p l e R s m args below meth c H locs 0 0 (MQ below (Qi E A h r9) args s 0 0 A) (F0 m 23 ls [.int y0]) := by
  intro x1 x2 y0 H locs ls hl S hf
  unfold fX13_isFlaw_23 at hf
  refine lv_iload_n X.1 X.2.1 dX13_isFlaw_23 rfl (lv_at hl 0 rfl) ?_
  refine lv_iload_n X.1 X.2.1 dX13_isFlaw_24 rfl (lv_at hl 1 rfl) ?_
  refine lv_icmp_ne (tgt := 32) X.1 X.2.1 dX13_isFlaw_25 (by decide) (fun c1 => ?_) (fun c1 => ?_)
  · replace hf := (if_neg c1).symm.trans hf
    refine lv_iconst (v := 0) X.1 X.2.1 dX13_isFlaw_32 (by decide) ?_
    exact wfX13_isFlaw_33 X hr hlk hnm _ _ _ _ _ (lv_sub hl [] rfl) S hf
  · replace hf := (if_pos c1).symm.trans hf
    refine lv_iconst (v := 1) X.1 X.2.1 dX13_isFlaw_28 (by decide) ?_
    refine lv_goto (tgt := 33) X.1 X.2.1 dX13_isFlaw_29 (by decide) ?_
    exact wfX13_isFlaw_33 X hr hlk hnm _ _ _ _ _ (lv_sub hl [] rfl) S hf
def fX13_isFlaw (a0 : Nat) (a1 : Int32) (a2 : Int32) (a3 : Int32) (h : Hp) : Option (Int32) := gd 11 a0 h (ob (fX13_halfAt a0 a1 h) fun v1 => if a3 = 0 then if v1 ≤ 9 then fX13_isFlaw_23 h a1 a2 0 else fX13_isFlaw_23 h a1 a2 1 else if (irm a1 2) = 1 then if v1 ≤ 9 then some 0 else some 1 else if a1 = (a2 - 1) then if 10 ≤ v1 then some 0 else some 1 else if v1 = 15 then some 0 else some 1)
theorem tkX13_isFlaw {a0 : Nat} {a1 : Int32} {a2 : Int32} {a3 : Int32} {h : Hp} {r9 : Int32} (e : fX13_isFlaw a0 a1 a2 a3 h = some r9) : hK h a0 = 11 := by
  unfold fX13_isFlaw at e
  exact (gd_some e).1
theorem cX13_isFlaw_m (l : Launch) {E : EE} {A : Nat → Prop} {a0 : Nat} {a1 : Int32} {a2 : Int32} {a3 : Int32} {h : Hp} {r9 : Int32} (hf : fX13_isFlaw a0 a1 a2 a3 h = some r9) : Met l yX13_isFlaw (wsM yX13_isFlaw cX13_isFlaw 5 (some .boolean)) (rmm 9 0 0) (PcE E A h [rv a0, .int a1, .int a2, .int a3]) (Qi E A h r9) 0 0 A := by
  refine met_of (by decide +kernel) (by simp [lg_sl, cat_rv, cat_wv, cat_sv, cat_i, cat_l, cat_a]) (fun p e s m args below meth c ls X hr hlk hnm S hl => ?_)
  have hl : lv_has ls 5 [(0, rv a0), (1, .int a1), (2, .int a2), (3, .int a3)] := by simpa [lv_args, cat_rv, cat_wv, cat_sv, cat_i, cat_l, cat_a] using hl
  generalize hH : s.heap = H at S ⊢
  generalize hlo : ([] : List Loc) = locs at S ⊢
  clear hH hlo
  unfold fX13_isFlaw at hf
  obtain ⟨hth, hf⟩ := gd_some hf
  refine g_aload_n X (or_rv _) dX13_isFlaw_0 rfl (lv_at hl 0 rfl) ?_
  refine lv_iload_n X.1 X.2.1 dX13_isFlaw_1 rfl (lv_at hl 1 rfl) ?_
  obtain ⟨v1, hc, hf⟩ := ob_some hf
  refine g_ci S (runV (As := [.int a1]) (rest := []) X S coX13_374 (by decide) (cX13_halfAt_m l hc) (tkX13_halfAt hc) rfl hl.1 (by decide) rfl ⟨Nat.zero_le _, Nat.zero_le _⟩ dX13_isFlaw_2) (fun H locs S => ?_)
  refine lv_istore (lv' := [(4, .int v1), (0, rv a0), (1, .int a1), (2, .int a2), (3, .int a3)]) X.1 X.2.1 dX13_isFlaw_5 hl (by decide) rfl (fun ls hl => ?_)
  refine lv_iload_n X.1 X.2.1 dX13_isFlaw_7 rfl (lv_at hl 4 rfl) ?_
  refine lv_if_ne (tgt := 42) X.1 X.2.1 dX13_isFlaw_8 (by decide) (fun c2 => ?_) (fun c2 => ?_)
  · replace hf := (if_neg c2).symm.trans hf
    refine lv_iload_n X.1 X.2.1 dX13_isFlaw_42 rfl (lv_at hl 2 rfl) ?_
    refine lv_iconst (v := 2) X.1 X.2.1 dX13_isFlaw_43 (by decide) ?_
    refine g_irem X (by decide) dX13_isFlaw_44 ?_
    refine lv_iconst (v := 1) X.1 X.2.1 dX13_isFlaw_45 (by decide) ?_
    refine lv_icmp_ne (tgt := 62) X.1 X.2.1 dX13_isFlaw_46 (by decide) (fun c3 => ?_) (fun c3 => ?_)
    · replace hf := (if_neg c3).symm.trans hf
      refine lv_iload_n X.1 X.2.1 dX13_isFlaw_62 rfl (lv_at hl 2 rfl) ?_
      refine lv_iload_n X.1 X.2.1 dX13_isFlaw_63 rfl (lv_at hl 3 rfl) ?_
      refine lv_iconst (v := 1) X.1 X.2.1 dX13_isFlaw_64 (by decide) ?_
      refine lv_isub X.1 X.2.1 dX13_isFlaw_65 ?_
      refine lv_icmp_ne (tgt := 84) X.1 X.2.1 dX13_isFlaw_66 (by decide) (fun c4 => ?_) (fun c4 => ?_)
      · replace hf := (if_neg c4).symm.trans hf
        refine lv_iload X.1 X.2.1 dX13_isFlaw_84 (lv_at hl 0 rfl) ?_
        refine lv_bipush (v := 15) X.1 X.2.1 dX13_isFlaw_86 (by decide) ?_
        refine lv_icmp_eq (tgt := 95) X.1 X.2.1 dX13_isFlaw_88 (by decide) (fun c5 => ?_) (fun c5 => ?_)
        · replace hf := (if_pos c5).symm.trans hf
          refine lv_iconst (v := 0) X.1 X.2.1 dX13_isFlaw_95 (by decide) ?_
          cases hf; exact g_rz X S hr hlk (by decide) dX13_isFlaw_96
        · replace hf := (if_neg c5).symm.trans hf
          refine lv_iconst (v := 1) X.1 X.2.1 dX13_isFlaw_91 (by decide) ?_
          refine lv_goto (tgt := 96) X.1 X.2.1 dX13_isFlaw_92 (by decide) ?_
          cases hf; exact g_rz X S hr hlk (by decide) dX13_isFlaw_96
      · replace hf := (if_pos c4).symm.trans hf
        refine lv_iload X.1 X.2.1 dX13_isFlaw_69 (lv_at hl 0 rfl) ?_
        refine lv_bipush (v := 10) X.1 X.2.1 dX13_isFlaw_71 (by decide) ?_
        refine lv_icmp_ge (tgt := 80) X.1 X.2.1 dX13_isFlaw_73 (by decide) (fun c6 => ?_) (fun c6 => ?_)
        · replace hf := (if_pos c6).symm.trans hf
          refine lv_iconst (v := 0) X.1 X.2.1 dX13_isFlaw_80 (by decide) ?_
          refine lv_goto (tgt := 96) X.1 X.2.1 dX13_isFlaw_81 (by decide) ?_
          cases hf; exact g_rz X S hr hlk (by decide) dX13_isFlaw_96
        · replace hf := (if_neg c6).symm.trans hf
          refine lv_iconst (v := 1) X.1 X.2.1 dX13_isFlaw_76 (by decide) ?_
          refine lv_goto (tgt := 96) X.1 X.2.1 dX13_isFlaw_77 (by decide) ?_
          cases hf; exact g_rz X S hr hlk (by decide) dX13_isFlaw_96
    · replace hf := (if_pos c3).symm.trans hf
      refine lv_iload X.1 X.2.1 dX13_isFlaw_49 (lv_at hl 0 rfl) ?_
      refine lv_bipush (v := 9) X.1 X.2.1 dX13_isFlaw_51 (by decide) ?_
      refine lv_icmp_le (tgt := 60) X.1 X.2.1 dX13_isFlaw_53 (by decide) (fun c7 => ?_) (fun c7 => ?_)
      · replace hf := (if_pos c7).symm.trans hf
        refine lv_iconst (v := 0) X.1 X.2.1 dX13_isFlaw_60 (by decide) ?_
        cases hf; exact g_rz X S hr hlk (by decide) dX13_isFlaw_61
      · replace hf := (if_neg c7).symm.trans hf
        refine lv_iconst (v := 1) X.1 X.2.1 dX13_isFlaw_56 (by decide) ?_
        refine lv_goto (tgt := 61) X.1 X.2.1 dX13_isFlaw_57 (by decide) ?_
        cases hf; exact g_rz X S hr hlk (by decide) dX13_isFlaw_61
  · replace hf := (if_pos c2).symm.trans hf
    refine lv_iload X.1 X.2.1 dX13_isFlaw_11 (lv_at hl 0 rfl) ?_
    refine lv_bipush (v := 9) X.1 X.2.1 dX13_isFlaw_13 (by decide) ?_
    refine lv_icmp_le (tgt := 22) X.1 X.2.1 dX13_isFlaw_15 (by decide) (fun c8 => ?_) (fun c8 => ?_)
    · replace hf := (if_pos c8).symm.trans hf
      refine lv_iconst (v := 0) X.1 X.2.1 dX13_isFlaw_22 (by decide) ?_
      exact wfX13_isFlaw_23 X hr hlk hnm _ _ _ _ _ _ (lv_sub hl [2, 3] rfl) S hf
    · replace hf := (if_neg c8).symm.trans hf
      refine lv_iconst (v := 1) X.1 X.2.1 dX13_isFlaw_18 (by decide) ?_
      refine lv_goto (tgt := 23) X.1 X.2.1 dX13_isFlaw_19 (by decide) ?_
      exact wfX13_isFlaw_23 X hr hlk hnm _ _ _ _ _ _ (lv_sub hl [2, 3] rfl) S hf
def fX13_flawNumber_17 (h : Hp) (k17 : Nat → Int32 → Int32 → Int32 → Int32 → Int32 → Option (Int32)) (x0 : Nat) (x3 : Int32) (x4 : Int32) (x5 : Int32) (x6 : Int32) (x7 : Int32) : Option (Int32) := if x6 < x7 then if x4 = (-1) then some x5 else some (-1) else ob (fX13_isFlaw x0 x7 x6 x3 h) fun v3 => if v3 = 0 then lt (x7 + 1) fun z8 => k17 x0 x3 x4 x5 x6 z8 else if x5 = x4 then some x7 else lt (x5 + 1) fun z6 => lt (x7 + 1) fun z7 => k17 x0 x3 x4 z6 x6 z7
theorem wfX13_flawNumber_17 {h : Hp} {k17 : Nat → Int32 → Int32 → Int32 → Int32 → Int32 → Option (Int32)} {r9 : Int32} (X : Cx p E A 10 R s m args c cX13_flawNumber yX13_flawNumber.cls 8) (hr : meth.sig.returnType = (some .int)) (hlk : meth.locks = false) (hnm : meth.name = yX13_flawNumber.name) (hk17 : ∀ (x0 : Nat) (x3 : Int32) (x4 : Int32) (x5 : Int32) (x6 : Int32) (x7 : Int32) (H : Heap) (locs : List Loc) (ls : Array Slot), lv_has ls 8 [(0, rv x0), (3, .int x3), (4, .int x4), (5, .int x5), (6, .int x6), (7, .int x7)] → St E A s h H locs → k17 x0 x3 x4 x5 x6 x7 = some r9 → W p l e R s m args below meth c H locs 0 0 (MQ below (Qi E A h r9) args s 0 0 A) (F0 m 17 ls [])) :
    ∀ (x0 : Nat) (x3 : Int32) (x4 : Int32) (x5 : Int32) (x6 : Int32) (x7 : Int32) (H : Heap) (locs : List Loc) (ls : Array Slot), lv_has ls 8 [(0, rv x0), (3, .int x3), (4, .int x4), (5, .int x5), (6, .int x6), (7, .int x7)] → St E A s h H locs → fX13_flawNumber_17 h k17 x0 x3 x4 x5 x6 x7 = some r9 → W p l e R s m args below meth c H locs 0 0 (MQ below (Qi E A h r9) args s 0 0 A) (F0 m 17 ls []) := by
  intro x0 x3 x4 x5 x6 x7 H locs ls hl S hf
  unfold fX13_flawNumber_17 at hf
  refine lv_iload X.1 X.2.1 dX13_flawNumber_17 (lv_at hl 5 rfl) ?_
  refine lv_iload X.1 X.2.1 dX13_flawNumber_19 (lv_at hl 4 rfl) ?_
  refine lv_icmp_gt (tgt := 58) X.1 X.2.1 dX13_flawNumber_21 (by decide) (fun c1 => ?_) (fun c1 => ?_)
  · replace hf := (if_pos c1).symm.trans hf
    refine lv_iload X.1 X.2.1 dX13_flawNumber_58 (lv_at hl 2 rfl) ?_
    refine lv_iconst (v := (-1)) X.1 X.2.1 dX13_flawNumber_60 (by decide) ?_
    refine lv_icmp_ne (tgt := 69) X.1 X.2.1 dX13_flawNumber_61 (by decide) (fun c2 => ?_) (fun c2 => ?_)
    · replace hf := (if_neg c2).symm.trans hf
      refine lv_iconst (v := (-1)) X.1 X.2.1 dX13_flawNumber_69 (by decide) ?_
      cases hf; exact g_ri X S hr hlk dX13_flawNumber_70
    · replace hf := (if_pos c2).symm.trans hf
      refine lv_iload X.1 X.2.1 dX13_flawNumber_64 (lv_at hl 3 rfl) ?_
      refine lv_goto (tgt := 70) X.1 X.2.1 dX13_flawNumber_66 (by decide) ?_
      cases hf; exact g_ri X S hr hlk dX13_flawNumber_70
  · replace hf := (if_neg c1).symm.trans hf
    refine g_aload_n X (or_rv _) dX13_flawNumber_24 rfl (lv_at hl 0 rfl) ?_
    refine lv_iload X.1 X.2.1 dX13_flawNumber_25 (lv_at hl 5 rfl) ?_
    refine lv_iload X.1 X.2.1 dX13_flawNumber_27 (lv_at hl 4 rfl) ?_
    refine lv_iload_n X.1 X.2.1 dX13_flawNumber_29 rfl (lv_at hl 1 rfl) ?_
    obtain ⟨v3, hc, hf⟩ := ob_some hf
    refine g_ci S (runV (As := [.int x7, .int x6, .int x3]) (rest := []) X S coX13_599 (by decide) (cX13_isFlaw_m l hc) (tkX13_isFlaw hc) rfl hl.1 (by decide) rfl ⟨Nat.zero_le _, Nat.zero_le _⟩ dX13_flawNumber_30) (fun H locs S => ?_)
    refine lv_if_ne (tgt := 39) X.1 X.2.1 dX13_flawNumber_33 (by decide) (fun c4 => ?_) (fun c4 => ?_)
    · replace hf := (if_neg c4).symm.trans hf
      refine lv_iload X.1 X.2.1 dX13_flawNumber_39 (lv_at hl 3 rfl) ?_
      refine lv_iload X.1 X.2.1 dX13_flawNumber_41 (lv_at hl 2 rfl) ?_
      refine lv_icmp_ne (tgt := 49) X.1 X.2.1 dX13_flawNumber_43 (by decide) (fun c5 => ?_) (fun c5 => ?_)
      · replace hf := (if_neg c5).symm.trans hf
        obtain ⟨z6, ez6, hf⟩ := lt_some hf
        refine lv_iinc (v := z6) (lv' := [(5, .int z6), (0, rv x0), (3, .int x3), (4, .int x4), (6, .int x6), (7, .int x7)]) X.1 X.2.1 dX13_flawNumber_49 hl (k := 3) rfl (by rw [← ez6]; rfl) (by decide) rfl (fun ls hl => ?_)
        obtain ⟨z7, ez7, hf⟩ := lt_some hf
        refine lv_iinc (v := z7) (lv' := [(7, .int z7), (5, .int z6), (0, rv x0), (3, .int x3), (4, .int x4), (6, .int x6)]) X.1 X.2.1 dX13_flawNumber_52 hl (k := 5) rfl (by rw [← ez7]; rfl) (by decide) rfl (fun ls hl => ?_)
        refine lv_goto (tgt := 17) X.1 X.2.1 dX13_flawNumber_55 (by decide) ?_
        exact hk17 _ _ _ _ _ _ _ _ _ (lv_sub hl [2, 3, 4, 1, 5, 0] rfl) S hf
      · replace hf := (if_pos c5).symm.trans hf
        refine lv_iload X.1 X.2.1 dX13_flawNumber_46 (lv_at hl 5 rfl) ?_
        cases hf; exact g_ri X S hr hlk dX13_flawNumber_48
    · replace hf := (if_pos c4).symm.trans hf
      refine lv_goto (tgt := 52) X.1 X.2.1 dX13_flawNumber_36 (by decide) ?_
      obtain ⟨z8, ez8, hf⟩ := lt_some hf
      refine lv_iinc (v := z8) (lv' := [(7, .int z8), (0, rv x0), (3, .int x3), (4, .int x4), (5, .int x5), (6, .int x6)]) X.1 X.2.1 dX13_flawNumber_52 hl (k := 5) rfl (by rw [← ez8]; rfl) (by decide) rfl (fun ls hl => ?_)
      refine lv_goto (tgt := 17) X.1 X.2.1 dX13_flawNumber_55 (by decide) ?_
      exact hk17 _ _ _ _ _ _ _ _ _ (lv_sub hl [1, 2, 3, 4, 5, 0] rfl) S hf
theorem wfX13_flawNumber_17_l {h : Hp} {r9 : Int32} (X : Cx p E A 10 R s m args c cX13_flawNumber yX13_flawNumber.cls 8) (hr : meth.sig.returnType = (some .int)) (hlk : meth.locks = false) (hnm : meth.name = yX13_flawNumber.name) :
    ∀ (n : Nat) (x0 : Nat) (x3 : Int32) (x4 : Int32) (x5 : Int32) (x6 : Int32) (x7 : Int32) (H : Heap) (locs : List Loc) (ls : Array Slot), lv_has ls 8 [(0, rv x0), (3, .int x3), (4, .int x4), (5, .int x5), (6, .int x6), (7, .int x7)] → St E A s h H locs → lp (fun _ _ _ _ _ _ => none) (fX13_flawNumber_17 h) n x0 x3 x4 x5 x6 x7 = some r9 → W p l e R s m args below meth c H locs 0 0 (MQ below (Qi E A h r9) args s 0 0 A) (F0 m 17 ls []) := by
  intro n
  induction n with
  | zero =>
    intro x0 x3 x4 x5 x6 x7 H locs ls hl S hf
    exact nomatch hf
  | succ n ih =>
    intro x0 x3 x4 x5 x6 x7 H locs ls hl S hf
    exact wfX13_flawNumber_17 X hr hlk hnm ih x0 x3 x4 x5 x6 x7 H locs ls hl S hf
def fX13_flawNumber (a0 : Nat) (a1 : Int32) (a2 : Int32) (a3 : Int32) (a4 : Int32) (h : Hp) : Option (Int32) := gd 11 a0 h (lt ((2 * (a1 + a2)) - 1) fun z1 => lt (2 * a1) fun z2 => lp (fun _ _ _ _ _ _ => none) (fX13_flawNumber_17 h) FU a0 a3 a4 0 z1 z2)
theorem tkX13_flawNumber {a0 : Nat} {a1 : Int32} {a2 : Int32} {a3 : Int32} {a4 : Int32} {h : Hp} {r9 : Int32} (e : fX13_flawNumber a0 a1 a2 a3 a4 h = some r9) : hK h a0 = 11 := by
  unfold fX13_flawNumber at e
  exact (gd_some e).1
theorem cX13_flawNumber_m (l : Launch) {E : EE} {A : Nat → Prop} {a0 : Nat} {a1 : Int32} {a2 : Int32} {a3 : Int32} {a4 : Int32} {h : Hp} {r9 : Int32} (hf : fX13_flawNumber a0 a1 a2 a3 a4 h = some r9) : Met l yX13_flawNumber (wsM yX13_flawNumber cX13_flawNumber 8 (some .int)) (rmm 10 0 0) (PcE E A h [rv a0, .int a1, .int a2, .int a3, .int a4]) (Qi E A h r9) 0 0 A := by
  refine met_of (by decide +kernel) (by simp [lg_sl, cat_rv, cat_wv, cat_sv, cat_i, cat_l, cat_a]) (fun p e s m args below meth c ls X hr hlk hnm S hl => ?_)
  have hl : lv_has ls 8 [(0, rv a0), (1, .int a1), (2, .int a2), (3, .int a3), (4, .int a4)] := by simpa [lv_args, cat_rv, cat_wv, cat_sv, cat_i, cat_l, cat_a] using hl
  generalize hH : s.heap = H at S ⊢
  generalize hlo : ([] : List Loc) = locs at S ⊢
  clear hH hlo
  unfold fX13_flawNumber at hf
  obtain ⟨hth, hf⟩ := gd_some hf
  refine lv_iconst (v := 0) X.1 X.2.1 dX13_flawNumber_0 (by decide) ?_
  refine lv_istore (lv' := [(5, .int 0), (0, rv a0), (1, .int a1), (2, .int a2), (3, .int a3), (4, .int a4)]) X.1 X.2.1 dX13_flawNumber_1 hl (by decide) rfl (fun ls hl => ?_)
  refine lv_iconst (v := 2) X.1 X.2.1 dX13_flawNumber_3 (by decide) ?_
  refine lv_iload_n X.1 X.2.1 dX13_flawNumber_4 rfl (lv_at hl 2 rfl) ?_
  refine lv_iload_n X.1 X.2.1 dX13_flawNumber_5 rfl (lv_at hl 3 rfl) ?_
  refine lv_iadd X.1 X.2.1 dX13_flawNumber_6 ?_
  refine lv_imul X.1 X.2.1 dX13_flawNumber_7 ?_
  refine lv_iconst (v := 1) X.1 X.2.1 dX13_flawNumber_8 (by decide) ?_
  refine lv_isub X.1 X.2.1 dX13_flawNumber_9 ?_
  refine g_lti hf (fun z1 hf => ?_)
  refine lv_istore (lv' := [(6, .int z1), (5, .int 0), (0, rv a0), (1, .int a1), (2, .int a2), (3, .int a3), (4, .int a4)]) X.1 X.2.1 dX13_flawNumber_10 hl (by decide) rfl (fun ls hl => ?_)
  refine lv_iconst (v := 2) X.1 X.2.1 dX13_flawNumber_12 (by decide) ?_
  refine lv_iload_n X.1 X.2.1 dX13_flawNumber_13 rfl (lv_at hl 3 rfl) ?_
  refine lv_imul X.1 X.2.1 dX13_flawNumber_14 ?_
  refine g_lti hf (fun z2 hf => ?_)
  refine lv_istore (lv' := [(7, .int z2), (6, .int z1), (5, .int 0), (0, rv a0), (1, .int a1), (2, .int a2), (3, .int a3), (4, .int a4)]) X.1 X.2.1 dX13_flawNumber_15 hl (by decide) rfl (fun ls hl => ?_)
  exact wfX13_flawNumber_17_l X hr hlk hnm FU _ _ _ _ _ _ _ _ _ (lv_sub hl [3, 6, 7, 2, 1, 0] rfl) S hf
def fX13_flaws (a0 : Nat) (a1 : Int32) (a2 : Int32) (a3 : Int32) (a4 : Int32) (h : Hp) : Option (Int32 × Hp) := gd 11 a0 h (ob (pI 11 a0 2 0 h) fun h => ob (fX13_isField a0 a1 a2 64 h) fun v1 => if v1 = 0 then ob2 (fX13_fail a0 2 h) fun v6 h => some (v6, h) else ob (fX13_flawNumber a0 a1 a2 a3 a4 h) fun v3 => if v3 = (-1) then ob2 (fX13_fail a0 1 h) fun v5 h => some (v5, h) else some (v3, h))
theorem tkX13_flaws {a0 : Nat} {a1 : Int32} {a2 : Int32} {a3 : Int32} {a4 : Int32} {h : Hp} {r9 : Int32 × Hp} (e : fX13_flaws a0 a1 a2 a3 a4 h = some r9) : hK h a0 = 11 := by
  unfold fX13_flaws at e
  exact (gd_some e).1
theorem cX13_flaws_m (l : Launch) {E : EE} {A : Nat → Prop} {a0 : Nat} {a1 : Int32} {a2 : Int32} {a3 : Int32} {a4 : Int32} {h : Hp} {r9 : Int32} {h9 : Hp} (hf : fX13_flaws a0 a1 a2 a3 a4 h = some (r9, h9)) : Met l yX13_flaws (wsM yX13_flaws cX13_flaws 6 (some .int)) (rmm 11 0 0) (PcE E A h [rv a0, .int a1, .int a2, .int a3, .int a4]) (Qi E A h9 r9) 0 0 A := by
  refine met_of (by decide +kernel) (by simp [lg_sl, cat_rv, cat_wv, cat_sv, cat_i, cat_l, cat_a]) (fun p e s m args below meth c ls X hr hlk hnm S hl => ?_)
  have hl : lv_has ls 6 [(0, rv a0), (1, .int a1), (2, .int a2), (3, .int a3), (4, .int a4)] := by simpa [lv_args, cat_rv, cat_wv, cat_sv, cat_i, cat_l, cat_a] using hl
  generalize hH : s.heap = H at S ⊢
  generalize hlo : ([] : List Loc) = locs at S ⊢
  clear hH hlo
  unfold fX13_flaws at hf
  obtain ⟨hth, hf⟩ := gd_some hf
  refine g_aload_n X (or_rv _) dX13_flaws_0 rfl (lv_at hl 0 rfl) ?_
  refine lv_iconst (v := 0) X.1 X.2.1 dX13_flaws_1 (by decide) ?_
  refine g_pI X S fpX13_187 (Or.inl rfl) dX13_flaws_2 hf (fun h H locs hm hf S => ?_)
  refine g_aload_n X (or_rv _) dX13_flaws_5 rfl (lv_at hl 0 rfl) ?_
  refine lv_iload_n X.1 X.2.1 dX13_flaws_6 rfl (lv_at hl 1 rfl) ?_
  refine lv_iload_n X.1 X.2.1 dX13_flaws_7 rfl (lv_at hl 2 rfl) ?_
  refine lv_bipush (v := 64) X.1 X.2.1 dX13_flaws_8 (by decide) ?_
  obtain ⟨v1, hc, hf⟩ := ob_some hf
  refine g_ci S (runV (As := [.int a1, .int a2, .int 64]) (rest := []) X S coX13_603 (by decide) (cX13_isField_m l hc) (tkX13_isField hc) rfl hl.1 (by decide) rfl ⟨Nat.zero_le _, Nat.zero_le _⟩ dX13_flaws_10) (fun H locs S => ?_)
  refine lv_if_ne (tgt := 22) X.1 X.2.1 dX13_flaws_13 (by decide) (fun c2 => ?_) (fun c2 => ?_)
  · replace hf := (if_neg c2).symm.trans hf
    refine g_aload_n X (or_rv _) dX13_flaws_22 rfl (lv_at hl 0 rfl) ?_
    refine lv_iload_n X.1 X.2.1 dX13_flaws_23 rfl (lv_at hl 1 rfl) ?_
    refine lv_iload_n X.1 X.2.1 dX13_flaws_24 rfl (lv_at hl 2 rfl) ?_
    refine lv_iload_n X.1 X.2.1 dX13_flaws_25 rfl (lv_at hl 3 rfl) ?_
    refine lv_iload X.1 X.2.1 dX13_flaws_26 (lv_at hl 4 rfl) ?_
    obtain ⟨v3, hc, hf⟩ := ob_some hf
    refine g_ci S (runV (As := [.int a1, .int a2, .int a3, .int a4]) (rest := []) X S coX13_606 (by decide) (cX13_flawNumber_m l hc) (tkX13_flawNumber hc) rfl hl.1 (by decide) rfl ⟨Nat.zero_le _, Nat.zero_le _⟩ dX13_flaws_28) (fun H locs S => ?_)
    refine lv_istore (lv' := [(5, .int v3), (0, rv a0), (1, .int a1), (2, .int a2), (3, .int a3), (4, .int a4)]) X.1 X.2.1 dX13_flaws_31 hl (by decide) rfl (fun ls hl => ?_)
    refine lv_iload X.1 X.2.1 dX13_flaws_33 (lv_at hl 0 rfl) ?_
    refine lv_iconst (v := (-1)) X.1 X.2.1 dX13_flaws_35 (by decide) ?_
    refine lv_icmp_ne (tgt := 47) X.1 X.2.1 dX13_flaws_36 (by decide) (fun c4 => ?_) (fun c4 => ?_)
    · replace hf := (if_neg c4).symm.trans hf
      refine lv_iload X.1 X.2.1 dX13_flaws_47 (lv_at hl 0 rfl) ?_
      cases hf; exact g_ri X S hr hlk dX13_flaws_49
    · replace hf := (if_pos c4).symm.trans hf
      refine g_aload_n X (or_rv _) dX13_flaws_39 rfl (lv_at hl 1 rfl) ?_
      refine lv_iconst (v := 1) X.1 X.2.1 dX13_flaws_40 (by decide) ?_
      obtain ⟨v5, h, hc, hf⟩ := ob2_some hf
      refine g_ci S (runV (As := [.int 1]) (rest := []) X S coX13_329 (by decide) (cX13_fail_m l hc) (tkX13_fail hc) rfl hl.1 (by decide) rfl ⟨Nat.zero_le _, Nat.zero_le _⟩ dX13_flaws_41) (fun H locs S => ?_)
      refine lv_goto (tgt := 49) X.1 X.2.1 dX13_flaws_44 (by decide) ?_
      cases hf; exact g_ri X S hr hlk dX13_flaws_49
  · replace hf := (if_pos c2).symm.trans hf
    refine g_aload_n X (or_rv _) dX13_flaws_16 rfl (lv_at hl 0 rfl) ?_
    refine lv_iconst (v := 2) X.1 X.2.1 dX13_flaws_17 (by decide) ?_
    obtain ⟨v6, h, hc, hf⟩ := ob2_some hf
    refine g_ci S (runV (As := [.int 2]) (rest := []) X S coX13_329 (by decide) (cX13_fail_m l hc) (tkX13_fail hc) rfl hl.1 (by decide) rfl ⟨Nat.zero_le _, Nat.zero_le _⟩ dX13_flaws_18) (fun H locs S => ?_)
    cases hf; exact g_ri X S hr hlk dX13_flaws_21
def fX13_loadZoned_7 (k7 : Nat → Nat → Int32 → Int32 → Int32 → Hp → Option (Hp)) (x0 : Nat) (x1 : Nat) (x2 : Int32) (x3 : Int32) (x4 : Int32) (h : Hp) : Option (Hp) := if x3 ≤ x4 then some h else ob (gR 11 x0 3 h) fun v2 => ob (aI v2 (((x2 + x3) - 1) - x4) h) fun v3 => ob (fX13_putDigit x1 x4 (v3 &&& (15 : Int32)) h) fun h => lt (x4 + 1) fun z5 => k7 x0 x1 x2 x3 z5 h
theorem wfX13_loadZoned_7 {k7 : Nat → Nat → Int32 → Int32 → Int32 → Hp → Option (Hp)} {h9 : Hp} (X : Cx p E A 10 R s m args c cX13_loadZoned yX13_loadZoned.cls 5) (hr : meth.sig.returnType = none) (hlk : meth.locks = false) (hnm : meth.name = yX13_loadZoned.name) (hk7 : ∀ (x0 : Nat) (x1 : Nat) (x2 : Int32) (x3 : Int32) (x4 : Int32) (h : Hp) (H : Heap) (locs : List Loc) (ls : Array Slot), lv_has ls 5 [(0, rv x0), (1, rv x1), (2, .int x2), (3, .int x3), (4, .int x4)] → St E A s h H locs → k7 x0 x1 x2 x3 x4 h = some h9 → W p l e R s m args below meth c H locs 0 0 (MQ below (Qv E A h9) args s 0 0 A) (F0 m 7 ls [])) :
    ∀ (x0 : Nat) (x1 : Nat) (x2 : Int32) (x3 : Int32) (x4 : Int32) (h : Hp) (H : Heap) (locs : List Loc) (ls : Array Slot), lv_has ls 5 [(0, rv x0), (1, rv x1), (2, .int x2), (3, .int x3), (4, .int x4)] → St E A s h H locs → fX13_loadZoned_7 k7 x0 x1 x2 x3 x4 h = some h9 → W p l e R s m args below meth c H locs 0 0 (MQ below (Qv E A h9) args s 0 0 A) (F0 m 7 ls []) := by
  intro x0 x1 x2 x3 x4 h H locs ls hl S hf
  unfold fX13_loadZoned_7 at hf
  refine lv_iload X.1 X.2.1 dX13_loadZoned_7 (lv_at hl 4 rfl) ?_
  refine lv_iload_n X.1 X.2.1 dX13_loadZoned_9 rfl (lv_at hl 3 rfl) ?_
  refine lv_icmp_ge (tgt := 41) X.1 X.2.1 dX13_loadZoned_10 (by decide) (fun c1 => ?_) (fun c1 => ?_)
  · replace hf := (if_pos c1).symm.trans hf
    cases hf; exact g_rv X S hr hlk dX13_loadZoned_41
  · replace hf := (if_neg c1).symm.trans hf
    refine g_aload_n X (or_rv _) dX13_loadZoned_13 rfl (lv_at hl 1 rfl) ?_
    refine lv_iload X.1 X.2.1 dX13_loadZoned_14 (lv_at hl 4 rfl) ?_
    refine g_aload_n X (or_rv _) dX13_loadZoned_16 rfl (lv_at hl 0 rfl) ?_
    refine g_gR X S foX13_76 dX13_loadZoned_17 hf (fun v2 hf => ?_)
    refine lv_iload_n X.1 X.2.1 dX13_loadZoned_20 rfl (lv_at hl 2 rfl) ?_
    refine lv_iload_n X.1 X.2.1 dX13_loadZoned_21 rfl (lv_at hl 3 rfl) ?_
    refine lv_iadd X.1 X.2.1 dX13_loadZoned_22 ?_
    refine lv_iconst (v := 1) X.1 X.2.1 dX13_loadZoned_23 (by decide) ?_
    refine lv_isub X.1 X.2.1 dX13_loadZoned_24 ?_
    refine lv_iload X.1 X.2.1 dX13_loadZoned_25 (lv_at hl 4 rfl) ?_
    refine lv_isub X.1 X.2.1 dX13_loadZoned_27 ?_
    refine g_aI X S dX13_loadZoned_28 hf (fun v3 hf => ?_)
    refine lv_bipush (v := 15) X.1 X.2.1 dX13_loadZoned_29 (by decide) ?_
    refine lv_iand X.1 X.2.1 dX13_loadZoned_31 ?_
    obtain ⟨h, hc, hf⟩ := ob_some hf
    refine g_cv S (runS (As := [rv x1, .int x4, .int (v3 &&& (15 : Int32))]) (rest := []) X S coX13_377 (by decide) (cX13_putDigit_m l hc) rfl hl.1 (by decide) rfl ⟨Nat.zero_le _, Nat.zero_le _⟩ dX13_loadZoned_32) (fun H locs S => ?_)
    obtain ⟨z5, ez5, hf⟩ := lt_some hf
    refine lv_iinc (v := z5) (lv' := [(4, .int z5), (0, rv x0), (1, rv x1), (2, .int x2), (3, .int x3)]) X.1 X.2.1 dX13_loadZoned_35 hl (k := 4) rfl (by rw [← ez5]; rfl) (by decide) rfl (fun ls hl => ?_)
    refine lv_goto (tgt := 7) X.1 X.2.1 dX13_loadZoned_38 (by decide) ?_
    exact hk7 _ _ _ _ _ _ _ _ _ (lv_sub hl [1, 2, 3, 4, 0] rfl) S hf
theorem wfX13_loadZoned_7_l {h9 : Hp} (X : Cx p E A 10 R s m args c cX13_loadZoned yX13_loadZoned.cls 5) (hr : meth.sig.returnType = none) (hlk : meth.locks = false) (hnm : meth.name = yX13_loadZoned.name) :
    ∀ (n : Nat) (x0 : Nat) (x1 : Nat) (x2 : Int32) (x3 : Int32) (x4 : Int32) (h : Hp) (H : Heap) (locs : List Loc) (ls : Array Slot), lv_has ls 5 [(0, rv x0), (1, rv x1), (2, .int x2), (3, .int x3), (4, .int x4)] → St E A s h H locs → lp (fun _ _ _ _ _ _ => none) (fX13_loadZoned_7) n x0 x1 x2 x3 x4 h = some h9 → W p l e R s m args below meth c H locs 0 0 (MQ below (Qv E A h9) args s 0 0 A) (F0 m 7 ls []) := by
  intro n
  induction n with
  | zero =>
    intro x0 x1 x2 x3 x4 h H locs ls hl S hf
    exact nomatch hf
  | succ n ih =>
    intro x0 x1 x2 x3 x4 h H locs ls hl S hf
    exact wfX13_loadZoned_7 X hr hlk hnm ih x0 x1 x2 x3 x4 h H locs ls hl S hf
def fX13_loadZoned (a0 : Nat) (a1 : Nat) (a2 : Int32) (a3 : Int32) (h : Hp) : Option (Hp) := gd 11 a0 h (ob (fX13_clear a1 h) fun h => lp (fun _ _ _ _ _ _ => none) (fX13_loadZoned_7) FU a0 a1 a2 a3 0 h)
theorem tkX13_loadZoned {a0 : Nat} {a1 : Nat} {a2 : Int32} {a3 : Int32} {h : Hp} {r9 : Hp} (e : fX13_loadZoned a0 a1 a2 a3 h = some r9) : hK h a0 = 11 := by
  unfold fX13_loadZoned at e
  exact (gd_some e).1
theorem cX13_loadZoned_m (l : Launch) {E : EE} {A : Nat → Prop} {a0 : Nat} {a1 : Nat} {a2 : Int32} {a3 : Int32} {h : Hp} {h9 : Hp} (hf : fX13_loadZoned a0 a1 a2 a3 h = some h9) : Met l yX13_loadZoned (wsM yX13_loadZoned cX13_loadZoned 5 none) (rmm 10 0 0) (PcE E A h [rv a0, rv a1, .int a2, .int a3]) (Qv E A h9) 0 0 A := by
  refine met_of (by decide +kernel) (by simp [lg_sl, cat_rv, cat_wv, cat_sv, cat_i, cat_l, cat_a]) (fun p e s m args below meth c ls X hr hlk hnm S hl => ?_)
  have hl : lv_has ls 5 [(0, rv a0), (1, rv a1), (2, .int a2), (3, .int a3)] := by simpa [lv_args, cat_rv, cat_wv, cat_sv, cat_i, cat_l, cat_a] using hl
  generalize hH : s.heap = H at S ⊢
  generalize hlo : ([] : List Loc) = locs at S ⊢
  clear hH hlo
  unfold fX13_loadZoned at hf
  obtain ⟨hth, hf⟩ := gd_some hf
  refine g_aload_n X (or_rv _) dX13_loadZoned_0 rfl (lv_at hl 1 rfl) ?_
  obtain ⟨h, hc, hf⟩ := ob_some hf
  refine g_cv S (runS (As := [rv a1]) (rest := []) X S coX13_370 (by decide) (cX13_clear_m l hc) rfl hl.1 (by decide) rfl ⟨Nat.zero_le _, Nat.zero_le _⟩ dX13_loadZoned_1) (fun H locs S => ?_)
  refine lv_iconst (v := 0) X.1 X.2.1 dX13_loadZoned_4 (by decide) ?_
  refine lv_istore (lv' := [(4, .int 0), (0, rv a0), (1, rv a1), (2, .int a2), (3, .int a3)]) X.1 X.2.1 dX13_loadZoned_5 hl (by decide) rfl (fun ls hl => ?_)
  exact wfX13_loadZoned_7_l X hr hlk hnm FU _ _ _ _ _ _ _ _ _ (lv_sub hl [1, 2, 3, 4, 0] rfl) S hf
def fX13_number_142 (x4 : Int64) (y0 : Int32) (h : Hp) : Option (Int64 × Hp) := ob (fX13_isBelow y0) fun v1 => if v1 = 0 then some (x4, h) else some ((-x4), h)
theorem wfX13_number_142 {r9 : Int64} {h9 : Hp} (X : Cx p E A 11 R s m args c cX13_number yX13_number.cls 6) (hr : meth.sig.returnType = (some .long)) (hlk : meth.locks = false) (hnm : meth.name = yX13_number.name) :
    ∀ (x4 : Int64) (y0 : Int32) (h : Hp) (H : Heap) (locs : List Loc) (ls : Array Slot), lv_has ls 6 [(4, .long x4)] → St E A s h H locs → fX13_number_142 x4 y0 h = some (r9, h9) → W p l e R s m args below meth c H locs 0 0 (MQ below (Ql E A h9 r9) args s 0 0 A) (F0 m 142 ls [.int y0]) := by
  intro x4 y0 h H locs ls hl S hf
  unfold fX13_number_142 at hf
  obtain ⟨v1, hc, hf⟩ := ob_some hf
  refine g_ci S (runS (As := [.int y0]) (rest := []) X S coX13_475 (by decide) (cX13_isBelow_m l hc) rfl hl.1 (by decide) rfl ⟨Nat.zero_le _, Nat.zero_le _⟩ dX13_number_142) (fun H locs S => ?_)
  refine lv_if_eq (tgt := 154) X.1 X.2.1 dX13_number_145 (by decide) (fun c2 => ?_) (fun c2 => ?_)
  · replace hf := (if_pos c2).symm.trans hf
    refine lv_lload X.1 X.2.1 dX13_number_154 (lv_at hl 0 rfl) ?_
    cases hf; exact g_rl X S hr hlk dX13_number_156
  · replace hf := (if_neg c2).symm.trans hf
    refine lv_lload X.1 X.2.1 dX13_number_148 (lv_at hl 0 rfl) ?_
    refine lv_lneg X.1 X.2.1 dX13_number_150 ?_
    refine lv_goto (tgt := 156) X.1 X.2.1 dX13_number_151 (by decide) ?_
    cases hf; exact g_rl X S hr hlk dX13_number_156
def fX13_number_68 (x0 : Nat) (x1 : Int32) (x2 : Int32) (x3 : Int32) (h : Hp) : Option (Int64 × Hp) := ob (gR 11 x0 30 h) fun v1 => ob (fX13_digitsOf v1 h) fun v2 => if v2 ≤ 18 then ob (gR 11 x0 30 h) fun v4 => ob (aL v4 2 h) fun v5 => ob (gR 11 x0 30 h) fun v6 => ob (aL v6 1 h) fun v7 => ob (gR 11 x0 30 h) fun v8 => ob (aL v8 0 h) fun v9 => lt ((((v5 * 100000000) + v7) * 100000000) + v9) fun z10 => if x3 = 0 then ob (fX13_signAt x0 x1 x2 h) fun v12 => fX13_number_142 z10 v12 h else ob (gR 11 x0 3 h) fun v13 => ob (aI v13 ((x1 + x2) - 1) h) fun v14 => fX13_number_142 z10 (v14 >>> ((4 : Int32) &&& 31)) h else ob2 (fX13_fail x0 3 h) fun v15 h => some ((Int32.toInt64 v15), h)
theorem wfX13_number_68 {r9 : Int64} {h9 : Hp} (X : Cx p E A 11 R s m args c cX13_number yX13_number.cls 6) (hr : meth.sig.returnType = (some .long)) (hlk : meth.locks = false) (hnm : meth.name = yX13_number.name) :
    ∀ (x0 : Nat) (x1 : Int32) (x2 : Int32) (x3 : Int32) (h : Hp) (H : Heap) (locs : List Loc) (ls : Array Slot), lv_has ls 6 [(0, rv x0), (1, .int x1), (2, .int x2), (3, .int x3)] → St E A s h H locs → fX13_number_68 x0 x1 x2 x3 h = some (r9, h9) → W p l e R s m args below meth c H locs 0 0 (MQ below (Ql E A h9 r9) args s 0 0 A) (F0 m 68 ls []) := by
  intro x0 x1 x2 x3 h H locs ls hl S hf
  unfold fX13_number_68 at hf
  refine g_aload_n X (or_rv _) dX13_number_68 rfl (lv_at hl 0 rfl) ?_
  refine g_gR X S foX13_126 dX13_number_69 hf (fun v1 hf => ?_)
  obtain ⟨v2, hc, hf⟩ := ob_some hf
  refine g_ci S (runS (As := [rv v1]) (rest := []) X S coX13_384 (by decide) (cX13_digitsOf_m l hc) rfl hl.1 (by decide) rfl ⟨Nat.zero_le _, Nat.zero_le _⟩ dX13_number_72) (fun H locs S => ?_)
  refine lv_bipush (v := 18) X.1 X.2.1 dX13_number_75 (by decide) ?_
  refine lv_icmp_le (tgt := 87) X.1 X.2.1 dX13_number_77 (by decide) (fun c3 => ?_) (fun c3 => ?_)
  · replace hf := (if_pos c3).symm.trans hf
    refine g_aload_n X (or_rv _) dX13_number_87 rfl (lv_at hl 0 rfl) ?_
    refine g_gR X S foX13_126 dX13_number_88 hf (fun v4 hf => ?_)
    refine lv_iconst (v := 2) X.1 X.2.1 dX13_number_91 (by decide) ?_
    refine g_aL X S dX13_number_92 hf (fun v5 hf => ?_)
    refine lv_ldc2 X.1 X.2.1 X.2.2.2.1 (X.2.2.1 _ kuX13_368) dX13_number_93 ?_
    refine lv_lmul X.1 X.2.1 dX13_number_96 ?_
    refine g_aload_n X (or_rv _) dX13_number_97 rfl (lv_at hl 0 rfl) ?_
    refine g_gR X S foX13_126 dX13_number_98 hf (fun v6 hf => ?_)
    refine lv_iconst (v := 1) X.1 X.2.1 dX13_number_101 (by decide) ?_
    refine g_aL X S dX13_number_102 hf (fun v7 hf => ?_)
    refine lv_ladd X.1 X.2.1 dX13_number_103 ?_
    refine lv_ldc2 X.1 X.2.1 X.2.2.2.1 (X.2.2.1 _ kuX13_368) dX13_number_104 ?_
    refine lv_lmul X.1 X.2.1 dX13_number_107 ?_
    refine g_aload_n X (or_rv _) dX13_number_108 rfl (lv_at hl 0 rfl) ?_
    refine g_gR X S foX13_126 dX13_number_109 hf (fun v8 hf => ?_)
    refine lv_iconst (v := 0) X.1 X.2.1 dX13_number_112 (by decide) ?_
    refine g_aL X S dX13_number_113 hf (fun v9 hf => ?_)
    refine lv_ladd X.1 X.2.1 dX13_number_114 ?_
    refine g_ltl hf (fun z10 hf => ?_)
    refine lv_lstore (lv' := [(4, .long z10), (0, rv x0), (1, .int x1), (2, .int x2), (3, .int x3)]) X.1 X.2.1 dX13_number_115 hl (by decide) rfl (fun ls hl => ?_)
    refine lv_iload_n X.1 X.2.1 dX13_number_117 rfl (lv_at hl 4 rfl) ?_
    refine lv_if_eq (tgt := 136) X.1 X.2.1 dX13_number_118 (by decide) (fun c11 => ?_) (fun c11 => ?_)
    · replace hf := (if_pos c11).symm.trans hf
      refine g_aload_n X (or_rv _) dX13_number_136 rfl (lv_at hl 1 rfl) ?_
      refine lv_iload_n X.1 X.2.1 dX13_number_137 rfl (lv_at hl 2 rfl) ?_
      refine lv_iload_n X.1 X.2.1 dX13_number_138 rfl (lv_at hl 3 rfl) ?_
      obtain ⟨v12, hc, hf⟩ := ob_some hf
      refine g_ci S (runV (As := [.int x1, .int x2]) (rest := []) X S coX13_472 (by decide) (cX13_signAt_m l hc) (tkX13_signAt hc) rfl hl.1 (by decide) rfl ⟨Nat.zero_le _, Nat.zero_le _⟩ dX13_number_139) (fun H locs S => ?_)
      exact wfX13_number_142 X hr hlk hnm _ _ _ _ _ _ (lv_sub hl [0] rfl) S hf
    · replace hf := (if_neg c11).symm.trans hf
      refine g_aload_n X (or_rv _) dX13_number_121 rfl (lv_at hl 1 rfl) ?_
      refine g_gR X S foX13_76 dX13_number_122 hf (fun v13 hf => ?_)
      refine lv_iload_n X.1 X.2.1 dX13_number_125 rfl (lv_at hl 2 rfl) ?_
      refine lv_iload_n X.1 X.2.1 dX13_number_126 rfl (lv_at hl 3 rfl) ?_
      refine lv_iadd X.1 X.2.1 dX13_number_127 ?_
      refine lv_iconst (v := 1) X.1 X.2.1 dX13_number_128 (by decide) ?_
      refine lv_isub X.1 X.2.1 dX13_number_129 ?_
      refine g_aI X S dX13_number_130 hf (fun v14 hf => ?_)
      refine lv_iconst (v := 4) X.1 X.2.1 dX13_number_131 (by decide) ?_
      refine lv_ishr X.1 X.2.1 dX13_number_132 ?_
      refine lv_goto (tgt := 142) X.1 X.2.1 dX13_number_133 (by decide) ?_
      exact wfX13_number_142 X hr hlk hnm _ _ _ _ _ _ (lv_sub hl [0] rfl) S hf
  · replace hf := (if_neg c3).symm.trans hf
    refine g_aload_n X (or_rv _) dX13_number_80 rfl (lv_at hl 0 rfl) ?_
    refine lv_iconst (v := 3) X.1 X.2.1 dX13_number_81 (by decide) ?_
    obtain ⟨v15, h, hc, hf⟩ := ob2_some hf
    refine g_ci S (runV (As := [.int 3]) (rest := []) X S coX13_329 (by decide) (cX13_fail_m l hc) (tkX13_fail hc) rfl hl.1 (by decide) rfl ⟨Nat.zero_le _, Nat.zero_le _⟩ dX13_number_82) (fun H locs S => ?_)
    refine lv_i2l (v := Int32.toInt64 v15) X.1 X.2.1 dX13_number_85 rfl ?_
    cases hf; exact g_rl X S hr hlk dX13_number_86
def fX13_number (a0 : Nat) (a1 : Int32) (a2 : Int32) (a3 : Int32) (h : Hp) : Option (Int64 × Hp) := gd 11 a0 h (ob (pI 11 a0 2 0 h) fun h => ob (fX13_isField a0 a1 a2 16 h) fun v1 => if v1 = 0 then ob2 (fX13_fail a0 2 h) fun v11 h => some ((Int32.toInt64 v11), h) else ob (fX13_flawNumber a0 a1 a2 a3 (-1) h) fun v3 => if v3 ≤ 0 then if a3 = 0 then ob (gR 11 a0 30 h) fun v6 => ob (fX13_load a0 v6 a1 a2 h) fun h => fX13_number_68 a0 a1 a2 a3 h else ob (gR 11 a0 30 h) fun v8 => ob (fX13_loadZoned a0 v8 a1 a2 h) fun h => fX13_number_68 a0 a1 a2 a3 h else ob2 (fX13_fail a0 1 h) fun v10 h => some ((Int32.toInt64 v10), h))
theorem tkX13_number {a0 : Nat} {a1 : Int32} {a2 : Int32} {a3 : Int32} {h : Hp} {r9 : Int64 × Hp} (e : fX13_number a0 a1 a2 a3 h = some r9) : hK h a0 = 11 := by
  unfold fX13_number at e
  exact (gd_some e).1
theorem cX13_number_m (l : Launch) {E : EE} {A : Nat → Prop} {a0 : Nat} {a1 : Int32} {a2 : Int32} {a3 : Int32} {h : Hp} {r9 : Int64} {h9 : Hp} (hf : fX13_number a0 a1 a2 a3 h = some (r9, h9)) : Met l yX13_number (wsM yX13_number cX13_number 6 (some .long)) (rmm 11 0 0) (PcE E A h [rv a0, .int a1, .int a2, .int a3]) (Ql E A h9 r9) 0 0 A := by
  refine met_of (by decide +kernel) (by simp [lg_sl, cat_rv, cat_wv, cat_sv, cat_i, cat_l, cat_a]) (fun p e s m args below meth c ls X hr hlk hnm S hl => ?_)
  have hl : lv_has ls 6 [(0, rv a0), (1, .int a1), (2, .int a2), (3, .int a3)] := by simpa [lv_args, cat_rv, cat_wv, cat_sv, cat_i, cat_l, cat_a] using hl
  generalize hH : s.heap = H at S ⊢
  generalize hlo : ([] : List Loc) = locs at S ⊢
  clear hH hlo
  unfold fX13_number at hf
  obtain ⟨hth, hf⟩ := gd_some hf
  refine g_aload_n X (or_rv _) dX13_number_0 rfl (lv_at hl 0 rfl) ?_
  refine lv_iconst (v := 0) X.1 X.2.1 dX13_number_1 (by decide) ?_
  refine g_pI X S fpX13_187 (Or.inl rfl) dX13_number_2 hf (fun h H locs hm hf S => ?_)
  refine g_aload_n X (or_rv _) dX13_number_5 rfl (lv_at hl 0 rfl) ?_
  refine lv_iload_n X.1 X.2.1 dX13_number_6 rfl (lv_at hl 1 rfl) ?_
  refine lv_iload_n X.1 X.2.1 dX13_number_7 rfl (lv_at hl 2 rfl) ?_
  refine lv_bipush (v := 16) X.1 X.2.1 dX13_number_8 (by decide) ?_
  obtain ⟨v1, hc, hf⟩ := ob_some hf
  refine g_ci S (runV (As := [.int a1, .int a2, .int 16]) (rest := []) X S coX13_603 (by decide) (cX13_isField_m l hc) (tkX13_isField hc) rfl hl.1 (by decide) rfl ⟨Nat.zero_le _, Nat.zero_le _⟩ dX13_number_10) (fun H locs S => ?_)
  refine lv_if_ne (tgt := 23) X.1 X.2.1 dX13_number_13 (by decide) (fun c2 => ?_) (fun c2 => ?_)
  · replace hf := (if_neg c2).symm.trans hf
    refine g_aload_n X (or_rv _) dX13_number_23 rfl (lv_at hl 0 rfl) ?_
    refine lv_iload_n X.1 X.2.1 dX13_number_24 rfl (lv_at hl 1 rfl) ?_
    refine lv_iload_n X.1 X.2.1 dX13_number_25 rfl (lv_at hl 2 rfl) ?_
    refine lv_iload_n X.1 X.2.1 dX13_number_26 rfl (lv_at hl 3 rfl) ?_
    refine lv_iconst (v := (-1)) X.1 X.2.1 dX13_number_27 (by decide) ?_
    obtain ⟨v3, hc, hf⟩ := ob_some hf
    refine g_ci S (runV (As := [.int a1, .int a2, .int a3, .int (-1)]) (rest := []) X S coX13_606 (by decide) (cX13_flawNumber_m l hc) (tkX13_flawNumber hc) rfl hl.1 (by decide) rfl ⟨Nat.zero_le _, Nat.zero_le _⟩ dX13_number_28) (fun H locs S => ?_)
    refine lv_if_le (tgt := 41) X.1 X.2.1 dX13_number_31 (by decide) (fun c4 => ?_) (fun c4 => ?_)
    · replace hf := (if_pos c4).symm.trans hf
      refine lv_iload_n X.1 X.2.1 dX13_number_41 rfl (lv_at hl 3 rfl) ?_
      refine lv_if_eq (tgt := 58) X.1 X.2.1 dX13_number_42 (by decide) (fun c5 => ?_) (fun c5 => ?_)
      · replace hf := (if_pos c5).symm.trans hf
        refine g_aload_n X (or_rv _) dX13_number_58 rfl (lv_at hl 0 rfl) ?_
        refine g_aload_n X (or_rv _) dX13_number_59 rfl (lv_at hl 0 rfl) ?_
        refine g_gR X S foX13_126 dX13_number_60 hf (fun v6 hf => ?_)
        refine lv_iload_n X.1 X.2.1 dX13_number_63 rfl (lv_at hl 1 rfl) ?_
        refine lv_iload_n X.1 X.2.1 dX13_number_64 rfl (lv_at hl 2 rfl) ?_
        obtain ⟨h, hc, hf⟩ := ob_some hf
        refine g_cv S (runV (As := [rv v6, .int a1, .int a2]) (rest := []) X S coX13_478 (by decide) (cX13_load_m l hc) (tkX13_load hc) rfl hl.1 (by decide) rfl ⟨Nat.zero_le _, Nat.zero_le _⟩ dX13_number_65) (fun H locs S => ?_)
        exact wfX13_number_68 X hr hlk hnm _ _ _ _ _ _ _ _ hl S hf
      · replace hf := (if_neg c5).symm.trans hf
        refine g_aload_n X (or_rv _) dX13_number_45 rfl (lv_at hl 0 rfl) ?_
        refine g_aload_n X (or_rv _) dX13_number_46 rfl (lv_at hl 0 rfl) ?_
        refine g_gR X S foX13_126 dX13_number_47 hf (fun v8 hf => ?_)
        refine lv_iload_n X.1 X.2.1 dX13_number_50 rfl (lv_at hl 1 rfl) ?_
        refine lv_iload_n X.1 X.2.1 dX13_number_51 rfl (lv_at hl 2 rfl) ?_
        obtain ⟨h, hc, hf⟩ := ob_some hf
        refine g_cv S (runV (As := [rv v8, .int a1, .int a2]) (rest := []) X S coX13_610 (by decide) (cX13_loadZoned_m l hc) (tkX13_loadZoned hc) rfl hl.1 (by decide) rfl ⟨Nat.zero_le _, Nat.zero_le _⟩ dX13_number_52) (fun H locs S => ?_)
        refine lv_goto (tgt := 68) X.1 X.2.1 dX13_number_55 (by decide) ?_
        exact wfX13_number_68 X hr hlk hnm _ _ _ _ _ _ _ _ hl S hf
    · replace hf := (if_neg c4).symm.trans hf
      refine g_aload_n X (or_rv _) dX13_number_34 rfl (lv_at hl 0 rfl) ?_
      refine lv_iconst (v := 1) X.1 X.2.1 dX13_number_35 (by decide) ?_
      obtain ⟨v10, h, hc, hf⟩ := ob2_some hf
      refine g_ci S (runV (As := [.int 1]) (rest := []) X S coX13_329 (by decide) (cX13_fail_m l hc) (tkX13_fail hc) rfl hl.1 (by decide) rfl ⟨Nat.zero_le _, Nat.zero_le _⟩ dX13_number_36) (fun H locs S => ?_)
      refine lv_i2l (v := Int32.toInt64 v10) X.1 X.2.1 dX13_number_39 rfl ?_
      cases hf; exact g_rl X S hr hlk dX13_number_40
  · replace hf := (if_pos c2).symm.trans hf
    refine g_aload_n X (or_rv _) dX13_number_16 rfl (lv_at hl 0 rfl) ?_
    refine lv_iconst (v := 2) X.1 X.2.1 dX13_number_17 (by decide) ?_
    obtain ⟨v11, h, hc, hf⟩ := ob2_some hf
    refine g_ci S (runV (As := [.int 2]) (rest := []) X S coX13_329 (by decide) (cX13_fail_m l hc) (tkX13_fail hc) rfl hl.1 (by decide) rfl ⟨Nat.zero_le _, Nat.zero_le _⟩ dX13_number_18) (fun H locs S => ?_)
    refine lv_i2l (v := Int32.toInt64 v11) X.1 X.2.1 dX13_number_21 rfl ?_
    cases hf; exact g_rl X S hr hlk dX13_number_22
def fX13_need_41 (x0 : Nat) (h : Hp) : Option (Int32 × Hp) := ob2 (fX13_fail x0 2 h) fun v1 h => some (v1, h)
theorem wfX13_need_41 {r9 : Int32} {h9 : Hp} (X : Cx p E A 13 R s m args c cX13_need yX13_need.cls 7) (hr : meth.sig.returnType = (some .int)) (hlk : meth.locks = false) (hnm : meth.name = yX13_need.name) :
    ∀ (x0 : Nat) (h : Hp) (H : Heap) (locs : List Loc) (ls : Array Slot), lv_has ls 7 [(0, rv x0)] → St E A s h H locs → fX13_need_41 x0 h = some (r9, h9) → W p l e R s m args below meth c H locs 0 0 (MQ below (Qi E A h9 r9) args s 0 0 A) (F0 m 41 ls []) := by
  intro x0 h H locs ls hl S hf
  unfold fX13_need_41 at hf
  refine g_aload_n X (or_rv _) dX13_need_41 rfl (lv_at hl 0 rfl) ?_
  refine lv_iconst (v := 2) X.1 X.2.1 dX13_need_42 (by decide) ?_
  obtain ⟨v1, h, hc, hf⟩ := ob2_some hf
  refine g_ci S (runV (As := [.int 2]) (rest := []) X S coX13_329 (by decide) (cX13_fail_m l hc) (tkX13_fail hc) rfl hl.1 (by decide) rfl ⟨Nat.zero_le _, Nat.zero_le _⟩ dX13_need_43) (fun H locs S => ?_)
  cases hf; exact g_ri X S hr hlk dX13_need_46
def fX13_need_69 (x0 : Nat) (h : Hp) : Option (Int32 × Hp) := ob2 (fX13_fail x0 1 h) fun v1 h => some (v1, h)
theorem wfX13_need_69 {r9 : Int32} {h9 : Hp} (X : Cx p E A 13 R s m args c cX13_need yX13_need.cls 7) (hr : meth.sig.returnType = (some .int)) (hlk : meth.locks = false) (hnm : meth.name = yX13_need.name) :
    ∀ (x0 : Nat) (h : Hp) (H : Heap) (locs : List Loc) (ls : Array Slot), lv_has ls 7 [(0, rv x0)] → St E A s h H locs → fX13_need_69 x0 h = some (r9, h9) → W p l e R s m args below meth c H locs 0 0 (MQ below (Qi E A h9 r9) args s 0 0 A) (F0 m 69 ls []) := by
  intro x0 h H locs ls hl S hf
  unfold fX13_need_69 at hf
  refine g_aload_n X (or_rv _) dX13_need_69 rfl (lv_at hl 0 rfl) ?_
  refine lv_iconst (v := 1) X.1 X.2.1 dX13_need_70 (by decide) ?_
  obtain ⟨v1, h, hc, hf⟩ := ob2_some hf
  refine g_ci S (runV (As := [.int 1]) (rest := []) X S coX13_329 (by decide) (cX13_fail_m l hc) (tkX13_fail hc) rfl hl.1 (by decide) rfl ⟨Nat.zero_le _, Nat.zero_le _⟩ dX13_need_71) (fun H locs S => ?_)
  cases hf; exact g_ri X S hr hlk dX13_need_74
def fX13_need_162 (k166 : Nat → Hp → Option (Int32 × Hp)) (x0 : Nat) (y0 : Int32) (y1 : Int32) (y2 : Nat) (h : Hp) : Option (Int32 × Hp) := ob2 (fX13_signedSum y2 y1 y0 h) fun v1 h => k166 x0 h
theorem wfX13_need_162 {k166 : Nat → Hp → Option (Int32 × Hp)} {r9 : Int32} {h9 : Hp} (X : Cx p E A 13 R s m args c cX13_need yX13_need.cls 7) (hr : meth.sig.returnType = (some .int)) (hlk : meth.locks = false) (hnm : meth.name = yX13_need.name) (hk166 : ∀ (x0 : Nat) (h : Hp) (H : Heap) (locs : List Loc) (ls : Array Slot), lv_has ls 7 [(0, rv x0)] → St E A s h H locs → k166 x0 h = some (r9, h9) → W p l e R s m args below meth c H locs 0 0 (MQ below (Qi E A h9 r9) args s 0 0 A) (F0 m 166 ls [])) :
    ∀ (x0 : Nat) (y0 : Int32) (y1 : Int32) (y2 : Nat) (h : Hp) (H : Heap) (locs : List Loc) (ls : Array Slot), lv_has ls 7 [(0, rv x0)] → St E A s h H locs → fX13_need_162 k166 x0 y0 y1 y2 h = some (r9, h9) → W p l e R s m args below meth c H locs 0 0 (MQ below (Qi E A h9 r9) args s 0 0 A) (F0 m 162 ls [.int y0, .int y1, rv y2]) := by
  intro x0 y0 y1 y2 h H locs ls hl S hf
  unfold fX13_need_162 at hf
  obtain ⟨v1, h, hc, hf⟩ := ob2_some hf
  refine g_ci S (runV (As := [.int y1, .int y0]) (rest := []) X S coX13_484 (by decide) (cX13_signedSum_m l hc) (tkX13_signedSum hc) rfl hl.1 (by decide) rfl ⟨Nat.zero_le _, Nat.zero_le _⟩ dX13_need_162) (fun H locs S => ?_)
  refine lv_pop X.1 X.2.1 dX13_need_165 rfl ?_
  exact hk166 _ _ _ _ _ hl S hf
def fX13_need_166 (x0 : Nat) (h : Hp) : Option (Int32 × Hp) := ob (gR 11 x0 32 h) fun v1 => ob (fX13_digitsOf v1 h) fun v2 => some (((v2 / 2) + 1), h)
theorem wfX13_need_166 {r9 : Int32} {h9 : Hp} (X : Cx p E A 13 R s m args c cX13_need yX13_need.cls 7) (hr : meth.sig.returnType = (some .int)) (hlk : meth.locks = false) (hnm : meth.name = yX13_need.name) :
    ∀ (x0 : Nat) (h : Hp) (H : Heap) (locs : List Loc) (ls : Array Slot), lv_has ls 7 [(0, rv x0)] → St E A s h H locs → fX13_need_166 x0 h = some (r9, h9) → W p l e R s m args below meth c H locs 0 0 (MQ below (Qi E A h9 r9) args s 0 0 A) (F0 m 166 ls []) := by
  intro x0 h H locs ls hl S hf
  unfold fX13_need_166 at hf
  refine g_aload_n X (or_rv _) dX13_need_166 rfl (lv_at hl 0 rfl) ?_
  refine g_gR X S foX13_133 dX13_need_167 hf (fun v1 hf => ?_)
  obtain ⟨v2, hc, hf⟩ := ob_some hf
  refine g_ci S (runS (As := [rv v1]) (rest := []) X S coX13_384 (by decide) (cX13_digitsOf_m l hc) rfl hl.1 (by decide) rfl ⟨Nat.zero_le _, Nat.zero_le _⟩ dX13_need_170) (fun H locs S => ?_)
  refine lv_iconst (v := 2) X.1 X.2.1 dX13_need_173 (by decide) ?_
  refine g_idiv X (by decide) dX13_need_174 ?_
  refine lv_iconst (v := 1) X.1 X.2.1 dX13_need_175 (by decide) ?_
  refine lv_iadd X.1 X.2.1 dX13_need_176 ?_
  cases hf; exact g_ri X S hr hlk dX13_need_177
def fX13_need (a0 : Nat) (a1 : Int32) (a2 : Int32) (a3 : Int32) (a4 : Int32) (a5 : Int32) (h : Hp) : Option (Int32 × Hp) := gd 11 a0 h (ob (pI 11 a0 2 0 h) fun h => ob (fX13_isIn (Int32.toInt64 a1) 0 2) fun v1 => if v1 = 0 then fX13_need_41 a0 h else ob (fX13_isField a0 a2 a3 16 h) fun v3 => if v3 = 0 then fX13_need_41 a0 h else ob (fX13_isField a0 a4 a5 16 h) fun v5 => if v5 = 0 then fX13_need_41 a0 h else ob (fX13_flawOf a0 a2 a3 h) fun v7 => if v7 = (-1) then ob (fX13_flawOf a0 a4 a5 h) fun v9 => if v9 = (-1) then ob (gR 11 a0 30 h) fun v11 => ob (fX13_load a0 v11 a2 a3 h) fun h => ob (gR 11 a0 31 h) fun v13 => ob (fX13_load a0 v13 a4 a5 h) fun h => ob (fX13_signAt a0 a4 a5 h) fun v15 => ob (fX13_isBelow v15) fun v16 => if a1 = 2 then ob (gR 11 a0 32 h) fun v22 => ob (gR 11 a0 30 h) fun v23 => ob (gR 11 a0 31 h) fun v24 => ob (fX13_product v22 v23 v24 h) fun h => fX13_need_166 a0 h else ob (fX13_signAt a0 a2 a3 h) fun v18 => ob (fX13_isBelow v18) fun v19 => if a1 = 0 then fX13_need_162 fX13_need_166 a0 v16 v19 a0 h else if v16 = 0 then fX13_need_162 fX13_need_166 a0 1 v19 a0 h else fX13_need_162 fX13_need_166 a0 0 v19 a0 h else fX13_need_69 a0 h else fX13_need_69 a0 h)
theorem tkX13_need {a0 : Nat} {a1 : Int32} {a2 : Int32} {a3 : Int32} {a4 : Int32} {a5 : Int32} {h : Hp} {r9 : Int32 × Hp} (e : fX13_need a0 a1 a2 a3 a4 a5 h = some r9) : hK h a0 = 11 := by
  unfold fX13_need at e
  exact (gd_some e).1
theorem cX13_need_m (l : Launch) {E : EE} {A : Nat → Prop} {a0 : Nat} {a1 : Int32} {a2 : Int32} {a3 : Int32} {a4 : Int32} {a5 : Int32} {h : Hp} {r9 : Int32} {h9 : Hp} (hf : fX13_need a0 a1 a2 a3 a4 a5 h = some (r9, h9)) : Met l yX13_need (wsM yX13_need cX13_need 7 (some .int)) (rmm 13 0 0) (PcE E A h [rv a0, .int a1, .int a2, .int a3, .int a4, .int a5]) (Qi E A h9 r9) 0 0 A := by
  refine met_of (by decide +kernel) (by simp [lg_sl, cat_rv, cat_wv, cat_sv, cat_i, cat_l, cat_a]) (fun p e s m args below meth c ls X hr hlk hnm S hl => ?_)
  have hl : lv_has ls 7 [(0, rv a0), (1, .int a1), (2, .int a2), (3, .int a3), (4, .int a4), (5, .int a5)] := by simpa [lv_args, cat_rv, cat_wv, cat_sv, cat_i, cat_l, cat_a] using hl
  generalize hH : s.heap = H at S ⊢
  generalize hlo : ([] : List Loc) = locs at S ⊢
  clear hH hlo
  unfold fX13_need at hf
  obtain ⟨hth, hf⟩ := gd_some hf
  refine g_aload_n X (or_rv _) dX13_need_0 rfl (lv_at hl 0 rfl) ?_
  refine lv_iconst (v := 0) X.1 X.2.1 dX13_need_1 (by decide) ?_
  refine g_pI X S fpX13_187 (Or.inl rfl) dX13_need_2 hf (fun h H locs hm hf S => ?_)
  refine lv_iload_n X.1 X.2.1 dX13_need_5 rfl (lv_at hl 1 rfl) ?_
  refine lv_i2l (v := Int32.toInt64 a1) X.1 X.2.1 dX13_need_6 rfl ?_
  refine lv_lconst (v := 0) X.1 X.2.1 dX13_need_7 (by decide) ?_
  refine lv_ldc2 X.1 X.2.1 X.2.2.2.1 (X.2.2.1 _ kuX13_597) dX13_need_8 ?_
  obtain ⟨v1, hc, hf⟩ := ob_some hf
  refine g_ci S (runS (As := [.long (Int32.toInt64 a1), .long 0, .long 2]) (rest := []) X S coX13_287 (by decide) (cX13_isIn_m l hc) rfl hl.1 (by decide) rfl ⟨Nat.zero_le _, Nat.zero_le _⟩ dX13_need_11) (fun H locs S => ?_)
  refine lv_if_eq (tgt := 41) X.1 X.2.1 dX13_need_14 (by decide) (fun c2 => ?_) (fun c2 => ?_)
  · replace hf := (if_pos c2).symm.trans hf
    exact wfX13_need_41 X hr hlk hnm _ _ _ _ _ (lv_sub hl [0] rfl) S hf
  · replace hf := (if_neg c2).symm.trans hf
    refine g_aload_n X (or_rv _) dX13_need_17 rfl (lv_at hl 0 rfl) ?_
    refine lv_iload_n X.1 X.2.1 dX13_need_18 rfl (lv_at hl 2 rfl) ?_
    refine lv_iload_n X.1 X.2.1 dX13_need_19 rfl (lv_at hl 3 rfl) ?_
    refine lv_bipush (v := 16) X.1 X.2.1 dX13_need_20 (by decide) ?_
    obtain ⟨v3, hc, hf⟩ := ob_some hf
    refine g_ci S (runV (As := [.int a2, .int a3, .int 16]) (rest := []) X S coX13_603 (by decide) (cX13_isField_m l hc) (tkX13_isField hc) rfl hl.1 (by decide) rfl ⟨Nat.zero_le _, Nat.zero_le _⟩ dX13_need_22) (fun H locs S => ?_)
    refine lv_if_eq (tgt := 41) X.1 X.2.1 dX13_need_25 (by decide) (fun c4 => ?_) (fun c4 => ?_)
    · replace hf := (if_pos c4).symm.trans hf
      exact wfX13_need_41 X hr hlk hnm _ _ _ _ _ (lv_sub hl [0] rfl) S hf
    · replace hf := (if_neg c4).symm.trans hf
      refine g_aload_n X (or_rv _) dX13_need_28 rfl (lv_at hl 0 rfl) ?_
      refine lv_iload X.1 X.2.1 dX13_need_29 (lv_at hl 4 rfl) ?_
      refine lv_iload X.1 X.2.1 dX13_need_31 (lv_at hl 5 rfl) ?_
      refine lv_bipush (v := 16) X.1 X.2.1 dX13_need_33 (by decide) ?_
      obtain ⟨v5, hc, hf⟩ := ob_some hf
      refine g_ci S (runV (As := [.int a4, .int a5, .int 16]) (rest := []) X S coX13_603 (by decide) (cX13_isField_m l hc) (tkX13_isField hc) rfl hl.1 (by decide) rfl ⟨Nat.zero_le _, Nat.zero_le _⟩ dX13_need_35) (fun H locs S => ?_)
      refine lv_if_ne (tgt := 47) X.1 X.2.1 dX13_need_38 (by decide) (fun c6 => ?_) (fun c6 => ?_)
      · replace hf := (if_neg c6).symm.trans hf
        refine g_aload_n X (or_rv _) dX13_need_47 rfl (lv_at hl 0 rfl) ?_
        refine lv_iload_n X.1 X.2.1 dX13_need_48 rfl (lv_at hl 2 rfl) ?_
        refine lv_iload_n X.1 X.2.1 dX13_need_49 rfl (lv_at hl 3 rfl) ?_
        obtain ⟨v7, hc, hf⟩ := ob_some hf
        refine g_ci S (runV (As := [.int a2, .int a3]) (rest := []) X S coX13_434 (by decide) (cX13_flawOf_m l hc) (tkX13_flawOf hc) rfl hl.1 (by decide) rfl ⟨Nat.zero_le _, Nat.zero_le _⟩ dX13_need_50) (fun H locs S => ?_)
        refine lv_iconst (v := (-1)) X.1 X.2.1 dX13_need_53 (by decide) ?_
        refine lv_icmp_ne (tgt := 69) X.1 X.2.1 dX13_need_54 (by decide) (fun c8 => ?_) (fun c8 => ?_)
        · replace hf := (if_neg c8).symm.trans hf
          exact wfX13_need_69 X hr hlk hnm _ _ _ _ _ (lv_sub hl [0] rfl) S hf
        · replace hf := (if_pos c8).symm.trans hf
          refine g_aload_n X (or_rv _) dX13_need_57 rfl (lv_at hl 0 rfl) ?_
          refine lv_iload X.1 X.2.1 dX13_need_58 (lv_at hl 4 rfl) ?_
          refine lv_iload X.1 X.2.1 dX13_need_60 (lv_at hl 5 rfl) ?_
          obtain ⟨v9, hc, hf⟩ := ob_some hf
          refine g_ci S (runV (As := [.int a4, .int a5]) (rest := []) X S coX13_434 (by decide) (cX13_flawOf_m l hc) (tkX13_flawOf hc) rfl hl.1 (by decide) rfl ⟨Nat.zero_le _, Nat.zero_le _⟩ dX13_need_62) (fun H locs S => ?_)
          refine lv_iconst (v := (-1)) X.1 X.2.1 dX13_need_65 (by decide) ?_
          refine lv_icmp_eq (tgt := 75) X.1 X.2.1 dX13_need_66 (by decide) (fun c10 => ?_) (fun c10 => ?_)
          · replace hf := (if_pos c10).symm.trans hf
            refine g_aload_n X (or_rv _) dX13_need_75 rfl (lv_at hl 0 rfl) ?_
            refine g_aload_n X (or_rv _) dX13_need_76 rfl (lv_at hl 0 rfl) ?_
            refine g_gR X S foX13_126 dX13_need_77 hf (fun v11 hf => ?_)
            refine lv_iload_n X.1 X.2.1 dX13_need_80 rfl (lv_at hl 2 rfl) ?_
            refine lv_iload_n X.1 X.2.1 dX13_need_81 rfl (lv_at hl 3 rfl) ?_
            obtain ⟨h, hc, hf⟩ := ob_some hf
            refine g_cv S (runV (As := [rv v11, .int a2, .int a3]) (rest := []) X S coX13_478 (by decide) (cX13_load_m l hc) (tkX13_load hc) rfl hl.1 (by decide) rfl ⟨Nat.zero_le _, Nat.zero_le _⟩ dX13_need_82) (fun H locs S => ?_)
            refine g_aload_n X (or_rv _) dX13_need_85 rfl (lv_at hl 0 rfl) ?_
            refine g_aload_n X (or_rv _) dX13_need_86 rfl (lv_at hl 0 rfl) ?_
            refine g_gR X S foX13_130 dX13_need_87 hf (fun v13 hf => ?_)
            refine lv_iload X.1 X.2.1 dX13_need_90 (lv_at hl 4 rfl) ?_
            refine lv_iload X.1 X.2.1 dX13_need_92 (lv_at hl 5 rfl) ?_
            obtain ⟨h, hc, hf⟩ := ob_some hf
            refine g_cv S (runV (As := [rv v13, .int a4, .int a5]) (rest := []) X S coX13_478 (by decide) (cX13_load_m l hc) (tkX13_load hc) rfl hl.1 (by decide) rfl ⟨Nat.zero_le _, Nat.zero_le _⟩ dX13_need_94) (fun H locs S => ?_)
            refine g_aload_n X (or_rv _) dX13_need_97 rfl (lv_at hl 0 rfl) ?_
            refine lv_iload X.1 X.2.1 dX13_need_98 (lv_at hl 4 rfl) ?_
            refine lv_iload X.1 X.2.1 dX13_need_100 (lv_at hl 5 rfl) ?_
            obtain ⟨v15, hc, hf⟩ := ob_some hf
            refine g_ci S (runV (As := [.int a4, .int a5]) (rest := []) X S coX13_472 (by decide) (cX13_signAt_m l hc) (tkX13_signAt hc) rfl hl.1 (by decide) rfl ⟨Nat.zero_le _, Nat.zero_le _⟩ dX13_need_102) (fun H locs S => ?_)
            obtain ⟨v16, hc, hf⟩ := ob_some hf
            refine g_ci S (runS (As := [.int v15]) (rest := []) X S coX13_475 (by decide) (cX13_isBelow_m l hc) rfl hl.1 (by decide) rfl ⟨Nat.zero_le _, Nat.zero_le _⟩ dX13_need_105) (fun H locs S => ?_)
            refine lv_istore (lv' := [(6, .int v16), (0, rv a0), (1, .int a1), (2, .int a2), (3, .int a3), (4, .int a4), (5, .int a5)]) X.1 X.2.1 dX13_need_108 hl (by decide) rfl (fun ls hl => ?_)
            refine lv_iload_n X.1 X.2.1 dX13_need_110 rfl (lv_at hl 2 rfl) ?_
            refine lv_iconst (v := 2) X.1 X.2.1 dX13_need_111 (by decide) ?_
            refine lv_icmp_ne (tgt := 133) X.1 X.2.1 dX13_need_112 (by decide) (fun c17 => ?_) (fun c17 => ?_)
            · replace hf := (if_neg c17).symm.trans hf
              refine g_aload_n X (or_rv _) dX13_need_133 rfl (lv_at hl 1 rfl) ?_
              refine g_aload_n X (or_rv _) dX13_need_134 rfl (lv_at hl 1 rfl) ?_
              refine lv_iload_n X.1 X.2.1 dX13_need_135 rfl (lv_at hl 3 rfl) ?_
              refine lv_iload_n X.1 X.2.1 dX13_need_136 rfl (lv_at hl 4 rfl) ?_
              obtain ⟨v18, hc, hf⟩ := ob_some hf
              refine g_ci S (runV (As := [.int a2, .int a3]) (rest := [rv a0]) X S coX13_472 (by decide) (cX13_signAt_m l hc) (tkX13_signAt hc) rfl hl.1 (by simp [cat_rv, cat_wv, cat_sv, cat_i, cat_l, cat_a]) rfl ⟨Nat.zero_le _, Nat.zero_le _⟩ dX13_need_137) (fun H locs S => ?_)
              obtain ⟨v19, hc, hf⟩ := ob_some hf
              refine g_ci S (runS (As := [.int v18]) (rest := [rv a0]) X S coX13_475 (by decide) (cX13_isBelow_m l hc) rfl hl.1 (by simp [cat_rv, cat_wv, cat_sv, cat_i, cat_l, cat_a]) rfl ⟨Nat.zero_le _, Nat.zero_le _⟩ dX13_need_140) (fun H locs S => ?_)
              refine lv_iload_n X.1 X.2.1 dX13_need_143 rfl (lv_at hl 2 rfl) ?_
              refine lv_if_ne (tgt := 152) X.1 X.2.1 dX13_need_144 (by decide) (fun c20 => ?_) (fun c20 => ?_)
              · replace hf := (if_neg c20).symm.trans hf
                refine lv_iload X.1 X.2.1 dX13_need_152 (lv_at hl 0 rfl) ?_
                refine lv_if_ne (tgt := 161) X.1 X.2.1 dX13_need_154 (by decide) (fun c21 => ?_) (fun c21 => ?_)
                · replace hf := (if_neg c21).symm.trans hf
                  refine lv_iconst (v := 0) X.1 X.2.1 dX13_need_161 (by decide) ?_
                  exact wfX13_need_162 X hr hlk hnm (wfX13_need_166 X hr hlk hnm) _ _ _ _ _ _ _ _ (lv_sub hl [1] rfl) S hf
                · replace hf := (if_pos c21).symm.trans hf
                  refine lv_iconst (v := 1) X.1 X.2.1 dX13_need_157 (by decide) ?_
                  refine lv_goto (tgt := 162) X.1 X.2.1 dX13_need_158 (by decide) ?_
                  exact wfX13_need_162 X hr hlk hnm (wfX13_need_166 X hr hlk hnm) _ _ _ _ _ _ _ _ (lv_sub hl [1] rfl) S hf
              · replace hf := (if_pos c20).symm.trans hf
                refine lv_iload X.1 X.2.1 dX13_need_147 (lv_at hl 0 rfl) ?_
                refine lv_goto (tgt := 162) X.1 X.2.1 dX13_need_149 (by decide) ?_
                exact wfX13_need_162 X hr hlk hnm (wfX13_need_166 X hr hlk hnm) _ _ _ _ _ _ _ _ (lv_sub hl [1] rfl) S hf
            · replace hf := (if_pos c17).symm.trans hf
              refine g_aload_n X (or_rv _) dX13_need_115 rfl (lv_at hl 1 rfl) ?_
              refine g_gR X S foX13_133 dX13_need_116 hf (fun v22 hf => ?_)
              refine g_aload_n X (or_rv _) dX13_need_119 rfl (lv_at hl 1 rfl) ?_
              refine g_gR X S foX13_126 dX13_need_120 hf (fun v23 hf => ?_)
              refine g_aload_n X (or_rv _) dX13_need_123 rfl (lv_at hl 1 rfl) ?_
              refine g_gR X S foX13_130 dX13_need_124 hf (fun v24 hf => ?_)
              obtain ⟨h, hc, hf⟩ := ob_some hf
              refine g_cv S (runS (As := [rv v22, rv v23, rv v24]) (rest := []) X S coX13_488 (by decide) (cX13_product_m l hc) rfl hl.1 (by decide) rfl ⟨Nat.zero_le _, Nat.zero_le _⟩ dX13_need_127) (fun H locs S => ?_)
              refine lv_goto (tgt := 166) X.1 X.2.1 dX13_need_130 (by decide) ?_
              exact wfX13_need_166 X hr hlk hnm _ _ _ _ _ (lv_sub hl [1] rfl) S hf
          · replace hf := (if_neg c10).symm.trans hf
            exact wfX13_need_69 X hr hlk hnm _ _ _ _ _ (lv_sub hl [0] rfl) S hf
      · replace hf := (if_pos c6).symm.trans hf
        exact wfX13_need_41 X hr hlk hnm _ _ _ _ _ (lv_sub hl [0] rfl) S hf
def fX13_rounds_28 (x0 : Nat) (h : Hp) : Option (Int32 × Hp) := ob2 (fX13_fail x0 2 h) fun v1 h => some (v1, h)
theorem wfX13_rounds_28 {r9 : Int32} {h9 : Hp} (X : Cx p E A 11 R s m args c cX13_rounds yX13_rounds.cls 6) (hr : meth.sig.returnType = (some .int)) (hlk : meth.locks = false) (hnm : meth.name = yX13_rounds.name) :
    ∀ (x0 : Nat) (h : Hp) (H : Heap) (locs : List Loc) (ls : Array Slot), lv_has ls 6 [(0, rv x0)] → St E A s h H locs → fX13_rounds_28 x0 h = some (r9, h9) → W p l e R s m args below meth c H locs 0 0 (MQ below (Qi E A h9 r9) args s 0 0 A) (F0 m 28 ls []) := by
  intro x0 h H locs ls hl S hf
  unfold fX13_rounds_28 at hf
  refine g_aload_n X (or_rv _) dX13_rounds_28 rfl (lv_at hl 0 rfl) ?_
  refine lv_iconst (v := 2) X.1 X.2.1 dX13_rounds_29 (by decide) ?_
  obtain ⟨v1, h, hc, hf⟩ := ob2_some hf
  refine g_ci S (runV (As := [.int 2]) (rest := []) X S coX13_329 (by decide) (cX13_fail_m l hc) (tkX13_fail hc) rfl hl.1 (by decide) rfl ⟨Nat.zero_le _, Nat.zero_le _⟩ dX13_rounds_30) (fun H locs S => ?_)
  cases hf; exact g_ri X S hr hlk dX13_rounds_33
def fX13_rounds_66 (k66 : Nat → Int32 → Int32 → Int32 → Hp → Option (Int32 × Hp)) (x0 : Nat) (x3 : Int32) (x4 : Int32) (x5 : Int32) (h : Hp) : Option (Int32 × Hp) := if 10 ≤ x5 then some (x4, h) else ob (gR 11 x0 30 h) fun v2 => ob (fX13_digitOf v2 (x3 - 1) h) fun v3 => if (v3 + x5) ≤ 9 then lt (x4 ||| (0 : Int32)) fun z5 => lt (x5 + 1) fun z6 => k66 x0 x3 z5 z6 h else lt (x4 ||| ((1 : Int32) <<< (x5 &&& 31))) fun z7 => lt (x5 + 1) fun z8 => k66 x0 x3 z7 z8 h
theorem wfX13_rounds_66 {k66 : Nat → Int32 → Int32 → Int32 → Hp → Option (Int32 × Hp)} {r9 : Int32} {h9 : Hp} (X : Cx p E A 11 R s m args c cX13_rounds yX13_rounds.cls 6) (hr : meth.sig.returnType = (some .int)) (hlk : meth.locks = false) (hnm : meth.name = yX13_rounds.name) (hk66 : ∀ (x0 : Nat) (x3 : Int32) (x4 : Int32) (x5 : Int32) (h : Hp) (H : Heap) (locs : List Loc) (ls : Array Slot), lv_has ls 6 [(0, rv x0), (3, .int x3), (4, .int x4), (5, .int x5)] → St E A s h H locs → k66 x0 x3 x4 x5 h = some (r9, h9) → W p l e R s m args below meth c H locs 0 0 (MQ below (Qi E A h9 r9) args s 0 0 A) (F0 m 66 ls [])) :
    ∀ (x0 : Nat) (x3 : Int32) (x4 : Int32) (x5 : Int32) (h : Hp) (H : Heap) (locs : List Loc) (ls : Array Slot), lv_has ls 6 [(0, rv x0), (3, .int x3), (4, .int x4), (5, .int x5)] → St E A s h H locs → fX13_rounds_66 k66 x0 x3 x4 x5 h = some (r9, h9) → W p l e R s m args below meth c H locs 0 0 (MQ below (Qi E A h9 r9) args s 0 0 A) (F0 m 66 ls []) := by
  intro x0 x3 x4 x5 h H locs ls hl S hf
  unfold fX13_rounds_66 at hf
  refine lv_iload X.1 X.2.1 dX13_rounds_66 (lv_at hl 3 rfl) ?_
  refine lv_bipush (v := 10) X.1 X.2.1 dX13_rounds_68 (by decide) ?_
  refine lv_icmp_ge (tgt := 110) X.1 X.2.1 dX13_rounds_70 (by decide) (fun c1 => ?_) (fun c1 => ?_)
  · replace hf := (if_pos c1).symm.trans hf
    refine lv_iload X.1 X.2.1 dX13_rounds_110 (lv_at hl 2 rfl) ?_
    cases hf; exact g_ri X S hr hlk dX13_rounds_112
  · replace hf := (if_neg c1).symm.trans hf
    refine lv_iload X.1 X.2.1 dX13_rounds_73 (lv_at hl 2 rfl) ?_
    refine g_aload_n X (or_rv _) dX13_rounds_75 rfl (lv_at hl 0 rfl) ?_
    refine g_gR X S foX13_126 dX13_rounds_76 hf (fun v2 hf => ?_)
    refine lv_iload_n X.1 X.2.1 dX13_rounds_79 rfl (lv_at hl 1 rfl) ?_
    refine lv_iconst (v := 1) X.1 X.2.1 dX13_rounds_80 (by decide) ?_
    refine lv_isub X.1 X.2.1 dX13_rounds_81 ?_
    obtain ⟨v3, hc, hf⟩ := ob_some hf
    refine g_ci S (runS (As := [rv v2, .int (x3 - 1)]) (rest := [.int x4]) X S coX13_364 (by decide) (cX13_digitOf_m l hc) rfl hl.1 (by simp [cat_rv, cat_wv, cat_sv, cat_i, cat_l, cat_a]) rfl ⟨Nat.zero_le _, Nat.zero_le _⟩ dX13_rounds_82) (fun H locs S => ?_)
    refine lv_iload X.1 X.2.1 dX13_rounds_85 (lv_at hl 3 rfl) ?_
    refine lv_iadd X.1 X.2.1 dX13_rounds_87 ?_
    refine lv_bipush (v := 9) X.1 X.2.1 dX13_rounds_88 (by decide) ?_
    refine lv_icmp_le (tgt := 100) X.1 X.2.1 dX13_rounds_90 (by decide) (fun c4 => ?_) (fun c4 => ?_)
    · replace hf := (if_pos c4).symm.trans hf
      refine lv_iconst (v := 0) X.1 X.2.1 dX13_rounds_100 (by decide) ?_
      refine lv_ior X.1 X.2.1 dX13_rounds_101 ?_
      refine g_lti hf (fun z5 hf => ?_)
      refine lv_istore (lv' := [(4, .int z5), (0, rv x0), (3, .int x3), (5, .int x5)]) X.1 X.2.1 dX13_rounds_102 hl (by decide) rfl (fun ls hl => ?_)
      obtain ⟨z6, ez6, hf⟩ := lt_some hf
      refine lv_iinc (v := z6) (lv' := [(5, .int z6), (4, .int z5), (0, rv x0), (3, .int x3)]) X.1 X.2.1 dX13_rounds_104 hl (k := 3) rfl (by rw [← ez6]; rfl) (by decide) rfl (fun ls hl => ?_)
      refine lv_goto (tgt := 66) X.1 X.2.1 dX13_rounds_107 (by decide) ?_
      exact hk66 _ _ _ _ _ _ _ _ (lv_sub hl [2, 3, 1, 0] rfl) S hf
    · replace hf := (if_neg c4).symm.trans hf
      refine lv_iconst (v := 1) X.1 X.2.1 dX13_rounds_93 (by decide) ?_
      refine lv_iload X.1 X.2.1 dX13_rounds_94 (lv_at hl 3 rfl) ?_
      refine lv_ishl X.1 X.2.1 dX13_rounds_96 ?_
      refine lv_goto (tgt := 101) X.1 X.2.1 dX13_rounds_97 (by decide) ?_
      refine lv_ior X.1 X.2.1 dX13_rounds_101 ?_
      refine g_lti hf (fun z7 hf => ?_)
      refine lv_istore (lv' := [(4, .int z7), (0, rv x0), (3, .int x3), (5, .int x5)]) X.1 X.2.1 dX13_rounds_102 hl (by decide) rfl (fun ls hl => ?_)
      obtain ⟨z8, ez8, hf⟩ := lt_some hf
      refine lv_iinc (v := z8) (lv' := [(5, .int z8), (4, .int z7), (0, rv x0), (3, .int x3)]) X.1 X.2.1 dX13_rounds_104 hl (k := 3) rfl (by rw [← ez8]; rfl) (by decide) rfl (fun ls hl => ?_)
      refine lv_goto (tgt := 66) X.1 X.2.1 dX13_rounds_107 (by decide) ?_
      exact hk66 _ _ _ _ _ _ _ _ (lv_sub hl [2, 3, 1, 0] rfl) S hf
theorem wfX13_rounds_66_l {r9 : Int32} {h9 : Hp} (X : Cx p E A 11 R s m args c cX13_rounds yX13_rounds.cls 6) (hr : meth.sig.returnType = (some .int)) (hlk : meth.locks = false) (hnm : meth.name = yX13_rounds.name) :
    ∀ (n : Nat) (x0 : Nat) (x3 : Int32) (x4 : Int32) (x5 : Int32) (h : Hp) (H : Heap) (locs : List Loc) (ls : Array Slot), lv_has ls 6 [(0, rv x0), (3, .int x3), (4, .int x4), (5, .int x5)] → St E A s h H locs → lp (fun _ _ _ _ _ => none) (fX13_rounds_66) n x0 x3 x4 x5 h = some (r9, h9) → W p l e R s m args below meth c H locs 0 0 (MQ below (Qi E A h9 r9) args s 0 0 A) (F0 m 66 ls []) := by
  intro n
  induction n with
  | zero =>
    intro x0 x3 x4 x5 h H locs ls hl S hf
    exact nomatch hf
  | succ n ih =>
    intro x0 x3 x4 x5 h H locs ls hl S hf
    exact wfX13_rounds_66 X hr hlk hnm ih x0 x3 x4 x5 h H locs ls hl S hf
def fX13_rounds (a0 : Nat) (a1 : Int32) (a2 : Int32) (a3 : Int32) (h : Hp) : Option (Int32 × Hp) := gd 11 a0 h (ob (pI 11 a0 2 0 h) fun h => ob (fX13_isIn (Int32.toInt64 a3) 1 32) fun v1 => if v1 = 0 then fX13_rounds_28 a0 h else ob (fX13_isField a0 a1 a2 16 h) fun v3 => if v3 = 0 then fX13_rounds_28 a0 h else ob (fX13_flawOf a0 a1 a2 h) fun v5 => if v5 = (-1) then ob (gR 11 a0 30 h) fun v7 => ob (fX13_load a0 v7 a1 a2 h) fun h => lp (fun _ _ _ _ _ => none) (fX13_rounds_66) FU a0 a3 0 0 h else ob2 (fX13_fail a0 1 h) fun v9 h => some (v9, h))
theorem tkX13_rounds {a0 : Nat} {a1 : Int32} {a2 : Int32} {a3 : Int32} {h : Hp} {r9 : Int32 × Hp} (e : fX13_rounds a0 a1 a2 a3 h = some r9) : hK h a0 = 11 := by
  unfold fX13_rounds at e
  exact (gd_some e).1
theorem cX13_rounds_m (l : Launch) {E : EE} {A : Nat → Prop} {a0 : Nat} {a1 : Int32} {a2 : Int32} {a3 : Int32} {h : Hp} {r9 : Int32} {h9 : Hp} (hf : fX13_rounds a0 a1 a2 a3 h = some (r9, h9)) : Met l yX13_rounds (wsM yX13_rounds cX13_rounds 6 (some .int)) (rmm 11 0 0) (PcE E A h [rv a0, .int a1, .int a2, .int a3]) (Qi E A h9 r9) 0 0 A := by
  refine met_of (by decide +kernel) (by simp [lg_sl, cat_rv, cat_wv, cat_sv, cat_i, cat_l, cat_a]) (fun p e s m args below meth c ls X hr hlk hnm S hl => ?_)
  have hl : lv_has ls 6 [(0, rv a0), (1, .int a1), (2, .int a2), (3, .int a3)] := by simpa [lv_args, cat_rv, cat_wv, cat_sv, cat_i, cat_l, cat_a] using hl
  generalize hH : s.heap = H at S ⊢
  generalize hlo : ([] : List Loc) = locs at S ⊢
  clear hH hlo
  unfold fX13_rounds at hf
  obtain ⟨hth, hf⟩ := gd_some hf
  refine g_aload_n X (or_rv _) dX13_rounds_0 rfl (lv_at hl 0 rfl) ?_
  refine lv_iconst (v := 0) X.1 X.2.1 dX13_rounds_1 (by decide) ?_
  refine g_pI X S fpX13_187 (Or.inl rfl) dX13_rounds_2 hf (fun h H locs hm hf S => ?_)
  refine lv_iload_n X.1 X.2.1 dX13_rounds_5 rfl (lv_at hl 3 rfl) ?_
  refine lv_i2l (v := Int32.toInt64 a3) X.1 X.2.1 dX13_rounds_6 rfl ?_
  refine lv_lconst (v := 1) X.1 X.2.1 dX13_rounds_7 (by decide) ?_
  refine lv_ldc2 X.1 X.2.1 X.2.2.2.1 (X.2.2.1 _ kuX13_613) dX13_rounds_8 ?_
  obtain ⟨v1, hc, hf⟩ := ob_some hf
  refine g_ci S (runS (As := [.long (Int32.toInt64 a3), .long 1, .long 32]) (rest := []) X S coX13_287 (by decide) (cX13_isIn_m l hc) rfl hl.1 (by decide) rfl ⟨Nat.zero_le _, Nat.zero_le _⟩ dX13_rounds_11) (fun H locs S => ?_)
  refine lv_if_eq (tgt := 28) X.1 X.2.1 dX13_rounds_14 (by decide) (fun c2 => ?_) (fun c2 => ?_)
  · replace hf := (if_pos c2).symm.trans hf
    exact wfX13_rounds_28 X hr hlk hnm _ _ _ _ _ (lv_sub hl [0] rfl) S hf
  · replace hf := (if_neg c2).symm.trans hf
    refine g_aload_n X (or_rv _) dX13_rounds_17 rfl (lv_at hl 0 rfl) ?_
    refine lv_iload_n X.1 X.2.1 dX13_rounds_18 rfl (lv_at hl 1 rfl) ?_
    refine lv_iload_n X.1 X.2.1 dX13_rounds_19 rfl (lv_at hl 2 rfl) ?_
    refine lv_bipush (v := 16) X.1 X.2.1 dX13_rounds_20 (by decide) ?_
    obtain ⟨v3, hc, hf⟩ := ob_some hf
    refine g_ci S (runV (As := [.int a1, .int a2, .int 16]) (rest := []) X S coX13_603 (by decide) (cX13_isField_m l hc) (tkX13_isField hc) rfl hl.1 (by decide) rfl ⟨Nat.zero_le _, Nat.zero_le _⟩ dX13_rounds_22) (fun H locs S => ?_)
    refine lv_if_ne (tgt := 34) X.1 X.2.1 dX13_rounds_25 (by decide) (fun c4 => ?_) (fun c4 => ?_)
    · replace hf := (if_neg c4).symm.trans hf
      refine g_aload_n X (or_rv _) dX13_rounds_34 rfl (lv_at hl 0 rfl) ?_
      refine lv_iload_n X.1 X.2.1 dX13_rounds_35 rfl (lv_at hl 1 rfl) ?_
      refine lv_iload_n X.1 X.2.1 dX13_rounds_36 rfl (lv_at hl 2 rfl) ?_
      obtain ⟨v5, hc, hf⟩ := ob_some hf
      refine g_ci S (runV (As := [.int a1, .int a2]) (rest := []) X S coX13_434 (by decide) (cX13_flawOf_m l hc) (tkX13_flawOf hc) rfl hl.1 (by decide) rfl ⟨Nat.zero_le _, Nat.zero_le _⟩ dX13_rounds_37) (fun H locs S => ?_)
      refine lv_iconst (v := (-1)) X.1 X.2.1 dX13_rounds_40 (by decide) ?_
      refine lv_icmp_eq (tgt := 50) X.1 X.2.1 dX13_rounds_41 (by decide) (fun c6 => ?_) (fun c6 => ?_)
      · replace hf := (if_pos c6).symm.trans hf
        refine g_aload_n X (or_rv _) dX13_rounds_50 rfl (lv_at hl 0 rfl) ?_
        refine g_aload_n X (or_rv _) dX13_rounds_51 rfl (lv_at hl 0 rfl) ?_
        refine g_gR X S foX13_126 dX13_rounds_52 hf (fun v7 hf => ?_)
        refine lv_iload_n X.1 X.2.1 dX13_rounds_55 rfl (lv_at hl 1 rfl) ?_
        refine lv_iload_n X.1 X.2.1 dX13_rounds_56 rfl (lv_at hl 2 rfl) ?_
        obtain ⟨h, hc, hf⟩ := ob_some hf
        refine g_cv S (runV (As := [rv v7, .int a1, .int a2]) (rest := []) X S coX13_478 (by decide) (cX13_load_m l hc) (tkX13_load hc) rfl hl.1 (by decide) rfl ⟨Nat.zero_le _, Nat.zero_le _⟩ dX13_rounds_57) (fun H locs S => ?_)
        refine lv_iconst (v := 0) X.1 X.2.1 dX13_rounds_60 (by decide) ?_
        refine lv_istore (lv' := [(4, .int 0), (0, rv a0), (1, .int a1), (2, .int a2), (3, .int a3)]) X.1 X.2.1 dX13_rounds_61 hl (by decide) rfl (fun ls hl => ?_)
        refine lv_iconst (v := 0) X.1 X.2.1 dX13_rounds_63 (by decide) ?_
        refine lv_istore (lv' := [(5, .int 0), (4, .int 0), (0, rv a0), (1, .int a1), (2, .int a2), (3, .int a3)]) X.1 X.2.1 dX13_rounds_64 hl (by decide) rfl (fun ls hl => ?_)
        exact wfX13_rounds_66_l X hr hlk hnm FU _ _ _ _ _ _ _ _ (lv_sub hl [2, 5, 1, 0] rfl) S hf
      · replace hf := (if_neg c6).symm.trans hf
        refine g_aload_n X (or_rv _) dX13_rounds_44 rfl (lv_at hl 0 rfl) ?_
        refine lv_iconst (v := 1) X.1 X.2.1 dX13_rounds_45 (by decide) ?_
        obtain ⟨v9, h, hc, hf⟩ := ob2_some hf
        refine g_ci S (runV (As := [.int 1]) (rest := []) X S coX13_329 (by decide) (cX13_fail_m l hc) (tkX13_fail hc) rfl hl.1 (by decide) rfl ⟨Nat.zero_le _, Nat.zero_le _⟩ dX13_rounds_46) (fun H locs S => ?_)
        cases hf; exact g_ri X S hr hlk dX13_rounds_49
    · replace hf := (if_pos c4).symm.trans hf
      exact wfX13_rounds_28 X hr hlk hnm _ _ _ _ _ (lv_sub hl [0] rfl) S hf
def fX13_gives_16 (h : Hp) (k21 : Int32 → Int32 → Option (Int32)) (x1 : Int32) (y0 : Int32) : Option (Int32) := k21 (240 + x1) y0
theorem wfX13_gives_16 {h : Hp} {k21 : Int32 → Int32 → Option (Int32)} {r9 : Int32} (X : Cx p E A 8 R s m args c cX13_gives yX13_gives.cls 4) (hr : meth.sig.returnType = (some .boolean)) (hlk : meth.locks = false) (hnm : meth.name = yX13_gives.name) (hk21 : ∀ (y0 : Int32) (y1 : Int32) (H : Heap) (locs : List Loc) (ls : Array Slot), lv_has ls 4 [] → St E A s h H locs → k21 y0 y1 = some r9 → W p l e R s m args below meth c H locs 0 0 (MQ below (Qi E A h r9) args s 0 0 A) (F0 m 21 ls [.int y0, .int y1])) :
    ∀ (x1 : Int32) (y0 : Int32) (H : Heap) (locs : List Loc) (ls : Array Slot), lv_has ls 4 [(1, .int x1)] → St E A s h H locs → fX13_gives_16 h k21 x1 y0 = some r9 → W p l e R s m args below meth c H locs 0 0 (MQ below (Qi E A h r9) args s 0 0 A) (F0 m 16 ls [.int y0]) := by
  intro x1 y0 H locs ls hl S hf
  unfold fX13_gives_16 at hf
  refine lv_sipush (v := 240) X.1 X.2.1 dX13_gives_16 (by decide) ?_
  refine lv_iload_n X.1 X.2.1 dX13_gives_19 rfl (lv_at hl 0 rfl) ?_
  refine lv_iadd X.1 X.2.1 dX13_gives_20 ?_
  exact hk21 _ _ _ _ _ (lv_sub hl [] rfl) S hf
def fX13_gives_21 (h : Hp) (y0 : Int32) (y1 : Int32) : Option (Int32) := if y1 = y0 then some 1 else some 0
theorem wfX13_gives_21 {h : Hp} {r9 : Int32} (X : Cx p E A 8 R s m args c cX13_gives yX13_gives.cls 4) (hr : meth.sig.returnType = (some .boolean)) (hlk : meth.locks = false) (hnm : meth.name = yX13_gives.name) :
    ∀ (y0 : Int32) (y1 : Int32) (H : Heap) (locs : List Loc) (ls : Array Slot), lv_has ls 4 [] → St E A s h H locs → fX13_gives_21 h y0 y1 = some r9 → W p l e R s m args below meth c H locs 0 0 (MQ below (Qi E A h r9) args s 0 0 A) (F0 m 21 ls [.int y0, .int y1]) := by
  intro y0 y1 H locs ls hl S hf
  unfold fX13_gives_21 at hf
  refine lv_icmp_ne (tgt := 28) X.1 X.2.1 dX13_gives_21 (by decide) (fun c1 => ?_) (fun c1 => ?_)
  · replace hf := (if_neg c1).symm.trans hf
    refine lv_iconst (v := 0) X.1 X.2.1 dX13_gives_28 (by decide) ?_
    cases hf; exact g_rz X S hr hlk (by decide) dX13_gives_29
  · replace hf := (if_pos c1).symm.trans hf
    refine lv_iconst (v := 1) X.1 X.2.1 dX13_gives_24 (by decide) ?_
    refine lv_goto (tgt := 29) X.1 X.2.1 dX13_gives_25 (by decide) ?_
    cases hf; exact g_rz X S hr hlk (by decide) dX13_gives_29
def fX13_gives (a0 : Nat) (a1 : Int32) (a2 : Int32) (a3 : Int32) (h : Hp) : Option (Int32) := gd 11 a0 h (if a1 = 0 then if a2 = 0 then ob (gI 11 a0 54 h) fun v3 => fX13_gives_21 h v3 a3 else fX13_gives_16 h (fX13_gives_21 h) a1 a3 else fX13_gives_16 h (fX13_gives_21 h) a1 a3)
theorem tkX13_gives {a0 : Nat} {a1 : Int32} {a2 : Int32} {a3 : Int32} {h : Hp} {r9 : Int32} (e : fX13_gives a0 a1 a2 a3 h = some r9) : hK h a0 = 11 := by
  unfold fX13_gives at e
  exact (gd_some e).1
theorem cX13_gives_m (l : Launch) {E : EE} {A : Nat → Prop} {a0 : Nat} {a1 : Int32} {a2 : Int32} {a3 : Int32} {h : Hp} {r9 : Int32} (hf : fX13_gives a0 a1 a2 a3 h = some r9) : Met l yX13_gives (wsM yX13_gives cX13_gives 4 (some .boolean)) (rmm 8 0 0) (PcE E A h [rv a0, .int a1, .int a2, .int a3]) (Qi E A h r9) 0 0 A := by
  refine met_of (by decide +kernel) (by simp [lg_sl, cat_rv, cat_wv, cat_sv, cat_i, cat_l, cat_a]) (fun p e s m args below meth c ls X hr hlk hnm S hl => ?_)
  have hl : lv_has ls 4 [(0, rv a0), (1, .int a1), (2, .int a2), (3, .int a3)] := by simpa [lv_args, cat_rv, cat_wv, cat_sv, cat_i, cat_l, cat_a] using hl
  generalize hH : s.heap = H at S ⊢
  generalize hlo : ([] : List Loc) = locs at S ⊢
  clear hH hlo
  unfold fX13_gives at hf
  obtain ⟨hth, hf⟩ := gd_some hf
  refine lv_iload_n X.1 X.2.1 dX13_gives_0 rfl (lv_at hl 3 rfl) ?_
  refine lv_iload_n X.1 X.2.1 dX13_gives_1 rfl (lv_at hl 1 rfl) ?_
  refine lv_if_ne (tgt := 16) X.1 X.2.1 dX13_gives_2 (by decide) (fun c1 => ?_) (fun c1 => ?_)
  · replace hf := (if_neg c1).symm.trans hf
    exact wfX13_gives_16 X hr hlk hnm (wfX13_gives_21 X hr hlk hnm) _ _ _ _ _ (lv_sub hl [1] rfl) S hf
  · replace hf := (if_pos c1).symm.trans hf
    refine lv_iload_n X.1 X.2.1 dX13_gives_5 rfl (lv_at hl 2 rfl) ?_
    refine lv_if_ne (tgt := 16) X.1 X.2.1 dX13_gives_6 (by decide) (fun c2 => ?_) (fun c2 => ?_)
    · replace hf := (if_neg c2).symm.trans hf
      exact wfX13_gives_16 X hr hlk hnm (wfX13_gives_21 X hr hlk hnm) _ _ _ _ _ (lv_sub hl [1] rfl) S hf
    · replace hf := (if_pos c2).symm.trans hf
      refine g_aload_n X (or_rv _) dX13_gives_9 rfl (lv_at hl 0 rfl) ?_
      refine g_gI X S foX13_615 rfl dX13_gives_10 hf (fun v3 hf => ?_)
      refine lv_goto (tgt := 21) X.1 X.2.1 dX13_gives_13 (by decide) ?_
      exact wfX13_gives_21 X hr hlk hnm _ _ _ _ _ (lv_sub hl [] rfl) S hf
def fX13_seenBehind_13 (h : Hp) (x2 : Int32) (x3 : Int32) (x4 : Int32) : Option (Int32) := if x4 = 0 then if x3 = 0 then if x2 = 33 then some 1 else some 0 else some 1 else some 1
theorem wfX13_seenBehind_13 {h : Hp} {r9 : Int32} (X : Cx p E A 8 R s m args c cX13_seenBehind yX13_seenBehind.cls 6) (hr : meth.sig.returnType = (some .boolean)) (hlk : meth.locks = false) (hnm : meth.name = yX13_seenBehind.name) :
    ∀ (x2 : Int32) (x3 : Int32) (x4 : Int32) (H : Heap) (locs : List Loc) (ls : Array Slot), lv_has ls 6 [(2, .int x2), (3, .int x3), (4, .int x4)] → St E A s h H locs → fX13_seenBehind_13 h x2 x3 x4 = some r9 → W p l e R s m args below meth c H locs 0 0 (MQ below (Qi E A h r9) args s 0 0 A) (F0 m 13 ls []) := by
  intro x2 x3 x4 H locs ls hl S hf
  unfold fX13_seenBehind_13 at hf
  refine lv_iload X.1 X.2.1 dX13_seenBehind_13 (lv_at hl 2 rfl) ?_
  refine lv_if_ne (tgt := 28) X.1 X.2.1 dX13_seenBehind_15 (by decide) (fun c1 => ?_) (fun c1 => ?_)
  · replace hf := (if_neg c1).symm.trans hf
    refine lv_iconst (v := 1) X.1 X.2.1 dX13_seenBehind_28 (by decide) ?_
    refine lv_goto (tgt := 33) X.1 X.2.1 dX13_seenBehind_29 (by decide) ?_
    cases hf; exact g_rz X S hr hlk (by decide) dX13_seenBehind_33
  · replace hf := (if_pos c1).symm.trans hf
    refine lv_iload_n X.1 X.2.1 dX13_seenBehind_18 rfl (lv_at hl 1 rfl) ?_
    refine lv_if_ne (tgt := 28) X.1 X.2.1 dX13_seenBehind_19 (by decide) (fun c2 => ?_) (fun c2 => ?_)
    · replace hf := (if_neg c2).symm.trans hf
      refine lv_iconst (v := 1) X.1 X.2.1 dX13_seenBehind_28 (by decide) ?_
      refine lv_goto (tgt := 33) X.1 X.2.1 dX13_seenBehind_29 (by decide) ?_
      cases hf; exact g_rz X S hr hlk (by decide) dX13_seenBehind_33
    · replace hf := (if_pos c2).symm.trans hf
      refine lv_iload_n X.1 X.2.1 dX13_seenBehind_22 rfl (lv_at hl 0 rfl) ?_
      refine lv_bipush (v := 33) X.1 X.2.1 dX13_seenBehind_23 (by decide) ?_
      refine lv_icmp_ne (tgt := 32) X.1 X.2.1 dX13_seenBehind_25 (by decide) (fun c3 => ?_) (fun c3 => ?_)
      · replace hf := (if_neg c3).symm.trans hf
        refine lv_iconst (v := 0) X.1 X.2.1 dX13_seenBehind_32 (by decide) ?_
        cases hf; exact g_rz X S hr hlk (by decide) dX13_seenBehind_33
      · replace hf := (if_pos c3).symm.trans hf
        refine lv_iconst (v := 1) X.1 X.2.1 dX13_seenBehind_28 (by decide) ?_
        refine lv_goto (tgt := 33) X.1 X.2.1 dX13_seenBehind_29 (by decide) ?_
        cases hf; exact g_rz X S hr hlk (by decide) dX13_seenBehind_33
def fX13_seenBehind (a0 : Nat) (a1 : Int32) (a2 : Int32) (a3 : Int32) (a4 : Int32) (a5 : Int32) (h : Hp) : Option (Int32) := gd 11 a0 h (ob (gI 11 a0 53 h) fun v1 => if a1 = v1 then if a5 = 0 then some 0 else fX13_seenBehind_13 h a2 a3 a4 else fX13_seenBehind_13 h a2 a3 a4)
theorem tkX13_seenBehind {a0 : Nat} {a1 : Int32} {a2 : Int32} {a3 : Int32} {a4 : Int32} {a5 : Int32} {h : Hp} {r9 : Int32} (e : fX13_seenBehind a0 a1 a2 a3 a4 a5 h = some r9) : hK h a0 = 11 := by
  unfold fX13_seenBehind at e
  exact (gd_some e).1
theorem cX13_seenBehind_m (l : Launch) {E : EE} {A : Nat → Prop} {a0 : Nat} {a1 : Int32} {a2 : Int32} {a3 : Int32} {a4 : Int32} {a5 : Int32} {h : Hp} {r9 : Int32} (hf : fX13_seenBehind a0 a1 a2 a3 a4 a5 h = some r9) : Met l yX13_seenBehind (wsM yX13_seenBehind cX13_seenBehind 6 (some .boolean)) (rmm 8 0 0) (PcE E A h [rv a0, .int a1, .int a2, .int a3, .int a4, .int a5]) (Qi E A h r9) 0 0 A := by
  refine met_of (by decide +kernel) (by simp [lg_sl, cat_rv, cat_wv, cat_sv, cat_i, cat_l, cat_a]) (fun p e s m args below meth c ls X hr hlk hnm S hl => ?_)
  have hl : lv_has ls 6 [(0, rv a0), (1, .int a1), (2, .int a2), (3, .int a3), (4, .int a4), (5, .int a5)] := by simpa [lv_args, cat_rv, cat_wv, cat_sv, cat_i, cat_l, cat_a] using hl
  generalize hH : s.heap = H at S ⊢
  generalize hlo : ([] : List Loc) = locs at S ⊢
  clear hH hlo
  unfold fX13_seenBehind at hf
  obtain ⟨hth, hf⟩ := gd_some hf
  refine lv_iload_n X.1 X.2.1 dX13_seenBehind_0 rfl (lv_at hl 1 rfl) ?_
  refine g_aload_n X (or_rv _) dX13_seenBehind_1 rfl (lv_at hl 0 rfl) ?_
  refine g_gI X S foX13_618 rfl dX13_seenBehind_2 hf (fun v1 hf => ?_)
  refine lv_icmp_ne (tgt := 13) X.1 X.2.1 dX13_seenBehind_5 (by decide) (fun c2 => ?_) (fun c2 => ?_)
  · replace hf := (if_neg c2).symm.trans hf
    exact wfX13_seenBehind_13 X hr hlk hnm _ _ _ _ _ _ (lv_sub hl [2, 3, 4] rfl) S hf
  · replace hf := (if_pos c2).symm.trans hf
    refine lv_iload X.1 X.2.1 dX13_seenBehind_8 (lv_at hl 5 rfl) ?_
    refine lv_if_eq (tgt := 32) X.1 X.2.1 dX13_seenBehind_10 (by decide) (fun c3 => ?_) (fun c3 => ?_)
    · replace hf := (if_pos c3).symm.trans hf
      refine lv_iconst (v := 0) X.1 X.2.1 dX13_seenBehind_32 (by decide) ?_
      cases hf; exact g_rz X S hr hlk (by decide) dX13_seenBehind_33
    · replace hf := (if_neg c3).symm.trans hf
      exact wfX13_seenBehind_13 X hr hlk hnm _ _ _ _ _ _ (lv_sub hl [2, 3, 4] rfl) S hf
def fX13_wayAt (a0 : Nat) (a1 : Int32) (a2 : Int32) (a3 : Int32) (h : Hp) : Option (Int32) := gd 11 a0 h (if a2 = 0 then some (((4 * a1) + 0) + a3) else some (((4 * a1) + 2) + a3))
theorem tkX13_wayAt {a0 : Nat} {a1 : Int32} {a2 : Int32} {a3 : Int32} {h : Hp} {r9 : Int32} (e : fX13_wayAt a0 a1 a2 a3 h = some r9) : hK h a0 = 11 := by
  unfold fX13_wayAt at e
  exact (gd_some e).1
theorem cX13_wayAt_m (l : Launch) {E : EE} {A : Nat → Prop} {a0 : Nat} {a1 : Int32} {a2 : Int32} {a3 : Int32} {h : Hp} {r9 : Int32} (hf : fX13_wayAt a0 a1 a2 a3 h = some r9) : Met l yX13_wayAt (wsM yX13_wayAt cX13_wayAt 4 (some .int)) (rmm 8 0 0) (PcE E A h [rv a0, .int a1, .int a2, .int a3]) (Qi E A h r9) 0 0 A := by
  refine met_of (by decide +kernel) (by simp [lg_sl, cat_rv, cat_wv, cat_sv, cat_i, cat_l, cat_a]) (fun p e s m args below meth c ls X hr hlk hnm S hl => ?_)
  have hl : lv_has ls 4 [(0, rv a0), (1, .int a1), (2, .int a2), (3, .int a3)] := by simpa [lv_args, cat_rv, cat_wv, cat_sv, cat_i, cat_l, cat_a] using hl
  generalize hH : s.heap = H at S ⊢
  generalize hlo : ([] : List Loc) = locs at S ⊢
  clear hH hlo
  unfold fX13_wayAt at hf
  obtain ⟨hth, hf⟩ := gd_some hf
  refine lv_iconst (v := 4) X.1 X.2.1 dX13_wayAt_0 (by decide) ?_
  refine lv_iload_n X.1 X.2.1 dX13_wayAt_1 rfl (lv_at hl 1 rfl) ?_
  refine lv_imul X.1 X.2.1 dX13_wayAt_2 ?_
  refine lv_iload_n X.1 X.2.1 dX13_wayAt_3 rfl (lv_at hl 2 rfl) ?_
  refine lv_if_eq (tgt := 11) X.1 X.2.1 dX13_wayAt_4 (by decide) (fun c1 => ?_) (fun c1 => ?_)
  · replace hf := (if_pos c1).symm.trans hf
    refine lv_iconst (v := 0) X.1 X.2.1 dX13_wayAt_11 (by decide) ?_
    refine lv_iadd X.1 X.2.1 dX13_wayAt_12 ?_
    refine lv_iload_n X.1 X.2.1 dX13_wayAt_13 rfl (lv_at hl 3 rfl) ?_
    refine lv_iadd X.1 X.2.1 dX13_wayAt_14 ?_
    cases hf; exact g_ri X S hr hlk dX13_wayAt_15
  · replace hf := (if_neg c1).symm.trans hf
    refine lv_iconst (v := 2) X.1 X.2.1 dX13_wayAt_7 (by decide) ?_
    refine lv_goto (tgt := 12) X.1 X.2.1 dX13_wayAt_8 (by decide) ?_
    refine lv_iadd X.1 X.2.1 dX13_wayAt_12 ?_
    refine lv_iload_n X.1 X.2.1 dX13_wayAt_13 rfl (lv_at hl 3 rfl) ?_
    refine lv_iadd X.1 X.2.1 dX13_wayAt_14 ?_
    cases hf; exact g_ri X S hr hlk dX13_wayAt_15
def fX13_waysOf_36 (h : Hp) (k45 : Nat → Int32 → Int32 → Int32 → Int32 → Int32 → Int32 → Option (Int64)) (x0 : Nat) (x2 : Int32) (x3 : Int32) (x4 : Int32) (x5 : Int32) (x6 : Int32) : Option (Int64) := ob (gI 11 x0 54 h) fun v1 => k45 x0 x2 x3 x4 x5 x6 v1
theorem wfX13_waysOf_36 {h : Hp} {k45 : Nat → Int32 → Int32 → Int32 → Int32 → Int32 → Int32 → Option (Int64)} {r9 : Int64} (X : Cx p E A 9 R s m args c cX13_waysOf yX13_waysOf.cls 10) (hr : meth.sig.returnType = (some .long)) (hlk : meth.locks = false) (hnm : meth.name = yX13_waysOf.name) (hk45 : ∀ (x0 : Nat) (x2 : Int32) (x3 : Int32) (x4 : Int32) (x5 : Int32) (x6 : Int32) (y0 : Int32) (H : Heap) (locs : List Loc) (ls : Array Slot), lv_has ls 10 [(0, rv x0), (2, .int x2), (3, .int x3), (4, .int x4), (5, .int x5), (6, .int x6)] → St E A s h H locs → k45 x0 x2 x3 x4 x5 x6 y0 = some r9 → W p l e R s m args below meth c H locs 0 0 (MQ below (Ql E A h r9) args s 0 0 A) (F0 m 45 ls [.int y0])) :
    ∀ (x0 : Nat) (x2 : Int32) (x3 : Int32) (x4 : Int32) (x5 : Int32) (x6 : Int32) (H : Heap) (locs : List Loc) (ls : Array Slot), lv_has ls 10 [(0, rv x0), (2, .int x2), (3, .int x3), (4, .int x4), (5, .int x5), (6, .int x6)] → St E A s h H locs → fX13_waysOf_36 h k45 x0 x2 x3 x4 x5 x6 = some r9 → W p l e R s m args below meth c H locs 0 0 (MQ below (Ql E A h r9) args s 0 0 A) (F0 m 36 ls []) := by
  intro x0 x2 x3 x4 x5 x6 H locs ls hl S hf
  unfold fX13_waysOf_36 at hf
  refine g_aload_n X (or_rv _) dX13_waysOf_36 rfl (lv_at hl 0 rfl) ?_
  refine g_gI X S foX13_615 rfl dX13_waysOf_37 hf (fun v1 hf => ?_)
  refine lv_goto (tgt := 45) X.1 X.2.1 dX13_waysOf_40 (by decide) ?_
  exact hk45 _ _ _ _ _ _ _ _ _ _ hl S hf
def fX13_waysOf_84 (h : Hp) (k85 : Int32 → Int32 → Int32 → Nat → Nat → Option (Int64)) (x5 : Int32) (y0 : Int32) (y1 : Nat) (y2 : Nat) : Option (Int64) := k85 x5 0 y0 y1 y2
theorem wfX13_waysOf_84 {h : Hp} {k85 : Int32 → Int32 → Int32 → Nat → Nat → Option (Int64)} {r9 : Int64} (X : Cx p E A 9 R s m args c cX13_waysOf yX13_waysOf.cls 10) (hr : meth.sig.returnType = (some .long)) (hlk : meth.locks = false) (hnm : meth.name = yX13_waysOf.name) (hk85 : ∀ (x5 : Int32) (y0 : Int32) (y1 : Int32) (y2 : Nat) (y3 : Nat) (H : Heap) (locs : List Loc) (ls : Array Slot), lv_has ls 10 [(5, .int x5)] → St E A s h H locs → k85 x5 y0 y1 y2 y3 = some r9 → W p l e R s m args below meth c H locs 0 0 (MQ below (Ql E A h r9) args s 0 0 A) (F0 m 85 ls [.int y0, .int y1, rv y2, rv y3])) :
    ∀ (x5 : Int32) (y0 : Int32) (y1 : Nat) (y2 : Nat) (H : Heap) (locs : List Loc) (ls : Array Slot), lv_has ls 10 [(5, .int x5)] → St E A s h H locs → fX13_waysOf_84 h k85 x5 y0 y1 y2 = some r9 → W p l e R s m args below meth c H locs 0 0 (MQ below (Ql E A h r9) args s 0 0 A) (F0 m 84 ls [.int y0, rv y1, rv y2]) := by
  intro x5 y0 y1 y2 H locs ls hl S hf
  unfold fX13_waysOf_84 at hf
  refine lv_iconst (v := 0) X.1 X.2.1 dX13_waysOf_84 (by decide) ?_
  exact hk85 _ _ _ _ _ _ _ _ hl S hf
def fX13_waysOf_85 (h : Hp) (x5 : Int32) (y0 : Int32) (y1 : Int32) (y2 : Nat) (y3 : Nat) : Option (Int64) := ob (fX13_wayAt y2 y1 y0 x5 h) fun v1 => ob (aL y3 v1 h) fun v2 => some v2
theorem wfX13_waysOf_85 {h : Hp} {r9 : Int64} (X : Cx p E A 9 R s m args c cX13_waysOf yX13_waysOf.cls 10) (hr : meth.sig.returnType = (some .long)) (hlk : meth.locks = false) (hnm : meth.name = yX13_waysOf.name) :
    ∀ (x5 : Int32) (y0 : Int32) (y1 : Int32) (y2 : Nat) (y3 : Nat) (H : Heap) (locs : List Loc) (ls : Array Slot), lv_has ls 10 [(5, .int x5)] → St E A s h H locs → fX13_waysOf_85 h x5 y0 y1 y2 y3 = some r9 → W p l e R s m args below meth c H locs 0 0 (MQ below (Ql E A h r9) args s 0 0 A) (F0 m 85 ls [.int y0, .int y1, rv y2, rv y3]) := by
  intro x5 y0 y1 y2 y3 H locs ls hl S hf
  unfold fX13_waysOf_85 at hf
  refine lv_iload X.1 X.2.1 dX13_waysOf_85 (lv_at hl 0 rfl) ?_
  obtain ⟨v1, hc, hf⟩ := ob_some hf
  refine g_ci S (runV (As := [.int y1, .int y0, .int x5]) (rest := [rv y3]) X S coX13_621 (by decide) (cX13_wayAt_m l hc) (tkX13_wayAt hc) rfl hl.1 (by simp [cat_rv, cat_wv, cat_sv, cat_i, cat_l, cat_a]) rfl ⟨Nat.zero_le _, Nat.zero_le _⟩ dX13_waysOf_87) (fun H locs S => ?_)
  refine g_aL X S dX13_waysOf_90 hf (fun v2 hf => ?_)
  refine lv_goto (tgt := 95) X.1 X.2.1 dX13_waysOf_91 (by decide) ?_
  cases hf; exact g_rl X S hr hlk dX13_waysOf_95
def fX13_waysOf_45 (h : Hp) (x0 : Nat) (x2 : Int32) (x3 : Int32) (x4 : Int32) (x5 : Int32) (x6 : Int32) (y0 : Int32) : Option (Int64) := ob (gR 11 x0 3 h) fun v1 => ob (aI v1 (x3 + x2) h) fun v2 => if y0 = v2 then ob (gR 11 x0 52 h) fun v4 => if x6 = 34 then fX13_waysOf_84 h (fX13_waysOf_85 h) x5 (x2 + 1) x0 v4 else if x4 = 0 then fX13_waysOf_84 h (fX13_waysOf_85 h) x5 (x2 + 1) x0 v4 else fX13_waysOf_85 h x5 1 (x2 + 1) x0 v4 else some 0
theorem wfX13_waysOf_45 {h : Hp} {r9 : Int64} (X : Cx p E A 9 R s m args c cX13_waysOf yX13_waysOf.cls 10) (hr : meth.sig.returnType = (some .long)) (hlk : meth.locks = false) (hnm : meth.name = yX13_waysOf.name) :
    ∀ (x0 : Nat) (x2 : Int32) (x3 : Int32) (x4 : Int32) (x5 : Int32) (x6 : Int32) (y0 : Int32) (H : Heap) (locs : List Loc) (ls : Array Slot), lv_has ls 10 [(0, rv x0), (2, .int x2), (3, .int x3), (4, .int x4), (5, .int x5), (6, .int x6)] → St E A s h H locs → fX13_waysOf_45 h x0 x2 x3 x4 x5 x6 y0 = some r9 → W p l e R s m args below meth c H locs 0 0 (MQ below (Ql E A h r9) args s 0 0 A) (F0 m 45 ls [.int y0]) := by
  intro x0 x2 x3 x4 x5 x6 y0 H locs ls hl S hf
  unfold fX13_waysOf_45 at hf
  refine lv_istore (lv' := [(7, .int y0), (0, rv x0), (2, .int x2), (3, .int x3), (4, .int x4), (5, .int x5), (6, .int x6)]) X.1 X.2.1 dX13_waysOf_45 hl (by decide) rfl (fun ls hl => ?_)
  refine lv_iload X.1 X.2.1 dX13_waysOf_47 (lv_at hl 0 rfl) ?_
  refine g_aload_n X (or_rv _) dX13_waysOf_49 rfl (lv_at hl 1 rfl) ?_
  refine g_gR X S foX13_76 dX13_waysOf_50 hf (fun v1 hf => ?_)
  refine lv_iload_n X.1 X.2.1 dX13_waysOf_53 rfl (lv_at hl 3 rfl) ?_
  refine lv_iload_n X.1 X.2.1 dX13_waysOf_54 rfl (lv_at hl 2 rfl) ?_
  refine lv_iadd X.1 X.2.1 dX13_waysOf_55 ?_
  refine g_aI X S dX13_waysOf_56 hf (fun v2 hf => ?_)
  refine lv_icmp_ne (tgt := 94) X.1 X.2.1 dX13_waysOf_57 (by decide) (fun c3 => ?_) (fun c3 => ?_)
  · replace hf := (if_neg c3).symm.trans hf
    refine lv_lconst (v := 0) X.1 X.2.1 dX13_waysOf_94 (by decide) ?_
    cases hf; exact g_rl X S hr hlk dX13_waysOf_95
  · replace hf := (if_pos c3).symm.trans hf
    refine g_aload_n X (or_rv _) dX13_waysOf_60 rfl (lv_at hl 1 rfl) ?_
    refine g_gR X S foX13_142 dX13_waysOf_61 hf (fun v4 hf => ?_)
    refine g_aload_n X (or_rv _) dX13_waysOf_64 rfl (lv_at hl 1 rfl) ?_
    refine lv_iload_n X.1 X.2.1 dX13_waysOf_65 rfl (lv_at hl 2 rfl) ?_
    refine lv_iconst (v := 1) X.1 X.2.1 dX13_waysOf_66 (by decide) ?_
    refine lv_iadd X.1 X.2.1 dX13_waysOf_67 ?_
    refine lv_iload X.1 X.2.1 dX13_waysOf_68 (lv_at hl 6 rfl) ?_
    refine lv_bipush (v := 34) X.1 X.2.1 dX13_waysOf_70 (by decide) ?_
    refine lv_icmp_eq (tgt := 84) X.1 X.2.1 dX13_waysOf_72 (by decide) (fun c5 => ?_) (fun c5 => ?_)
    · replace hf := (if_pos c5).symm.trans hf
      exact wfX13_waysOf_84 X hr hlk hnm (wfX13_waysOf_85 X hr hlk hnm) _ _ _ _ _ _ _ (lv_sub hl [5] rfl) S hf
    · replace hf := (if_neg c5).symm.trans hf
      refine lv_iload X.1 X.2.1 dX13_waysOf_75 (lv_at hl 4 rfl) ?_
      refine lv_if_eq (tgt := 84) X.1 X.2.1 dX13_waysOf_77 (by decide) (fun c6 => ?_) (fun c6 => ?_)
      · replace hf := (if_pos c6).symm.trans hf
        exact wfX13_waysOf_84 X hr hlk hnm (wfX13_waysOf_85 X hr hlk hnm) _ _ _ _ _ _ _ (lv_sub hl [5] rfl) S hf
      · replace hf := (if_neg c6).symm.trans hf
        refine lv_iconst (v := 1) X.1 X.2.1 dX13_waysOf_80 (by decide) ?_
        refine lv_goto (tgt := 85) X.1 X.2.1 dX13_waysOf_81 (by decide) ?_
        exact wfX13_waysOf_85 X hr hlk hnm _ _ _ _ _ _ _ _ (lv_sub hl [5] rfl) S hf
def fX13_waysOf_102 (h : Hp) (k102 : Nat → Int32 → Int32 → Int32 → Int32 → Int32 → Int64 → Int32 → Option (Int64)) (x0 : Nat) (x2 : Int32) (x3 : Int32) (x4 : Int32) (x5 : Int32) (x6 : Int32) (x7 : Int64) (x9 : Int32) : Option (Int64) := if 10 ≤ x9 then some x7 else ob (gR 11 x0 3 h) fun v2 => ob (aI v2 (x3 + x2) h) fun v3 => ob (fX13_gives x0 x9 x4 v3 h) fun v4 => if v4 = 0 then lt (x9 + 1) fun z6 => k102 x0 x2 x3 x4 x5 x6 x7 z6 else ob (gR 11 x0 52 h) fun v7 => ob (fX13_seenBehind x0 x2 x6 x9 x4 x5 h) fun v8 => ob (fX13_wayAt x0 (x2 + 1) v8 x5 h) fun v9 => ob (aL v7 v9 h) fun v10 => lt (x7 + v10) fun z11 => lt (x9 + 1) fun z12 => k102 x0 x2 x3 x4 x5 x6 z11 z12
theorem wfX13_waysOf_102 {h : Hp} {k102 : Nat → Int32 → Int32 → Int32 → Int32 → Int32 → Int64 → Int32 → Option (Int64)} {r9 : Int64} (X : Cx p E A 9 R s m args c cX13_waysOf yX13_waysOf.cls 10) (hr : meth.sig.returnType = (some .long)) (hlk : meth.locks = false) (hnm : meth.name = yX13_waysOf.name) (hk102 : ∀ (x0 : Nat) (x2 : Int32) (x3 : Int32) (x4 : Int32) (x5 : Int32) (x6 : Int32) (x7 : Int64) (x9 : Int32) (H : Heap) (locs : List Loc) (ls : Array Slot), lv_has ls 10 [(0, rv x0), (2, .int x2), (3, .int x3), (4, .int x4), (5, .int x5), (6, .int x6), (7, .long x7), (9, .int x9)] → St E A s h H locs → k102 x0 x2 x3 x4 x5 x6 x7 x9 = some r9 → W p l e R s m args below meth c H locs 0 0 (MQ below (Ql E A h r9) args s 0 0 A) (F0 m 102 ls [])) :
    ∀ (x0 : Nat) (x2 : Int32) (x3 : Int32) (x4 : Int32) (x5 : Int32) (x6 : Int32) (x7 : Int64) (x9 : Int32) (H : Heap) (locs : List Loc) (ls : Array Slot), lv_has ls 10 [(0, rv x0), (2, .int x2), (3, .int x3), (4, .int x4), (5, .int x5), (6, .int x6), (7, .long x7), (9, .int x9)] → St E A s h H locs → fX13_waysOf_102 h k102 x0 x2 x3 x4 x5 x6 x7 x9 = some r9 → W p l e R s m args below meth c H locs 0 0 (MQ below (Ql E A h r9) args s 0 0 A) (F0 m 102 ls []) := by
  intro x0 x2 x3 x4 x5 x6 x7 x9 H locs ls hl S hf
  unfold fX13_waysOf_102 at hf
  refine lv_iload X.1 X.2.1 dX13_waysOf_102 (lv_at hl 7 rfl) ?_
  refine lv_bipush (v := 10) X.1 X.2.1 dX13_waysOf_104 (by decide) ?_
  refine lv_icmp_ge (tgt := 166) X.1 X.2.1 dX13_waysOf_106 (by decide) (fun c1 => ?_) (fun c1 => ?_)
  · replace hf := (if_pos c1).symm.trans hf
    refine lv_lload X.1 X.2.1 dX13_waysOf_166 (lv_at hl 6 rfl) ?_
    cases hf; exact g_rl X S hr hlk dX13_waysOf_168
  · replace hf := (if_neg c1).symm.trans hf
    refine g_aload_n X (or_rv _) dX13_waysOf_109 rfl (lv_at hl 0 rfl) ?_
    refine lv_iload X.1 X.2.1 dX13_waysOf_110 (lv_at hl 7 rfl) ?_
    refine lv_iload X.1 X.2.1 dX13_waysOf_112 (lv_at hl 3 rfl) ?_
    refine g_aload_n X (or_rv _) dX13_waysOf_114 rfl (lv_at hl 0 rfl) ?_
    refine g_gR X S foX13_76 dX13_waysOf_115 hf (fun v2 hf => ?_)
    refine lv_iload_n X.1 X.2.1 dX13_waysOf_118 rfl (lv_at hl 2 rfl) ?_
    refine lv_iload_n X.1 X.2.1 dX13_waysOf_119 rfl (lv_at hl 1 rfl) ?_
    refine lv_iadd X.1 X.2.1 dX13_waysOf_120 ?_
    refine g_aI X S dX13_waysOf_121 hf (fun v3 hf => ?_)
    obtain ⟨v4, hc, hf⟩ := ob_some hf
    refine g_ci S (runV (As := [.int x9, .int x4, .int v3]) (rest := []) X S coX13_625 (by decide) (cX13_gives_m l hc) (tkX13_gives hc) rfl hl.1 (by decide) rfl ⟨Nat.zero_le _, Nat.zero_le _⟩ dX13_waysOf_122) (fun H locs S => ?_)
    refine lv_if_eq (tgt := 160) X.1 X.2.1 dX13_waysOf_125 (by decide) (fun c5 => ?_) (fun c5 => ?_)
    · replace hf := (if_pos c5).symm.trans hf
      obtain ⟨z6, ez6, hf⟩ := lt_some hf
      refine lv_iinc (v := z6) (lv' := [(9, .int z6), (0, rv x0), (2, .int x2), (3, .int x3), (4, .int x4), (5, .int x5), (6, .int x6), (7, .long x7)]) X.1 X.2.1 dX13_waysOf_160 hl (k := 7) rfl (by rw [← ez6]; rfl) (by decide) rfl (fun ls hl => ?_)
      refine lv_goto (tgt := 102) X.1 X.2.1 dX13_waysOf_163 (by decide) ?_
      exact hk102 _ _ _ _ _ _ _ _ _ _ _ (lv_sub hl [1, 2, 3, 4, 5, 6, 7, 0] rfl) S hf
    · replace hf := (if_neg c5).symm.trans hf
      refine lv_lload X.1 X.2.1 dX13_waysOf_128 (lv_at hl 6 rfl) ?_
      refine g_aload_n X (or_rv _) dX13_waysOf_130 rfl (lv_at hl 0 rfl) ?_
      refine g_gR X S foX13_142 dX13_waysOf_131 hf (fun v7 hf => ?_)
      refine g_aload_n X (or_rv _) dX13_waysOf_134 rfl (lv_at hl 0 rfl) ?_
      refine lv_iload_n X.1 X.2.1 dX13_waysOf_135 rfl (lv_at hl 1 rfl) ?_
      refine lv_iconst (v := 1) X.1 X.2.1 dX13_waysOf_136 (by decide) ?_
      refine lv_iadd X.1 X.2.1 dX13_waysOf_137 ?_
      refine g_aload_n X (or_rv _) dX13_waysOf_138 rfl (lv_at hl 0 rfl) ?_
      refine lv_iload_n X.1 X.2.1 dX13_waysOf_139 rfl (lv_at hl 1 rfl) ?_
      refine lv_iload X.1 X.2.1 dX13_waysOf_140 (lv_at hl 5 rfl) ?_
      refine lv_iload X.1 X.2.1 dX13_waysOf_142 (lv_at hl 7 rfl) ?_
      refine lv_iload X.1 X.2.1 dX13_waysOf_144 (lv_at hl 3 rfl) ?_
      refine lv_iload X.1 X.2.1 dX13_waysOf_146 (lv_at hl 4 rfl) ?_
      obtain ⟨v8, hc, hf⟩ := ob_some hf
      refine g_ci S (runV (As := [.int x2, .int x6, .int x9, .int x4, .int x5]) (rest := [.int (x2 + 1), rv x0, rv v7, .long x7]) X S coX13_629 (by decide) (cX13_seenBehind_m l hc) (tkX13_seenBehind hc) rfl hl.1 (by simp [cat_rv, cat_wv, cat_sv, cat_i, cat_l, cat_a]) rfl ⟨Nat.zero_le _, Nat.zero_le _⟩ dX13_waysOf_148) (fun H locs S => ?_)
      refine lv_iload X.1 X.2.1 dX13_waysOf_151 (lv_at hl 4 rfl) ?_
      obtain ⟨v9, hc, hf⟩ := ob_some hf
      refine g_ci S (runV (As := [.int (x2 + 1), .int v8, .int x5]) (rest := [rv v7, .long x7]) X S coX13_621 (by decide) (cX13_wayAt_m l hc) (tkX13_wayAt hc) rfl hl.1 (by simp [cat_rv, cat_wv, cat_sv, cat_i, cat_l, cat_a]) rfl ⟨Nat.zero_le _, Nat.zero_le _⟩ dX13_waysOf_153) (fun H locs S => ?_)
      refine g_aL X S dX13_waysOf_156 hf (fun v10 hf => ?_)
      refine lv_ladd X.1 X.2.1 dX13_waysOf_157 ?_
      refine g_ltl hf (fun z11 hf => ?_)
      refine lv_lstore (lv' := [(7, .long z11), (0, rv x0), (2, .int x2), (3, .int x3), (4, .int x4), (5, .int x5), (6, .int x6), (9, .int x9)]) X.1 X.2.1 dX13_waysOf_158 hl (by decide) rfl (fun ls hl => ?_)
      obtain ⟨z12, ez12, hf⟩ := lt_some hf
      refine lv_iinc (v := z12) (lv' := [(9, .int z12), (7, .long z11), (0, rv x0), (2, .int x2), (3, .int x3), (4, .int x4), (5, .int x5), (6, .int x6)]) X.1 X.2.1 dX13_waysOf_160 hl (k := 7) rfl (by rw [← ez12]; rfl) (by decide) rfl (fun ls hl => ?_)
      refine lv_goto (tgt := 102) X.1 X.2.1 dX13_waysOf_163 (by decide) ?_
      exact hk102 _ _ _ _ _ _ _ _ _ _ _ (lv_sub hl [2, 3, 4, 5, 6, 7, 1, 0] rfl) S hf
theorem wfX13_waysOf_102_l {h : Hp} {r9 : Int64} (X : Cx p E A 9 R s m args c cX13_waysOf yX13_waysOf.cls 10) (hr : meth.sig.returnType = (some .long)) (hlk : meth.locks = false) (hnm : meth.name = yX13_waysOf.name) :
    ∀ (n : Nat) (x0 : Nat) (x2 : Int32) (x3 : Int32) (x4 : Int32) (x5 : Int32) (x6 : Int32) (x7 : Int64) (x9 : Int32) (H : Heap) (locs : List Loc) (ls : Array Slot), lv_has ls 10 [(0, rv x0), (2, .int x2), (3, .int x3), (4, .int x4), (5, .int x5), (6, .int x6), (7, .long x7), (9, .int x9)] → St E A s h H locs → lp (fun _ _ _ _ _ _ _ _ => none) (fX13_waysOf_102 h) n x0 x2 x3 x4 x5 x6 x7 x9 = some r9 → W p l e R s m args below meth c H locs 0 0 (MQ below (Ql E A h r9) args s 0 0 A) (F0 m 102 ls []) := by
  intro n
  induction n with
  | zero =>
    intro x0 x2 x3 x4 x5 x6 x7 x9 H locs ls hl S hf
    exact nomatch hf
  | succ n ih =>
    intro x0 x2 x3 x4 x5 x6 x7 x9 H locs ls hl S hf
    exact wfX13_waysOf_102 X hr hlk hnm ih x0 x2 x3 x4 x5 x6 x7 x9 H locs ls hl S hf
def fX13_waysOf (a0 : Nat) (a1 : Int32) (a2 : Int32) (a3 : Int32) (a4 : Int32) (a5 : Int32) (h : Hp) : Option (Int64) := gd 11 a0 h (ob (gR 11 a0 3 h) fun v1 => ob (aI v1 (a1 + a2) h) fun v2 => if v2 = 32 then lp (fun _ _ _ _ _ _ _ _ => none) (fX13_waysOf_102 h) FU a0 a2 a3 a4 a5 v2 0 0 else if v2 = 33 then lp (fun _ _ _ _ _ _ _ _ => none) (fX13_waysOf_102 h) FU a0 a2 a3 a4 a5 v2 0 0 else if v2 = 34 then fX13_waysOf_36 h (fX13_waysOf_45 h) a0 a2 a3 a4 a5 v2 else if a4 = 0 then fX13_waysOf_36 h (fX13_waysOf_45 h) a0 a2 a3 a4 a5 v2 else fX13_waysOf_45 h a0 a2 a3 a4 a5 v2 v2)
theorem tkX13_waysOf {a0 : Nat} {a1 : Int32} {a2 : Int32} {a3 : Int32} {a4 : Int32} {a5 : Int32} {h : Hp} {r9 : Int64} (e : fX13_waysOf a0 a1 a2 a3 a4 a5 h = some r9) : hK h a0 = 11 := by
  unfold fX13_waysOf at e
  exact (gd_some e).1
theorem cX13_waysOf_m (l : Launch) {E : EE} {A : Nat → Prop} {a0 : Nat} {a1 : Int32} {a2 : Int32} {a3 : Int32} {a4 : Int32} {a5 : Int32} {h : Hp} {r9 : Int64} (hf : fX13_waysOf a0 a1 a2 a3 a4 a5 h = some r9) : Met l yX13_waysOf (wsM yX13_waysOf cX13_waysOf 10 (some .long)) (rmm 9 0 0) (PcE E A h [rv a0, .int a1, .int a2, .int a3, .int a4, .int a5]) (Ql E A h r9) 0 0 A := by
  refine met_of (by decide +kernel) (by simp [lg_sl, cat_rv, cat_wv, cat_sv, cat_i, cat_l, cat_a]) (fun p e s m args below meth c ls X hr hlk hnm S hl => ?_)
  have hl : lv_has ls 10 [(0, rv a0), (1, .int a1), (2, .int a2), (3, .int a3), (4, .int a4), (5, .int a5)] := by simpa [lv_args, cat_rv, cat_wv, cat_sv, cat_i, cat_l, cat_a] using hl
  generalize hH : s.heap = H at S ⊢
  generalize hlo : ([] : List Loc) = locs at S ⊢
  clear hH hlo
  unfold fX13_waysOf at hf
  obtain ⟨hth, hf⟩ := gd_some hf
  refine g_aload_n X (or_rv _) dX13_waysOf_0 rfl (lv_at hl 0 rfl) ?_
  refine g_gR X S foX13_76 dX13_waysOf_1 hf (fun v1 hf => ?_)
  refine lv_iload_n X.1 X.2.1 dX13_waysOf_4 rfl (lv_at hl 1 rfl) ?_
  refine lv_iload_n X.1 X.2.1 dX13_waysOf_5 rfl (lv_at hl 2 rfl) ?_
  refine lv_iadd X.1 X.2.1 dX13_waysOf_6 ?_
  refine g_aI X S dX13_waysOf_7 hf (fun v2 hf => ?_)
  refine lv_istore (lv' := [(6, .int v2), (0, rv a0), (1, .int a1), (2, .int a2), (3, .int a3), (4, .int a4), (5, .int a5)]) X.1 X.2.1 dX13_waysOf_8 hl (by decide) rfl (fun ls hl => ?_)
  refine lv_iload X.1 X.2.1 dX13_waysOf_10 (lv_at hl 0 rfl) ?_
  refine lv_bipush (v := 32) X.1 X.2.1 dX13_waysOf_12 (by decide) ?_
  refine lv_icmp_eq (tgt := 96) X.1 X.2.1 dX13_waysOf_14 (by decide) (fun c3 => ?_) (fun c3 => ?_)
  · replace hf := (if_pos c3).symm.trans hf
    refine lv_lconst (v := 0) X.1 X.2.1 dX13_waysOf_96 (by decide) ?_
    refine lv_lstore (lv' := [(7, .long 0), (6, .int v2), (0, rv a0), (1, .int a1), (2, .int a2), (3, .int a3), (4, .int a4), (5, .int a5)]) X.1 X.2.1 dX13_waysOf_97 hl (by decide) rfl (fun ls hl => ?_)
    refine lv_iconst (v := 0) X.1 X.2.1 dX13_waysOf_99 (by decide) ?_
    refine lv_istore (lv' := [(9, .int 0), (7, .long 0), (6, .int v2), (0, rv a0), (1, .int a1), (2, .int a2), (3, .int a3), (4, .int a4), (5, .int a5)]) X.1 X.2.1 dX13_waysOf_100 hl (by decide) rfl (fun ls hl => ?_)
    exact wfX13_waysOf_102_l X hr hlk hnm FU _ _ _ _ _ _ _ _ _ _ _ (lv_sub hl [3, 5, 6, 7, 8, 2, 1, 0] rfl) S hf
  · replace hf := (if_neg c3).symm.trans hf
    refine lv_iload X.1 X.2.1 dX13_waysOf_17 (lv_at hl 0 rfl) ?_
    refine lv_bipush (v := 33) X.1 X.2.1 dX13_waysOf_19 (by decide) ?_
    refine lv_icmp_eq (tgt := 96) X.1 X.2.1 dX13_waysOf_21 (by decide) (fun c4 => ?_) (fun c4 => ?_)
    · replace hf := (if_pos c4).symm.trans hf
      refine lv_lconst (v := 0) X.1 X.2.1 dX13_waysOf_96 (by decide) ?_
      refine lv_lstore (lv' := [(7, .long 0), (6, .int v2), (0, rv a0), (1, .int a1), (2, .int a2), (3, .int a3), (4, .int a4), (5, .int a5)]) X.1 X.2.1 dX13_waysOf_97 hl (by decide) rfl (fun ls hl => ?_)
      refine lv_iconst (v := 0) X.1 X.2.1 dX13_waysOf_99 (by decide) ?_
      refine lv_istore (lv' := [(9, .int 0), (7, .long 0), (6, .int v2), (0, rv a0), (1, .int a1), (2, .int a2), (3, .int a3), (4, .int a4), (5, .int a5)]) X.1 X.2.1 dX13_waysOf_100 hl (by decide) rfl (fun ls hl => ?_)
      exact wfX13_waysOf_102_l X hr hlk hnm FU _ _ _ _ _ _ _ _ _ _ _ (lv_sub hl [3, 5, 6, 7, 8, 2, 1, 0] rfl) S hf
    · replace hf := (if_neg c4).symm.trans hf
      refine lv_iload X.1 X.2.1 dX13_waysOf_24 (lv_at hl 0 rfl) ?_
      refine lv_bipush (v := 34) X.1 X.2.1 dX13_waysOf_26 (by decide) ?_
      refine lv_icmp_eq (tgt := 36) X.1 X.2.1 dX13_waysOf_28 (by decide) (fun c5 => ?_) (fun c5 => ?_)
      · replace hf := (if_pos c5).symm.trans hf
        exact wfX13_waysOf_36 X hr hlk hnm (wfX13_waysOf_45 X hr hlk hnm) _ _ _ _ _ _ _ _ _ (lv_sub hl [1, 3, 4, 5, 6, 0] rfl) S hf
      · replace hf := (if_neg c5).symm.trans hf
        refine lv_iload X.1 X.2.1 dX13_waysOf_31 (lv_at hl 5 rfl) ?_
        refine lv_if_ne (tgt := 43) X.1 X.2.1 dX13_waysOf_33 (by decide) (fun c6 => ?_) (fun c6 => ?_)
        · replace hf := (if_neg c6).symm.trans hf
          refine lv_iload X.1 X.2.1 dX13_waysOf_43 (lv_at hl 0 rfl) ?_
          exact wfX13_waysOf_45 X hr hlk hnm _ _ _ _ _ _ _ _ _ _ (lv_sub hl [1, 3, 4, 5, 6, 0] rfl) S hf
        · replace hf := (if_pos c6).symm.trans hf
          exact wfX13_waysOf_36 X hr hlk hnm (wfX13_waysOf_45 X hr hlk hnm) _ _ _ _ _ _ _ _ _ (lv_sub hl [1, 3, 4, 5, 6, 0] rfl) S hf
def fX13_tellWays_53 (k62 : Nat → Int32 → Int32 → Int32 → Int32 → Int32 → Nat → Hp → Option (Hp)) (x0 : Nat) (x1 : Int32) (x2 : Int32) (x3 : Int32) (x4 : Int32) (y0 : Nat) (h : Hp) : Option (Hp) := k62 x0 x1 x2 x3 x4 x4 y0 h
theorem wfX13_tellWays_53 {k62 : Nat → Int32 → Int32 → Int32 → Int32 → Int32 → Nat → Hp → Option (Hp)} {h9 : Hp} (X : Cx p E A 10 R s m args c cX13_tellWays yX13_tellWays.cls 6) (hr : meth.sig.returnType = none) (hlk : meth.locks = false) (hnm : meth.name = yX13_tellWays.name) (hk62 : ∀ (x0 : Nat) (x1 : Int32) (x2 : Int32) (x3 : Int32) (x4 : Int32) (y0 : Int32) (y1 : Nat) (h : Hp) (H : Heap) (locs : List Loc) (ls : Array Slot), lv_has ls 6 [(0, rv x0), (1, .int x1), (2, .int x2), (3, .int x3), (4, .int x4)] → St E A s h H locs → k62 x0 x1 x2 x3 x4 y0 y1 h = some h9 → W p l e R s m args below meth c H locs 0 0 (MQ below (Qv E A h9) args s 0 0 A) (F0 m 62 ls [.int y0, rv y1])) :
    ∀ (x0 : Nat) (x1 : Int32) (x2 : Int32) (x3 : Int32) (x4 : Int32) (y0 : Nat) (h : Hp) (H : Heap) (locs : List Loc) (ls : Array Slot), lv_has ls 6 [(0, rv x0), (1, .int x1), (2, .int x2), (3, .int x3), (4, .int x4)] → St E A s h H locs → fX13_tellWays_53 k62 x0 x1 x2 x3 x4 y0 h = some h9 → W p l e R s m args below meth c H locs 0 0 (MQ below (Qv E A h9) args s 0 0 A) (F0 m 53 ls [rv y0]) := by
  intro x0 x1 x2 x3 x4 y0 h H locs ls hl S hf
  unfold fX13_tellWays_53 at hf
  refine lv_iload X.1 X.2.1 dX13_tellWays_53 (lv_at hl 4 rfl) ?_
  refine lv_goto (tgt := 62) X.1 X.2.1 dX13_tellWays_55 (by decide) ?_
  exact hk62 _ _ _ _ _ _ _ _ _ _ _ hl S hf
def fX13_tellWays_62 (k18 : Nat → Int32 → Int32 → Int32 → Int32 → Hp → Option (Hp)) (x0 : Nat) (x1 : Int32) (x2 : Int32) (x3 : Int32) (x4 : Int32) (y0 : Int32) (y1 : Nat) (h : Hp) : Option (Hp) := ob (pI 11 y1 53 y0 h) fun h => lt (x4 + 1) fun z1 => k18 x0 x1 x2 x3 z1 h
theorem wfX13_tellWays_62 {k18 : Nat → Int32 → Int32 → Int32 → Int32 → Hp → Option (Hp)} {h9 : Hp} (X : Cx p E A 10 R s m args c cX13_tellWays yX13_tellWays.cls 6) (hr : meth.sig.returnType = none) (hlk : meth.locks = false) (hnm : meth.name = yX13_tellWays.name) (hk18 : ∀ (x0 : Nat) (x1 : Int32) (x2 : Int32) (x3 : Int32) (x4 : Int32) (h : Hp) (H : Heap) (locs : List Loc) (ls : Array Slot), lv_has ls 6 [(0, rv x0), (1, .int x1), (2, .int x2), (3, .int x3), (4, .int x4)] → St E A s h H locs → k18 x0 x1 x2 x3 x4 h = some h9 → W p l e R s m args below meth c H locs 0 0 (MQ below (Qv E A h9) args s 0 0 A) (F0 m 18 ls [])) :
    ∀ (x0 : Nat) (x1 : Int32) (x2 : Int32) (x3 : Int32) (x4 : Int32) (y0 : Int32) (y1 : Nat) (h : Hp) (H : Heap) (locs : List Loc) (ls : Array Slot), lv_has ls 6 [(0, rv x0), (1, .int x1), (2, .int x2), (3, .int x3), (4, .int x4)] → St E A s h H locs → fX13_tellWays_62 k18 x0 x1 x2 x3 x4 y0 y1 h = some h9 → W p l e R s m args below meth c H locs 0 0 (MQ below (Qv E A h9) args s 0 0 A) (F0 m 62 ls [.int y0, rv y1]) := by
  intro x0 x1 x2 x3 x4 y0 y1 h H locs ls hl S hf
  unfold fX13_tellWays_62 at hf
  refine g_pI X S fpX13_618 (Or.inl rfl) dX13_tellWays_62 hf (fun h H locs hm hf S => ?_)
  obtain ⟨z1, ez1, hf⟩ := lt_some hf
  refine lv_iinc (v := z1) (lv' := [(4, .int z1), (0, rv x0), (1, .int x1), (2, .int x2), (3, .int x3)]) X.1 X.2.1 dX13_tellWays_65 hl (k := 4) rfl (by rw [← ez1]; rfl) (by decide) rfl (fun ls hl => ?_)
  refine lv_goto (tgt := 18) X.1 X.2.1 dX13_tellWays_68 (by decide) ?_
  exact hk18 _ _ _ _ _ _ _ _ _ (lv_sub hl [1, 2, 3, 4, 0] rfl) S hf
def fX13_tellWays_111 (k103 : Nat → Int32 → Int32 → Int32 → Hp → Option (Hp)) (k111 : Nat → Int32 → Int32 → Int32 → Int32 → Hp → Option (Hp)) (x0 : Nat) (x1 : Int32) (x3 : Int32) (x4 : Int32) (x5 : Int32) (h : Hp) : Option (Hp) := if 2 ≤ x5 then lt (x4 + (-1)) fun z2 => k103 x0 x1 x3 z2 h else ob (gR 11 x0 52 h) fun v3 => ob (fX13_wayAt x0 x4 0 x5 h) fun v4 => ob (fX13_waysOf x0 x1 x4 x3 0 x5 h) fun v5 => ob (qL v3 v4 v5 h) fun h => ob (gR 11 x0 52 h) fun v6 => ob (fX13_wayAt x0 x4 1 x5 h) fun v7 => ob (fX13_waysOf x0 x1 x4 x3 1 x5 h) fun v8 => ob (qL v6 v7 v8 h) fun h => lt (x5 + 1) fun z9 => k111 x0 x1 x3 x4 z9 h
theorem wfX13_tellWays_111 {k103 : Nat → Int32 → Int32 → Int32 → Hp → Option (Hp)} {k111 : Nat → Int32 → Int32 → Int32 → Int32 → Hp → Option (Hp)} {h9 : Hp} (X : Cx p E A 10 R s m args c cX13_tellWays yX13_tellWays.cls 6) (hr : meth.sig.returnType = none) (hlk : meth.locks = false) (hnm : meth.name = yX13_tellWays.name) (hk103 : ∀ (x0 : Nat) (x1 : Int32) (x3 : Int32) (x4 : Int32) (h : Hp) (H : Heap) (locs : List Loc) (ls : Array Slot), lv_has ls 6 [(0, rv x0), (1, .int x1), (3, .int x3), (4, .int x4)] → St E A s h H locs → k103 x0 x1 x3 x4 h = some h9 → W p l e R s m args below meth c H locs 0 0 (MQ below (Qv E A h9) args s 0 0 A) (F0 m 103 ls [])) (hk111 : ∀ (x0 : Nat) (x1 : Int32) (x3 : Int32) (x4 : Int32) (x5 : Int32) (h : Hp) (H : Heap) (locs : List Loc) (ls : Array Slot), lv_has ls 6 [(0, rv x0), (1, .int x1), (3, .int x3), (4, .int x4), (5, .int x5)] → St E A s h H locs → k111 x0 x1 x3 x4 x5 h = some h9 → W p l e R s m args below meth c H locs 0 0 (MQ below (Qv E A h9) args s 0 0 A) (F0 m 111 ls [])) :
    ∀ (x0 : Nat) (x1 : Int32) (x3 : Int32) (x4 : Int32) (x5 : Int32) (h : Hp) (H : Heap) (locs : List Loc) (ls : Array Slot), lv_has ls 6 [(0, rv x0), (1, .int x1), (3, .int x3), (4, .int x4), (5, .int x5)] → St E A s h H locs → fX13_tellWays_111 k103 k111 x0 x1 x3 x4 x5 h = some h9 → W p l e R s m args below meth c H locs 0 0 (MQ below (Qv E A h9) args s 0 0 A) (F0 m 111 ls []) := by
  intro x0 x1 x3 x4 x5 h H locs ls hl S hf
  unfold fX13_tellWays_111 at hf
  refine lv_iload X.1 X.2.1 dX13_tellWays_111 (lv_at hl 4 rfl) ?_
  refine lv_iconst (v := 2) X.1 X.2.1 dX13_tellWays_113 (by decide) ?_
  refine lv_icmp_ge (tgt := 173) X.1 X.2.1 dX13_tellWays_114 (by decide) (fun c1 => ?_) (fun c1 => ?_)
  · replace hf := (if_pos c1).symm.trans hf
    obtain ⟨z2, ez2, hf⟩ := lt_some hf
    refine lv_iinc (v := z2) (lv' := [(4, .int z2), (0, rv x0), (1, .int x1), (3, .int x3), (5, .int x5)]) X.1 X.2.1 dX13_tellWays_173 hl (k := 3) rfl (by rw [← ez2]; rfl) (by decide) rfl (fun ls hl => ?_)
    refine lv_goto (tgt := 103) X.1 X.2.1 dX13_tellWays_176 (by decide) ?_
    exact hk103 _ _ _ _ _ _ _ _ (lv_sub hl [1, 2, 3, 0] rfl) S hf
  · replace hf := (if_neg c1).symm.trans hf
    refine g_aload_n X (or_rv _) dX13_tellWays_117 rfl (lv_at hl 0 rfl) ?_
    refine g_gR X S foX13_142 dX13_tellWays_118 hf (fun v3 hf => ?_)
    refine g_aload_n X (or_rv _) dX13_tellWays_121 rfl (lv_at hl 0 rfl) ?_
    refine lv_iload X.1 X.2.1 dX13_tellWays_122 (lv_at hl 3 rfl) ?_
    refine lv_iconst (v := 0) X.1 X.2.1 dX13_tellWays_124 (by decide) ?_
    refine lv_iload X.1 X.2.1 dX13_tellWays_125 (lv_at hl 4 rfl) ?_
    obtain ⟨v4, hc, hf⟩ := ob_some hf
    refine g_ci S (runV (As := [.int x4, .int 0, .int x5]) (rest := [rv v3]) X S coX13_621 (by decide) (cX13_wayAt_m l hc) (tkX13_wayAt hc) rfl hl.1 (by simp [cat_rv, cat_wv, cat_sv, cat_i, cat_l, cat_a]) rfl ⟨Nat.zero_le _, Nat.zero_le _⟩ dX13_tellWays_127) (fun H locs S => ?_)
    refine g_aload_n X (or_rv _) dX13_tellWays_130 rfl (lv_at hl 0 rfl) ?_
    refine lv_iload_n X.1 X.2.1 dX13_tellWays_131 rfl (lv_at hl 1 rfl) ?_
    refine lv_iload X.1 X.2.1 dX13_tellWays_132 (lv_at hl 3 rfl) ?_
    refine lv_iload_n X.1 X.2.1 dX13_tellWays_134 rfl (lv_at hl 2 rfl) ?_
    refine lv_iconst (v := 0) X.1 X.2.1 dX13_tellWays_135 (by decide) ?_
    refine lv_iload X.1 X.2.1 dX13_tellWays_136 (lv_at hl 4 rfl) ?_
    obtain ⟨v5, hc, hf⟩ := ob_some hf
    refine g_cl S (runV (As := [.int x1, .int x4, .int x3, .int 0, .int x5]) (rest := [.int v4, rv v3]) X S coX13_633 (by decide) (cX13_waysOf_m l hc) (tkX13_waysOf hc) rfl hl.1 (by simp [cat_rv, cat_wv, cat_sv, cat_i, cat_l, cat_a]) rfl ⟨Nat.zero_le _, Nat.zero_le _⟩ dX13_tellWays_138) (fun H locs S => ?_)
    refine g_qL X S dX13_tellWays_141 hf (fun h H locs hm hf S => ?_)
    refine g_aload_n X (or_rv _) dX13_tellWays_142 rfl (lv_at hl 0 rfl) ?_
    refine g_gR X S foX13_142 dX13_tellWays_143 hf (fun v6 hf => ?_)
    refine g_aload_n X (or_rv _) dX13_tellWays_146 rfl (lv_at hl 0 rfl) ?_
    refine lv_iload X.1 X.2.1 dX13_tellWays_147 (lv_at hl 3 rfl) ?_
    refine lv_iconst (v := 1) X.1 X.2.1 dX13_tellWays_149 (by decide) ?_
    refine lv_iload X.1 X.2.1 dX13_tellWays_150 (lv_at hl 4 rfl) ?_
    obtain ⟨v7, hc, hf⟩ := ob_some hf
    refine g_ci S (runV (As := [.int x4, .int 1, .int x5]) (rest := [rv v6]) X S coX13_621 (by decide) (cX13_wayAt_m l hc) (tkX13_wayAt hc) rfl hl.1 (by simp [cat_rv, cat_wv, cat_sv, cat_i, cat_l, cat_a]) rfl ⟨Nat.zero_le _, Nat.zero_le _⟩ dX13_tellWays_152) (fun H locs S => ?_)
    refine g_aload_n X (or_rv _) dX13_tellWays_155 rfl (lv_at hl 0 rfl) ?_
    refine lv_iload_n X.1 X.2.1 dX13_tellWays_156 rfl (lv_at hl 1 rfl) ?_
    refine lv_iload X.1 X.2.1 dX13_tellWays_157 (lv_at hl 3 rfl) ?_
    refine lv_iload_n X.1 X.2.1 dX13_tellWays_159 rfl (lv_at hl 2 rfl) ?_
    refine lv_iconst (v := 1) X.1 X.2.1 dX13_tellWays_160 (by decide) ?_
    refine lv_iload X.1 X.2.1 dX13_tellWays_161 (lv_at hl 4 rfl) ?_
    obtain ⟨v8, hc, hf⟩ := ob_some hf
    refine g_cl S (runV (As := [.int x1, .int x4, .int x3, .int 1, .int x5]) (rest := [.int v7, rv v6]) X S coX13_633 (by decide) (cX13_waysOf_m l hc) (tkX13_waysOf hc) rfl hl.1 (by simp [cat_rv, cat_wv, cat_sv, cat_i, cat_l, cat_a]) rfl ⟨Nat.zero_le _, Nat.zero_le _⟩ dX13_tellWays_163) (fun H locs S => ?_)
    refine g_qL X S dX13_tellWays_166 hf (fun h H locs hm hf S => ?_)
    obtain ⟨z9, ez9, hf⟩ := lt_some hf
    refine lv_iinc (v := z9) (lv' := [(5, .int z9), (0, rv x0), (1, .int x1), (3, .int x3), (4, .int x4)]) X.1 X.2.1 dX13_tellWays_167 hl (k := 4) rfl (by rw [← ez9]; rfl) (by decide) rfl (fun ls hl => ?_)
    refine lv_goto (tgt := 111) X.1 X.2.1 dX13_tellWays_170 (by decide) ?_
    exact hk111 _ _ _ _ _ _ _ _ _ (lv_sub hl [1, 2, 3, 4, 0] rfl) S hf
theorem wfX13_tellWays_111_l {k103 : Nat → Int32 → Int32 → Int32 → Hp → Option (Hp)} {h9 : Hp} (X : Cx p E A 10 R s m args c cX13_tellWays yX13_tellWays.cls 6) (hr : meth.sig.returnType = none) (hlk : meth.locks = false) (hnm : meth.name = yX13_tellWays.name) (hk103 : ∀ (x0 : Nat) (x1 : Int32) (x3 : Int32) (x4 : Int32) (h : Hp) (H : Heap) (locs : List Loc) (ls : Array Slot), lv_has ls 6 [(0, rv x0), (1, .int x1), (3, .int x3), (4, .int x4)] → St E A s h H locs → k103 x0 x1 x3 x4 h = some h9 → W p l e R s m args below meth c H locs 0 0 (MQ below (Qv E A h9) args s 0 0 A) (F0 m 103 ls [])) :
    ∀ (n : Nat) (x0 : Nat) (x1 : Int32) (x3 : Int32) (x4 : Int32) (x5 : Int32) (h : Hp) (H : Heap) (locs : List Loc) (ls : Array Slot), lv_has ls 6 [(0, rv x0), (1, .int x1), (3, .int x3), (4, .int x4), (5, .int x5)] → St E A s h H locs → lp (fun _ _ _ _ _ _ => none) (fX13_tellWays_111 k103) n x0 x1 x3 x4 x5 h = some h9 → W p l e R s m args below meth c H locs 0 0 (MQ below (Qv E A h9) args s 0 0 A) (F0 m 111 ls []) := by
  intro n
  induction n with
  | zero =>
    intro x0 x1 x3 x4 x5 h H locs ls hl S hf
    exact nomatch hf
  | succ n ih =>
    intro x0 x1 x3 x4 x5 h H locs ls hl S hf
    exact wfX13_tellWays_111 X hr hlk hnm hk103 ih x0 x1 x3 x4 x5 h H locs ls hl S hf
def fX13_tellWays_103 (k103 : Nat → Int32 → Int32 → Int32 → Hp → Option (Hp)) (x0 : Nat) (x1 : Int32) (x3 : Int32) (x4 : Int32) (h : Hp) : Option (Hp) := if x4 < 0 then some h else lp (fun _ _ _ _ _ _ => none) (fX13_tellWays_111 k103) FU x0 x1 x3 x4 0 h
theorem wfX13_tellWays_103 {k103 : Nat → Int32 → Int32 → Int32 → Hp → Option (Hp)} {h9 : Hp} (X : Cx p E A 10 R s m args c cX13_tellWays yX13_tellWays.cls 6) (hr : meth.sig.returnType = none) (hlk : meth.locks = false) (hnm : meth.name = yX13_tellWays.name) (hk103 : ∀ (x0 : Nat) (x1 : Int32) (x3 : Int32) (x4 : Int32) (h : Hp) (H : Heap) (locs : List Loc) (ls : Array Slot), lv_has ls 6 [(0, rv x0), (1, .int x1), (3, .int x3), (4, .int x4)] → St E A s h H locs → k103 x0 x1 x3 x4 h = some h9 → W p l e R s m args below meth c H locs 0 0 (MQ below (Qv E A h9) args s 0 0 A) (F0 m 103 ls [])) :
    ∀ (x0 : Nat) (x1 : Int32) (x3 : Int32) (x4 : Int32) (h : Hp) (H : Heap) (locs : List Loc) (ls : Array Slot), lv_has ls 6 [(0, rv x0), (1, .int x1), (3, .int x3), (4, .int x4)] → St E A s h H locs → fX13_tellWays_103 k103 x0 x1 x3 x4 h = some h9 → W p l e R s m args below meth c H locs 0 0 (MQ below (Qv E A h9) args s 0 0 A) (F0 m 103 ls []) := by
  intro x0 x1 x3 x4 h H locs ls hl S hf
  unfold fX13_tellWays_103 at hf
  refine lv_iload X.1 X.2.1 dX13_tellWays_103 (lv_at hl 3 rfl) ?_
  refine lv_if_lt (tgt := 179) X.1 X.2.1 dX13_tellWays_105 (by decide) (fun c1 => ?_) (fun c1 => ?_)
  · replace hf := (if_pos c1).symm.trans hf
    cases hf; exact g_rv X S hr hlk dX13_tellWays_179
  · replace hf := (if_neg c1).symm.trans hf
    refine lv_iconst (v := 0) X.1 X.2.1 dX13_tellWays_108 (by decide) ?_
    refine lv_istore (lv' := [(5, .int 0), (0, rv x0), (1, .int x1), (3, .int x3), (4, .int x4)]) X.1 X.2.1 dX13_tellWays_109 hl (by decide) rfl (fun ls hl => ?_)
    exact wfX13_tellWays_111_l X hr hlk hnm hk103 FU _ _ _ _ _ _ _ _ _ (lv_sub hl [1, 2, 3, 4, 0] rfl) S hf
theorem wfX13_tellWays_103_l {h9 : Hp} (X : Cx p E A 10 R s m args c cX13_tellWays yX13_tellWays.cls 6) (hr : meth.sig.returnType = none) (hlk : meth.locks = false) (hnm : meth.name = yX13_tellWays.name) :
    ∀ (n : Nat) (x0 : Nat) (x1 : Int32) (x3 : Int32) (x4 : Int32) (h : Hp) (H : Heap) (locs : List Loc) (ls : Array Slot), lv_has ls 6 [(0, rv x0), (1, .int x1), (3, .int x3), (4, .int x4)] → St E A s h H locs → lp (fun _ _ _ _ _ => none) (fX13_tellWays_103) n x0 x1 x3 x4 h = some h9 → W p l e R s m args below meth c H locs 0 0 (MQ below (Qv E A h9) args s 0 0 A) (F0 m 103 ls []) := by
  intro n
  induction n with
  | zero =>
    intro x0 x1 x3 x4 h H locs ls hl S hf
    exact nomatch hf
  | succ n ih =>
    intro x0 x1 x3 x4 h H locs ls hl S hf
    exact wfX13_tellWays_103 X hr hlk hnm ih x0 x1 x3 x4 h H locs ls hl S hf
def fX13_tellWays_74 (k74 : Nat → Int32 → Int32 → Int32 → Int32 → Hp → Option (Hp)) (x0 : Nat) (x1 : Int32) (x2 : Int32) (x3 : Int32) (x4 : Int32) (h : Hp) : Option (Hp) := if 4 ≤ x4 then lt (x2 - 1) fun z2 => lp (fun _ _ _ _ _ => none) (fX13_tellWays_103) FU x0 x1 x3 z2 h else ob (gR 11 x0 52 h) fun v3 => ob (qL v3 ((4 * x2) + x4) 1 h) fun h => lt (x4 + 1) fun z4 => k74 x0 x1 x2 x3 z4 h
theorem wfX13_tellWays_74 {k74 : Nat → Int32 → Int32 → Int32 → Int32 → Hp → Option (Hp)} {h9 : Hp} (X : Cx p E A 10 R s m args c cX13_tellWays yX13_tellWays.cls 6) (hr : meth.sig.returnType = none) (hlk : meth.locks = false) (hnm : meth.name = yX13_tellWays.name) (hk74 : ∀ (x0 : Nat) (x1 : Int32) (x2 : Int32) (x3 : Int32) (x4 : Int32) (h : Hp) (H : Heap) (locs : List Loc) (ls : Array Slot), lv_has ls 6 [(0, rv x0), (1, .int x1), (2, .int x2), (3, .int x3), (4, .int x4)] → St E A s h H locs → k74 x0 x1 x2 x3 x4 h = some h9 → W p l e R s m args below meth c H locs 0 0 (MQ below (Qv E A h9) args s 0 0 A) (F0 m 74 ls [])) :
    ∀ (x0 : Nat) (x1 : Int32) (x2 : Int32) (x3 : Int32) (x4 : Int32) (h : Hp) (H : Heap) (locs : List Loc) (ls : Array Slot), lv_has ls 6 [(0, rv x0), (1, .int x1), (2, .int x2), (3, .int x3), (4, .int x4)] → St E A s h H locs → fX13_tellWays_74 k74 x0 x1 x2 x3 x4 h = some h9 → W p l e R s m args below meth c H locs 0 0 (MQ below (Qv E A h9) args s 0 0 A) (F0 m 74 ls []) := by
  intro x0 x1 x2 x3 x4 h H locs ls hl S hf
  unfold fX13_tellWays_74 at hf
  refine lv_iload X.1 X.2.1 dX13_tellWays_74 (lv_at hl 4 rfl) ?_
  refine lv_iconst (v := 4) X.1 X.2.1 dX13_tellWays_76 (by decide) ?_
  refine lv_icmp_ge (tgt := 98) X.1 X.2.1 dX13_tellWays_77 (by decide) (fun c1 => ?_) (fun c1 => ?_)
  · replace hf := (if_pos c1).symm.trans hf
    refine lv_iload_n X.1 X.2.1 dX13_tellWays_98 rfl (lv_at hl 2 rfl) ?_
    refine lv_iconst (v := 1) X.1 X.2.1 dX13_tellWays_99 (by decide) ?_
    refine lv_isub X.1 X.2.1 dX13_tellWays_100 ?_
    refine g_lti hf (fun z2 hf => ?_)
    refine lv_istore (lv' := [(4, .int z2), (0, rv x0), (1, .int x1), (2, .int x2), (3, .int x3)]) X.1 X.2.1 dX13_tellWays_101 hl (by decide) rfl (fun ls hl => ?_)
    exact wfX13_tellWays_103_l X hr hlk hnm FU _ _ _ _ _ _ _ _ (lv_sub hl [1, 2, 4, 0] rfl) S hf
  · replace hf := (if_neg c1).symm.trans hf
    refine g_aload_n X (or_rv _) dX13_tellWays_80 rfl (lv_at hl 0 rfl) ?_
    refine g_gR X S foX13_142 dX13_tellWays_81 hf (fun v3 hf => ?_)
    refine lv_iconst (v := 4) X.1 X.2.1 dX13_tellWays_84 (by decide) ?_
    refine lv_iload_n X.1 X.2.1 dX13_tellWays_85 rfl (lv_at hl 2 rfl) ?_
    refine lv_imul X.1 X.2.1 dX13_tellWays_86 ?_
    refine lv_iload X.1 X.2.1 dX13_tellWays_87 (lv_at hl 4 rfl) ?_
    refine lv_iadd X.1 X.2.1 dX13_tellWays_89 ?_
    refine lv_lconst (v := 1) X.1 X.2.1 dX13_tellWays_90 (by decide) ?_
    refine g_qL X S dX13_tellWays_91 hf (fun h H locs hm hf S => ?_)
    obtain ⟨z4, ez4, hf⟩ := lt_some hf
    refine lv_iinc (v := z4) (lv' := [(4, .int z4), (0, rv x0), (1, .int x1), (2, .int x2), (3, .int x3)]) X.1 X.2.1 dX13_tellWays_92 hl (k := 4) rfl (by rw [← ez4]; rfl) (by decide) rfl (fun ls hl => ?_)
    refine lv_goto (tgt := 74) X.1 X.2.1 dX13_tellWays_95 (by decide) ?_
    exact hk74 _ _ _ _ _ _ _ _ _ (lv_sub hl [1, 2, 3, 4, 0] rfl) S hf
theorem wfX13_tellWays_74_l {h9 : Hp} (X : Cx p E A 10 R s m args c cX13_tellWays yX13_tellWays.cls 6) (hr : meth.sig.returnType = none) (hlk : meth.locks = false) (hnm : meth.name = yX13_tellWays.name) :
    ∀ (n : Nat) (x0 : Nat) (x1 : Int32) (x2 : Int32) (x3 : Int32) (x4 : Int32) (h : Hp) (H : Heap) (locs : List Loc) (ls : Array Slot), lv_has ls 6 [(0, rv x0), (1, .int x1), (2, .int x2), (3, .int x3), (4, .int x4)] → St E A s h H locs → lp (fun _ _ _ _ _ _ => none) (fX13_tellWays_74) n x0 x1 x2 x3 x4 h = some h9 → W p l e R s m args below meth c H locs 0 0 (MQ below (Qv E A h9) args s 0 0 A) (F0 m 74 ls []) := by
  intro n
  induction n with
  | zero =>
    intro x0 x1 x2 x3 x4 h H locs ls hl S hf
    exact nomatch hf
  | succ n ih =>
    intro x0 x1 x2 x3 x4 h H locs ls hl S hf
    exact wfX13_tellWays_74 X hr hlk hnm ih x0 x1 x2 x3 x4 h H locs ls hl S hf
def fX13_tellWays_18 (k18 : Nat → Int32 → Int32 → Int32 → Int32 → Hp → Option (Hp)) (x0 : Nat) (x1 : Int32) (x2 : Int32) (x3 : Int32) (x4 : Int32) (h : Hp) : Option (Hp) := if x2 ≤ x4 then lp (fun _ _ _ _ _ _ => none) (fX13_tellWays_74) FU x0 x1 x2 x3 0 h else ob (gR 11 x0 3 h) fun v2 => ob (aI v2 (x1 + x4) h) fun v3 => if v3 = 32 then fX13_tellWays_53 (fX13_tellWays_62 k18) x0 x1 x2 x3 x4 x0 h else ob (gR 11 x0 3 h) fun v5 => ob (aI v5 (x1 + x4) h) fun v6 => if v6 = 33 then fX13_tellWays_53 (fX13_tellWays_62 k18) x0 x1 x2 x3 x4 x0 h else ob (gI 11 x0 53 h) fun v8 => fX13_tellWays_62 k18 x0 x1 x2 x3 x4 v8 x0 h
theorem wfX13_tellWays_18 {k18 : Nat → Int32 → Int32 → Int32 → Int32 → Hp → Option (Hp)} {h9 : Hp} (X : Cx p E A 10 R s m args c cX13_tellWays yX13_tellWays.cls 6) (hr : meth.sig.returnType = none) (hlk : meth.locks = false) (hnm : meth.name = yX13_tellWays.name) (hk18 : ∀ (x0 : Nat) (x1 : Int32) (x2 : Int32) (x3 : Int32) (x4 : Int32) (h : Hp) (H : Heap) (locs : List Loc) (ls : Array Slot), lv_has ls 6 [(0, rv x0), (1, .int x1), (2, .int x2), (3, .int x3), (4, .int x4)] → St E A s h H locs → k18 x0 x1 x2 x3 x4 h = some h9 → W p l e R s m args below meth c H locs 0 0 (MQ below (Qv E A h9) args s 0 0 A) (F0 m 18 ls [])) :
    ∀ (x0 : Nat) (x1 : Int32) (x2 : Int32) (x3 : Int32) (x4 : Int32) (h : Hp) (H : Heap) (locs : List Loc) (ls : Array Slot), lv_has ls 6 [(0, rv x0), (1, .int x1), (2, .int x2), (3, .int x3), (4, .int x4)] → St E A s h H locs → fX13_tellWays_18 k18 x0 x1 x2 x3 x4 h = some h9 → W p l e R s m args below meth c H locs 0 0 (MQ below (Qv E A h9) args s 0 0 A) (F0 m 18 ls []) := by
  intro x0 x1 x2 x3 x4 h H locs ls hl S hf
  unfold fX13_tellWays_18 at hf
  refine lv_iload X.1 X.2.1 dX13_tellWays_18 (lv_at hl 4 rfl) ?_
  refine lv_iload_n X.1 X.2.1 dX13_tellWays_20 rfl (lv_at hl 2 rfl) ?_
  refine lv_icmp_ge (tgt := 71) X.1 X.2.1 dX13_tellWays_21 (by decide) (fun c1 => ?_) (fun c1 => ?_)
  · replace hf := (if_pos c1).symm.trans hf
    refine lv_iconst (v := 0) X.1 X.2.1 dX13_tellWays_71 (by decide) ?_
    refine lv_istore (lv' := [(4, .int 0), (0, rv x0), (1, .int x1), (2, .int x2), (3, .int x3)]) X.1 X.2.1 dX13_tellWays_72 hl (by decide) rfl (fun ls hl => ?_)
    exact wfX13_tellWays_74_l X hr hlk hnm FU _ _ _ _ _ _ _ _ _ (lv_sub hl [1, 2, 3, 4, 0] rfl) S hf
  · replace hf := (if_neg c1).symm.trans hf
    refine g_aload_n X (or_rv _) dX13_tellWays_24 rfl (lv_at hl 0 rfl) ?_
    refine g_aload_n X (or_rv _) dX13_tellWays_25 rfl (lv_at hl 0 rfl) ?_
    refine g_gR X S foX13_76 dX13_tellWays_26 hf (fun v2 hf => ?_)
    refine lv_iload_n X.1 X.2.1 dX13_tellWays_29 rfl (lv_at hl 1 rfl) ?_
    refine lv_iload X.1 X.2.1 dX13_tellWays_30 (lv_at hl 4 rfl) ?_
    refine lv_iadd X.1 X.2.1 dX13_tellWays_32 ?_
    refine g_aI X S dX13_tellWays_33 hf (fun v3 hf => ?_)
    refine lv_bipush (v := 32) X.1 X.2.1 dX13_tellWays_34 (by decide) ?_
    refine lv_icmp_eq (tgt := 53) X.1 X.2.1 dX13_tellWays_36 (by decide) (fun c4 => ?_) (fun c4 => ?_)
    · replace hf := (if_pos c4).symm.trans hf
      exact wfX13_tellWays_53 X hr hlk hnm (wfX13_tellWays_62 X hr hlk hnm hk18) _ _ _ _ _ _ _ _ _ _ hl S hf
    · replace hf := (if_neg c4).symm.trans hf
      refine g_aload_n X (or_rv _) dX13_tellWays_39 rfl (lv_at hl 0 rfl) ?_
      refine g_gR X S foX13_76 dX13_tellWays_40 hf (fun v5 hf => ?_)
      refine lv_iload_n X.1 X.2.1 dX13_tellWays_43 rfl (lv_at hl 1 rfl) ?_
      refine lv_iload X.1 X.2.1 dX13_tellWays_44 (lv_at hl 4 rfl) ?_
      refine lv_iadd X.1 X.2.1 dX13_tellWays_46 ?_
      refine g_aI X S dX13_tellWays_47 hf (fun v6 hf => ?_)
      refine lv_bipush (v := 33) X.1 X.2.1 dX13_tellWays_48 (by decide) ?_
      refine lv_icmp_ne (tgt := 58) X.1 X.2.1 dX13_tellWays_50 (by decide) (fun c7 => ?_) (fun c7 => ?_)
      · replace hf := (if_neg c7).symm.trans hf
        refine g_aload_n X (or_rv _) dX13_tellWays_58 rfl (lv_at hl 0 rfl) ?_
        refine g_gI X S foX13_618 rfl dX13_tellWays_59 hf (fun v8 hf => ?_)
        exact wfX13_tellWays_62 X hr hlk hnm hk18 _ _ _ _ _ _ _ _ _ _ _ hl S hf
      · replace hf := (if_pos c7).symm.trans hf
        exact wfX13_tellWays_53 X hr hlk hnm (wfX13_tellWays_62 X hr hlk hnm hk18) _ _ _ _ _ _ _ _ _ _ hl S hf
theorem wfX13_tellWays_18_l {h9 : Hp} (X : Cx p E A 10 R s m args c cX13_tellWays yX13_tellWays.cls 6) (hr : meth.sig.returnType = none) (hlk : meth.locks = false) (hnm : meth.name = yX13_tellWays.name) :
    ∀ (n : Nat) (x0 : Nat) (x1 : Int32) (x2 : Int32) (x3 : Int32) (x4 : Int32) (h : Hp) (H : Heap) (locs : List Loc) (ls : Array Slot), lv_has ls 6 [(0, rv x0), (1, .int x1), (2, .int x2), (3, .int x3), (4, .int x4)] → St E A s h H locs → lp (fun _ _ _ _ _ _ => none) (fX13_tellWays_18) n x0 x1 x2 x3 x4 h = some h9 → W p l e R s m args below meth c H locs 0 0 (MQ below (Qv E A h9) args s 0 0 A) (F0 m 18 ls []) := by
  intro n
  induction n with
  | zero =>
    intro x0 x1 x2 x3 x4 h H locs ls hl S hf
    exact nomatch hf
  | succ n ih =>
    intro x0 x1 x2 x3 x4 h H locs ls hl S hf
    exact wfX13_tellWays_18 X hr hlk hnm ih x0 x1 x2 x3 x4 h H locs ls hl S hf
def fX13_tellWays (a0 : Nat) (a1 : Int32) (a2 : Int32) (a3 : Int32) (h : Hp) : Option (Hp) := gd 11 a0 h (ob (gR 11 a0 3 h) fun v1 => ob (aI v1 a1 h) fun v2 => ob (pI 11 a0 54 v2 h) fun h => ob (pI 11 a0 53 (-1) h) fun h => lp (fun _ _ _ _ _ _ => none) (fX13_tellWays_18) FU a0 a1 a2 a3 0 h)
theorem tkX13_tellWays {a0 : Nat} {a1 : Int32} {a2 : Int32} {a3 : Int32} {h : Hp} {r9 : Hp} (e : fX13_tellWays a0 a1 a2 a3 h = some r9) : hK h a0 = 11 := by
  unfold fX13_tellWays at e
  exact (gd_some e).1
theorem cX13_tellWays_m (l : Launch) {E : EE} {A : Nat → Prop} {a0 : Nat} {a1 : Int32} {a2 : Int32} {a3 : Int32} {h : Hp} {h9 : Hp} (hf : fX13_tellWays a0 a1 a2 a3 h = some h9) : Met l yX13_tellWays (wsM yX13_tellWays cX13_tellWays 6 none) (rmm 10 0 0) (PcE E A h [rv a0, .int a1, .int a2, .int a3]) (Qv E A h9) 0 0 A := by
  refine met_of (by decide +kernel) (by simp [lg_sl, cat_rv, cat_wv, cat_sv, cat_i, cat_l, cat_a]) (fun p e s m args below meth c ls X hr hlk hnm S hl => ?_)
  have hl : lv_has ls 6 [(0, rv a0), (1, .int a1), (2, .int a2), (3, .int a3)] := by simpa [lv_args, cat_rv, cat_wv, cat_sv, cat_i, cat_l, cat_a] using hl
  generalize hH : s.heap = H at S ⊢
  generalize hlo : ([] : List Loc) = locs at S ⊢
  clear hH hlo
  unfold fX13_tellWays at hf
  obtain ⟨hth, hf⟩ := gd_some hf
  refine g_aload_n X (or_rv _) dX13_tellWays_0 rfl (lv_at hl 0 rfl) ?_
  refine g_aload_n X (or_rv _) dX13_tellWays_1 rfl (lv_at hl 0 rfl) ?_
  refine g_gR X S foX13_76 dX13_tellWays_2 hf (fun v1 hf => ?_)
  refine lv_iload_n X.1 X.2.1 dX13_tellWays_5 rfl (lv_at hl 1 rfl) ?_
  refine g_aI X S dX13_tellWays_6 hf (fun v2 hf => ?_)
  refine g_pI X S fpX13_615 (Or.inl rfl) dX13_tellWays_7 hf (fun h H locs hm hf S => ?_)
  refine g_aload_n X (or_rv _) dX13_tellWays_10 rfl (lv_at hl 0 rfl) ?_
  refine lv_iconst (v := (-1)) X.1 X.2.1 dX13_tellWays_11 (by decide) ?_
  refine g_pI X S fpX13_618 (Or.inl rfl) dX13_tellWays_12 hf (fun h H locs hm hf S => ?_)
  refine lv_iconst (v := 0) X.1 X.2.1 dX13_tellWays_15 (by decide) ?_
  refine lv_istore (lv' := [(4, .int 0), (0, rv a0), (1, .int a1), (2, .int a2), (3, .int a3)]) X.1 X.2.1 dX13_tellWays_16 hl (by decide) rfl (fun ls hl => ?_)
  exact wfX13_tellWays_18_l X hr hlk hnm FU _ _ _ _ _ _ _ _ _ (lv_sub hl [1, 2, 3, 4, 0] rfl) S hf
def fX13_findSource_213 (k216 : Nat → Int32 → Int32 → Int32 → Int32 → Int32 → Int32 → Int32 → Hp → Option (Hp)) (x0 : Nat) (x1 : Int32) (x2 : Int32) (x3 : Int32) (x4 : Int32) (x5 : Int32) (x6 : Int32) (x7 : Int32) (y0 : Int32) (y1 : Nat) (h : Hp) : Option (Hp) := ob (pI 11 y1 57 y0 h) fun h => k216 x0 x1 x2 x3 x4 x5 x6 x7 h
theorem wfX13_findSource_213 {k216 : Nat → Int32 → Int32 → Int32 → Int32 → Int32 → Int32 → Int32 → Hp → Option (Hp)} {h9 : Hp} (X : Cx p E A 9 R s m args c cX13_findSource yX13_findSource.cls 10) (hr : meth.sig.returnType = none) (hlk : meth.locks = false) (hnm : meth.name = yX13_findSource.name) (hk216 : ∀ (x0 : Nat) (x1 : Int32) (x2 : Int32) (x3 : Int32) (x4 : Int32) (x5 : Int32) (x6 : Int32) (x7 : Int32) (h : Hp) (H : Heap) (locs : List Loc) (ls : Array Slot), lv_has ls 10 [(0, rv x0), (1, .int x1), (2, .int x2), (3, .int x3), (4, .int x4), (5, .int x5), (6, .int x6), (7, .int x7)] → St E A s h H locs → k216 x0 x1 x2 x3 x4 x5 x6 x7 h = some h9 → W p l e R s m args below meth c H locs 0 0 (MQ below (Qv E A h9) args s 0 0 A) (F0 m 216 ls [])) :
    ∀ (x0 : Nat) (x1 : Int32) (x2 : Int32) (x3 : Int32) (x4 : Int32) (x5 : Int32) (x6 : Int32) (x7 : Int32) (y0 : Int32) (y1 : Nat) (h : Hp) (H : Heap) (locs : List Loc) (ls : Array Slot), lv_has ls 10 [(0, rv x0), (1, .int x1), (2, .int x2), (3, .int x3), (4, .int x4), (5, .int x5), (6, .int x6), (7, .int x7)] → St E A s h H locs → fX13_findSource_213 k216 x0 x1 x2 x3 x4 x5 x6 x7 y0 y1 h = some h9 → W p l e R s m args below meth c H locs 0 0 (MQ below (Qv E A h9) args s 0 0 A) (F0 m 213 ls [.int y0, rv y1]) := by
  intro x0 x1 x2 x3 x4 x5 x6 x7 y0 y1 h H locs ls hl S hf
  unfold fX13_findSource_213 at hf
  refine g_pI X S fpX13_640 (Or.inl rfl) dX13_findSource_213 hf (fun h H locs hm hf S => ?_)
  exact hk216 _ _ _ _ _ _ _ _ _ _ _ _ hl S hf
def fX13_findSource_242 (k16 : Nat → Int32 → Int32 → Int32 → Int32 → Int32 → Hp → Option (Hp)) (x0 : Nat) (x1 : Int32) (x2 : Int32) (x3 : Int32) (x5 : Int32) (x7 : Int32) (y0 : Int32) (y1 : Int32) (y2 : Int32) (y3 : Int32) (y4 : Int32) (y5 : Nat) (h : Hp) : Option (Hp) := ob (fX13_seenBehind y5 y4 y3 y2 y1 y0 h) fun v1 => ob (gR 11 x0 55 h) fun v2 => ob (gI 11 x0 56 h) fun v3 => ob (qI v2 v3 x7 h) fun h => ob (gI 11 x0 56 h) fun v4 => ob (pI 11 x0 56 (v4 + 1) h) fun h => lt (x5 + 1) fun z5 => k16 x0 x1 x2 x3 v1 z5 h
theorem wfX13_findSource_242 {k16 : Nat → Int32 → Int32 → Int32 → Int32 → Int32 → Hp → Option (Hp)} {h9 : Hp} (X : Cx p E A 9 R s m args c cX13_findSource yX13_findSource.cls 10) (hr : meth.sig.returnType = none) (hlk : meth.locks = false) (hnm : meth.name = yX13_findSource.name) (hk16 : ∀ (x0 : Nat) (x1 : Int32) (x2 : Int32) (x3 : Int32) (x4 : Int32) (x5 : Int32) (h : Hp) (H : Heap) (locs : List Loc) (ls : Array Slot), lv_has ls 10 [(0, rv x0), (1, .int x1), (2, .int x2), (3, .int x3), (4, .int x4), (5, .int x5)] → St E A s h H locs → k16 x0 x1 x2 x3 x4 x5 h = some h9 → W p l e R s m args below meth c H locs 0 0 (MQ below (Qv E A h9) args s 0 0 A) (F0 m 16 ls [])) :
    ∀ (x0 : Nat) (x1 : Int32) (x2 : Int32) (x3 : Int32) (x5 : Int32) (x7 : Int32) (y0 : Int32) (y1 : Int32) (y2 : Int32) (y3 : Int32) (y4 : Int32) (y5 : Nat) (h : Hp) (H : Heap) (locs : List Loc) (ls : Array Slot), lv_has ls 10 [(0, rv x0), (1, .int x1), (2, .int x2), (3, .int x3), (5, .int x5), (7, .int x7)] → St E A s h H locs → fX13_findSource_242 k16 x0 x1 x2 x3 x5 x7 y0 y1 y2 y3 y4 y5 h = some h9 → W p l e R s m args below meth c H locs 0 0 (MQ below (Qv E A h9) args s 0 0 A) (F0 m 242 ls [.int y0, .int y1, .int y2, .int y3, .int y4, rv y5]) := by
  intro x0 x1 x2 x3 x5 x7 y0 y1 y2 y3 y4 y5 h H locs ls hl S hf
  unfold fX13_findSource_242 at hf
  obtain ⟨v1, hc, hf⟩ := ob_some hf
  refine g_ci S (runV (As := [.int y4, .int y3, .int y2, .int y1, .int y0]) (rest := []) X S coX13_629 (by decide) (cX13_seenBehind_m l hc) (tkX13_seenBehind hc) rfl hl.1 (by decide) rfl ⟨Nat.zero_le _, Nat.zero_le _⟩ dX13_findSource_242) (fun H locs S => ?_)
  refine lv_istore (lv' := [(4, .int v1), (0, rv x0), (1, .int x1), (2, .int x2), (3, .int x3), (5, .int x5), (7, .int x7)]) X.1 X.2.1 dX13_findSource_245 hl (by decide) rfl (fun ls hl => ?_)
  refine g_aload_n X (or_rv _) dX13_findSource_247 rfl (lv_at hl 1 rfl) ?_
  refine g_gR X S foX13_145 dX13_findSource_248 hf (fun v2 hf => ?_)
  refine g_aload_n X (or_rv _) dX13_findSource_251 rfl (lv_at hl 1 rfl) ?_
  refine g_gI X S foX13_637 rfl dX13_findSource_252 hf (fun v3 hf => ?_)
  refine lv_iload X.1 X.2.1 dX13_findSource_255 (lv_at hl 6 rfl) ?_
  refine g_qI X S dX13_findSource_257 hf (fun h H locs hm hf S => ?_)
  refine g_aload_n X (or_rv _) dX13_findSource_258 rfl (lv_at hl 1 rfl) ?_
  refine lv_dup X.1 X.2.1 dX13_findSource_259 (cat_rv _) ?_
  refine g_gI X S foX13_637 rfl dX13_findSource_260 hf (fun v4 hf => ?_)
  refine lv_iconst (v := 1) X.1 X.2.1 dX13_findSource_263 (by decide) ?_
  refine lv_iadd X.1 X.2.1 dX13_findSource_264 ?_
  refine g_pI X S fpX13_637 (Or.inl rfl) dX13_findSource_265 hf (fun h H locs hm hf S => ?_)
  refine lv_goto (tgt := 277) X.1 X.2.1 dX13_findSource_268 (by decide) ?_
  obtain ⟨z5, ez5, hf⟩ := lt_some hf
  refine lv_iinc (v := z5) (lv' := [(5, .int z5), (4, .int v1), (0, rv x0), (1, .int x1), (2, .int x2), (3, .int x3), (7, .int x7)]) X.1 X.2.1 dX13_findSource_277 hl (k := 5) rfl (by rw [← ez5]; rfl) (by decide) rfl (fun ls hl => ?_)
  refine lv_goto (tgt := 16) X.1 X.2.1 dX13_findSource_280 (by decide) ?_
  exact hk16 _ _ _ _ _ _ _ _ _ _ (lv_sub hl [2, 3, 4, 5, 1, 0] rfl) S hf
def fX13_findSource_216 (k16 : Nat → Int32 → Int32 → Int32 → Int32 → Int32 → Hp → Option (Hp)) (x0 : Nat) (x1 : Int32) (x2 : Int32) (x3 : Int32) (x4 : Int32) (x5 : Int32) (x6 : Int32) (x7 : Int32) (h : Hp) : Option (Hp) := ob (gI 11 x0 53 h) fun v1 => if x5 = v1 then ob (gI 11 x0 57 h) fun v3 => fX13_findSource_242 k16 x0 x1 x2 x3 x5 x7 v3 x4 x7 x6 x5 x0 h else fX13_findSource_242 k16 x0 x1 x2 x3 x5 x7 1 x4 x7 x6 x5 x0 h
theorem wfX13_findSource_216 {k16 : Nat → Int32 → Int32 → Int32 → Int32 → Int32 → Hp → Option (Hp)} {h9 : Hp} (X : Cx p E A 9 R s m args c cX13_findSource yX13_findSource.cls 10) (hr : meth.sig.returnType = none) (hlk : meth.locks = false) (hnm : meth.name = yX13_findSource.name) (hk16 : ∀ (x0 : Nat) (x1 : Int32) (x2 : Int32) (x3 : Int32) (x4 : Int32) (x5 : Int32) (h : Hp) (H : Heap) (locs : List Loc) (ls : Array Slot), lv_has ls 10 [(0, rv x0), (1, .int x1), (2, .int x2), (3, .int x3), (4, .int x4), (5, .int x5)] → St E A s h H locs → k16 x0 x1 x2 x3 x4 x5 h = some h9 → W p l e R s m args below meth c H locs 0 0 (MQ below (Qv E A h9) args s 0 0 A) (F0 m 16 ls [])) :
    ∀ (x0 : Nat) (x1 : Int32) (x2 : Int32) (x3 : Int32) (x4 : Int32) (x5 : Int32) (x6 : Int32) (x7 : Int32) (h : Hp) (H : Heap) (locs : List Loc) (ls : Array Slot), lv_has ls 10 [(0, rv x0), (1, .int x1), (2, .int x2), (3, .int x3), (4, .int x4), (5, .int x5), (6, .int x6), (7, .int x7)] → St E A s h H locs → fX13_findSource_216 k16 x0 x1 x2 x3 x4 x5 x6 x7 h = some h9 → W p l e R s m args below meth c H locs 0 0 (MQ below (Qv E A h9) args s 0 0 A) (F0 m 216 ls []) := by
  intro x0 x1 x2 x3 x4 x5 x6 x7 h H locs ls hl S hf
  unfold fX13_findSource_216 at hf
  refine g_aload_n X (or_rv _) dX13_findSource_216 rfl (lv_at hl 0 rfl) ?_
  refine lv_iload X.1 X.2.1 dX13_findSource_217 (lv_at hl 5 rfl) ?_
  refine lv_iload X.1 X.2.1 dX13_findSource_219 (lv_at hl 6 rfl) ?_
  refine lv_iload X.1 X.2.1 dX13_findSource_221 (lv_at hl 7 rfl) ?_
  refine lv_iload X.1 X.2.1 dX13_findSource_223 (lv_at hl 4 rfl) ?_
  refine lv_iload X.1 X.2.1 dX13_findSource_225 (lv_at hl 5 rfl) ?_
  refine g_aload_n X (or_rv _) dX13_findSource_227 rfl (lv_at hl 0 rfl) ?_
  refine g_gI X S foX13_618 rfl dX13_findSource_228 hf (fun v1 hf => ?_)
  refine lv_icmp_ne (tgt := 241) X.1 X.2.1 dX13_findSource_231 (by decide) (fun c2 => ?_) (fun c2 => ?_)
  · replace hf := (if_neg c2).symm.trans hf
    refine lv_iconst (v := 1) X.1 X.2.1 dX13_findSource_241 (by decide) ?_
    exact wfX13_findSource_242 X hr hlk hnm hk16 _ _ _ _ _ _ _ _ _ _ _ _ _ _ _ _ (lv_sub hl [0, 1, 2, 3, 5, 7] rfl) S hf
  · replace hf := (if_pos c2).symm.trans hf
    refine g_aload_n X (or_rv _) dX13_findSource_234 rfl (lv_at hl 0 rfl) ?_
    refine g_gI X S foX13_640 rfl dX13_findSource_235 hf (fun v3 hf => ?_)
    refine lv_goto (tgt := 242) X.1 X.2.1 dX13_findSource_238 (by decide) ?_
    exact wfX13_findSource_242 X hr hlk hnm hk16 _ _ _ _ _ _ _ _ _ _ _ _ _ _ _ _ (lv_sub hl [0, 1, 2, 3, 5, 7] rfl) S hf
def fX13_findSource_193 (k16 : Nat → Int32 → Int32 → Int32 → Int32 → Int32 → Hp → Option (Hp)) (x0 : Nat) (x1 : Int32) (x2 : Int32) (x3 : Int32) (x4 : Int32) (x5 : Int32) (x6 : Int32) (x7 : Int32) (x8 : Int32) (h : Hp) : Option (Hp) := ob (gI 11 x0 53 h) fun v1 => if x5 = v1 then if x8 = 0 then fX13_findSource_213 (fX13_findSource_216 k16) x0 x1 x2 x3 x4 x5 x6 x7 1 x0 h else fX13_findSource_213 (fX13_findSource_216 k16) x0 x1 x2 x3 x4 x5 x6 x7 0 x0 h else fX13_findSource_216 k16 x0 x1 x2 x3 x4 x5 x6 x7 h
theorem wfX13_findSource_193 {k16 : Nat → Int32 → Int32 → Int32 → Int32 → Int32 → Hp → Option (Hp)} {h9 : Hp} (X : Cx p E A 9 R s m args c cX13_findSource yX13_findSource.cls 10) (hr : meth.sig.returnType = none) (hlk : meth.locks = false) (hnm : meth.name = yX13_findSource.name) (hk16 : ∀ (x0 : Nat) (x1 : Int32) (x2 : Int32) (x3 : Int32) (x4 : Int32) (x5 : Int32) (h : Hp) (H : Heap) (locs : List Loc) (ls : Array Slot), lv_has ls 10 [(0, rv x0), (1, .int x1), (2, .int x2), (3, .int x3), (4, .int x4), (5, .int x5)] → St E A s h H locs → k16 x0 x1 x2 x3 x4 x5 h = some h9 → W p l e R s m args below meth c H locs 0 0 (MQ below (Qv E A h9) args s 0 0 A) (F0 m 16 ls [])) :
    ∀ (x0 : Nat) (x1 : Int32) (x2 : Int32) (x3 : Int32) (x4 : Int32) (x5 : Int32) (x6 : Int32) (x7 : Int32) (x8 : Int32) (h : Hp) (H : Heap) (locs : List Loc) (ls : Array Slot), lv_has ls 10 [(0, rv x0), (1, .int x1), (2, .int x2), (3, .int x3), (4, .int x4), (5, .int x5), (6, .int x6), (7, .int x7), (8, .int x8)] → St E A s h H locs → fX13_findSource_193 k16 x0 x1 x2 x3 x4 x5 x6 x7 x8 h = some h9 → W p l e R s m args below meth c H locs 0 0 (MQ below (Qv E A h9) args s 0 0 A) (F0 m 193 ls []) := by
  intro x0 x1 x2 x3 x4 x5 x6 x7 x8 h H locs ls hl S hf
  unfold fX13_findSource_193 at hf
  refine lv_iload X.1 X.2.1 dX13_findSource_193 (lv_at hl 5 rfl) ?_
  refine g_aload_n X (or_rv _) dX13_findSource_195 rfl (lv_at hl 0 rfl) ?_
  refine g_gI X S foX13_618 rfl dX13_findSource_196 hf (fun v1 hf => ?_)
  refine lv_icmp_ne (tgt := 216) X.1 X.2.1 dX13_findSource_199 (by decide) (fun c2 => ?_) (fun c2 => ?_)
  · replace hf := (if_neg c2).symm.trans hf
    exact wfX13_findSource_216 X hr hlk hnm hk16 _ _ _ _ _ _ _ _ _ _ _ _ (lv_sub hl [0, 1, 2, 3, 4, 5, 6, 7] rfl) S hf
  · replace hf := (if_pos c2).symm.trans hf
    refine g_aload_n X (or_rv _) dX13_findSource_202 rfl (lv_at hl 0 rfl) ?_
    refine lv_iload X.1 X.2.1 dX13_findSource_203 (lv_at hl 8 rfl) ?_
    refine lv_if_eq (tgt := 212) X.1 X.2.1 dX13_findSource_205 (by decide) (fun c3 => ?_) (fun c3 => ?_)
    · replace hf := (if_pos c3).symm.trans hf
      refine lv_iconst (v := 1) X.1 X.2.1 dX13_findSource_212 (by decide) ?_
      exact wfX13_findSource_213 X hr hlk hnm (wfX13_findSource_216 X hr hlk hnm hk16) _ _ _ _ _ _ _ _ _ _ _ _ _ _ (lv_sub hl [0, 1, 2, 3, 4, 5, 6, 7] rfl) S hf
    · replace hf := (if_neg c3).symm.trans hf
      refine lv_iconst (v := 0) X.1 X.2.1 dX13_findSource_208 (by decide) ?_
      refine lv_goto (tgt := 213) X.1 X.2.1 dX13_findSource_209 (by decide) ?_
      exact wfX13_findSource_213 X hr hlk hnm (wfX13_findSource_216 X hr hlk hnm hk16) _ _ _ _ _ _ _ _ _ _ _ _ _ _ (lv_sub hl [0, 1, 2, 3, 4, 5, 6, 7] rfl) S hf
def fX13_findSource_178 (k16 : Nat → Int32 → Int32 → Int32 → Int32 → Int32 → Hp → Option (Hp)) (k72 : Nat → Int32 → Int32 → Int32 → Int32 → Int32 → Int32 → Int32 → Hp → Option (Hp)) (x0 : Nat) (x1 : Int32) (x2 : Int32) (x3 : Int32) (x4 : Int32) (x5 : Int32) (x6 : Int32) (x7 : Int32) (x8 : Int32) (y0 : Int32) (h : Hp) : Option (Hp) := if x8 = 0 then if y0 = 0 then lt (x7 + 1) fun z3 => k72 x0 x1 x2 x3 x4 x5 x6 z3 h else fX13_findSource_193 k16 x0 x1 x2 x3 x4 x5 x6 x7 x8 h else fX13_findSource_193 k16 x0 x1 x2 x3 x4 x5 x6 x7 x8 h
theorem wfX13_findSource_178 {k16 : Nat → Int32 → Int32 → Int32 → Int32 → Int32 → Hp → Option (Hp)} {k72 : Nat → Int32 → Int32 → Int32 → Int32 → Int32 → Int32 → Int32 → Hp → Option (Hp)} {h9 : Hp} (X : Cx p E A 9 R s m args c cX13_findSource yX13_findSource.cls 10) (hr : meth.sig.returnType = none) (hlk : meth.locks = false) (hnm : meth.name = yX13_findSource.name) (hk16 : ∀ (x0 : Nat) (x1 : Int32) (x2 : Int32) (x3 : Int32) (x4 : Int32) (x5 : Int32) (h : Hp) (H : Heap) (locs : List Loc) (ls : Array Slot), lv_has ls 10 [(0, rv x0), (1, .int x1), (2, .int x2), (3, .int x3), (4, .int x4), (5, .int x5)] → St E A s h H locs → k16 x0 x1 x2 x3 x4 x5 h = some h9 → W p l e R s m args below meth c H locs 0 0 (MQ below (Qv E A h9) args s 0 0 A) (F0 m 16 ls [])) (hk72 : ∀ (x0 : Nat) (x1 : Int32) (x2 : Int32) (x3 : Int32) (x4 : Int32) (x5 : Int32) (x6 : Int32) (x7 : Int32) (h : Hp) (H : Heap) (locs : List Loc) (ls : Array Slot), lv_has ls 10 [(0, rv x0), (1, .int x1), (2, .int x2), (3, .int x3), (4, .int x4), (5, .int x5), (6, .int x6), (7, .int x7)] → St E A s h H locs → k72 x0 x1 x2 x3 x4 x5 x6 x7 h = some h9 → W p l e R s m args below meth c H locs 0 0 (MQ below (Qv E A h9) args s 0 0 A) (F0 m 72 ls [])) :
    ∀ (x0 : Nat) (x1 : Int32) (x2 : Int32) (x3 : Int32) (x4 : Int32) (x5 : Int32) (x6 : Int32) (x7 : Int32) (x8 : Int32) (y0 : Int32) (h : Hp) (H : Heap) (locs : List Loc) (ls : Array Slot), lv_has ls 10 [(0, rv x0), (1, .int x1), (2, .int x2), (3, .int x3), (4, .int x4), (5, .int x5), (6, .int x6), (7, .int x7), (8, .int x8)] → St E A s h H locs → fX13_findSource_178 k16 k72 x0 x1 x2 x3 x4 x5 x6 x7 x8 y0 h = some h9 → W p l e R s m args below meth c H locs 0 0 (MQ below (Qv E A h9) args s 0 0 A) (F0 m 178 ls [.int y0]) := by
  intro x0 x1 x2 x3 x4 x5 x6 x7 x8 y0 h H locs ls hl S hf
  unfold fX13_findSource_178 at hf
  refine lv_istore (lv' := [(9, .int y0), (0, rv x0), (1, .int x1), (2, .int x2), (3, .int x3), (4, .int x4), (5, .int x5), (6, .int x6), (7, .int x7), (8, .int x8)]) X.1 X.2.1 dX13_findSource_178 hl (by decide) rfl (fun ls hl => ?_)
  refine lv_iload X.1 X.2.1 dX13_findSource_180 (lv_at hl 9 rfl) ?_
  refine lv_if_ne (tgt := 193) X.1 X.2.1 dX13_findSource_182 (by decide) (fun c1 => ?_) (fun c1 => ?_)
  · replace hf := (if_neg c1).symm.trans hf
    exact wfX13_findSource_193 X hr hlk hnm hk16 _ _ _ _ _ _ _ _ _ _ _ _ _ (lv_sub hl [1, 2, 3, 4, 5, 6, 7, 8, 9] rfl) S hf
  · replace hf := (if_pos c1).symm.trans hf
    refine lv_iload X.1 X.2.1 dX13_findSource_185 (lv_at hl 0 rfl) ?_
    refine lv_if_ne (tgt := 193) X.1 X.2.1 dX13_findSource_187 (by decide) (fun c2 => ?_) (fun c2 => ?_)
    · replace hf := (if_neg c2).symm.trans hf
      exact wfX13_findSource_193 X hr hlk hnm hk16 _ _ _ _ _ _ _ _ _ _ _ _ _ (lv_sub hl [1, 2, 3, 4, 5, 6, 7, 8, 9] rfl) S hf
    · replace hf := (if_pos c2).symm.trans hf
      refine lv_goto (tgt := 271) X.1 X.2.1 dX13_findSource_190 (by decide) ?_
      obtain ⟨z3, ez3, hf⟩ := lt_some hf
      refine lv_iinc (v := z3) (lv' := [(7, .int z3), (9, .int y0), (0, rv x0), (1, .int x1), (2, .int x2), (3, .int x3), (4, .int x4), (5, .int x5), (6, .int x6), (8, .int x8)]) X.1 X.2.1 dX13_findSource_271 hl (k := 8) rfl (by rw [← ez3]; rfl) (by decide) rfl (fun ls hl => ?_)
      refine lv_goto (tgt := 72) X.1 X.2.1 dX13_findSource_274 (by decide) ?_
      exact hk72 _ _ _ _ _ _ _ _ _ _ _ _ (lv_sub hl [2, 3, 4, 5, 6, 7, 8, 0] rfl) S hf
def fX13_findSource_139 (k16 : Nat → Int32 → Int32 → Int32 → Int32 → Int32 → Hp → Option (Hp)) (k72 : Nat → Int32 → Int32 → Int32 → Int32 → Int32 → Int32 → Int32 → Hp → Option (Hp)) (x0 : Nat) (x1 : Int32) (x2 : Int32) (x3 : Int32) (x4 : Int32) (x5 : Int32) (x6 : Int32) (x7 : Int32) (y0 : Int32) (h : Hp) : Option (Hp) := ob (gR 11 x0 52 h) fun v1 => ob (fX13_seenBehind x0 x5 x6 x7 x4 1 h) fun v2 => ob (fX13_wayAt x0 (x5 + 1) v2 1 h) fun v3 => ob (aL v1 v3 h) fun v4 => if (lg_cmp v4 0) ≤ 0 then fX13_findSource_178 k16 k72 x0 x1 x2 x3 x4 x5 x6 x7 y0 0 h else fX13_findSource_178 k16 k72 x0 x1 x2 x3 x4 x5 x6 x7 y0 1 h
theorem wfX13_findSource_139 {k16 : Nat → Int32 → Int32 → Int32 → Int32 → Int32 → Hp → Option (Hp)} {k72 : Nat → Int32 → Int32 → Int32 → Int32 → Int32 → Int32 → Int32 → Hp → Option (Hp)} {h9 : Hp} (X : Cx p E A 9 R s m args c cX13_findSource yX13_findSource.cls 10) (hr : meth.sig.returnType = none) (hlk : meth.locks = false) (hnm : meth.name = yX13_findSource.name) (hk16 : ∀ (x0 : Nat) (x1 : Int32) (x2 : Int32) (x3 : Int32) (x4 : Int32) (x5 : Int32) (h : Hp) (H : Heap) (locs : List Loc) (ls : Array Slot), lv_has ls 10 [(0, rv x0), (1, .int x1), (2, .int x2), (3, .int x3), (4, .int x4), (5, .int x5)] → St E A s h H locs → k16 x0 x1 x2 x3 x4 x5 h = some h9 → W p l e R s m args below meth c H locs 0 0 (MQ below (Qv E A h9) args s 0 0 A) (F0 m 16 ls [])) (hk72 : ∀ (x0 : Nat) (x1 : Int32) (x2 : Int32) (x3 : Int32) (x4 : Int32) (x5 : Int32) (x6 : Int32) (x7 : Int32) (h : Hp) (H : Heap) (locs : List Loc) (ls : Array Slot), lv_has ls 10 [(0, rv x0), (1, .int x1), (2, .int x2), (3, .int x3), (4, .int x4), (5, .int x5), (6, .int x6), (7, .int x7)] → St E A s h H locs → k72 x0 x1 x2 x3 x4 x5 x6 x7 h = some h9 → W p l e R s m args below meth c H locs 0 0 (MQ below (Qv E A h9) args s 0 0 A) (F0 m 72 ls [])) :
    ∀ (x0 : Nat) (x1 : Int32) (x2 : Int32) (x3 : Int32) (x4 : Int32) (x5 : Int32) (x6 : Int32) (x7 : Int32) (y0 : Int32) (h : Hp) (H : Heap) (locs : List Loc) (ls : Array Slot), lv_has ls 10 [(0, rv x0), (1, .int x1), (2, .int x2), (3, .int x3), (4, .int x4), (5, .int x5), (6, .int x6), (7, .int x7)] → St E A s h H locs → fX13_findSource_139 k16 k72 x0 x1 x2 x3 x4 x5 x6 x7 y0 h = some h9 → W p l e R s m args below meth c H locs 0 0 (MQ below (Qv E A h9) args s 0 0 A) (F0 m 139 ls [.int y0]) := by
  intro x0 x1 x2 x3 x4 x5 x6 x7 y0 h H locs ls hl S hf
  unfold fX13_findSource_139 at hf
  refine lv_istore (lv' := [(8, .int y0), (0, rv x0), (1, .int x1), (2, .int x2), (3, .int x3), (4, .int x4), (5, .int x5), (6, .int x6), (7, .int x7)]) X.1 X.2.1 dX13_findSource_139 hl (by decide) rfl (fun ls hl => ?_)
  refine g_aload_n X (or_rv _) dX13_findSource_141 rfl (lv_at hl 1 rfl) ?_
  refine g_gR X S foX13_142 dX13_findSource_142 hf (fun v1 hf => ?_)
  refine g_aload_n X (or_rv _) dX13_findSource_145 rfl (lv_at hl 1 rfl) ?_
  refine lv_iload X.1 X.2.1 dX13_findSource_146 (lv_at hl 6 rfl) ?_
  refine lv_iconst (v := 1) X.1 X.2.1 dX13_findSource_148 (by decide) ?_
  refine lv_iadd X.1 X.2.1 dX13_findSource_149 ?_
  refine g_aload_n X (or_rv _) dX13_findSource_150 rfl (lv_at hl 1 rfl) ?_
  refine lv_iload X.1 X.2.1 dX13_findSource_151 (lv_at hl 6 rfl) ?_
  refine lv_iload X.1 X.2.1 dX13_findSource_153 (lv_at hl 7 rfl) ?_
  refine lv_iload X.1 X.2.1 dX13_findSource_155 (lv_at hl 8 rfl) ?_
  refine lv_iload X.1 X.2.1 dX13_findSource_157 (lv_at hl 5 rfl) ?_
  refine lv_iconst (v := 1) X.1 X.2.1 dX13_findSource_159 (by decide) ?_
  obtain ⟨v2, hc, hf⟩ := ob_some hf
  refine g_ci S (runV (As := [.int x5, .int x6, .int x7, .int x4, .int 1]) (rest := [.int (x5 + 1), rv x0, rv v1]) X S coX13_629 (by decide) (cX13_seenBehind_m l hc) (tkX13_seenBehind hc) rfl hl.1 (by simp [cat_rv, cat_wv, cat_sv, cat_i, cat_l, cat_a]) rfl ⟨Nat.zero_le _, Nat.zero_le _⟩ dX13_findSource_160) (fun H locs S => ?_)
  refine lv_iconst (v := 1) X.1 X.2.1 dX13_findSource_163 (by decide) ?_
  obtain ⟨v3, hc, hf⟩ := ob_some hf
  refine g_ci S (runV (As := [.int (x5 + 1), .int v2, .int 1]) (rest := [rv v1]) X S coX13_621 (by decide) (cX13_wayAt_m l hc) (tkX13_wayAt hc) rfl hl.1 (by simp [cat_rv, cat_wv, cat_sv, cat_i, cat_l, cat_a]) rfl ⟨Nat.zero_le _, Nat.zero_le _⟩ dX13_findSource_164) (fun H locs S => ?_)
  refine g_aL X S dX13_findSource_167 hf (fun v4 hf => ?_)
  refine lv_lconst (v := 0) X.1 X.2.1 dX13_findSource_168 (by decide) ?_
  refine W.lcmp X.1 X.2.1 dX13_findSource_169 ?_
  refine lv_if_le (tgt := 177) X.1 X.2.1 dX13_findSource_170 (by decide) (fun c5 => ?_) (fun c5 => ?_)
  · replace hf := (if_pos c5).symm.trans hf
    refine lv_iconst (v := 0) X.1 X.2.1 dX13_findSource_177 (by decide) ?_
    exact wfX13_findSource_178 X hr hlk hnm hk16 hk72 _ _ _ _ _ _ _ _ _ _ _ _ _ _ (lv_sub hl [1, 2, 3, 4, 5, 6, 7, 8, 0] rfl) S hf
  · replace hf := (if_neg c5).symm.trans hf
    refine lv_iconst (v := 1) X.1 X.2.1 dX13_findSource_173 (by decide) ?_
    refine lv_goto (tgt := 178) X.1 X.2.1 dX13_findSource_174 (by decide) ?_
    exact wfX13_findSource_178 X hr hlk hnm hk16 hk72 _ _ _ _ _ _ _ _ _ _ _ _ _ _ (lv_sub hl [1, 2, 3, 4, 5, 6, 7, 8, 0] rfl) S hf
def fX13_findSource_72 (k16 : Nat → Int32 → Int32 → Int32 → Int32 → Int32 → Hp → Option (Hp)) (k72 : Nat → Int32 → Int32 → Int32 → Int32 → Int32 → Int32 → Int32 → Hp → Option (Hp)) (x0 : Nat) (x1 : Int32) (x2 : Int32) (x3 : Int32) (x4 : Int32) (x5 : Int32) (x6 : Int32) (x7 : Int32) (h : Hp) : Option (Hp) := if 10 ≤ x7 then lt (x5 + 1) fun z2 => k16 x0 x1 x2 x3 x4 z2 h else ob (gR 11 x0 3 h) fun v3 => ob (aI v3 (x3 + x5) h) fun v4 => ob (fX13_gives x0 x7 x4 v4 h) fun v5 => if v5 = 0 then lt (x7 + 1) fun z12 => k72 x0 x1 x2 x3 x4 x5 x6 z12 h else ob (gR 11 x0 52 h) fun v7 => ob (fX13_seenBehind x0 x5 x6 x7 x4 0 h) fun v8 => ob (fX13_wayAt x0 (x5 + 1) v8 0 h) fun v9 => ob (aL v7 v9 h) fun v10 => if (lg_cmp v10 0) ≤ 0 then fX13_findSource_139 k16 k72 x0 x1 x2 x3 x4 x5 x6 x7 0 h else fX13_findSource_139 k16 k72 x0 x1 x2 x3 x4 x5 x6 x7 1 h
theorem wfX13_findSource_72 {k16 : Nat → Int32 → Int32 → Int32 → Int32 → Int32 → Hp → Option (Hp)} {k72 : Nat → Int32 → Int32 → Int32 → Int32 → Int32 → Int32 → Int32 → Hp → Option (Hp)} {h9 : Hp} (X : Cx p E A 9 R s m args c cX13_findSource yX13_findSource.cls 10) (hr : meth.sig.returnType = none) (hlk : meth.locks = false) (hnm : meth.name = yX13_findSource.name) (hk16 : ∀ (x0 : Nat) (x1 : Int32) (x2 : Int32) (x3 : Int32) (x4 : Int32) (x5 : Int32) (h : Hp) (H : Heap) (locs : List Loc) (ls : Array Slot), lv_has ls 10 [(0, rv x0), (1, .int x1), (2, .int x2), (3, .int x3), (4, .int x4), (5, .int x5)] → St E A s h H locs → k16 x0 x1 x2 x3 x4 x5 h = some h9 → W p l e R s m args below meth c H locs 0 0 (MQ below (Qv E A h9) args s 0 0 A) (F0 m 16 ls [])) (hk72 : ∀ (x0 : Nat) (x1 : Int32) (x2 : Int32) (x3 : Int32) (x4 : Int32) (x5 : Int32) (x6 : Int32) (x7 : Int32) (h : Hp) (H : Heap) (locs : List Loc) (ls : Array Slot), lv_has ls 10 [(0, rv x0), (1, .int x1), (2, .int x2), (3, .int x3), (4, .int x4), (5, .int x5), (6, .int x6), (7, .int x7)] → St E A s h H locs → k72 x0 x1 x2 x3 x4 x5 x6 x7 h = some h9 → W p l e R s m args below meth c H locs 0 0 (MQ below (Qv E A h9) args s 0 0 A) (F0 m 72 ls [])) :
    ∀ (x0 : Nat) (x1 : Int32) (x2 : Int32) (x3 : Int32) (x4 : Int32) (x5 : Int32) (x6 : Int32) (x7 : Int32) (h : Hp) (H : Heap) (locs : List Loc) (ls : Array Slot), lv_has ls 10 [(0, rv x0), (1, .int x1), (2, .int x2), (3, .int x3), (4, .int x4), (5, .int x5), (6, .int x6), (7, .int x7)] → St E A s h H locs → fX13_findSource_72 k16 k72 x0 x1 x2 x3 x4 x5 x6 x7 h = some h9 → W p l e R s m args below meth c H locs 0 0 (MQ below (Qv E A h9) args s 0 0 A) (F0 m 72 ls []) := by
  intro x0 x1 x2 x3 x4 x5 x6 x7 h H locs ls hl S hf
  unfold fX13_findSource_72 at hf
  refine lv_iload X.1 X.2.1 dX13_findSource_72 (lv_at hl 7 rfl) ?_
  refine lv_bipush (v := 10) X.1 X.2.1 dX13_findSource_74 (by decide) ?_
  refine lv_icmp_ge (tgt := 277) X.1 X.2.1 dX13_findSource_76 (by decide) (fun c1 => ?_) (fun c1 => ?_)
  · replace hf := (if_pos c1).symm.trans hf
    obtain ⟨z2, ez2, hf⟩ := lt_some hf
    refine lv_iinc (v := z2) (lv' := [(5, .int z2), (0, rv x0), (1, .int x1), (2, .int x2), (3, .int x3), (4, .int x4), (6, .int x6), (7, .int x7)]) X.1 X.2.1 dX13_findSource_277 hl (k := 5) rfl (by rw [← ez2]; rfl) (by decide) rfl (fun ls hl => ?_)
    refine lv_goto (tgt := 16) X.1 X.2.1 dX13_findSource_280 (by decide) ?_
    exact hk16 _ _ _ _ _ _ _ _ _ _ (lv_sub hl [1, 2, 3, 4, 5, 0] rfl) S hf
  · replace hf := (if_neg c1).symm.trans hf
    refine g_aload_n X (or_rv _) dX13_findSource_79 rfl (lv_at hl 0 rfl) ?_
    refine lv_iload X.1 X.2.1 dX13_findSource_80 (lv_at hl 7 rfl) ?_
    refine lv_iload X.1 X.2.1 dX13_findSource_82 (lv_at hl 4 rfl) ?_
    refine g_aload_n X (or_rv _) dX13_findSource_84 rfl (lv_at hl 0 rfl) ?_
    refine g_gR X S foX13_76 dX13_findSource_85 hf (fun v3 hf => ?_)
    refine lv_iload_n X.1 X.2.1 dX13_findSource_88 rfl (lv_at hl 3 rfl) ?_
    refine lv_iload X.1 X.2.1 dX13_findSource_89 (lv_at hl 5 rfl) ?_
    refine lv_iadd X.1 X.2.1 dX13_findSource_91 ?_
    refine g_aI X S dX13_findSource_92 hf (fun v4 hf => ?_)
    obtain ⟨v5, hc, hf⟩ := ob_some hf
    refine g_ci S (runV (As := [.int x7, .int x4, .int v4]) (rest := []) X S coX13_625 (by decide) (cX13_gives_m l hc) (tkX13_gives hc) rfl hl.1 (by decide) rfl ⟨Nat.zero_le _, Nat.zero_le _⟩ dX13_findSource_93) (fun H locs S => ?_)
    refine lv_if_ne (tgt := 102) X.1 X.2.1 dX13_findSource_96 (by decide) (fun c6 => ?_) (fun c6 => ?_)
    · replace hf := (if_neg c6).symm.trans hf
      refine g_aload_n X (or_rv _) dX13_findSource_102 rfl (lv_at hl 0 rfl) ?_
      refine g_gR X S foX13_142 dX13_findSource_103 hf (fun v7 hf => ?_)
      refine g_aload_n X (or_rv _) dX13_findSource_106 rfl (lv_at hl 0 rfl) ?_
      refine lv_iload X.1 X.2.1 dX13_findSource_107 (lv_at hl 5 rfl) ?_
      refine lv_iconst (v := 1) X.1 X.2.1 dX13_findSource_109 (by decide) ?_
      refine lv_iadd X.1 X.2.1 dX13_findSource_110 ?_
      refine g_aload_n X (or_rv _) dX13_findSource_111 rfl (lv_at hl 0 rfl) ?_
      refine lv_iload X.1 X.2.1 dX13_findSource_112 (lv_at hl 5 rfl) ?_
      refine lv_iload X.1 X.2.1 dX13_findSource_114 (lv_at hl 6 rfl) ?_
      refine lv_iload X.1 X.2.1 dX13_findSource_116 (lv_at hl 7 rfl) ?_
      refine lv_iload X.1 X.2.1 dX13_findSource_118 (lv_at hl 4 rfl) ?_
      refine lv_iconst (v := 0) X.1 X.2.1 dX13_findSource_120 (by decide) ?_
      obtain ⟨v8, hc, hf⟩ := ob_some hf
      refine g_ci S (runV (As := [.int x5, .int x6, .int x7, .int x4, .int 0]) (rest := [.int (x5 + 1), rv x0, rv v7]) X S coX13_629 (by decide) (cX13_seenBehind_m l hc) (tkX13_seenBehind hc) rfl hl.1 (by simp [cat_rv, cat_wv, cat_sv, cat_i, cat_l, cat_a]) rfl ⟨Nat.zero_le _, Nat.zero_le _⟩ dX13_findSource_121) (fun H locs S => ?_)
      refine lv_iconst (v := 0) X.1 X.2.1 dX13_findSource_124 (by decide) ?_
      obtain ⟨v9, hc, hf⟩ := ob_some hf
      refine g_ci S (runV (As := [.int (x5 + 1), .int v8, .int 0]) (rest := [rv v7]) X S coX13_621 (by decide) (cX13_wayAt_m l hc) (tkX13_wayAt hc) rfl hl.1 (by simp [cat_rv, cat_wv, cat_sv, cat_i, cat_l, cat_a]) rfl ⟨Nat.zero_le _, Nat.zero_le _⟩ dX13_findSource_125) (fun H locs S => ?_)
      refine g_aL X S dX13_findSource_128 hf (fun v10 hf => ?_)
      refine lv_lconst (v := 0) X.1 X.2.1 dX13_findSource_129 (by decide) ?_
      refine W.lcmp X.1 X.2.1 dX13_findSource_130 ?_
      refine lv_if_le (tgt := 138) X.1 X.2.1 dX13_findSource_131 (by decide) (fun c11 => ?_) (fun c11 => ?_)
      · replace hf := (if_pos c11).symm.trans hf
        refine lv_iconst (v := 0) X.1 X.2.1 dX13_findSource_138 (by decide) ?_
        exact wfX13_findSource_139 X hr hlk hnm hk16 hk72 _ _ _ _ _ _ _ _ _ _ _ _ _ hl S hf
      · replace hf := (if_neg c11).symm.trans hf
        refine lv_iconst (v := 1) X.1 X.2.1 dX13_findSource_134 (by decide) ?_
        refine lv_goto (tgt := 139) X.1 X.2.1 dX13_findSource_135 (by decide) ?_
        exact wfX13_findSource_139 X hr hlk hnm hk16 hk72 _ _ _ _ _ _ _ _ _ _ _ _ _ hl S hf
    · replace hf := (if_pos c6).symm.trans hf
      refine lv_goto (tgt := 271) X.1 X.2.1 dX13_findSource_99 (by decide) ?_
      obtain ⟨z12, ez12, hf⟩ := lt_some hf
      refine lv_iinc (v := z12) (lv' := [(7, .int z12), (0, rv x0), (1, .int x1), (2, .int x2), (3, .int x3), (4, .int x4), (5, .int x5), (6, .int x6)]) X.1 X.2.1 dX13_findSource_271 hl (k := 7) rfl (by rw [← ez12]; rfl) (by decide) rfl (fun ls hl => ?_)
      refine lv_goto (tgt := 72) X.1 X.2.1 dX13_findSource_274 (by decide) ?_
      exact hk72 _ _ _ _ _ _ _ _ _ _ _ _ (lv_sub hl [1, 2, 3, 4, 5, 6, 7, 0] rfl) S hf
theorem wfX13_findSource_72_l {k16 : Nat → Int32 → Int32 → Int32 → Int32 → Int32 → Hp → Option (Hp)} {h9 : Hp} (X : Cx p E A 9 R s m args c cX13_findSource yX13_findSource.cls 10) (hr : meth.sig.returnType = none) (hlk : meth.locks = false) (hnm : meth.name = yX13_findSource.name) (hk16 : ∀ (x0 : Nat) (x1 : Int32) (x2 : Int32) (x3 : Int32) (x4 : Int32) (x5 : Int32) (h : Hp) (H : Heap) (locs : List Loc) (ls : Array Slot), lv_has ls 10 [(0, rv x0), (1, .int x1), (2, .int x2), (3, .int x3), (4, .int x4), (5, .int x5)] → St E A s h H locs → k16 x0 x1 x2 x3 x4 x5 h = some h9 → W p l e R s m args below meth c H locs 0 0 (MQ below (Qv E A h9) args s 0 0 A) (F0 m 16 ls [])) :
    ∀ (n : Nat) (x0 : Nat) (x1 : Int32) (x2 : Int32) (x3 : Int32) (x4 : Int32) (x5 : Int32) (x6 : Int32) (x7 : Int32) (h : Hp) (H : Heap) (locs : List Loc) (ls : Array Slot), lv_has ls 10 [(0, rv x0), (1, .int x1), (2, .int x2), (3, .int x3), (4, .int x4), (5, .int x5), (6, .int x6), (7, .int x7)] → St E A s h H locs → lp (fun _ _ _ _ _ _ _ _ _ => none) (fX13_findSource_72 k16) n x0 x1 x2 x3 x4 x5 x6 x7 h = some h9 → W p l e R s m args below meth c H locs 0 0 (MQ below (Qv E A h9) args s 0 0 A) (F0 m 72 ls []) := by
  intro n
  induction n with
  | zero =>
    intro x0 x1 x2 x3 x4 x5 x6 x7 h H locs ls hl S hf
    exact nomatch hf
  | succ n ih =>
    intro x0 x1 x2 x3 x4 x5 x6 x7 h H locs ls hl S hf
    exact wfX13_findSource_72 X hr hlk hnm hk16 ih x0 x1 x2 x3 x4 x5 x6 x7 h H locs ls hl S hf
def fX13_findSource_16 (k16 : Nat → Int32 → Int32 → Int32 → Int32 → Int32 → Hp → Option (Hp)) (x0 : Nat) (x1 : Int32) (x2 : Int32) (x3 : Int32) (x4 : Int32) (x5 : Int32) (h : Hp) : Option (Hp) := if x2 ≤ x5 then some h else ob (gR 11 x0 3 h) fun v2 => ob (aI v2 (x1 + x5) h) fun v3 => if v3 = 32 then lp (fun _ _ _ _ _ _ _ _ _ => none) (fX13_findSource_72 k16) FU x0 x1 x2 x3 x4 x5 v3 0 h else if v3 = 33 then lp (fun _ _ _ _ _ _ _ _ _ => none) (fX13_findSource_72 k16) FU x0 x1 x2 x3 x4 x5 v3 0 h else if v3 = 34 then lt (x5 + 1) fun z7 => k16 x0 x1 x2 x3 0 z7 h else if x4 = 0 then lt (x5 + 1) fun z9 => k16 x0 x1 x2 x3 0 z9 h else lt (x5 + 1) fun z10 => k16 x0 x1 x2 x3 1 z10 h
theorem wfX13_findSource_16 {k16 : Nat → Int32 → Int32 → Int32 → Int32 → Int32 → Hp → Option (Hp)} {h9 : Hp} (X : Cx p E A 9 R s m args c cX13_findSource yX13_findSource.cls 10) (hr : meth.sig.returnType = none) (hlk : meth.locks = false) (hnm : meth.name = yX13_findSource.name) (hk16 : ∀ (x0 : Nat) (x1 : Int32) (x2 : Int32) (x3 : Int32) (x4 : Int32) (x5 : Int32) (h : Hp) (H : Heap) (locs : List Loc) (ls : Array Slot), lv_has ls 10 [(0, rv x0), (1, .int x1), (2, .int x2), (3, .int x3), (4, .int x4), (5, .int x5)] → St E A s h H locs → k16 x0 x1 x2 x3 x4 x5 h = some h9 → W p l e R s m args below meth c H locs 0 0 (MQ below (Qv E A h9) args s 0 0 A) (F0 m 16 ls [])) :
    ∀ (x0 : Nat) (x1 : Int32) (x2 : Int32) (x3 : Int32) (x4 : Int32) (x5 : Int32) (h : Hp) (H : Heap) (locs : List Loc) (ls : Array Slot), lv_has ls 10 [(0, rv x0), (1, .int x1), (2, .int x2), (3, .int x3), (4, .int x4), (5, .int x5)] → St E A s h H locs → fX13_findSource_16 k16 x0 x1 x2 x3 x4 x5 h = some h9 → W p l e R s m args below meth c H locs 0 0 (MQ below (Qv E A h9) args s 0 0 A) (F0 m 16 ls []) := by
  intro x0 x1 x2 x3 x4 x5 h H locs ls hl S hf
  unfold fX13_findSource_16 at hf
  refine lv_iload X.1 X.2.1 dX13_findSource_16 (lv_at hl 5 rfl) ?_
  refine lv_iload_n X.1 X.2.1 dX13_findSource_18 rfl (lv_at hl 2 rfl) ?_
  refine lv_icmp_ge (tgt := 283) X.1 X.2.1 dX13_findSource_19 (by decide) (fun c1 => ?_) (fun c1 => ?_)
  · replace hf := (if_pos c1).symm.trans hf
    cases hf; exact g_rv X S hr hlk dX13_findSource_283
  · replace hf := (if_neg c1).symm.trans hf
    refine g_aload_n X (or_rv _) dX13_findSource_22 rfl (lv_at hl 0 rfl) ?_
    refine g_gR X S foX13_76 dX13_findSource_23 hf (fun v2 hf => ?_)
    refine lv_iload_n X.1 X.2.1 dX13_findSource_26 rfl (lv_at hl 1 rfl) ?_
    refine lv_iload X.1 X.2.1 dX13_findSource_27 (lv_at hl 5 rfl) ?_
    refine lv_iadd X.1 X.2.1 dX13_findSource_29 ?_
    refine g_aI X S dX13_findSource_30 hf (fun v3 hf => ?_)
    refine lv_istore (lv' := [(6, .int v3), (0, rv x0), (1, .int x1), (2, .int x2), (3, .int x3), (4, .int x4), (5, .int x5)]) X.1 X.2.1 dX13_findSource_31 hl (by decide) rfl (fun ls hl => ?_)
    refine lv_iload X.1 X.2.1 dX13_findSource_33 (lv_at hl 0 rfl) ?_
    refine lv_bipush (v := 32) X.1 X.2.1 dX13_findSource_35 (by decide) ?_
    refine lv_icmp_eq (tgt := 69) X.1 X.2.1 dX13_findSource_37 (by decide) (fun c4 => ?_) (fun c4 => ?_)
    · replace hf := (if_pos c4).symm.trans hf
      refine lv_iconst (v := 0) X.1 X.2.1 dX13_findSource_69 (by decide) ?_
      refine lv_istore (lv' := [(7, .int 0), (6, .int v3), (0, rv x0), (1, .int x1), (2, .int x2), (3, .int x3), (4, .int x4), (5, .int x5)]) X.1 X.2.1 dX13_findSource_70 hl (by decide) rfl (fun ls hl => ?_)
      exact wfX13_findSource_72_l X hr hlk hnm hk16 FU _ _ _ _ _ _ _ _ _ _ _ _ (lv_sub hl [2, 3, 4, 5, 6, 7, 1, 0] rfl) S hf
    · replace hf := (if_neg c4).symm.trans hf
      refine lv_iload X.1 X.2.1 dX13_findSource_40 (lv_at hl 0 rfl) ?_
      refine lv_bipush (v := 33) X.1 X.2.1 dX13_findSource_42 (by decide) ?_
      refine lv_icmp_eq (tgt := 69) X.1 X.2.1 dX13_findSource_44 (by decide) (fun c5 => ?_) (fun c5 => ?_)
      · replace hf := (if_pos c5).symm.trans hf
        refine lv_iconst (v := 0) X.1 X.2.1 dX13_findSource_69 (by decide) ?_
        refine lv_istore (lv' := [(7, .int 0), (6, .int v3), (0, rv x0), (1, .int x1), (2, .int x2), (3, .int x3), (4, .int x4), (5, .int x5)]) X.1 X.2.1 dX13_findSource_70 hl (by decide) rfl (fun ls hl => ?_)
        exact wfX13_findSource_72_l X hr hlk hnm hk16 FU _ _ _ _ _ _ _ _ _ _ _ _ (lv_sub hl [2, 3, 4, 5, 6, 7, 1, 0] rfl) S hf
      · replace hf := (if_neg c5).symm.trans hf
        refine lv_iload X.1 X.2.1 dX13_findSource_47 (lv_at hl 0 rfl) ?_
        refine lv_bipush (v := 34) X.1 X.2.1 dX13_findSource_49 (by decide) ?_
        refine lv_icmp_eq (tgt := 63) X.1 X.2.1 dX13_findSource_51 (by decide) (fun c6 => ?_) (fun c6 => ?_)
        · replace hf := (if_pos c6).symm.trans hf
          refine lv_iconst (v := 0) X.1 X.2.1 dX13_findSource_63 (by decide) ?_
          refine lv_istore (lv' := [(4, .int 0), (6, .int v3), (0, rv x0), (1, .int x1), (2, .int x2), (3, .int x3), (5, .int x5)]) X.1 X.2.1 dX13_findSource_64 hl (by decide) rfl (fun ls hl => ?_)
          refine lv_goto (tgt := 277) X.1 X.2.1 dX13_findSource_66 (by decide) ?_
          obtain ⟨z7, ez7, hf⟩ := lt_some hf
          refine lv_iinc (v := z7) (lv' := [(5, .int z7), (4, .int 0), (6, .int v3), (0, rv x0), (1, .int x1), (2, .int x2), (3, .int x3)]) X.1 X.2.1 dX13_findSource_277 hl (k := 6) rfl (by rw [← ez7]; rfl) (by decide) rfl (fun ls hl => ?_)
          refine lv_goto (tgt := 16) X.1 X.2.1 dX13_findSource_280 (by decide) ?_
          exact hk16 _ _ _ _ _ _ _ _ _ _ (lv_sub hl [3, 4, 5, 6, 1, 0] rfl) S hf
        · replace hf := (if_neg c6).symm.trans hf
          refine lv_iload X.1 X.2.1 dX13_findSource_54 (lv_at hl 5 rfl) ?_
          refine lv_if_eq (tgt := 63) X.1 X.2.1 dX13_findSource_56 (by decide) (fun c8 => ?_) (fun c8 => ?_)
          · replace hf := (if_pos c8).symm.trans hf
            refine lv_iconst (v := 0) X.1 X.2.1 dX13_findSource_63 (by decide) ?_
            refine lv_istore (lv' := [(4, .int 0), (6, .int v3), (0, rv x0), (1, .int x1), (2, .int x2), (3, .int x3), (5, .int x5)]) X.1 X.2.1 dX13_findSource_64 hl (by decide) rfl (fun ls hl => ?_)
            refine lv_goto (tgt := 277) X.1 X.2.1 dX13_findSource_66 (by decide) ?_
            obtain ⟨z9, ez9, hf⟩ := lt_some hf
            refine lv_iinc (v := z9) (lv' := [(5, .int z9), (4, .int 0), (6, .int v3), (0, rv x0), (1, .int x1), (2, .int x2), (3, .int x3)]) X.1 X.2.1 dX13_findSource_277 hl (k := 6) rfl (by rw [← ez9]; rfl) (by decide) rfl (fun ls hl => ?_)
            refine lv_goto (tgt := 16) X.1 X.2.1 dX13_findSource_280 (by decide) ?_
            exact hk16 _ _ _ _ _ _ _ _ _ _ (lv_sub hl [3, 4, 5, 6, 1, 0] rfl) S hf
          · replace hf := (if_neg c8).symm.trans hf
            refine lv_iconst (v := 1) X.1 X.2.1 dX13_findSource_59 (by decide) ?_
            refine lv_goto (tgt := 64) X.1 X.2.1 dX13_findSource_60 (by decide) ?_
            refine lv_istore (lv' := [(4, .int 1), (6, .int v3), (0, rv x0), (1, .int x1), (2, .int x2), (3, .int x3), (5, .int x5)]) X.1 X.2.1 dX13_findSource_64 hl (by decide) rfl (fun ls hl => ?_)
            refine lv_goto (tgt := 277) X.1 X.2.1 dX13_findSource_66 (by decide) ?_
            obtain ⟨z10, ez10, hf⟩ := lt_some hf
            refine lv_iinc (v := z10) (lv' := [(5, .int z10), (4, .int 1), (6, .int v3), (0, rv x0), (1, .int x1), (2, .int x2), (3, .int x3)]) X.1 X.2.1 dX13_findSource_277 hl (k := 6) rfl (by rw [← ez10]; rfl) (by decide) rfl (fun ls hl => ?_)
            refine lv_goto (tgt := 16) X.1 X.2.1 dX13_findSource_280 (by decide) ?_
            exact hk16 _ _ _ _ _ _ _ _ _ _ (lv_sub hl [3, 4, 5, 6, 1, 0] rfl) S hf
theorem wfX13_findSource_16_l {h9 : Hp} (X : Cx p E A 9 R s m args c cX13_findSource yX13_findSource.cls 10) (hr : meth.sig.returnType = none) (hlk : meth.locks = false) (hnm : meth.name = yX13_findSource.name) :
    ∀ (n : Nat) (x0 : Nat) (x1 : Int32) (x2 : Int32) (x3 : Int32) (x4 : Int32) (x5 : Int32) (h : Hp) (H : Heap) (locs : List Loc) (ls : Array Slot), lv_has ls 10 [(0, rv x0), (1, .int x1), (2, .int x2), (3, .int x3), (4, .int x4), (5, .int x5)] → St E A s h H locs → lp (fun _ _ _ _ _ _ _ => none) (fX13_findSource_16) n x0 x1 x2 x3 x4 x5 h = some h9 → W p l e R s m args below meth c H locs 0 0 (MQ below (Qv E A h9) args s 0 0 A) (F0 m 16 ls []) := by
  intro n
  induction n with
  | zero =>
    intro x0 x1 x2 x3 x4 x5 h H locs ls hl S hf
    exact nomatch hf
  | succ n ih =>
    intro x0 x1 x2 x3 x4 x5 h H locs ls hl S hf
    exact wfX13_findSource_16 X hr hlk hnm ih x0 x1 x2 x3 x4 x5 h H locs ls hl S hf
def fX13_findSource (a0 : Nat) (a1 : Int32) (a2 : Int32) (a3 : Int32) (h : Hp) : Option (Hp) := gd 11 a0 h (ob (pI 11 a0 56 0 h) fun h => ob (pI 11 a0 57 0 h) fun h => lp (fun _ _ _ _ _ _ _ => none) (fX13_findSource_16) FU a0 a1 a2 a3 0 0 h)
theorem tkX13_findSource {a0 : Nat} {a1 : Int32} {a2 : Int32} {a3 : Int32} {h : Hp} {r9 : Hp} (e : fX13_findSource a0 a1 a2 a3 h = some r9) : hK h a0 = 11 := by
  unfold fX13_findSource at e
  exact (gd_some e).1
theorem cX13_findSource_m (l : Launch) {E : EE} {A : Nat → Prop} {a0 : Nat} {a1 : Int32} {a2 : Int32} {a3 : Int32} {h : Hp} {h9 : Hp} (hf : fX13_findSource a0 a1 a2 a3 h = some h9) : Met l yX13_findSource (wsM yX13_findSource cX13_findSource 10 none) (rmm 9 0 0) (PcE E A h [rv a0, .int a1, .int a2, .int a3]) (Qv E A h9) 0 0 A := by
  refine met_of (by decide +kernel) (by simp [lg_sl, cat_rv, cat_wv, cat_sv, cat_i, cat_l, cat_a]) (fun p e s m args below meth c ls X hr hlk hnm S hl => ?_)
  have hl : lv_has ls 10 [(0, rv a0), (1, .int a1), (2, .int a2), (3, .int a3)] := by simpa [lv_args, cat_rv, cat_wv, cat_sv, cat_i, cat_l, cat_a] using hl
  generalize hH : s.heap = H at S ⊢
  generalize hlo : ([] : List Loc) = locs at S ⊢
  clear hH hlo
  unfold fX13_findSource at hf
  obtain ⟨hth, hf⟩ := gd_some hf
  refine lv_iconst (v := 0) X.1 X.2.1 dX13_findSource_0 (by decide) ?_
  refine lv_istore (lv' := [(4, .int 0), (0, rv a0), (1, .int a1), (2, .int a2), (3, .int a3)]) X.1 X.2.1 dX13_findSource_1 hl (by decide) rfl (fun ls hl => ?_)
  refine g_aload_n X (or_rv _) dX13_findSource_3 rfl (lv_at hl 1 rfl) ?_
  refine lv_iconst (v := 0) X.1 X.2.1 dX13_findSource_4 (by decide) ?_
  refine g_pI X S fpX13_637 (Or.inl rfl) dX13_findSource_5 hf (fun h H locs hm hf S => ?_)
  refine g_aload_n X (or_rv _) dX13_findSource_8 rfl (lv_at hl 1 rfl) ?_
  refine lv_iconst (v := 0) X.1 X.2.1 dX13_findSource_9 (by decide) ?_
  refine g_pI X S fpX13_640 (Or.inl rfl) dX13_findSource_10 hf (fun h H locs hm hf S => ?_)
  refine lv_iconst (v := 0) X.1 X.2.1 dX13_findSource_13 (by decide) ?_
  refine lv_istore (lv' := [(5, .int 0), (4, .int 0), (0, rv a0), (1, .int a1), (2, .int a2), (3, .int a3)]) X.1 X.2.1 dX13_findSource_14 hl (by decide) rfl (fun ls hl => ?_)
  exact wfX13_findSource_16_l X hr hlk hnm FU _ _ _ _ _ _ _ _ _ _ (lv_sub hl [2, 3, 4, 5, 1, 0] rfl) S hf
def fX13_unedited_24 (x0 : Nat) (h : Hp) : Option (Int64 × Hp) := ob2 (fX13_fail x0 2 h) fun v1 h => some ((Int32.toInt64 v1), h)
theorem wfX13_unedited_24 {r9 : Int64} {h9 : Hp} (X : Cx p E A 11 R s m args c cX13_unedited yX13_unedited.cls 7) (hr : meth.sig.returnType = (some .long)) (hlk : meth.locks = false) (hnm : meth.name = yX13_unedited.name) :
    ∀ (x0 : Nat) (h : Hp) (H : Heap) (locs : List Loc) (ls : Array Slot), lv_has ls 7 [(0, rv x0)] → St E A s h H locs → fX13_unedited_24 x0 h = some (r9, h9) → W p l e R s m args below meth c H locs 0 0 (MQ below (Ql E A h9 r9) args s 0 0 A) (F0 m 24 ls []) := by
  intro x0 h H locs ls hl S hf
  unfold fX13_unedited_24 at hf
  refine g_aload_n X (or_rv _) dX13_unedited_24 rfl (lv_at hl 0 rfl) ?_
  refine lv_iconst (v := 2) X.1 X.2.1 dX13_unedited_25 (by decide) ?_
  obtain ⟨v1, h, hc, hf⟩ := ob2_some hf
  refine g_ci S (runV (As := [.int 2]) (rest := []) X S coX13_329 (by decide) (cX13_fail_m l hc) (tkX13_fail hc) rfl hl.1 (by decide) rfl ⟨Nat.zero_le _, Nat.zero_le _⟩ dX13_unedited_26) (fun H locs S => ?_)
  refine lv_i2l (v := Int32.toInt64 v1) X.1 X.2.1 dX13_unedited_29 rfl ?_
  cases hf; exact g_rl X S hr hlk dX13_unedited_30
def fX13_unedited (a0 : Nat) (a1 : Int32) (a2 : Int32) (a3 : Int32) (a4 : Int32) (h : Hp) : Option (Int64 × Hp) := gd 11 a0 h (ob (pI 11 a0 2 0 h) fun h => ob (fX13_isField a0 a1 a2 32 h) fun v1 => if v1 = 0 then fX13_unedited_24 a0 h else ob (fX13_isThere a3 a2) fun v3 => if v3 = 0 then fX13_unedited_24 a0 h else ob (fX13_tellWays a0 a1 a2 a3 h) fun h => ob (gR 11 a0 52 h) fun v6 => ob (fX13_wayAt a0 0 0 0 h) fun v7 => ob (aL v6 v7 h) fun v8 => ob (gR 11 a0 52 h) fun v9 => ob (fX13_wayAt a0 0 0 1 h) fun v10 => ob (aL v9 v10 h) fun v11 => lt (v8 + v11) fun z12 => if a4 = (-1) then some (z12, h) else if (lg_cmp z12 0) = 0 then ob2 (fX13_fail a0 1 h) fun v24 h => some ((Int32.toInt64 v24), h) else ob (fX13_findSource a0 a1 a2 a3 h) fun h => if a4 = (-2) then ob (gI 11 a0 57 h) fun v23 => some ((Int32.toInt64 v23), h) else ob (gI 11 a0 56 h) fun v17 => ob (fX13_isIn (Int32.toInt64 a4) 0 (Int32.toInt64 (v17 - 1))) fun v18 => if v18 = 0 then ob2 (fX13_fail a0 1 h) fun v20 h => some ((Int32.toInt64 v20), h) else ob (gR 11 a0 55 h) fun v21 => ob (aI v21 a4 h) fun v22 => some ((Int32.toInt64 v22), h))
theorem tkX13_unedited {a0 : Nat} {a1 : Int32} {a2 : Int32} {a3 : Int32} {a4 : Int32} {h : Hp} {r9 : Int64 × Hp} (e : fX13_unedited a0 a1 a2 a3 a4 h = some r9) : hK h a0 = 11 := by
  unfold fX13_unedited at e
  exact (gd_some e).1
theorem cX13_unedited_m (l : Launch) {E : EE} {A : Nat → Prop} {a0 : Nat} {a1 : Int32} {a2 : Int32} {a3 : Int32} {a4 : Int32} {h : Hp} {r9 : Int64} {h9 : Hp} (hf : fX13_unedited a0 a1 a2 a3 a4 h = some (r9, h9)) : Met l yX13_unedited (wsM yX13_unedited cX13_unedited 7 (some .long)) (rmm 11 0 0) (PcE E A h [rv a0, .int a1, .int a2, .int a3, .int a4]) (Ql E A h9 r9) 0 0 A := by
  refine met_of (by decide +kernel) (by simp [lg_sl, cat_rv, cat_wv, cat_sv, cat_i, cat_l, cat_a]) (fun p e s m args below meth c ls X hr hlk hnm S hl => ?_)
  have hl : lv_has ls 7 [(0, rv a0), (1, .int a1), (2, .int a2), (3, .int a3), (4, .int a4)] := by simpa [lv_args, cat_rv, cat_wv, cat_sv, cat_i, cat_l, cat_a] using hl
  generalize hH : s.heap = H at S ⊢
  generalize hlo : ([] : List Loc) = locs at S ⊢
  clear hH hlo
  unfold fX13_unedited at hf
  obtain ⟨hth, hf⟩ := gd_some hf
  refine g_aload_n X (or_rv _) dX13_unedited_0 rfl (lv_at hl 0 rfl) ?_
  refine lv_iconst (v := 0) X.1 X.2.1 dX13_unedited_1 (by decide) ?_
  refine g_pI X S fpX13_187 (Or.inl rfl) dX13_unedited_2 hf (fun h H locs hm hf S => ?_)
  refine g_aload_n X (or_rv _) dX13_unedited_5 rfl (lv_at hl 0 rfl) ?_
  refine lv_iload_n X.1 X.2.1 dX13_unedited_6 rfl (lv_at hl 1 rfl) ?_
  refine lv_iload_n X.1 X.2.1 dX13_unedited_7 rfl (lv_at hl 2 rfl) ?_
  refine lv_bipush (v := 32) X.1 X.2.1 dX13_unedited_8 (by decide) ?_
  obtain ⟨v1, hc, hf⟩ := ob_some hf
  refine g_ci S (runV (As := [.int a1, .int a2, .int 32]) (rest := []) X S coX13_603 (by decide) (cX13_isField_m l hc) (tkX13_isField hc) rfl hl.1 (by decide) rfl ⟨Nat.zero_le _, Nat.zero_le _⟩ dX13_unedited_10) (fun H locs S => ?_)
  refine lv_if_eq (tgt := 24) X.1 X.2.1 dX13_unedited_13 (by decide) (fun c2 => ?_) (fun c2 => ?_)
  · replace hf := (if_pos c2).symm.trans hf
    exact wfX13_unedited_24 X hr hlk hnm _ _ _ _ _ (lv_sub hl [0] rfl) S hf
  · replace hf := (if_neg c2).symm.trans hf
    refine lv_iload_n X.1 X.2.1 dX13_unedited_16 rfl (lv_at hl 3 rfl) ?_
    refine lv_iload_n X.1 X.2.1 dX13_unedited_17 rfl (lv_at hl 2 rfl) ?_
    obtain ⟨v3, hc, hf⟩ := ob_some hf
    refine g_ci S (runS (As := [.int a3, .int a2]) (rest := []) X S coX13_427 (by decide) (cX13_isThere_m l hc) rfl hl.1 (by decide) rfl ⟨Nat.zero_le _, Nat.zero_le _⟩ dX13_unedited_18) (fun H locs S => ?_)
    refine lv_if_ne (tgt := 31) X.1 X.2.1 dX13_unedited_21 (by decide) (fun c4 => ?_) (fun c4 => ?_)
    · replace hf := (if_neg c4).symm.trans hf
      refine g_aload_n X (or_rv _) dX13_unedited_31 rfl (lv_at hl 0 rfl) ?_
      refine lv_iload_n X.1 X.2.1 dX13_unedited_32 rfl (lv_at hl 1 rfl) ?_
      refine lv_iload_n X.1 X.2.1 dX13_unedited_33 rfl (lv_at hl 2 rfl) ?_
      refine lv_iload_n X.1 X.2.1 dX13_unedited_34 rfl (lv_at hl 3 rfl) ?_
      obtain ⟨h, hc, hf⟩ := ob_some hf
      refine g_cv S (runV (As := [.int a1, .int a2, .int a3]) (rest := []) X S coX13_643 (by decide) (cX13_tellWays_m l hc) (tkX13_tellWays hc) rfl hl.1 (by decide) rfl ⟨Nat.zero_le _, Nat.zero_le _⟩ dX13_unedited_35) (fun H locs S => ?_)
      refine g_aload_n X (or_rv _) dX13_unedited_38 rfl (lv_at hl 0 rfl) ?_
      refine g_gR X S foX13_142 dX13_unedited_39 hf (fun v6 hf => ?_)
      refine g_aload_n X (or_rv _) dX13_unedited_42 rfl (lv_at hl 0 rfl) ?_
      refine lv_iconst (v := 0) X.1 X.2.1 dX13_unedited_43 (by decide) ?_
      refine lv_iconst (v := 0) X.1 X.2.1 dX13_unedited_44 (by decide) ?_
      refine lv_iconst (v := 0) X.1 X.2.1 dX13_unedited_45 (by decide) ?_
      obtain ⟨v7, hc, hf⟩ := ob_some hf
      refine g_ci S (runV (As := [.int 0, .int 0, .int 0]) (rest := [rv v6]) X S coX13_621 (by decide) (cX13_wayAt_m l hc) (tkX13_wayAt hc) rfl hl.1 (by simp [cat_rv, cat_wv, cat_sv, cat_i, cat_l, cat_a]) rfl ⟨Nat.zero_le _, Nat.zero_le _⟩ dX13_unedited_46) (fun H locs S => ?_)
      refine g_aL X S dX13_unedited_49 hf (fun v8 hf => ?_)
      refine g_aload_n X (or_rv _) dX13_unedited_50 rfl (lv_at hl 0 rfl) ?_
      refine g_gR X S foX13_142 dX13_unedited_51 hf (fun v9 hf => ?_)
      refine g_aload_n X (or_rv _) dX13_unedited_54 rfl (lv_at hl 0 rfl) ?_
      refine lv_iconst (v := 0) X.1 X.2.1 dX13_unedited_55 (by decide) ?_
      refine lv_iconst (v := 0) X.1 X.2.1 dX13_unedited_56 (by decide) ?_
      refine lv_iconst (v := 1) X.1 X.2.1 dX13_unedited_57 (by decide) ?_
      obtain ⟨v10, hc, hf⟩ := ob_some hf
      refine g_ci S (runV (As := [.int 0, .int 0, .int 1]) (rest := [rv v9, .long v8]) X S coX13_621 (by decide) (cX13_wayAt_m l hc) (tkX13_wayAt hc) rfl hl.1 (by simp [cat_rv, cat_wv, cat_sv, cat_i, cat_l, cat_a]) rfl ⟨Nat.zero_le _, Nat.zero_le _⟩ dX13_unedited_58) (fun H locs S => ?_)
      refine g_aL X S dX13_unedited_61 hf (fun v11 hf => ?_)
      refine lv_ladd X.1 X.2.1 dX13_unedited_62 ?_
      refine g_ltl hf (fun z12 hf => ?_)
      refine lv_lstore (lv' := [(5, .long z12), (0, rv a0), (1, .int a1), (2, .int a2), (3, .int a3), (4, .int a4)]) X.1 X.2.1 dX13_unedited_63 hl (by decide) rfl (fun ls hl => ?_)
      refine lv_iload X.1 X.2.1 dX13_unedited_65 (lv_at hl 5 rfl) ?_
      refine lv_iconst (v := (-1)) X.1 X.2.1 dX13_unedited_67 (by decide) ?_
      refine lv_icmp_ne (tgt := 74) X.1 X.2.1 dX13_unedited_68 (by decide) (fun c13 => ?_) (fun c13 => ?_)
      · replace hf := (if_neg c13).symm.trans hf
        refine lv_lload X.1 X.2.1 dX13_unedited_74 (lv_at hl 0 rfl) ?_
        refine lv_lconst (v := 0) X.1 X.2.1 dX13_unedited_76 (by decide) ?_
        refine W.lcmp X.1 X.2.1 dX13_unedited_77 ?_
        refine lv_if_ne (tgt := 88) X.1 X.2.1 dX13_unedited_78 (by decide) (fun c14 => ?_) (fun c14 => ?_)
        · replace hf := (if_neg c14).symm.trans hf
          refine g_aload_n X (or_rv _) dX13_unedited_88 rfl (lv_at hl 1 rfl) ?_
          refine lv_iload_n X.1 X.2.1 dX13_unedited_89 rfl (lv_at hl 2 rfl) ?_
          refine lv_iload_n X.1 X.2.1 dX13_unedited_90 rfl (lv_at hl 3 rfl) ?_
          refine lv_iload_n X.1 X.2.1 dX13_unedited_91 rfl (lv_at hl 4 rfl) ?_
          obtain ⟨h, hc, hf⟩ := ob_some hf
          refine g_cv S (runV (As := [.int a1, .int a2, .int a3]) (rest := []) X S coX13_646 (by decide) (cX13_findSource_m l hc) (tkX13_findSource hc) rfl hl.1 (by decide) rfl ⟨Nat.zero_le _, Nat.zero_le _⟩ dX13_unedited_92) (fun H locs S => ?_)
          refine lv_iload X.1 X.2.1 dX13_unedited_95 (lv_at hl 5 rfl) ?_
          refine lv_bipush (v := (-2)) X.1 X.2.1 dX13_unedited_97 (by decide) ?_
          refine lv_icmp_ne (tgt := 110) X.1 X.2.1 dX13_unedited_99 (by decide) (fun c16 => ?_) (fun c16 => ?_)
          · replace hf := (if_neg c16).symm.trans hf
            refine lv_iload X.1 X.2.1 dX13_unedited_110 (lv_at hl 5 rfl) ?_
            refine lv_i2l (v := Int32.toInt64 a4) X.1 X.2.1 dX13_unedited_112 rfl ?_
            refine lv_lconst (v := 0) X.1 X.2.1 dX13_unedited_113 (by decide) ?_
            refine g_aload_n X (or_rv _) dX13_unedited_114 rfl (lv_at hl 1 rfl) ?_
            refine g_gI X S foX13_637 rfl dX13_unedited_115 hf (fun v17 hf => ?_)
            refine lv_iconst (v := 1) X.1 X.2.1 dX13_unedited_118 (by decide) ?_
            refine lv_isub X.1 X.2.1 dX13_unedited_119 ?_
            refine lv_i2l (v := Int32.toInt64 (v17 - 1)) X.1 X.2.1 dX13_unedited_120 rfl ?_
            obtain ⟨v18, hc, hf⟩ := ob_some hf
            refine g_ci S (runS (As := [.long (Int32.toInt64 a4), .long 0, .long (Int32.toInt64 (v17 - 1))]) (rest := []) X S coX13_287 (by decide) (cX13_isIn_m l hc) rfl hl.1 (by decide) rfl ⟨Nat.zero_le _, Nat.zero_le _⟩ dX13_unedited_121) (fun H locs S => ?_)
            refine lv_if_eq (tgt := 138) X.1 X.2.1 dX13_unedited_124 (by decide) (fun c19 => ?_) (fun c19 => ?_)
            · replace hf := (if_pos c19).symm.trans hf
              refine g_aload_n X (or_rv _) dX13_unedited_138 rfl (lv_at hl 1 rfl) ?_
              refine lv_iconst (v := 1) X.1 X.2.1 dX13_unedited_139 (by decide) ?_
              obtain ⟨v20, h, hc, hf⟩ := ob2_some hf
              refine g_ci S (runV (As := [.int 1]) (rest := []) X S coX13_329 (by decide) (cX13_fail_m l hc) (tkX13_fail hc) rfl hl.1 (by decide) rfl ⟨Nat.zero_le _, Nat.zero_le _⟩ dX13_unedited_140) (fun H locs S => ?_)
              refine lv_i2l (v := Int32.toInt64 v20) X.1 X.2.1 dX13_unedited_143 rfl ?_
              cases hf; exact g_rl X S hr hlk dX13_unedited_144
            · replace hf := (if_neg c19).symm.trans hf
              refine g_aload_n X (or_rv _) dX13_unedited_127 rfl (lv_at hl 1 rfl) ?_
              refine g_gR X S foX13_145 dX13_unedited_128 hf (fun v21 hf => ?_)
              refine lv_iload X.1 X.2.1 dX13_unedited_131 (lv_at hl 5 rfl) ?_
              refine g_aI X S dX13_unedited_133 hf (fun v22 hf => ?_)
              refine lv_i2l (v := Int32.toInt64 v22) X.1 X.2.1 dX13_unedited_134 rfl ?_
              refine lv_goto (tgt := 144) X.1 X.2.1 dX13_unedited_135 (by decide) ?_
              cases hf; exact g_rl X S hr hlk dX13_unedited_144
          · replace hf := (if_pos c16).symm.trans hf
            refine g_aload_n X (or_rv _) dX13_unedited_102 rfl (lv_at hl 1 rfl) ?_
            refine g_gI X S foX13_640 rfl dX13_unedited_103 hf (fun v23 hf => ?_)
            refine lv_i2l (v := Int32.toInt64 v23) X.1 X.2.1 dX13_unedited_106 rfl ?_
            refine lv_goto (tgt := 144) X.1 X.2.1 dX13_unedited_107 (by decide) ?_
            cases hf; exact g_rl X S hr hlk dX13_unedited_144
        · replace hf := (if_pos c14).symm.trans hf
          refine g_aload_n X (or_rv _) dX13_unedited_81 rfl (lv_at hl 1 rfl) ?_
          refine lv_iconst (v := 1) X.1 X.2.1 dX13_unedited_82 (by decide) ?_
          obtain ⟨v24, h, hc, hf⟩ := ob2_some hf
          refine g_ci S (runV (As := [.int 1]) (rest := []) X S coX13_329 (by decide) (cX13_fail_m l hc) (tkX13_fail hc) rfl hl.1 (by decide) rfl ⟨Nat.zero_le _, Nat.zero_le _⟩ dX13_unedited_83) (fun H locs S => ?_)
          refine lv_i2l (v := Int32.toInt64 v24) X.1 X.2.1 dX13_unedited_86 rfl ?_
          cases hf; exact g_rl X S hr hlk dX13_unedited_87
      · replace hf := (if_pos c13).symm.trans hf
        refine lv_lload X.1 X.2.1 dX13_unedited_71 (lv_at hl 0 rfl) ?_
        cases hf; exact g_rl X S hr hlk dX13_unedited_73
    · replace hf := (if_pos c4).symm.trans hf
      exact wfX13_unedited_24 X hr hlk hnm _ _ _ _ _ (lv_sub hl [0] rfl) S hf
def fX13_refuse (a0 : Nat) (a1 : Int32) (h : Hp) : Option (Int32 × Hp) := gd 11 a0 h (ob (gR 11 a0 4 h) fun v1 => ob (aI v1 a1 h) fun v2 => ob (qI v1 a1 (v2 + 1) h) fun h => some ((-1), h))
theorem tkX13_refuse {a0 : Nat} {a1 : Int32} {h : Hp} {r9 : Int32 × Hp} (e : fX13_refuse a0 a1 h = some r9) : hK h a0 = 11 := by
  unfold fX13_refuse at e
  exact (gd_some e).1
theorem cX13_refuse_m (l : Launch) {E : EE} {A : Nat → Prop} {a0 : Nat} {a1 : Int32} {h : Hp} {r9 : Int32} {h9 : Hp} (hf : fX13_refuse a0 a1 h = some (r9, h9)) : Met l yX13_refuse (wsM yX13_refuse cX13_refuse 2 (some .int)) (rmm 8 0 0) (PcE E A h [rv a0, .int a1]) (Qi E A h9 r9) 0 0 A := by
  refine met_of (by decide +kernel) (by simp [lg_sl, cat_rv, cat_wv, cat_sv, cat_i, cat_l, cat_a]) (fun p e s m args below meth c ls X hr hlk hnm S hl => ?_)
  have hl : lv_has ls 2 [(0, rv a0), (1, .int a1)] := by simpa [lv_args, cat_rv, cat_wv, cat_sv, cat_i, cat_l, cat_a] using hl
  generalize hH : s.heap = H at S ⊢
  generalize hlo : ([] : List Loc) = locs at S ⊢
  clear hH hlo
  unfold fX13_refuse at hf
  obtain ⟨hth, hf⟩ := gd_some hf
  refine g_aload_n X (or_rv _) dX13_refuse_0 rfl (lv_at hl 0 rfl) ?_
  refine g_gR X S foX13_80 dX13_refuse_1 hf (fun v1 hf => ?_)
  refine lv_iload_n X.1 X.2.1 dX13_refuse_4 rfl (lv_at hl 1 rfl) ?_
  refine lv_dup2_11 X.1 X.2.1 dX13_refuse_5 rfl (cat_rv _) ?_
  refine g_aI X S dX13_refuse_6 hf (fun v2 hf => ?_)
  refine lv_iconst (v := 1) X.1 X.2.1 dX13_refuse_7 (by decide) ?_
  refine lv_iadd X.1 X.2.1 dX13_refuse_8 ?_
  refine g_qI X S dX13_refuse_9 hf (fun h H locs hm hf S => ?_)
  refine lv_iconst (v := (-1)) X.1 X.2.1 dX13_refuse_10 (by decide) ?_
  cases hf; exact g_ri X S hr hlk dX13_refuse_11
def fX13_copyTo_2 (k2 : Nat → Nat → Int32 → Hp → Option (Hp)) (x0 : Nat) (x1 : Nat) (x2 : Int32) (h : Hp) : Option (Hp) := ob (aN 101 x0 h) fun v1 => if v1 ≤ x2 then some h else ob (aI x1 x2 h) fun v3 => ob (qI x0 x2 v3 h) fun h => lt (x2 + 1) fun z4 => k2 x0 x1 z4 h
theorem wfX13_copyTo_2 {k2 : Nat → Nat → Int32 → Hp → Option (Hp)} {h9 : Hp} (X : Cx p E A 8 R s m args c cX13_copyTo yX13_copyTo.cls 3) (hr : meth.sig.returnType = none) (hlk : meth.locks = false) (hnm : meth.name = yX13_copyTo.name) (hk2 : ∀ (x0 : Nat) (x1 : Nat) (x2 : Int32) (h : Hp) (H : Heap) (locs : List Loc) (ls : Array Slot), lv_has ls 3 [(0, rv x0), (1, rv x1), (2, .int x2)] → St E A s h H locs → k2 x0 x1 x2 h = some h9 → W p l e R s m args below meth c H locs 0 0 (MQ below (Qv E A h9) args s 0 0 A) (F0 m 2 ls [])) :
    ∀ (x0 : Nat) (x1 : Nat) (x2 : Int32) (h : Hp) (H : Heap) (locs : List Loc) (ls : Array Slot), lv_has ls 3 [(0, rv x0), (1, rv x1), (2, .int x2)] → St E A s h H locs → fX13_copyTo_2 k2 x0 x1 x2 h = some h9 → W p l e R s m args below meth c H locs 0 0 (MQ below (Qv E A h9) args s 0 0 A) (F0 m 2 ls []) := by
  intro x0 x1 x2 h H locs ls hl S hf
  unfold fX13_copyTo_2 at hf
  refine lv_iload_n X.1 X.2.1 dX13_copyTo_2 rfl (lv_at hl 2 rfl) ?_
  refine g_aload_n X (or_rv _) dX13_copyTo_3 rfl (lv_at hl 0 rfl) ?_
  refine g_aN X S (by decide) dX13_copyTo_4 hf (fun v1 hf => ?_)
  refine lv_icmp_ge (tgt := 20) X.1 X.2.1 dX13_copyTo_5 (by decide) (fun c2 => ?_) (fun c2 => ?_)
  · replace hf := (if_pos c2).symm.trans hf
    cases hf; exact g_rv X S hr hlk dX13_copyTo_20
  · replace hf := (if_neg c2).symm.trans hf
    refine g_aload_n X (or_rv _) dX13_copyTo_8 rfl (lv_at hl 0 rfl) ?_
    refine lv_iload_n X.1 X.2.1 dX13_copyTo_9 rfl (lv_at hl 2 rfl) ?_
    refine g_aload_n X (or_rv _) dX13_copyTo_10 rfl (lv_at hl 1 rfl) ?_
    refine lv_iload_n X.1 X.2.1 dX13_copyTo_11 rfl (lv_at hl 2 rfl) ?_
    refine g_aI X S dX13_copyTo_12 hf (fun v3 hf => ?_)
    refine g_qI X S dX13_copyTo_13 hf (fun h H locs hm hf S => ?_)
    obtain ⟨z4, ez4, hf⟩ := lt_some hf
    refine lv_iinc (v := z4) (lv' := [(2, .int z4), (0, rv x0), (1, rv x1)]) X.1 X.2.1 dX13_copyTo_14 hl (k := 2) rfl (by rw [← ez4]; rfl) (by decide) (by simp [List.filter, cat_rv, cat_wv, cat_sv]) (fun ls hl => ?_)
    refine lv_goto (tgt := 2) X.1 X.2.1 dX13_copyTo_17 (by decide) ?_
    exact hk2 _ _ _ _ _ _ _ (lv_sub hl [1, 2, 0] rfl) S hf
theorem wfX13_copyTo_2_l {h9 : Hp} (X : Cx p E A 8 R s m args c cX13_copyTo yX13_copyTo.cls 3) (hr : meth.sig.returnType = none) (hlk : meth.locks = false) (hnm : meth.name = yX13_copyTo.name) :
    ∀ (n : Nat) (x0 : Nat) (x1 : Nat) (x2 : Int32) (h : Hp) (H : Heap) (locs : List Loc) (ls : Array Slot), lv_has ls 3 [(0, rv x0), (1, rv x1), (2, .int x2)] → St E A s h H locs → lp (fun _ _ _ _ => none) (fX13_copyTo_2) n x0 x1 x2 h = some h9 → W p l e R s m args below meth c H locs 0 0 (MQ below (Qv E A h9) args s 0 0 A) (F0 m 2 ls []) := by
  intro n
  induction n with
  | zero =>
    intro x0 x1 x2 h H locs ls hl S hf
    exact nomatch hf
  | succ n ih =>
    intro x0 x1 x2 h H locs ls hl S hf
    exact wfX13_copyTo_2 X hr hlk hnm ih x0 x1 x2 h H locs ls hl S hf
def fX13_copyTo (a0 : Nat) (a1 : Nat) (h : Hp) : Option (Hp) := lp (fun _ _ _ _ => none) (fX13_copyTo_2) FU a0 a1 0 h
theorem cX13_copyTo_m (l : Launch) {E : EE} {A : Nat → Prop} {a0 : Nat} {a1 : Nat} {h : Hp} {h9 : Hp} (hf : fX13_copyTo a0 a1 h = some h9) : Met l yX13_copyTo (wsM yX13_copyTo cX13_copyTo 3 none) (rmm 8 0 0) (PcE E A h [rv a0, rv a1]) (Qv E A h9) 0 0 A := by
  refine met_of (by decide +kernel) (by simp [lg_sl, cat_rv, cat_wv, cat_sv, cat_i, cat_l, cat_a]) (fun p e s m args below meth c ls X hr hlk hnm S hl => ?_)
  have hl : lv_has ls 3 [(0, rv a0), (1, rv a1)] := by simpa [lv_args, cat_rv, cat_wv, cat_sv, cat_i, cat_l, cat_a] using hl
  generalize hH : s.heap = H at S ⊢
  generalize hlo : ([] : List Loc) = locs at S ⊢
  clear hH hlo
  unfold fX13_copyTo at hf
  refine lv_iconst (v := 0) X.1 X.2.1 dX13_copyTo_0 (by decide) ?_
  refine lv_istore_n (i := 2) (lv' := [(2, .int 0), (0, rv a0), (1, rv a1)]) X.1 X.2.1 dX13_copyTo_1 rfl hl (by decide) (by simp [List.filter, cat_rv, cat_wv, cat_sv]) (fun ls hl => ?_)
  exact wfX13_copyTo_2_l X hr hlk hnm FU _ _ _ _ _ _ _ (lv_sub hl [1, 2, 0] rfl) S hf
def fX13_keep_13 (k56 : Nat → Int32 → Hp → Option (Hp)) (k13 : Nat → Int32 → Hp → Option (Hp)) (x0 : Nat) (x1 : Int32) (h : Hp) : Option (Hp) := ob (gR 11 x0 60 h) fun v1 => ob (aN 101 v1 h) fun v2 => if v2 ≤ x1 then ob (gI 11 x0 58 h) fun v4 => ob (pI 11 x0 58 (v4 - 1) h) fun h => k56 x0 0 h else ob (gR 11 x0 60 h) fun v5 => ob (gR 11 x0 60 h) fun v6 => ob (aI v6 x1 h) fun v7 => ob (qI v5 (x1 - 414) v7 h) fun h => lt (x1 + 1) fun z8 => k13 x0 z8 h
theorem wfX13_keep_13 {k56 : Nat → Int32 → Hp → Option (Hp)} {k13 : Nat → Int32 → Hp → Option (Hp)} {h9 : Hp} (X : Cx p E A 8 R s m args c cX13_keep yX13_keep.cls 2) (hr : meth.sig.returnType = none) (hlk : meth.locks = false) (hnm : meth.name = yX13_keep.name) (hk56 : ∀ (x0 : Nat) (x1 : Int32) (h : Hp) (H : Heap) (locs : List Loc) (ls : Array Slot), lv_has ls 2 [(0, rv x0), (1, .int x1)] → St E A s h H locs → k56 x0 x1 h = some h9 → W p l e R s m args below meth c H locs 0 0 (MQ below (Qv E A h9) args s 0 0 A) (F0 m 56 ls [])) (hk13 : ∀ (x0 : Nat) (x1 : Int32) (h : Hp) (H : Heap) (locs : List Loc) (ls : Array Slot), lv_has ls 2 [(0, rv x0), (1, .int x1)] → St E A s h H locs → k13 x0 x1 h = some h9 → W p l e R s m args below meth c H locs 0 0 (MQ below (Qv E A h9) args s 0 0 A) (F0 m 13 ls [])) :
    ∀ (x0 : Nat) (x1 : Int32) (h : Hp) (H : Heap) (locs : List Loc) (ls : Array Slot), lv_has ls 2 [(0, rv x0), (1, .int x1)] → St E A s h H locs → fX13_keep_13 k56 k13 x0 x1 h = some h9 → W p l e R s m args below meth c H locs 0 0 (MQ below (Qv E A h9) args s 0 0 A) (F0 m 13 ls []) := by
  intro x0 x1 h H locs ls hl S hf
  unfold fX13_keep_13 at hf
  refine lv_iload_n X.1 X.2.1 dX13_keep_13 rfl (lv_at hl 1 rfl) ?_
  refine g_aload_n X (or_rv _) dX13_keep_14 rfl (lv_at hl 0 rfl) ?_
  refine g_gR X S foX13_148 dX13_keep_15 hf (fun v1 hf => ?_)
  refine g_aN X S (by decide) dX13_keep_18 hf (fun v2 hf => ?_)
  refine lv_icmp_ge (tgt := 44) X.1 X.2.1 dX13_keep_19 (by decide) (fun c3 => ?_) (fun c3 => ?_)
  · replace hf := (if_pos c3).symm.trans hf
    refine g_aload_n X (or_rv _) dX13_keep_44 rfl (lv_at hl 0 rfl) ?_
    refine lv_dup X.1 X.2.1 dX13_keep_45 (cat_rv _) ?_
    refine g_gI X S foX13_348 rfl dX13_keep_46 hf (fun v4 hf => ?_)
    refine lv_iconst (v := 1) X.1 X.2.1 dX13_keep_49 (by decide) ?_
    refine lv_isub X.1 X.2.1 dX13_keep_50 ?_
    refine g_pI X S fpX13_348 (Or.inl rfl) dX13_keep_51 hf (fun h H locs hm hf S => ?_)
    refine lv_iconst (v := 0) X.1 X.2.1 dX13_keep_54 (by decide) ?_
    refine lv_istore_n (i := 1) (lv' := [(1, .int 0), (0, rv x0)]) X.1 X.2.1 dX13_keep_55 rfl hl (by decide) (by simp [List.filter, cat_rv, cat_wv, cat_sv]) (fun ls hl => ?_)
    exact hk56 _ _ _ _ _ _ (lv_sub hl [1, 0] rfl) S hf
  · replace hf := (if_neg c3).symm.trans hf
    refine g_aload_n X (or_rv _) dX13_keep_22 rfl (lv_at hl 0 rfl) ?_
    refine g_gR X S foX13_148 dX13_keep_23 hf (fun v5 hf => ?_)
    refine lv_iload_n X.1 X.2.1 dX13_keep_26 rfl (lv_at hl 1 rfl) ?_
    refine lv_sipush (v := 414) X.1 X.2.1 dX13_keep_27 (by decide) ?_
    refine lv_isub X.1 X.2.1 dX13_keep_30 ?_
    refine g_aload_n X (or_rv _) dX13_keep_31 rfl (lv_at hl 0 rfl) ?_
    refine g_gR X S foX13_148 dX13_keep_32 hf (fun v6 hf => ?_)
    refine lv_iload_n X.1 X.2.1 dX13_keep_35 rfl (lv_at hl 1 rfl) ?_
    refine g_aI X S dX13_keep_36 hf (fun v7 hf => ?_)
    refine g_qI X S dX13_keep_37 hf (fun h H locs hm hf S => ?_)
    obtain ⟨z8, ez8, hf⟩ := lt_some hf
    refine lv_iinc (v := z8) (lv' := [(1, .int z8), (0, rv x0)]) X.1 X.2.1 dX13_keep_38 hl (k := 1) rfl (by rw [← ez8]; rfl) (by decide) (by simp [List.filter, cat_rv, cat_wv, cat_sv]) (fun ls hl => ?_)
    refine lv_goto (tgt := 13) X.1 X.2.1 dX13_keep_41 (by decide) ?_
    exact hk13 _ _ _ _ _ _ (lv_sub hl [1, 0] rfl) S hf
theorem wfX13_keep_13_l {k56 : Nat → Int32 → Hp → Option (Hp)} {h9 : Hp} (X : Cx p E A 8 R s m args c cX13_keep yX13_keep.cls 2) (hr : meth.sig.returnType = none) (hlk : meth.locks = false) (hnm : meth.name = yX13_keep.name) (hk56 : ∀ (x0 : Nat) (x1 : Int32) (h : Hp) (H : Heap) (locs : List Loc) (ls : Array Slot), lv_has ls 2 [(0, rv x0), (1, .int x1)] → St E A s h H locs → k56 x0 x1 h = some h9 → W p l e R s m args below meth c H locs 0 0 (MQ below (Qv E A h9) args s 0 0 A) (F0 m 56 ls [])) :
    ∀ (n : Nat) (x0 : Nat) (x1 : Int32) (h : Hp) (H : Heap) (locs : List Loc) (ls : Array Slot), lv_has ls 2 [(0, rv x0), (1, .int x1)] → St E A s h H locs → lp (fun _ _ _ => none) (fX13_keep_13 k56) n x0 x1 h = some h9 → W p l e R s m args below meth c H locs 0 0 (MQ below (Qv E A h9) args s 0 0 A) (F0 m 13 ls []) := by
  intro n
  induction n with
  | zero =>
    intro x0 x1 h H locs ls hl S hf
    exact nomatch hf
  | succ n ih =>
    intro x0 x1 h H locs ls hl S hf
    exact wfX13_keep_13 X hr hlk hnm hk56 ih x0 x1 h H locs ls hl S hf
def fX13_keep_56 (k56 : Nat → Int32 → Hp → Option (Hp)) (x0 : Nat) (x1 : Int32) (h : Hp) : Option (Hp) := if 414 ≤ x1 then ob (gI 11 x0 58 h) fun v2 => ob (pI 11 x0 58 (v2 + 1) h) fun h => some h else ob (gR 11 x0 60 h) fun v3 => ob (gI 11 x0 58 h) fun v4 => ob (gR 11 x0 3 h) fun v5 => ob (aI v5 x1 h) fun v6 => ob (qI v3 ((414 * v4) + x1) v6 h) fun h => lt (x1 + 1) fun z7 => k56 x0 z7 h
theorem wfX13_keep_56 {k56 : Nat → Int32 → Hp → Option (Hp)} {h9 : Hp} (X : Cx p E A 8 R s m args c cX13_keep yX13_keep.cls 2) (hr : meth.sig.returnType = none) (hlk : meth.locks = false) (hnm : meth.name = yX13_keep.name) (hk56 : ∀ (x0 : Nat) (x1 : Int32) (h : Hp) (H : Heap) (locs : List Loc) (ls : Array Slot), lv_has ls 2 [(0, rv x0), (1, .int x1)] → St E A s h H locs → k56 x0 x1 h = some h9 → W p l e R s m args below meth c H locs 0 0 (MQ below (Qv E A h9) args s 0 0 A) (F0 m 56 ls [])) :
    ∀ (x0 : Nat) (x1 : Int32) (h : Hp) (H : Heap) (locs : List Loc) (ls : Array Slot), lv_has ls 2 [(0, rv x0), (1, .int x1)] → St E A s h H locs → fX13_keep_56 k56 x0 x1 h = some h9 → W p l e R s m args below meth c H locs 0 0 (MQ below (Qv E A h9) args s 0 0 A) (F0 m 56 ls []) := by
  intro x0 x1 h H locs ls hl S hf
  unfold fX13_keep_56 at hf
  refine lv_iload_n X.1 X.2.1 dX13_keep_56 rfl (lv_at hl 1 rfl) ?_
  refine lv_sipush (v := 414) X.1 X.2.1 dX13_keep_57 (by decide) ?_
  refine lv_icmp_ge (tgt := 90) X.1 X.2.1 dX13_keep_60 (by decide) (fun c1 => ?_) (fun c1 => ?_)
  · replace hf := (if_pos c1).symm.trans hf
    refine g_aload_n X (or_rv _) dX13_keep_90 rfl (lv_at hl 0 rfl) ?_
    refine lv_dup X.1 X.2.1 dX13_keep_91 (cat_rv _) ?_
    refine g_gI X S foX13_348 rfl dX13_keep_92 hf (fun v2 hf => ?_)
    refine lv_iconst (v := 1) X.1 X.2.1 dX13_keep_95 (by decide) ?_
    refine lv_iadd X.1 X.2.1 dX13_keep_96 ?_
    refine g_pI X S fpX13_348 (Or.inl rfl) dX13_keep_97 hf (fun h H locs hm hf S => ?_)
    cases hf; exact g_rv X S hr hlk dX13_keep_100
  · replace hf := (if_neg c1).symm.trans hf
    refine g_aload_n X (or_rv _) dX13_keep_63 rfl (lv_at hl 0 rfl) ?_
    refine g_gR X S foX13_148 dX13_keep_64 hf (fun v3 hf => ?_)
    refine lv_sipush (v := 414) X.1 X.2.1 dX13_keep_67 (by decide) ?_
    refine g_aload_n X (or_rv _) dX13_keep_70 rfl (lv_at hl 0 rfl) ?_
    refine g_gI X S foX13_348 rfl dX13_keep_71 hf (fun v4 hf => ?_)
    refine lv_imul X.1 X.2.1 dX13_keep_74 ?_
    refine lv_iload_n X.1 X.2.1 dX13_keep_75 rfl (lv_at hl 1 rfl) ?_
    refine lv_iadd X.1 X.2.1 dX13_keep_76 ?_
    refine g_aload_n X (or_rv _) dX13_keep_77 rfl (lv_at hl 0 rfl) ?_
    refine g_gR X S foX13_76 dX13_keep_78 hf (fun v5 hf => ?_)
    refine lv_iload_n X.1 X.2.1 dX13_keep_81 rfl (lv_at hl 1 rfl) ?_
    refine g_aI X S dX13_keep_82 hf (fun v6 hf => ?_)
    refine g_qI X S dX13_keep_83 hf (fun h H locs hm hf S => ?_)
    obtain ⟨z7, ez7, hf⟩ := lt_some hf
    refine lv_iinc (v := z7) (lv' := [(1, .int z7), (0, rv x0)]) X.1 X.2.1 dX13_keep_84 hl (k := 1) rfl (by rw [← ez7]; rfl) (by decide) (by simp [List.filter, cat_rv, cat_wv, cat_sv]) (fun ls hl => ?_)
    refine lv_goto (tgt := 56) X.1 X.2.1 dX13_keep_87 (by decide) ?_
    exact hk56 _ _ _ _ _ _ (lv_sub hl [1, 0] rfl) S hf
theorem wfX13_keep_56_l {h9 : Hp} (X : Cx p E A 8 R s m args c cX13_keep yX13_keep.cls 2) (hr : meth.sig.returnType = none) (hlk : meth.locks = false) (hnm : meth.name = yX13_keep.name) :
    ∀ (n : Nat) (x0 : Nat) (x1 : Int32) (h : Hp) (H : Heap) (locs : List Loc) (ls : Array Slot), lv_has ls 2 [(0, rv x0), (1, .int x1)] → St E A s h H locs → lp (fun _ _ _ => none) (fX13_keep_56) n x0 x1 h = some h9 → W p l e R s m args below meth c H locs 0 0 (MQ below (Qv E A h9) args s 0 0 A) (F0 m 56 ls []) := by
  intro n
  induction n with
  | zero =>
    intro x0 x1 h H locs ls hl S hf
    exact nomatch hf
  | succ n ih =>
    intro x0 x1 h H locs ls hl S hf
    exact wfX13_keep_56 X hr hlk hnm ih x0 x1 h H locs ls hl S hf
def fX13_keep (a0 : Nat) (h : Hp) : Option (Hp) := gd 11 a0 h (ob (gI 11 a0 58 h) fun v1 => if v1 = 40 then lp (fun _ _ _ => none) (fX13_keep_13 (lp (fun _ _ _ => none) fX13_keep_56 FU)) FU a0 414 h else lp (fun _ _ _ => none) (fX13_keep_56) FU a0 0 h)
theorem tkX13_keep {a0 : Nat} {h : Hp} {r9 : Hp} (e : fX13_keep a0 h = some r9) : hK h a0 = 11 := by
  unfold fX13_keep at e
  exact (gd_some e).1
theorem cX13_keep_m (l : Launch) {E : EE} {A : Nat → Prop} {a0 : Nat} {h : Hp} {h9 : Hp} (hf : fX13_keep a0 h = some h9) : Met l yX13_keep (wsM yX13_keep cX13_keep 2 none) (rmm 8 0 0) (PcE E A h [rv a0]) (Qv E A h9) 0 0 A := by
  refine met_of (by decide +kernel) (by simp [lg_sl, cat_rv, cat_wv, cat_sv, cat_i, cat_l, cat_a]) (fun p e s m args below meth c ls X hr hlk hnm S hl => ?_)
  have hl : lv_has ls 2 [(0, rv a0)] := by simpa [lv_args, cat_rv, cat_wv, cat_sv, cat_i, cat_l, cat_a] using hl
  generalize hH : s.heap = H at S ⊢
  generalize hlo : ([] : List Loc) = locs at S ⊢
  clear hH hlo
  unfold fX13_keep at hf
  obtain ⟨hth, hf⟩ := gd_some hf
  refine g_aload_n X (or_rv _) dX13_keep_0 rfl (lv_at hl 0 rfl) ?_
  refine g_gI X S foX13_348 rfl dX13_keep_1 hf (fun v1 hf => ?_)
  refine lv_bipush (v := 40) X.1 X.2.1 dX13_keep_4 (by decide) ?_
  refine lv_icmp_ne (tgt := 54) X.1 X.2.1 dX13_keep_6 (by decide) (fun c2 => ?_) (fun c2 => ?_)
  · replace hf := (if_neg c2).symm.trans hf
    refine lv_iconst (v := 0) X.1 X.2.1 dX13_keep_54 (by decide) ?_
    refine lv_istore_n (i := 1) (lv' := [(1, .int 0), (0, rv a0)]) X.1 X.2.1 dX13_keep_55 rfl hl (by decide) (by simp [List.filter, cat_rv, cat_wv, cat_sv]) (fun ls hl => ?_)
    exact wfX13_keep_56_l X hr hlk hnm FU _ _ _ _ _ _ (lv_sub hl [1, 0] rfl) S hf
  · replace hf := (if_pos c2).symm.trans hf
    refine lv_sipush (v := 414) X.1 X.2.1 dX13_keep_9 (by decide) ?_
    refine lv_istore_n (i := 1) (lv' := [(1, .int 414), (0, rv a0)]) X.1 X.2.1 dX13_keep_12 rfl hl (by decide) (by simp [List.filter, cat_rv, cat_wv, cat_sv]) (fun ls hl => ?_)
    exact wfX13_keep_13_l X hr hlk hnm (wfX13_keep_56_l X hr hlk hnm FU) FU _ _ _ _ _ _ (lv_sub hl [1, 0] rfl) S hf
def fX13_steps_44 (x0 : Nat) (h : Hp) : Option (Int32 × Hp) := ob2 (fX13_refuse x0 1 h) fun v1 h => some (v1, h)
theorem wfX13_steps_44 {r9 : Int32} {h9 : Hp} (X : Cx p E A 17 R s m args c cX13_steps yX13_steps.cls 3) (hr : meth.sig.returnType = (some .int)) (hlk : meth.locks = false) (hnm : meth.name = yX13_steps.name) :
    ∀ (x0 : Nat) (h : Hp) (H : Heap) (locs : List Loc) (ls : Array Slot), lv_has ls 3 [(0, rv x0)] → St E A s h H locs → fX13_steps_44 x0 h = some (r9, h9) → W p l e R s m args below meth c H locs 0 0 (MQ below (Qi E A h9 r9) args s 0 0 A) (F0 m 44 ls []) := by
  intro x0 h H locs ls hl S hf
  unfold fX13_steps_44 at hf
  refine g_aload_n X (or_rv _) dX13_steps_44 rfl (lv_at hl 0 rfl) ?_
  refine lv_iconst (v := 1) X.1 X.2.1 dX13_steps_45 (by decide) ?_
  obtain ⟨v1, h, hc, hf⟩ := ob2_some hf
  refine g_ci S (runV (As := [.int 1]) (rest := []) X S coX13_651 (by decide) (cX13_refuse_m l hc) (tkX13_refuse hc) rfl hl.1 (by decide) rfl ⟨Nat.zero_le _, Nat.zero_le _⟩ dX13_steps_46) (fun H locs S => ?_)
  cases hf; exact g_ri X S hr hlk dX13_steps_49
def fX13_steps (a0 : Nat) (a1 : Int32) (h : Hp) : Option (Int32 × Hp) := gd 11 a0 h (ob (pI 11 a0 2 0 h) fun h => ob (gR 11 a0 3 h) fun v1 => ob (aI v1 276 h) fun v2 => if v2 = 0 then ob (fX13_isIn (Int32.toInt64 a1) 1 50) fun v4 => if v4 = 0 then fX13_steps_44 a0 h else ob (gR 11 a0 3 h) fun v6 => ob (aI v6 277 h) fun v7 => if (v7 + a1) ≤ 20000 then ob (fX13_keep a0 h) fun h => ob (gR 11 a0 3 h) fun v10 => ob (aI v10 277 h) fun v11 => ob (fX13_goOn a0 a1 h) fun h => ob (gR 11 a0 3 h) fun v13 => ob (aI v13 277 h) fun v14 => some ((v14 - v11), h) else fX13_steps_44 a0 h else fX13_steps_44 a0 h)
theorem tkX13_steps {a0 : Nat} {a1 : Int32} {h : Hp} {r9 : Int32 × Hp} (e : fX13_steps a0 a1 h = some r9) : hK h a0 = 11 := by
  unfold fX13_steps at e
  exact (gd_some e).1
theorem cX13_steps_m (l : Launch) {E : EE} {A : Nat → Prop} {a0 : Nat} {a1 : Int32} {h : Hp} {r9 : Int32} {h9 : Hp} (hf : fX13_steps a0 a1 h = some (r9, h9)) : Met l yX13_steps (wsM yX13_steps cX13_steps 3 (some .int)) (rmm 17 0 0) (PcE E A h [rv a0, .int a1]) (Qi E A h9 r9) 0 0 A := by
  refine met_of (by decide +kernel) (by simp [lg_sl, cat_rv, cat_wv, cat_sv, cat_i, cat_l, cat_a]) (fun p e s m args below meth c ls X hr hlk hnm S hl => ?_)
  have hl : lv_has ls 3 [(0, rv a0), (1, .int a1)] := by simpa [lv_args, cat_rv, cat_wv, cat_sv, cat_i, cat_l, cat_a] using hl
  generalize hH : s.heap = H at S ⊢
  generalize hlo : ([] : List Loc) = locs at S ⊢
  clear hH hlo
  unfold fX13_steps at hf
  obtain ⟨hth, hf⟩ := gd_some hf
  refine g_aload_n X (or_rv _) dX13_steps_0 rfl (lv_at hl 0 rfl) ?_
  refine lv_iconst (v := 0) X.1 X.2.1 dX13_steps_1 (by decide) ?_
  refine g_pI X S fpX13_187 (Or.inl rfl) dX13_steps_2 hf (fun h H locs hm hf S => ?_)
  refine g_aload_n X (or_rv _) dX13_steps_5 rfl (lv_at hl 0 rfl) ?_
  refine g_gR X S foX13_76 dX13_steps_6 hf (fun v1 hf => ?_)
  refine lv_sipush (v := 276) X.1 X.2.1 dX13_steps_9 (by decide) ?_
  refine g_aI X S dX13_steps_12 hf (fun v2 hf => ?_)
  refine lv_if_ne (tgt := 44) X.1 X.2.1 dX13_steps_13 (by decide) (fun c3 => ?_) (fun c3 => ?_)
  · replace hf := (if_neg c3).symm.trans hf
    exact wfX13_steps_44 X hr hlk hnm _ _ _ _ _ (lv_sub hl [0] rfl) S hf
  · replace hf := (if_pos c3).symm.trans hf
    refine lv_iload_n X.1 X.2.1 dX13_steps_16 rfl (lv_at hl 1 rfl) ?_
    refine lv_i2l (v := Int32.toInt64 a1) X.1 X.2.1 dX13_steps_17 rfl ?_
    refine lv_lconst (v := 1) X.1 X.2.1 dX13_steps_18 (by decide) ?_
    refine lv_ldc2 X.1 X.2.1 X.2.2.2.1 (X.2.2.1 _ kuX13_649) dX13_steps_19 ?_
    obtain ⟨v4, hc, hf⟩ := ob_some hf
    refine g_ci S (runS (As := [.long (Int32.toInt64 a1), .long 1, .long 50]) (rest := []) X S coX13_287 (by decide) (cX13_isIn_m l hc) rfl hl.1 (by decide) rfl ⟨Nat.zero_le _, Nat.zero_le _⟩ dX13_steps_22) (fun H locs S => ?_)
    refine lv_if_eq (tgt := 44) X.1 X.2.1 dX13_steps_25 (by decide) (fun c5 => ?_) (fun c5 => ?_)
    · replace hf := (if_pos c5).symm.trans hf
      exact wfX13_steps_44 X hr hlk hnm _ _ _ _ _ (lv_sub hl [0] rfl) S hf
    · replace hf := (if_neg c5).symm.trans hf
      refine g_aload_n X (or_rv _) dX13_steps_28 rfl (lv_at hl 0 rfl) ?_
      refine g_gR X S foX13_76 dX13_steps_29 hf (fun v6 hf => ?_)
      refine lv_sipush (v := 277) X.1 X.2.1 dX13_steps_32 (by decide) ?_
      refine g_aI X S dX13_steps_35 hf (fun v7 hf => ?_)
      refine lv_iload_n X.1 X.2.1 dX13_steps_36 rfl (lv_at hl 1 rfl) ?_
      refine lv_iadd X.1 X.2.1 dX13_steps_37 ?_
      refine lv_sipush (v := 20000) X.1 X.2.1 dX13_steps_38 (by decide) ?_
      refine lv_icmp_le (tgt := 50) X.1 X.2.1 dX13_steps_41 (by decide) (fun c8 => ?_) (fun c8 => ?_)
      · replace hf := (if_pos c8).symm.trans hf
        refine g_aload_n X (or_rv _) dX13_steps_50 rfl (lv_at hl 0 rfl) ?_
        obtain ⟨h, hc, hf⟩ := ob_some hf
        refine g_cv S (runV (As := []) (rest := []) X S coX13_654 (by decide) (cX13_keep_m l hc) (tkX13_keep hc) rfl hl.1 (by decide) rfl ⟨Nat.zero_le _, Nat.zero_le _⟩ dX13_steps_51) (fun H locs S => ?_)
        refine g_aload_n X (or_rv _) dX13_steps_54 rfl (lv_at hl 0 rfl) ?_
        refine g_gR X S foX13_76 dX13_steps_55 hf (fun v10 hf => ?_)
        refine lv_sipush (v := 277) X.1 X.2.1 dX13_steps_58 (by decide) ?_
        refine g_aI X S dX13_steps_61 hf (fun v11 hf => ?_)
        refine lv_istore_n (i := 2) (lv' := [(2, .int v11), (0, rv a0), (1, .int a1)]) X.1 X.2.1 dX13_steps_62 rfl hl (by decide) rfl (fun ls hl => ?_)
        refine g_aload_n X (or_rv _) dX13_steps_63 rfl (lv_at hl 1 rfl) ?_
        refine lv_iload_n X.1 X.2.1 dX13_steps_64 rfl (lv_at hl 2 rfl) ?_
        obtain ⟨h, hc, hf⟩ := ob_some hf
        refine g_cv S (runV (As := [.int a1]) (rest := []) X S coX13_657 (by decide) (cX13_goOn_m l hc) (tkX13_goOn hc) rfl hl.1 (by decide) rfl ⟨Nat.zero_le _, Nat.zero_le _⟩ dX13_steps_65) (fun H locs S => ?_)
        refine g_aload_n X (or_rv _) dX13_steps_68 rfl (lv_at hl 1 rfl) ?_
        refine g_gR X S foX13_76 dX13_steps_69 hf (fun v13 hf => ?_)
        refine lv_sipush (v := 277) X.1 X.2.1 dX13_steps_72 (by decide) ?_
        refine g_aI X S dX13_steps_75 hf (fun v14 hf => ?_)
        refine lv_iload_n X.1 X.2.1 dX13_steps_76 rfl (lv_at hl 0 rfl) ?_
        refine lv_isub X.1 X.2.1 dX13_steps_77 ?_
        cases hf; exact g_ri X S hr hlk dX13_steps_78
      · replace hf := (if_neg c8).symm.trans hf
        exact wfX13_steps_44 X hr hlk hnm _ _ _ _ _ (lv_sub hl [0] rfl) S hf
def fX13_lay_39 (x0 : Nat) (h : Hp) : Option (Int32 × Hp) := ob2 (fX13_refuse x0 1 h) fun v1 h => some (v1, h)
theorem wfX13_lay_39 {r9 : Int32} {h9 : Hp} (X : Cx p E A 9 R s m args c cX13_lay yX13_lay.cls 4) (hr : meth.sig.returnType = (some .int)) (hlk : meth.locks = false) (hnm : meth.name = yX13_lay.name) :
    ∀ (x0 : Nat) (h : Hp) (H : Heap) (locs : List Loc) (ls : Array Slot), lv_has ls 4 [(0, rv x0)] → St E A s h H locs → fX13_lay_39 x0 h = some (r9, h9) → W p l e R s m args below meth c H locs 0 0 (MQ below (Qi E A h9 r9) args s 0 0 A) (F0 m 39 ls []) := by
  intro x0 h H locs ls hl S hf
  unfold fX13_lay_39 at hf
  refine g_aload_n X (or_rv _) dX13_lay_39 rfl (lv_at hl 0 rfl) ?_
  refine lv_iconst (v := 1) X.1 X.2.1 dX13_lay_40 (by decide) ?_
  obtain ⟨v1, h, hc, hf⟩ := ob2_some hf
  refine g_ci S (runV (As := [.int 1]) (rest := []) X S coX13_651 (by decide) (cX13_refuse_m l hc) (tkX13_refuse hc) rfl hl.1 (by decide) rfl ⟨Nat.zero_le _, Nat.zero_le _⟩ dX13_lay_41) (fun H locs S => ?_)
  cases hf; exact g_ri X S hr hlk dX13_lay_44
def fX13_lay (a0 : Nat) (a1 : Int32) (a2 : Int32) (h : Hp) : Option (Int32 × Hp) := gd 11 a0 h (ob (pI 11 a0 2 0 h) fun h => ob (fX13_isIn (Int32.toInt64 a1) 0 255) fun v1 => if v1 = 0 then fX13_lay_39 a0 h else ob (fX13_isIn (Int32.toInt64 a2) 0 255) fun v3 => if v3 = 0 then fX13_lay_39 a0 h else ob (gR 11 a0 3 h) fun v5 => ob (aI v5 a1 h) fun v6 => if v6 = a2 then fX13_lay_39 a0 h else ob (fX13_keep a0 h) fun h => ob (gR 11 a0 3 h) fun v9 => ob (aI v9 a1 h) fun v10 => ob (gR 11 a0 3 h) fun v11 => ob (qI v11 a1 a2 h) fun h => some (v10, h))
theorem tkX13_lay {a0 : Nat} {a1 : Int32} {a2 : Int32} {h : Hp} {r9 : Int32 × Hp} (e : fX13_lay a0 a1 a2 h = some r9) : hK h a0 = 11 := by
  unfold fX13_lay at e
  exact (gd_some e).1
theorem cX13_lay_m (l : Launch) {E : EE} {A : Nat → Prop} {a0 : Nat} {a1 : Int32} {a2 : Int32} {h : Hp} {r9 : Int32} {h9 : Hp} (hf : fX13_lay a0 a1 a2 h = some (r9, h9)) : Met l yX13_lay (wsM yX13_lay cX13_lay 4 (some .int)) (rmm 9 0 0) (PcE E A h [rv a0, .int a1, .int a2]) (Qi E A h9 r9) 0 0 A := by
  refine met_of (by decide +kernel) (by simp [lg_sl, cat_rv, cat_wv, cat_sv, cat_i, cat_l, cat_a]) (fun p e s m args below meth c ls X hr hlk hnm S hl => ?_)
  have hl : lv_has ls 4 [(0, rv a0), (1, .int a1), (2, .int a2)] := by simpa [lv_args, cat_rv, cat_wv, cat_sv, cat_i, cat_l, cat_a] using hl
  generalize hH : s.heap = H at S ⊢
  generalize hlo : ([] : List Loc) = locs at S ⊢
  clear hH hlo
  unfold fX13_lay at hf
  obtain ⟨hth, hf⟩ := gd_some hf
  refine g_aload_n X (or_rv _) dX13_lay_0 rfl (lv_at hl 0 rfl) ?_
  refine lv_iconst (v := 0) X.1 X.2.1 dX13_lay_1 (by decide) ?_
  refine g_pI X S fpX13_187 (Or.inl rfl) dX13_lay_2 hf (fun h H locs hm hf S => ?_)
  refine lv_iload_n X.1 X.2.1 dX13_lay_5 rfl (lv_at hl 1 rfl) ?_
  refine lv_i2l (v := Int32.toInt64 a1) X.1 X.2.1 dX13_lay_6 rfl ?_
  refine lv_lconst (v := 0) X.1 X.2.1 dX13_lay_7 (by decide) ?_
  refine lv_ldc2 X.1 X.2.1 X.2.2.2.1 (X.2.2.1 _ kuX13_593) dX13_lay_8 ?_
  obtain ⟨v1, hc, hf⟩ := ob_some hf
  refine g_ci S (runS (As := [.long (Int32.toInt64 a1), .long 0, .long 255]) (rest := []) X S coX13_287 (by decide) (cX13_isIn_m l hc) rfl hl.1 (by decide) rfl ⟨Nat.zero_le _, Nat.zero_le _⟩ dX13_lay_11) (fun H locs S => ?_)
  refine lv_if_eq (tgt := 39) X.1 X.2.1 dX13_lay_14 (by decide) (fun c2 => ?_) (fun c2 => ?_)
  · replace hf := (if_pos c2).symm.trans hf
    exact wfX13_lay_39 X hr hlk hnm _ _ _ _ _ (lv_sub hl [0] rfl) S hf
  · replace hf := (if_neg c2).symm.trans hf
    refine lv_iload_n X.1 X.2.1 dX13_lay_17 rfl (lv_at hl 2 rfl) ?_
    refine lv_i2l (v := Int32.toInt64 a2) X.1 X.2.1 dX13_lay_18 rfl ?_
    refine lv_lconst (v := 0) X.1 X.2.1 dX13_lay_19 (by decide) ?_
    refine lv_ldc2 X.1 X.2.1 X.2.2.2.1 (X.2.2.1 _ kuX13_593) dX13_lay_20 ?_
    obtain ⟨v3, hc, hf⟩ := ob_some hf
    refine g_ci S (runS (As := [.long (Int32.toInt64 a2), .long 0, .long 255]) (rest := []) X S coX13_287 (by decide) (cX13_isIn_m l hc) rfl hl.1 (by decide) rfl ⟨Nat.zero_le _, Nat.zero_le _⟩ dX13_lay_23) (fun H locs S => ?_)
    refine lv_if_eq (tgt := 39) X.1 X.2.1 dX13_lay_26 (by decide) (fun c4 => ?_) (fun c4 => ?_)
    · replace hf := (if_pos c4).symm.trans hf
      exact wfX13_lay_39 X hr hlk hnm _ _ _ _ _ (lv_sub hl [0] rfl) S hf
    · replace hf := (if_neg c4).symm.trans hf
      refine g_aload_n X (or_rv _) dX13_lay_29 rfl (lv_at hl 0 rfl) ?_
      refine g_gR X S foX13_76 dX13_lay_30 hf (fun v5 hf => ?_)
      refine lv_iload_n X.1 X.2.1 dX13_lay_33 rfl (lv_at hl 1 rfl) ?_
      refine g_aI X S dX13_lay_34 hf (fun v6 hf => ?_)
      refine lv_iload_n X.1 X.2.1 dX13_lay_35 rfl (lv_at hl 2 rfl) ?_
      refine lv_icmp_ne (tgt := 45) X.1 X.2.1 dX13_lay_36 (by decide) (fun c7 => ?_) (fun c7 => ?_)
      · replace hf := (if_neg c7).symm.trans hf
        refine g_aload_n X (or_rv _) dX13_lay_45 rfl (lv_at hl 0 rfl) ?_
        obtain ⟨h, hc, hf⟩ := ob_some hf
        refine g_cv S (runV (As := []) (rest := []) X S coX13_654 (by decide) (cX13_keep_m l hc) (tkX13_keep hc) rfl hl.1 (by decide) rfl ⟨Nat.zero_le _, Nat.zero_le _⟩ dX13_lay_46) (fun H locs S => ?_)
        refine g_aload_n X (or_rv _) dX13_lay_49 rfl (lv_at hl 0 rfl) ?_
        refine g_gR X S foX13_76 dX13_lay_50 hf (fun v9 hf => ?_)
        refine lv_iload_n X.1 X.2.1 dX13_lay_53 rfl (lv_at hl 1 rfl) ?_
        refine g_aI X S dX13_lay_54 hf (fun v10 hf => ?_)
        refine lv_istore_n (i := 3) (lv' := [(3, .int v10), (0, rv a0), (1, .int a1), (2, .int a2)]) X.1 X.2.1 dX13_lay_55 rfl hl (by decide) rfl (fun ls hl => ?_)
        refine g_aload_n X (or_rv _) dX13_lay_56 rfl (lv_at hl 1 rfl) ?_
        refine g_gR X S foX13_76 dX13_lay_57 hf (fun v11 hf => ?_)
        refine lv_iload_n X.1 X.2.1 dX13_lay_60 rfl (lv_at hl 2 rfl) ?_
        refine lv_iload_n X.1 X.2.1 dX13_lay_61 rfl (lv_at hl 3 rfl) ?_
        refine g_qI X S dX13_lay_62 hf (fun h H locs hm hf S => ?_)
        refine lv_iload_n X.1 X.2.1 dX13_lay_63 rfl (lv_at hl 0 rfl) ?_
        cases hf; exact g_ri X S hr hlk dX13_lay_64
      · replace hf := (if_pos c7).symm.trans hf
        exact wfX13_lay_39 X hr hlk hnm _ _ _ _ _ (lv_sub hl [0] rfl) S hf
def fX13_set_31 (x0 : Nat) (h : Hp) : Option (Int32 × Hp) := ob2 (fX13_refuse x0 1 h) fun v1 h => some (0, h)
theorem wfX13_set_31 {r9 : Int32} {h9 : Hp} (X : Cx p E A 9 R s m args c cX13_set yX13_set.cls 3) (hr : meth.sig.returnType = (some .boolean)) (hlk : meth.locks = false) (hnm : meth.name = yX13_set.name) :
    ∀ (x0 : Nat) (h : Hp) (H : Heap) (locs : List Loc) (ls : Array Slot), lv_has ls 3 [(0, rv x0)] → St E A s h H locs → fX13_set_31 x0 h = some (r9, h9) → W p l e R s m args below meth c H locs 0 0 (MQ below (Qi E A h9 r9) args s 0 0 A) (F0 m 31 ls []) := by
  intro x0 h H locs ls hl S hf
  unfold fX13_set_31 at hf
  refine g_aload_n X (or_rv _) dX13_set_31 rfl (lv_at hl 0 rfl) ?_
  refine lv_iconst (v := 1) X.1 X.2.1 dX13_set_32 (by decide) ?_
  obtain ⟨v1, h, hc, hf⟩ := ob2_some hf
  refine g_ci S (runV (As := [.int 1]) (rest := []) X S coX13_651 (by decide) (cX13_refuse_m l hc) (tkX13_refuse hc) rfl hl.1 (by decide) rfl ⟨Nat.zero_le _, Nat.zero_le _⟩ dX13_set_33) (fun H locs S => ?_)
  refine lv_pop X.1 X.2.1 dX13_set_36 rfl ?_
  refine lv_iconst (v := 0) X.1 X.2.1 dX13_set_37 (by decide) ?_
  cases hf; exact g_rz X S hr hlk (by decide) dX13_set_38
def fX13_set (a0 : Nat) (a1 : Int32) (a2 : Int32) (h : Hp) : Option (Int32 × Hp) := gd 11 a0 h (ob (pI 11 a0 2 0 h) fun h => ob (fX13_isIn (Int32.toInt64 a1) 0 7) fun v1 => if v1 = 0 then fX13_set_31 a0 h else ob (gR 11 a0 3 h) fun v3 => ob (aI v3 (256 + a1) h) fun v4 => if v4 = a2 then fX13_set_31 a0 h else ob (fX13_keep a0 h) fun h => ob (gR 11 a0 3 h) fun v7 => ob (qI v7 (256 + a1) a2 h) fun h => some (1, h))
theorem tkX13_set {a0 : Nat} {a1 : Int32} {a2 : Int32} {h : Hp} {r9 : Int32 × Hp} (e : fX13_set a0 a1 a2 h = some r9) : hK h a0 = 11 := by
  unfold fX13_set at e
  exact (gd_some e).1
theorem cX13_set_m (l : Launch) {E : EE} {A : Nat → Prop} {a0 : Nat} {a1 : Int32} {a2 : Int32} {h : Hp} {r9 : Int32} {h9 : Hp} (hf : fX13_set a0 a1 a2 h = some (r9, h9)) : Met l yX13_set (wsM yX13_set cX13_set 3 (some .boolean)) (rmm 9 0 0) (PcE E A h [rv a0, .int a1, .int a2]) (Qi E A h9 r9) 0 0 A := by
  refine met_of (by decide +kernel) (by simp [lg_sl, cat_rv, cat_wv, cat_sv, cat_i, cat_l, cat_a]) (fun p e s m args below meth c ls X hr hlk hnm S hl => ?_)
  have hl : lv_has ls 3 [(0, rv a0), (1, .int a1), (2, .int a2)] := by simpa [lv_args, cat_rv, cat_wv, cat_sv, cat_i, cat_l, cat_a] using hl
  generalize hH : s.heap = H at S ⊢
  generalize hlo : ([] : List Loc) = locs at S ⊢
  clear hH hlo
  unfold fX13_set at hf
  obtain ⟨hth, hf⟩ := gd_some hf
  refine g_aload_n X (or_rv _) dX13_set_0 rfl (lv_at hl 0 rfl) ?_
  refine lv_iconst (v := 0) X.1 X.2.1 dX13_set_1 (by decide) ?_
  refine g_pI X S fpX13_187 (Or.inl rfl) dX13_set_2 hf (fun h H locs hm hf S => ?_)
  refine lv_iload_n X.1 X.2.1 dX13_set_5 rfl (lv_at hl 1 rfl) ?_
  refine lv_i2l (v := Int32.toInt64 a1) X.1 X.2.1 dX13_set_6 rfl ?_
  refine lv_lconst (v := 0) X.1 X.2.1 dX13_set_7 (by decide) ?_
  refine lv_ldc2 X.1 X.2.1 X.2.2.2.1 (X.2.2.1 _ kuX13_595) dX13_set_8 ?_
  obtain ⟨v1, hc, hf⟩ := ob_some hf
  refine g_ci S (runS (As := [.long (Int32.toInt64 a1), .long 0, .long 7]) (rest := []) X S coX13_287 (by decide) (cX13_isIn_m l hc) rfl hl.1 (by decide) rfl ⟨Nat.zero_le _, Nat.zero_le _⟩ dX13_set_11) (fun H locs S => ?_)
  refine lv_if_eq (tgt := 31) X.1 X.2.1 dX13_set_14 (by decide) (fun c2 => ?_) (fun c2 => ?_)
  · replace hf := (if_pos c2).symm.trans hf
    exact wfX13_set_31 X hr hlk hnm _ _ _ _ _ (lv_sub hl [0] rfl) S hf
  · replace hf := (if_neg c2).symm.trans hf
    refine g_aload_n X (or_rv _) dX13_set_17 rfl (lv_at hl 0 rfl) ?_
    refine g_gR X S foX13_76 dX13_set_18 hf (fun v3 hf => ?_)
    refine lv_sipush (v := 256) X.1 X.2.1 dX13_set_21 (by decide) ?_
    refine lv_iload_n X.1 X.2.1 dX13_set_24 rfl (lv_at hl 1 rfl) ?_
    refine lv_iadd X.1 X.2.1 dX13_set_25 ?_
    refine g_aI X S dX13_set_26 hf (fun v4 hf => ?_)
    refine lv_iload_n X.1 X.2.1 dX13_set_27 rfl (lv_at hl 2 rfl) ?_
    refine lv_icmp_ne (tgt := 39) X.1 X.2.1 dX13_set_28 (by decide) (fun c5 => ?_) (fun c5 => ?_)
    · replace hf := (if_neg c5).symm.trans hf
      refine g_aload_n X (or_rv _) dX13_set_39 rfl (lv_at hl 0 rfl) ?_
      obtain ⟨h, hc, hf⟩ := ob_some hf
      refine g_cv S (runV (As := []) (rest := []) X S coX13_654 (by decide) (cX13_keep_m l hc) (tkX13_keep hc) rfl hl.1 (by decide) rfl ⟨Nat.zero_le _, Nat.zero_le _⟩ dX13_set_40) (fun H locs S => ?_)
      refine g_aload_n X (or_rv _) dX13_set_43 rfl (lv_at hl 0 rfl) ?_
      refine g_gR X S foX13_76 dX13_set_44 hf (fun v7 hf => ?_)
      refine lv_sipush (v := 256) X.1 X.2.1 dX13_set_47 (by decide) ?_
      refine lv_iload_n X.1 X.2.1 dX13_set_50 rfl (lv_at hl 1 rfl) ?_
      refine lv_iadd X.1 X.2.1 dX13_set_51 ?_
      refine lv_iload_n X.1 X.2.1 dX13_set_52 rfl (lv_at hl 2 rfl) ?_
      refine g_qI X S dX13_set_53 hf (fun h H locs hm hf S => ?_)
      refine lv_iconst (v := 1) X.1 X.2.1 dX13_set_54 (by decide) ?_
      cases hf; exact g_rz X S hr hlk (by decide) dX13_set_55
    · replace hf := (if_pos c5).symm.trans hf
      exact wfX13_set_31 X hr hlk hnm _ _ _ _ _ (lv_sub hl [0] rfl) S hf
def fX13_next_58 (x0 : Nat) (y0 : Int32) (y1 : Int32) (y2 : Nat) (h : Hp) : Option (Int32 × Hp) := ob (qI y2 y1 y0 h) fun h => ob (gR 11 x0 3 h) fun v1 => ob (aI v1 276 h) fun v2 => some (v2, h)
theorem wfX13_next_58 {r9 : Int32} {h9 : Hp} (X : Cx p E A 9 R s m args c cX13_next yX13_next.cls 2) (hr : meth.sig.returnType = (some .int)) (hlk : meth.locks = false) (hnm : meth.name = yX13_next.name) :
    ∀ (x0 : Nat) (y0 : Int32) (y1 : Int32) (y2 : Nat) (h : Hp) (H : Heap) (locs : List Loc) (ls : Array Slot), lv_has ls 2 [(0, rv x0)] → St E A s h H locs → fX13_next_58 x0 y0 y1 y2 h = some (r9, h9) → W p l e R s m args below meth c H locs 0 0 (MQ below (Qi E A h9 r9) args s 0 0 A) (F0 m 58 ls [.int y0, .int y1, rv y2]) := by
  intro x0 y0 y1 y2 h H locs ls hl S hf
  unfold fX13_next_58 at hf
  refine g_qI X S dX13_next_58 hf (fun h H locs hm hf S => ?_)
  refine g_aload_n X (or_rv _) dX13_next_59 rfl (lv_at hl 0 rfl) ?_
  refine g_gR X S foX13_76 dX13_next_60 hf (fun v1 hf => ?_)
  refine lv_sipush (v := 276) X.1 X.2.1 dX13_next_63 (by decide) ?_
  refine g_aI X S dX13_next_66 hf (fun v2 hf => ?_)
  cases hf; exact g_ri X S hr hlk dX13_next_67
def fX13_next (a0 : Nat) (a1 : Int32) (h : Hp) : Option (Int32 × Hp) := gd 11 a0 h (ob (pI 11 a0 2 0 h) fun h => ob (gI 11 a0 13 h) fun v1 => ob (fX13_isIn (Int32.toInt64 a1) 0 (Int32.toInt64 v1)) fun v2 => if v2 = 0 then ob2 (fX13_refuse a0 1 h) fun v9 h => some (v9, h) else ob (fX13_keep a0 h) fun h => ob (gR 11 a0 3 h) fun v5 => ob (qI v5 265 a1 h) fun h => ob (gR 11 a0 3 h) fun v6 => ob (gI 11 a0 13 h) fun v7 => if a1 = v7 then fX13_next_58 a0 1 276 v6 h else fX13_next_58 a0 0 276 v6 h)
theorem tkX13_next {a0 : Nat} {a1 : Int32} {h : Hp} {r9 : Int32 × Hp} (e : fX13_next a0 a1 h = some r9) : hK h a0 = 11 := by
  unfold fX13_next at e
  exact (gd_some e).1
theorem cX13_next_m (l : Launch) {E : EE} {A : Nat → Prop} {a0 : Nat} {a1 : Int32} {h : Hp} {r9 : Int32} {h9 : Hp} (hf : fX13_next a0 a1 h = some (r9, h9)) : Met l yX13_next (wsM yX13_next cX13_next 2 (some .int)) (rmm 9 0 0) (PcE E A h [rv a0, .int a1]) (Qi E A h9 r9) 0 0 A := by
  refine met_of (by decide +kernel) (by simp [lg_sl, cat_rv, cat_wv, cat_sv, cat_i, cat_l, cat_a]) (fun p e s m args below meth c ls X hr hlk hnm S hl => ?_)
  have hl : lv_has ls 2 [(0, rv a0), (1, .int a1)] := by simpa [lv_args, cat_rv, cat_wv, cat_sv, cat_i, cat_l, cat_a] using hl
  generalize hH : s.heap = H at S ⊢
  generalize hlo : ([] : List Loc) = locs at S ⊢
  clear hH hlo
  unfold fX13_next at hf
  obtain ⟨hth, hf⟩ := gd_some hf
  refine g_aload_n X (or_rv _) dX13_next_0 rfl (lv_at hl 0 rfl) ?_
  refine lv_iconst (v := 0) X.1 X.2.1 dX13_next_1 (by decide) ?_
  refine g_pI X S fpX13_187 (Or.inl rfl) dX13_next_2 hf (fun h H locs hm hf S => ?_)
  refine lv_iload_n X.1 X.2.1 dX13_next_5 rfl (lv_at hl 1 rfl) ?_
  refine lv_i2l (v := Int32.toInt64 a1) X.1 X.2.1 dX13_next_6 rfl ?_
  refine lv_lconst (v := 0) X.1 X.2.1 dX13_next_7 (by decide) ?_
  refine g_aload_n X (or_rv _) dX13_next_8 rfl (lv_at hl 0 rfl) ?_
  refine g_gI X S foX13_345 rfl dX13_next_9 hf (fun v1 hf => ?_)
  refine lv_i2l (v := Int32.toInt64 v1) X.1 X.2.1 dX13_next_12 rfl ?_
  obtain ⟨v2, hc, hf⟩ := ob_some hf
  refine g_ci S (runS (As := [.long (Int32.toInt64 a1), .long 0, .long (Int32.toInt64 v1)]) (rest := []) X S coX13_287 (by decide) (cX13_isIn_m l hc) rfl hl.1 (by decide) rfl ⟨Nat.zero_le _, Nat.zero_le _⟩ dX13_next_13) (fun H locs S => ?_)
  refine lv_if_ne (tgt := 25) X.1 X.2.1 dX13_next_16 (by decide) (fun c3 => ?_) (fun c3 => ?_)
  · replace hf := (if_neg c3).symm.trans hf
    refine g_aload_n X (or_rv _) dX13_next_25 rfl (lv_at hl 0 rfl) ?_
    obtain ⟨h, hc, hf⟩ := ob_some hf
    refine g_cv S (runV (As := []) (rest := []) X S coX13_654 (by decide) (cX13_keep_m l hc) (tkX13_keep hc) rfl hl.1 (by decide) rfl ⟨Nat.zero_le _, Nat.zero_le _⟩ dX13_next_26) (fun H locs S => ?_)
    refine g_aload_n X (or_rv _) dX13_next_29 rfl (lv_at hl 0 rfl) ?_
    refine g_gR X S foX13_76 dX13_next_30 hf (fun v5 hf => ?_)
    refine lv_sipush (v := 265) X.1 X.2.1 dX13_next_33 (by decide) ?_
    refine lv_iload_n X.1 X.2.1 dX13_next_36 rfl (lv_at hl 1 rfl) ?_
    refine g_qI X S dX13_next_37 hf (fun h H locs hm hf S => ?_)
    refine g_aload_n X (or_rv _) dX13_next_38 rfl (lv_at hl 0 rfl) ?_
    refine g_gR X S foX13_76 dX13_next_39 hf (fun v6 hf => ?_)
    refine lv_sipush (v := 276) X.1 X.2.1 dX13_next_42 (by decide) ?_
    refine lv_iload_n X.1 X.2.1 dX13_next_45 rfl (lv_at hl 1 rfl) ?_
    refine g_aload_n X (or_rv _) dX13_next_46 rfl (lv_at hl 0 rfl) ?_
    refine g_gI X S foX13_345 rfl dX13_next_47 hf (fun v7 hf => ?_)
    refine lv_icmp_ne (tgt := 57) X.1 X.2.1 dX13_next_50 (by decide) (fun c8 => ?_) (fun c8 => ?_)
    · replace hf := (if_neg c8).symm.trans hf
      refine lv_iconst (v := 0) X.1 X.2.1 dX13_next_57 (by decide) ?_
      exact wfX13_next_58 X hr hlk hnm _ _ _ _ _ _ _ _ (lv_sub hl [0] rfl) S hf
    · replace hf := (if_pos c8).symm.trans hf
      refine lv_iconst (v := 1) X.1 X.2.1 dX13_next_53 (by decide) ?_
      refine lv_goto (tgt := 58) X.1 X.2.1 dX13_next_54 (by decide) ?_
      exact wfX13_next_58 X hr hlk hnm _ _ _ _ _ _ _ _ (lv_sub hl [0] rfl) S hf
  · replace hf := (if_pos c3).symm.trans hf
    refine g_aload_n X (or_rv _) dX13_next_19 rfl (lv_at hl 0 rfl) ?_
    refine lv_iconst (v := 1) X.1 X.2.1 dX13_next_20 (by decide) ?_
    obtain ⟨v9, h, hc, hf⟩ := ob2_some hf
    refine g_ci S (runV (As := [.int 1]) (rest := []) X S coX13_651 (by decide) (cX13_refuse_m l hc) (tkX13_refuse hc) rfl hl.1 (by decide) rfl ⟨Nat.zero_le _, Nat.zero_le _⟩ dX13_next_21) (fun H locs S => ?_)
    cases hf; exact g_ri X S hr hlk dX13_next_24
def fX13_begin (a0 : Nat) (h : Hp) : Option (Int32 × Hp) := gd 11 a0 h (ob (pI 11 a0 2 0 h) fun h => ob (fX13_keep a0 h) fun h => ob (fX13_beginNow a0 h) fun h => ob (gR 11 a0 3 h) fun v3 => ob (aI v3 276 h) fun v4 => some (v4, h))
theorem tkX13_begin {a0 : Nat} {h : Hp} {r9 : Int32 × Hp} (e : fX13_begin a0 h = some r9) : hK h a0 = 11 := by
  unfold fX13_begin at e
  exact (gd_some e).1
theorem cX13_begin_m (l : Launch) {E : EE} {A : Nat → Prop} {a0 : Nat} {h : Hp} {r9 : Int32} {h9 : Hp} (hf : fX13_begin a0 h = some (r9, h9)) : Met l yX13_begin (wsM yX13_begin cX13_begin 1 (some .int)) (rmm 9 0 0) (PcE E A h [rv a0]) (Qi E A h9 r9) 0 0 A := by
  refine met_of (by decide +kernel) (by simp [lg_sl, cat_rv, cat_wv, cat_sv, cat_i, cat_l, cat_a]) (fun p e s m args below meth c ls X hr hlk hnm S hl => ?_)
  have hl : lv_has ls 1 [(0, rv a0)] := by simpa [lv_args, cat_rv, cat_wv, cat_sv, cat_i, cat_l, cat_a] using hl
  generalize hH : s.heap = H at S ⊢
  generalize hlo : ([] : List Loc) = locs at S ⊢
  clear hH hlo
  unfold fX13_begin at hf
  obtain ⟨hth, hf⟩ := gd_some hf
  refine g_aload_n X (or_rv _) dX13_begin_0 rfl (lv_at hl 0 rfl) ?_
  refine lv_iconst (v := 0) X.1 X.2.1 dX13_begin_1 (by decide) ?_
  refine g_pI X S fpX13_187 (Or.inl rfl) dX13_begin_2 hf (fun h H locs hm hf S => ?_)
  refine g_aload_n X (or_rv _) dX13_begin_5 rfl (lv_at hl 0 rfl) ?_
  obtain ⟨h, hc, hf⟩ := ob_some hf
  refine g_cv S (runV (As := []) (rest := []) X S coX13_654 (by decide) (cX13_keep_m l hc) (tkX13_keep hc) rfl hl.1 (by decide) rfl ⟨Nat.zero_le _, Nat.zero_le _⟩ dX13_begin_6) (fun H locs S => ?_)
  refine g_aload_n X (or_rv _) dX13_begin_9 rfl (lv_at hl 0 rfl) ?_
  obtain ⟨h, hc, hf⟩ := ob_some hf
  refine g_cv S (runV (As := []) (rest := []) X S coX13_184 (by decide) (cX13_beginNow_m l hc) (tkX13_beginNow hc) rfl hl.1 (by decide) rfl ⟨Nat.zero_le _, Nat.zero_le _⟩ dX13_begin_10) (fun H locs S => ?_)
  refine g_aload_n X (or_rv _) dX13_begin_13 rfl (lv_at hl 0 rfl) ?_
  refine g_gR X S foX13_76 dX13_begin_14 hf (fun v3 hf => ?_)
  refine lv_sipush (v := 276) X.1 X.2.1 dX13_begin_17 (by decide) ?_
  refine g_aI X S dX13_begin_20 hf (fun v4 hf => ?_)
  cases hf; exact g_ri X S hr hlk dX13_begin_21
end GM
