section GR
variable {p : Program} {l : Launch} {e : Env} {R : Room} {s : State} {m : MethodId} {args : Array Value} {below : List Frame} {meth : Method} {c : Code} {H : Heap} {locs : List Loc} {cells slots : Nat} {Q : State → Prop}
variable {cc : ByteArray} {pc : Nat} {ls : Array Slot} {rest : List Value} {E : EE} {A : Nat → Prop} {h : Hp} {own : String} {nL DD : Nat}
variable {y : MethodName} {b : ByteArray} {maxL n index D mc ms : Nat} {ret : Option FieldType} {Qc : Array Value → State → Outcome → State → Prop} {As st : List Value} {a ci : Nat}
theorem dJx29ce0_ordinal_8abf5_0 : decode cJx29ce0_ordinal_8abf5 0 = .ok (.aload_n 0, 1) := by decide +kernel
theorem dJx29ce0_ordinal_8abf5_1 : decode cJx29ce0_ordinal_8abf5 1 = .ok (.getfield 7, 3) := by decide +kernel
theorem dJx29ce0_ordinal_8abf5_4 : decode cJx29ce0_ordinal_8abf5 4 = .ok (.ireturn, 1) := by decide +kernel
theorem dJ0_length_8abf5_0 : decode cJ0_length_8abf5 0 = .ok (.aload_n 0, 1) := by decide +kernel
theorem dJ0_length_8abf5_1 : decode cJ0_length_8abf5 1 = .ok (.getfield 9, 3) := by decide +kernel
theorem dJ0_length_8abf5_4 : decode cJ0_length_8abf5 4 = .ok (.arraylength, 1) := by decide +kernel
theorem dJ0_length_8abf5_5 : decode cJ0_length_8abf5 5 = .ok (.aload_n 0, 1) := by decide +kernel
theorem dJ0_length_8abf5_6 : decode cJ0_length_8abf5 6 = .ok (.invokevirtual 335, 3) := by decide +kernel
theorem dJ0_length_8abf5_9 : decode cJ0_length_8abf5 9 = .ok (.ishr, 1) := by decide +kernel
theorem dJ0_length_8abf5_10 : decode cJ0_length_8abf5 10 = .ok (.ireturn, 1) := by decide +kernel
theorem dJ0_charAt_5068e_0 : decode cJ0_charAt_5068e 0 = .ok (.aload_n 0, 1) := by decide +kernel
theorem dJ0_charAt_5068e_1 : decode cJ0_charAt_5068e 1 = .ok (.invokevirtual 492, 3) := by decide +kernel
theorem dJ0_charAt_5068e_4 : decode cJ0_charAt_5068e 4 = .ok (.ifCond .eq 12, 3) := by decide +kernel
theorem dJ0_charAt_5068e_7 : decode cJ0_charAt_5068e 7 = .ok (.aload_n 0, 1) := by decide +kernel
theorem dJ0_charAt_5068e_8 : decode cJ0_charAt_5068e 8 = .ok (.getfield 9, 3) := by decide +kernel
theorem dJ0_charAt_5068e_11 : decode cJ0_charAt_5068e 11 = .ok (.iload_n 1, 1) := by decide +kernel
theorem dJ0_charAt_5068e_12 : decode cJ0_charAt_5068e 12 = .ok (.invokestatic 495, 3) := by decide +kernel
theorem dJ0_charAt_5068e_15 : decode cJ0_charAt_5068e 15 = .ok (.ireturn, 1) := by decide +kernel
theorem dJ0_charAt_5068e_16 : decode cJ0_charAt_5068e 16 = .ok (.aload_n 0, 1) := by decide +kernel
theorem dJ0_charAt_5068e_17 : decode cJ0_charAt_5068e 17 = .ok (.getfield 9, 3) := by decide +kernel
theorem dJ0_charAt_5068e_20 : decode cJ0_charAt_5068e 20 = .ok (.iload_n 1, 1) := by decide +kernel
theorem dJ0_charAt_5068e_21 : decode cJ0_charAt_5068e 21 = .ok (.invokestatic 498, 3) := by decide +kernel
theorem dJ0_charAt_5068e_24 : decode cJ0_charAt_5068e 24 = .ok (.ireturn, 1) := by decide +kernel
theorem dJ0_coder_7d493_0 : decode cJ0_coder_7d493 0 = .ok (.getstatic 38, 3) := by decide +kernel
theorem dJ0_coder_7d493_3 : decode cJ0_coder_7d493 3 = .ok (.ifCond .eq 10, 3) := by decide +kernel
theorem dJ0_coder_7d493_6 : decode cJ0_coder_7d493 6 = .ok (.aload_n 0, 1) := by decide +kernel
theorem dJ0_coder_7d493_7 : decode cJ0_coder_7d493 7 = .ok (.getfield 15, 3) := by decide +kernel
theorem dJ0_coder_7d493_10 : decode cJ0_coder_7d493 10 = .ok (.goto 4, 3) := by decide +kernel
theorem dJ0_coder_7d493_13 : decode cJ0_coder_7d493 13 = .ok (.iconst 1, 1) := by decide +kernel
theorem dJ0_coder_7d493_14 : decode cJ0_coder_7d493 14 = .ok (.ireturn, 1) := by decide +kernel
theorem dJ0_isLatin1_aae02_0 : decode cJ0_isLatin1_aae02 0 = .ok (.getstatic 38, 3) := by decide +kernel
theorem dJ0_isLatin1_aae02_3 : decode cJ0_isLatin1_aae02 3 = .ok (.ifCond .eq 14, 3) := by decide +kernel
theorem dJ0_isLatin1_aae02_6 : decode cJ0_isLatin1_aae02 6 = .ok (.aload_n 0, 1) := by decide +kernel
theorem dJ0_isLatin1_aae02_7 : decode cJ0_isLatin1_aae02 7 = .ok (.getfield 15, 3) := by decide +kernel
theorem dJ0_isLatin1_aae02_10 : decode cJ0_isLatin1_aae02 10 = .ok (.ifCond .ne 7, 3) := by decide +kernel
theorem dJ0_isLatin1_aae02_13 : decode cJ0_isLatin1_aae02 13 = .ok (.iconst 1, 1) := by decide +kernel
theorem dJ0_isLatin1_aae02_14 : decode cJ0_isLatin1_aae02 14 = .ok (.goto 4, 3) := by decide +kernel
theorem dJ0_isLatin1_aae02_17 : decode cJ0_isLatin1_aae02 17 = .ok (.iconst 0, 1) := by decide +kernel
theorem dJ0_isLatin1_aae02_18 : decode cJ0_isLatin1_aae02 18 = .ok (.ireturn, 1) := by decide +kernel
theorem dJ0_checkIndex_df160_0 : decode cJ0_checkIndex_df160 0 = .ok (.iload_n 0, 1) := by decide +kernel
theorem dJ0_checkIndex_df160_1 : decode cJ0_checkIndex_df160 1 = .ok (.iload_n 1, 1) := by decide +kernel
theorem dJ0_checkIndex_df160_2 : decode cJ0_checkIndex_df160 2 = .ok (.getstatic 1053, 3) := by decide +kernel
theorem dJ0_checkIndex_df160_5 : decode cJ0_checkIndex_df160 5 = .ok (.invokestatic 1059, 3) := by decide +kernel
theorem dJ0_checkIndex_df160_8 : decode cJ0_checkIndex_df160 8 = .ok (.pop, 1) := by decide +kernel
theorem dJ0_checkIndex_df160_9 : decode cJ0_checkIndex_df160 9 = .ok (.return_, 1) := by decide +kernel
theorem dJ1_charAt_3b067_0 : decode cJ1_charAt_3b067 0 = .ok (.iload_n 1, 1) := by decide +kernel
theorem dJ1_charAt_3b067_1 : decode cJ1_charAt_3b067 1 = .ok (.aload_n 0, 1) := by decide +kernel
theorem dJ1_charAt_3b067_2 : decode cJ1_charAt_3b067 2 = .ok (.arraylength, 1) := by decide +kernel
theorem dJ1_charAt_3b067_3 : decode cJ1_charAt_3b067 3 = .ok (.invokestatic 9, 3) := by decide +kernel
theorem dJ1_charAt_3b067_6 : decode cJ1_charAt_3b067 6 = .ok (.aload_n 0, 1) := by decide +kernel
theorem dJ1_charAt_3b067_7 : decode cJ1_charAt_3b067 7 = .ok (.iload_n 1, 1) := by decide +kernel
theorem dJ1_charAt_3b067_8 : decode cJ1_charAt_3b067 8 = .ok (.baload, 1) := by decide +kernel
theorem dJ1_charAt_3b067_9 : decode cJ1_charAt_3b067 9 = .ok (.sipush 255, 3) := by decide +kernel
theorem dJ1_charAt_3b067_12 : decode cJ1_charAt_3b067 12 = .ok (.iand, 1) := by decide +kernel
theorem dJ1_charAt_3b067_13 : decode cJ1_charAt_3b067 13 = .ok (.i2c, 1) := by decide +kernel
theorem dJ1_charAt_3b067_14 : decode cJ1_charAt_3b067 14 = .ok (.ireturn, 1) := by decide +kernel
theorem dJ3_checkIndex_8e157_0 : decode cJ3_checkIndex_8e157 0 = .ok (.iload_n 0, 1) := by decide +kernel
theorem dJ3_checkIndex_8e157_1 : decode cJ3_checkIndex_8e157 1 = .ok (.ifCond .lt 8, 3) := by decide +kernel
theorem dJ3_checkIndex_8e157_4 : decode cJ3_checkIndex_8e157 4 = .ok (.iload_n 0, 1) := by decide +kernel
theorem dJ3_checkIndex_8e157_5 : decode cJ3_checkIndex_8e157 5 = .ok (.iload_n 1, 1) := by decide +kernel
theorem dJ3_checkIndex_8e157_6 : decode cJ3_checkIndex_8e157 6 = .ok (.if_icmp .lt 10, 3) := by decide +kernel
theorem dJ3_checkIndex_8e157_9 : decode cJ3_checkIndex_8e157 9 = .ok (.aload_n 2, 1) := by decide +kernel
theorem dJ3_checkIndex_8e157_10 : decode cJ3_checkIndex_8e157 10 = .ok (.iload_n 0, 1) := by decide +kernel
theorem dJ3_checkIndex_8e157_11 : decode cJ3_checkIndex_8e157 11 = .ok (.iload_n 1, 1) := by decide +kernel
theorem dJ3_checkIndex_8e157_12 : decode cJ3_checkIndex_8e157 12 = .ok (.invokestatic 95, 3) := by decide +kernel
theorem dJ3_checkIndex_8e157_15 : decode cJ3_checkIndex_8e157 15 = .ok (.athrow, 1) := by decide +kernel
theorem dJ3_checkIndex_8e157_16 : decode cJ3_checkIndex_8e157 16 = .ok (.iload_n 0, 1) := by decide +kernel
theorem dJ3_checkIndex_8e157_17 : decode cJ3_checkIndex_8e157 17 = .ok (.ireturn, 1) := by decide +kernel
theorem kc_cod : CO RJ0 335 yJ0_coder_7d493 cJ0_coder_7d493 1 (some .byte) 0 := ⟨(uw_4 229 rfl rfl), (uw_4 232 rfl rfl), (uw_1 19 rfl rfl), by decide, by decide +kernel, by decide⟩
theorem kc_lat : CO RJ0 492 yJ0_isLatin1_aae02 cJ0_isLatin1_aae02 1 (some .boolean) 0 := ⟨(uw_4 239 rfl rfl), (uw_5 2 rfl rfl), (uw_1 19 rfl rfl), by decide, by decide +kernel, by decide⟩
theorem kc_ch1 : CO RJ0 495 yJ1_charAt_3b067 cJ1_charAt_3b067 2 (some .char) 2 := ⟨(uw_5 3 rfl rfl), (uw_5 5 rfl rfl), (uw_1 20 rfl rfl), by decide, by decide +kernel, by decide⟩
theorem kc_chk : CO RJ1 9 yJ0_checkIndex_df160 cJ0_checkIndex_df160 2 none 2 := ⟨(uw_5 6 rfl rfl), (uw_5 8 rfl rfl), (uw_1 19 rfl rfl), by decide, by decide +kernel, by decide⟩
theorem kc_pre : CO RJ0 1059 yJ3_checkIndex_8e157 cJ3_checkIndex_8e157 3 (some .int) 3 := ⟨(uw_5 11 rfl rfl), (uw_5 13 rfl rfl), (uw_1 21 rfl rfl), by decide, by decide +kernel, by decide⟩
theorem ki_cod : Cond.instanceMethod yJ0_coder_7d493 ∈ UW ∧ Cond.selects "java/lang/String" yJ0_coder_7d493 yJ0_coder_7d493 ∈ UW := ⟨(uw_4 230 rfl rfl), (uw_4 231 rfl rfl)⟩
theorem ki_lat : Cond.instanceMethod yJ0_isLatin1_aae02 ∈ UW ∧ Cond.selects "java/lang/String" yJ0_isLatin1_aae02 yJ0_isLatin1_aae02 ∈ UW := ⟨(uw_5 0 rfl rfl), (uw_5 1 rfl rfl)⟩
theorem ki_len : Cond.instanceMethod yJ0_length_8abf5 ∈ UW ∧ Cond.selects "java/lang/String" yJ0_length_8abf5 yJ0_length_8abf5 ∈ UW := ⟨(uw_4 226 rfl rfl), (uw_4 227 rfl rfl)⟩
theorem ki_cha : Cond.instanceMethod yJ0_charAt_5068e ∈ UW ∧ Cond.selects "java/lang/String" yJ0_charAt_5068e yJ0_charAt_5068e ∈ UW := ⟨(uw_4 236 rfl rfl), (uw_4 237 rfl rfl)⟩
theorem ks_ch1 : Cond.static yJ1_charAt_3b067 ∈ UW := (uw_5 4 rfl rfl)
theorem ks_chk : Cond.static yJ0_checkIndex_df160 ∈ UW := (uw_5 7 rfl rfl)
theorem ks_pre : Cond.static yJ3_checkIndex_8e157 ∈ UW := (uw_5 12 rfl rfl)
theorem kf_val : Cond.fieldLink RJ0 9 "java/lang/String" "value" "[B" ∈ UW := (uw_10 186 rfl rfl)
theorem kf_cod : Cond.fieldLink RJ0 15 "java/lang/String" "coder" "B" ∈ UW := (uw_10 187 rfl rfl)
theorem kf_cmp : Cond.fieldLink RJ0 38 "java/lang/String" "COMPACT_STRINGS" "Z" ∈ UW := (uw_4 233 rfl rfl)
theorem kf_sio : Cond.fieldLink RJ0 1053 "jdk/internal/util/Preconditions" "SIOOBE_FORMATTER" "Ljava/util/function/BiFunction;" ∈ UW := (uw_5 9 rfl rfl)
theorem kf_ord : Cond.fieldLink RJx29ce0 7 "java/lang/Enum" "ordinal" "I" ∈ UW := (uw_10 190 rfl rfl)
theorem ko_same : Cond.sameMethod "NibbleEngine$Word" "java/lang/Enum" "ordinal" "()I" ∈ UW := (uw_3 7 rfl rfl)
theorem ko_sel : Cond.selects "NibbleEngine$Word" ⟨"NibbleEngine$Word", "ordinal", "()I"⟩ yJx29ce0_ordinal_8abf5 ∈ UW := (uw_3 9 rfl rfl)
theorem ko_inst : Cond.instanceMethod yJx29ce0_ordinal_8abf5 ∈ UW := (uw_3 10 rfl rfl)
theorem ko_init : Cond.initialized yJx29ce0_ordinal_8abf5.cls ∈ UW := (uw_1 10 rfl rfl)
theorem ko_code : Cond.code yJx29ce0_ordinal_8abf5 cJx29ce0_ordinal_8abf5 1 (some .int) ∈ UW := (uw_3 11 rfl rfl)
theorem ko_len : Cond.code yJ0_length_8abf5 cJ0_length_8abf5 1 (some .int) ∈ UW := (uw_4 228 rfl rfl)
theorem ko_cha : Cond.code yJ0_charAt_5068e cJ0_charAt_5068e 2 (some .char) ∈ UW := (uw_4 238 rfl rfl)
theorem ko_ini : Cond.initialized "java/lang/String" ∈ UW := (uw_1 19 rfl rfl)
theorem g_rt {v : Int32} {ty : FieldType} (X : Cx p E A DD R s m args c cc own nL) (S : St E A s h H locs) (hr : meth.sig.returnType = some ty) (hn : narrow ty (.int v) = .int v) (hlk : meth.locks = false) (hdg : decode cc pc = .ok (.ireturn, 1)) :
    W p l e R s m args below meth c H locs cells slots (MQ below (Qi E A h v) args s cells slots A) (F0 m pc ls [.int v]) :=
  W.zret X.1 X.2.1 hr hn (fun t ht hW => ⟨⟨v, (), rfl, rfl, by show Rp E A h t.heap; rw [ht]; exact S.1⟩, S.2.F ht⟩) S.2.2.2 hdg hlk
theorem runVO {C : String} {q : Nat} (X : Cx p E A DD R s m args c cc own nL) (S : St E A s h H locs) (O : CO own index y b maxL ret n) (oi : Cond.instanceMethod y ∈ UW ∧ Cond.selects C y y ∈ UW) (hO : va_O C q A s s.heap) (hD : D + 1 ≤ DD) (hM : Met l y (wsM y b maxL ret) (rmm D mc ms) (PcE E A h (.ref q :: As)) Qc mc ms A) (hn : As.length = n) (hl : ls.size = nL) (hst : (rest.map fun v => v.category).sum ≤ 8) (hs : st = As.reverse ++ .ref q :: rest) (hf : cells + mc ≤ R.cells ∧ slots + ms ≤ R.slots)
    (hdg : decode cc pc = .ok (.invokevirtual index, 3)) : va_Run p l e R s m args below meth c H locs cells slots mc ms (F0 m pc ls st) rest (Qc (.ref q :: As).toArray) A := by
  have cb := callb (mc := mc) (ms := ms) X O hD
  have hpre := pre_ok X S (.ref q :: As)
  obtain ⟨hx, hb, hu, hown, hK9, hml, hRm, hKo, hA⟩ := X
  obtain ⟨cell, c1, c2, c3, -⟩ := hO.kept S.2.2.1
  exact va_runV (C := C) (ws := wsM y b maxL ret) (rm := rmm D mc ms) ⟨hx, hb, hml, hown, hu⟩ hM ⟨cb, hu _ oi.1, hu _ oi.2⟩ ⟨blindE, ⟨cell, c1, c2, c3⟩, hpre⟩ rfl hn hl hs (lv_room hst) hdg hf
theorem k_cod (l : Launch) {i : Nat} (hi : i < 69) : Met l yJ0_coder_7d493 (wsM yJ0_coder_7d493 cJ0_coder_7d493 1 (some .byte)) (rmm 1 0 0) (PcE E A h [.ref (E.2.2.2.2.1 i)]) (Qi E A h 0) 0 0 A := by
  refine met_of (by decide +kernel) (by simp [lg_sl, cat_a]) (fun p e s m args below meth c ls X hr hlk hnm S hl => ?_)
  have hl : lv_has ls 1 [(0, .ref (E.2.2.2.2.1 i))] := by simpa [lv_args, cat_a] using hl
  obtain ⟨k1, k2, k3, k4⟩ := X.2.2.2.2.2.2.2.1.2.1 i hi
  refine va_gets X.1 X.2.1 X.2.2.2.2.2.2.2.1.2.2.2.2.1 S.2 X.2.2.2.1 (X.2.2.1 _ kf_cmp) (fun _ h9 => h9) dJ0_coder_7d493_0 ?_
  refine lv_if_eq (tgt := 13) X.1 X.2.1 dJ0_coder_7d493_3 (by decide) (fun c => absurd c (by decide)) (fun c => ?_)
  refine lv_aload_n X.1 X.2.1 dJ0_coder_7d493_6 rfl (lv_at hl 0 rfl) ?_
  refine vk_getf X.1 X.2.1 k2 S.2 X.2.2.2.1 (X.2.2.1 _ kf_cod) (fun _ h9 => h9) dJ0_coder_7d493_7 ?_
  refine lv_goto (tgt := 14) X.1 X.2.1 dJ0_coder_7d493_10 (by decide) ?_
  exact g_rt X S hr rfl hlk dJ0_coder_7d493_14
theorem k_lat (l : Launch) {i : Nat} (hi : i < 69) : Met l yJ0_isLatin1_aae02 (wsM yJ0_isLatin1_aae02 cJ0_isLatin1_aae02 1 (some .boolean)) (rmm 1 0 0) (PcE E A h [.ref (E.2.2.2.2.1 i)]) (Qi E A h 1) 0 0 A := by
  refine met_of (by decide +kernel) (by simp [lg_sl, cat_a]) (fun p e s m args below meth c ls X hr hlk hnm S hl => ?_)
  have hl : lv_has ls 1 [(0, .ref (E.2.2.2.2.1 i))] := by simpa [lv_args, cat_a] using hl
  obtain ⟨k1, k2, k3, k4⟩ := X.2.2.2.2.2.2.2.1.2.1 i hi
  refine va_gets X.1 X.2.1 X.2.2.2.2.2.2.2.1.2.2.2.2.1 S.2 X.2.2.2.1 (X.2.2.1 _ kf_cmp) (fun _ h9 => h9) dJ0_isLatin1_aae02_0 ?_
  refine lv_if_eq (tgt := 17) X.1 X.2.1 dJ0_isLatin1_aae02_3 (by decide) (fun c => absurd c (by decide)) (fun c => ?_)
  refine lv_aload_n X.1 X.2.1 dJ0_isLatin1_aae02_6 rfl (lv_at hl 0 rfl) ?_
  refine vk_getf X.1 X.2.1 k2 S.2 X.2.2.2.1 (X.2.2.1 _ kf_cod) (fun _ h9 => h9) dJ0_isLatin1_aae02_7 ?_
  refine lv_if_ne (tgt := 17) X.1 X.2.1 dJ0_isLatin1_aae02_10 (by decide) (fun c => absurd rfl c) (fun c => ?_)
  refine lv_iconst (v := 1) X.1 X.2.1 dJ0_isLatin1_aae02_13 (by decide) ?_
  refine lv_goto (tgt := 18) X.1 X.2.1 dJ0_isLatin1_aae02_14 (by decide) ?_
  exact g_rt X S hr rfl hlk dJ0_isLatin1_aae02_18
theorem k_len (l : Launch) {i : Nat} (hi : i < 69) : Met l yJ0_length_8abf5 (wsM yJ0_length_8abf5 cJ0_length_8abf5 1 (some .int)) (rmm 2 0 0) (PcE E A h [.ref (E.2.2.2.2.1 i)]) (Qi E A h (Int32.ofNat (strT.getD i []).length)) 0 0 A := by
  refine met_of (by decide +kernel) (by simp [lg_sl, cat_a]) (fun p e s m args below meth c ls X hr hlk hnm S hl => ?_)
  have hl : lv_has ls 1 [(0, .ref (E.2.2.2.2.1 i))] := by simpa [lv_args, cat_a] using hl
  obtain ⟨k1, k2, k3, k4⟩ := X.2.2.2.2.2.2.2.1.2.1 i hi
  refine lv_aload_n X.1 X.2.1 dJ0_length_8abf5_0 rfl (lv_at hl 0 rfl) ?_
  refine vk_getf X.1 X.2.1 k3 S.2 X.2.2.2.1 (X.2.2.1 _ kf_val) (fun _ h9 => h9) dJ0_length_8abf5_1 ?_
  obtain ⟨cell, z1, z2, z3, z4, z5, z6⟩ := va_T.kept k4 S.2.2.1
  refine W.alen X.1 X.2.1 z1 z2 z5 rfl rfl dJ0_length_8abf5_4 ?_
  refine W.eq (g2 := F0 m 5 ls [.int (Int32.ofNat (strT.getD i []).length)]) rfl ?_
  refine lv_aload_n X.1 X.2.1 dJ0_length_8abf5_5 rfl (lv_at hl 0 rfl) ?_
  refine g_ci S (runVO (As := []) (rest := [.int (Int32.ofNat (strT.getD i []).length)]) X S kc_cod ki_cod k1 (by decide) (k_cod l hi) rfl hl.1 (by simp [cat_i]) rfl ⟨Nat.zero_le _, Nat.zero_le _⟩ dJ0_length_8abf5_6) (fun H locs S => ?_)
  refine lv_ishr X.1 X.2.1 dJ0_length_8abf5_9 ?_
  rw [show ∀ x : Int32, x >>> ((0 : Int32) &&& 31) = x from sb_shr0]
  exact g_rt X S hr rfl hlk dJ0_length_8abf5_10
theorem k_pre (l : Launch) {i n9 : Int32} (f : Option Nat) (h1 : ¬ i < 0) (h2 : i < n9) : Met l yJ3_checkIndex_8e157 (wsM yJ3_checkIndex_8e157 cJ3_checkIndex_8e157 3 (some .int)) (rmm 1 0 0) (PcE E A h [.int i, .int n9, va_rf f]) (Qi E A h i) 0 0 A := by
  refine met_of (by decide +kernel) (by simp [lg_sl, cat_i, cat_rf]) (fun p e s m args below meth c ls X hr hlk hnm S hl => ?_)
  have hl : lv_has ls 3 [(0, .int i), (1, .int n9), (2, va_rf f)] := by simpa [lv_args, cat_i, cat_rf] using hl
  refine lv_iload_n X.1 X.2.1 dJ3_checkIndex_8e157_0 rfl (lv_at hl 0 rfl) ?_
  refine lv_if_lt (tgt := 9) X.1 X.2.1 dJ3_checkIndex_8e157_1 (by decide) (fun c => absurd c h1) (fun c => ?_)
  refine lv_iload_n X.1 X.2.1 dJ3_checkIndex_8e157_4 rfl (lv_at hl 0 rfl) ?_
  refine lv_iload_n X.1 X.2.1 dJ3_checkIndex_8e157_5 rfl (lv_at hl 1 rfl) ?_
  refine lv_icmp_lt (tgt := 16) X.1 X.2.1 dJ3_checkIndex_8e157_6 (by decide) (fun c => ?_) (fun c => absurd h2 c)
  refine lv_iload_n X.1 X.2.1 dJ3_checkIndex_8e157_16 rfl (lv_at hl 0 rfl) ?_
  exact g_rt X S hr rfl hlk dJ3_checkIndex_8e157_17
theorem k_chk (l : Launch) {i n9 : Int32} (h1 : ¬ i < 0) (h2 : i < n9) : Met l yJ0_checkIndex_df160 (wsM yJ0_checkIndex_df160 cJ0_checkIndex_df160 2 none) (rmm 2 0 0) (PcE E A h [.int i, .int n9]) (Qv E A h) 0 0 A := by
  refine met_of (by decide +kernel) (by simp [lg_sl, cat_i]) (fun p e s m args below meth c ls X hr hlk hnm S hl => ?_)
  have hl : lv_has ls 2 [(0, .int i), (1, .int n9)] := by simpa [lv_args, cat_i] using hl
  refine lv_iload_n X.1 X.2.1 dJ0_checkIndex_df160_0 rfl (lv_at hl 0 rfl) ?_
  refine lv_iload_n X.1 X.2.1 dJ0_checkIndex_df160_1 rfl (lv_at hl 1 rfl) ?_
  obtain ⟨f, hz⟩ : ∃ f : Option Nat, va_Z "jdk/internal/util/Preconditions" "SIOOBE_FORMATTER" "Ljava/util/function/BiFunction;" (va_rf f) A s s.heap := by
    rcases X.2.2.2.2.2.2.2.1.2.2.2.2.2.2.2.2.2.1 with z | ⟨t, z⟩
    · exact ⟨none, z⟩
    · exact ⟨some t, z⟩
  refine va_gets X.1 X.2.1 hz S.2 X.2.2.2.1 (X.2.2.1 _ kf_sio) (fun _ h9 => h9) dJ0_checkIndex_df160_2 ?_
  refine g_ci S (runS (As := [.int i, .int n9, va_rf f]) (rest := []) X S ⟨kc_pre, ks_pre⟩ (by decide) (k_pre l f h1 h2) rfl hl.1 (by decide) rfl ⟨Nat.zero_le _, Nat.zero_le _⟩ dJ0_checkIndex_df160_5) (fun H locs S => ?_)
  refine lv_pop X.1 X.2.1 dJ0_checkIndex_df160_8 rfl ?_
  exact g_rv X S hr hlk dJ0_checkIndex_df160_9
theorem str_small : ∀ i j : Nat, (strT.getD i []).getD j 0 < 128 := by
  have h : strT.all (fun l => l.all (fun c => decide (c < 128))) = true := by decide +kernel
  intro i j
  rw [List.getD_eq_getElem?_getD, List.getD_eq_getElem?_getD]
  cases hi : strT[i]? with
  | none => simp
  | some l =>
    have hl := List.all_eq_true.mp h l (List.mem_of_getElem? hi)
    cases hj : l[j]? with
    | none => simp [hj]
    | some c =>
      have hc := List.all_eq_true.mp hl c (List.mem_of_getElem? hj)
      simpa [hj] using of_decide_eq_true hc
theorem c_255 : ∀ n : Nat, n < 128 → ((Int32.ofNat n &&& 255).toUInt32 % 65536).toInt32 = Int32.ofNat n := by decide +kernel
theorem k_ch1 (l : Launch) {i : Nat} {j : Int32} (hi : i < 69) (hj : ¬ (j < 0 ∨ (strT.getD i []).length ≤ j.toNatClampNeg)) (hlen : (strT.getD i []).length < 2 ^ 31) :
    Met l yJ1_charAt_3b067 (wsM yJ1_charAt_3b067 cJ1_charAt_3b067 2 (some .char)) (rmm 3 0 0) (PcE E A h [.ref (E.2.2.2.2.2 i), .int j]) (Qi E A h (Int32.ofNat ((strT.getD i []).getD j.toNatClampNeg 0))) 0 0 A := by
  refine met_of (by decide +kernel) (by simp [lg_sl, cat_i, cat_a]) (fun p e s m args below meth c ls X hr hlk hnm S hl => ?_)
  have hl : lv_has ls 2 [(0, .ref (E.2.2.2.2.2 i)), (1, .int j)] := by simpa [lv_args, cat_i, cat_a] using hl
  obtain ⟨k1, k2, k3, k4⟩ := X.2.2.2.2.2.2.2.1.2.1 i hi
  have hj1 : ¬ j < 0 := fun q => hj (Or.inl q)
  have hj2 : j.toNatClampNeg < (strT.getD i []).length := Nat.not_le.mp fun q => hj (Or.inr q)
  refine lv_iload_n X.1 X.2.1 dJ1_charAt_3b067_0 rfl (lv_at hl 1 rfl) ?_
  refine lv_aload_n X.1 X.2.1 dJ1_charAt_3b067_1 rfl (lv_at hl 0 rfl) ?_
  obtain ⟨cell, z1, z2, z3, z4, z5, z6⟩ := va_T.kept k4 S.2.2.1
  refine W.alen X.1 X.2.1 z1 z2 z5 rfl rfl dJ1_charAt_3b067_2 ?_
  refine W.eq (g2 := F0 m 3 ls [.int (Int32.ofNat (strT.getD i []).length), .int j]) rfl ?_
  have hlt : j < Int32.ofNat (strT.getD i []).length := by
    obtain ⟨k, hk, rfl⟩ := nI_of hj1
    rw [nI_clamp hk] at hj2
    exact nI_lt hj2 hlen
  refine g_cv S (runS (As := [.int j, .int (Int32.ofNat (strT.getD i []).length)]) (rest := []) X S ⟨kc_chk, ks_chk⟩ (by decide) (k_chk l hj1 hlt) rfl hl.1 (by decide) rfl ⟨Nat.zero_le _, Nat.zero_le _⟩ dJ1_charAt_3b067_3) (fun H locs S => ?_)
  refine lv_aload_n X.1 X.2.1 dJ1_charAt_3b067_6 rfl (lv_at hl 0 rfl) ?_
  refine lv_iload_n X.1 X.2.1 dJ1_charAt_3b067_7 rfl (lv_at hl 1 rfl) ?_
  refine va_tb X.1 X.2.1 k4 S.2 hj rfl dJ1_charAt_3b067_8 ?_
  refine lv_sipush (v := 255) X.1 X.2.1 dJ1_charAt_3b067_9 (by decide) ?_
  refine lv_iand X.1 X.2.1 dJ1_charAt_3b067_12 ?_
  have hs := str_small i j.toNatClampNeg
  refine lv_i2c (v := Int32.ofNat ((strT.getD i []).getD j.toNatClampNeg 0)) X.1 X.2.1 dJ1_charAt_3b067_13 (c_255 _ hs) ?_
  exact g_rt X S hr (pk_charN (by omega)).1 hlk dJ1_charAt_3b067_14
theorem str_short : ∀ i : Nat, (strT.getD i []).length < 2 ^ 31 := by
  have h : strT.all (fun l => decide (l.length < 100)) = true := by decide +kernel
  intro i
  rw [List.getD_eq_getElem?_getD]
  cases hi : strT[i]? with
  | none => simp
  | some l =>
    have hl := of_decide_eq_true (List.all_eq_true.mp h l (List.mem_of_getElem? hi))
    show l.length < 2 ^ 31
    omega
theorem k_cha (l : Launch) {i : Nat} {j : Int32} (hi : i < 69) (hj : ¬ (j < 0 ∨ (strT.getD i []).length ≤ j.toNatClampNeg)) : Met l yJ0_charAt_5068e (wsM yJ0_charAt_5068e cJ0_charAt_5068e 2 (some .char)) (rmm 4 0 0) (PcE E A h [.ref (E.2.2.2.2.1 i), .int j]) (Qi E A h (Int32.ofNat ((strT.getD i []).getD j.toNatClampNeg 0))) 0 0 A := by
  refine met_of (by decide +kernel) (by simp [lg_sl, cat_i, cat_a]) (fun p e s m args below meth c ls X hr hlk hnm S hl => ?_)
  have hl : lv_has ls 2 [(0, .ref (E.2.2.2.2.1 i)), (1, .int j)] := by simpa [lv_args, cat_i, cat_a] using hl
  obtain ⟨k1, k2, k3, k4⟩ := X.2.2.2.2.2.2.2.1.2.1 i hi
  refine lv_aload_n X.1 X.2.1 dJ0_charAt_5068e_0 rfl (lv_at hl 0 rfl) ?_
  refine g_ci S (runVO (As := []) (rest := []) X S kc_lat ki_lat k1 (by decide) (k_lat l hi) rfl hl.1 (by decide) rfl ⟨Nat.zero_le _, Nat.zero_le _⟩ dJ0_charAt_5068e_1) (fun H locs S => ?_)
  refine lv_if_eq (tgt := 16) X.1 X.2.1 dJ0_charAt_5068e_4 (by decide) (fun c => absurd c (by decide)) (fun c => ?_)
  refine lv_aload_n X.1 X.2.1 dJ0_charAt_5068e_7 rfl (lv_at hl 0 rfl) ?_
  refine vk_getf X.1 X.2.1 k3 S.2 X.2.2.2.1 (X.2.2.1 _ kf_val) (fun _ h9 => h9) dJ0_charAt_5068e_8 ?_
  refine lv_iload_n X.1 X.2.1 dJ0_charAt_5068e_11 rfl (lv_at hl 1 rfl) ?_
  refine g_ci S (runS (As := [.ref (E.2.2.2.2.2 i), .int j]) (rest := []) X S ⟨kc_ch1, ks_ch1⟩ (by decide) (k_ch1 l hi hj (str_short i)) rfl hl.1 (by decide) rfl ⟨Nat.zero_le _, Nat.zero_le _⟩ dJ0_charAt_5068e_12) (fun H locs S => ?_)
  have hs := str_small i j.toNatClampNeg
  exact g_rt X S hr (pk_charN (by omega)).1 hlk dJ0_charAt_5068e_15
theorem k_ord (l : Launch) {i : Nat} (hi : i < 29) : Met l yJx29ce0_ordinal_8abf5 (wsM yJx29ce0_ordinal_8abf5 cJx29ce0_ordinal_8abf5 1 (some .int)) (rmm 1 0 0) (PcE E A h [.ref (E.2.2.2.1 i)]) (Qi E A h (Int32.ofNat i)) 0 0 A := by
  refine met_of (by decide +kernel) (by simp [lg_sl, cat_a]) (fun p e s m args below meth c ls X hr hlk hnm S hl => ?_)
  have hl : lv_has ls 1 [(0, .ref (E.2.2.2.1 i))] := by simpa [lv_args, cat_a] using hl
  obtain ⟨k1, k2, k3, -⟩ := X.2.2.2.2.2.2.2.1.1 i hi
  refine lv_aload_n X.1 X.2.1 dJx29ce0_ordinal_8abf5_0 rfl (lv_at hl 0 rfl) ?_
  refine vk_getf X.1 X.2.1 k3 S.2 X.2.2.2.1 (X.2.2.1 _ kf_ord) (fun _ h9 => h9) dJx29ce0_ordinal_8abf5_1 ?_
  exact g_ri X S hr hlk dJx29ce0_ordinal_8abf5_4
theorem g_ord {β : Type} {f : Int32 → Option β} {r : β} {x : Nat} (X : Cx p E A DD R s m args c cc own nL) (S : St E A s h H locs) (hl : ls.size = nL) (hDD : 2 ≤ DD) (hst : (rest.map fun v => v.category).sum ≤ 8) (F : JFo own index ⟨"NibbleEngine$Word", "ordinal", "()I"⟩) (hc : cells ≤ R.cells) (hs : slots ≤ R.slots) (hdg : decode cc pc = .ok (.invokevirtual index, 3)) (hf : ob (wdO x) f = some r)
    (kk : ∀ (v : Int32) (H1 : Heap) (locs1 : List Loc), f v = some r → St E A s h H1 locs1 → W p l e R s m args below meth c H1 locs1 cells slots Q (F0 m (pc + 3) ls (.int v :: rest))) : W p l e R s m args below meth c H locs cells slots Q (F0 m pc ls (wv E x :: rest)) := by
  obtain ⟨v, e1, e2⟩ := ob_some hf
  obtain ⟨⟨x0, x1⟩, rfl⟩ := if_some e1
  rw [wv_ref E x0]
  have hpre := pre_ok X S [.ref (E.2.2.2.1 (x - 1))]
  have X0 := X
  obtain ⟨hx, hb, hu, hown, hK9, hml, hRm, hKo, hA⟩ := X
  obtain ⟨-, hO, -⟩ := hKo.1 (x - 1) (by omega)
  obtain ⟨cell, c1, c2, c3, -⟩ := hO.kept S.2.2.1
  have gI9 : GoodIn UW UW := fun w hw => ⟨hw, uw_good hw⟩
  have hG : GoodIn UW (va_wsU own index "NibbleEngine$Word" "java/lang/Enum" ⟨"NibbleEngine$Word", "ordinal", "()I"⟩ yJx29ce0_ordinal_8abf5 (wsM yJx29ce0_ordinal_8abf5 cJx29ce0_ordinal_8abf5 1 (some .int))) := by
    intro w hw
    simp only [va_wsU, List.cons_append, List.nil_append, List.mem_cons, wsM] at hw
    rcases hw with rfl | rfl | rfl | rfl | rfl | rfl | hw
    · exact gI9 _ F
    · exact gI9 _ ko_same
    · exact gI9 _ ko_sel
    · exact gI9 _ ko_inst
    · exact gI9 _ ko_init
    · exact gI9 _ ko_code
    · exact gI9 _ hw
  refine g_ci S (va_runU (As := []) (rest := rest) (own := own) (C := "NibbleEngine$Word") (owner := "java/lang/Enum") (x := ⟨"NibbleEngine$Word", "ordinal", "()I"⟩) ⟨hx, hb, hml, hown, hu⟩ (k_ord l (i := x - 1) (by omega)) (va_cwU 0 hu hG rfl rfl rfl rfl (by decide +kernel) (by
    show 1 + 1 ≤ R.frames ∧ 8 + (1 + 11) + 64 * 1 ≤ R.locals
    omega)) ⟨blindE, ⟨cell, c1, c2, c3⟩, hpre⟩ rfl rfl hl rfl (lv_room hst) hdg ⟨hc, hs⟩) (fun H1 locs1 S1 => ?_)
  exact kk _ H1 locs1 e2 S1
theorem g_sLen {β : Type} {f : Int32 → Option β} {r : β} {x : Nat} (X : Cx p E A DD R s m args c cc own nL) (S : St E A s h H locs) (hl : ls.size = nL) (hDD : 5 ≤ DD) (hst : (rest.map fun v => v.category).sum ≤ 8) (F : JFo own index ⟨"java/lang/String", "length", "()I"⟩) (hc : cells ≤ R.cells) (hs : slots ≤ R.slots) (hdg : decode cc pc = .ok (.invokevirtual index, 3)) (hf : ob (sLen x) f = some r)
    (kk : ∀ (v : Int32) (H1 : Heap) (locs1 : List Loc), f v = some r → St E A s h H1 locs1 → W p l e R s m args below meth c H1 locs1 cells slots Q (F0 m (pc + 3) ls (.int v :: rest))) : W p l e R s m args below meth c H locs cells slots Q (F0 m pc ls (sv E x :: rest)) := by
  obtain ⟨v, e1, e2⟩ := ob_some hf
  obtain ⟨⟨x0, x1⟩, rfl⟩ := if_some e1
  rw [sv_ref E x0]
  refine g_ci S (runVO (As := []) (rest := rest) X S (y := yJ0_length_8abf5) ⟨F, ko_len, ko_ini, by decide, by decide +kernel, by decide⟩ ki_len (X.2.2.2.2.2.2.2.1.2.1 (x - 1) (by omega)).1 (D := 2) (by omega) (k_len l (by omega)) rfl hl hst rfl ⟨hc, hs⟩ hdg) (fun H1 locs1 S1 => ?_)
  exact kk _ H1 locs1 e2 S1
theorem g_sAt {β : Type} {f : Int32 → Option β} {r : β} {x : Nat} {i : Int32} (X : Cx p E A DD R s m args c cc own nL) (S : St E A s h H locs) (hl : ls.size = nL) (hDD : 5 ≤ DD) (hst : (rest.map fun v => v.category).sum ≤ 8) (F : JFo own index ⟨"java/lang/String", "charAt", "(I)C"⟩) (hc : cells ≤ R.cells) (hs : slots ≤ R.slots) (hdg : decode cc pc = .ok (.invokevirtual index, 3)) (hf : ob (sAt x i) f = some r)
    (kk : ∀ (v : Int32) (H1 : Heap) (locs1 : List Loc), f v = some r → St E A s h H1 locs1 → W p l e R s m args below meth c H1 locs1 cells slots Q (F0 m (pc + 3) ls (.int v :: rest))) : W p l e R s m args below meth c H locs cells slots Q (F0 m pc ls (.int i :: sv E x :: rest)) := by
  obtain ⟨v, e1, e2⟩ := ob_some hf
  obtain ⟨⟨x0, x1, x2⟩, rfl⟩ := if_some e1
  rw [sv_ref E x0]
  refine g_ci S (runVO (n := 1) (As := [.int i]) (rest := rest) X S (y := yJ0_charAt_5068e) ⟨F, ko_cha, ko_ini, by decide, by decide +kernel, by decide⟩ ki_cha (X.2.2.2.2.2.2.2.1.2.1 (x - 1) (by omega)).1 (D := 4) (by omega) (k_cha l (by omega) x2) rfl hl hst rfl ⟨hc, hs⟩ hdg) (fun H1 locs1 S1 => ?_)
  exact kk _ H1 locs1 e2 S1
end GR
