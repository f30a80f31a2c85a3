theorem coL_90 : COV RL 90 yX12_feed cX12_feed 6 (some .int) 5 10 := ⟨⟨(uw_2 173 rfl rfl), (uw_2 176 rfl rfl), (uw_1 1 rfl rfl), by decide, by decide +kernel, by decide⟩, (uw_2 174 rfl rfl), (uw_2 175 rfl rfl), _, _, rfl, by decide, by decide⟩
theorem coL_93 : COV RL 93 yX13_feed cX13_feed 8 (some .int) 5 11 := ⟨⟨(uw_8 77 rfl rfl), (uw_8 80 rfl rfl), (uw_1 13 rfl rfl), by decide, by decide +kernel, by decide⟩, (uw_8 78 rfl rfl), (uw_8 79 rfl rfl), _, _, rfl, by decide, by decide⟩
theorem coL_99 : COV RL 99 yX13_program cX13_program 3 (some .int) 1 11 := ⟨⟨(uw_8 81 rfl rfl), (uw_8 84 rfl rfl), (uw_1 13 rfl rfl), by decide, by decide +kernel, by decide⟩, (uw_8 82 rfl rfl), (uw_8 83 rfl rfl), _, _, rfl, by decide, by decide⟩
theorem coL_104 : COV RL 104 yX12_fault cX12_fault 1 (some .int) 0 10 := ⟨⟨(uw_2 181 rfl rfl), (uw_2 184 rfl rfl), (uw_1 1 rfl rfl), by decide, by decide +kernel, by decide⟩, (uw_2 182 rfl rfl), (uw_2 183 rfl rfl), _, _, rfl, by decide, by decide⟩
theorem coL_107 : COV RL 107 yX13_fault cX13_fault 1 (some .int) 0 11 := ⟨⟨(uw_8 216 rfl rfl), (uw_8 219 rfl rfl), (uw_1 13 rfl rfl), by decide, by decide +kernel, by decide⟩, (uw_8 217 rfl rfl), (uw_8 218 rfl rfl), _, _, rfl, by decide, by decide⟩
theorem coL_110 : COV RL 110 yX13_count cX13_count 2 (some .int) 1 11 := ⟨⟨(uw_8 220 rfl rfl), (uw_8 223 rfl rfl), (uw_1 13 rfl rfl), by decide, by decide +kernel, by decide⟩, (uw_8 221 rfl rfl), (uw_8 222 rfl rfl), _, _, rfl, by decide, by decide⟩
theorem coL_113 : COV RL 113 yX13_at cX13_at 2 (some .int) 1 11 := ⟨⟨(uw_8 228 rfl rfl), (uw_8 231 rfl rfl), (uw_1 13 rfl rfl), by decide, by decide +kernel, by decide⟩, (uw_8 229 rfl rfl), (uw_8 230 rfl rfl), _, _, rfl, by decide, by decide⟩
theorem coL_116 : COV RL 116 yX13_register cX13_register 2 (some .int) 1 11 := ⟨⟨(uw_8 233 rfl rfl), (uw_8 236 rfl rfl), (uw_1 13 rfl rfl), by decide, by decide +kernel, by decide⟩, (uw_8 234 rfl rfl), (uw_8 235 rfl rfl), _, _, rfl, by decide, by decide⟩
theorem coL_119 : COV RL 119 yX13_guard cX13_guard 2 (some .int) 1 11 := ⟨⟨(uw_8 238 rfl rfl), (uw_9 1 rfl rfl), (uw_1 13 rfl rfl), by decide, by decide +kernel, by decide⟩, (uw_8 239 rfl rfl), (uw_9 0 rfl rfl), _, _, rfl, by decide, by decide⟩
theorem coL_122 : COV RL 122 yX13_done cX13_done 2 (some .int) 1 11 := ⟨⟨(uw_9 3 rfl rfl), (uw_9 6 rfl rfl), (uw_1 13 rfl rfl), by decide, by decide +kernel, by decide⟩, (uw_9 4 rfl rfl), (uw_9 5 rfl rfl), _, _, rfl, by decide, by decide⟩
theorem coL_125 : COV RL 125 yX13_trace cX13_trace 2 (some .int) 1 11 := ⟨⟨(uw_9 7 rfl rfl), (uw_9 10 rfl rfl), (uw_1 13 rfl rfl), by decide, by decide +kernel, by decide⟩, (uw_9 8 rfl rfl), (uw_9 9 rfl rfl), _, _, rfl, by decide, by decide⟩
theorem coL_129 : COV RL 129 yX13_why cX13_why 3 (some .int) 2 11 := ⟨⟨(uw_9 11 rfl rfl), (uw_9 14 rfl rfl), (uw_1 13 rfl rfl), by decide, by decide +kernel, by decide⟩, (uw_9 12 rfl rfl), (uw_9 13 rfl rfl), _, _, rfl, by decide, by decide⟩
theorem coL_133 : COV RL 133 yX13_flaws cX13_flaws 6 (some .int) 4 11 := ⟨⟨(uw_9 16 rfl rfl), (uw_9 19 rfl rfl), (uw_1 13 rfl rfl), by decide, by decide +kernel, by decide⟩, (uw_9 17 rfl rfl), (uw_9 18 rfl rfl), _, _, rfl, by decide, by decide⟩
theorem coL_137 : COV RL 137 yX13_number cX13_number 6 (some .long) 3 11 := ⟨⟨(uw_9 39 rfl rfl), (uw_9 42 rfl rfl), (uw_1 13 rfl rfl), by decide, by decide +kernel, by decide⟩, (uw_9 40 rfl rfl), (uw_9 41 rfl rfl), _, _, rfl, by decide, by decide⟩
theorem coL_141 : COV RL 141 yX13_need cX13_need 7 (some .int) 5 11 := ⟨⟨(uw_9 75 rfl rfl), (uw_9 78 rfl rfl), (uw_1 13 rfl rfl), by decide, by decide +kernel, by decide⟩, (uw_9 76 rfl rfl), (uw_9 77 rfl rfl), _, _, rfl, by decide, by decide⟩
theorem coL_145 : COV RL 145 yX13_rounds cX13_rounds 6 (some .int) 3 11 := ⟨⟨(uw_9 102 rfl rfl), (uw_9 105 rfl rfl), (uw_1 13 rfl rfl), by decide, by decide +kernel, by decide⟩, (uw_9 103 rfl rfl), (uw_9 104 rfl rfl), _, _, rfl, by decide, by decide⟩
theorem coL_149 : COV RL 149 yX13_unedited cX13_unedited 7 (some .long) 4 11 := ⟨⟨(uw_9 107 rfl rfl), (uw_9 110 rfl rfl), (uw_1 13 rfl rfl), by decide, by decide +kernel, by decide⟩, (uw_9 108 rfl rfl), (uw_9 109 rfl rfl), _, _, rfl, by decide, by decide⟩
theorem coL_150 : COV RL 150 yX12_steps cX12_steps 4 (some .int) 1 10 := ⟨⟨(uw_2 185 rfl rfl), (uw_2 188 rfl rfl), (uw_1 1 rfl rfl), by decide, by decide +kernel, by decide⟩, (uw_2 186 rfl rfl), (uw_2 187 rfl rfl), _, _, rfl, by decide, by decide⟩
theorem coL_153 : COV RL 153 yX13_steps cX13_steps 3 (some .int) 1 11 := ⟨⟨(uw_9 135 rfl rfl), (uw_9 138 rfl rfl), (uw_1 13 rfl rfl), by decide, by decide +kernel, by decide⟩, (uw_9 136 rfl rfl), (uw_9 137 rfl rfl), _, _, rfl, by decide, by decide⟩
theorem coL_154 : COV RL 154 yX12_lay cX12_lay 5 (some .int) 2 10 := ⟨⟨(uw_4 11 rfl rfl), (uw_4 14 rfl rfl), (uw_1 1 rfl rfl), by decide, by decide +kernel, by decide⟩, (uw_4 12 rfl rfl), (uw_4 13 rfl rfl), _, _, rfl, by decide, by decide⟩
theorem coL_157 : COV RL 157 yX13_lay cX13_lay 4 (some .int) 2 11 := ⟨⟨(uw_10 44 rfl rfl), (uw_10 47 rfl rfl), (uw_1 13 rfl rfl), by decide, by decide +kernel, by decide⟩, (uw_10 45 rfl rfl), (uw_10 46 rfl rfl), _, _, rfl, by decide, by decide⟩
theorem coL_158 : COV RL 158 yX12_set cX12_set 4 (some .boolean) 2 10 := ⟨⟨(uw_4 22 rfl rfl), (uw_4 25 rfl rfl), (uw_1 1 rfl rfl), by decide, by decide +kernel, by decide⟩, (uw_4 23 rfl rfl), (uw_4 24 rfl rfl), _, _, rfl, by decide, by decide⟩
theorem coL_162 : COV RL 162 yX13_set cX13_set 3 (some .boolean) 2 11 := ⟨⟨(uw_10 48 rfl rfl), (uw_10 51 rfl rfl), (uw_1 13 rfl rfl), by decide, by decide +kernel, by decide⟩, (uw_10 49 rfl rfl), (uw_10 50 rfl rfl), _, _, rfl, by decide, by decide⟩
theorem coL_163 : COV RL 163 yX12_next cX12_next 2 (some .int) 1 10 := ⟨⟨(uw_4 26 rfl rfl), (uw_4 29 rfl rfl), (uw_1 1 rfl rfl), by decide, by decide +kernel, by decide⟩, (uw_4 27 rfl rfl), (uw_4 28 rfl rfl), _, _, rfl, by decide, by decide⟩
theorem coL_166 : COV RL 166 yX13_next cX13_next 2 (some .int) 1 11 := ⟨⟨(uw_10 52 rfl rfl), (uw_10 55 rfl rfl), (uw_1 13 rfl rfl), by decide, by decide +kernel, by decide⟩, (uw_10 53 rfl rfl), (uw_10 54 rfl rfl), _, _, rfl, by decide, by decide⟩
theorem coL_167 : COV RL 167 yX12_begin cX12_begin 1 (some .int) 0 10 := ⟨⟨(uw_4 38 rfl rfl), (uw_4 41 rfl rfl), (uw_1 1 rfl rfl), by decide, by decide +kernel, by decide⟩, (uw_4 39 rfl rfl), (uw_4 40 rfl rfl), _, _, rfl, by decide, by decide⟩
theorem coL_170 : COV RL 170 yX13_begin cX13_begin 1 (some .int) 0 11 := ⟨⟨(uw_10 56 rfl rfl), (uw_10 59 rfl rfl), (uw_1 13 rfl rfl), by decide, by decide +kernel, by decide⟩, (uw_10 57 rfl rfl), (uw_10 58 rfl rfl), _, _, rfl, by decide, by decide⟩
theorem coL_171 : COV RL 171 yX12_undo cX12_undo 1 (some .int) 0 10 := ⟨⟨(uw_4 56 rfl rfl), (uw_4 59 rfl rfl), (uw_1 1 rfl rfl), by decide, by decide +kernel, by decide⟩, (uw_4 57 rfl rfl), (uw_4 58 rfl rfl), _, _, rfl, by decide, by decide⟩
theorem coL_174 : COV RL 174 yX13_undo cX13_undo 2 (some .int) 0 11 := ⟨⟨(uw_10 60 rfl rfl), (uw_10 63 rfl rfl), (uw_1 13 rfl rfl), by decide, by decide +kernel, by decide⟩, (uw_10 61 rfl rfl), (uw_10 62 rfl rfl), _, _, rfl, by decide, by decide⟩
theorem coL_177 : COV RL 177 yX13_then cX13_then 3 (some .int) 2 11 := ⟨⟨(uw_10 64 rfl rfl), (uw_10 67 rfl rfl), (uw_1 13 rfl rfl), by decide, by decide +kernel, by decide⟩, (uw_10 65 rfl rfl), (uw_10 66 rfl rfl), _, _, rfl, by decide, by decide⟩
theorem coL_180 : COV RL 180 yX13_holds cX13_holds 3 (some .int) 2 11 := ⟨⟨(uw_10 84 rfl rfl), (uw_10 87 rfl rfl), (uw_1 13 rfl rfl), by decide, by decide +kernel, by decide⟩, (uw_10 85 rfl rfl), (uw_10 86 rfl rfl), _, _, rfl, by decide, by decide⟩
theorem coL_183 : COV RL 183 yX13_where cX13_where 3 (some .int) 2 11 := ⟨⟨(uw_10 88 rfl rfl), (uw_10 91 rfl rfl), (uw_1 13 rfl rfl), by decide, by decide +kernel, by decide⟩, (uw_10 89 rfl rfl), (uw_10 90 rfl rfl), _, _, rfl, by decide, by decide⟩
theorem coL_186 : COV RL 186 yX13_faults cX13_faults 4 (some .int) 1 11 := ⟨⟨(uw_10 92 rfl rfl), (uw_10 95 rfl rfl), (uw_1 13 rfl rfl), by decide, by decide +kernel, by decide⟩, (uw_10 93 rfl rfl), (uw_10 94 rfl rfl), _, _, rfl, by decide, by decide⟩
theorem coL_187 : COV RL 187 yX12_halts cX12_halts 1 (some .int) 0 10 := ⟨⟨(uw_4 68 rfl rfl), (uw_4 71 rfl rfl), (uw_1 1 rfl rfl), by decide, by decide +kernel, by decide⟩, (uw_4 69 rfl rfl), (uw_4 70 rfl rfl), _, _, rfl, by decide, by decide⟩
theorem coL_190 : COV RL 190 yX13_halts cX13_halts 2 (some .int) 0 11 := ⟨⟨(uw_10 96 rfl rfl), (uw_10 99 rfl rfl), (uw_1 13 rfl rfl), by decide, by decide +kernel, by decide⟩, (uw_10 97 rfl rfl), (uw_10 98 rfl rfl), _, _, rfl, by decide, by decide⟩
theorem coL_193 : COV RL 193 yX13_changes cX13_changes 3 (some .int) 1 11 := ⟨⟨(uw_10 100 rfl rfl), (uw_10 103 rfl rfl), (uw_1 13 rfl rfl), by decide, by decide +kernel, by decide⟩, (uw_10 101 rfl rfl), (uw_10 102 rfl rfl), _, _, rfl, by decide, by decide⟩
theorem coL_194 : COV RL 194 yX12_round cX12_round 1 (some .int) 0 10 := ⟨⟨(uw_4 79 rfl rfl), (uw_4 82 rfl rfl), (uw_1 1 rfl rfl), by decide, by decide +kernel, by decide⟩, (uw_4 80 rfl rfl), (uw_4 81 rfl rfl), _, _, rfl, by decide, by decide⟩
theorem coL_197 : COV RL 197 yX13_round cX13_round 2 (some .int) 0 11 := ⟨⟨(uw_10 104 rfl rfl), (uw_10 107 rfl rfl), (uw_1 13 rfl rfl), by decide, by decide +kernel, by decide⟩, (uw_10 105 rfl rfl), (uw_10 106 rfl rfl), _, _, rfl, by decide, by decide⟩
theorem coL_200 : COV RL 200 yX13_spoilt cX13_spoilt 11 (some .int) 4 11 := ⟨⟨(uw_10 112 rfl rfl), (uw_10 115 rfl rfl), (uw_1 13 rfl rfl), by decide, by decide +kernel, by decide⟩, (uw_10 113 rfl rfl), (uw_10 114 rfl rfl), _, _, rfl, by decide, by decide⟩
theorem coL_201 : COV RL 201 yX12_note cX12_note 4 (some .int) 3 10 := ⟨⟨(uw_4 91 rfl rfl), (uw_4 94 rfl rfl), (uw_1 1 rfl rfl), by decide, by decide +kernel, by decide⟩, (uw_4 92 rfl rfl), (uw_4 93 rfl rfl), _, _, rfl, by decide, by decide⟩
theorem coL_204 : COV RL 204 yX13_note cX13_note 4 (some .int) 3 11 := ⟨⟨(uw_10 133 rfl rfl), (uw_10 136 rfl rfl), (uw_1 13 rfl rfl), by decide, by decide +kernel, by decide⟩, (uw_10 134 rfl rfl), (uw_10 135 rfl rfl), _, _, rfl, by decide, by decide⟩
theorem coL_207 : COV RL 207 yX13_blamed cX13_blamed 8 (some .int) 3 11 := ⟨⟨(uw_10 141 rfl rfl), (uw_10 144 rfl rfl), (uw_1 13 rfl rfl), by decide, by decide +kernel, by decide⟩, (uw_10 142 rfl rfl), (uw_10 143 rfl rfl), _, _, rfl, by decide, by decide⟩
theorem coL_208 : COV RL 208 yX12_forget cX12_forget 1 none 0 10 := ⟨⟨(uw_4 103 rfl rfl), (uw_4 106 rfl rfl), (uw_1 1 rfl rfl), by decide, by decide +kernel, by decide⟩, (uw_4 104 rfl rfl), (uw_4 105 rfl rfl), _, _, rfl, by decide, by decide⟩
theorem coL_211 : COV RL 211 yX13_forget cX13_forget 1 none 0 11 := ⟨⟨(uw_10 137 rfl rfl), (uw_10 140 rfl rfl), (uw_1 13 rfl rfl), by decide, by decide +kernel, by decide⟩, (uw_10 138 rfl rfl), (uw_10 139 rfl rfl), _, _, rfl, by decide, by decide⟩
theorem coL_214 : COV RL 214 yX13_years cX13_years 8 (some .int) 3 11 := ⟨⟨(uw_10 149 rfl rfl), (uw_10 152 rfl rfl), (uw_1 13 rfl rfl), by decide, by decide +kernel, by decide⟩, (uw_10 150 rfl rfl), (uw_10 151 rfl rfl), _, _, rfl, by decide, by decide⟩
theorem coL_215 : COV RL 215 yX12_image cX12_image 1 none 0 10 := ⟨⟨(uw_4 111 rfl rfl), (uw_4 114 rfl rfl), (uw_1 1 rfl rfl), by decide, by decide +kernel, by decide⟩, (uw_4 112 rfl rfl), (uw_4 113 rfl rfl), _, _, rfl, by decide, by decide⟩
theorem coL_218 : COV RL 218 yX13_image cX13_image 1 none 0 11 := ⟨⟨(uw_10 159 rfl rfl), (uw_10 162 rfl rfl), (uw_1 13 rfl rfl), by decide, by decide +kernel, by decide⟩, (uw_10 160 rfl rfl), (uw_10 161 rfl rfl), _, _, rfl, by decide, by decide⟩
theorem coL_219 : COV RL 219 yX12_restore cX12_restore 1 (some .boolean) 0 10 := ⟨⟨(uw_4 120 rfl rfl), (uw_4 123 rfl rfl), (uw_1 1 rfl rfl), by decide, by decide +kernel, by decide⟩, (uw_4 121 rfl rfl), (uw_4 122 rfl rfl), _, _, rfl, by decide, by decide⟩
theorem coL_223 : COV RL 223 yX13_restore cX13_restore 1 (some .boolean) 0 11 := ⟨⟨(uw_10 163 rfl rfl), (uw_10 166 rfl rfl), (uw_1 13 rfl rfl), by decide, by decide +kernel, by decide⟩, (uw_10 164 rfl rfl), (uw_10 165 rfl rfl), _, _, rfl, by decide, by decide⟩
theorem coL_100 : COV RL 100 yX13_thrown cX13_thrown 1 (some .int) 0 11 := ⟨⟨(uw_8 73 rfl rfl), (uw_8 76 rfl rfl), (uw_1 13 rfl rfl), by decide, by decide +kernel, by decide⟩, (uw_8 74 rfl rfl), (uw_8 75 rfl rfl), _, _, rfl, by decide, by decide⟩
section LWB
variable {p : Program} {l : Launch} {e : Env} {R : Room} {s : State} {m : MethodId} {args : Array Value} {below : List Frame} {meth : Method} {c : Code} {E : EE} {H : Heap} {locs : List Loc} {cells slots : Nat} {Q : State → Prop} {h g h' : Hp}
variable {b mm ao sc X0 pc0 pu0 L DD : Nat} {xs : Nat → Int32} {i : Int32} {ls : Array Slot}
variable {rest st : List Value} {cc : ByteArray} {own : String} {nL pc mc ms n9 k9 : Nat} {av : List Value}
theorem g_aloadL (X : CxL p E DD R s m args c cc own nL) {k : Fin 4} {i : Nat} {v : Value} (hv : v = .null ∨ ∃ a, v = .ref a) (hdg : decode cc pc = .ok (.aload_n k, 1)) (hi : (k : Nat) = i) (hl : ls[i]? = some (.val v))
    (kk : W p l e R s m args below meth c H locs cells slots Q (F0 m (pc + 1) ls (v :: rest))) : W p l e R s m args below meth c H locs cells slots Q (F0 m pc ls rest) := by
  rcases hv with rfl | ⟨a, rfl⟩
  · exact lv_aload_nN X.1 X.2.1 hdg hi hl kk
  · exact lv_aload_n X.1 X.2.1 hdg hi hl kk
/-- one word of the script: script[i + k] -/
theorem g_arg (X : CxL p E DD R s m args c cc own nL) (S : StL E s h g H locs) (HX : va_X sc L xs s s.heap) (hbl : sc < s.heap.size) {i k z : Int32} {n : Int} (h0 : ls[0]? = some (.val (.ref sc))) (h4 : ls[4]? = some (.val (.int i))) (hin : vp_in (i + k) L) (hn : Int32.ofInt n = k) (hz : xs (i + k).toNatClampNeg = z)
    (d0 : decode cc pc = .ok (.aload_n 0, 1)) (d1 : decode cc (pc + 1) = .ok (.iload 4, 2)) (d3 : decode cc (pc + 3) = .ok (.iconst n, 1)) (d4 : decode cc (pc + 4) = .ok (.iadd, 1)) (d5 : decode cc (pc + 5) = .ok (.iaload, 1))
    (kk : W p l e R s m args below meth c H locs cells slots Q (F0 m (pc + 6) ls (.int z :: rest))) : W p l e R s m args below meth c H locs cells slots Q (F0 m pc ls rest) := by
  refine lv_aload_n X.1 X.2.1 d0 rfl h0 ?_
  refine lv_iload X.1 X.2.1 d1 h4 ?_
  refine lv_iconst (v := k) X.1 X.2.1 d3 hn ?_
  refine lv_iadd X.1 X.2.1 d4 ?_
  refine g_sld X S HX hbl hin d5 ?_
  rw [hz]
  exact kk
theorem g_ciS {v : Int32} {pc : Nat} (S : StL E s h g H locs) (hr : va_Run p l e R s m args below meth c H locs cells slots mc ms (F0 m pc ls st) rest (Qi E (AX s g) h' v av.toArray) (AX s g))
    (kk : ∀ (H1 : Heap), StL E s h' g H1 [] → H.size ≤ H1.size → W p l e R s m args below meth c H1 [] (cells + mc) (slots + ms) Q (F0 m (pc + 3) ls (.int v :: rest))) : W p l e R s m args below meth c H locs cells slots Q (F0 m pc ls st) := by
  refine g_L (h' := h') S hr (fun st₀ t v b0 q => ?_) (fun v st₀ t H1 locs1 b0 ht hz q S1 => ?_)
  · obtain ⟨⟨r, u, hv, -, hB⟩, hF⟩ := q
    exact ⟨hB, hF⟩
  · obtain ⟨⟨r, u, hv, hp, hB⟩, hF⟩ := q
    cases hv
    subst hp
    exact S1.drop fun S1 => kk H1 S1 hz
theorem g_clS {v : Int64} {pc : Nat} (S : StL E s h g H locs) (hr : va_Run p l e R s m args below meth c H locs cells slots mc ms (F0 m pc ls st) rest (Ql E (AX s g) h' v av.toArray) (AX s g))
    (kk : ∀ (H1 : Heap), StL E s h' g H1 [] → H.size ≤ H1.size → W p l e R s m args below meth c H1 [] (cells + mc) (slots + ms) Q (F0 m (pc + 3) ls (.long v :: rest))) : W p l e R s m args below meth c H locs cells slots Q (F0 m pc ls st) := by
  refine g_L (h' := h') S hr (fun st₀ t v b0 q => ?_) (fun v st₀ t H1 locs1 b0 ht hz q S1 => ?_)
  · obtain ⟨⟨r, u, hv, -, hB⟩, hF⟩ := q
    exact ⟨hB, hF⟩
  · obtain ⟨⟨r, u, hv, hp, hB⟩, hF⟩ := q
    cases hv
    subst hp
    exact S1.drop fun S1 => kk H1 S1 hz
theorem g_cvS {pc : Nat} (S : StL E s h g H locs) (hr : va_Run p l e R s m args below meth c H locs cells slots mc ms (F0 m pc ls st) rest (Qv E (AX s g) h' av.toArray) (AX s g))
    (kk : ∀ (H1 : Heap), StL E s h' g H1 [] → H.size ≤ H1.size → W p l e R s m args below meth c H1 [] (cells + mc) (slots + ms) Q (F0 m (pc + 3) ls rest)) : W p l e R s m args below meth c H locs cells slots Q (F0 m pc ls st) := by
  refine g_L (h' := h') S hr (fun st₀ t v b0 q => ?_) (fun v st₀ t H1 locs1 b0 ht hz q S1 => ?_)
  · obtain ⟨⟨u, hv, -, hB⟩, hF⟩ := q
    exact ⟨hB, hF⟩
  · obtain ⟨⟨u, hv, -, hB⟩, hF⟩ := q
    cases hv
    exact S1.drop fun S1 => kk H1 S1 hz
theorem g_cvLA {pc : Nat} (S : StL E s h g H locs) (hr : va_Run p l e R s m args below meth c H locs cells slots k9 n9 (F0 m pc ls st) rest (QG (Qv E (AX s g) h') h h' av.toArray) (AX s g))
    (kk : ∀ (H1 : Heap) (locs1 : List Loc), StL E s h' g H1 locs1 → H1.size = hX h' → W p l e R s m args below meth c H1 locs1 (hX h' - s.heap.size) (slots + (hU h' - hU h)) Q (F0 m (pc + 3) ls rest)) : W p l e R s m args below meth c H locs cells slots Q (F0 m pc ls st) := by
  refine W_know fun w1 w2 w3 => ?_
  refine g_L (h' := h') S hr (fun st₀ t v b0 q => ?_) (fun v st₀ t H1 locs1 b0 ht hz q S1 => ?_)
  · obtain ⟨⟨⟨u, hv, -, hB⟩, hF⟩, -⟩ := q
    exact ⟨hB, hF⟩
  · obtain ⟨⟨⟨u, hv, -, hB⟩, hF⟩, q3, q4, q5⟩ := q
    cases hv
    rw [ht] at q3 q4 q5
    rw [b0] at q4 q5
    have hadd : nS s.heap H1 = nS s.heap H + nS H H1 := nS_add S.2.2.1 hz q5
    have hge := S1.2.2.1
    exact W_narrow (by omega) (by omega) (kk H1 locs1 S1 q3)
/-- counters set anew for a call that may make cells -/
theorem IV_rs {Y : Nat} (iv : IV b mm ao X0 pc0 pu0 h g) (hX : X0 ≤ Y) : IV b mm ao Y pc0 pu0 (h.1, h.2.1, h.2.2.1, h.2.2.2.1, h.2.2.2.2.1, (Y, 0, Y + pc0, pu0)) g := by
  obtain ⟨c, f, r, s, t, many, P, k, A, m, nt, cr, n, tp, fp, im, e, ho, hn, hx, rc, rf⟩ := iv
  exact ⟨c, f, r, s, t, many, P, k, A, m, nt, cr, n, tp, fp, im, e, ho, hn, Nat.lt_of_lt_of_le hx hX, RC_x rc hX (fun _ _ => rfl) (fun _ _ => rfl) (fun _ _ => rfl) (fun _ _ => rfl), rf⟩
theorem g_out {pc : Nat} (X : CxL p E DD R s m args c cc own nL) (S : StL E s h g H locs) (iv : IV b mm ao X0 pc0 pu0 h g) (hdg : decode cc pc = .ok (.laload, 1))
    (kk : W p l e R s m args below meth c H locs cells slots Q (F0 m (pc + 1) ls (.long (hL h ao 0) :: rest))) : W p l e R s m args below meth c H locs cells slots Q (F0 m pc ls (.int 0 :: rv ao :: rest)) := by
  obtain ⟨c, f, r, s, t, many, P, k, A, m, nt, cr, n, tp, fp, im, e, ho, hn, -⟩ := iv
  obtain ⟨K, I, R, L, N, w⟩ := h
  have q : ob (aL ao (jI 0) (K, I, R, L, N, w)) (fun v => some v) = some (L ao 0) := by
    have ho : K ao = 102 := ho
    have hn : N ao = 1 := hn
    rw [o_aL (K := K) (I := I) (R := R) (L := L) (N := N) (w := w) (z := 0) ho (by decide) (by rw [hn]; decide) (by decide)]
    rfl
  exact g_aLL X S hdg q (fun v hv => by cases hv; exact kk)
/-- the end of a case that may throw: the reference's answer on the stack -/
theorem lw_tail {q : Nat} {off : Int} {kk1 v : Int32} (X : CxL p E DD R s m args c cL_law RL 8) (hDD : 19 ≤ DD) (S : StL E s h g H []) (hl : lv_has ls 8 [(5, .int kk1), (4, .int i), (3, rv ao), (2, rv mm), (1, rv b), (0, .ref sc)]) (iv : IV b mm ao X0 pc0 pu0 h g) (e3 : fX13_thrown mm g = some kk1) (e4 : kk1 = 0 → hL h ao 0 = Int32.toInt64 v) (hc : cells ≤ R.cells) (hs : slots ≤ R.slots)
    (d0 : decode cL_law q = .ok (.istore 6, 2)) (d2 : decode cL_law (q + 2) = .ok (.aload_n 2, 1)) (d3 : decode cL_law (q + 3) = .ok (.invokevirtual 100, 3)) (d6 : decode cL_law (q + 6) = .ok (.iload 5, 2)) (d8 : decode cL_law (q + 8) = .ok (.if_icmp .eq 5, 3)) (d13 : decode cL_law (q + 13) = .ok (.iload 5, 2)) (d15 : decode cL_law (q + 15) = .ok (.ifCond .ne 15, 3)) (d18 : decode cL_law (q + 18) = .ok (.aload_n 3, 1)) (d19 : decode cL_law (q + 19) = .ok (.iconst 0, 1)) (d20 : decode cL_law (q + 20) = .ok (.laload, 1)) (d21 : decode cL_law (q + 21) = .ok (.iload 6, 2)) (d23 : decode cL_law (q + 23) = .ok (.i2l, 1)) (d24 : decode cL_law (q + 24) = .ok (.lcmp, 1)) (d25 : decode cL_law (q + 25) = .ok (.ifCond .eq 5, 3)) (d30 : decode cL_law (q + 30) = .ok (.goto off, 3)) (ho : ((q + 30 : Nat) : Int) + off = ((2048 : Nat) : Int))
    (kk : ∀ (H' : Heap) (ls' : Array Slot), StL E s h g H' [] → H.size ≤ H'.size → lv_has ls' 8 [(4, .int i), (3, rv ao), (2, rv mm), (1, rv b), (0, .ref sc)] → W p l e R s m args below meth c H' [] cells slots Q (F0 m 2048 ls' [])) : W p l e R s m args below meth c H [] cells slots Q (F0 m q ls [.int v]) := by
  refine lv_istore (lv' := [(6, .int v), (5, .int kk1), (4, .int i), (3, rv ao), (2, rv mm), (1, rv b), (0, .ref sc)]) X.1 X.2.1 d0 hl (by decide) (by simp [List.filter, cat_rv, cat_wv, cat_sv, cat_i, cat_l]) (fun ls hl => ?_)
  refine g_aloadL X (or_rv _) d2 rfl (lv_at hl 4 rfl) ?_
  refine g_ciS S.swap (runVL (As := []) (rest := []) X S.swap coL_100 (Nat.le_trans (by decide) hDD) (cX13_thrown_m l e3) (tkX13_thrown e3) rfl hl.1 (by simp [cat_rv, cat_wv, cat_sv, cat_i, cat_l, cat_a]) rfl ⟨hc, hs⟩ d3) (fun H1 S1 hz1 => ?_)
  refine lv_iload X.1 X.2.1 d6 (lv_at hl 1 rfl) ?_
  refine lv_icmp_eq (tgt := q + 13) X.1 X.2.1 d8 (Int.natCast_add (q + 8) 5).symm (fun _ => ?_) (fun x => absurd rfl x)
  refine lv_iload X.1 X.2.1 d13 (lv_at hl 1 rfl) ?_
  have fin : W p l e R s m args below meth c H1 [] cells slots Q (F0 m (q + 30) ls []) := by
    refine lv_goto (tgt := 2048) X.1 X.2.1 d30 ho ?_
    exact kk H1 ls S1.swap hz1 (lv_sub hl [2, 3, 4, 5, 6] rfl)
  refine lv_if_ne (tgt := q + 30) X.1 X.2.1 d15 (Int.natCast_add (q + 15) 15).symm (fun _ => fin) (fun x => ?_)
  refine g_aloadL X (or_rv _) d18 rfl (lv_at hl 3 rfl) ?_
  refine lv_iconst (v := 0) X.1 X.2.1 d19 (by decide) ?_
  refine g_out X S1.swap iv d20 ?_
  refine lv_iload X.1 X.2.1 d21 (lv_at hl 0 rfl) ?_
  refine lv_i2l (v := Int32.toInt64 v) X.1 X.2.1 d23 rfl ?_
  refine W.lcmp X.1 X.2.1 d24 ?_
  rw [e4 x]
  refine lv_if_eq (tgt := q + 30) X.1 X.2.1 d25 (Int.natCast_add (q + 25) 5).symm (fun _ => fin) (fun x => absurd ((lg_cmp_eq _ _).mpr rfl) x)
theorem lw_tailL {q : Nat} {off : Int} {kk1 : Int32} {v : Int64} (X : CxL p E DD R s m args c cL_law RL 8) (hDD : 19 ≤ DD) (S : StL E s h g H []) (hl : lv_has ls 8 [(5, .int kk1), (4, .int i), (3, rv ao), (2, rv mm), (1, rv b), (0, .ref sc)]) (iv : IV b mm ao X0 pc0 pu0 h g) (e3 : fX13_thrown mm g = some kk1) (e4 : kk1 = 0 → hL h ao 0 = v) (hc : cells ≤ R.cells) (hs : slots ≤ R.slots)
    (d0 : decode cL_law q = .ok (.lstore 6, 2)) (d2 : decode cL_law (q + 2) = .ok (.aload_n 2, 1)) (d3 : decode cL_law (q + 3) = .ok (.invokevirtual 100, 3)) (d6 : decode cL_law (q + 6) = .ok (.iload 5, 2)) (d8 : decode cL_law (q + 8) = .ok (.if_icmp .eq 5, 3)) (d13 : decode cL_law (q + 13) = .ok (.iload 5, 2)) (d15 : decode cL_law (q + 15) = .ok (.ifCond .ne 14, 3)) (d18 : decode cL_law (q + 18) = .ok (.aload_n 3, 1)) (d19 : decode cL_law (q + 19) = .ok (.iconst 0, 1)) (d20 : decode cL_law (q + 20) = .ok (.laload, 1)) (d21 : decode cL_law (q + 21) = .ok (.lload 6, 2)) (d23 : decode cL_law (q + 23) = .ok (.lcmp, 1)) (d24 : decode cL_law (q + 24) = .ok (.ifCond .eq 5, 3)) (d29 : decode cL_law (q + 29) = .ok (.goto off, 3)) (ho : ((q + 29 : Nat) : Int) + off = ((2048 : Nat) : Int))
    (kk : ∀ (H' : Heap) (ls' : Array Slot), StL E s h g H' [] → H.size ≤ H'.size → lv_has ls' 8 [(4, .int i), (3, rv ao), (2, rv mm), (1, rv b), (0, .ref sc)] → W p l e R s m args below meth c H' [] cells slots Q (F0 m 2048 ls' [])) : W p l e R s m args below meth c H [] cells slots Q (F0 m q ls [.long v]) := by
  refine lv_lstore (lv' := [(6, .long v), (5, .int kk1), (4, .int i), (3, rv ao), (2, rv mm), (1, rv b), (0, .ref sc)]) X.1 X.2.1 d0 hl (by decide) (by simp [List.filter, cat_rv, cat_wv, cat_sv, cat_i, cat_l]) (fun ls hl => ?_)
  refine g_aloadL X (or_rv _) d2 rfl (lv_at hl 4 rfl) ?_
  refine g_ciS S.swap (runVL (As := []) (rest := []) X S.swap coL_100 (Nat.le_trans (by decide) hDD) (cX13_thrown_m l e3) (tkX13_thrown e3) rfl hl.1 (by simp [cat_rv, cat_wv, cat_sv, cat_i, cat_l, cat_a]) rfl ⟨hc, hs⟩ d3) (fun H1 S1 hz1 => ?_)
  refine lv_iload X.1 X.2.1 d6 (lv_at hl 1 rfl) ?_
  refine lv_icmp_eq (tgt := q + 13) X.1 X.2.1 d8 (Int.natCast_add (q + 8) 5).symm (fun _ => ?_) (fun x => absurd rfl x)
  refine lv_iload X.1 X.2.1 d13 (lv_at hl 1 rfl) ?_
  have fin : W p l e R s m args below meth c H1 [] cells slots Q (F0 m (q + 29) ls []) := by
    refine lv_goto (tgt := 2048) X.1 X.2.1 d29 ho ?_
    exact kk H1 ls S1.swap hz1 (lv_sub hl [2, 3, 4, 5, 6] rfl)
  refine lv_if_ne (tgt := q + 29) X.1 X.2.1 d15 (Int.natCast_add (q + 15) 14).symm (fun _ => fin) (fun x => ?_)
  refine g_aloadL X (or_rv _) d18 rfl (lv_at hl 3 rfl) ?_
  refine lv_iconst (v := 0) X.1 X.2.1 d19 (by decide) ?_
  refine g_out X S1.swap iv d20 ?_
  refine lv_lload X.1 X.2.1 d21 (lv_at hl 0 rfl) ?_
  refine W.lcmp X.1 X.2.1 d23 ?_
  rw [e4 x]
  refine lv_if_eq (tgt := q + 29) X.1 X.2.1 d24 (Int.natCast_add (q + 24) 5).symm (fun _ => fin) (fun x => absurd ((lg_cmp_eq _ _).mpr rfl) x)
end LWB
