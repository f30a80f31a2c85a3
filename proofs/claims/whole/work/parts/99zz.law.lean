section LWD
variable {p : Program} {l : Launch} {e : Env} {R : Room} {s : State} {m : MethodId} {args : Array Value} {below : List Frame} {meth : Method} {c : Code} {E : EE} {H : Heap} {locs : List Loc} {cells slots : Nat} {Q : State → Prop} {h g h' : Hp}
variable {b mm ao sc X0 pc0 pu0 L DD : Nat} {xs : Nat → Int32} {i : Int32} {ls : Array Slot}

theorem sw_range (x : Int) : (∃ k : Nat, x = (k : Int) ∧ k < 35) ∨ (x < 0 ∨ 34 < x) := by
  by_cases h : x < 0 ∨ 34 < x
  · exact Or.inr h
  · exact Or.inl ⟨x.toNat, by omega, by omega⟩
theorem vp_j {j k L : Nat} (h1 : j + k < L) (h2 : L < 100000) : vp_in (jI ((j + k : Nat) : Int)) L := j_in (by omega) (by omega) (by omega)
theorem jI_pl {j k : Nat} : jI (j : Int) + jI (k : Int) = jI ((j + k : Nat) : Int) := by
  rw [jI_add]
  rfl
/-- one call of the law -/
theorem lw_case (l : Launch) (hlt : l.stackTraces = false) (X : CxL p E DD R s m args c cL_law RL 8) (hDD : 19 ≤ DD) (HX : va_X sc L xs s s.heap) (hbl : sc < s.heap.size) (hin : vp_in (i + 1) L ∧ vp_in (i + 2) L ∧ vp_in (i + 3) L ∧ vp_in (i + 4) L ∧ vp_in (i + 5) L) (S : StL E s h g H []) (hl : lv_has ls 8 [(4, .int i), (3, rv ao), (2, rv mm), (1, rv b), (0, .ref sc)]) (iv : IV b mm ao X0 pc0 pu0 h g) (hXl : X0 ≤ H.size) (hrc : cells + pc0 + 1 ≤ R.cells) (hrs : slots + pu0 + 6 ≤ R.slots) (z : Int32)
    (kk : ∀ {h' g' : Hp} {H' : Heap} {X' pc' pu' : Nat} {ls' : Array Slot} {cells' slots' : Nat}, StL E s h' g' H' [] → lv_has ls' 8 [(4, .int i), (3, rv ao), (2, rv mm), (1, rv b), (0, .ref sc)] → IV b mm ao X' pc' pu' h' g' → X' ≤ H'.size → cells' + pc' ≤ cells + pc0 + 1 → slots' + pu' ≤ slots + pu0 + 6 → W p l e R s m args below meth c H' [] cells' slots' Q (F0 m 2048 ls' [])) : W p l e R s m args below meth c H [] cells slots Q (F0 m 40 ls [.int z]) := by
  rcases sw_range z.toInt with ⟨k, ek, k35⟩ | ho
  · match k, k35, ek with
    | 0, _, ek => exact lv_tableIn (off := 156) (tgt := 196) X.1 X.2.1 dL_law_40 (by rw [ek]; decide) (by rw [ek]; decide) (by rw [ek]; rfl) (by decide) (lc_0 l hlt X hDD HX hbl hin S hl iv hXl hrc hrs kk)
    | 1, _, ek => exact lv_tableIn (off := 229) (tgt := 269) X.1 X.2.1 dL_law_40 (by rw [ek]; decide) (by rw [ek]; decide) (by rw [ek]; rfl) (by decide) (lc_1 l hlt X hDD HX hbl hin S hl iv hXl hrc hrs kk)
    | 2, _, ek => exact lv_tableIn (off := 285) (tgt := 325) X.1 X.2.1 dL_law_40 (by rw [ek]; decide) (by rw [ek]; decide) (by rw [ek]; rfl) (by decide) (lc_2 l hlt X hDD HX hbl hin S hl iv hXl hrc hrs kk)
    | 3, _, ek => exact lv_tableIn (off := 298) (tgt := 338) X.1 X.2.1 dL_law_40 (by rw [ek]; decide) (by rw [ek]; decide) (by rw [ek]; rfl) (by decide) (lc_3 l hlt X hDD HX hbl hin S hl iv hXl hrc hrs kk)
    | 4, _, ek => exact lv_tableIn (off := 354) (tgt := 394) X.1 X.2.1 dL_law_40 (by rw [ek]; decide) (by rw [ek]; decide) (by rw [ek]; rfl) (by decide) (lc_4 l hlt X hDD HX hbl hin S hl iv hXl hrc hrs kk)
    | 5, _, ek => exact lv_tableIn (off := 410) (tgt := 450) X.1 X.2.1 dL_law_40 (by rw [ek]; decide) (by rw [ek]; decide) (by rw [ek]; rfl) (by decide) (lc_5 l hlt X hDD HX hbl hin S hl iv hXl hrc hrs kk)
    | 6, _, ek => exact lv_tableIn (off := 466) (tgt := 506) X.1 X.2.1 dL_law_40 (by rw [ek]; decide) (by rw [ek]; decide) (by rw [ek]; rfl) (by decide) (lc_6 l hlt X hDD HX hbl hin S hl iv hXl hrc hrs kk)
    | 7, _, ek => exact lv_tableIn (off := 522) (tgt := 562) X.1 X.2.1 dL_law_40 (by rw [ek]; decide) (by rw [ek]; decide) (by rw [ek]; rfl) (by decide) (lc_7 l hlt X hDD HX hbl hin S hl iv hXl hrc hrs kk)
    | 8, _, ek => exact lv_tableIn (off := 578) (tgt := 618) X.1 X.2.1 dL_law_40 (by rw [ek]; decide) (by rw [ek]; decide) (by rw [ek]; rfl) (by decide) (lc_8 l hlt X hDD HX hbl hin S hl iv hXl hrc hrs kk)
    | 9, _, ek => exact lv_tableIn (off := 634) (tgt := 674) X.1 X.2.1 dL_law_40 (by rw [ek]; decide) (by rw [ek]; decide) (by rw [ek]; rfl) (by decide) (lc_9 l hlt X hDD HX hbl hin S hl iv hXl hrc hrs kk)
    | 10, _, ek => exact lv_tableIn (off := 702) (tgt := 742) X.1 X.2.1 dL_law_40 (by rw [ek]; decide) (by rw [ek]; decide) (by rw [ek]; rfl) (by decide) (lc_10 l hlt X hDD HX hbl hin S hl iv hXl hrc hrs kk)
    | 11, _, ek => exact lv_tableIn (off := 810) (tgt := 850) X.1 X.2.1 dL_law_40 (by rw [ek]; decide) (by rw [ek]; decide) (by rw [ek]; rfl) (by decide) (lc_11 l hlt X hDD HX hbl hin S hl iv hXl hrc hrs kk)
    | 12, _, ek => exact lv_tableIn (off := 905) (tgt := 945) X.1 X.2.1 dL_law_40 (by rw [ek]; decide) (by rw [ek]; decide) (by rw [ek]; rfl) (by decide) (lc_12 l hlt X hDD HX hbl hin S hl iv hXl hrc hrs kk)
    | 13, _, ek => exact lv_tableIn (off := 1009) (tgt := 1049) X.1 X.2.1 dL_law_40 (by rw [ek]; decide) (by rw [ek]; decide) (by rw [ek]; rfl) (by decide) (lc_13 l hlt X hDD HX hbl hin S hl iv hXl hrc hrs kk)
    | 14, _, ek => exact lv_tableIn (off := 1089) (tgt := 1129) X.1 X.2.1 dL_law_40 (by rw [ek]; decide) (by rw [ek]; decide) (by rw [ek]; rfl) (by decide) (lc_14 l hlt X hDD HX hbl hin S hl iv hXl hrc hrs kk)
    | 15, _, ek => exact lv_tableIn (off := 1180) (tgt := 1220) X.1 X.2.1 dL_law_40 (by rw [ek]; decide) (by rw [ek]; decide) (by rw [ek]; rfl) (by decide) (lc_15 l hlt X hDD HX hbl hin S hl iv hXl hrc hrs kk)
    | 16, _, ek => exact lv_tableIn (off := 1205) (tgt := 1245) X.1 X.2.1 dL_law_40 (by rw [ek]; decide) (by rw [ek]; decide) (by rw [ek]; rfl) (by decide) (lc_16 l hlt X hDD HX hbl hin S hl iv hXl hrc hrs kk)
    | 17, _, ek => exact lv_tableIn (off := 1242) (tgt := 1282) X.1 X.2.1 dL_law_40 (by rw [ek]; decide) (by rw [ek]; decide) (by rw [ek]; rfl) (by decide) (lc_17 l hlt X hDD HX hbl hin S hl iv hXl hrc hrs kk)
    | 18, _, ek => exact lv_tableIn (off := 1279) (tgt := 1319) X.1 X.2.1 dL_law_40 (by rw [ek]; decide) (by rw [ek]; decide) (by rw [ek]; rfl) (by decide) (lc_18 l hlt X hDD HX hbl hin S hl iv hXl hrc hrs kk)
    | 19, _, ek => exact lv_tableIn (off := 1304) (tgt := 1344) X.1 X.2.1 dL_law_40 (by rw [ek]; decide) (by rw [ek]; decide) (by rw [ek]; rfl) (by decide) (lc_19 l hlt X hDD HX hbl hin S hl iv hXl hrc hrs kk)
    | 20, _, ek => exact lv_tableIn (off := 1317) (tgt := 1357) X.1 X.2.1 dL_law_40 (by rw [ek]; decide) (by rw [ek]; decide) (by rw [ek]; rfl) (by decide) (lc_20 l hlt X hDD HX hbl hin S hl iv hXl hrc hrs kk)
    | 21, _, ek => exact lv_tableIn (off := 1330) (tgt := 1370) X.1 X.2.1 dL_law_40 (by rw [ek]; decide) (by rw [ek]; decide) (by rw [ek]; rfl) (by decide) (lc_21 l hlt X hDD HX hbl hin S hl iv hXl hrc hrs kk)
    | 22, _, ek => exact lv_tableIn (off := 1398) (tgt := 1438) X.1 X.2.1 dL_law_40 (by rw [ek]; decide) (by rw [ek]; decide) (by rw [ek]; rfl) (by decide) (lc_22 l hlt X hDD HX hbl hin S hl iv hXl hrc hrs kk)
    | 23, _, ek => exact lv_tableIn (off := 1466) (tgt := 1506) X.1 X.2.1 dL_law_40 (by rw [ek]; decide) (by rw [ek]; decide) (by rw [ek]; rfl) (by decide) (lc_23 l hlt X hDD HX hbl hin S hl iv hXl hrc hrs kk)
    | 24, _, ek => exact lv_tableIn (off := 1534) (tgt := 1574) X.1 X.2.1 dL_law_40 (by rw [ek]; decide) (by rw [ek]; decide) (by rw [ek]; rfl) (by decide) (lc_24 l hlt X hDD HX hbl hin S hl iv hXl hrc hrs kk)
    | 25, _, ek => exact lv_tableIn (off := 1590) (tgt := 1630) X.1 X.2.1 dL_law_40 (by rw [ek]; decide) (by rw [ek]; decide) (by rw [ek]; rfl) (by decide) (lc_25 l hlt X hDD HX hbl hin S hl iv hXl hrc hrs kk)
    | 26, _, ek => exact lv_tableIn (off := 1603) (tgt := 1643) X.1 X.2.1 dL_law_40 (by rw [ek]; decide) (by rw [ek]; decide) (by rw [ek]; rfl) (by decide) (lc_26 l hlt X hDD HX hbl hin S hl iv hXl hrc hrs kk)
    | 27, _, ek => exact lv_tableIn (off := 1659) (tgt := 1699) X.1 X.2.1 dL_law_40 (by rw [ek]; decide) (by rw [ek]; decide) (by rw [ek]; rfl) (by decide) (lc_27 l hlt X hDD HX hbl hin S hl iv hXl hrc hrs kk)
    | 28, _, ek => exact lv_tableIn (off := 1672) (tgt := 1712) X.1 X.2.1 dL_law_40 (by rw [ek]; decide) (by rw [ek]; decide) (by rw [ek]; rfl) (by decide) (lc_28 l hlt X hDD HX hbl hin S hl iv hXl hrc hrs kk)
    | 29, _, ek => exact lv_tableIn (off := 1764) (tgt := 1804) X.1 X.2.1 dL_law_40 (by rw [ek]; decide) (by rw [ek]; decide) (by rw [ek]; rfl) (by decide) (lc_29 l hlt X hDD HX hbl hin S hl iv hXl hrc hrs kk)
    | 30, _, ek => exact lv_tableIn (off := 1813) (tgt := 1853) X.1 X.2.1 dL_law_40 (by rw [ek]; decide) (by rw [ek]; decide) (by rw [ek]; rfl) (by decide) (lc_30 l hlt X hDD HX hbl hin S hl iv hXl hrc hrs kk)
    | 31, _, ek => exact lv_tableIn (off := 1893) (tgt := 1933) X.1 X.2.1 dL_law_40 (by rw [ek]; decide) (by rw [ek]; decide) (by rw [ek]; rfl) (by decide) (lc_31 l hlt X hDD HX hbl hin S hl iv hXl hrc hrs kk)
    | 32, _, ek => exact lv_tableIn (off := 1904) (tgt := 1944) X.1 X.2.1 dL_law_40 (by rw [ek]; decide) (by rw [ek]; decide) (by rw [ek]; rfl) (by decide) (lc_32 l hlt X hDD HX hbl hin S hl iv hXl hrc hrs kk)
    | 33, _, ek => exact lv_tableIn (off := 1984) (tgt := 2024) X.1 X.2.1 dL_law_40 (by rw [ek]; decide) (by rw [ek]; decide) (by rw [ek]; rfl) (by decide) (lc_33 l hlt X hDD HX hbl hin S hl iv hXl hrc hrs kk)
    | 34, _, ek => exact lv_tableIn (off := 1995) (tgt := 2035) X.1 X.2.1 dL_law_40 (by rw [ek]; decide) (by rw [ek]; decide) (by rw [ek]; rfl) (by decide) (lc_34 l hlt X hDD HX hbl hin S hl iv hXl hrc hrs kk)
    | (k + 35), h, _ => exact absurd h (Nat.not_lt.mpr (Nat.le_add_left 35 k))
  · exact lv_tableOut (tgt := 2048) X.1 X.2.1 dL_law_40 ho (by decide) (kk S hl iv hXl (by omega) (by omega))
/-- the law's loop: j words are behind, n calls at most before it -/
theorem lw_loop (l : Launch) (hlt : l.stackTraces = false) (X : CxL p E DD R s m args c cL_law RL 8) (hDD : 19 ≤ DD) (HX : va_X sc L xs s s.heap) (hbl : sc < s.heap.size) (hL : L ≤ 3072)
    (fin : ∀ (H' : Heap) (ls' : Array Slot) (cells' slots' : Nat), cells' ≤ R.cells → slots' ≤ R.slots → W p l e R s m args below meth c H' [] cells' slots' Q (F0 m 2055 ls' [.int 1])) :
    ∀ (n j : Nat) {h g : Hp} {H : Heap} {X0 pc0 pu0 cells slots : Nat} {ls : Array Slot}, L ≤ j + 6 * n + 5 → j ≤ 3072 → StL E s h g H [] → lv_has ls 8 [(4, .int (jI (j : Int))), (3, rv ao), (2, rv mm), (1, rv b), (0, .ref sc)] → IV b mm ao X0 pc0 pu0 h g → X0 ≤ H.size → cells + pc0 + n ≤ R.cells → slots + pu0 + 6 * n ≤ R.slots → W p l e R s m args below meth c H [] cells slots Q (F0 m 23 ls []) := by
  intro n
  induction n with
  | zero =>
    intro j h g H X0 pc0 pu0 cells slots ls h1 h2 S hl iv hXl hrc hrs
    refine lv_iload X.1 X.2.1 dL_law_23 (lv_at hl 0 rfl) ?_
    refine lv_aload_n X.1 X.2.1 dL_law_25 rfl (lv_at hl 4 rfl) ?_
    refine g_slen X S HX hbl dL_law_26 ?_
    refine lv_bipush (v := 6) X.1 X.2.1 dL_law_27 (by decide) ?_
    refine lv_isub X.1 X.2.1 dL_law_29 ?_
    rw [show Int32.ofNat L - 6 = jI ((L : Int) - 6) from by (rw [jI_nI]; (try rw [show (6 : Int32) = jI 6 from rfl]); (try rw [jI_sub]))]
    refine lv_icmp_gt (tgt := 2054) X.1 X.2.1 dL_law_30 (by decide) (fun _ => ?_) (fun x => absurd ?_ x)
    · refine lv_iconst (v := 1) X.1 X.2.1 dL_law_2054 (by decide) ?_
      exact fin H ls cells slots (by omega) (by omega)
    · rw [jI_lt (by omega) (by omega) (by omega) (by omega)]
      omega
  | succ n ih =>
    intro j h g H X0 pc0 pu0 cells slots ls h1 h2 S hl iv hXl hrc hrs
    refine lv_iload X.1 X.2.1 dL_law_23 (lv_at hl 0 rfl) ?_
    refine lv_aload_n X.1 X.2.1 dL_law_25 rfl (lv_at hl 4 rfl) ?_
    refine g_slen X S HX hbl dL_law_26 ?_
    refine lv_bipush (v := 6) X.1 X.2.1 dL_law_27 (by decide) ?_
    refine lv_isub X.1 X.2.1 dL_law_29 ?_
    rw [show Int32.ofNat L - 6 = jI ((L : Int) - 6) from by (rw [jI_nI]; (try rw [show (6 : Int32) = jI 6 from rfl]); (try rw [jI_sub]))]
    refine lv_icmp_gt (tgt := 2054) X.1 X.2.1 dL_law_30 (by decide) (fun _ => ?_) (fun x => ?_)
    · refine lv_iconst (v := 1) X.1 X.2.1 dL_law_2054 (by decide) ?_
      exact fin H ls cells slots (by omega) (by omega)
    · rw [jI_lt (by omega) (by omega) (by omega) (by omega)] at x
      have hj : j + 6 ≤ L := by omega
      refine lv_aload_n X.1 X.2.1 dL_law_33 rfl (lv_at hl 4 rfl) ?_
      refine lv_iload X.1 X.2.1 dL_law_34 (lv_at hl 0 rfl) ?_
      refine g_sld X S HX hbl (vp_j (j := j) (k := 0) (by omega) (by omega)) dL_law_36 ?_
      refine lv_bipush (v := 63) X.1 X.2.1 dL_law_37 (by decide) ?_
      refine lv_iand X.1 X.2.1 dL_law_39 ?_
      have hin : vp_in (jI (j : Int) + 1) L ∧ vp_in (jI (j : Int) + 2) L ∧ vp_in (jI (j : Int) + 3) L ∧ vp_in (jI (j : Int) + 4) L ∧ vp_in (jI (j : Int) + 5) L := by
        refine ⟨?_, ?_, ?_, ?_, ?_⟩
        · rw [show (1 : Int32) = jI ((1 : Nat) : Int) from rfl, jI_pl]; exact vp_j (by omega) (by omega)
        · rw [show (2 : Int32) = jI ((2 : Nat) : Int) from rfl, jI_pl]; exact vp_j (by omega) (by omega)
        · rw [show (3 : Int32) = jI ((3 : Nat) : Int) from rfl, jI_pl]; exact vp_j (by omega) (by omega)
        · rw [show (4 : Int32) = jI ((4 : Nat) : Int) from rfl, jI_pl]; exact vp_j (by omega) (by omega)
        · rw [show (5 : Int32) = jI ((5 : Nat) : Int) from rfl, jI_pl]; exact vp_j (by omega) (by omega)
      refine lw_case l hlt X hDD HX hbl hin S hl iv hXl (by omega) (by omega) _ ?_
      intro h' g' H' X' pc' pu' ls' cells' slots' S' hl' iv' hX' hc' hs'
      refine lv_iinc (v := jI ((j + 6 : Nat) : Int)) (lv' := [(4, .int (jI ((j + 6 : Nat) : Int))), (3, rv ao), (2, rv mm), (1, rv b), (0, .ref sc)]) X.1 X.2.1 dL_law_2048 hl' (k := 0) rfl (jI_pl (k := 6)) (by decide) (by simp [List.filter, cat_rv]) (fun ls2 hl2 => ?_)
      refine lv_goto (tgt := 23) X.1 X.2.1 dL_law_2051 (by decide) ?_
      exact ih (j + 6) (by omega) (by omega) S' hl2 iv' hX' (by omega) (by omega)
end LWD
