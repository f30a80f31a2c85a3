section LWC
variable {p : Program} {l : Launch} {e : Env} {R : Room} {s : State} {m : MethodId} {args : Array Value} {below : List Frame} {meth : Method} {c : Code} {E : EE} {H : Heap} {locs : List Loc} {cells slots : Nat} {Q : State → Prop} {h g h' : Hp}
variable {b mm ao sc X0 pc0 pu0 L DD : Nat} {xs : Nat → Int32} {i : Int32} {ls : Array Slot}
theorem lc_5 (l : Launch) (hlt : l.stackTraces = false) (X : CxL p E DD R s m args c cL_law RL 8) (hDD : 19 ≤ DD) (HX : va_X sc L xs s s.heap) (hbl : sc < s.heap.size) (hin : vp_in (i + 1) L ∧ vp_in (i + 2) L ∧ vp_in (i + 3) L ∧ vp_in (i + 4) L ∧ vp_in (i + 5) L) (S : StL E s h g H []) (hl : lv_has ls 8 [(4, .int i), (3, rv ao), (2, rv mm), (1, rv b), (0, .ref sc)]) (iv : IV b mm ao X0 pc0 pu0 h g) (hXl : X0 ≤ H.size) (hrc : cells + pc0 + 1 ≤ R.cells) (hrs : slots + pu0 + 6 ≤ R.slots)
    (kk : ∀ {h' g' : Hp} {H' : Heap} {X' pc' pu' : Nat} {ls' : Array Slot} {cells' slots' : Nat}, StL E s h' g' H' [] → lv_has ls' 8 [(4, .int i), (3, rv ao), (2, rv mm), (1, rv b), (0, .ref sc)] → IV b mm ao X' pc' pu' h' g' → X' ≤ H'.size → cells' + pc' ≤ cells + pc0 + 1 → slots' + pu' ≤ slots + pu0 + 6 → W p l e R s m args below meth c H' [] cells' slots' Q (F0 m 2048 ls' [])) : W p l e R s m args below meth c H [] cells slots Q (F0 m 450 ls []) := by
  obtain ⟨z1, hz1⟩ : ∃ z, xs (i + 1).toNatClampNeg = z := ⟨_, rfl⟩
  obtain ⟨kk1, h1, v, g1, e1, e2, e3, e4, iv1⟩ := hc_register (z0 := z1) iv
  have r1 : cells + 1 ≤ R.cells := by omega
  have r2 : slots + 6 ≤ R.slots := by omega
  refine g_aloadL X (or_rv _) dL_law_450 rfl (lv_at hl 3 rfl) ?_
  refine g_arg (k := 1) X S HX hbl (lv_at hl 4 rfl) (lv_at hl 0 rfl) hin.1 rfl hz1 dL_law_451 dL_law_452 dL_law_454 dL_law_455 dL_law_456 ?_
  refine g_aloadL X (or_rv _) dL_law_457 rfl (lv_at hl 1 rfl) ?_
  refine g_ciS S (runHL (Pc := PcL E (AX s g) h [rv b, .int z1, rv ao]) (As := [rv b, .int z1, rv ao]) (rest := []) (n := 3) X blindL (pre_okL X S _) (uw_5 211 rfl rfl) (uw_5 213 rfl rfl) (uw_1 0 rfl rfl) (by decide) (by decide +kernel) (by decide) (uw_5 212 rfl rfl) (Nat.le_trans (by decide) hDD) (cL_register_h l hlt e1) rfl hl.1 (by simp [cat_rv, cat_wv, cat_sv, cat_i, cat_l, cat_a]) rfl ⟨r1, r2⟩ dL_law_458) (fun H1 S1 y1 => ?_)
  refine lv_istore (lv' := [(5, .int kk1), (4, .int i), (3, rv ao), (2, rv mm), (1, rv b), (0, .ref sc)]) X.1 X.2.1 dL_law_461 hl (by decide) (by simp [List.filter, cat_rv, cat_wv, cat_sv, cat_i, cat_l]) (fun ls hl => ?_)
  refine g_aloadL X (or_rv _) dL_law_463 rfl (lv_at hl 3 rfl) ?_
  clear S
  rename StL E s h1 g H1 [] => S
  refine g_arg (k := 1) X S HX hbl (lv_at hl 5 rfl) (lv_at hl 1 rfl) hin.1 rfl hz1 dL_law_464 dL_law_465 dL_law_467 dL_law_468 dL_law_469 ?_
  refine g_ciS S.swap (runVL (As := [.int z1]) (rest := []) X S.swap coL_116 (Nat.le_trans (by decide) hDD) (cX13_register_m l e2) (tkX13_register e2) rfl hl.1 (by simp [cat_rv, cat_wv, cat_sv, cat_i, cat_l, cat_a]) rfl ⟨r1, r2⟩ dL_law_470) (fun H2 S2 y2 => ?_)
  exact lw_tail X hDD S2.swap hl iv1 e3 e4 r1 r2 dL_law_473 dL_law_475 dL_law_476 dL_law_479 dL_law_481 dL_law_486 dL_law_488 dL_law_491 dL_law_492 dL_law_493 dL_law_494 dL_law_496 dL_law_497 dL_law_498 dL_law_503 (by decide) (fun H3 ls S3 y3 hl3 => kk S3 hl3 iv1 (Nat.le_trans hXl (Nat.le_trans y1 (Nat.le_trans y2 y3))) (by omega) (by omega))
theorem lc_6 (l : Launch) (hlt : l.stackTraces = false) (X : CxL p E DD R s m args c cL_law RL 8) (hDD : 19 ≤ DD) (HX : va_X sc L xs s s.heap) (hbl : sc < s.heap.size) (hin : vp_in (i + 1) L ∧ vp_in (i + 2) L ∧ vp_in (i + 3) L ∧ vp_in (i + 4) L ∧ vp_in (i + 5) L) (S : StL E s h g H []) (hl : lv_has ls 8 [(4, .int i), (3, rv ao), (2, rv mm), (1, rv b), (0, .ref sc)]) (iv : IV b mm ao X0 pc0 pu0 h g) (hXl : X0 ≤ H.size) (hrc : cells + pc0 + 1 ≤ R.cells) (hrs : slots + pu0 + 6 ≤ R.slots)
    (kk : ∀ {h' g' : Hp} {H' : Heap} {X' pc' pu' : Nat} {ls' : Array Slot} {cells' slots' : Nat}, StL E s h' g' H' [] → lv_has ls' 8 [(4, .int i), (3, rv ao), (2, rv mm), (1, rv b), (0, .ref sc)] → IV b mm ao X' pc' pu' h' g' → X' ≤ H'.size → cells' + pc' ≤ cells + pc0 + 1 → slots' + pu' ≤ slots + pu0 + 6 → W p l e R s m args below meth c H' [] cells' slots' Q (F0 m 2048 ls' [])) : W p l e R s m args below meth c H [] cells slots Q (F0 m 506 ls []) := by
  obtain ⟨z1, hz1⟩ : ∃ z, xs (i + 1).toNatClampNeg = z := ⟨_, rfl⟩
  obtain ⟨kk1, h1, v, g1, e1, e2, e3, e4, iv1⟩ := hc_guard (z0 := z1) iv
  have r1 : cells + 1 ≤ R.cells := by omega
  have r2 : slots + 6 ≤ R.slots := by omega
  refine g_aloadL X (or_rv _) dL_law_506 rfl (lv_at hl 3 rfl) ?_
  refine g_arg (k := 1) X S HX hbl (lv_at hl 4 rfl) (lv_at hl 0 rfl) hin.1 rfl hz1 dL_law_507 dL_law_508 dL_law_510 dL_law_511 dL_law_512 ?_
  refine g_aloadL X (or_rv _) dL_law_513 rfl (lv_at hl 1 rfl) ?_
  refine g_ciS S (runHL (Pc := PcL E (AX s g) h [rv b, .int z1, rv ao]) (As := [rv b, .int z1, rv ao]) (rest := []) (n := 3) X blindL (pre_okL X S _) (uw_5 223 rfl rfl) (uw_5 225 rfl rfl) (uw_1 0 rfl rfl) (by decide) (by decide +kernel) (by decide) (uw_5 224 rfl rfl) (Nat.le_trans (by decide) hDD) (cL_guard_h l hlt e1) rfl hl.1 (by simp [cat_rv, cat_wv, cat_sv, cat_i, cat_l, cat_a]) rfl ⟨r1, r2⟩ dL_law_514) (fun H1 S1 y1 => ?_)
  refine lv_istore (lv' := [(5, .int kk1), (4, .int i), (3, rv ao), (2, rv mm), (1, rv b), (0, .ref sc)]) X.1 X.2.1 dL_law_517 hl (by decide) (by simp [List.filter, cat_rv, cat_wv, cat_sv, cat_i, cat_l]) (fun ls hl => ?_)
  refine g_aloadL X (or_rv _) dL_law_519 rfl (lv_at hl 3 rfl) ?_
  clear S
  rename StL E s h1 g H1 [] => S
  refine g_arg (k := 1) X S HX hbl (lv_at hl 5 rfl) (lv_at hl 1 rfl) hin.1 rfl hz1 dL_law_520 dL_law_521 dL_law_523 dL_law_524 dL_law_525 ?_
  refine g_ciS S.swap (runVL (As := [.int z1]) (rest := []) X S.swap coL_119 (Nat.le_trans (by decide) hDD) (cX13_guard_m l e2) (tkX13_guard e2) rfl hl.1 (by simp [cat_rv, cat_wv, cat_sv, cat_i, cat_l, cat_a]) rfl ⟨r1, r2⟩ dL_law_526) (fun H2 S2 y2 => ?_)
  exact lw_tail X hDD S2.swap hl iv1 e3 e4 r1 r2 dL_law_529 dL_law_531 dL_law_532 dL_law_535 dL_law_537 dL_law_542 dL_law_544 dL_law_547 dL_law_548 dL_law_549 dL_law_550 dL_law_552 dL_law_553 dL_law_554 dL_law_559 (by decide) (fun H3 ls S3 y3 hl3 => kk S3 hl3 iv1 (Nat.le_trans hXl (Nat.le_trans y1 (Nat.le_trans y2 y3))) (by omega) (by omega))
theorem lc_7 (l : Launch) (hlt : l.stackTraces = false) (X : CxL p E DD R s m args c cL_law RL 8) (hDD : 19 ≤ DD) (HX : va_X sc L xs s s.heap) (hbl : sc < s.heap.size) (hin : vp_in (i + 1) L ∧ vp_in (i + 2) L ∧ vp_in (i + 3) L ∧ vp_in (i + 4) L ∧ vp_in (i + 5) L) (S : StL E s h g H []) (hl : lv_has ls 8 [(4, .int i), (3, rv ao), (2, rv mm), (1, rv b), (0, .ref sc)]) (iv : IV b mm ao X0 pc0 pu0 h g) (hXl : X0 ≤ H.size) (hrc : cells + pc0 + 1 ≤ R.cells) (hrs : slots + pu0 + 6 ≤ R.slots)
    (kk : ∀ {h' g' : Hp} {H' : Heap} {X' pc' pu' : Nat} {ls' : Array Slot} {cells' slots' : Nat}, StL E s h' g' H' [] → lv_has ls' 8 [(4, .int i), (3, rv ao), (2, rv mm), (1, rv b), (0, .ref sc)] → IV b mm ao X' pc' pu' h' g' → X' ≤ H'.size → cells' + pc' ≤ cells + pc0 + 1 → slots' + pu' ≤ slots + pu0 + 6 → W p l e R s m args below meth c H' [] cells' slots' Q (F0 m 2048 ls' [])) : W p l e R s m args below meth c H [] cells slots Q (F0 m 562 ls []) := by
  obtain ⟨z1, hz1⟩ : ∃ z, xs (i + 1).toNatClampNeg = z := ⟨_, rfl⟩
  obtain ⟨kk1, h1, v, g1, e1, e2, e3, e4, iv1⟩ := hc_done (z0 := z1) iv
  have r1 : cells + 1 ≤ R.cells := by omega
  have r2 : slots + 6 ≤ R.slots := by omega
  refine g_aloadL X (or_rv _) dL_law_562 rfl (lv_at hl 3 rfl) ?_
  refine g_arg (k := 1) X S HX hbl (lv_at hl 4 rfl) (lv_at hl 0 rfl) hin.1 rfl hz1 dL_law_563 dL_law_564 dL_law_566 dL_law_567 dL_law_568 ?_
  refine g_aloadL X (or_rv _) dL_law_569 rfl (lv_at hl 1 rfl) ?_
  refine g_ciS S (runHL (Pc := PcL E (AX s g) h [rv b, .int z1, rv ao]) (As := [rv b, .int z1, rv ao]) (rest := []) (n := 3) X blindL (pre_okL X S _) (uw_5 235 rfl rfl) (uw_5 237 rfl rfl) (uw_1 0 rfl rfl) (by decide) (by decide +kernel) (by decide) (uw_5 236 rfl rfl) (Nat.le_trans (by decide) hDD) (cL_done_h l hlt e1) rfl hl.1 (by simp [cat_rv, cat_wv, cat_sv, cat_i, cat_l, cat_a]) rfl ⟨r1, r2⟩ dL_law_570) (fun H1 S1 y1 => ?_)
  refine lv_istore (lv' := [(5, .int kk1), (4, .int i), (3, rv ao), (2, rv mm), (1, rv b), (0, .ref sc)]) X.1 X.2.1 dL_law_573 hl (by decide) (by simp [List.filter, cat_rv, cat_wv, cat_sv, cat_i, cat_l]) (fun ls hl => ?_)
  refine g_aloadL X (or_rv _) dL_law_575 rfl (lv_at hl 3 rfl) ?_
  clear S
  rename StL E s h1 g H1 [] => S
  refine g_arg (k := 1) X S HX hbl (lv_at hl 5 rfl) (lv_at hl 1 rfl) hin.1 rfl hz1 dL_law_576 dL_law_577 dL_law_579 dL_law_580 dL_law_581 ?_
  refine g_ciS S.swap (runVL (As := [.int z1]) (rest := []) X S.swap coL_122 (Nat.le_trans (by decide) hDD) (cX13_done_m l e2) (tkX13_done e2) rfl hl.1 (by simp [cat_rv, cat_wv, cat_sv, cat_i, cat_l, cat_a]) rfl ⟨r1, r2⟩ dL_law_582) (fun H2 S2 y2 => ?_)
  exact lw_tail X hDD S2.swap hl iv1 e3 e4 r1 r2 dL_law_585 dL_law_587 dL_law_588 dL_law_591 dL_law_593 dL_law_598 dL_law_600 dL_law_603 dL_law_604 dL_law_605 dL_law_606 dL_law_608 dL_law_609 dL_law_610 dL_law_615 (by decide) (fun H3 ls S3 y3 hl3 => kk S3 hl3 iv1 (Nat.le_trans hXl (Nat.le_trans y1 (Nat.le_trans y2 y3))) (by omega) (by omega))
theorem lc_8 (l : Launch) (hlt : l.stackTraces = false) (X : CxL p E DD R s m args c cL_law RL 8) (hDD : 19 ≤ DD) (HX : va_X sc L xs s s.heap) (hbl : sc < s.heap.size) (hin : vp_in (i + 1) L ∧ vp_in (i + 2) L ∧ vp_in (i + 3) L ∧ vp_in (i + 4) L ∧ vp_in (i + 5) L) (S : StL E s h g H []) (hl : lv_has ls 8 [(4, .int i), (3, rv ao), (2, rv mm), (1, rv b), (0, .ref sc)]) (iv : IV b mm ao X0 pc0 pu0 h g) (hXl : X0 ≤ H.size) (hrc : cells + pc0 + 1 ≤ R.cells) (hrs : slots + pu0 + 6 ≤ R.slots)
    (kk : ∀ {h' g' : Hp} {H' : Heap} {X' pc' pu' : Nat} {ls' : Array Slot} {cells' slots' : Nat}, StL E s h' g' H' [] → lv_has ls' 8 [(4, .int i), (3, rv ao), (2, rv mm), (1, rv b), (0, .ref sc)] → IV b mm ao X' pc' pu' h' g' → X' ≤ H'.size → cells' + pc' ≤ cells + pc0 + 1 → slots' + pu' ≤ slots + pu0 + 6 → W p l e R s m args below meth c H' [] cells' slots' Q (F0 m 2048 ls' [])) : W p l e R s m args below meth c H [] cells slots Q (F0 m 618 ls []) := by
  obtain ⟨z1, hz1⟩ : ∃ z, xs (i + 1).toNatClampNeg = z := ⟨_, rfl⟩
  obtain ⟨kk1, h1, v, g1, e1, e2, e3, e4, iv1⟩ := hc_trace (z0 := z1) iv
  have r1 : cells + 1 ≤ R.cells := by omega
  have r2 : slots + 6 ≤ R.slots := by omega
  refine g_aloadL X (or_rv _) dL_law_618 rfl (lv_at hl 3 rfl) ?_
  refine g_arg (k := 1) X S HX hbl (lv_at hl 4 rfl) (lv_at hl 0 rfl) hin.1 rfl hz1 dL_law_619 dL_law_620 dL_law_622 dL_law_623 dL_law_624 ?_
  refine g_aloadL X (or_rv _) dL_law_625 rfl (lv_at hl 1 rfl) ?_
  refine g_ciS S (runHL (Pc := PcL E (AX s g) h [rv b, .int z1, rv ao]) (As := [rv b, .int z1, rv ao]) (rest := []) (n := 3) X blindL (pre_okL X S _) (uw_6 3 rfl rfl) (uw_6 5 rfl rfl) (uw_1 0 rfl rfl) (by decide) (by decide +kernel) (by decide) (uw_6 4 rfl rfl) (Nat.le_trans (by decide) hDD) (cL_trace_h l hlt e1) rfl hl.1 (by simp [cat_rv, cat_wv, cat_sv, cat_i, cat_l, cat_a]) rfl ⟨r1, r2⟩ dL_law_626) (fun H1 S1 y1 => ?_)
  refine lv_istore (lv' := [(5, .int kk1), (4, .int i), (3, rv ao), (2, rv mm), (1, rv b), (0, .ref sc)]) X.1 X.2.1 dL_law_629 hl (by decide) (by simp [List.filter, cat_rv, cat_wv, cat_sv, cat_i, cat_l]) (fun ls hl => ?_)
  refine g_aloadL X (or_rv _) dL_law_631 rfl (lv_at hl 3 rfl) ?_
  clear S
  rename StL E s h1 g H1 [] => S
  refine g_arg (k := 1) X S HX hbl (lv_at hl 5 rfl) (lv_at hl 1 rfl) hin.1 rfl hz1 dL_law_632 dL_law_633 dL_law_635 dL_law_636 dL_law_637 ?_
  refine g_ciS S.swap (runVL (As := [.int z1]) (rest := []) X S.swap coL_125 (Nat.le_trans (by decide) hDD) (cX13_trace_m l e2) (tkX13_trace e2) rfl hl.1 (by simp [cat_rv, cat_wv, cat_sv, cat_i, cat_l, cat_a]) rfl ⟨r1, r2⟩ dL_law_638) (fun H2 S2 y2 => ?_)
  exact lw_tail X hDD S2.swap hl iv1 e3 e4 r1 r2 dL_law_641 dL_law_643 dL_law_644 dL_law_647 dL_law_649 dL_law_654 dL_law_656 dL_law_659 dL_law_660 dL_law_661 dL_law_662 dL_law_664 dL_law_665 dL_law_666 dL_law_671 (by decide) (fun H3 ls S3 y3 hl3 => kk S3 hl3 iv1 (Nat.le_trans hXl (Nat.le_trans y1 (Nat.le_trans y2 y3))) (by omega) (by omega))
theorem lc_9 (l : Launch) (hlt : l.stackTraces = false) (X : CxL p E DD R s m args c cL_law RL 8) (hDD : 19 ≤ DD) (HX : va_X sc L xs s s.heap) (hbl : sc < s.heap.size) (hin : vp_in (i + 1) L ∧ vp_in (i + 2) L ∧ vp_in (i + 3) L ∧ vp_in (i + 4) L ∧ vp_in (i + 5) L) (S : StL E s h g H []) (hl : lv_has ls 8 [(4, .int i), (3, rv ao), (2, rv mm), (1, rv b), (0, .ref sc)]) (iv : IV b mm ao X0 pc0 pu0 h g) (hXl : X0 ≤ H.size) (hrc : cells + pc0 + 1 ≤ R.cells) (hrs : slots + pu0 + 6 ≤ R.slots)
    (kk : ∀ {h' g' : Hp} {H' : Heap} {X' pc' pu' : Nat} {ls' : Array Slot} {cells' slots' : Nat}, StL E s h' g' H' [] → lv_has ls' 8 [(4, .int i), (3, rv ao), (2, rv mm), (1, rv b), (0, .ref sc)] → IV b mm ao X' pc' pu' h' g' → X' ≤ H'.size → cells' + pc' ≤ cells + pc0 + 1 → slots' + pu' ≤ slots + pu0 + 6 → W p l e R s m args below meth c H' [] cells' slots' Q (F0 m 2048 ls' [])) : W p l e R s m args below meth c H [] cells slots Q (F0 m 674 ls []) := by
  obtain ⟨z1, hz1⟩ : ∃ z, xs (i + 1).toNatClampNeg = z := ⟨_, rfl⟩
  obtain ⟨z2, hz2⟩ : ∃ z, xs (i + 2).toNatClampNeg = z := ⟨_, rfl⟩
  obtain ⟨kk1, h1, v, g1, e1, e2, e3, e4, iv1⟩ := hc_why (z0 := z1) (z1 := z2) iv
  have r1 : cells + 1 ≤ R.cells := by omega
  have r2 : slots + 6 ≤ R.slots := by omega
  refine g_aloadL X (or_rv _) dL_law_674 rfl (lv_at hl 3 rfl) ?_
  refine g_arg (k := 1) X S HX hbl (lv_at hl 4 rfl) (lv_at hl 0 rfl) hin.1 rfl hz1 dL_law_675 dL_law_676 dL_law_678 dL_law_679 dL_law_680 ?_
  refine g_arg (k := 2) X S HX hbl (lv_at hl 4 rfl) (lv_at hl 0 rfl) hin.2.1 rfl hz2 dL_law_681 dL_law_682 dL_law_684 dL_law_685 dL_law_686 ?_
  refine g_aloadL X (or_rv _) dL_law_687 rfl (lv_at hl 1 rfl) ?_
  refine g_ciS S (runHL (Pc := PcL E (AX s g) h [rv b, .int z1, .int z2, rv ao]) (As := [rv b, .int z1, .int z2, rv ao]) (rest := []) (n := 4) X blindL (pre_okL X S _) (uw_6 15 rfl rfl) (uw_6 17 rfl rfl) (uw_1 0 rfl rfl) (by decide) (by decide +kernel) (by decide) (uw_6 16 rfl rfl) (Nat.le_trans (by decide) hDD) (cL_why_h l hlt e1) rfl hl.1 (by simp [cat_rv, cat_wv, cat_sv, cat_i, cat_l, cat_a]) rfl ⟨r1, r2⟩ dL_law_688) (fun H1 S1 y1 => ?_)
  refine lv_istore (lv' := [(5, .int kk1), (4, .int i), (3, rv ao), (2, rv mm), (1, rv b), (0, .ref sc)]) X.1 X.2.1 dL_law_691 hl (by decide) (by simp [List.filter, cat_rv, cat_wv, cat_sv, cat_i, cat_l]) (fun ls hl => ?_)
  refine g_aloadL X (or_rv _) dL_law_693 rfl (lv_at hl 3 rfl) ?_
  clear S
  rename StL E s h1 g H1 [] => S
  refine g_arg (k := 1) X S HX hbl (lv_at hl 5 rfl) (lv_at hl 1 rfl) hin.1 rfl hz1 dL_law_694 dL_law_695 dL_law_697 dL_law_698 dL_law_699 ?_
  refine g_arg (k := 2) X S HX hbl (lv_at hl 5 rfl) (lv_at hl 1 rfl) hin.2.1 rfl hz2 dL_law_700 dL_law_701 dL_law_703 dL_law_704 dL_law_705 ?_
  refine g_ciS S.swap (runVL (As := [.int z1, .int z2]) (rest := []) X S.swap coL_129 (Nat.le_trans (by decide) hDD) (cX13_why_m l e2) (tkX13_why e2) rfl hl.1 (by simp [cat_rv, cat_wv, cat_sv, cat_i, cat_l, cat_a]) rfl ⟨r1, r2⟩ dL_law_706) (fun H2 S2 y2 => ?_)
  exact lw_tail X hDD S2.swap hl iv1 e3 e4 r1 r2 dL_law_709 dL_law_711 dL_law_712 dL_law_715 dL_law_717 dL_law_722 dL_law_724 dL_law_727 dL_law_728 dL_law_729 dL_law_730 dL_law_732 dL_law_733 dL_law_734 dL_law_739 (by decide) (fun H3 ls S3 y3 hl3 => kk S3 hl3 iv1 (Nat.le_trans hXl (Nat.le_trans y1 (Nat.le_trans y2 y3))) (by omega) (by omega))
end LWC
