section LWC
variable {p : Program} {l : Launch} {e : Env} {R : Room} {s : State} {m : MethodId} {args : Array Value} {below : List Frame} {meth : Method} {c : Code} {E : EE} {H : Heap} {locs : List Loc} {cells slots : Nat} {Q : State → Prop} {h g h' : Hp}
variable {b mm ao sc X0 pc0 pu0 L DD : Nat} {xs : Nat → Int32} {i : Int32} {ls : Array Slot}
theorem lc_10 (l : Launch) (hlt : l.stackTraces = false) (X : CxL p E DD R s m args c cL_law RL 8) (hDD : 19 ≤ DD) (HX : va_X sc L xs s s.heap) (hbl : sc < s.heap.size) (hin : vp_in (i + 1) L ∧ vp_in (i + 2) L ∧ vp_in (i + 3) L ∧ vp_in (i + 4) L ∧ vp_in (i + 5) L) (S : StL E s h g H []) (hl : lv_has ls 8 [(4, .int i), (3, rv ao), (2, rv mm), (1, rv b), (0, .ref sc)]) (iv : IV b mm ao X0 pc0 pu0 h g) (hXl : X0 ≤ H.size) (hrc : cells + pc0 + 1 ≤ R.cells) (hrs : slots + pu0 + 6 ≤ R.slots)
    (kk : ∀ {h' g' : Hp} {H' : Heap} {X' pc' pu' : Nat} {ls' : Array Slot} {cells' slots' : Nat}, StL E s h' g' H' [] → lv_has ls' 8 [(4, .int i), (3, rv ao), (2, rv mm), (1, rv b), (0, .ref sc)] → IV b mm ao X' pc' pu' h' g' → X' ≤ H'.size → cells' + pc' ≤ cells + pc0 + 1 → slots' + pu' ≤ slots + pu0 + 6 → W p l e R s m args below meth c H' [] cells' slots' Q (F0 m 2048 ls' [])) : W p l e R s m args below meth c H [] cells slots Q (F0 m 742 ls []) := by
  obtain ⟨z1, hz1⟩ : ∃ z, xs (i + 1).toNatClampNeg = z := ⟨_, rfl⟩
  obtain ⟨z2, hz2⟩ : ∃ z, xs (i + 2).toNatClampNeg = z := ⟨_, rfl⟩
  obtain ⟨z3, hz3⟩ : ∃ z, xs (i + 3).toNatClampNeg = z := ⟨_, rfl⟩
  obtain ⟨z4, hz4⟩ : ∃ z, xs (i + 4).toNatClampNeg = z := ⟨_, rfl⟩
  by_cases zb : z3 = 0
  · obtain ⟨kk1, h1, v, g1, e1, e2, e3, e4, iv1⟩ := hc_flaws (z0 := z1) (z1 := z2) (z2 := false) (z3 := z4) iv
    have e1 : fL_flaws b z1 z2 0 z4 ao h = some (kk1, h1) := e1
    have e2 : fX13_flaws mm z1 z2 0 z4 g = some (v, g1) := e2
    have r1 : cells + 1 ≤ R.cells := by omega
    have r2 : slots + 6 ≤ R.slots := by omega
    refine g_aloadL X (or_rv _) dL_law_742 rfl (lv_at hl 3 rfl) ?_
    refine g_arg (k := 1) X S HX hbl (lv_at hl 4 rfl) (lv_at hl 0 rfl) hin.1 rfl hz1 dL_law_743 dL_law_744 dL_law_746 dL_law_747 dL_law_748 ?_
    refine g_arg (k := 2) X S HX hbl (lv_at hl 4 rfl) (lv_at hl 0 rfl) hin.2.1 rfl hz2 dL_law_749 dL_law_750 dL_law_752 dL_law_753 dL_law_754 ?_
    refine g_arg (k := 3) X S HX hbl (lv_at hl 4 rfl) (lv_at hl 0 rfl) hin.2.2.1 rfl hz3 dL_law_755 dL_law_756 dL_law_758 dL_law_759 dL_law_760 ?_
    refine lv_if_eq (tgt := 768) X.1 X.2.1 dL_law_761 (by decide) (fun _ => ?_) (fun x => absurd zb x)
    refine lv_iconst (v := 0) X.1 X.2.1 dL_law_768 (by decide) ?_
    refine g_arg (k := 4) X S HX hbl (lv_at hl 4 rfl) (lv_at hl 0 rfl) hin.2.2.2.1 rfl hz4 dL_law_769 dL_law_770 dL_law_772 dL_law_773 dL_law_774 ?_
    refine g_aloadL X (or_rv _) dL_law_775 rfl (lv_at hl 1 rfl) ?_
    refine g_ciS S (runHL (Pc := PcL E (AX s g) h [rv b, .int z1, .int z2, .int 0, .int z4, rv ao]) (As := [rv b, .int z1, .int z2, .int 0, .int z4, rv ao]) (rest := []) (n := 6) X blindL (pre_okL X S _) (uw_6 27 rfl rfl) (uw_6 29 rfl rfl) (uw_1 0 rfl rfl) (by decide) (by decide +kernel) (by decide) (uw_6 28 rfl rfl) (Nat.le_trans (by decide) hDD) (cL_flaws_h l hlt e1) rfl hl.1 (by simp [cat_rv, cat_wv, cat_sv, cat_i, cat_l, cat_a]) rfl ⟨r1, r2⟩ dL_law_776) (fun H1 S1 y1 => ?_)
    refine lv_istore (lv' := [(5, .int kk1), (4, .int i), (3, rv ao), (2, rv mm), (1, rv b), (0, .ref sc)]) X.1 X.2.1 dL_law_779 hl (by decide) (by simp [List.filter, cat_rv, cat_wv, cat_sv, cat_i, cat_l]) (fun ls hl => ?_)
    refine g_aloadL X (or_rv _) dL_law_781 rfl (lv_at hl 3 rfl) ?_
    clear S
    rename StL E s h1 g H1 [] => S
    refine g_arg (k := 1) X S HX hbl (lv_at hl 5 rfl) (lv_at hl 1 rfl) hin.1 rfl hz1 dL_law_782 dL_law_783 dL_law_785 dL_law_786 dL_law_787 ?_
    refine g_arg (k := 2) X S HX hbl (lv_at hl 5 rfl) (lv_at hl 1 rfl) hin.2.1 rfl hz2 dL_law_788 dL_law_789 dL_law_791 dL_law_792 dL_law_793 ?_
    refine g_arg (k := 3) X S HX hbl (lv_at hl 5 rfl) (lv_at hl 1 rfl) hin.2.2.1 rfl hz3 dL_law_794 dL_law_795 dL_law_797 dL_law_798 dL_law_799 ?_
    refine lv_if_eq (tgt := 807) X.1 X.2.1 dL_law_800 (by decide) (fun _ => ?_) (fun x => absurd zb x)
    refine lv_iconst (v := 0) X.1 X.2.1 dL_law_807 (by decide) ?_
    refine g_arg (k := 4) X S HX hbl (lv_at hl 5 rfl) (lv_at hl 1 rfl) hin.2.2.2.1 rfl hz4 dL_law_808 dL_law_809 dL_law_811 dL_law_812 dL_law_813 ?_
    refine g_ciS S.swap (runVL (As := [.int z1, .int z2, .int 0, .int z4]) (rest := []) X S.swap coL_133 (Nat.le_trans (by decide) hDD) (cX13_flaws_m l e2) (tkX13_flaws e2) rfl hl.1 (by simp [cat_rv, cat_wv, cat_sv, cat_i, cat_l, cat_a]) rfl ⟨r1, r2⟩ dL_law_814) (fun H2 S2 y2 => ?_)
    exact lw_tail X hDD S2.swap hl iv1 e3 e4 r1 r2 dL_law_817 dL_law_819 dL_law_820 dL_law_823 dL_law_825 dL_law_830 dL_law_832 dL_law_835 dL_law_836 dL_law_837 dL_law_838 dL_law_840 dL_law_841 dL_law_842 dL_law_847 (by decide) (fun H3 ls S3 y3 hl3 => kk S3 hl3 iv1 (Nat.le_trans hXl (Nat.le_trans y1 (Nat.le_trans y2 y3))) (by omega) (by omega))
  · obtain ⟨kk1, h1, v, g1, e1, e2, e3, e4, iv1⟩ := hc_flaws (z0 := z1) (z1 := z2) (z2 := true) (z3 := z4) iv
    have e1 : fL_flaws b z1 z2 1 z4 ao h = some (kk1, h1) := e1
    have e2 : fX13_flaws mm z1 z2 1 z4 g = some (v, g1) := e2
    have r1 : cells + 1 ≤ R.cells := by omega
    have r2 : slots + 6 ≤ R.slots := by omega
    refine g_aloadL X (or_rv _) dL_law_742 rfl (lv_at hl 3 rfl) ?_
    refine g_arg (k := 1) X S HX hbl (lv_at hl 4 rfl) (lv_at hl 0 rfl) hin.1 rfl hz1 dL_law_743 dL_law_744 dL_law_746 dL_law_747 dL_law_748 ?_
    refine g_arg (k := 2) X S HX hbl (lv_at hl 4 rfl) (lv_at hl 0 rfl) hin.2.1 rfl hz2 dL_law_749 dL_law_750 dL_law_752 dL_law_753 dL_law_754 ?_
    refine g_arg (k := 3) X S HX hbl (lv_at hl 4 rfl) (lv_at hl 0 rfl) hin.2.2.1 rfl hz3 dL_law_755 dL_law_756 dL_law_758 dL_law_759 dL_law_760 ?_
    refine lv_if_eq (tgt := 768) X.1 X.2.1 dL_law_761 (by decide) (fun x => absurd x zb) (fun _ => ?_)
    refine lv_iconst (v := 1) X.1 X.2.1 dL_law_764 (by decide) ?_
    refine lv_goto (tgt := 769) X.1 X.2.1 dL_law_765 (by decide) ?_
    refine g_arg (k := 4) X S HX hbl (lv_at hl 4 rfl) (lv_at hl 0 rfl) hin.2.2.2.1 rfl hz4 dL_law_769 dL_law_770 dL_law_772 dL_law_773 dL_law_774 ?_
    refine g_aloadL X (or_rv _) dL_law_775 rfl (lv_at hl 1 rfl) ?_
    refine g_ciS S (runHL (Pc := PcL E (AX s g) h [rv b, .int z1, .int z2, .int 1, .int z4, rv ao]) (As := [rv b, .int z1, .int z2, .int 1, .int z4, rv ao]) (rest := []) (n := 6) X blindL (pre_okL X S _) (uw_6 27 rfl rfl) (uw_6 29 rfl rfl) (uw_1 0 rfl rfl) (by decide) (by decide +kernel) (by decide) (uw_6 28 rfl rfl) (Nat.le_trans (by decide) hDD) (cL_flaws_h l hlt e1) rfl hl.1 (by simp [cat_rv, cat_wv, cat_sv, cat_i, cat_l, cat_a]) rfl ⟨r1, r2⟩ dL_law_776) (fun H1 S1 y1 => ?_)
    refine lv_istore (lv' := [(5, .int kk1), (4, .int i), (3, rv ao), (2, rv mm), (1, rv b), (0, .ref sc)]) X.1 X.2.1 dL_law_779 hl (by decide) (by simp [List.filter, cat_rv, cat_wv, cat_sv, cat_i, cat_l]) (fun ls hl => ?_)
    refine g_aloadL X (or_rv _) dL_law_781 rfl (lv_at hl 3 rfl) ?_
    clear S
    rename StL E s h1 g H1 [] => S
    refine g_arg (k := 1) X S HX hbl (lv_at hl 5 rfl) (lv_at hl 1 rfl) hin.1 rfl hz1 dL_law_782 dL_law_783 dL_law_785 dL_law_786 dL_law_787 ?_
    refine g_arg (k := 2) X S HX hbl (lv_at hl 5 rfl) (lv_at hl 1 rfl) hin.2.1 rfl hz2 dL_law_788 dL_law_789 dL_law_791 dL_law_792 dL_law_793 ?_
    refine g_arg (k := 3) X S HX hbl (lv_at hl 5 rfl) (lv_at hl 1 rfl) hin.2.2.1 rfl hz3 dL_law_794 dL_law_795 dL_law_797 dL_law_798 dL_law_799 ?_
    refine lv_if_eq (tgt := 807) X.1 X.2.1 dL_law_800 (by decide) (fun x => absurd x zb) (fun _ => ?_)
    refine lv_iconst (v := 1) X.1 X.2.1 dL_law_803 (by decide) ?_
    refine lv_goto (tgt := 808) X.1 X.2.1 dL_law_804 (by decide) ?_
    refine g_arg (k := 4) X S HX hbl (lv_at hl 5 rfl) (lv_at hl 1 rfl) hin.2.2.2.1 rfl hz4 dL_law_808 dL_law_809 dL_law_811 dL_law_812 dL_law_813 ?_
    refine g_ciS S.swap (runVL (As := [.int z1, .int z2, .int 1, .int z4]) (rest := []) X S.swap coL_133 (Nat.le_trans (by decide) hDD) (cX13_flaws_m l e2) (tkX13_flaws e2) rfl hl.1 (by simp [cat_rv, cat_wv, cat_sv, cat_i, cat_l, cat_a]) rfl ⟨r1, r2⟩ dL_law_814) (fun H2 S2 y2 => ?_)
    exact lw_tail X hDD S2.swap hl iv1 e3 e4 r1 r2 dL_law_817 dL_law_819 dL_law_820 dL_law_823 dL_law_825 dL_law_830 dL_law_832 dL_law_835 dL_law_836 dL_law_837 dL_law_838 dL_law_840 dL_law_841 dL_law_842 dL_law_847 (by decide) (fun H3 ls S3 y3 hl3 => kk S3 hl3 iv1 (Nat.le_trans hXl (Nat.le_trans y1 (Nat.le_trans y2 y3))) (by omega) (by omega))
theorem lc_11 (l : Launch) (hlt : l.stackTraces = false) (X : CxL p E DD R s m args c cL_law RL 8) (hDD : 19 ≤ DD) (HX : va_X sc L xs s s.heap) (hbl : sc < s.heap.size) (hin : vp_in (i + 1) L ∧ vp_in (i + 2) L ∧ vp_in (i + 3) L ∧ vp_in (i + 4) L ∧ vp_in (i + 5) L) (S : StL E s h g H []) (hl : lv_has ls 8 [(4, .int i), (3, rv ao), (2, rv mm), (1, rv b), (0, .ref sc)]) (iv : IV b mm ao X0 pc0 pu0 h g) (hXl : X0 ≤ H.size) (hrc : cells + pc0 + 1 ≤ R.cells) (hrs : slots + pu0 + 6 ≤ R.slots)
    (kk : ∀ {h' g' : Hp} {H' : Heap} {X' pc' pu' : Nat} {ls' : Array Slot} {cells' slots' : Nat}, StL E s h' g' H' [] → lv_has ls' 8 [(4, .int i), (3, rv ao), (2, rv mm), (1, rv b), (0, .ref sc)] → IV b mm ao X' pc' pu' h' g' → X' ≤ H'.size → cells' + pc' ≤ cells + pc0 + 1 → slots' + pu' ≤ slots + pu0 + 6 → W p l e R s m args below meth c H' [] cells' slots' Q (F0 m 2048 ls' [])) : W p l e R s m args below meth c H [] cells slots Q (F0 m 850 ls []) := by
  obtain ⟨z1, hz1⟩ : ∃ z, xs (i + 1).toNatClampNeg = z := ⟨_, rfl⟩
  obtain ⟨z2, hz2⟩ : ∃ z, xs (i + 2).toNatClampNeg = z := ⟨_, rfl⟩
  obtain ⟨z3, hz3⟩ : ∃ z, xs (i + 3).toNatClampNeg = z := ⟨_, rfl⟩
  by_cases zb : z3 = 0
  · obtain ⟨kk1, h1, v, g1, e1, e2, e3, e4, iv1⟩ := hc_number (z0 := z1) (z1 := z2) (z2 := false) iv
    have e1 : fL_number b z1 z2 0 ao h = some (kk1, h1) := e1
    have e2 : fX13_number mm z1 z2 0 g = some (v, g1) := e2
    have r1 : cells + 1 ≤ R.cells := by omega
    have r2 : slots + 6 ≤ R.slots := by omega
    refine g_aloadL X (or_rv _) dL_law_850 rfl (lv_at hl 3 rfl) ?_
    refine g_arg (k := 1) X S HX hbl (lv_at hl 4 rfl) (lv_at hl 0 rfl) hin.1 rfl hz1 dL_law_851 dL_law_852 dL_law_854 dL_law_855 dL_law_856 ?_
    refine g_arg (k := 2) X S HX hbl (lv_at hl 4 rfl) (lv_at hl 0 rfl) hin.2.1 rfl hz2 dL_law_857 dL_law_858 dL_law_860 dL_law_861 dL_law_862 ?_
    refine g_arg (k := 3) X S HX hbl (lv_at hl 4 rfl) (lv_at hl 0 rfl) hin.2.2.1 rfl hz3 dL_law_863 dL_law_864 dL_law_866 dL_law_867 dL_law_868 ?_
    refine lv_if_eq (tgt := 876) X.1 X.2.1 dL_law_869 (by decide) (fun _ => ?_) (fun x => absurd zb x)
    refine lv_iconst (v := 0) X.1 X.2.1 dL_law_876 (by decide) ?_
    refine g_aloadL X (or_rv _) dL_law_877 rfl (lv_at hl 1 rfl) ?_
    refine g_ciS S (runHL (Pc := PcL E (AX s g) h [rv b, .int z1, .int z2, .int 0, rv ao]) (As := [rv b, .int z1, .int z2, .int 0, rv ao]) (rest := []) (n := 5) X blindL (pre_okL X S _) (uw_6 42 rfl rfl) (uw_6 44 rfl rfl) (uw_1 0 rfl rfl) (by decide) (by decide +kernel) (by decide) (uw_6 43 rfl rfl) (Nat.le_trans (by decide) hDD) (cL_number_h l hlt e1) rfl hl.1 (by simp [cat_rv, cat_wv, cat_sv, cat_i, cat_l, cat_a]) rfl ⟨r1, r2⟩ dL_law_878) (fun H1 S1 y1 => ?_)
    refine lv_istore (lv' := [(5, .int kk1), (4, .int i), (3, rv ao), (2, rv mm), (1, rv b), (0, .ref sc)]) X.1 X.2.1 dL_law_881 hl (by decide) (by simp [List.filter, cat_rv, cat_wv, cat_sv, cat_i, cat_l]) (fun ls hl => ?_)
    refine g_aloadL X (or_rv _) dL_law_883 rfl (lv_at hl 3 rfl) ?_
    clear S
    rename StL E s h1 g H1 [] => S
    refine g_arg (k := 1) X S HX hbl (lv_at hl 5 rfl) (lv_at hl 1 rfl) hin.1 rfl hz1 dL_law_884 dL_law_885 dL_law_887 dL_law_888 dL_law_889 ?_
    refine g_arg (k := 2) X S HX hbl (lv_at hl 5 rfl) (lv_at hl 1 rfl) hin.2.1 rfl hz2 dL_law_890 dL_law_891 dL_law_893 dL_law_894 dL_law_895 ?_
    refine g_arg (k := 3) X S HX hbl (lv_at hl 5 rfl) (lv_at hl 1 rfl) hin.2.2.1 rfl hz3 dL_law_896 dL_law_897 dL_law_899 dL_law_900 dL_law_901 ?_
    refine lv_if_eq (tgt := 909) X.1 X.2.1 dL_law_902 (by decide) (fun _ => ?_) (fun x => absurd zb x)
    refine lv_iconst (v := 0) X.1 X.2.1 dL_law_909 (by decide) ?_
    refine g_clS S.swap (runVL (As := [.int z1, .int z2, .int 0]) (rest := []) X S.swap coL_137 (Nat.le_trans (by decide) hDD) (cX13_number_m l e2) (tkX13_number e2) rfl hl.1 (by simp [cat_rv, cat_wv, cat_sv, cat_i, cat_l, cat_a]) rfl ⟨r1, r2⟩ dL_law_910) (fun H2 S2 y2 => ?_)
    exact lw_tailL X hDD S2.swap hl iv1 e3 e4 r1 r2 dL_law_913 dL_law_915 dL_law_916 dL_law_919 dL_law_921 dL_law_926 dL_law_928 dL_law_931 dL_law_932 dL_law_933 dL_law_934 dL_law_936 dL_law_937 dL_law_942 (by decide) (fun H3 ls S3 y3 hl3 => kk S3 hl3 iv1 (Nat.le_trans hXl (Nat.le_trans y1 (Nat.le_trans y2 y3))) (by omega) (by omega))
  · obtain ⟨kk1, h1, v, g1, e1, e2, e3, e4, iv1⟩ := hc_number (z0 := z1) (z1 := z2) (z2 := true) iv
    have e1 : fL_number b z1 z2 1 ao h = some (kk1, h1) := e1
    have e2 : fX13_number mm z1 z2 1 g = some (v, g1) := e2
    have r1 : cells + 1 ≤ R.cells := by omega
    have r2 : slots + 6 ≤ R.slots := by omega
    refine g_aloadL X (or_rv _) dL_law_850 rfl (lv_at hl 3 rfl) ?_
    refine g_arg (k := 1) X S HX hbl (lv_at hl 4 rfl) (lv_at hl 0 rfl) hin.1 rfl hz1 dL_law_851 dL_law_852 dL_law_854 dL_law_855 dL_law_856 ?_
    refine g_arg (k := 2) X S HX hbl (lv_at hl 4 rfl) (lv_at hl 0 rfl) hin.2.1 rfl hz2 dL_law_857 dL_law_858 dL_law_860 dL_law_861 dL_law_862 ?_
    refine g_arg (k := 3) X S HX hbl (lv_at hl 4 rfl) (lv_at hl 0 rfl) hin.2.2.1 rfl hz3 dL_law_863 dL_law_864 dL_law_866 dL_law_867 dL_law_868 ?_
    refine lv_if_eq (tgt := 876) X.1 X.2.1 dL_law_869 (by decide) (fun x => absurd x zb) (fun _ => ?_)
    refine lv_iconst (v := 1) X.1 X.2.1 dL_law_872 (by decide) ?_
    refine lv_goto (tgt := 877) X.1 X.2.1 dL_law_873 (by decide) ?_
    refine g_aloadL X (or_rv _) dL_law_877 rfl (lv_at hl 1 rfl) ?_
    refine g_ciS S (runHL (Pc := PcL E (AX s g) h [rv b, .int z1, .int z2, .int 1, rv ao]) (As := [rv b, .int z1, .int z2, .int 1, rv ao]) (rest := []) (n := 5) X blindL (pre_okL X S _) (uw_6 42 rfl rfl) (uw_6 44 rfl rfl) (uw_1 0 rfl rfl) (by decide) (by decide +kernel) (by decide) (uw_6 43 rfl rfl) (Nat.le_trans (by decide) hDD) (cL_number_h l hlt e1) rfl hl.1 (by simp [cat_rv, cat_wv, cat_sv, cat_i, cat_l, cat_a]) rfl ⟨r1, r2⟩ dL_law_878) (fun H1 S1 y1 => ?_)
    refine lv_istore (lv' := [(5, .int kk1), (4, .int i), (3, rv ao), (2, rv mm), (1, rv b), (0, .ref sc)]) X.1 X.2.1 dL_law_881 hl (by decide) (by simp [List.filter, cat_rv, cat_wv, cat_sv, cat_i, cat_l]) (fun ls hl => ?_)
    refine g_aloadL X (or_rv _) dL_law_883 rfl (lv_at hl 3 rfl) ?_
    clear S
    rename StL E s h1 g H1 [] => S
    refine g_arg (k := 1) X S HX hbl (lv_at hl 5 rfl) (lv_at hl 1 rfl) hin.1 rfl hz1 dL_law_884 dL_law_885 dL_law_887 dL_law_888 dL_law_889 ?_
    refine g_arg (k := 2) X S HX hbl (lv_at hl 5 rfl) (lv_at hl 1 rfl) hin.2.1 rfl hz2 dL_law_890 dL_law_891 dL_law_893 dL_law_894 dL_law_895 ?_
    refine g_arg (k := 3) X S HX hbl (lv_at hl 5 rfl) (lv_at hl 1 rfl) hin.2.2.1 rfl hz3 dL_law_896 dL_law_897 dL_law_899 dL_law_900 dL_law_901 ?_
    refine lv_if_eq (tgt := 909) X.1 X.2.1 dL_law_902 (by decide) (fun x => absurd x zb) (fun _ => ?_)
    refine lv_iconst (v := 1) X.1 X.2.1 dL_law_905 (by decide) ?_
    refine lv_goto (tgt := 910) X.1 X.2.1 dL_law_906 (by decide) ?_
    refine g_clS S.swap (runVL (As := [.int z1, .int z2, .int 1]) (rest := []) X S.swap coL_137 (Nat.le_trans (by decide) hDD) (cX13_number_m l e2) (tkX13_number e2) rfl hl.1 (by simp [cat_rv, cat_wv, cat_sv, cat_i, cat_l, cat_a]) rfl ⟨r1, r2⟩ dL_law_910) (fun H2 S2 y2 => ?_)
    exact lw_tailL X hDD S2.swap hl iv1 e3 e4 r1 r2 dL_law_913 dL_law_915 dL_law_916 dL_law_919 dL_law_921 dL_law_926 dL_law_928 dL_law_931 dL_law_932 dL_law_933 dL_law_934 dL_law_936 dL_law_937 dL_law_942 (by decide) (fun H3 ls S3 y3 hl3 => kk S3 hl3 iv1 (Nat.le_trans hXl (Nat.le_trans y1 (Nat.le_trans y2 y3))) (by omega) (by omega))
theorem lc_12 (l : Launch) (hlt : l.stackTraces = false) (X : CxL p E DD R s m args c cL_law RL 8) (hDD : 19 ≤ DD) (HX : va_X sc L xs s s.heap) (hbl : sc < s.heap.size) (hin : vp_in (i + 1) L ∧ vp_in (i + 2) L ∧ vp_in (i + 3) L ∧ vp_in (i + 4) L ∧ vp_in (i + 5) L) (S : StL E s h g H []) (hl : lv_has ls 8 [(4, .int i), (3, rv ao), (2, rv mm), (1, rv b), (0, .ref sc)]) (iv : IV b mm ao X0 pc0 pu0 h g) (hXl : X0 ≤ H.size) (hrc : cells + pc0 + 1 ≤ R.cells) (hrs : slots + pu0 + 6 ≤ R.slots)
    (kk : ∀ {h' g' : Hp} {H' : Heap} {X' pc' pu' : Nat} {ls' : Array Slot} {cells' slots' : Nat}, StL E s h' g' H' [] → lv_has ls' 8 [(4, .int i), (3, rv ao), (2, rv mm), (1, rv b), (0, .ref sc)] → IV b mm ao X' pc' pu' h' g' → X' ≤ H'.size → cells' + pc' ≤ cells + pc0 + 1 → slots' + pu' ≤ slots + pu0 + 6 → W p l e R s m args below meth c H' [] cells' slots' Q (F0 m 2048 ls' [])) : W p l e R s m args below meth c H [] cells slots Q (F0 m 945 ls []) := by
  obtain ⟨z1, hz1⟩ : ∃ z, xs (i + 1).toNatClampNeg = z := ⟨_, rfl⟩
  obtain ⟨z2, hz2⟩ : ∃ z, xs (i + 2).toNatClampNeg = z := ⟨_, rfl⟩
  obtain ⟨z3, hz3⟩ : ∃ z, xs (i + 3).toNatClampNeg = z := ⟨_, rfl⟩
  obtain ⟨z4, hz4⟩ : ∃ z, xs (i + 4).toNatClampNeg = z := ⟨_, rfl⟩
  obtain ⟨z5, hz5⟩ : ∃ z, xs (i + 5).toNatClampNeg = z := ⟨_, rfl⟩
  obtain ⟨kk1, h1, v, g1, e1, e2, e3, e4, iv1⟩ := hc_need (z0 := z1) (z1 := z2) (z2 := z3) (z3 := z4) (z4 := z5) iv
  have r1 : cells + 1 ≤ R.cells := by omega
  have r2 : slots + 6 ≤ R.slots := by omega
  refine g_aloadL X (or_rv _) dL_law_945 rfl (lv_at hl 3 rfl) ?_
  refine g_arg (k := 1) X S HX hbl (lv_at hl 4 rfl) (lv_at hl 0 rfl) hin.1 rfl hz1 dL_law_946 dL_law_947 dL_law_949 dL_law_950 dL_law_951 ?_
  refine g_arg (k := 2) X S HX hbl (lv_at hl 4 rfl) (lv_at hl 0 rfl) hin.2.1 rfl hz2 dL_law_952 dL_law_953 dL_law_955 dL_law_956 dL_law_957 ?_
  refine g_arg (k := 3) X S HX hbl (lv_at hl 4 rfl) (lv_at hl 0 rfl) hin.2.2.1 rfl hz3 dL_law_958 dL_law_959 dL_law_961 dL_law_962 dL_law_963 ?_
  refine g_arg (k := 4) X S HX hbl (lv_at hl 4 rfl) (lv_at hl 0 rfl) hin.2.2.2.1 rfl hz4 dL_law_964 dL_law_965 dL_law_967 dL_law_968 dL_law_969 ?_
  refine g_arg (k := 5) X S HX hbl (lv_at hl 4 rfl) (lv_at hl 0 rfl) hin.2.2.2.2 rfl hz5 dL_law_970 dL_law_971 dL_law_973 dL_law_974 dL_law_975 ?_
  refine g_aloadL X (or_rv _) dL_law_976 rfl (lv_at hl 1 rfl) ?_
  refine g_ciS S (runHL (Pc := PcL E (AX s g) h [rv b, .int z1, .int z2, .int z3, .int z4, .int z5, rv ao]) (As := [rv b, .int z1, .int z2, .int z3, .int z4, .int z5, rv ao]) (rest := []) (n := 7) X blindL (pre_okL X S _) (uw_6 83 rfl rfl) (uw_6 85 rfl rfl) (uw_1 0 rfl rfl) (by decide) (by decide +kernel) (by decide) (uw_6 84 rfl rfl) (Nat.le_trans (by decide) hDD) (cL_need_h l hlt e1) rfl hl.1 (by simp [cat_rv, cat_wv, cat_sv, cat_i, cat_l, cat_a]) rfl ⟨r1, r2⟩ dL_law_977) (fun H1 S1 y1 => ?_)
  refine lv_istore (lv' := [(5, .int kk1), (4, .int i), (3, rv ao), (2, rv mm), (1, rv b), (0, .ref sc)]) X.1 X.2.1 dL_law_980 hl (by decide) (by simp [List.filter, cat_rv, cat_wv, cat_sv, cat_i, cat_l]) (fun ls hl => ?_)
  refine g_aloadL X (or_rv _) dL_law_982 rfl (lv_at hl 3 rfl) ?_
  clear S
  rename StL E s h1 g H1 [] => S
  refine g_arg (k := 1) X S HX hbl (lv_at hl 5 rfl) (lv_at hl 1 rfl) hin.1 rfl hz1 dL_law_983 dL_law_984 dL_law_986 dL_law_987 dL_law_988 ?_
  refine g_arg (k := 2) X S HX hbl (lv_at hl 5 rfl) (lv_at hl 1 rfl) hin.2.1 rfl hz2 dL_law_989 dL_law_990 dL_law_992 dL_law_993 dL_law_994 ?_
  refine g_arg (k := 3) X S HX hbl (lv_at hl 5 rfl) (lv_at hl 1 rfl) hin.2.2.1 rfl hz3 dL_law_995 dL_law_996 dL_law_998 dL_law_999 dL_law_1000 ?_
  refine g_arg (k := 4) X S HX hbl (lv_at hl 5 rfl) (lv_at hl 1 rfl) hin.2.2.2.1 rfl hz4 dL_law_1001 dL_law_1002 dL_law_1004 dL_law_1005 dL_law_1006 ?_
  refine g_arg (k := 5) X S HX hbl (lv_at hl 5 rfl) (lv_at hl 1 rfl) hin.2.2.2.2 rfl hz5 dL_law_1007 dL_law_1008 dL_law_1010 dL_law_1011 dL_law_1012 ?_
  refine g_ciS S.swap (runVL (As := [.int z1, .int z2, .int z3, .int z4, .int z5]) (rest := []) X S.swap coL_141 (Nat.le_trans (by decide) hDD) (cX13_need_m l e2) (tkX13_need e2) rfl hl.1 (by simp [cat_rv, cat_wv, cat_sv, cat_i, cat_l, cat_a]) rfl ⟨r1, r2⟩ dL_law_1013) (fun H2 S2 y2 => ?_)
  exact lw_tail X hDD S2.swap hl iv1 e3 e4 r1 r2 dL_law_1016 dL_law_1018 dL_law_1019 dL_law_1022 dL_law_1024 dL_law_1029 dL_law_1031 dL_law_1034 dL_law_1035 dL_law_1036 dL_law_1037 dL_law_1039 dL_law_1040 dL_law_1041 dL_law_1046 (by decide) (fun H3 ls S3 y3 hl3 => kk S3 hl3 iv1 (Nat.le_trans hXl (Nat.le_trans y1 (Nat.le_trans y2 y3))) (by omega) (by omega))
theorem lc_13 (l : Launch) (hlt : l.stackTraces = false) (X : CxL p E DD R s m args c cL_law RL 8) (hDD : 19 ≤ DD) (HX : va_X sc L xs s s.heap) (hbl : sc < s.heap.size) (hin : vp_in (i + 1) L ∧ vp_in (i + 2) L ∧ vp_in (i + 3) L ∧ vp_in (i + 4) L ∧ vp_in (i + 5) L) (S : StL E s h g H []) (hl : lv_has ls 8 [(4, .int i), (3, rv ao), (2, rv mm), (1, rv b), (0, .ref sc)]) (iv : IV b mm ao X0 pc0 pu0 h g) (hXl : X0 ≤ H.size) (hrc : cells + pc0 + 1 ≤ R.cells) (hrs : slots + pu0 + 6 ≤ R.slots)
    (kk : ∀ {h' g' : Hp} {H' : Heap} {X' pc' pu' : Nat} {ls' : Array Slot} {cells' slots' : Nat}, StL E s h' g' H' [] → lv_has ls' 8 [(4, .int i), (3, rv ao), (2, rv mm), (1, rv b), (0, .ref sc)] → IV b mm ao X' pc' pu' h' g' → X' ≤ H'.size → cells' + pc' ≤ cells + pc0 + 1 → slots' + pu' ≤ slots + pu0 + 6 → W p l e R s m args below meth c H' [] cells' slots' Q (F0 m 2048 ls' [])) : W p l e R s m args below meth c H [] cells slots Q (F0 m 1049 ls []) := by
  obtain ⟨z1, hz1⟩ : ∃ z, xs (i + 1).toNatClampNeg = z := ⟨_, rfl⟩
  obtain ⟨z2, hz2⟩ : ∃ z, xs (i + 2).toNatClampNeg = z := ⟨_, rfl⟩
  obtain ⟨z3, hz3⟩ : ∃ z, xs (i + 3).toNatClampNeg = z := ⟨_, rfl⟩
  obtain ⟨kk1, h1, v, g1, e1, e2, e3, e4, iv1⟩ := hc_rounds (z0 := z1) (z1 := z2) (z2 := z3) iv
  have r1 : cells + 1 ≤ R.cells := by omega
  have r2 : slots + 6 ≤ R.slots := by omega
  refine g_aloadL X (or_rv _) dL_law_1049 rfl (lv_at hl 3 rfl) ?_
  refine g_arg (k := 1) X S HX hbl (lv_at hl 4 rfl) (lv_at hl 0 rfl) hin.1 rfl hz1 dL_law_1050 dL_law_1051 dL_law_1053 dL_law_1054 dL_law_1055 ?_
  refine g_arg (k := 2) X S HX hbl (lv_at hl 4 rfl) (lv_at hl 0 rfl) hin.2.1 rfl hz2 dL_law_1056 dL_law_1057 dL_law_1059 dL_law_1060 dL_law_1061 ?_
  refine g_arg (k := 3) X S HX hbl (lv_at hl 4 rfl) (lv_at hl 0 rfl) hin.2.2.1 rfl hz3 dL_law_1062 dL_law_1063 dL_law_1065 dL_law_1066 dL_law_1067 ?_
  refine g_aloadL X (or_rv _) dL_law_1068 rfl (lv_at hl 1 rfl) ?_
  refine g_ciS S (runHL (Pc := PcL E (AX s g) h [rv b, .int z1, .int z2, .int z3, rv ao]) (As := [rv b, .int z1, .int z2, .int z3, rv ao]) (rest := []) (n := 5) X blindL (pre_okL X S _) (uw_6 93 rfl rfl) (uw_6 95 rfl rfl) (uw_1 0 rfl rfl) (by decide) (by decide +kernel) (by decide) (uw_6 94 rfl rfl) (Nat.le_trans (by decide) hDD) (cL_rounds_h l hlt e1) rfl hl.1 (by simp [cat_rv, cat_wv, cat_sv, cat_i, cat_l, cat_a]) rfl ⟨r1, r2⟩ dL_law_1069) (fun H1 S1 y1 => ?_)
  refine lv_istore (lv' := [(5, .int kk1), (4, .int i), (3, rv ao), (2, rv mm), (1, rv b), (0, .ref sc)]) X.1 X.2.1 dL_law_1072 hl (by decide) (by simp [List.filter, cat_rv, cat_wv, cat_sv, cat_i, cat_l]) (fun ls hl => ?_)
  refine g_aloadL X (or_rv _) dL_law_1074 rfl (lv_at hl 3 rfl) ?_
  clear S
  rename StL E s h1 g H1 [] => S
  refine g_arg (k := 1) X S HX hbl (lv_at hl 5 rfl) (lv_at hl 1 rfl) hin.1 rfl hz1 dL_law_1075 dL_law_1076 dL_law_1078 dL_law_1079 dL_law_1080 ?_
  refine g_arg (k := 2) X S HX hbl (lv_at hl 5 rfl) (lv_at hl 1 rfl) hin.2.1 rfl hz2 dL_law_1081 dL_law_1082 dL_law_1084 dL_law_1085 dL_law_1086 ?_
  refine g_arg (k := 3) X S HX hbl (lv_at hl 5 rfl) (lv_at hl 1 rfl) hin.2.2.1 rfl hz3 dL_law_1087 dL_law_1088 dL_law_1090 dL_law_1091 dL_law_1092 ?_
  refine g_ciS S.swap (runVL (As := [.int z1, .int z2, .int z3]) (rest := []) X S.swap coL_145 (Nat.le_trans (by decide) hDD) (cX13_rounds_m l e2) (tkX13_rounds e2) rfl hl.1 (by simp [cat_rv, cat_wv, cat_sv, cat_i, cat_l, cat_a]) rfl ⟨r1, r2⟩ dL_law_1093) (fun H2 S2 y2 => ?_)
  exact lw_tail X hDD S2.swap hl iv1 e3 e4 r1 r2 dL_law_1096 dL_law_1098 dL_law_1099 dL_law_1102 dL_law_1104 dL_law_1109 dL_law_1111 dL_law_1114 dL_law_1115 dL_law_1116 dL_law_1117 dL_law_1119 dL_law_1120 dL_law_1121 dL_law_1126 (by decide) (fun H3 ls S3 y3 hl3 => kk S3 hl3 iv1 (Nat.le_trans hXl (Nat.le_trans y1 (Nat.le_trans y2 y3))) (by omega) (by omega))
theorem lc_14 (l : Launch) (hlt : l.stackTraces = false) (X : CxL p E DD R s m args c cL_law RL 8) (hDD : 19 ≤ DD) (HX : va_X sc L xs s s.heap) (hbl : sc < s.heap.size) (hin : vp_in (i + 1) L ∧ vp_in (i + 2) L ∧ vp_in (i + 3) L ∧ vp_in (i + 4) L ∧ vp_in (i + 5) L) (S : StL E s h g H []) (hl : lv_has ls 8 [(4, .int i), (3, rv ao), (2, rv mm), (1, rv b), (0, .ref sc)]) (iv : IV b mm ao X0 pc0 pu0 h g) (hXl : X0 ≤ H.size) (hrc : cells + pc0 + 1 ≤ R.cells) (hrs : slots + pu0 + 6 ≤ R.slots)
    (kk : ∀ {h' g' : Hp} {H' : Heap} {X' pc' pu' : Nat} {ls' : Array Slot} {cells' slots' : Nat}, StL E s h' g' H' [] → lv_has ls' 8 [(4, .int i), (3, rv ao), (2, rv mm), (1, rv b), (0, .ref sc)] → IV b mm ao X' pc' pu' h' g' → X' ≤ H'.size → cells' + pc' ≤ cells + pc0 + 1 → slots' + pu' ≤ slots + pu0 + 6 → W p l e R s m args below meth c H' [] cells' slots' Q (F0 m 2048 ls' [])) : W p l e R s m args below meth c H [] cells slots Q (F0 m 1129 ls []) := by
  obtain ⟨z1, hz1⟩ : ∃ z, xs (i + 1).toNatClampNeg = z := ⟨_, rfl⟩
  obtain ⟨z2, hz2⟩ : ∃ z, xs (i + 2).toNatClampNeg = z := ⟨_, rfl⟩
  obtain ⟨z3, hz3⟩ : ∃ z, xs (i + 3).toNatClampNeg = z := ⟨_, rfl⟩
  obtain ⟨z4, hz4⟩ : ∃ z, xs (i + 4).toNatClampNeg = z := ⟨_, rfl⟩
  obtain ⟨kk1, h1, v, g1, e1, e2, e3, e4, iv1⟩ := hc_unedited (z0 := z1) (z1 := z2) (z2 := z3) (z3 := z4) iv
  have r1 : cells + 1 ≤ R.cells := by omega
  have r2 : slots + 6 ≤ R.slots := by omega
  refine g_aloadL X (or_rv _) dL_law_1129 rfl (lv_at hl 3 rfl) ?_
  refine g_arg (k := 1) X S HX hbl (lv_at hl 4 rfl) (lv_at hl 0 rfl) hin.1 rfl hz1 dL_law_1130 dL_law_1131 dL_law_1133 dL_law_1134 dL_law_1135 ?_
  refine g_arg (k := 2) X S HX hbl (lv_at hl 4 rfl) (lv_at hl 0 rfl) hin.2.1 rfl hz2 dL_law_1136 dL_law_1137 dL_law_1139 dL_law_1140 dL_law_1141 ?_
  refine g_arg (k := 3) X S HX hbl (lv_at hl 4 rfl) (lv_at hl 0 rfl) hin.2.2.1 rfl hz3 dL_law_1142 dL_law_1143 dL_law_1145 dL_law_1146 dL_law_1147 ?_
  refine g_arg (k := 4) X S HX hbl (lv_at hl 4 rfl) (lv_at hl 0 rfl) hin.2.2.2.1 rfl hz4 dL_law_1148 dL_law_1149 dL_law_1151 dL_law_1152 dL_law_1153 ?_
  refine g_aloadL X (or_rv _) dL_law_1154 rfl (lv_at hl 1 rfl) ?_
  refine g_ciS S (runHL (Pc := PcL E (AX s g) h [rv b, .int z1, .int z2, .int z3, .int z4, rv ao]) (As := [rv b, .int z1, .int z2, .int z3, .int z4, rv ao]) (rest := []) (n := 6) X blindL (pre_okL X S _) (uw_6 102 rfl rfl) (uw_6 104 rfl rfl) (uw_1 0 rfl rfl) (by decide) (by decide +kernel) (by decide) (uw_6 103 rfl rfl) (Nat.le_trans (by decide) hDD) (cL_unedited_h l hlt e1) rfl hl.1 (by simp [cat_rv, cat_wv, cat_sv, cat_i, cat_l, cat_a]) rfl ⟨r1, r2⟩ dL_law_1155) (fun H1 S1 y1 => ?_)
  refine lv_istore (lv' := [(5, .int kk1), (4, .int i), (3, rv ao), (2, rv mm), (1, rv b), (0, .ref sc)]) X.1 X.2.1 dL_law_1158 hl (by decide) (by simp [List.filter, cat_rv, cat_wv, cat_sv, cat_i, cat_l]) (fun ls hl => ?_)
  refine g_aloadL X (or_rv _) dL_law_1160 rfl (lv_at hl 3 rfl) ?_
  clear S
  rename StL E s h1 g H1 [] => S
  refine g_arg (k := 1) X S HX hbl (lv_at hl 5 rfl) (lv_at hl 1 rfl) hin.1 rfl hz1 dL_law_1161 dL_law_1162 dL_law_1164 dL_law_1165 dL_law_1166 ?_
  refine g_arg (k := 2) X S HX hbl (lv_at hl 5 rfl) (lv_at hl 1 rfl) hin.2.1 rfl hz2 dL_law_1167 dL_law_1168 dL_law_1170 dL_law_1171 dL_law_1172 ?_
  refine g_arg (k := 3) X S HX hbl (lv_at hl 5 rfl) (lv_at hl 1 rfl) hin.2.2.1 rfl hz3 dL_law_1173 dL_law_1174 dL_law_1176 dL_law_1177 dL_law_1178 ?_
  refine g_arg (k := 4) X S HX hbl (lv_at hl 5 rfl) (lv_at hl 1 rfl) hin.2.2.2.1 rfl hz4 dL_law_1179 dL_law_1180 dL_law_1182 dL_law_1183 dL_law_1184 ?_
  refine g_clS S.swap (runVL (As := [.int z1, .int z2, .int z3, .int z4]) (rest := []) X S.swap coL_149 (Nat.le_trans (by decide) hDD) (cX13_unedited_m l e2) (tkX13_unedited e2) rfl hl.1 (by simp [cat_rv, cat_wv, cat_sv, cat_i, cat_l, cat_a]) rfl ⟨r1, r2⟩ dL_law_1185) (fun H2 S2 y2 => ?_)
  exact lw_tailL X hDD S2.swap hl iv1 e3 e4 r1 r2 dL_law_1188 dL_law_1190 dL_law_1191 dL_law_1194 dL_law_1196 dL_law_1201 dL_law_1203 dL_law_1206 dL_law_1207 dL_law_1208 dL_law_1209 dL_law_1211 dL_law_1212 dL_law_1217 (by decide) (fun H3 ls S3 y3 hl3 => kk S3 hl3 iv1 (Nat.le_trans hXl (Nat.le_trans y1 (Nat.le_trans y2 y3))) (by omega) (by omega))
end LWC
