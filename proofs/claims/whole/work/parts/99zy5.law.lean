section LWC
variable {p : Program} {l : Launch} {e : Env} {R : Room} {s : State} {m : MethodId} {args : Array Value} {below : List Frame} {meth : Method} {c : Code} {E : EE} {H : Heap} {locs : List Loc} {cells slots : Nat} {Q : State → Prop} {h g h' : Hp}
variable {b mm ao sc X0 pc0 pu0 L DD : Nat} {xs : Nat → Int32} {i : Int32} {ls : Array Slot}
theorem lc_25 (l : Launch) (hlt : l.stackTraces = false) (X : CxL p E DD R s m args c cL_law RL 8) (hDD : 19 ≤ DD) (HX : va_X sc L xs s s.heap) (hbl : sc < s.heap.size) (hin : vp_in (i + 1) L ∧ vp_in (i + 2) L ∧ vp_in (i + 3) L ∧ vp_in (i + 4) L ∧ vp_in (i + 5) L) (S : StL E s h g H []) (hl : lv_has ls 8 [(4, .int i), (3, rv ao), (2, rv mm), (1, rv b), (0, .ref sc)]) (iv : IV b mm ao X0 pc0 pu0 h g) (hXl : X0 ≤ H.size) (hrc : cells + pc0 + 1 ≤ R.cells) (hrs : slots + pu0 + 6 ≤ R.slots)
    (kk : ∀ {h' g' : Hp} {H' : Heap} {X' pc' pu' : Nat} {ls' : Array Slot} {cells' slots' : Nat}, StL E s h' g' H' [] → lv_has ls' 8 [(4, .int i), (3, rv ao), (2, rv mm), (1, rv b), (0, .ref sc)] → IV b mm ao X' pc' pu' h' g' → X' ≤ H'.size → cells' + pc' ≤ cells + pc0 + 1 → slots' + pu' ≤ slots + pu0 + 6 → W p l e R s m args below meth c H' [] cells' slots' Q (F0 m 2048 ls' [])) : W p l e R s m args below meth c H [] cells slots Q (F0 m 1630 ls []) := by
  obtain ⟨v, h1, g1, e1, e2, iv1⟩ := dc_halts iv
  have r1 : cells ≤ R.cells := by omega
  have r2 : slots ≤ R.slots := by omega
  refine g_aloadL X (or_rv _) dL_law_1630 rfl (lv_at hl 3 rfl) ?_
  refine g_ciS S (runVL (As := []) (rest := []) X S coL_187 (Nat.le_trans (by decide) hDD) (cX12_halts_m l e1) (tkX12_halts e1) rfl hl.1 (by simp [cat_rv, cat_wv, cat_sv, cat_i, cat_l, cat_a]) rfl ⟨r1, r2⟩ dL_law_1631) (fun H1 S1 y1 => ?_)
  refine g_aloadL X (or_rv _) dL_law_1634 rfl (lv_at hl 2 rfl) ?_
  clear S
  rename StL E s h1 g H1 [] => S
  refine g_ciS S.swap (runVL (As := []) (rest := [.int v]) X S.swap coL_190 (Nat.le_trans (by decide) hDD) (cX13_halts_m l e2) (tkX13_halts e2) rfl hl.1 (by simp [cat_rv, cat_wv, cat_sv, cat_i, cat_l, cat_a]) rfl ⟨r1, r2⟩ dL_law_1635) (fun H2 S2 y2 => ?_)
  refine lv_icmp_eq (tgt := 2048) X.1 X.2.1 dL_law_1638 (by decide) (fun _ => ?_) (fun x => absurd rfl x)
  exact kk S2.swap hl iv1 (Nat.le_trans hXl (Nat.le_trans y1 y2)) (by omega) (by omega)
theorem lc_26 (l : Launch) (hlt : l.stackTraces = false) (X : CxL p E DD R s m args c cL_law RL 8) (hDD : 19 ≤ DD) (HX : va_X sc L xs s s.heap) (hbl : sc < s.heap.size) (hin : vp_in (i + 1) L ∧ vp_in (i + 2) L ∧ vp_in (i + 3) L ∧ vp_in (i + 4) L ∧ vp_in (i + 5) L) (S : StL E s h g H []) (hl : lv_has ls 8 [(4, .int i), (3, rv ao), (2, rv mm), (1, rv b), (0, .ref sc)]) (iv : IV b mm ao X0 pc0 pu0 h g) (hXl : X0 ≤ H.size) (hrc : cells + pc0 + 1 ≤ R.cells) (hrs : slots + pu0 + 6 ≤ R.slots)
    (kk : ∀ {h' g' : Hp} {H' : Heap} {X' pc' pu' : Nat} {ls' : Array Slot} {cells' slots' : Nat}, StL E s h' g' H' [] → lv_has ls' 8 [(4, .int i), (3, rv ao), (2, rv mm), (1, rv b), (0, .ref sc)] → IV b mm ao X' pc' pu' h' g' → X' ≤ H'.size → cells' + pc' ≤ cells + pc0 + 1 → slots' + pu' ≤ slots + pu0 + 6 → W p l e R s m args below meth c H' [] cells' slots' Q (F0 m 2048 ls' [])) : W p l e R s m args below meth c H [] cells slots Q (F0 m 1643 ls []) := by
  obtain ⟨z1, hz1⟩ : ∃ z, xs (i + 1).toNatClampNeg = z := ⟨_, rfl⟩
  obtain ⟨kk1, h1, v, g1, e1, e2, e3, e4, iv1⟩ := hc_changes (z0 := z1) iv
  have r1 : cells + 1 ≤ R.cells := by omega
  have r2 : slots + 6 ≤ R.slots := by omega
  refine g_aloadL X (or_rv _) dL_law_1643 rfl (lv_at hl 3 rfl) ?_
  refine g_arg (k := 1) X S HX hbl (lv_at hl 4 rfl) (lv_at hl 0 rfl) hin.1 rfl hz1 dL_law_1644 dL_law_1645 dL_law_1647 dL_law_1648 dL_law_1649 ?_
  refine g_aloadL X (or_rv _) dL_law_1650 rfl (lv_at hl 1 rfl) ?_
  refine g_ciS S (runHL (Pc := PcL E (AX s g) h [rv b, .int z1, rv ao]) (As := [rv b, .int z1, rv ao]) (rest := []) (n := 3) X blindL (pre_okL X S _) (uw_6 181 rfl rfl) (uw_6 183 rfl rfl) (uw_1 0 rfl rfl) (by decide) (by decide +kernel) (by decide) (uw_6 182 rfl rfl) (Nat.le_trans (by decide) hDD) (cL_changes_h l hlt e1) rfl hl.1 (by simp [cat_rv, cat_wv, cat_sv, cat_i, cat_l, cat_a]) rfl ⟨r1, r2⟩ dL_law_1651) (fun H1 S1 y1 => ?_)
  refine lv_istore (lv' := [(5, .int kk1), (4, .int i), (3, rv ao), (2, rv mm), (1, rv b), (0, .ref sc)]) X.1 X.2.1 dL_law_1654 hl (by decide) (by simp [List.filter, cat_rv, cat_wv, cat_sv, cat_i, cat_l]) (fun ls hl => ?_)
  refine g_aloadL X (or_rv _) dL_law_1656 rfl (lv_at hl 3 rfl) ?_
  clear S
  rename StL E s h1 g H1 [] => S
  refine g_arg (k := 1) X S HX hbl (lv_at hl 5 rfl) (lv_at hl 1 rfl) hin.1 rfl hz1 dL_law_1657 dL_law_1658 dL_law_1660 dL_law_1661 dL_law_1662 ?_
  refine g_ciS S.swap (runVL (As := [.int z1]) (rest := []) X S.swap coL_193 (Nat.le_trans (by decide) hDD) (cX13_changes_m l e2) (tkX13_changes e2) rfl hl.1 (by simp [cat_rv, cat_wv, cat_sv, cat_i, cat_l, cat_a]) rfl ⟨r1, r2⟩ dL_law_1663) (fun H2 S2 y2 => ?_)
  exact lw_tail X hDD S2.swap hl iv1 e3 e4 r1 r2 dL_law_1666 dL_law_1668 dL_law_1669 dL_law_1672 dL_law_1674 dL_law_1679 dL_law_1681 dL_law_1684 dL_law_1685 dL_law_1686 dL_law_1687 dL_law_1689 dL_law_1690 dL_law_1691 dL_law_1696 (by decide) (fun H3 ls S3 y3 hl3 => kk S3 hl3 iv1 (Nat.le_trans hXl (Nat.le_trans y1 (Nat.le_trans y2 y3))) (by omega) (by omega))
theorem lc_27 (l : Launch) (hlt : l.stackTraces = false) (X : CxL p E DD R s m args c cL_law RL 8) (hDD : 19 ≤ DD) (HX : va_X sc L xs s s.heap) (hbl : sc < s.heap.size) (hin : vp_in (i + 1) L ∧ vp_in (i + 2) L ∧ vp_in (i + 3) L ∧ vp_in (i + 4) L ∧ vp_in (i + 5) L) (S : StL E s h g H []) (hl : lv_has ls 8 [(4, .int i), (3, rv ao), (2, rv mm), (1, rv b), (0, .ref sc)]) (iv : IV b mm ao X0 pc0 pu0 h g) (hXl : X0 ≤ H.size) (hrc : cells + pc0 + 1 ≤ R.cells) (hrs : slots + pu0 + 6 ≤ R.slots)
    (kk : ∀ {h' g' : Hp} {H' : Heap} {X' pc' pu' : Nat} {ls' : Array Slot} {cells' slots' : Nat}, StL E s h' g' H' [] → lv_has ls' 8 [(4, .int i), (3, rv ao), (2, rv mm), (1, rv b), (0, .ref sc)] → IV b mm ao X' pc' pu' h' g' → X' ≤ H'.size → cells' + pc' ≤ cells + pc0 + 1 → slots' + pu' ≤ slots + pu0 + 6 → W p l e R s m args below meth c H' [] cells' slots' Q (F0 m 2048 ls' [])) : W p l e R s m args below meth c H [] cells slots Q (F0 m 1699 ls []) := by
  obtain ⟨v, h1, g1, e1, e2, iv1⟩ := dc_round iv
  have r1 : cells ≤ R.cells := by omega
  have r2 : slots ≤ R.slots := by omega
  refine g_aloadL X (or_rv _) dL_law_1699 rfl (lv_at hl 3 rfl) ?_
  refine g_ciS S (runVL (As := []) (rest := []) X S coL_194 (Nat.le_trans (by decide) hDD) (cX12_round_m l e1) (tkX12_round e1) rfl hl.1 (by simp [cat_rv, cat_wv, cat_sv, cat_i, cat_l, cat_a]) rfl ⟨r1, r2⟩ dL_law_1700) (fun H1 S1 y1 => ?_)
  refine g_aloadL X (or_rv _) dL_law_1703 rfl (lv_at hl 2 rfl) ?_
  clear S
  rename StL E s h1 g H1 [] => S
  refine g_ciS S.swap (runVL (As := []) (rest := [.int v]) X S.swap coL_197 (Nat.le_trans (by decide) hDD) (cX13_round_m l e2) (tkX13_round e2) rfl hl.1 (by simp [cat_rv, cat_wv, cat_sv, cat_i, cat_l, cat_a]) rfl ⟨r1, r2⟩ dL_law_1704) (fun H2 S2 y2 => ?_)
  refine lv_icmp_eq (tgt := 2048) X.1 X.2.1 dL_law_1707 (by decide) (fun _ => ?_) (fun x => absurd rfl x)
  exact kk S2.swap hl iv1 (Nat.le_trans hXl (Nat.le_trans y1 y2)) (by omega) (by omega)
theorem lc_28 (l : Launch) (hlt : l.stackTraces = false) (X : CxL p E DD R s m args c cL_law RL 8) (hDD : 19 ≤ DD) (HX : va_X sc L xs s s.heap) (hbl : sc < s.heap.size) (hin : vp_in (i + 1) L ∧ vp_in (i + 2) L ∧ vp_in (i + 3) L ∧ vp_in (i + 4) L ∧ vp_in (i + 5) L) (S : StL E s h g H []) (hl : lv_has ls 8 [(4, .int i), (3, rv ao), (2, rv mm), (1, rv b), (0, .ref sc)]) (iv : IV b mm ao X0 pc0 pu0 h g) (hXl : X0 ≤ H.size) (hrc : cells + pc0 + 1 ≤ R.cells) (hrs : slots + pu0 + 6 ≤ R.slots)
    (kk : ∀ {h' g' : Hp} {H' : Heap} {X' pc' pu' : Nat} {ls' : Array Slot} {cells' slots' : Nat}, StL E s h' g' H' [] → lv_has ls' 8 [(4, .int i), (3, rv ao), (2, rv mm), (1, rv b), (0, .ref sc)] → IV b mm ao X' pc' pu' h' g' → X' ≤ H'.size → cells' + pc' ≤ cells + pc0 + 1 → slots' + pu' ≤ slots + pu0 + 6 → W p l e R s m args below meth c H' [] cells' slots' Q (F0 m 2048 ls' [])) : W p l e R s m args below meth c H [] cells slots Q (F0 m 1712 ls []) := by
  obtain ⟨z1, hz1⟩ : ∃ z, xs (i + 1).toNatClampNeg = z := ⟨_, rfl⟩
  obtain ⟨z2, hz2⟩ : ∃ z, xs (i + 2).toNatClampNeg = z := ⟨_, rfl⟩
  obtain ⟨z3, hz3⟩ : ∃ z, xs (i + 3).toNatClampNeg = z := ⟨_, rfl⟩
  obtain ⟨z4, hz4⟩ : ∃ z, xs (i + 4).toNatClampNeg = z := ⟨_, rfl⟩
  obtain ⟨kk1, h1, v, g1, e1, e2, e3, e4, iv1⟩ := hc_spoilt (z0 := z1) (z1 := z2) (z2 := z3) (z3 := z4) iv
  have r1 : cells + 1 ≤ R.cells := by omega
  have r2 : slots + 6 ≤ R.slots := by omega
  refine g_aloadL X (or_rv _) dL_law_1712 rfl (lv_at hl 3 rfl) ?_
  refine g_arg (k := 1) X S HX hbl (lv_at hl 4 rfl) (lv_at hl 0 rfl) hin.1 rfl hz1 dL_law_1713 dL_law_1714 dL_law_1716 dL_law_1717 dL_law_1718 ?_
  refine g_arg (k := 2) X S HX hbl (lv_at hl 4 rfl) (lv_at hl 0 rfl) hin.2.1 rfl hz2 dL_law_1719 dL_law_1720 dL_law_1722 dL_law_1723 dL_law_1724 ?_
  refine g_arg (k := 3) X S HX hbl (lv_at hl 4 rfl) (lv_at hl 0 rfl) hin.2.2.1 rfl hz3 dL_law_1725 dL_law_1726 dL_law_1728 dL_law_1729 dL_law_1730 ?_
  refine g_arg (k := 4) X S HX hbl (lv_at hl 4 rfl) (lv_at hl 0 rfl) hin.2.2.2.1 rfl hz4 dL_law_1731 dL_law_1732 dL_law_1734 dL_law_1735 dL_law_1736 ?_
  refine g_aloadL X (or_rv _) dL_law_1737 rfl (lv_at hl 1 rfl) ?_
  refine g_ciS S (runHL (Pc := PcL E (AX s g) h [rv b, .int z1, .int z2, .int z3, .int z4, rv ao]) (As := [rv b, .int z1, .int z2, .int z3, .int z4, rv ao]) (rest := []) (n := 6) X blindL (pre_okL X S _) (uw_6 193 rfl rfl) (uw_6 195 rfl rfl) (uw_1 0 rfl rfl) (by decide) (by decide +kernel) (by decide) (uw_6 194 rfl rfl) (Nat.le_trans (by decide) hDD) (cL_spoilt_h l hlt e1) rfl hl.1 (by simp [cat_rv, cat_wv, cat_sv, cat_i, cat_l, cat_a]) rfl ⟨r1, r2⟩ dL_law_1738) (fun H1 S1 y1 => ?_)
  refine lv_istore (lv' := [(5, .int kk1), (4, .int i), (3, rv ao), (2, rv mm), (1, rv b), (0, .ref sc)]) X.1 X.2.1 dL_law_1741 hl (by decide) (by simp [List.filter, cat_rv, cat_wv, cat_sv, cat_i, cat_l]) (fun ls hl => ?_)
  refine g_aloadL X (or_rv _) dL_law_1743 rfl (lv_at hl 3 rfl) ?_
  clear S
  rename StL E s h1 g H1 [] => S
  refine g_arg (k := 1) X S HX hbl (lv_at hl 5 rfl) (lv_at hl 1 rfl) hin.1 rfl hz1 dL_law_1744 dL_law_1745 dL_law_1747 dL_law_1748 dL_law_1749 ?_
  refine g_arg (k := 2) X S HX hbl (lv_at hl 5 rfl) (lv_at hl 1 rfl) hin.2.1 rfl hz2 dL_law_1750 dL_law_1751 dL_law_1753 dL_law_1754 dL_law_1755 ?_
  refine g_arg (k := 3) X S HX hbl (lv_at hl 5 rfl) (lv_at hl 1 rfl) hin.2.2.1 rfl hz3 dL_law_1756 dL_law_1757 dL_law_1759 dL_law_1760 dL_law_1761 ?_
  refine g_arg (k := 4) X S HX hbl (lv_at hl 5 rfl) (lv_at hl 1 rfl) hin.2.2.2.1 rfl hz4 dL_law_1762 dL_law_1763 dL_law_1765 dL_law_1766 dL_law_1767 ?_
  refine g_ciS S.swap (runVL (As := [.int z1, .int z2, .int z3, .int z4]) (rest := []) X S.swap coL_200 (Nat.le_trans (by decide) hDD) (cX13_spoilt_m l e2) (tkX13_spoilt e2) rfl hl.1 (by simp [cat_rv, cat_wv, cat_sv, cat_i, cat_l, cat_a]) rfl ⟨r1, r2⟩ dL_law_1768) (fun H2 S2 y2 => ?_)
  exact lw_tail X hDD S2.swap hl iv1 e3 e4 r1 r2 dL_law_1771 dL_law_1773 dL_law_1774 dL_law_1777 dL_law_1779 dL_law_1784 dL_law_1786 dL_law_1789 dL_law_1790 dL_law_1791 dL_law_1792 dL_law_1794 dL_law_1795 dL_law_1796 dL_law_1801 (by decide) (fun H3 ls S3 y3 hl3 => kk S3 hl3 iv1 (Nat.le_trans hXl (Nat.le_trans y1 (Nat.le_trans y2 y3))) (by omega) (by omega))
theorem lc_29 (l : Launch) (hlt : l.stackTraces = false) (X : CxL p E DD R s m args c cL_law RL 8) (hDD : 19 ≤ DD) (HX : va_X sc L xs s s.heap) (hbl : sc < s.heap.size) (hin : vp_in (i + 1) L ∧ vp_in (i + 2) L ∧ vp_in (i + 3) L ∧ vp_in (i + 4) L ∧ vp_in (i + 5) L) (S : StL E s h g H []) (hl : lv_has ls 8 [(4, .int i), (3, rv ao), (2, rv mm), (1, rv b), (0, .ref sc)]) (iv : IV b mm ao X0 pc0 pu0 h g) (hXl : X0 ≤ H.size) (hrc : cells + pc0 + 1 ≤ R.cells) (hrs : slots + pu0 + 6 ≤ R.slots)
    (kk : ∀ {h' g' : Hp} {H' : Heap} {X' pc' pu' : Nat} {ls' : Array Slot} {cells' slots' : Nat}, StL E s h' g' H' [] → lv_has ls' 8 [(4, .int i), (3, rv ao), (2, rv mm), (1, rv b), (0, .ref sc)] → IV b mm ao X' pc' pu' h' g' → X' ≤ H'.size → cells' + pc' ≤ cells + pc0 + 1 → slots' + pu' ≤ slots + pu0 + 6 → W p l e R s m args below meth c H' [] cells' slots' Q (F0 m 2048 ls' [])) : W p l e R s m args below meth c H [] cells slots Q (F0 m 1804 ls []) := by
  obtain ⟨z1, hz1⟩ : ∃ z, xs (i + 1).toNatClampNeg = z := ⟨_, rfl⟩
  obtain ⟨z2, hz2⟩ : ∃ z, xs (i + 2).toNatClampNeg = z := ⟨_, rfl⟩
  obtain ⟨z3, hz3⟩ : ∃ z, xs (i + 3).toNatClampNeg = z := ⟨_, rfl⟩
  obtain ⟨v, h1, g1, e1, e2, iv1⟩ := dc_note (z0 := z1) (z1 := z2) (z2 := z3) iv
  have r1 : cells ≤ R.cells := by omega
  have r2 : slots ≤ R.slots := by omega
  refine g_aloadL X (or_rv _) dL_law_1804 rfl (lv_at hl 3 rfl) ?_
  refine g_arg (k := 1) X S HX hbl (lv_at hl 4 rfl) (lv_at hl 0 rfl) hin.1 rfl hz1 dL_law_1805 dL_law_1806 dL_law_1808 dL_law_1809 dL_law_1810 ?_
  refine g_arg (k := 2) X S HX hbl (lv_at hl 4 rfl) (lv_at hl 0 rfl) hin.2.1 rfl hz2 dL_law_1811 dL_law_1812 dL_law_1814 dL_law_1815 dL_law_1816 ?_
  refine g_arg (k := 3) X S HX hbl (lv_at hl 4 rfl) (lv_at hl 0 rfl) hin.2.2.1 rfl hz3 dL_law_1817 dL_law_1818 dL_law_1820 dL_law_1821 dL_law_1822 ?_
  refine g_ciS S (runVL (As := [.int z1, .int z2, .int z3]) (rest := []) X S coL_201 (Nat.le_trans (by decide) hDD) (cX12_note_m l e1) (tkX12_note e1) rfl hl.1 (by simp [cat_rv, cat_wv, cat_sv, cat_i, cat_l, cat_a]) rfl ⟨r1, r2⟩ dL_law_1823) (fun H1 S1 y1 => ?_)
  refine g_aloadL X (or_rv _) dL_law_1826 rfl (lv_at hl 2 rfl) ?_
  clear S
  rename StL E s h1 g H1 [] => S
  refine g_arg (k := 1) X S HX hbl (lv_at hl 4 rfl) (lv_at hl 0 rfl) hin.1 rfl hz1 dL_law_1827 dL_law_1828 dL_law_1830 dL_law_1831 dL_law_1832 ?_
  refine g_arg (k := 2) X S HX hbl (lv_at hl 4 rfl) (lv_at hl 0 rfl) hin.2.1 rfl hz2 dL_law_1833 dL_law_1834 dL_law_1836 dL_law_1837 dL_law_1838 ?_
  refine g_arg (k := 3) X S HX hbl (lv_at hl 4 rfl) (lv_at hl 0 rfl) hin.2.2.1 rfl hz3 dL_law_1839 dL_law_1840 dL_law_1842 dL_law_1843 dL_law_1844 ?_
  refine g_ciS S.swap (runVL (As := [.int z1, .int z2, .int z3]) (rest := [.int v]) X S.swap coL_204 (Nat.le_trans (by decide) hDD) (cX13_note_m l e2) (tkX13_note e2) rfl hl.1 (by simp [cat_rv, cat_wv, cat_sv, cat_i, cat_l, cat_a]) rfl ⟨r1, r2⟩ dL_law_1845) (fun H2 S2 y2 => ?_)
  refine lv_icmp_eq (tgt := 2048) X.1 X.2.1 dL_law_1848 (by decide) (fun _ => ?_) (fun x => absurd rfl x)
  exact kk S2.swap hl iv1 (Nat.le_trans hXl (Nat.le_trans y1 y2)) (by omega) (by omega)
end LWC
