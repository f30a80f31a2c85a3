section LWC
variable {p : Program} {l : Launch} {e : Env} {R : Room} {s : State} {m : MethodId} {args : Array Value} {below : List Frame} {meth : Method} {c : Code} {E : EE} {H : Heap} {locs : List Loc} {cells slots : Nat} {Q : State → Prop} {h g h' : Hp}
variable {b mm ao sc X0 pc0 pu0 L DD : Nat} {xs : Nat → Int32} {i : Int32} {ls : Array Slot}
theorem lc_30 (l : Launch) (hlt : l.stackTraces = false) (X : CxL p E DD R s m args c cL_law RL 8) (hDD : 19 ≤ DD) (HX : va_X sc L xs s s.heap) (hbl : sc < s.heap.size) (hin : vp_in (i + 1) L ∧ vp_in (i + 2) L ∧ vp_in (i + 3) L ∧ vp_in (i + 4) L ∧ vp_in (i + 5) L) (S : StL E s h g H []) (hl : lv_has ls 8 [(4, .int i), (3, rv ao), (2, rv mm), (1, rv b), (0, .ref sc)]) (iv : IV b mm ao X0 pc0 pu0 h g) (hXl : X0 ≤ H.size) (hrc : cells + pc0 + 1 ≤ R.cells) (hrs : slots + pu0 + 6 ≤ R.slots)
    (kk : ∀ {h' g' : Hp} {H' : Heap} {X' pc' pu' : Nat} {ls' : Array Slot} {cells' slots' : Nat}, StL E s h' g' H' [] → lv_has ls' 8 [(4, .int i), (3, rv ao), (2, rv mm), (1, rv b), (0, .ref sc)] → IV b mm ao X' pc' pu' h' g' → X' ≤ H'.size → cells' + pc' ≤ cells + pc0 + 1 → slots' + pu' ≤ slots + pu0 + 6 → W p l e R s m args below meth c H' [] cells' slots' Q (F0 m 2048 ls' [])) : W p l e R s m args below meth c H [] cells slots Q (F0 m 1853 ls []) := by
  obtain ⟨z1, hz1⟩ : ∃ z, xs (i + 1).toNatClampNeg = z := ⟨_, rfl⟩
  obtain ⟨z2, hz2⟩ : ∃ z, xs (i + 2).toNatClampNeg = z := ⟨_, rfl⟩
  obtain ⟨z3, hz3⟩ : ∃ z, xs (i + 3).toNatClampNeg = z := ⟨_, rfl⟩
  obtain ⟨kk1, h1, v, g1, e1, e2, e3, e4, iv1⟩ := hc_blamed (z0 := z1) (z1 := z2) (z2 := z3) iv
  have r1 : cells + 1 ≤ R.cells := by omega
  have r2 : slots + 6 ≤ R.slots := by omega
  refine g_aloadL X (or_rv _) dL_law_1853 rfl (lv_at hl 3 rfl) ?_
  refine g_arg (k := 1) X S HX hbl (lv_at hl 4 rfl) (lv_at hl 0 rfl) hin.1 rfl hz1 dL_law_1854 dL_law_1855 dL_law_1857 dL_law_1858 dL_law_1859 ?_
  refine g_arg (k := 2) X S HX hbl (lv_at hl 4 rfl) (lv_at hl 0 rfl) hin.2.1 rfl hz2 dL_law_1860 dL_law_1861 dL_law_1863 dL_law_1864 dL_law_1865 ?_
  refine g_arg (k := 3) X S HX hbl (lv_at hl 4 rfl) (lv_at hl 0 rfl) hin.2.2.1 rfl hz3 dL_law_1866 dL_law_1867 dL_law_1869 dL_law_1870 dL_law_1871 ?_
  refine g_aloadL X (or_rv _) dL_law_1872 rfl (lv_at hl 1 rfl) ?_
  refine g_ciS S (runHL (Pc := PcL E (AX s g) h [rv b, .int z1, .int z2, .int z3, rv ao]) (As := [rv b, .int z1, .int z2, .int z3, rv ao]) (rest := []) (n := 5) X blindL (pre_okL X S _) (uw_6 231 rfl rfl) (uw_6 233 rfl rfl) (uw_1 0 rfl rfl) (by decide) (by decide +kernel) (by decide) (uw_6 232 rfl rfl) (Nat.le_trans (by decide) hDD) (cL_blamed_h l hlt e1) rfl hl.1 (by simp [cat_rv, cat_wv, cat_sv, cat_i, cat_l, cat_a]) rfl ⟨r1, r2⟩ dL_law_1873) (fun H1 S1 y1 => ?_)
  refine lv_istore (lv' := [(5, .int kk1), (4, .int i), (3, rv ao), (2, rv mm), (1, rv b), (0, .ref sc)]) X.1 X.2.1 dL_law_1876 hl (by decide) (by simp [List.filter, cat_rv, cat_wv, cat_sv, cat_i, cat_l]) (fun ls hl => ?_)
  refine g_aloadL X (or_rv _) dL_law_1878 rfl (lv_at hl 3 rfl) ?_
  clear S
  rename StL E s h1 g H1 [] => S
  refine g_arg (k := 1) X S HX hbl (lv_at hl 5 rfl) (lv_at hl 1 rfl) hin.1 rfl hz1 dL_law_1879 dL_law_1880 dL_law_1882 dL_law_1883 dL_law_1884 ?_
  refine g_arg (k := 2) X S HX hbl (lv_at hl 5 rfl) (lv_at hl 1 rfl) hin.2.1 rfl hz2 dL_law_1885 dL_law_1886 dL_law_1888 dL_law_1889 dL_law_1890 ?_
  refine g_arg (k := 3) X S HX hbl (lv_at hl 5 rfl) (lv_at hl 1 rfl) hin.2.2.1 rfl hz3 dL_law_1891 dL_law_1892 dL_law_1894 dL_law_1895 dL_law_1896 ?_
  refine g_ciS S.swap (runVL (As := [.int z1, .int z2, .int z3]) (rest := []) X S.swap coL_207 (Nat.le_trans (by decide) hDD) (cX13_blamed_m l e2) (tkX13_blamed e2) rfl hl.1 (by simp [cat_rv, cat_wv, cat_sv, cat_i, cat_l, cat_a]) rfl ⟨r1, r2⟩ dL_law_1897) (fun H2 S2 y2 => ?_)
  exact lw_tail X hDD S2.swap hl iv1 e3 e4 r1 r2 dL_law_1900 dL_law_1902 dL_law_1903 dL_law_1906 dL_law_1908 dL_law_1913 dL_law_1915 dL_law_1918 dL_law_1919 dL_law_1920 dL_law_1921 dL_law_1923 dL_law_1924 dL_law_1925 dL_law_1930 (by decide) (fun H3 ls S3 y3 hl3 => kk S3 hl3 iv1 (Nat.le_trans hXl (Nat.le_trans y1 (Nat.le_trans y2 y3))) (by omega) (by omega))
theorem lc_31 (l : Launch) (hlt : l.stackTraces = false) (X : CxL p E DD R s m args c cL_law RL 8) (hDD : 19 ≤ DD) (HX : va_X sc L xs s s.heap) (hbl : sc < s.heap.size) (hin : vp_in (i + 1) L ∧ vp_in (i + 2) L ∧ vp_in (i + 3) L ∧ vp_in (i + 4) L ∧ vp_in (i + 5) L) (S : StL E s h g H []) (hl : lv_has ls 8 [(4, .int i), (3, rv ao), (2, rv mm), (1, rv b), (0, .ref sc)]) (iv : IV b mm ao X0 pc0 pu0 h g) (hXl : X0 ≤ H.size) (hrc : cells + pc0 + 1 ≤ R.cells) (hrs : slots + pu0 + 6 ≤ R.slots)
    (kk : ∀ {h' g' : Hp} {H' : Heap} {X' pc' pu' : Nat} {ls' : Array Slot} {cells' slots' : Nat}, StL E s h' g' H' [] → lv_has ls' 8 [(4, .int i), (3, rv ao), (2, rv mm), (1, rv b), (0, .ref sc)] → IV b mm ao X' pc' pu' h' g' → X' ≤ H'.size → cells' + pc' ≤ cells + pc0 + 1 → slots' + pu' ≤ slots + pu0 + 6 → W p l e R s m args below meth c H' [] cells' slots' Q (F0 m 2048 ls' [])) : W p l e R s m args below meth c H [] cells slots Q (F0 m 1933 ls []) := by
  obtain ⟨h1, g1, e1, e2, iv1⟩ := dc_forget iv
  have r1 : cells ≤ R.cells := by omega
  have r2 : slots ≤ R.slots := by omega
  refine g_aloadL X (or_rv _) dL_law_1933 rfl (lv_at hl 3 rfl) ?_
  refine g_cvS S (runVL (As := []) (rest := []) X S coL_208 (Nat.le_trans (by decide) hDD) (cX12_forget_m l e1) (tkX12_forget e1) rfl hl.1 (by simp [cat_rv, cat_wv, cat_sv, cat_i, cat_l, cat_a]) rfl ⟨r1, r2⟩ dL_law_1934) (fun H1 S1 y1 => ?_)
  refine g_aloadL X (or_rv _) dL_law_1937 rfl (lv_at hl 2 rfl) ?_
  clear S
  rename StL E s h1 g H1 [] => S
  refine g_cvS S.swap (runVL (As := []) (rest := []) X S.swap coL_211 (Nat.le_trans (by decide) hDD) (cX13_forget_m l e2) (tkX13_forget e2) rfl hl.1 (by simp [cat_rv, cat_wv, cat_sv, cat_i, cat_l, cat_a]) rfl ⟨r1, r2⟩ dL_law_1938) (fun H2 S2 y2 => ?_)
  refine lv_goto (tgt := 2048) X.1 X.2.1 dL_law_1941 (by decide) ?_
  exact kk S2.swap hl iv1 (Nat.le_trans hXl (Nat.le_trans y1 y2)) (by omega) (by omega)
theorem lc_32 (l : Launch) (hlt : l.stackTraces = false) (X : CxL p E DD R s m args c cL_law RL 8) (hDD : 19 ≤ DD) (HX : va_X sc L xs s s.heap) (hbl : sc < s.heap.size) (hin : vp_in (i + 1) L ∧ vp_in (i + 2) L ∧ vp_in (i + 3) L ∧ vp_in (i + 4) L ∧ vp_in (i + 5) L) (S : StL E s h g H []) (hl : lv_has ls 8 [(4, .int i), (3, rv ao), (2, rv mm), (1, rv b), (0, .ref sc)]) (iv : IV b mm ao X0 pc0 pu0 h g) (hXl : X0 ≤ H.size) (hrc : cells + pc0 + 1 ≤ R.cells) (hrs : slots + pu0 + 6 ≤ R.slots)
    (kk : ∀ {h' g' : Hp} {H' : Heap} {X' pc' pu' : Nat} {ls' : Array Slot} {cells' slots' : Nat}, StL E s h' g' H' [] → lv_has ls' 8 [(4, .int i), (3, rv ao), (2, rv mm), (1, rv b), (0, .ref sc)] → IV b mm ao X' pc' pu' h' g' → X' ≤ H'.size → cells' + pc' ≤ cells + pc0 + 1 → slots' + pu' ≤ slots + pu0 + 6 → W p l e R s m args below meth c H' [] cells' slots' Q (F0 m 2048 ls' [])) : W p l e R s m args below meth c H [] cells slots Q (F0 m 1944 ls []) := by
  obtain ⟨z1, hz1⟩ : ∃ z, xs (i + 1).toNatClampNeg = z := ⟨_, rfl⟩
  obtain ⟨z2, hz2⟩ : ∃ z, xs (i + 2).toNatClampNeg = z := ⟨_, rfl⟩
  obtain ⟨z3, hz3⟩ : ∃ z, xs (i + 3).toNatClampNeg = z := ⟨_, rfl⟩
  obtain ⟨kk1, h1, v, g1, e1, e2, e3, e4, iv1⟩ := hc_years (z0 := z1) (z1 := z2) (z2 := z3) iv
  have r1 : cells + 1 ≤ R.cells := by omega
  have r2 : slots + 6 ≤ R.slots := by omega
  refine g_aloadL X (or_rv _) dL_law_1944 rfl (lv_at hl 3 rfl) ?_
  refine g_arg (k := 1) X S HX hbl (lv_at hl 4 rfl) (lv_at hl 0 rfl) hin.1 rfl hz1 dL_law_1945 dL_law_1946 dL_law_1948 dL_law_1949 dL_law_1950 ?_
  refine g_arg (k := 2) X S HX hbl (lv_at hl 4 rfl) (lv_at hl 0 rfl) hin.2.1 rfl hz2 dL_law_1951 dL_law_1952 dL_law_1954 dL_law_1955 dL_law_1956 ?_
  refine g_arg (k := 3) X S HX hbl (lv_at hl 4 rfl) (lv_at hl 0 rfl) hin.2.2.1 rfl hz3 dL_law_1957 dL_law_1958 dL_law_1960 dL_law_1961 dL_law_1962 ?_
  refine g_aloadL X (or_rv _) dL_law_1963 rfl (lv_at hl 1 rfl) ?_
  refine g_ciS S (runHL (Pc := PcL E (AX s g) h [rv b, .int z1, .int z2, .int z3, rv ao]) (As := [rv b, .int z1, .int z2, .int z3, rv ao]) (rest := []) (n := 5) X blindL (pre_okL X S _) (uw_7 16 rfl rfl) (uw_7 18 rfl rfl) (uw_1 0 rfl rfl) (by decide) (by decide +kernel) (by decide) (uw_7 17 rfl rfl) (Nat.le_trans (by decide) hDD) (cL_years_h l hlt e1) rfl hl.1 (by simp [cat_rv, cat_wv, cat_sv, cat_i, cat_l, cat_a]) rfl ⟨r1, r2⟩ dL_law_1964) (fun H1 S1 y1 => ?_)
  refine lv_istore (lv' := [(5, .int kk1), (4, .int i), (3, rv ao), (2, rv mm), (1, rv b), (0, .ref sc)]) X.1 X.2.1 dL_law_1967 hl (by decide) (by simp [List.filter, cat_rv, cat_wv, cat_sv, cat_i, cat_l]) (fun ls hl => ?_)
  refine g_aloadL X (or_rv _) dL_law_1969 rfl (lv_at hl 3 rfl) ?_
  clear S
  rename StL E s h1 g H1 [] => S
  refine g_arg (k := 1) X S HX hbl (lv_at hl 5 rfl) (lv_at hl 1 rfl) hin.1 rfl hz1 dL_law_1970 dL_law_1971 dL_law_1973 dL_law_1974 dL_law_1975 ?_
  refine g_arg (k := 2) X S HX hbl (lv_at hl 5 rfl) (lv_at hl 1 rfl) hin.2.1 rfl hz2 dL_law_1976 dL_law_1977 dL_law_1979 dL_law_1980 dL_law_1981 ?_
  refine g_arg (k := 3) X S HX hbl (lv_at hl 5 rfl) (lv_at hl 1 rfl) hin.2.2.1 rfl hz3 dL_law_1982 dL_law_1983 dL_law_1985 dL_law_1986 dL_law_1987 ?_
  refine g_ciS S.swap (runVL (As := [.int z1, .int z2, .int z3]) (rest := []) X S.swap coL_214 (Nat.le_trans (by decide) hDD) (cX13_years_m l e2) (tkX13_years e2) rfl hl.1 (by simp [cat_rv, cat_wv, cat_sv, cat_i, cat_l, cat_a]) rfl ⟨r1, r2⟩ dL_law_1988) (fun H2 S2 y2 => ?_)
  exact lw_tail X hDD S2.swap hl iv1 e3 e4 r1 r2 dL_law_1991 dL_law_1993 dL_law_1994 dL_law_1997 dL_law_1999 dL_law_2004 dL_law_2006 dL_law_2009 dL_law_2010 dL_law_2011 dL_law_2012 dL_law_2014 dL_law_2015 dL_law_2016 dL_law_2021 (by decide) (fun H3 ls S3 y3 hl3 => kk S3 hl3 iv1 (Nat.le_trans hXl (Nat.le_trans y1 (Nat.le_trans y2 y3))) (by omega) (by omega))
theorem lc_33 (l : Launch) (hlt : l.stackTraces = false) (X : CxL p E DD R s m args c cL_law RL 8) (hDD : 19 ≤ DD) (HX : va_X sc L xs s s.heap) (hbl : sc < s.heap.size) (hin : vp_in (i + 1) L ∧ vp_in (i + 2) L ∧ vp_in (i + 3) L ∧ vp_in (i + 4) L ∧ vp_in (i + 5) L) (S : StL E s h g H []) (hl : lv_has ls 8 [(4, .int i), (3, rv ao), (2, rv mm), (1, rv b), (0, .ref sc)]) (iv : IV b mm ao X0 pc0 pu0 h g) (hXl : X0 ≤ H.size) (hrc : cells + pc0 + 1 ≤ R.cells) (hrs : slots + pu0 + 6 ≤ R.slots)
    (kk : ∀ {h' g' : Hp} {H' : Heap} {X' pc' pu' : Nat} {ls' : Array Slot} {cells' slots' : Nat}, StL E s h' g' H' [] → lv_has ls' 8 [(4, .int i), (3, rv ao), (2, rv mm), (1, rv b), (0, .ref sc)] → IV b mm ao X' pc' pu' h' g' → X' ≤ H'.size → cells' + pc' ≤ cells + pc0 + 1 → slots' + pu' ≤ slots + pu0 + 6 → W p l e R s m args below meth c H' [] cells' slots' Q (F0 m 2048 ls' [])) : W p l e R s m args below meth c H [] cells slots Q (F0 m 2024 ls []) := by
  refine W_know fun w1 _ _ => ?_
  have w4 := S.2.2.1
  obtain ⟨h8, e8⟩ : ∃ x : Hp, x = (h.1, h.2.1, h.2.2.1, h.2.2.2.1, h.2.2.2.2.1, (H.size, 0, H.size + pc0, pu0)) := ⟨_, rfl⟩
  have pr := da_image (IV_rs iv hXl)
  have S8 : StL E s h8 g H [] := by rw [e8]; exact S
  have x8 : H.size = hX h8 := by rw [e8]; rfl
  have m8 : pc0 + hX h8 = hC h8 := by rw [e8]; exact Nat.add_comm _ _
  have n8 : pu0 + hU h8 = hZ h8 := by rw [e8]; rfl
  have u8 : hU h8 = 0 := by rw [e8]; rfl
  rw [← e8] at pr
  clear e8
  obtain ⟨h1, g1, pc1, pu1, e1, e2, q1, q2, q3, iv1⟩ := pr
  have r1 : cells + pc0 ≤ R.cells := by omega
  have r2 : slots + pu0 ≤ R.slots := by omega
  refine g_aloadL X (or_rv _) dL_law_2024 rfl (lv_at hl 3 rfl) ?_
  refine g_cvLA S8 (runVLF (As := []) (rest := []) X S8 x8 coL_215 (Nat.le_trans (by decide) hDD) (cX12_image_m l m8 n8 e1) (tkX12_image e1) rfl hl.1 (by simp [cat_rv, cat_wv, cat_sv, cat_i, cat_l, cat_a]) rfl ⟨r1, r2⟩ dL_law_2025) (fun H1 locs1 S1 y1 => S1.drop fun S1 => ?_)
  clear S8
  have r3 : hX h1 - s.heap.size ≤ R.cells := by omega
  have r4 : slots + (hU h1 - hU h8) ≤ R.slots := by omega
  refine g_aloadL X (or_rv _) dL_law_2028 rfl (lv_at hl 2 rfl) ?_
  clear S
  rename StL E s h1 g H1 [] => S
  refine g_cvS S.swap (runVL (As := []) (rest := []) X S.swap coL_218 (Nat.le_trans (by decide) hDD) (cX13_image_m l e2) (tkX13_image e2) rfl hl.1 (by simp [cat_rv, cat_wv, cat_sv, cat_i, cat_l, cat_a]) rfl ⟨r3, r4⟩ dL_law_2029) (fun H2 S2 y2 => ?_)
  refine lv_goto (tgt := 2048) X.1 X.2.1 dL_law_2032 (by decide) ?_
  exact kk S2.swap hl iv1 (Nat.le_trans (Nat.le_of_eq y1.symm) y2) (by omega) (by omega)
theorem lc_34 (l : Launch) (hlt : l.stackTraces = false) (X : CxL p E DD R s m args c cL_law RL 8) (hDD : 19 ≤ DD) (HX : va_X sc L xs s s.heap) (hbl : sc < s.heap.size) (hin : vp_in (i + 1) L ∧ vp_in (i + 2) L ∧ vp_in (i + 3) L ∧ vp_in (i + 4) L ∧ vp_in (i + 5) L) (S : StL E s h g H []) (hl : lv_has ls 8 [(4, .int i), (3, rv ao), (2, rv mm), (1, rv b), (0, .ref sc)]) (iv : IV b mm ao X0 pc0 pu0 h g) (hXl : X0 ≤ H.size) (hrc : cells + pc0 + 1 ≤ R.cells) (hrs : slots + pu0 + 6 ≤ R.slots)
    (kk : ∀ {h' g' : Hp} {H' : Heap} {X' pc' pu' : Nat} {ls' : Array Slot} {cells' slots' : Nat}, StL E s h' g' H' [] → lv_has ls' 8 [(4, .int i), (3, rv ao), (2, rv mm), (1, rv b), (0, .ref sc)] → IV b mm ao X' pc' pu' h' g' → X' ≤ H'.size → cells' + pc' ≤ cells + pc0 + 1 → slots' + pu' ≤ slots + pu0 + 6 → W p l e R s m args below meth c H' [] cells' slots' Q (F0 m 2048 ls' [])) : W p l e R s m args below meth c H [] cells slots Q (F0 m 2035 ls []) := by
  refine W_know fun w1 _ _ => ?_
  have w4 := S.2.2.1
  obtain ⟨h8, e8⟩ : ∃ x : Hp, x = (h.1, h.2.1, h.2.2.1, h.2.2.2.1, h.2.2.2.2.1, (H.size, 0, H.size + pc0, pu0)) := ⟨_, rfl⟩
  have pr := da_restore (IV_rs iv hXl)
  have S8 : StL E s h8 g H [] := by rw [e8]; exact S
  have x8 : H.size = hX h8 := by rw [e8]; rfl
  have m8 : pc0 + hX h8 = hC h8 := by rw [e8]; exact Nat.add_comm _ _
  have n8 : pu0 + hU h8 = hZ h8 := by rw [e8]; rfl
  have u8 : hU h8 = 0 := by rw [e8]; rfl
  rw [← e8] at pr
  clear e8
  obtain ⟨v, h1, g1, pc1, pu1, e1, e2, q1, q2, q3, iv1⟩ := pr
  have r1 : cells + pc0 ≤ R.cells := by omega
  have r2 : slots + pu0 ≤ R.slots := by omega
  refine g_aloadL X (or_rv _) dL_law_2035 rfl (lv_at hl 3 rfl) ?_
  refine g_ciLA S8 (runVLF (As := []) (rest := []) X S8 x8 coL_219 (Nat.le_trans (by decide) hDD) (cX12_restore_m l m8 n8 e1) (tkX12_restore e1) rfl hl.1 (by simp [cat_rv, cat_wv, cat_sv, cat_i, cat_l, cat_a]) rfl ⟨r1, r2⟩ dL_law_2036) (fun H1 locs1 S1 y1 => S1.drop fun S1 => ?_)
  clear S8
  have r3 : hX h1 - s.heap.size ≤ R.cells := by omega
  have r4 : slots + (hU h1 - hU h8) ≤ R.slots := by omega
  refine g_aloadL X (or_rv _) dL_law_2039 rfl (lv_at hl 2 rfl) ?_
  clear S
  rename StL E s h1 g H1 [] => S
  refine g_ciS S.swap (runVL (As := []) (rest := [.int v]) X S.swap coL_223 (Nat.le_trans (by decide) hDD) (cX13_restore_m l e2) (tkX13_restore e2) rfl hl.1 (by simp [cat_rv, cat_wv, cat_sv, cat_i, cat_l, cat_a]) rfl ⟨r3, r4⟩ dL_law_2040) (fun H2 S2 y2 => ?_)
  refine lv_icmp_eq (tgt := 2048) X.1 X.2.1 dL_law_2043 (by decide) (fun _ => ?_) (fun x => absurd rfl x)
  exact kk S2.swap hl iv1 (Nat.le_trans (Nat.le_of_eq y1.symm) y2) (by omega) (by omega)
end LWC
