section FSM
variable {K : Nat → Nat} {I : Nat → Nat → Int32} {R : Nat → Nat → Nat} {L : Nat → Nat → Int64} {N : Nat → Nat} {w : Nat × Nat × Nat × Nat} {X U C Z : Nat}
/-- any memory is of the reference's form -/
theorem MS_any (m : Nat) : (K, I, R, L, N, w) = MS (K, R, N, w, I, L) m (fun k => (I m k).toInt) (fun k => (I (m + 3) k).toInt) (fun j k => (I (m + j) k).toInt) (fun j k => (L (m + j) k).toInt) := by
  have e := @MS_of (K, R, N, w, I, L) m (fun j k => (I (m + j) k).toInt) (fun j k => (L (m + j) k).toInt)
  refine Eq.trans ?_ e
  unfold MH
  have eI : I = fun y k => if m ≤ y ∧ y < m + 37 then jI ((I (m + (y - m)) k).toInt) else I y k := by
    funext y k
    by_cases q : m ≤ y ∧ y < m + 37
    · rw [if_pos q, show m + (y - m) = y by omega]; exact (Int32.ofInt_toInt _).symm
    · rw [if_neg q]
  have eL : L = fun y k => if m ≤ y ∧ y < m + 37 then jL ((L (m + (y - m)) k).toInt) else L y k := by
    funext y k
    by_cases q : m ≤ y ∧ y < m + 37
    · rw [if_pos q, show m + (y - m) = y by omega]; exact (Int64.ofInt_toInt _).symm
    · rw [if_neg q]
  have key : ∀ a b, a = I → b = L → (K, I, R, L, N, w) = (K, a, R, b, N, w) := by
    rintro _ _ rfl rfl
    rfl
  exact key _ _ eI.symm eL.symm
theorem nd_37 {d y : Nat} (hy : y < d + 1) (hne : y ≠ d) : ¬ (d ≤ y ∧ y < d + 37) := by omega
theorem Zt_emp : Zt emp := fun j hj => by
  have e : emp j = if j < 266 then 0 else if j < 276 then -1 else if j = 276 then 1 else 0 := rfl
  rw [e, if_neg (show ¬ j < 266 by omega), if_neg (show ¬ j < 276 by omega), if_neg (show ¬ j = 276 by omega)]
set_option maxHeartbeats 8000000 in
set_option maxRecDepth 100000 in
/-- a new reference -/
theorem z_Init {d : Nat} (kd : K d = 11) (id : I d = fun _ => 0) (h1 : d + 1 + 36 ≤ C) (h2 : U + 37775 ≤ Z) : ∃ K' I' R' L' N' c f s t, fX13_init d (K, I, R, L, N, (d + 1, U, C, Z)) = some (K', I', R', L', N', (d + 37, U + 37775, C, Z)) ∧ (K', I', R', L', N', (d + 37, U + 37775, C, Z)) = MS c d f emp s t ∧ (∀ y, y < d + 1 → K' y = K y) ∧ (∀ y, y < d + 1 → N' y = N y) ∧ (∀ y, y < d + 1 → y ≠ d → I' y = I y) ∧ (∀ y, y < d + 1 → y ≠ d → R' y = R y) ∧ K' (d + 36) ≠ 0 ∧ RF c d f emp s 0 P00 0 (fun _ => emp) 0 (fun _ => 0) (fun _ => 0) 0 (fun _ => 0) (-1) none := by
  obtain ⟨K', I', R', L', N', run, q1, q2, q3, q4, q5, q6, q7, q8, q9, q10, q11, q12, q13, q14, q15, q16, q17, q18, q19, q20, q21, q22, q23, q24, q25, q26, q27, q28, q29, q30, q31, q32, q33, q34, q35, q36, q37, q38, q39, q40, q41, q42, q43, q44, q45, q46, q47, q48, q49, q50, q51, q52, q53, q54, q55, q56, q57, q58, q59, q60, q61, q62, q63, q64, q65, q66, q67, q68, q69, q70, q71, q72, q73, q74, q75, q76, q77, q78, q79, q80, q81, q82, q83, q84, q85, q86, q87, q88, q89, q90, q91, q92, q93, q94, q95, q96, q97, q98, q99, q100, q101, q102, q103, q104, q105, q106, q107, q108, q109, q110, q111, q112, q113, q114, q115, q116, q117, q118, q119, q120, q121, q122, q123, q124, q125, q126, q127, q128, q129, q130, q131, q132, q133, q134, q135, q136, q137, q138, q139, q140, q141, q142, q143, q144, q145, q146, q147, q148, q149, q150, q151, q152, q153, q154, q155, q156, q157, q158, q159, q160, q161, q162, q163, q164, q165, q166, q167, q168, q169, q170, q171, q172, q173, q174, q175, q176, q177, q178, q179, q180⟩ := e_mdini (K := K) (I := I) (R := R) (L := L) (N := N) (X := d + 1) (U := U) (C := C) (Z := Z) (d := d) kd (Nat.lt_succ_self d) h1 h2
  have mo : Mo (K', R', N', (d + 37, U + 37775, C, Z), I', L') d := by
    refine ⟨fun j hj => ?_, fun j h0 hj => ?_, fun k hk => ?_, fun k hk => ?_, fun k hk => ?_⟩
    · match j, hj with
      | 0, _ => exact (q1 d (Nat.lt_succ_self d)).trans kd
      | 1, _ => exact q6
      | 2, _ => exact q35
      | 3, _ => exact q43
      | 4, _ => exact q47
      | 5, _ => exact q51
      | 6, _ => exact q55
      | 7, _ => exact q59
      | 8, _ => exact q63
      | 9, _ => exact q67
      | 10, _ => exact q71
      | 11, _ => exact q75
      | 12, _ => exact q79
      | 13, _ => exact q83
      | 14, _ => exact q87
      | 15, _ => exact q91
      | 16, _ => exact q95
      | 17, _ => exact q99
      | 18, _ => exact q103
      | 19, _ => exact q107
      | 20, _ => exact q111
      | 21, _ => exact q115
      | 22, _ => exact q119
      | 23, _ => exact q123
      | 24, _ => exact q127
      | 25, _ => exact q131
      | 26, _ => exact q135
      | 27, _ => exact q139
      | 28, _ => exact q143
      | 29, _ => exact q147
      | 30, _ => exact q151
      | 31, _ => exact q155
      | 32, _ => exact q159
      | 33, _ => exact q163
      | 34, _ => exact q167
      | 35, _ => exact q171
      | 36, _ => exact q175
      | (j + 37), h => exact absurd h (Nat.not_lt.mpr (Nat.le_add_left 37 j))
    · match j, h0, hj with
      | 1, _, _ => exact q7
      | 2, _, _ => exact q36
      | 3, _, _ => exact q44
      | 4, _, _ => exact q48
      | 5, _, _ => exact q52
      | 6, _, _ => exact q56
      | 7, _, _ => exact q60
      | 8, _, _ => exact q64
      | 9, _, _ => exact q68
      | 10, _, _ => exact q72
      | 11, _, _ => exact q76
      | 12, _, _ => exact q80
      | 13, _, _ => exact q84
      | 14, _, _ => exact q88
      | 15, _, _ => exact q92
      | 16, _, _ => exact q96
      | 17, _, _ => exact q100
      | 18, _, _ => exact q104
      | 19, _, _ => exact q108
      | 20, _, _ => exact q112
      | 21, _, _ => exact q116
      | 22, _, _ => exact q120
      | 23, _, _ => exact q124
      | 24, _, _ => exact q128
      | 25, _, _ => exact q132
      | 26, _, _ => exact q136
      | 27, _, _ => exact q140
      | 28, _, _ => exact q144
      | 29, _, _ => exact q148
      | 30, _, _ => exact q152
      | 31, _, _ => exact q156
      | 32, _, _ => exact q160
      | 33, _, _ => exact q164
      | 34, _, _ => exact q168
      | 35, _, _ => exact q172
      | 36, _, _ => exact q176
      | (j + 37), _, h => exact absurd h (Nat.not_lt.mpr (Nat.le_add_left 37 j))
    · unfold mR at hk ⊢
      by_cases c0 : k = 0
      · subst c0; exact q34
      rw [if_neg c0] at hk ⊢
      by_cases c1 : k = 1
      · subst c1; exact q42
      rw [if_neg c1] at hk ⊢
      by_cases c3 : k = 3
      · subst c3; exact q46
      rw [if_neg c3] at hk ⊢
      by_cases c4 : k = 4
      · subst c4; exact q50
      rw [if_neg c4] at hk ⊢
      by_cases c5 : k = 5
      · subst c5; exact q54
      rw [if_neg c5] at hk ⊢
      by_cases c6 : k = 6
      · subst c6; exact q58
      rw [if_neg c6] at hk ⊢
      by_cases c7 : k = 7
      · subst c7; exact q62
      rw [if_neg c7] at hk ⊢
      by_cases c8 : k = 8
      · subst c8; exact q66
      rw [if_neg c8] at hk ⊢
      by_cases c9 : k = 9
      · subst c9; exact q70
      rw [if_neg c9] at hk ⊢
      by_cases c10 : k = 10
      · subst c10; exact q74
      rw [if_neg c10] at hk ⊢
      by_cases c11 : k = 11
      · subst c11; exact q78
      rw [if_neg c11] at hk ⊢
      by_cases c12 : k = 12
      · subst c12; exact q82
      rw [if_neg c12] at hk ⊢
      by_cases c15 : k = 15
      · subst c15; exact q86
      rw [if_neg c15] at hk ⊢
      by_cases c26 : k = 26
      · subst c26; exact q90
      rw [if_neg c26] at hk ⊢
      by_cases c27 : k = 27
      · subst c27; exact q94
      rw [if_neg c27] at hk ⊢
      by_cases c28 : k = 28
      · subst c28; exact q98
      rw [if_neg c28] at hk ⊢
      by_cases c29 : k = 29
      · subst c29; exact q102
      rw [if_neg c29] at hk ⊢
      by_cases c30 : k = 30
      · subst c30; exact q106
      rw [if_neg c30] at hk ⊢
      by_cases c31 : k = 31
      · subst c31; exact q110
      rw [if_neg c31] at hk ⊢
      by_cases c32 : k = 32
      · subst c32; exact q114
      rw [if_neg c32] at hk ⊢
      by_cases c33 : k = 33
      · subst c33; exact q118
      rw [if_neg c33] at hk ⊢
      by_cases c45 : k = 45
      · subst c45; exact q122
      rw [if_neg c45] at hk ⊢
      by_cases c52 : k = 52
      · subst c52; exact q126
      rw [if_neg c52] at hk ⊢
      by_cases c55 : k = 55
      · subst c55; exact q130
      rw [if_neg c55] at hk ⊢
      by_cases c60 : k = 60
      · subst c60; exact q134
      rw [if_neg c60] at hk ⊢
      by_cases c61 : k = 61
      · subst c61; exact q138
      rw [if_neg c61] at hk ⊢
      by_cases c62 : k = 62
      · subst c62; exact q142
      rw [if_neg c62] at hk ⊢
      by_cases c63 : k = 63
      · subst c63; exact q146
      rw [if_neg c63] at hk ⊢
      by_cases c64 : k = 64
      · subst c64; exact q150
      rw [if_neg c64] at hk ⊢
      by_cases c65 : k = 65
      · subst c65; exact q154
      rw [if_neg c65] at hk ⊢
      by_cases c70 : k = 70
      · subst c70; exact q158
      rw [if_neg c70] at hk ⊢
      by_cases c71 : k = 71
      · subst c71; exact q162
      rw [if_neg c71] at hk ⊢
      by_cases c72 : k = 72
      · subst c72; exact q166
      rw [if_neg c72] at hk ⊢
      by_cases c73 : k = 73
      · subst c73; exact q170
      rw [if_neg c73] at hk ⊢
      by_cases c74 : k = 74
      · subst c74; exact q174
      rw [if_neg c74] at hk ⊢
      by_cases c75 : k = 75
      · subst c75; exact q178
      rw [if_neg c75] at hk ⊢
      exact absurd rfl hk
    · match k, hk with
      | 0, _ => exact q9
      | 1, _ => exact q10
      | 2, _ => exact q11
      | 3, _ => exact q12
      | 4, _ => exact q13
      | 5, _ => exact q14
      | 6, _ => exact q15
      | 7, _ => exact q16
      | 8, _ => exact q17
      | 9, _ => exact q18
      | 10, _ => exact q19
      | 11, _ => exact q20
      | 12, _ => exact q21
      | 13, _ => exact q22
      | 14, _ => exact q23
      | 15, _ => exact q24
      | 16, _ => exact q25
      | 17, _ => exact q26
      | 18, _ => exact q27
      | 19, _ => exact q28
      | 20, _ => exact q29
      | 21, _ => exact q30
      | 22, _ => exact q31
      | 23, _ => exact q32
      | 24, _ => exact q33
      | (k + 25), h => exact absurd h (Nat.not_lt.mpr (Nat.le_add_left 25 k))
    · match k, hk with
      | 0, _ => exact q38
      | 1, _ => exact q39
      | 2, _ => exact q40
      | 3, _ => exact q41
      | (k + 4), h => exact absurd h (Nat.not_lt.mpr (Nat.le_add_left 4 k))
  have fz : ∀ k, k ≠ 25 → (I' d k).toInt = 0 := fun k hk => by rw [q180 k hk, id]; rfl
  have f25 : (I' d 25).toInt = -1 := by rw [q179]; rfl
  have az : ∀ j, (I' (d + 1 + j) = fun _ => 0) → ∀ k, (I' (d + 1 + j) k).toInt = 0 := fun j e k => by rw [e]; rfl
  have e0 := MS_any (K := K') (I := I') (R := R') (L := L') (N := N') (w := (d + 37, U + 37775, C, Z)) d
  have pr : Pr (fun k => (I' d k).toInt) (fun j k => (I' (d + j) k).toInt) P00 0 := ⟨fz 13 (by decide), by decide, fun k hk => absurd hk (Nat.not_lt_zero k), fun j hj => ⟨az 11 q81 j, Int.le_refl 0, (by decide : (0 : Int) < 256)⟩⟩
  have er : (fun k => (I' (d + 3) k).toInt) = fun _ => 0 := funext fun k => az 2 q45 k
  have bg := s_beginNow (r := fun k => (I' (d + 3) k).toInt) (t := fun j k => (L' (d + j) k).toInt) mo pr
  rw [er, bgn_e, bgn_00] at bg
  rw [er] at e0
  have bg2 : fX13_beginNow d (K', I', R', L', N', (d + 37, U + 37775, C, Z)) = some (MS (K', R', N', (d + 37, U + 37775, C, Z), I', L') d (fun k => (I' d k).toInt) emp (fun j k => (I' (d + j) k).toInt) (fun j k => (L' (d + j) k).toInt)) := by rw [e0]; exact bg
  refine ⟨K', fun y k => if d ≤ y ∧ y < d + 37 then jI ((va_up (va_up (fun j k => (I' (d + j) k).toInt) 3 emp) 0 (fun k => (I' d k).toInt)) (y - d) k) else I' y k, R', fun y k => if d ≤ y ∧ y < d + 37 then jL ((L' (d + (y - d)) k).toInt) else L' y k, N', (K', R', N', (d + 37, U + 37775, C, Z), I', L'), fun k => (I' d k).toInt, fun j k => (I' (d + j) k).toInt, fun j k => (L' (d + j) k).toInt, ?_, rfl, ?_, ?_, ?_, ?_, ?_, mo, pr, RowOK_emp (by decide), Zt_emp, ⟨fz 58 (by decide), Nat.zero_le _, fun i hi => absurd hi (Nat.not_lt_zero i)⟩, ⟨fz 59 (by decide), ⟨Nat.zero_le _, fun i hi => absurd hi (Nat.not_lt_zero i)⟩, fun i hi => absurd hi (Nat.not_lt_zero i)⟩, fun j hj => az 3 q49 j, ⟨fz 16 (by decide), Nat.zero_le _, fun j hj => ⟨az 12 q85 j, Int.le_refl 0, (by decide : (0 : Int) < 256)⟩⟩, f25, fz 67 (by decide), fun _ _ _ _ _ _ q => nomatch q⟩
  · refine Eq.trans (run fun h => obk h (fX13_beginNow d h) fun h => some h) ?_
    rw [bg2]
    exact o_obkt
  · exact q1
  · exact q2
  · intro y hy hne
    funext k
    show (if d ≤ y ∧ y < d + 37 then _ else I' y k) = _
    rw [if_neg (nd_37 hy hne)]
    exact congrFun (q3 y hy hne) k
  · exact q4
  · exact q5
end FSM
