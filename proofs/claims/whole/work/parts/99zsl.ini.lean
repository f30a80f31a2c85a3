section FSL
variable {K : Nat → Nat} {I : Nat → Nat → Int32} {R : Nat → Nat → Nat} {L : Nat → Nat → Int64} {N : Nat → Nat} {w : Nat × Nat × Nat × Nat} {X U C Z : Nat}
/-- the program of an empty text -/
def P00 : PG := pgm s00 (fun _ => 0)
theorem bgn_00 : bgn P00 0 emp = emp := by
  funext k
  unfold bgn emp
  by_cases a : k < 256
  · rw [if_pos a, if_pos (by omega)]; rfl
  · rw [if_neg a]
    by_cases b : k < 266
    · rw [if_pos b, if_pos b]
    · rw [if_neg b, if_neg b]
      by_cases d : k < 276
      · rw [if_pos d, if_pos d]
      · rw [if_neg d, if_neg d]
        by_cases e : k = 276
        · rw [if_pos e, if_pos e]; rfl
        · rw [if_neg e, if_neg e]
theorem nul_40 {R : Nat → Nat → Nat} {a : Nat} (h : R a = fun _ => 0) : nul R a = 40 := by unfold nul; rw [h]; exact cnt_all 40 (fun _ _ => rfl)
theorem nul6_60 {R : Nat → Nat → Nat} {a : Nat} (h : R (a + 1) = fun _ => 0) : nul6 R a = 60 := by unfold nul6; rw [h]; exact cnt_all 60 (fun _ _ => rfl)
theorem Ln_0 {bad : Nat → Prop} {l : Nat} (h : R (l + 1) = fun _ => 0) : Ln K R X bad l := ⟨fun s hs c => absurd (by rw [h]) c, fun s s' a b d c => absurd (by rw [h]) c⟩
set_option maxHeartbeats 8000000 in
set_option maxRecDepth 100000 in
/-- a new engine -/
theorem y_Init {b : Nat} (kb : K b = 10) (b0 : 0 < b) (ib : I b = fun _ => 0) (rb : R b 11 = 0) (h1 : b + 1 + 58 ≤ C) (h2 : U + 5394 ≤ Z) : ∃ K' I' R' L' N', fX12_init b (K, I, R, L, N, (b + 1, U, C, Z)) = some (K', I', R', L', N', (b + 59, U + 5394, C, Z)) ∧ (∀ y, y < b + 1 → K' y = K y) ∧ (∀ y, y < b + 1 → N' y = N y) ∧ (∀ y, y < b + 1 → y ≠ b → I' y = I y) ∧ (∀ y, y < b + 1 → y ≠ b → R' y = R y) ∧ K' (b + 58) ≠ 0 ∧ RC K' I' R' N' (b + 59) b 0 P00 emp 0 (fun _ => emp) 0 (fun _ => 0) (fun _ => 0) 0 (fun _ => 0) (-1) none (2 * 40 + 86 + 60 + 60) (412 * 40 + (486 + 412 * 40) + 11 * 60 + 11 * 60) := by
  have ar1 : ((b + 39 < b + 14 ∨ b + 14 + 15 ≤ b + 39) ∧ b + 39 ≠ b + 35 + 1 ∧ b + 39 ≠ b + 37 + 1 ∧ b + 35 ≠ b + 37 ∧ (b + 13 < b + 14 ∨ b + 14 + 15 ≤ b + 13)) := by omega
  have ar2 : b + 35 + 1 < b + 14 ∨ b + 14 + 15 ≤ b + 35 := by omega
  have ar3 : b + 37 + 1 < b + 14 ∨ b + 14 + 15 ≤ b + 37 := by omega
  have ar4 : b + 29 + 2 < b + 14 ∨ b + 14 + 15 ≤ b + 29 := by omega
  have ar5 : b < b + 1 := by omega
  have ok : DOK 0 20000 emp 0 (fun _ => emp) := ⟨RowOK_emp (by omega), fun i hi => absurd hi (Nat.not_lt_zero i)⟩
  obtain ⟨K', I', R', L', N', e, fK, fN, fI, fR, lk, qK0, qN0, qI0, qRd_0, qK1, qI1, qK2, qN2, qI2, qR2, qR1_0, qK3, qN3, qI3, qR1_1, qRd_3, qK4, qI4, qK5, qN5, qI5, qR4_0, qK6, qN6, qI6, qR4_1, qK7, qN7, qI7, qR4_2, qK8, qN8, qI8, qR4_3, qK9, qI9, qK10, qN10, qI10, qR10, qR9_0, qK11, qN11, qI11, qR9_1, qR4_5, qRd_4, qK12, qI12, qK13, qI13, qK14, qI14, qK15, qN15, qI15, qR14_0, qR13_0, qK16, qI16, qK17, qN17, qI17, qR16_0, qR13_1, qK18, qI18, qK19, qN19, qI19, qR18_0, qR13_2, qK20, qI20, qK21, qN21, qI21, qR20_0, qK22, qN22, qI22, qR20_1, qK23, qN23, qI23, qR20_2, qK24, qN24, qI24, qR20_3, qK25, qI25, qK26, qN26, qI26, qR25_0, qR20_4, qR13_3, qK27, qN27, qI27, qR13_4, qK28, qI28, qK29, qN29, qI29, qR29, qR28_0, qK30, qN30, qI30, qR28_1, qR13_5, qK31, qI31, qK32, qN32, qI32, qR31_0, qR13_6, qK33, qI33, qR13_7, qR12_0, qK34, qI34, qK35, qN35, qI35, qR34_0, qR12_1, qK36, qI36, qK37, qN37, qI37, qR36_0, qR12_2, qK38, qN38, qI38, qR12_3, qRd_5, qK39, qI39, qK40, qN40, qI40, qR39_0, qK41, qN41, qI41, qR39_1, qK42, qN42, qI42, qR39_2, qK43, qN43, qI43, qR39_3, qK44, qI44, qK45, qN45, qI45, qR44_0, qR39_4, qRd_6, qK46, qI46, qK47, qN47, qI47, qR46_0, qRd_7, qK48, qI48, qK49, qN49, qI49, qR48_0, qRd_8, qK50, qI50, qK51, qN51, qI51, qR50_0, qRd_9, qK52, qI52, qK53, qI53, qK54, qN54, qI54, qR53_0, qR52_0, qK55, qN55, qI55, qR55, qR52_1, qK56, qN56, qI56, qR52_4, qK57, qN57, qI57, qR52_6, qRd_10, qIdv, qIdn, qR11⟩ := e_enini (K := K) (I := I) (R := R) (L := L) (N := N) (X := b + 1) (U := U) (C := C) (Z := Z) (d := b) kb ar5 h1 h2
  have kb' : K' b = 10 := (fK b ar5).trans kb
  have ibz : ∀ k, k ≠ 2 → I' b k = 0 := fun k hk => (qIdn k hk).trans (by rw [ib])
  have sh : Sh K' R' N' (b + 59) b (b + 29) (b + 2) 0 := ⟨kb', qRd_0, qRd_3, qRd_4, qRd_5, qRd_6, qRd_7, qRd_8, qRd_9, qRd_10, qR11.trans rb, ⟨b0, Nat.le_refl _, Or.inl rfl, Or.inl ⟨rfl, rfl⟩⟩, ⟨qK12, qR12_0, qR12_1, qR12_2, qR12_3, ⟨⟨qK34, qR34_0, qK35, qN35⟩, ar2⟩, ⟨⟨qK36, qR36_0, qK37, qN37⟩, ar3⟩, qK38, qN38, ar1.1, ar1.2.1, ar1.2.2.1, ar1.2.2.2.1, ar1.2.2.2.2⟩, ⟨qK39, qR39_0, qR39_1, qR39_2, qR39_3, qK40, qN40, qK41, qN41, qK42, qN42, qK43, qN43⟩, ⟨qK46, qR46_0, qK47, qN47⟩, ⟨qK48, qR48_0, qK49, qN49⟩, ⟨qK50, qR50_0, qK51, qN51⟩, ⟨qK4, qR4_0, qR4_1, qR4_2, qK5, qN5, qK6, qN6, qK7, qN7⟩, qK0, qN0⟩
  have gd : Gd K' I' R' N' (b + 14) (b + 29) 0 P00 := ⟨⟨qK13, qR13_0, qR13_1, qR13_2, qR13_3, qR13_4, qK27, qN27, ⟨qK14, qR14_0, qK15, qN15⟩, ⟨qK16, qR16_0, qK17, qN17⟩, ⟨qK18, qR18_0, qK19, qN19⟩, ⟨qK20, qR20_0, qR20_1, qR20_2, qR20_3, qK21, qN21, qK22, qN22, qK23, qN23, qK24, qN24⟩⟩, qR13_5, qK28, qR28_0, qR28_1, qK29, qN29, qK30, qN30, by rw [show I' (b + 29) = _ from qI28]; rfl, Nat.zero_le _, fun k hk => absurd hk (Nat.not_lt_zero k), ar4⟩
  have ld : Ld I' (b + 29) P00 := ⟨fun k hk => by rw [show I' (b + 29 + 2) = _ from qI30]; rfl, fun k hk => ⟨Int.le_refl 0, by show (0 : Int) < 256; decide⟩⟩
  have r30 : R' (b + 29 + 1) = fun _ => 0 := qR29
  have r3 : R' (b + 2 + 1) = fun _ => 0 := qR2
  have r56 : R' (b + 53 + 3) = fun _ => 0 := qR55
  have i53 : I' (b + 53) = fun _ => 0 := qI52
  have i57 : I' (b + 57) = fun _ => 0 := qI56
  have i58 : I' (b + 58) = fun _ => 0 := qI57
  have i1 : I' (b + 1) = fun _ => 0 := qI0
  have dsk : Dsk K' I' R' N' (b + 59) (bd b 0) (b + 53) emp 0 (fun _ => emp) 0 (fun _ => 0) (fun _ => 0) := by
    refine ⟨0, fun _ => 0, qR52_0, ⟨qK53, qR53_0, qK54, qN54⟩, qI54, ⟨⟨qK52, qR52_1, qK55, qN55, by rw [i53]; rfl, by rw [i53]; rfl, by decide, by decide⟩, fun s hs c => ?_, fun s s' q1 q2 q3 q4 => ?_, fun i hi => absurd hi (Nat.not_lt_zero i)⟩, ⟨qK52, qR52_4, qK56, qN56, by rw [i53]; rfl, fun j hj => by rw [i57]; rfl, ⟨by decide, fun i hi => absurd hi (Nat.not_lt_zero i)⟩⟩, ⟨qK52, qR52_6, qK57, qN57, fun j hj => by rw [i58]; rfl⟩⟩
    · exact absurd (by rw [r56]) c
    · exact absurd (by rw [r56]) q4
  refine ⟨K', I', R', L', N', e, fK, fN, fI, fR, lk, b + 29, b + 2, 0, sh, ⟨gd, ld, ⟨qK1, qR1_0, qR1_1, qK2, qN2, qK3, qN3⟩, Ln_0 r30, Ln_0 r3, fun s s' _ _ c => absurd (by rw [r30]) c, fun j hj => ⟨by rw [show I' (b + 29 + 2) = _ from qI30]; rfl, by rw [show I' (b + 2 + 2) = _ from qI3]; rfl⟩⟩, dsk, ok, ⟨(ibz 1 (by decide)).trans rfl, by decide, qIdv, fun j hj => ⟨by rw [i1]; rfl, Int.le_refl 0, (by decide : (0 : Int) < 256)⟩, (ibz 12 (by decide)).trans rfl⟩, Or.inl ⟨rfl, rfl⟩, Zr_of (r := emp) (g := fun _ => 0) qI35, Zr_of (r := emp) (g := fun _ => 0) qI37, ?_, ?_⟩
  · rw [nul_40 r56, if_pos rfl, nul6_60 r3, nul6_60 r30]
  · rw [nul_40 r56, if_pos rfl, nul6_60 r3, nul6_60 r30]
end FSL
