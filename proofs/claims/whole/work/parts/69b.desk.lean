section DK
variable {K : Nat → Nat} {I : Nat → Nat → Int32} {R : Nat → Nat → Nat} {L : Nat → Nat → Int64} {N : Nat → Nat} {w : Nat × Nat × Nat × Nat} {X U C Z : Nat} {Xo Ko : Nat}
theorem cnt_ext {q q' : Nat → Bool} : ∀ {n : Nat}, (∀ i, i < n → q i = q' i) → cnt q n = cnt q' n
  | 0, _ => rfl
  | n + 1, h => by
    show cnt q n + (if q n then 1 else 0) = cnt q' n + (if q' n then 1 else 0)
    rw [cnt_ext (fun i hi => h i (by omega)), h n (by omega)]
theorem cnt_upd {q q' : Nat → Bool} {s : Nat} (h1 : q s = true) (h2 : q' s = false) (h : ∀ i, i ≠ s → q' i = q i) : ∀ {n : Nat}, s < n → cnt q' n + 1 = cnt q n
  | 0, h3 => by omega
  | n + 1, h3 => by
    show cnt q' n + (if q' n then 1 else 0) + 1 = cnt q n + (if q n then 1 else 0)
    by_cases c : s = n
    · subst c
      rw [h1, h2, cnt_ext (q := q') (q' := q) (fun i hi => h i (by omega))]
      rfl
    · have ih := cnt_upd h1 h2 h (n := n) (by omega)
      rw [h n (fun e => c e.symm)]
      omega
/-- how many slots are empty -/
def nul (R : Nat → Nat → Nat) (ar : Nat) : Nat := cnt (fun s => R ar s == 0) 40
/-- what a desk's calls leave as it was -/
def FD (X : Nat) (K : Nat → Nat) (I : Nat → Nat → Int32) (R : Nat → Nat → Nat) (L : Nat → Nat → Int64) (N : Nat → Nat) (U d ar : Nat) (K' : Nat → Nat) (I' : Nat → Nat → Int32) (R' : Nat → Nat → Nat) (L' : Nat → Nat → Int64) (N' : Nat → Nat) (X' U' : Nat) : Prop :=
  X ≤ X' ∧ (∀ y, y < X → K' y = K y) ∧ (∀ y, y < X → N' y = N y) ∧ (∀ y, y < X → L' y = L y) ∧ (∀ y, y < X → y ≠ ar → R' y = R y) ∧
  (∀ y, y < X → y ≠ d → (∀ s, s < 40 → R ar s ≠ 0 → y ≠ R ar s + 1) → I' y = I y) ∧ (∀ j, j ≠ 2 → j ≠ 3 → I' d j = I d j) ∧
  (∀ s, s < 40 → R ar s ≠ 0 → R' ar s = R ar s) ∧ (∀ s, s < 40 → R ar s = 0 → R' ar s = 0 ∨ X ≤ R' ar s) ∧ X' + 2 * nul R' ar = X + 2 * nul R ar ∧ U' + 412 * nul R' ar = U + 412 * nul R ar ∧ U ≤ U'
theorem FD_rf {d ar : Nat} : FD X K I R L N U d ar K I R L N X U :=
  ⟨Nat.le_refl _, fun _ _ => rfl, fun _ _ => rfl, fun _ _ => rfl, fun _ _ _ => rfl, fun _ _ _ _ => rfl, fun _ _ _ => rfl, fun _ _ _ => rfl, fun _ _ h => Or.inl h, rfl, rfl, Nat.le_refl _⟩
theorem FD_tr {d ar X1 X2 U1 U2 : Nat} {K1 K2 : Nat → Nat} {I1 I2 : Nat → Nat → Int32} {R1 R2 : Nat → Nat → Nat} {L1 L2 : Nat → Nat → Int64} {N1 N2 : Nat → Nat} (h : FD X K I R L N U d ar K1 I1 R1 L1 N1 X1 U1) (h' : FD X1 K1 I1 R1 L1 N1 U1 d ar K2 I2 R2 L2 N2 X2 U2) : FD X K I R L N U d ar K2 I2 R2 L2 N2 X2 U2 := by
  obtain ⟨a1, a2, a3, a4, a5, a6, a7, a8, a9, a10, a11, a12⟩ := h
  obtain ⟨b1, b2, b3, b4, b5, b6, b7, b8, b9, b10, b11, b12⟩ := h'
  refine ⟨by omega, fun y hy => ?_, fun y hy => ?_, fun y hy => ?_, fun y hy hya => ?_, fun y hy hyd hs => ?_, fun j h1 h2 => ?_, fun s hs h1 => ?_, fun s hs h1 => ?_, by omega, by omega, by omega⟩
  · rw [b2 y (by omega), a2 y hy]
  · rw [b3 y (by omega), a3 y hy]
  · rw [b4 y (by omega), a4 y hy]
  · rw [b5 y (by omega) hya, a5 y hy hya]
  · rw [b6 y (by omega) hyd (fun s hs' h2 => ?_), a6 y hy hyd hs]
    by_cases c : R ar s = 0
    · rcases a9 s hs' c with e | e
      · exact absurd e h2
      · omega
    · rw [a8 s hs' c]; exact hs s hs' c
  · rw [b7 j h1 h2, a7 j h1 h2]
  · have e := a8 s hs h1
    rw [b8 s hs (by rw [e]; exact h1), e]
  · by_cases c : R1 ar s = 0
    · rcases b9 s hs c with e | e
      · exact Or.inl e
      · exact Or.inr (by omega)
    · rw [b8 s hs c]
      rcases a9 s hs h1 with e | e
      · exact absurd e c
      · exact Or.inr e
def ext (A : Nat → Nat → Int) (k : Nat) (v : Nat → Int) : Nat → Nat → Int := fun i => if i = k then v else A i
/-- one row more is kept -/
theorem okA_of {X' U' : Nat} {K' : Nat → Nat} {I' : Nat → Nat → Int32} {R' : Nat → Nat → Nat} {L' : Nat → Nat → Int64} {N' : Nat → Nat} (h0 : 0 < X) (a : X ≤ X') (b : U ≤ U') (c : X' ≤ C) (d : U' ≤ Z) (e : K' (X' - 1) ≠ 0) : okA (K, I, R, L, N, (X, U, C, Z)) (K', I', R', L', N', (X', U', C, Z)) :=
  ⟨a, b, c, d, rfl, rfl, Or.inr ⟨by show 0 < X'; omega, e⟩⟩
theorem okA_tp {X' U' : Nat} {K' : Nat → Nat} {I' : Nat → Nat → Int32} {R' : Nat → Nat → Nat} {L' : Nat → Nat → Int64} {N' : Nat → Nat} (hK0 : TP Xo Ko K X) (h0 : 0 < X) (a : X ≤ X') (b : U ≤ U') (c : X' ≤ C) (d : U' ≤ Z) (e : TP Xo Ko K' X') : okA (K, I, R, L, N, (X, U, C, Z)) (K', I', R', L', N', (X', U', C, Z)) := by
  refine ⟨a, b, c, d, rfl, rfl, ?_⟩
  rcases e with ⟨-, e⟩ | ⟨e, e2⟩
  · exact Or.inr ⟨Nat.lt_of_lt_of_le h0 a, e⟩
  · left
    rcases hK0 with ⟨q, -⟩ | ⟨q, q2⟩
    · omega
    · refine ⟨by show X' = X; omega, ?_⟩
      show K' (X - 1) = K (X - 1)
      rw [q, q2, e2]
theorem e_push {bad : Nat → Prop} {d ar o k q : Nat} {A : Nat → Nat → Int} {v gv : Nat → Int} (h : Dk K I R N X bad d ar o k A) (hk : k < 40) (hq : Rw K R N q) (hqX : q + 1 < X) (hqI : I (q + 1) = jF (cls v gv)) (hqs : ∀ s, s < 40 → q ≠ R ar s) (hdX : d < X) (haX : ar < X) (h0 : 0 < X) (hK0 : TP Xo Ko K X) (hb : ∀ y, X ≤ y → ¬ bad y) (h1 : X + 2 * nul R ar ≤ C) (h2 : U + 412 * nul R ar ≤ Z) (hXC : X ≤ C) (hUZ : U ≤ Z) :
    ∃ K' I1 I' R' L' N' X' U', fX2_keep d (jI ((o + k : Nat) : Int)) q (K, I, R, L, N, (X, U, C, Z)) = some (K', I1, R', L', N', (X', U', C, Z)) ∧ I1 d 3 = jI (k : Int) ∧ K' d = 2 ∧ I' = va_up I1 d (va_up (I1 d) 3 (jI ((k + 1 : Nat) : Int))) ∧ Dk K' I' R' N' X' bad d ar o (k + 1) (ext A k v) ∧ FD X K I R L N U d ar K' I' R' L' N' X' U' ∧ TP Xo Ko K' X' ∧ X' ≤ C ∧ U' ≤ Z ∧ (∀ j, j ≠ 3 → I' d j = I d j) ∧ okA (K, I, R, L, N, (X, U, C, Z)) (K', I1, R', L', N', (X', U', C, Z)) := by
  have hnz : ∀ s, s < 40 → R ar s = 0 → 1 ≤ nul R ar := fun s hs e => by
    have := cnt_upd (q := fun s => R ar s == 0) (q' := fun j => if j = s then false else R ar j == 0) (s := s) (by simpa using e) (by simp) (fun i hi => by simp [hi]) (n := 40) hs
    unfold nul; omega
  obtain ⟨K', I1, R', L', N', X', U', a, ek, ra, a0, hra, hIa, ⟨f1, f2, f3, f4, f5⟩, hI, hK1, hX1, hU1, hcase⟩ := e_dkeep (L := L) (U := U) (C := C) (Z := Z) (idx := o + k) h hq hqX hqI (hqs _ (by omega)) (by have := h.1.2.2.2.2.2.2.1; omega) hdX haX h0 hK0 (fun e => by have := hnz _ (by omega) e; omega) (fun e => by have := hnz _ (by omega) e; omega) hXC hUZ
  obtain ⟨⟨k2, r1, k103, n40, i2, i3, ho, hk'⟩, hrow, hinj, hact⟩ := h
  obtain ⟨s, hs⟩ : ∃ s, s = (o + k) % 40 := ⟨_, rfl⟩
  have hs40 : s < 40 := by omega
  rw [← hs] at ra f5 hcase
  have ned : d ≠ ar := fun e => by rw [e, k103] at k2; omega
  have k2' : K' d = 2 := by rw [f1 d hdX]; exact k2
  have ka1 : K' (a + 1) = 101 := hra.2.2.1
  have nda : d ≠ a + 1 := fun e => by rw [← e, k2'] at ka1; omega
  have I1d : I1 d = I d := hI d hdX nda
  obtain ⟨I', hI'⟩ : ∃ I', I' = va_up I1 d (va_up (I1 d) 3 (jI ((k + 1 : Nat) : Int))) := ⟨_, rfl⟩
  have I'n : ∀ y, y ≠ d → I' y = I1 y := fun y hy => by rw [hI', va_up_ne _ _ hy]
  have I'd : ∀ j, j ≠ 3 → I' d j = I d j := fun j hj => by rw [hI', va_up_self, va_up_ne _ _ hj, I1d]
  have XX : X ≤ X' := by rcases hcase with ⟨_, _, e, _⟩ | ⟨_, _, e, _⟩ <;> omega
  have aX : a + 1 < X' := by
    rcases hcase with ⟨e1, e2, e3, _⟩ | ⟨e1, e2, e3, _⟩
    · have := (hrow s hs40 e1).2.2.2.2; omega
    · omega
  have abad : ¬ bad a ∧ ¬ bad (a + 1) := by
    rcases hcase with ⟨e1, e2, e3, _⟩ | ⟨e1, e2, e3, _⟩
    · rw [e2]; exact ⟨(hrow s hs40 e1).2.2.1, (hrow s hs40 e1).2.2.2.1⟩
    · exact ⟨hb _ (by omega), hb _ (by omega)⟩
  have hne : ∀ j, j < 40 → j ≠ s → R ar j ≠ 0 → R ar j ≠ a := by
    intro j hj hjs h3
    rcases hcase with ⟨e1, e2, _⟩ | ⟨e1, e2, _⟩
    · rw [e2]; exact hinj j s hj hs40 hjs h3
    · have := (hrow j hj h3).2.2.2.2; omega
  have hrow' : ∀ j, j < 40 → j ≠ s → R ar j ≠ 0 → Rw K' R' N' (R ar j) ∧ I' (R ar j + 1) = I (R ar j + 1) := by
    intro j hj hjs h3
    obtain ⟨b1, b2, b3, b4, b5⟩ := hrow j hj h3
    have kb := b1.1
    refine ⟨⟨by rw [f1 _ (by omega)]; exact b1.1, by rw [f4 _ (by omega) (fun e => by rw [e, k103] at kb; omega)]; exact b1.2.1, by rw [f1 _ (by omega)]; exact b1.2.2.1, by rw [f2 _ (by omega)]; exact b1.2.2.2⟩, ?_⟩
    have := hne j hj hjs h3
    have kb1 := b1.2.2.1
    rw [I'n _ (fun e => by rw [e, k2] at kb1; omega), hI _ b5 (by omega)]
  have I'a : I' (a + 1) = jF (cls v gv) := by rw [I'n _ (Ne.symm nda)]; exact hIa
  have ran : ∀ j, j ≠ s → R' ar j = R ar j := f5
  refine ⟨K', I1, I', R', L', N', X', U', ek, by rw [I1d]; exact i3, k2', hI', ⟨⟨k2', by rw [f4 d hdX ned]; exact r1, by rw [f1 ar haX]; exact k103, by rw [f2 ar haX]; exact n40, by rw [I'd 2 (by omega)]; exact i2, by rw [hI', va_up_self, va_up_self], ho, by omega⟩, fun j hj h3 => ?_, fun j j' hj hj' hjj h3 => ?_, fun i hi => ?_⟩, ⟨XX, f1, f2, f3, f4, fun y hy hyd hys => ?_, fun j _ h3 => I'd j h3, fun j hj h3 => ?_, fun j hj h3 => ?_, ?_, ?_, ?_⟩, hK1, hX1, hU1, I'd, ?_⟩
  · by_cases c : j = s
    · rw [c, ra]
      exact ⟨hra, Zr_of I'a, abad.1, abad.2, aX⟩
    · rw [ran j c] at h3 ⊢
      obtain ⟨b1, b2, b3, b4, b5⟩ := hrow j hj h3
      obtain ⟨c1, c2⟩ := hrow' j hj c h3
      exact ⟨c1, fun i hi => by rw [c2]; exact b2 i hi, b3, b4, by omega⟩
  · by_cases c : j = s
    · by_cases c' : j' = s
      · omega
      · rw [c, ra, ran j' c']
        by_cases cz : R ar j' = 0
        · rw [cz]; exact a0
        · exact Ne.symm (hne j' hj' c' cz)
    · rw [ran j c] at h3 ⊢
      by_cases c' : j' = s
      · rw [c', ra]; exact hne j hj c h3
      · rw [ran j' c']; exact hinj j j' hj hj' hjj h3
  · by_cases c : i = k
    · rw [c, ← hs, ra]
      refine ⟨a0, gv, ?_⟩
      unfold ext
      rw [if_pos rfl]; exact I'a
    · have hik : (o + i) % 40 ≠ s := by omega
      obtain ⟨c1, g, c2⟩ := hact i (by omega)
      rw [ran _ hik]
      refine ⟨c1, g, ?_⟩
      unfold ext
      rw [if_neg c, (hrow' _ (by omega) hik c1).2]; exact c2
  · rw [I'n y hyd]
    refine hI y hy (fun e => ?_)
    rcases hcase with ⟨e1, e2, _⟩ | ⟨e1, e2, _⟩
    · exact hys s hs40 e1 (by rw [e, e2])
    · omega
  · by_cases c : j = s
    · rw [c, ra]
      rcases hcase with ⟨e1, e2, _⟩ | ⟨e1, e2, _⟩
      · rw [e2]
      · rw [c] at h3; exact absurd e1 h3
    · exact ran j c
  · by_cases c : j = s
    · rw [c, ra]
      rcases hcase with ⟨e1, e2, _⟩ | ⟨e1, e2, _⟩
      · rw [c] at h3; exact absurd h3 e1
      · exact Or.inr (by omega)
    · rw [ran j c]; exact Or.inl h3
  · rcases hcase with ⟨e1, e2, e3, e4⟩ | ⟨e1, e2, e3, e4⟩
    · have : nul R' ar = nul R ar := cnt_ext (fun i hi => by
        by_cases c : i = s
        · show (R' ar i == 0) = (R ar i == 0); rw [c, ra, e2]
        · show (R' ar i == 0) = (R ar i == 0); rw [ran i c])
      omega
    · have : nul R' ar + 1 = nul R ar := cnt_upd (s := s) (by simpa using e1) (by rw [ra]; simpa using a0) (fun i hi => by rw [ran i hi]) hs40
      omega
  · rcases hcase with ⟨e1, e2, e3, e4⟩ | ⟨e1, e2, e3, e4⟩
    · have : nul R' ar = nul R ar := cnt_ext (fun i hi => by
        by_cases c : i = s
        · show (R' ar i == 0) = (R ar i == 0); rw [c, ra, e2]
        · show (R' ar i == 0) = (R ar i == 0); rw [ran i c])
      omega
    · have : nul R' ar + 1 = nul R ar := cnt_upd (s := s) (by simpa using e1) (by rw [ra]; simpa using a0) (fun i hi => by rw [ran i hi]) hs40
      omega
  · rcases hcase with ⟨_, _, _, e⟩ | ⟨_, _, _, e⟩ <;> omega
  · refine okA_tp hK0 h0 XX ?_ hX1 hU1 hK1
    rcases hcase with ⟨_, _, _, e⟩ | ⟨_, _, _, e⟩ <;> omega
/-- the acts with one more, the oldest of forty given away -/
def actK (k : Nat) : Nat := if k = 40 then 40 else k + 1
def actA (A : Nat → Nat → Int) (k : Nat) (v : Nat → Int) : Nat → Nat → Int := if k = 40 then ext (fun i => A (i + 1)) 39 v else ext A k v
theorem e_rem32 {bad : Nat → Prop} {d ar o k nw : Nat} {A : Nat → Nat → Int} {v gv : Nat → Int} (h : Dk K I R N X bad d ar o k A) (hk : k < 40) (hd0 : R d 0 = nw) (hq : Rw K R N nw) (hqX : nw + 1 < X) (hqI : I (nw + 1) = jF (cls v gv)) (hqs : ∀ s, s < 40 → nw ≠ R ar s) (hdX : d < X) (haX : ar < X) (h0 : 0 < X) (hK0 : TP Xo Ko K X) (hb : ∀ y, X ≤ y → ¬ bad y) (h1 : X + 2 * nul R ar ≤ C) (h2 : U + 412 * nul R ar ≤ Z) (hXC : X ≤ C) (hUZ : U ≤ Z) :
    ∃ K' I' R' L' N' X' U', fX2_remember_32 d (K, I, R, L, N, (X, U, C, Z)) = some (K', I', R', L', N', (X', U', C, Z)) ∧ Dk K' I' R' N' X' bad d ar o (k + 1) (ext A k v) ∧ FD X K I R L N U d ar K' I' R' L' N' X' U' ∧ TP Xo Ko K' X' ∧ X' ≤ C ∧ U' ≤ Z := by
  obtain ⟨K', I1, I', R', L', N', X', U', ek, e3, k2', hI', hD, hF, a1, a2, a3, a4, okK⟩ := e_push (L := L) (U := U) (C := C) (Z := Z) h hk hq hqX hqI hqs hdX haX h0 hK0 hb h1 h2 hXC hUZ
  refine ⟨K', I', R', L', N', X', U', ?_, hD, hF, a1, a2, a3⟩
  obtain ⟨⟨k2, r1, k103, n40, i2, i3, ho, hk'⟩, -⟩ := h
  have e1 : (o : Int) + (k : Int) = ((o + k : Nat) : Int) := by omega
  have e2 : (k : Int) + 1 = ((k + 1 : Nat) : Int) := by omega
  unfold fX2_remember_32
  rw [o_gI k2, o_ob, i2, o_gI k2, o_ob, i3, o_gR k2, o_ob, hd0, jI_add, e1, ek, o_oba okK, o_gI k2', o_ob, e3, show (1 : Int32) = jI 1 from rfl, jI_add, e2, o_pI k2', o_ob, ← hI']
theorem Dk_I {bad : Nat → Prop} {d ar o k : Nat} {A : Nat → Nat → Int} {I' : Nat → Nat → Int32} (h : Dk K I R N X bad d ar o k A) (e2 : I' d 2 = I d 2) (e3 : I' d 3 = I d 3) (hb : ∀ y, K y = 101 → ¬ bad y → I' y = I y) : Dk K I' R N X bad d ar o k A := by
  obtain ⟨⟨k2, r1, k103, n40, i2, i3, ho, hk'⟩, hrow, hinj, hact⟩ := h
  have e : ∀ s, s < 40 → R ar s ≠ 0 → I' (R ar s + 1) = I (R ar s + 1) := fun s hs c => hb _ (hrow s hs c).1.2.2.1 (hrow s hs c).2.2.2.1
  refine ⟨⟨k2, r1, k103, n40, by rw [e2]; exact i2, by rw [e3]; exact i3, ho, hk'⟩, fun s hs c => ?_, hinj, fun i hi => ?_⟩
  · obtain ⟨b1, b2, b3⟩ := hrow s hs c
    exact ⟨b1, fun j hj => by rw [e s hs c]; exact b2 j hj, b3⟩
  · obtain ⟨c1, g, c2⟩ := hact i hi
    exact ⟨c1, g, by rw [e _ (by omega) c1]; exact c2⟩
/-- a desk's count is written anew -/
theorem Dk_set {bad : Nat → Prop} {d ar o k o' k' : Nat} {A A' : Nat → Nat → Int} {I' : Nat → Nat → Int32} (h : Dk K I R N X bad d ar o k A) (e2 : I' d 2 = jI (o' : Int)) (e3 : I' d 3 = jI (k' : Int)) (hb : ∀ y, K y = 101 → ¬ bad y → I' y = I y) (ho' : o' < 40) (hk' : k' ≤ 40) (hA : ∀ i, i < k' → ∃ j, j < k ∧ (o + j) % 40 = (o' + i) % 40 ∧ A' i = A j) : Dk K I' R N X bad d ar o' k' A' := by
  obtain ⟨⟨k2, r1, k103, n40, i2, i3, ho, hk2⟩, hrow, hinj, hact⟩ := h
  have e : ∀ s, s < 40 → R ar s ≠ 0 → I' (R ar s + 1) = I (R ar s + 1) := fun s hs c => hb _ (hrow s hs c).1.2.2.1 (hrow s hs c).2.2.2.1
  refine ⟨⟨k2, r1, k103, n40, e2, e3, ho', hk'⟩, fun s hs c => ?_, hinj, fun i hi => ?_⟩
  · obtain ⟨b1, b2, b3⟩ := hrow s hs c
    exact ⟨b1, fun j hj => by rw [e s hs c]; exact b2 j hj, b3⟩
  · obtain ⟨j, hj, ej, eA⟩ := hA i hi
    obtain ⟨c1, g, c2⟩ := hact j hj
    rw [ej] at c1 c2
    exact ⟨c1, g, by rw [e _ (by omega) c1, eA]; exact c2⟩
theorem e_remember {bad : Nat → Prop} {d ar o k nw : Nat} {A : Nat → Nat → Int} {v gv : Nat → Int} (h : Dk K I R N X bad d ar o k A) (hd0 : R d 0 = nw) (hq : Rw K R N nw) (hqX : nw + 1 < X) (hqI : I (nw + 1) = jF (cls v gv)) (hqs : ∀ s, s < 40 → nw ≠ R ar s) (hdX : d < X) (haX : ar < X) (h0 : 0 < X) (hK0 : TP Xo Ko K X) (hb : ∀ y, X ≤ y → ¬ bad y) (h1 : X + 2 * nul R ar ≤ C) (h2 : U + 412 * nul R ar ≤ Z) (hXC : X ≤ C) (hUZ : U ≤ Z) :
    ∃ K' I' R' L' N' X' U' o', fX2_remember d (K, I, R, L, N, (X, U, C, Z)) = some (K', I', R', L', N', (X', U', C, Z)) ∧ Dk K' I' R' N' X' bad d ar o' (actK k) (actA A k v) ∧ FD X K I R L N U d ar K' I' R' L' N' X' U' ∧ TP Xo Ko K' X' ∧ X' ≤ C ∧ U' ≤ Z ∧ okA (K, I, R, L, N, (X, U, C, Z)) (K', I', R', L', N', (X', U', C, Z)) := by
  have hh := h
  obtain ⟨⟨k2, r1, k103, n40, i2, i3, ho, hk'⟩, -⟩ := hh
  unfold actK actA
  by_cases c : k = 40
  · rw [if_pos c, if_pos c]
    obtain ⟨I1, hI1⟩ : ∃ I1, I1 = va_up I d (va_up (va_up (I d) 2 (jI (((o + 1) % 40 : Nat) : Int))) 3 (jI ((39 : Nat) : Int))) := ⟨_, rfl⟩
    have I1n : ∀ y, y ≠ d → I1 y = I y := fun y hy => by rw [hI1, va_up_ne _ _ hy]
    have h' : Dk K I1 R N X bad d ar ((o + 1) % 40) 39 (fun i => A (i + 1)) := Dk_set h (by rw [hI1, va_up_self, va_up_ne _ _ (by omega), va_up_self]) (by rw [hI1, va_up_self, va_up_self]) (fun y hy _ => I1n y (fun e => by rw [e, k2] at hy; omega)) (by omega) (by omega) (fun i hi => ⟨i + 1, by omega, by omega, rfl⟩)
    have kq1 := hq.2.2.1
    obtain ⟨K', I', R', L', N', X', U', e, hD, hF, a1, a2, a3⟩ := e_rem32 (L := L) (U := U) (C := C) (Z := Z) h' (by omega) hd0 hq hqX (by rw [I1n _ (fun e => by rw [e, k2] at kq1; omega)]; exact hqI) hqs hdX haX h0 hK0 hb h1 h2 hXC hUZ
    have hF2 : FD X K I R L N U d ar K' I' R' L' N' X' U' := by
      refine FD_tr (K1 := K) (I1 := I1) (R1 := R) (L1 := L) (N1 := N) (X1 := X) (U1 := U) ?_ hF
      refine ⟨Nat.le_refl _, fun _ _ => rfl, fun _ _ => rfl, fun _ _ => rfl, fun _ _ _ => rfl, fun y _ hyd _ => I1n y hyd, fun j j2 j3 => ?_, fun _ _ _ => rfl, fun _ _ h => Or.inl h, rfl, rfl, Nat.le_refl _⟩
      rw [hI1, va_up_self, va_up_ne _ _ j3, va_up_ne _ _ j2]
    refine ⟨K', I', R', L', N', X', U', _, ?_, hD, hF2, a1, a2, a3, okA_tp hK0 h0 hF2.1 hF2.2.2.2.2.2.2.2.2.2.2.2 a2 a3 a1⟩
    rw [← e, hI1]
    have er : irm (jI ((o : Int) + 1)) (jI 40) = jI (((o + 1) % 40 : Nat) : Int) := by rw [jI_rem (by omega) (by omega) (by omega) (by omega)]; congr 1
    have e39 : ((39 : Nat) : Int) = 39 := rfl
    rw [e39]
    clear e hF hF2 hD h h' hI1 I1n hqI hq hb
    rw [c] at i3
    have i3 : I d 3 = jI 40 := i3
    unfold fX2_remember
    ((repeat (first | (with_reducible apply q_gd; · (first | assumption | omega)) | (with_reducible apply q_ob; · (first | with_reducible rfl | ((simp (disch := omega) only [jI_lit, jI_neg, jI_add, jI_sub, jI_mul, o_gI, o_gR, o_pI, o_pZ0, o_pZ1, o_pZb, o_pR, o_aI, o_qI, o_aN, tn, va_up_self, va_up_ne, upup, jI_shr1, jI_shr4, jI_shr0, jI_and1, jI_and15, jI_join, jI_240, jI_hi, jF_at, jF_up, jI_max, jI_min, b2_t, b2_f, Bool.not_true, Bool.not_false, eq_self, true_or, or_true, i3, i2, er]) <;> with_reducible rfl))) | (with_reducible apply q_ob2; · (first | with_reducible rfl | ((simp (disch := omega) only [jI_lit, jI_neg, jI_add, jI_sub, jI_mul, o_gI, o_gR, o_pI, o_pZ0, o_pZ1, o_pZb, o_pR, o_aI, o_qI, o_aN, tn, va_up_self, va_up_ne, upup, jI_shr1, jI_shr4, jI_shr0, jI_and1, jI_and15, jI_join, jI_240, jI_hi, jF_at, jF_up, jI_max, jI_min, b2_t, b2_f, Bool.not_true, Bool.not_false, eq_self, true_or, or_true, i3, i2, er]) <;> with_reducible rfl))) | (with_reducible apply q_lt; · (first | with_reducible rfl | ((simp (disch := omega) only [jI_lit, jI_neg, jI_add, jI_sub, jI_mul, o_gI, o_gR, o_pI, o_pZ0, o_pZ1, o_pZb, o_pR, o_aI, o_qI, o_aN, tn, va_up_self, va_up_ne, upup, jI_shr1, jI_shr4, jI_shr0, jI_and1, jI_and15, jI_join, jI_240, jI_hi, jF_at, jF_up, jI_max, jI_min, b2_t, b2_f, Bool.not_true, Bool.not_false, eq_self, true_or, or_true, i3, i2, er]) <;> with_reducible rfl))) | (with_reducible apply q_ifp; · (first | ((simp (disch := omega) only [jI_lit, jI_neg, jI_add, jI_sub, jI_mul, jI_lt, jI_le, jI_eq, va_up_self, va_up_ne, jI_shr1, jI_shr4, jI_shr0, jI_and1, jI_and15, jF_at, tn, b2_t, b2_f, cmp_ge, cmp_gt, cmp_le, cmp_lt, cmp_eq, jL_lit, jL_lt, jL_le, jL_eq, i3, i2, er]) <;> omega) | omega)) | (with_reducible apply q_ifn; · (first | ((simp (disch := omega) only [jI_lit, jI_neg, jI_add, jI_sub, jI_mul, jI_lt, jI_le, jI_eq, va_up_self, va_up_ne, jI_shr1, jI_shr4, jI_shr0, jI_and1, jI_and15, jF_at, tn, b2_t, b2_f, cmp_ge, cmp_gt, cmp_le, cmp_lt, cmp_eq, jL_lit, jL_lt, jL_le, jL_eq, i3, i2, er]) <;> omega) | omega)) | (with_reducible apply q_obk; · (first | with_reducible rfl | ((simp (disch := omega) only [jI_lit, jI_neg, jI_add, jI_sub, jI_mul, o_gI, o_gR, o_pI, o_pZ0, o_pZ1, o_pZb, o_pR, o_aI, o_qI, o_aN, tn, va_up_self, va_up_ne, upup, jI_shr1, jI_shr4, jI_shr0, jI_and1, jI_and15, jI_join, jI_240, jI_hi, jF_at, jF_up, jI_max, jI_min, b2_t, b2_f, Bool.not_true, Bool.not_false, eq_self, true_or, or_true, i3, i2, er]) <;> with_reducible rfl))) | (with_reducible apply q_nz; · (first | ((simp (disch := omega) only [jI_lit, jI_neg, jI_add, jI_sub, jI_mul, jI_lt, jI_le, jI_eq, va_up_self, va_up_ne, jI_shr1, jI_shr4, jI_shr0, jI_and1, jI_and15, jF_at, tn, b2_t, b2_f, cmp_ge, cmp_gt, cmp_le, cmp_lt, cmp_eq, jL_lit, jL_lt, jL_le, jL_eq, i3, i2, er]) <;> omega) | omega)) | (with_reducible apply q_rz; · (first | exact b2_01 _ | decide)))) <;> (first | with_reducible rfl | ((simp (disch := omega) only [jI_lit, jI_neg, jI_add, jI_sub, jI_mul, o_gI, o_gR, o_pI, o_pZ0, o_pZ1, o_pZb, o_pR, o_aI, o_qI, o_aN, tn, va_up_self, va_up_ne, upup, jI_shr1, jI_shr4, jI_shr0, jI_and1, jI_and15, jI_join, jI_240, jI_hi, jF_at, jF_up, jI_max, jI_min, b2_t, b2_f, Bool.not_true, Bool.not_false, eq_self, true_or, or_true, i3, i2, er]) <;> with_reducible rfl) | rfl))
  · rw [if_neg c, if_neg c]
    obtain ⟨K', I', R', L', N', X', U', e, hD, hF, a1, a2, a3⟩ := e_rem32 (L := L) (U := U) (C := C) (Z := Z) h (by omega) hd0 hq hqX hqI hqs hdX haX h0 hK0 hb h1 h2 hXC hUZ
    refine ⟨K', I', R', L', N', X', U', _, ?_, hD, hF, a1, a2, a3, okA_tp hK0 h0 hF.1 hF.2.2.2.2.2.2.2.2.2.2.2 a2 a3 a1⟩
    rw [← e]
    clear e hF hD h hqI hq hb
    unfold fX2_remember
    ((repeat (first | (with_reducible apply q_gd; · (first | assumption | omega)) | (with_reducible apply q_ob; · (first | with_reducible rfl | ((simp (disch := omega) only [jI_lit, jI_neg, jI_add, jI_sub, jI_mul, o_gI, o_gR, o_pI, o_pZ0, o_pZ1, o_pZb, o_pR, o_aI, o_qI, o_aN, tn, va_up_self, va_up_ne, upup, jI_shr1, jI_shr4, jI_shr0, jI_and1, jI_and15, jI_join, jI_240, jI_hi, jF_at, jF_up, jI_max, jI_min, b2_t, b2_f, Bool.not_true, Bool.not_false, eq_self, true_or, or_true, i3]) <;> with_reducible rfl))) | (with_reducible apply q_ob2; · (first | with_reducible rfl | ((simp (disch := omega) only [jI_lit, jI_neg, jI_add, jI_sub, jI_mul, o_gI, o_gR, o_pI, o_pZ0, o_pZ1, o_pZb, o_pR, o_aI, o_qI, o_aN, tn, va_up_self, va_up_ne, upup, jI_shr1, jI_shr4, jI_shr0, jI_and1, jI_and15, jI_join, jI_240, jI_hi, jF_at, jF_up, jI_max, jI_min, b2_t, b2_f, Bool.not_true, Bool.not_false, eq_self, true_or, or_true, i3]) <;> with_reducible rfl))) | (with_reducible apply q_lt; · (first | with_reducible rfl | ((simp (disch := omega) only [jI_lit, jI_neg, jI_add, jI_sub, jI_mul, o_gI, o_gR, o_pI, o_pZ0, o_pZ1, o_pZb, o_pR, o_aI, o_qI, o_aN, tn, va_up_self, va_up_ne, upup, jI_shr1, jI_shr4, jI_shr0, jI_and1, jI_and15, jI_join, jI_240, jI_hi, jF_at, jF_up, jI_max, jI_min, b2_t, b2_f, Bool.not_true, Bool.not_false, eq_self, true_or, or_true, i3]) <;> with_reducible rfl))) | (with_reducible apply q_ifp; · (first | ((simp (disch := omega) only [jI_lit, jI_neg, jI_add, jI_sub, jI_mul, jI_lt, jI_le, jI_eq, va_up_self, va_up_ne, jI_shr1, jI_shr4, jI_shr0, jI_and1, jI_and15, jF_at, tn, b2_t, b2_f, cmp_ge, cmp_gt, cmp_le, cmp_lt, cmp_eq, jL_lit, jL_lt, jL_le, jL_eq, i3]) <;> omega) | omega)) | (with_reducible apply q_ifn; · (first | ((simp (disch := omega) only [jI_lit, jI_neg, jI_add, jI_sub, jI_mul, jI_lt, jI_le, jI_eq, va_up_self, va_up_ne, jI_shr1, jI_shr4, jI_shr0, jI_and1, jI_and15, jF_at, tn, b2_t, b2_f, cmp_ge, cmp_gt, cmp_le, cmp_lt, cmp_eq, jL_lit, jL_lt, jL_le, jL_eq, i3]) <;> omega) | omega)) | (with_reducible apply q_obk; · (first | with_reducible rfl | ((simp (disch := omega) only [jI_lit, jI_neg, jI_add, jI_sub, jI_mul, o_gI, o_gR, o_pI, o_pZ0, o_pZ1, o_pZb, o_pR, o_aI, o_qI, o_aN, tn, va_up_self, va_up_ne, upup, jI_shr1, jI_shr4, jI_shr0, jI_and1, jI_and15, jI_join, jI_240, jI_hi, jF_at, jF_up, jI_max, jI_min, b2_t, b2_f, Bool.not_true, Bool.not_false, eq_self, true_or, or_true, i3]) <;> with_reducible rfl))) | (with_reducible apply q_nz; · (first | ((simp (disch := omega) only [jI_lit, jI_neg, jI_add, jI_sub, jI_mul, jI_lt, jI_le, jI_eq, va_up_self, va_up_ne, jI_shr1, jI_shr4, jI_shr0, jI_and1, jI_and15, jF_at, tn, b2_t, b2_f, cmp_ge, cmp_gt, cmp_le, cmp_lt, cmp_eq, jL_lit, jL_lt, jL_le, jL_eq, i3]) <;> omega) | omega)) | (with_reducible apply q_rz; · (first | exact b2_01 _ | decide)))) <;> (first | with_reducible rfl | ((simp (disch := omega) only [jI_lit, jI_neg, jI_add, jI_sub, jI_mul, o_gI, o_gR, o_pI, o_pZ0, o_pZ1, o_pZb, o_pR, o_aI, o_qI, o_aN, tn, va_up_self, va_up_ne, upup, jI_shr1, jI_shr4, jI_shr0, jI_and1, jI_and15, jI_join, jI_240, jI_hi, jF_at, jF_up, jI_max, jI_min, b2_t, b2_f, Bool.not_true, Bool.not_false, eq_self, true_or, or_true, i3]) <;> with_reducible rfl) | rfl))
theorem e_takeBack {bad : Nat → Prop} {d ar o k nw : Nat} {A : Nat → Nat → Int} {v gv : Nat → Int} (h : Dk K I R N X bad d ar o k A) (hk : 0 < k) (hd0 : R d 0 = nw) (hq : Rw K R N nw) (hqI : I (nw + 1) = jF (cls v gv)) (hqb : bad (nw + 1)) :
    ∃ I' g', fX2_takeBack d (K, I, R, L, N, w) = some (K, I', R, L, N, w) ∧ I' (nw + 1) = jF (cls (A (k - 1)) g') ∧ Dk K I' R N X bad d ar o (k - 1) A ∧ (∀ y, y ≠ d → y ≠ nw + 1 → I' y = I y) ∧ (∀ j, j ≠ 3 → I' d j = I d j) := by
  have hh := h
  obtain ⟨⟨k2, r1, k103, n40, i2, i3, ho, hk'⟩, hrow, -, hact⟩ := hh
  obtain ⟨s, hs⟩ : ∃ s, s = (o + (k - 1)) % 40 := ⟨_, rfl⟩
  have hs40 : s < 40 := by omega
  obtain ⟨c1, g, c2⟩ := hact (k - 1) (by omega)
  rw [← hs] at c1 c2
  obtain ⟨b1, b2, b3, b4, b5⟩ := hrow s hs40 c1
  have kq1 := hq.2.2.1
  have ndq : d ≠ nw + 1 := fun e => by rw [e, kq1] at k2; omega
  have eb := e_cpR (L := L) (w := w) hq b1 c2 (Zr_of hqI)
  have er : irm (jI ((o : Int) + (k : Int) - 1)) (jI 40) = jI (s : Int) := by rw [jI_rem (by omega) (by omega) (by omega) (by omega)]; congr 1; omega
  have es : ((s : Int)).toNat = s := by omega
  obtain ⟨I1, hI1⟩ : ∃ I1, I1 = va_up I (nw + 1) (jF (cls (A (k - 1)) g)) := ⟨_, rfl⟩
  rw [← hI1] at eb
  have i3' : I1 d 3 = jI (k : Int) := by rw [hI1, va_up_ne _ _ ndq]; exact i3
  have ek : (k : Int) - 1 = ((k - 1 : Nat) : Int) := by omega
  obtain ⟨ra, hra⟩ : ∃ ra, ra = R ar s := ⟨_, rfl⟩
  refine ⟨va_up I1 d (va_up (I1 d) 3 (jI ((k - 1 : Nat) : Int))), g, ?_, ?_, ?_, fun y y1 y2 => by rw [va_up_ne _ _ y1, hI1, va_up_ne _ _ y2], fun j hj => by rw [va_up_self, va_up_ne _ _ hj, hI1, va_up_ne _ _ ndq]⟩
  · rw [← hra] at eb c1
    have hra' := hra.symm
    clear h hrow hact c2 b1 b2 b3 b4 b5 hq hqI hI1 hs hqb hra
    unfold fX2_takeBack
    ((repeat (first | (with_reducible apply q_gd; · (first | assumption | omega)) | (with_reducible apply q_ob; · (first | with_reducible rfl | ((simp (disch := omega) only [jI_lit, jI_neg, jI_add, jI_sub, jI_mul, o_gI, o_gR, o_pI, o_pZ0, o_pZ1, o_pZb, o_pR, o_aI, o_qI, o_aN, tn, va_up_self, va_up_ne, upup, jI_shr1, jI_shr4, jI_shr0, jI_and1, jI_and15, jI_join, jI_240, jI_hi, jF_at, jF_up, jI_max, jI_min, b2_t, b2_f, Bool.not_true, Bool.not_false, eq_self, true_or, or_true, i2, i3, er, r1, es, hra', hd0, eb, i3', ek, o_aR]) <;> with_reducible rfl))) | (with_reducible apply q_ob2; · (first | with_reducible rfl | ((simp (disch := omega) only [jI_lit, jI_neg, jI_add, jI_sub, jI_mul, o_gI, o_gR, o_pI, o_pZ0, o_pZ1, o_pZb, o_pR, o_aI, o_qI, o_aN, tn, va_up_self, va_up_ne, upup, jI_shr1, jI_shr4, jI_shr0, jI_and1, jI_and15, jI_join, jI_240, jI_hi, jF_at, jF_up, jI_max, jI_min, b2_t, b2_f, Bool.not_true, Bool.not_false, eq_self, true_or, or_true, i2, i3, er, r1, es, hra', hd0, eb, i3', ek, o_aR]) <;> with_reducible rfl))) | (with_reducible apply q_lt; · (first | with_reducible rfl | ((simp (disch := omega) only [jI_lit, jI_neg, jI_add, jI_sub, jI_mul, o_gI, o_gR, o_pI, o_pZ0, o_pZ1, o_pZb, o_pR, o_aI, o_qI, o_aN, tn, va_up_self, va_up_ne, upup, jI_shr1, jI_shr4, jI_shr0, jI_and1, jI_and15, jI_join, jI_240, jI_hi, jF_at, jF_up, jI_max, jI_min, b2_t, b2_f, Bool.not_true, Bool.not_false, eq_self, true_or, or_true, i2, i3, er, r1, es, hra', hd0, eb, i3', ek, o_aR]) <;> with_reducible rfl))) | (with_reducible apply q_ifp; · (first | ((simp (disch := omega) only [jI_lit, jI_neg, jI_add, jI_sub, jI_mul, jI_lt, jI_le, jI_eq, va_up_self, va_up_ne, jI_shr1, jI_shr4, jI_shr0, jI_and1, jI_and15, jF_at, tn, b2_t, b2_f, cmp_ge, cmp_gt, cmp_le, cmp_lt, cmp_eq, jL_lit, jL_lt, jL_le, jL_eq, i2, i3, er, r1, es, hra', hd0, eb, i3', ek, o_aR]) <;> omega) | omega)) | (with_reducible apply q_ifn; · (first | ((simp (disch := omega) only [jI_lit, jI_neg, jI_add, jI_sub, jI_mul, jI_lt, jI_le, jI_eq, va_up_self, va_up_ne, jI_shr1, jI_shr4, jI_shr0, jI_and1, jI_and15, jF_at, tn, b2_t, b2_f, cmp_ge, cmp_gt, cmp_le, cmp_lt, cmp_eq, jL_lit, jL_lt, jL_le, jL_eq, i2, i3, er, r1, es, hra', hd0, eb, i3', ek, o_aR]) <;> omega) | omega)) | (with_reducible apply q_obk; · (first | with_reducible rfl | ((simp (disch := omega) only [jI_lit, jI_neg, jI_add, jI_sub, jI_mul, o_gI, o_gR, o_pI, o_pZ0, o_pZ1, o_pZb, o_pR, o_aI, o_qI, o_aN, tn, va_up_self, va_up_ne, upup, jI_shr1, jI_shr4, jI_shr0, jI_and1, jI_and15, jI_join, jI_240, jI_hi, jF_at, jF_up, jI_max, jI_min, b2_t, b2_f, Bool.not_true, Bool.not_false, eq_self, true_or, or_true, i2, i3, er, r1, es, hra', hd0, eb, i3', ek, o_aR]) <;> with_reducible rfl))) | (with_reducible apply q_nz; · (first | ((simp (disch := omega) only [jI_lit, jI_neg, jI_add, jI_sub, jI_mul, jI_lt, jI_le, jI_eq, va_up_self, va_up_ne, jI_shr1, jI_shr4, jI_shr0, jI_and1, jI_and15, jF_at, tn, b2_t, b2_f, cmp_ge, cmp_gt, cmp_le, cmp_lt, cmp_eq, jL_lit, jL_lt, jL_le, jL_eq, i2, i3, er, r1, es, hra', hd0, eb, i3', ek, o_aR]) <;> omega) | omega)) | (with_reducible apply q_rz; · (first | exact b2_01 _ | decide)))) <;> (first | with_reducible rfl | ((simp (disch := omega) only [jI_lit, jI_neg, jI_add, jI_sub, jI_mul, o_gI, o_gR, o_pI, o_pZ0, o_pZ1, o_pZb, o_pR, o_aI, o_qI, o_aN, tn, va_up_self, va_up_ne, upup, jI_shr1, jI_shr4, jI_shr0, jI_and1, jI_and15, jI_join, jI_240, jI_hi, jF_at, jF_up, jI_max, jI_min, b2_t, b2_f, Bool.not_true, Bool.not_false, eq_self, true_or, or_true, i2, i3, er, r1, es, hra', hd0, eb, i3', ek, o_aR]) <;> with_reducible rfl) | rfl))
  · rw [va_up_ne _ _ (Ne.symm ndq), hI1, va_up_self]
  · refine Dk_set h ?_ (va_up_self _ _ _ ▸ va_up_self _ _ _) (fun y hy hyb => ?_) ho (by omega) (fun i hi => ⟨i, by omega, rfl, rfl⟩)
    · rw [va_up_self, va_up_ne _ _ (by omega), hI1, va_up_ne _ _ ndq]; exact i2
    · rw [va_up_ne _ _ (fun e => by rw [e, k2] at hy; omega), hI1, va_up_ne _ _ (fun e => hyb (by rw [e]; exact hqb))]
end DK
