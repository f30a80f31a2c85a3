section ZTC
variable {K : Nat → Nat} {I : Nat → Nat → Int32} {R : Nat → Nat → Nat} {L : Nat → Nat → Int64} {N : Nat → Nat} {w : Nat × Nat × Nat × Nat} {X U C Z Xo Ko : Nat}
variable {b mm ao many k m n pc pu : Nat} {P : PG} {r nt cr tp : Nat → Int} {A : Nat → Nat → Int} {fp : Int} {im : Option DS} {c : MC} {f : Nat → Int} {s t : SI2} {h g : Hp}
theorem dr_of {fc fr : Option (Int32 × Hp)} {v : Int32} (ho : K ao = 102) (hn : N ao = 1) (hx : ao < X) (e : fc = some (v, (K, I, R, L, N, w))) (rc : RC K I R N X b many P r k A m nt cr n tp fp im pc pu) (ro : RO c mm fr v r many P k A m nt cr n tp fp im) : DR b mm ao X pc pu fc fr := by
  obtain ⟨f', s', t', e2, -, rf⟩ := ro
  exact ⟨v, _, _, e, e2, c, f', r, s', t', many, P, k, A, m, nt, cr, n, tp, fp, im, rfl, ho, hn, hx, rc, rf⟩
theorem dr_ofk {fc fr : Option (Int32 × Hp)} {v : Int32} (ho : K ao = 102) (hn : N ao = 1) (hx : ao < X) (e : fc = some (v, (K, I, R, L, N, w))) (rc : RC K I R N X b many P r k A m nt cr n tp fp im pc pu) (rf : RF c mm f r s many P k A m nt cr n tp fp im) (hr : Rk c mm f r s fr (.inr v)) : DR b mm ao X pc pu fc fr := by
  obtain ⟨v', f', s', t', e2, kf, ks, hm⟩ := hr
  have hm : f' 2 = 0 ∧ v' = v := hm
  rw [hm.2] at e2
  exact ⟨v, _, _, e, e2, c, f', r, s', t', many, P, k, A, m, nt, cr, n, tp, fp, im, rfl, ho, hn, hx, rc, RF_k rf kf ks⟩
/-- an act that is done -/
theorem da_of {fc fr : Option (Int32 × Hp)} {v : Int32} {n0 : Nat → Nat} (ho : K ao = 102) (hn : N ao = 1) (hx : ao < X) (ac : ACo K N Xo Ko X 0 (X + pc) pu b many P r k A m nt cr n tp fp im pc pu v fc) (ro : RO c mm fr v r many P k A m nt cr n tp fp im) : DA b mm ao X pc pu fc fr := by
  obtain ⟨K', I', R', L', N', X', U', pc', pu', e, rc, q1, q2, -, q4, q5⟩ := ac
  obtain ⟨f', s', t', e2, -, rf⟩ := ro
  refine ⟨v, _, _, pc', pu', e, e2, q1, by show U' + pu' = pu; omega, q4, c, f', r, s', t', many, P, k, A, m, nt, cr, n, tp, fp, im, rfl, ?_, ?_, ?_, rc, rf⟩
  · show K' ao = 102; rw [(q5 ao hx).1]; exact ho
  · show N' ao = 1; rw [(q5 ao hx).2]; exact hn
  · show ao < X'; omega
/-- an act that is refused -/
theorem da_no {fc fr : Option (Int32 × Hp)} {v : Int32} (ho : K ao = 102) (hn : N ao = 1) (hx : ao < X) (e : fc = some (v, (K, I, R, L, N, (X, 0, X + pc, pu)))) (rc : RC K I R N X b many P r k A m nt cr n tp fp im pc pu) (ro : RO c mm fr v r many P k A m nt cr n tp fp im) : DA b mm ao X pc pu fc fr := by
  obtain ⟨f', s', t', e2, -, rf⟩ := ro
  exact ⟨v, _, _, pc, pu, e, e2, rfl, Nat.zero_add _, Nat.le_refl _, c, f', r, s', t', many, P, k, A, m, nt, cr, n, tp, fp, im, rfl, ho, hn, hx, rc, rf⟩
theorem dc_feed {z0 z1 z2 z3 z4 : Int32} (iv : IV b mm ao X pc pu h g) : DR b mm ao X pc pu (fX12_feed b z0 z1 z2 z3 z4 h) (fX13_feed mm z0 z1 z2 z3 z4 g) := by
  obtain ⟨c, f, r, s, t, many, P, k, A, m, nt, cr, n, tp, fp, im, rfl, ho, hn, hx, rc, rf⟩ := iv
  obtain ⟨K, I, R, L, N, w⟩ := h
  have rc : RC K I R N X b many P r k A m nt cr n tp fp im pc pu := rc
  obtain ⟨a0, rfl, b0⟩ := i32 z0
  obtain ⟨a1, rfl, b1⟩ := i32 z1
  obtain ⟨a2, rfl, b2'⟩ := i32 z2
  obtain ⟨a3, rfl, b3⟩ := i32 z3
  obtain ⟨a4, rfl, b4⟩ := i32 z4
  by_cases q : n ≤ 680
  · obtain ⟨I', e, rc'⟩ := y_Feed1 (L := L) (w := w) (z1 := a0) (z2 := a1) (z3 := a2) (z4 := a3) (z5 := a4) rc q
    exact dr_of ho hn hx e rc' (z_Feed1 (t := t) rf q b0 b1 b2' b3 b4)
  · exact dr_of ho hn hx (y_Feed0 (L := L) (w := w) rc q) rc (z_Feed0 (t := t) rf q)
theorem dc_fault (iv : IV b mm ao X pc pu h g) : ∃ v g', fX12_fault b h = some v ∧ fX13_fault mm g = some (v, g') ∧ IV b mm ao X pc pu h g' := by
  obtain ⟨c, f, r, s, t, many, P, k, A, m, nt, cr, n, tp, fp, im, rfl, ho, hn, hx, rc, rf⟩ := iv
  obtain ⟨K, I, R, L, N, w⟩ := h
  have rc : RC K I R N X b many P r k A m nt cr n tp fp im pc pu := rc
  obtain ⟨v', f', s', t', e2, kf, ks, hm⟩ := z_Fault (t := t) rf
  have hm : f' 2 = 0 ∧ v' = jI fp := hm
  rw [hm.2] at e2
  exact ⟨_, _, y_Fault (L := L) (w := w) rc, e2, c, f', r, s', t', many, P, k, A, m, nt, cr, n, tp, fp, im, rfl, ho, hn, hx, rc, RF_k rf kf ks⟩
theorem dc_undo (iv : IV b mm ao X pc pu h g) : DR b mm ao X pc pu (fX12_undo b h) (fX13_undo mm g) := by
  obtain ⟨c, f, r, s, t, many, P, k, A, m, nt, cr, n, tp, fp, im, rfl, ho, hn, hx, rc, rf⟩ := iv
  obtain ⟨K, I, R, L, N, w⟩ := h
  have rc : RC K I R N X b many P r k A m nt cr n tp fp im pc pu := rc
  by_cases q : k = 0
  · exact dr_of ho hn hx (y_Undo0 (L := L) (w := w) rc q) rc (z_Undo0 (t := t) rf q)
  · obtain ⟨I', e, rc'⟩ := y_Undo1 (L := L) (w := w) rc (by omega)
    exact dr_of ho hn hx e rc' (z_Undo1 (t := t) rf (by omega))
theorem dc_halts (iv : IV b mm ao X pc pu h g) : DR b mm ao X pc pu (fX12_halts b h) (fX13_halts mm g) := by
  obtain ⟨c, f, r, s, t, many, P, k, A, m, nt, cr, n, tp, fp, im, rfl, ho, hn, hx, rc, rf⟩ := iv
  obtain ⟨K, I, R, L, N, w⟩ := h
  have rc : RC K I R N X b many P r k A m nt cr n tp fp im pc pu := rc
  obtain ⟨I', R', L', e, rc'⟩ := y_Halts (L := L) (w := w) rc
  exact dr_ofk ho hn hx e rc' rf (z_Halts (t := t) rf)
theorem dc_round (iv : IV b mm ao X pc pu h g) : DR b mm ao X pc pu (fX12_round b h) (fX13_round mm g) := by
  obtain ⟨c, f, r, s, t, many, P, k, A, m, nt, cr, n, tp, fp, im, rfl, ho, hn, hx, rc, rf⟩ := iv
  obtain ⟨K, I, R, L, N, w⟩ := h
  have rc : RC K I R N X b many P r k A m nt cr n tp fp im pc pu := rc
  obtain ⟨I', R', L', e, rc'⟩ := y_Round (L := L) (w := w) rc
  exact dr_ofk ho hn hx e rc' rf (z_Round (t := t) rf)
theorem dc_note {z0 z1 z2 : Int32} (iv : IV b mm ao X pc pu h g) : DR b mm ao X pc pu (fX12_note b z0 z1 z2 h) (fX13_note mm z0 z1 z2 g) := by
  obtain ⟨c, f, r, s, t, many, P, k, A, m, nt, cr, n, tp, fp, im, rfl, ho, hn, hx, rc, rf⟩ := iv
  obtain ⟨K, I, R, L, N, w⟩ := h
  have rc : RC K I R N X b many P r k A m nt cr n tp fp im pc pu := rc
  obtain ⟨a0, rfl, b0, c0⟩ := i32 z0
  obtain ⟨a1, rfl, b1, c1⟩ := i32 z1
  obtain ⟨a2, rfl, b2', c2⟩ := i32 z2
  by_cases q : m < 8 ∧ 0 ≤ a0 ∧ a0 ≤ 60 ∧ 0 ≤ a1 ∧ a1 < 256 ∧ 0 ≤ a2 ∧ a2 < 256
  · obtain ⟨q1, q2, q3, q4, q5, q6, q7⟩ := q
    obtain ⟨I', e, rc'⟩ := y_Note1 (L := L) (w := w) rc q1 q2 q3 q4 q5 q6 q7
    exact dr_of ho hn hx e rc' (z_Note1 (t := t) rf q1 q2 q3 q4 q5 q6 q7)
  · obtain ⟨I', e, rc'⟩ := y_Note0 (L := L) (w := w) rc b0 c0 b1 c1 b2' c2 q
    exact dr_of ho hn hx e rc' (z_Note0 (t := t) rf b0 c0 b1 c1 b2' c2 q)
theorem dc_forget (iv : IV b mm ao X pc pu h g) : ∃ h' g', fX12_forget b h = some h' ∧ fX13_forget mm g = some g' ∧ IV b mm ao X pc pu h' g' := by
  obtain ⟨c, f, r, s, t, many, P, k, A, m, nt, cr, n, tp, fp, im, rfl, ho, hn, hx, rc, rf⟩ := iv
  obtain ⟨K, I, R, L, N, w⟩ := h
  have rc : RC K I R N X b many P r k A m nt cr n tp fp im pc pu := rc
  obtain ⟨I', e, rc'⟩ := y_Forget (L := L) (w := w) rc
  obtain ⟨f', s', t', e2, rf'⟩ := z_Forget (t := t) rf
  exact ⟨_, _, e, e2, c, f', r, s', t', many, P, k, A, 0, nt, cr, n, tp, fp, im, rfl, ho, hn, hx, rc', rf'⟩
/-! what may make cells -/
theorem da_steps {z0 : Int32} (iv : IV b mm ao X pc pu (K, I, R, L, N, (X, 0, X + pc, pu)) g) : DA b mm ao X pc pu (fX12_steps b z0 (K, I, R, L, N, (X, 0, X + pc, pu))) (fX13_steps mm z0 g) := by
  obtain ⟨c, f, r, s, t, many, P, k, A, m, nt, cr, n, tp, fp, im, rfl, ho, hn, hx, rc, rf⟩ := iv
  have rc : RC K I R N X b many P r k A m nt cr n tp fp im pc pu := rc
  obtain ⟨a0, rfl, b0, c0⟩ := i32 z0
  by_cases q : r 276 = 0 ∧ 1 ≤ a0 ∧ a0 ≤ 50 ∧ r 277 + a0 ≤ 20000
  · obtain ⟨q1, q2, q3, q4⟩ := q
    obtain ⟨d, hd⟩ : ∃ d : Nat, a0 = (d : Int) := ⟨a0.toNat, by omega⟩
    subst hd
    exact da_of (n0 := N) ho hn hx (y_Steps1 (L := L) (a := d) rc (Nat.le_refl _) (by omega) (TP_rf K X) q1 (by omega) (by omega) q4) (z_Steps1 (t := t) (a := d) rf q1 (by omega) (by omega) q4)
  · obtain ⟨I', e, rc'⟩ := y_Steps0 (L := L) (w := (X, 0, X + pc, pu)) rc b0 c0 q
    exact da_no ho hn hx e rc' (z_Steps0 (t := t) rf b0 c0 q)
theorem da_lay {z0 z1 : Int32} (iv : IV b mm ao X pc pu (K, I, R, L, N, (X, 0, X + pc, pu)) g) : DA b mm ao X pc pu (fX12_lay b z0 z1 (K, I, R, L, N, (X, 0, X + pc, pu))) (fX13_lay mm z0 z1 g) := by
  obtain ⟨c, f, r, s, t, many, P, k, A, m, nt, cr, n, tp, fp, im, rfl, ho, hn, hx, rc, rf⟩ := iv
  have rc : RC K I R N X b many P r k A m nt cr n tp fp im pc pu := rc
  obtain ⟨a0, rfl, b0, c0⟩ := i32 z0
  obtain ⟨a1, rfl, b1, c1⟩ := i32 z1
  by_cases q : 0 ≤ a0 ∧ a0 < 256 ∧ 0 ≤ a1 ∧ a1 < 256 ∧ r a0.toNat ≠ a1
  · obtain ⟨q1, q2, q3, q4, q5⟩ := q
    exact da_of (n0 := N) ho hn hx (y_Lay1 (L := L) rc (Nat.le_refl _) (by omega) (TP_rf K X) q1 q2 q3 q4 q5) (z_Lay1 (t := t) rf q1 q2 q3 q4 q5)
  · obtain ⟨I', e, rc'⟩ := y_Lay0 (L := L) (w := (X, 0, X + pc, pu)) rc b0 c0 b1 c1 q
    exact da_no ho hn hx e rc' (z_Lay0 (t := t) rf b0 c0 b1 c1 q)
theorem da_set {z0 z1 : Int32} (iv : IV b mm ao X pc pu (K, I, R, L, N, (X, 0, X + pc, pu)) g) : DA b mm ao X pc pu (fX12_set b z0 z1 (K, I, R, L, N, (X, 0, X + pc, pu))) (fX13_set mm z0 z1 g) := by
  obtain ⟨c, f, r, s, t, many, P, k, A, m, nt, cr, n, tp, fp, im, rfl, ho, hn, hx, rc, rf⟩ := iv
  have rc : RC K I R N X b many P r k A m nt cr n tp fp im pc pu := rc
  obtain ⟨a0, rfl, b0, c0⟩ := i32 z0
  obtain ⟨a1, rfl, b1, c1⟩ := i32 z1
  by_cases q : 0 ≤ a0 ∧ a0 < 8 ∧ r (256 + a0.toNat) ≠ a1
  · obtain ⟨q1, q2, q5⟩ := q
    exact da_of (n0 := N) ho hn hx (y_Set1 (L := L) rc (Nat.le_refl _) (by omega) (TP_rf K X) q1 q2 b1 c1 q5) (z_Set1 (t := t) rf q1 q2 b1 c1 q5)
  · obtain ⟨I', e, rc'⟩ := y_Set0 (L := L) (w := (X, 0, X + pc, pu)) rc b0 c0 b1 c1 q
    exact da_no ho hn hx e rc' (z_Set0 (t := t) rf b0 c0 b1 c1 q)
theorem da_next {z0 : Int32} (iv : IV b mm ao X pc pu (K, I, R, L, N, (X, 0, X + pc, pu)) g) : DA b mm ao X pc pu (fX12_next b z0 (K, I, R, L, N, (X, 0, X + pc, pu))) (fX13_next mm z0 g) := by
  obtain ⟨c, f, r, s, t, many, P, k, A, m, nt, cr, n, tp, fp, im, rfl, ho, hn, hx, rc, rf⟩ := iv
  have rc : RC K I R N X b many P r k A m nt cr n tp fp im pc pu := rc
  obtain ⟨a0, rfl, b0, c0⟩ := i32 z0
  by_cases q : 0 ≤ a0 ∧ a0 ≤ many
  · obtain ⟨q1, q2⟩ := q
    obtain ⟨d, hd⟩ : ∃ d : Nat, a0 = (d : Int) := ⟨a0.toNat, by omega⟩
    subst hd
    exact da_of (n0 := N) ho hn hx (y_Next1 (L := L) (a := d) rc (Nat.le_refl _) (by omega) (TP_rf K X) (by omega)) (z_Next1 (t := t) (a := d) rf (by omega))
  · obtain ⟨I', e, rc'⟩ := y_Next0 (L := L) (w := (X, 0, X + pc, pu)) rc b0 c0 q
    exact da_no ho hn hx e rc' (z_Next0 (t := t) rf b0 c0 q)
theorem da_begin (iv : IV b mm ao X pc pu (K, I, R, L, N, (X, 0, X + pc, pu)) g) : DA b mm ao X pc pu (fX12_begin b (K, I, R, L, N, (X, 0, X + pc, pu))) (fX13_begin mm g) := by
  obtain ⟨c, f, r, s, t, many, P, k, A, m, nt, cr, n, tp, fp, im, rfl, ho, hn, hx, rc, rf⟩ := iv
  have rc : RC K I R N X b many P r k A m nt cr n tp fp im pc pu := rc
  exact da_of (n0 := N) ho hn hx (y_Begin (L := L) rc (Nat.le_refl _) (by omega) (TP_rf K X)) (z_Begin (t := t) rf)
theorem da_restore (iv : IV b mm ao X pc pu (K, I, R, L, N, (X, 0, X + pc, pu)) g) : DA b mm ao X pc pu (fX12_restore b (K, I, R, L, N, (X, 0, X + pc, pu))) (fX13_restore mm g) := by
  obtain ⟨c, f, r, s, t, many, P, k, A, m, nt, cr, n, tp, fp, im, rfl, ho, hn, hx, rc, rf⟩ := iv
  have rc : RC K I R N X b many P r k A m nt cr n tp fp im pc pu := rc
  cases im with
  | none => exact da_no ho hn hx (y_Restore0 (L := L) (w := (X, 0, X + pc, pu)) rc rfl) rc (z_Restore0 (t := t) rf rfl)
  | some q =>
    obtain ⟨r2, ⟨k2, A2⟩, ⟨m2, nt2⟩, cr2⟩ := q
    exact da_of (n0 := N) ho hn hx (y_Restore1 (L := L) rc (Nat.le_refl _) (by omega) (TP_rf K X) rfl) (z_Restore1 (t := t) rf rfl)
theorem da_image (iv : IV b mm ao X pc pu (K, I, R, L, N, (X, 0, X + pc, pu)) g) : ∃ h' g' pc' pu', fX12_image b (K, I, R, L, N, (X, 0, X + pc, pu)) = some h' ∧ fX13_image mm g = some g' ∧ hX h' + pc' = X + pc ∧ hU h' + pu' = pu ∧ X ≤ hX h' ∧ IV b mm ao (hX h') pc' pu' h' g' := by
  obtain ⟨c, f, r, s, t, many, P, k, A, m, nt, cr, n, tp, fp, im, rfl, ho, hn, hx, rc, rf⟩ := iv
  have rc : RC K I R N X b many P r k A m nt cr n tp fp im pc pu := rc
  obtain ⟨f', s', t', e2, -, rf'⟩ := z_Image (t := t) rf
  have fin : (∃ Xo Ko K' I' R' L' N' X' U' pc' pu', fX12_image b (K, I, R, L, N, (X, 0, X + pc, pu)) = some (K', I', R', L', N', (X', U', X + pc, pu)) ∧ RC K' I' R' N' X' b many P r k A m nt cr n tp fp (some (r, (k, A), (m, nt), cr)) pc' pu' ∧ X' + pc' = X + pc ∧ U' + pu' = 0 + pu ∧ TP Xo Ko K' X' ∧ X ≤ X' ∧ ∀ y, y < X → K' y = K y ∧ N' y = N y) → ∃ h' g' pc' pu', fX12_image b (K, I, R, L, N, (X, 0, X + pc, pu)) = some h' ∧ fX13_image mm (MS c mm f r s t) = some g' ∧ hX h' + pc' = X + pc ∧ hU h' + pu' = pu ∧ X ≤ hX h' ∧ IV b mm ao (hX h') pc' pu' h' g' := by
    rintro ⟨Xo, Ko, K', I', R', L', N', X', U', pc', pu', e, rc', q1, q2, -, q4, q5⟩
    refine ⟨_, _, pc', pu', e, e2, q1, by show U' + pu' = pu; omega, q4, c, f', r, s', t', many, P, k, A, m, nt, cr, n, tp, fp, _, rfl, ?_, ?_, ?_, rc', rf'⟩
    · show K' ao = 102; rw [(q5 ao hx).1]; exact ho
    · show N' ao = 1; rw [(q5 ao hx).2]; exact hn
    · show ao < X'; omega
  refine fin ?_
  by_cases q : R b 11 = 0
  · obtain ⟨K', I', R', L', N', X', U', pc', pu', z⟩ := y_Img0 (L := L) (U := 0) (C := X + pc) (Z := pu) rc (Nat.le_refl _) (by omega) q
    exact ⟨0, 0, K', I', R', L', N', X', U', pc', pu', z⟩
  · obtain ⟨K', I', R', L', N', X', U', pc', pu', z⟩ := y_Img1 (L := L) (U := 0) (C := X + pc) (Z := pu) rc (Nat.le_refl _) (by omega) (TP_rf K X) q
    exact ⟨_, _, K', I', R', L', N', X', U', pc', pu', z⟩
theorem RC_X0 (rc : RC K I R N X b many P r k A m nt cr n tp fp im pc pu) : 0 < X := by
  obtain ⟨l, sl, i, sh, -⟩ := rc
  have := sh.2.2.2.2.2.2.2.2.2.2.2.1
  omega
theorem da_program {z0 : Int32} (iv : IV b mm ao X pc pu (K, I, R, L, N, (X, 0, X + pc, pu)) g) : (∃ v g', fX12_program b z0 (K, I, R, L, N, (X, 0, X + pc, pu)) = some (.inl 2, (K, I, R, L, N, (X, 0, X + pc, pu))) ∧ fX13_program mm z0 g = some (v, g') ∧ fX13_thrown mm g' = some 1 ∧ IV b mm ao X pc pu (K, I, R, L, N, (X, 0, X + pc, pu)) g') ∨
    (∃ v h1 h9 g' pc' pu', fX12_program b z0 (K, I, R, L, N, (X, 0, X + pc, pu)) = some (.inr v, h1) ∧ okA (K, I, R, L, N, (X, 0, X + pc, pu)) h1 ∧ qL ao 0 (Int32.toInt64 v) h1 = some h9 ∧ hL h9 ao 0 = Int32.toInt64 v ∧ fX13_program mm z0 g = some (v, g') ∧ fX13_thrown mm g' = some 0 ∧ hX h9 + pc' = X + pc ∧ hU h9 + pu' = pu ∧ X ≤ hX h9 ∧ IV b mm ao (hX h9) pc' pu' h9 g') := by
  obtain ⟨c, f, r, s, t, many, P, k, A, m, nt, cr, n, tp, fp, im, rfl, ho, hn, hx, rc, rf⟩ := iv
  have rc : RC K I R N X b many P r k A m nt cr n tp fp im pc pu := rc
  obtain ⟨a0, rfl, b0, c0⟩ := i32 z0
  by_cases q : 0 ≤ a0 ∧ a0 ≤ n
  rotate_left
  · left
    obtain ⟨v, f', s', t', e2, kf, ks, hm⟩ := z_ProgX (t := t) rf b0 c0 q
    have hm : f' 2 = ((1 : Nat) : Int) := hm
    exact ⟨v, _, y_ProgX (L := L) (w := (X, 0, X + pc, pu)) rc b0 c0 q, e2, by rw [s_thrown rf.1, hm]; rfl, c, f', r, s', t', many, P, k, A, m, nt, cr, n, tp, fp, im, rfl, ho, hn, hx, rc, RF_k rf kf ks⟩
  right
  obtain ⟨d, hd⟩ : ∃ d : Nat, a0 = (d : Int) := ⟨a0.toNat, by omega⟩
  subst hd
  have hz := z_Prog (t := t) (a := d) rf (by omega)
  have hst : ∀ st Q, par tp d = .inr (st, Q) → STK st := by
    intro st Q e
    rcases hz with ⟨cc, pl, f', s', e1, -⟩ | ⟨st', Q', f', s', e1, sk, -⟩
    · rw [e1] at e; exact absurd e (by simp)
    · rw [e1] at e
      have e := Sum.inr.inj e
      have q9 : st' = st := congrArg Prod.fst e
      subst q9
      exact sk
  obtain ⟨K', I', R', L', N', X', U', pc', pu', v, e, q1, q2, q3, q4, q5, hc⟩ := y_Prog (L := L) (U := 0) (C := X + pc) (Z := pu) rc (Nat.le_refl _) (by omega) (TP_rf K X) (by omega) hst
  have ho' : K' ao = 102 := by rw [(q5 ao hx).1]; exact ho
  have hn' : N' ao = 1 := by rw [(q5 ao hx).2]; exact hn
  have okK : okA (K, I, R, L, N, (X, 0, X + pc, pu)) (K', I', R', L', N', (X', U', X + pc, pu)) := okA_tp (TP_rf K X) (RC_X0 rc) q4 (Nat.zero_le _) (by omega) (by omega) q3
  have fin : ∀ (many2 : Nat) (P2 : PG) (r2 : Nat → Int) (k2 : Nat) (m2 : Nat) (cr2 : Nat → Int) (fp2 : Int) (im2 : Option DS) (f' : Nat → Int) (s' : SI2), fX13_program mm (jI (d : Int)) (MS c mm f r s t) = some (jI v, MS c mm f' r2 s' t) → f' 2 = 0 → RC K' I' R' N' X' b many2 P2 r2 k2 A m2 nt cr2 0 tp fp2 im2 pc' pu' → RF c mm f' r2 s' many2 P2 k2 A m2 nt cr2 0 tp fp2 im2 → ∃ v h1 h9 g' pc' pu', fX12_program b (jI (d : Int)) (K, I, R, L, N, (X, 0, X + pc, pu)) = some (.inr v, h1) ∧ okA (K, I, R, L, N, (X, 0, X + pc, pu)) h1 ∧ qL ao 0 (Int32.toInt64 v) h1 = some h9 ∧ hL h9 ao 0 = Int32.toInt64 v ∧ fX13_program mm (jI (d : Int)) (MS c mm f r s t) = some (v, g') ∧ fX13_thrown mm g' = some 0 ∧ hX h9 + pc' = X + pc ∧ hU h9 + pu' = pu ∧ X ≤ hX h9 ∧ IV b mm ao (hX h9) pc' pu' h9 g' := by
    intro many2 P2 r2 k2 m2 cr2 fp2 im2 f' s' e2 f2 rc' rf'
    refine ⟨jI v, _, _, _, pc', pu', e, okK, qL_out ho' hn' _, ?_, e2, by rw [s_thrown rf.1, f2]; rfl, q1, by show U' + pu' = pu; omega, q4, c, f', r2, s', t, many2, P2, k2, A, m2, nt, cr2, 0, tp, fp2, im2, rfl, ho', hn', ?_, rc', rf'⟩
    · show va_up L' ao (va_up (L' ao) 0 (Int32.toInt64 (jI v))) ao 0 = _
      rw [va_up_self, va_up_self]
    · show ao < X'; omega
  rcases hz with ⟨cc, pl, f', s', e1, -, -, e2, f2, rf'⟩ | ⟨st, Q, f', s', e1, sk, e2, f2, rf'⟩
  · rcases hc with ⟨cc', pl', e3, e4, rc'⟩ | ⟨st', Q', e3, -⟩
    · rw [e1] at e3
      have e3 := Sum.inl.inj e3
      have h1 : cc = cc' := congrArg Prod.fst e3
      have h2 : pl = pl' := congrArg Prod.snd e3
      rw [e4, ← h1] at fin
      rw [← h2] at rc'
      exact fin _ _ _ _ _ _ _ _ f' s' e2 f2 rc' rf'
    · rw [e1] at e3; exact absurd e3 (by simp)
  · rcases hc with ⟨cc', pl', e3, -⟩ | ⟨st', Q', e3, e4, rc'⟩
    · rw [e1] at e3; exact absurd e3 (by simp)
    · rw [e1] at e3
      have e3 := Sum.inr.inj e3
      have h1 : st = st' := congrArg Prod.fst e3
      have h2 : Q = Q' := congrArg Prod.snd e3
      subst h1
      subst h2
      rw [e4] at fin
      exact fin _ _ _ _ _ _ _ _ f' s' e2 f2 rc' rf'
end ZTC
