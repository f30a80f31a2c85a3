theorem noL_8 : NO RL 8 10 13 := ⟨RX12, TX12, tyX12, rfl, by decide, by decide, iu_10, tyX12_ok, by decide +kernel, (uw_1 28 rfl rfl), (uw_1 29 rfl rfl), (uw_1 1 rfl rfl)⟩
theorem noL_87 : NO RL 87 11 76 := ⟨RX13, TX13, tyX13, rfl, by decide, by decide, iu_11, tyX13_ok, by decide +kernel, (uw_7 43 rfl rfl), (uw_7 44 rfl rfl), (uw_1 13 rfl rfl)⟩
theorem coL_86 : COI RL 86 yX12_init cX12_init 1 0 := ⟨⟨(uw_1 30 rfl rfl), (uw_1 32 rfl rfl), (uw_1 1 rfl rfl), by decide, by decide +kernel, by decide⟩, (uw_1 31 rfl rfl), rfl⟩
theorem coL_89 : COI RL 89 yX13_init cX13_init 1 0 := ⟨⟨(uw_7 45 rfl rfl), (uw_7 47 rfl rfl), (uw_1 13 rfl rfl), by decide, by decide +kernel, by decide⟩, (uw_7 46 rfl rfl), rfl⟩
section LWF
variable {p : Program} {l : Launch} {e : Env} {R : Room} {s : State} {m : MethodId} {args : Array Value} {below : List Frame} {meth : Method} {c : Code} {E : EE} {H : Heap} {locs : List Loc} {cells slots : Nat} {Q : State → Prop} {h g h' : Hp}
variable {b mm ao sc X0 pc0 pu0 L DD : Nat} {xs : Nat → Int32} {i : Int32} {ls : Array Slot}

/-- what the law makes first: an engine, a reference, out -/
def law0 (h : Hp) : Option (Nat × Nat × Nat × Hp) := ob2 (newO 10 13 h) fun b h => oba h (fX12_init b h) fun h => ob2 (newO 11 76 h) fun m h => oba h (fX13_init m h) fun h => ob2 (newA 102 8 1 h) fun o h => some (b, m, o, h)
/-- the reference's memory taken over into a heap that agrees with it there -/
theorem MS_to {K : Nat → Nat} {I : Nat → Nat → Int32} {R : Nat → Nat → Nat} {L : Nat → Nat → Int64} {N : Nat → Nat} {w : Nat × Nat × Nat × Nat} {K' : Nat → Nat} {I' : Nat → Nat → Int32} {R' : Nat → Nat → Nat} {L' : Nat → Nat → Int64} {N' : Nat → Nat} {w' : Nat × Nat × Nat × Nat} {c : MC} {d : Nat} {f r : Nat → Int} {s t : SI2} (e : (K, I, R, L, N, w) = MS c d f r s t) (hI : ∀ y, d ≤ y → y < d + 37 → I' y = I y) (hL : ∀ y, d ≤ y → y < d + 37 → L' y = L y) : (K', I', R', L', N', w') = MS (K', R', N', w', I', L') d f r s t := by
  have eI : I = (MS c d f r s t).2.1 := congrArg (fun h => h.2.1) e
  have eL : L = (MS c d f r s t).2.2.2.1 := congrArg (fun h => h.2.2.2.1) e
  have kI : I' = fun y k => if d ≤ y ∧ y < d + 37 then jI ((va_up (va_up s 3 r) 0 f) (y - d) k) else I' y k := by
    funext y k
    by_cases q : d ≤ y ∧ y < d + 37
    · rw [if_pos q, hI y q.1 q.2, eI]
      show (if d ≤ y ∧ y < d + 37 then jI ((va_up (va_up s 3 r) 0 f) (y - d) k) else c.2.2.2.2.1 y k) = _
      rw [if_pos q]
    · rw [if_neg q]
  have kL : L' = fun y k => if d ≤ y ∧ y < d + 37 then jL (t (y - d) k) else L' y k := by
    funext y k
    by_cases q : d ≤ y ∧ y < d + 37
    · rw [if_pos q, hL y q.1 q.2, eL]
      show (if d ≤ y ∧ y < d + 37 then jL (t (y - d) k) else c.2.2.2.2.2 y k) = _
      rw [if_pos q]
    · rw [if_neg q]
  have key : ∀ a b, a = I' → b = L' → (K', I', R', L', N', w') = (K', a, R', b, N', w') := by
    rintro _ _ rfl rfl
    rfl
  exact key _ _ kI.symm kL.symm
theorem Mo_to {c c' : MC} {d : Nat} (h : Mo c d) (hK : ∀ j, j < 37 → c'.1 (d + j) = c.1 (d + j)) (hN : ∀ j, j < 37 → c'.2.2.1 (d + j) = c.2.2.1 (d + j)) (hR : ∀ j, j < 37 → c'.2.1 (d + j) = c.2.1 (d + j)) : Mo c' d := by
  obtain ⟨m1, m2, m3, m4, m5⟩ := h
  refine ⟨fun j hj => (hK j hj).trans (m1 j hj), fun j h0 hj => (hN j hj).trans (m2 j h0 hj), fun k hk => ?_, fun k hk => ?_, fun k hk => ?_⟩
  · rw [show c'.2.1 d = c.2.1 d from hR 0 (by omega)]; exact m3 k hk
  · rw [hR 1 (by omega)]; exact m4 k hk
  · rw [hR 2 (by omega)]; exact m5 k hk
theorem pw_1 {x y : Nat} (h : y < x + 59) : (fun a => decide (a < x + 59 ∨ a = x + 96)) y = true := decide_eq_true (Or.inl h)
theorem pw_2 {x : Nat} : (fun a => decide (a < x + 59 ∨ a = x + 96)) (x + 96) = true := decide_eq_true (Or.inr rfl)
theorem pw_3 {x j : Nat} (h : j < 37) : (!(fun a => decide (a < x + 59 ∨ a = x + 96)) (x + 59 + j)) = true := by
  have q : ¬ (x + 59 + j < x + 59 ∨ x + 59 + j = x + 96) := by omega
  show (!decide (x + 59 + j < x + 59 ∨ x + 59 + j = x + 96)) = true
  rw [decide_eq_false q]
  rfl
set_option maxHeartbeats 4000000 in
theorem IV_0 {x C Z : Nat} (x0 : 0 < x) (h1 : x + 97 ≤ C) (h2 : 43259 ≤ Z) : ∃ h9, law0 (hp0 x 0 C Z) = some (x, x + 59, x + 96, h9) ∧ hX h9 = x + 97 ∧ hU h9 = 43259 ∧ IV x (x + 59) (x + 96) (x + 97) (2 * 40 + 86 + 60 + 60) (412 * 40 + (486 + 412 * 40) + 11 * 60 + 11 * 60) (hcut (fun a => decide (a < x + 59 ∨ a = x + 96)) h9) (hcut (fun a => !(fun a => decide (a < x + 59 ∨ a = x + 96)) a) h9) := by
  obtain ⟨K2, I2, R2, L2, N2, e2, kK2, kN2, kI2, kR2, t2, rc⟩ := y_Init (K := va_up (fun _ => 0) x 10) (I := va_up (fun _ _ => 0) x (fun _ => 0)) (R := va_up (fun _ _ => 0) x (fun _ => 0)) (L := va_up (fun _ _ => 0) x (fun _ => 0)) (N := va_up (fun _ => 0) x 0) (U := 0 + 13) (C := C) (Z := Z) (b := x) (va_up_self _ _ _) x0 (va_up_self _ _ _) (by rw [va_up_self]) (by omega) (by omega)
  obtain ⟨K4, I4, R4, L4, N4, c, f, s, t, e4, em, kK4, kN4, kI4, kR4, t4, rf⟩ := z_Init (K := va_up K2 (x + 59) 11) (I := va_up I2 (x + 59) (fun _ => 0)) (R := va_up R2 (x + 59) (fun _ => 0)) (L := va_up L2 (x + 59) (fun _ => 0)) (N := va_up N2 (x + 59) 0) (U := 0 + 13 + 5394 + 76) (C := C) (Z := Z) (d := x + 59) (va_up_self _ _ _) (va_up_self _ _ _) (by omega) (by omega)
  obtain ⟨h9, e9⟩ : ∃ z : Hp, z = (va_up K4 (x + 96) 102, va_up I4 (x + 96) (fun _ => 0), va_up R4 (x + 96) (fun _ => 0), va_up L4 (x + 96) (fun _ => 0), va_up N4 (x + 96) 1, (x + 96 + 1, 0 + 13 + 5394 + 76 + 37775 + 1, C, Z)) := ⟨_, rfl⟩
  have n1 := o_newO (K := fun _ => 0) (I := fun _ _ => 0) (R := fun _ _ => 0) (L := fun _ _ => 0) (N := fun _ => 0) (X := x) (U := 0) (C := C) (Z := Z) (c := 10) (n := 13) x0 (by omega) (by omega)
  have n3 := o_newO (K := K2) (I := I2) (R := R2) (L := L2) (N := N2) (X := x + 59) (U := 0 + 13 + 5394) (C := C) (Z := Z) (c := 11) (n := 76) (by omega) (by omega) (by omega)
  have n5 := o_newA (K := K4) (I := I4) (R := R4) (L := L4) (N := N4) (X := x + 96) (U := 0 + 13 + 5394 + 76 + 37775) (C := C) (Z := Z) (c := 102) (z := 8) (n := 1) (by decide) (by decide) (by omega) (by omega) (by omega)
  have ok2 : okA (va_up (fun _ => 0) x 10, va_up (fun _ _ => 0) x (fun _ => 0), va_up (fun _ _ => 0) x (fun _ => 0), va_up (fun _ _ => 0) x (fun _ => 0), va_up (fun _ => 0) x 0, (x + 1, 0 + 13, C, Z)) (K2, I2, R2, L2, N2, (x + 59, 0 + 13 + 5394, C, Z)) := okA_of (by omega) (by omega) (by omega) (by omega) (by omega) t2
  have ok4 : okA (va_up K2 (x + 59) 11, va_up I2 (x + 59) (fun _ => 0), va_up R2 (x + 59) (fun _ => 0), va_up L2 (x + 59) (fun _ => 0), va_up N2 (x + 59) 0, (x + 59 + 1, 0 + 13 + 5394 + 76, C, Z)) (K4, I4, R4, L4, N4, (x + 59 + 37, 0 + 13 + 5394 + 76 + 37775, C, Z)) := okA_of (by omega) (by omega) (by omega) (by omega) (by omega) t4
  have a59 : ∀ y, y < x + 59 → y ≠ x + 59 := fun y hy => by omega
  have a96 : ∀ y, y < x + 59 → y ≠ x + 96 := fun y hy => by omega
  have a60 : ∀ y, y < x + 59 → y < x + 59 + 1 := fun y hy => by omega
  have b96 : ∀ j, j < 37 → x + 59 + j ≠ x + 96 := fun j hj => by omega
  refine ⟨h9, ?_, by rw [e9]; rfl, by rw [e9]; show 0 + 13 + 5394 + 76 + 37775 + 1 = 43259; decide, ?_⟩
  · unfold law0 hp0
    ((try rw [n1]); rw [o_ob2, e2, o_oba ok2]; (try rw [n3]); rw [o_ob2]; (try rw [e4]); rw [o_oba ok4])
    have n6 : newA 102 8 1 (K4, I4, R4, L4, N4, (x + 59 + 37, 0 + 13 + 5394 + 76 + 37775, C, Z)) = some (x + 96, h9) := by rw [e9]; exact n5
    rw [n6, o_ob2]
  · refine ⟨((hcut (fun a => !(fun a => decide (a < x + 59 ∨ a = x + 96)) a) h9).1, h9.2.2.1, h9.2.2.2.2.1, h9.2.2.2.2.2, h9.2.1, h9.2.2.2.1), f, emp, s, t, 0, P00, 0, fun _ => emp, 0, fun _ => 0, fun _ => 0, 0, fun _ => 0, -1, none, ?_, ?_, ?_, by omega, ?_, ?_⟩
    · have z := MS_to (K' := (hcut (fun a => !(fun a => decide (a < x + 59 ∨ a = x + 96)) a) h9).1) (I' := h9.2.1) (R' := h9.2.2.1) (L' := h9.2.2.2.1) (N' := h9.2.2.2.2.1) (w' := h9.2.2.2.2.2) em (fun y q1 q2 => by rw [e9]; exact va_up_ne _ _ (show y ≠ x + 96 by omega)) (fun y q1 q2 => by rw [e9]; exact va_up_ne _ _ (show y ≠ x + 96 by omega))
      exact z
    · rw [part_k pw_2, e9]; exact va_up_self _ _ _
    · rw [e9]; exact va_up_self _ _ _
    · refine RC_x rc (by omega) (fun y hy => ?_) (fun y hy => ?_) (fun y hy => ?_) (fun y hy => ?_)
      · rw [part_k (pw_1 hy), e9]
        exact (va_up_ne _ _ (a96 y hy)).trans ((kK4 y (a60 y hy)).trans (va_up_ne _ _ (a59 y hy)))
      · rw [e9]
        exact (va_up_ne _ _ (a96 y hy)).trans ((kN4 y (a60 y hy)).trans (va_up_ne _ _ (a59 y hy)))
      · rw [e9]
        exact (va_up_ne _ _ (a96 y hy)).trans ((kI4 y (a60 y hy) (a59 y hy)).trans (va_up_ne _ _ (a59 y hy)))
      · rw [e9]
        exact (va_up_ne _ _ (a96 y hy)).trans ((kR4 y (a60 y hy) (a59 y hy)).trans (va_up_ne _ _ (a59 y hy)))
    · obtain ⟨r1, r2⟩ := rf
      refine ⟨Mo_to r1 (fun j hj => ?_) (fun j hj => ?_) (fun j hj => ?_), r2⟩
      · have k1 : K4 = c.1 := congrArg (fun h => h.1) em
        show hK (hcut (fun a => !(fun a => decide (a < x + 59 ∨ a = x + 96)) a) h9) (x + 59 + j) = _
        (rw [part_k (pw_3 hj)]; (try rw [e9]); rw [← k1])
        exact va_up_ne _ _ (b96 j hj)
      · have k1 : N4 = c.2.2.1 := congrArg (fun h => h.2.2.2.2.1) em
        show h9.2.2.2.2.1 (x + 59 + j) = _
        rw [e9, ← k1]
        exact va_up_ne _ _ (b96 j hj)
      · have k1 : R4 = c.2.1 := congrArg (fun h => h.2.2.1) em
        show h9.2.2.1 (x + 59 + j) = _
        rw [e9, ← k1]
        exact va_up_ne _ _ (b96 j hj)
end LWF
