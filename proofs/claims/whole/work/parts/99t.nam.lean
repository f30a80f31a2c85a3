section RTL
variable {c : MC} {m : Nat} {f r : Nat → Int} {s t : SI2} {n : Nat} {tx : Nat → Int}
theorem wfd_m {T : TK} (h : T.1 = 1) : (fnd (fun i => isWM tx (.inr T) (i + 4)) 0 25 = -1 ∧ fnd (fun i => isWM tx (.inr T) i) 0 4 = -1) ↔ wfd tx T.2.1 T.2.2 = -1 := by
  have e : ∀ i, isWM tx (.inr T) i = wat tx T.2.1 T.2.2 i := fun i => by
    show (T.1 == 1 && wat tx T.2.1 T.2.2 i) = _
    rw [h]; rfl
  constructor
  · intro ⟨h1, h2⟩
    refine fnd_no (fun j _ hj => ?_)
    by_cases q : j < 4
    · have := fnd_none h2 j (by omega) (by omega)
      exact (e j).symm.trans this
    · have := fnd_none h1 (j - 4) (by omega) (by omega)
      have x : j - 4 + 4 = j := by omega
      have this : isWM tx (.inr T) (j - 4 + 4) = false := this
      rw [x, e] at this
      exact this
  · intro h1
    exact ⟨fnd_no (fun j _ hj => (e (j + 4)).trans (fnd_none h1 (j + 4) (by omega) (by omega))), fnd_no (fun j _ hj => (e j).trans (fnd_none h1 j (by omega) (by omega)))⟩
theorem wfd_r {T : TK} : -1 ≤ wfd tx T.2.1 T.2.2 ∧ wfd tx T.2.1 T.2.2 < 29 := by
  have := fnd_m (q := wat tx T.2.1 T.2.2) (lo := 0) (m := 29)
  exact ⟨this.1, by have := this.2; show fnd (wat tx T.2.1 T.2.2) 0 29 < 29; omega⟩
theorem wrd_0 {T : TK} (h : T.1 = 1) : wrd tx T = 0 ↔ wfd tx T.2.1 T.2.2 = -1 := by
  have := wfd_r (tx := tx) (T := T)
  unfold wrd
  rw [if_pos h]
  omega
theorem s_nameH {T : TK} (hm : Mo c m) (ht : TxR s tx n) (h : LvR f tx n T) : (∀ x, mnm tx T = .inl x → ∃ f', fX13_nameHere m (MS c m f r s t) = some (jI 0, MS c m f' r s t) ∧ SmR f' tx n (.inl x) ∧ FrP f f') ∧ (∀ v, mnm tx T = .inr v → fX13_nameHere m (MS c m f r s t) = some (jI 1, (MS c m f r s t)) ∧ nmT tx n T.2.1 (T.2.2 - T.2.1) v) := by
  have hL := h
  obtain ⟨a1, a2, a3, a4, a5, a6, a7, a8⟩ := h
  have tr := TOK_r a7
  have ty := tyR_r tr.2.2.2.1
  have hn := ht.1
  have w1 := s_which1 (r := r) (t := t) (x := .inr T) hm ht hL
  have w2 := s_which2 (r := r) (t := t) (x := .inr T) hm ht hL
  obtain ⟨u1, hu1⟩ : ∃ u, u = fnd (fun i => isWM tx (.inr T) (i + 4)) 0 25 := ⟨_, rfl⟩
  obtain ⟨u2, hu2⟩ : ∃ u, u = fnd (fun i => isWM tx (.inr T) i) 0 4 := ⟨_, rfl⟩
  have r1 := fnd_m (q := fun i => isWM tx (.inr T) (i + 4)) (lo := 0) (m := 25)
  have r2 := fnd_m (q := fun i => isWM tx (.inr T) i) (lo := 0) (m := 4)
  rw [← hu1] at w1 r1
  rw [← hu2] at w2 r2
  -- a fault
  have bad : ∀ (k : Int) (rest : Nat → Hp → Option (Int32 × Hp)), 1 ≤ k → k ≤ 4 → (∀ f', f' 23 = k → rest m (MS c m f' r s t) = some (jI 0, MS c m f' r s t)) → ∃ f', ob (fX13_wrong m (jI k) (MS c m f r s t)) (fun h => rest m h) = some (jI 0, MS c m f' r s t) ∧ SmR f' tx n (.inl (k, (T.2.1 : Nat))) ∧ FrP f f' := by
    intro k rest k1 k2 hr
    obtain ⟨f', e1, e2, e3⟩ := s_wrong0 (r := r) (s := s) (t := t) (k := k) hm hL k1 k2
    refine ⟨f', ?_, e2, e3⟩
    rw [e1, o_ob]
    exact hr f' e2.1
  have r68 : ∀ (k : Int), 1 ≤ k → k ≤ 4 → ∀ f', f' 23 = k → fX13_nameHere_68 m (MS c m f' r s t) = some (jI 0, MS c m f' r s t) := by
    intro k k1 k2 f' hk
    unfold fX13_nameHere_68
    ((try rw [s_gI hm]); rw [o_ob, hk, if_neg (show ¬ jI k = 0 by rw [show (0 : Int32) = jI 0 from rfl, jI_eq (by omega) (by omega) (by omega) (by omega)]; omega)])
    rfl
  have m1 : ∀ z : Int, -1 ≤ z → z < 100 → z ≠ -1 → ¬ jI z = -1 := fun z z1 z2 q => by rw [show (-1 : Int32) = jI (-1) from rfl, jI_eq (by omega) (by omega) (by omega) (by omega)]; exact q
  unfold fX13_nameHere fX13_nameHere_41
  (rw [s_gd _ hm]; (try rw [s_gI hm]); rw [o_ob]; (try rw [a1]); rw [if_pos (by rfl)]; (try rw [s_gI hm]); rw [o_ob]; (try rw [a2]))
  by_cases q : T.1 = 1
  rotate_left
  · have nq : ¬ jI (tyR T.1) = 1 := by
      rw [show (1 : Int32) = jI 1 from rfl, jI_eq (by omega) (by omega) (by omega) (by omega)]
      intro z
      exact q ((tyR_eq (z := 1) tr.2.2.1 tr.2.2.2.1 (by omega) (by omega)).1 z)
    have em : mnm tx T = .inl (1, (T.2.1 : Nat)) := by unfold mnm; rw [if_pos (Or.inl q)]
    rw [if_neg nq, em]
    exact ⟨fun x hx => by
      have hx := Sum.inl.inj hx
      rw [← hx]
      exact bad 1 fX13_nameHere_68 (by omega) (by omega) (r68 1 (by omega) (by omega)), fun v hv => absurd hv (by simp)⟩
  have wm := wfd_m (tx := tx) q
  rw [← hu1, ← hu2] at wm
  have w0 := wrd_0 (tx := tx) q
  (rw [if_pos (by rw [q]; rfl)]; (try rw [s_R0 hm]); rw [o_ob]; (try rw [w1]); rw [o_ob])
  have emW : wrd tx T ≠ 0 → mnm tx T = .inl (1, (T.2.1 : Nat)) := fun z => by unfold mnm; rw [if_pos (Or.inr z)]
  by_cases c1 : u1 = -1
  rotate_left
  · rw [if_neg (m1 u1 (by omega) (by omega) c1), emW (fun z => c1 (wm.2 (w0.1 z)).1)]
    exact ⟨fun x hx => by
      have hx := Sum.inl.inj hx
      rw [← hx]
      exact bad 1 fX13_nameHere_68 (by omega) (by omega) (r68 1 (by omega) (by omega)), fun v hv => absurd hv (by simp)⟩
  (rw [if_pos (by rw [c1]; rfl)]; (try rw [s_R1 hm]); rw [o_ob]; (try rw [w2]); rw [o_ob])
  by_cases c2 : u2 = -1
  rotate_left
  · rw [if_neg (m1 u2 (by omega) (by omega) c2), emW (fun z => c2 (wm.2 (w0.1 z)).2)]
    exact ⟨fun x hx => by
      have hx := Sum.inl.inj hx
      rw [← hx]
      exact bad 1 fX13_nameHere_68 (by omega) (by omega) (r68 1 (by omega) (by omega)), fun v hv => absurd hv (by simp)⟩
  have wz : wrd tx T = 0 := w0.2 (wm.1 ⟨c1, c2⟩)
  obtain ⟨t1, t2⟩ := tr.2.2.2.2.1 q
  (rw [if_pos (by rw [c2]; rfl)]; (try rw [s_gI hm]); rw [o_ob]; (try rw [a4]); (try rw [s_gI hm]); rw [o_ob]; (try rw [a3]); (try rw [jI_sub]))
  by_cases c3 : 8 < T.2.2 - T.2.1
  · have em : mnm tx T = .inl (2, (T.2.1 : Nat)) := by unfold mnm; rw [if_neg (fun z => z.elim (fun z => z q) (fun z => z wz)), if_pos c3]
    rw [if_neg (by rw [show (8 : Int32) = jI 8 from rfl, jI_le (by omega) (by omega) (by omega) (by omega)]; omega), em]
    exact ⟨fun x hx => by
      have hx := Sum.inl.inj hx
      rw [← hx]
      exact bad 2 fX13_nameHere_68 (by omega) (by omega) (r68 2 (by omega) (by omega)), fun v hv => absurd hv (by simp)⟩
  · have em : mnm tx T = .inr (nmv tx T.2.1 (T.2.2 - T.2.1)) := by unfold mnm; rw [if_neg (fun z => z.elim (fun z => z q) (fun z => z wz)), if_neg c3]
    rw [if_pos (by rw [show (8 : Int32) = jI 8 from rfl, jI_le (by omega) (by omega) (by omega) (by omega)]; omega), em]
    refine ⟨fun x hx => absurd hx (by simp), fun v hv => ⟨?_, by omega, by omega, by omega, fun j x y => t2 j x (by omega), (Sum.inr.inj hv).symm⟩⟩
    unfold fX13_nameHere_68
    ((try rw [s_gI hm]); rw [o_ob]; (try rw [a1]); rw [if_pos (by rfl)])
    rfl
end RTL
