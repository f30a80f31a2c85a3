section FCT
variable {K : Nat → Nat} {I : Nat → Nat → Int32} {R : Nat → Nat → Nat} {L : Nat → Nat → Int64} {N : Nat → Nat} {w : Nat × Nat × Nat × Nat} {X U C Z : Nat}
variable {b many k m n pc pu : Nat} {P : PG} {r nt cr t : Nat → Int} {A : Nat → Nat → Int} {fp : Int} {im : Option DS}
theorem Ln_b {l : Nat} {bad bad' : Nat → Prop} (h : Ln K R X bad l) (hb : ∀ y, y < X → bad' y → bad y) : Ln K R X bad' l :=
  ⟨fun s hs c => ⟨(h.1 s hs c).1, fun q => (h.1 s hs c).2.1 (hb _ (h.1 s hs c).2.2 q), (h.1 s hs c).2.2⟩, h.2⟩
theorem Dk_b {bad bad' : Nat → Prop} {d ar o : Nat} (h : Dk K I R N X bad d ar o k A) (hb : ∀ y, y < X → bad' y → bad y) : Dk K I R N X bad' d ar o k A := by
  obtain ⟨h1, h2, h3, h4⟩ := h
  refine ⟨h1, fun s hs c => ?_, h3, h4⟩
  obtain ⟨a1, a2, a3, a4, a5⟩ := h2 s hs c
  exact ⟨a1, a2, fun q => a3 (hb _ (by omega) q), fun q => a4 (hb _ a5 q), a5⟩
/-- a desk in a heap that has grown -/
theorem Dk_g {bad : Nat → Prop} {d ar o X' : Nat} {K' : Nat → Nat} {I' : Nat → Nat → Int32} {R' : Nat → Nat → Nat} {N' : Nat → Nat} (h : Dk K I R N X bad d ar o k A) (hX : X ≤ X') (hd : d < X) (ha : ar < X) (hK : ∀ y, y < X → K' y = K y) (hN : ∀ y, y < X → N' y = N y) (hI : ∀ y, y < X → I' y = I y) (hR : ∀ y, y < X → K y ≠ 10 → R' y = R y) : Dk K' I' R' N' X' bad d ar o k A := by
  obtain ⟨⟨k2, r1, k103, n40, i2, i3, ho, hk'⟩, hrow, hinj, hact⟩ := h
  have ea : R' ar = R ar := hR ar ha (by omega)
  refine ⟨⟨by rw [hK d hd]; exact k2, by rw [hR d hd (by omega)]; exact r1, by rw [hK ar ha]; exact k103, by rw [hN ar ha]; exact n40, by rw [hI d hd]; exact i2, by rw [hI d hd]; exact i3, ho, hk'⟩, fun s hs c => ?_, fun s s' q1 q2 q3 q4 => ?_, fun i hi => ?_⟩
  · rw [ea] at c ⊢
    obtain ⟨⟨w1, w2, w3, w4⟩, a2, a3, a4, a5⟩ := hrow s hs c
    exact ⟨⟨by rw [hK _ (by omega)]; exact w1, by rw [hR _ (by omega) (by omega)]; exact w2, by rw [hK _ (by omega)]; exact w3, by rw [hN _ (by omega)]; exact w4⟩, fun j hj => by rw [hI _ a5]; exact a2 j hj, a3, a4, by omega⟩
  · rw [ea] at q4 ⊢; exact hinj s s' q1 q2 q3 q4
  · rw [ea]
    obtain ⟨c1, g, c2⟩ := hact i hi
    exact ⟨c1, g, by rw [hI _ (hrow _ (by omega) c1).2.2.2.2]; exact c2⟩
end FCT
