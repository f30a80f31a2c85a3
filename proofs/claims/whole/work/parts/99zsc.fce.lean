section FSC
variable {K : Nat → Nat} {I : Nat → Nat → Int32} {R : Nat → Nat → Nat} {L : Nat → Nat → Int64} {N : Nat → Nat} {w : Nat × Nat × Nat × Nat} {X U C Z : Nat}
variable {b many k m n pc pu : Nat} {P : PG} {r nt cr t : Nat → Int} {A : Nat → Nat → Int} {fp : Int} {im : Option DS}
/-- an Instruction that was read tells it -/
theorem InsOK_pgm {st : LNS} {Q : Nat → Int} {kk a : Nat} (h : STK st) (hk : kk < st.1) (k5 : K a = 5) (r0 : R a 0 = st.2.1 kk + 5) (hI : ∀ j, 1 ≤ j → j ≤ 9 → I a j = jI (st.2.2.1 kk j)) (h10 : I a 10 = jI (tgt st kk)) : InsOK K I R (pgm st Q) kk a := by
  obtain ⟨o24, fk⟩ := h.2.2 kk hk
  obtain ⟨v0, v1, v2, v3, v4, v5, v6, v7, v8, v9, v10, v11, -⟩ := pgm_v st Q kk
  unfold InsOK lnB lnA
  rw [v0, v1, v2, v3, v4, v5, v6, v11]
  obtain ⟨o, ho⟩ : ∃ o, o = st.2.1 kk := ⟨_, rfl⟩
  obtain ⟨F, hF⟩ : ∃ F, F = st.2.2.1 kk := ⟨_, rfl⟩
  rw [← ho] at o24 fk v7 v8 v9 v10 r0 ⊢
  rw [← hF] at fk v7 v8 v9 v10 hI ⊢
  clear v0 v1 v2 v3 v4 v5 v6 v11 h
  obtain ⟨⟨f1, f2⟩, ⟨f3, f4⟩, ⟨f5, f6, f7, f8⟩, ⟨f9, f10, f11⟩, ⟨f12, f13, f14, f15, f16⟩, ⟨f17, f18, f19, f20, f21, f22, f23⟩, f24, f25⟩ := fk
  refine ⟨k5, by rw [r0]; omega, ?_, ?_, ?_, ?_, ?_, ?_, ?_, ?_, ?_, h10⟩
  · rw [hI 1 (by omega) (by omega)]
    congr 1
    by_cases c : o ≤ 18
    · rw [if_pos (by omega)]
    · rw [if_neg (by omega)]; exact (f2 (by omega)).1
  · rw [hI 2 (by omega) (by omega)]
    congr 1
    by_cases c : o ≤ 18
    · rw [if_pos (by omega)]
    · rw [if_neg (by omega)]; exact (f2 (by omega)).2
  · rw [hI 3 (by omega) (by omega)]
    congr 1
    by_cases c : o = 16 ∨ o = 17
    · rw [if_pos (by omega)]; exact f10 (by omega) (by omega)
    · rw [if_neg (by omega)]
      by_cases d : o ≤ 15
      · rw [if_pos (by omega)]
      · rw [if_neg (by omega)]; exact f11 (by omega)
  · rw [hI 4 (by omega) (by omega)]
    congr 1
    by_cases c : o ≤ 13
    · rw [if_pos (by omega)]
    · rw [if_neg (by omega)]; exact (f4 (by omega)).1
  · rw [hI 5 (by omega) (by omega)]
    congr 1
    by_cases c : o ≤ 13
    · rw [if_pos (by omega)]
    · rw [if_neg (by omega)]; exact (f4 (by omega)).2
  · rw [hI 6 (by omega) (by omega)]
    congr 1
    by_cases c : o ≤ 8
    · rw [if_pos (by omega)]
    · rw [if_neg (by omega)]
      by_cases d : o ≤ 11
      · rw [if_pos (by omega), if_neg (by omega), if_pos (by omega)]; exact f7 (by omega) d
      · rw [if_neg (by omega)]; exact f8 (by omega)
  · rw [hI 7 (by omega) (by omega)]
    congr 1
    by_cases c : 16 ≤ o ∧ o ≤ 20
    · rw [if_pos (by omega), v7 c.1 c.2]
    · rw [if_neg (by omega)]
      by_cases d : o < 16
      · exact f15 d
      · exact f16 (by omega)
  · rw [hI 8 (by omega) (by omega)]
    congr 1
    by_cases c : o = 14
    · rw [if_pos (by omega), v8 (by omega)]
    · rw [if_neg (by omega)]
      by_cases d : o = 19
      · rw [if_pos (by omega), v10 (by omega)]
      · rw [if_neg (by omega)]
        by_cases e : o = 21 ∨ o = 22
        · rw [if_pos (by omega), v8 (by omega)]
        · rw [if_neg (by omega)]
          by_cases g : o < 14
          · exact f20 g
          · by_cases g2 : o < 19
            · exact f21 (by omega) g2
            · by_cases g3 : o = 20
              · exact f22 g3
              · exact f23 (by omega)
  · rw [hI 9 (by omega) (by omega)]
    congr 1
    by_cases c : o = 14
    · rw [if_pos (by omega), v9 c]
    · rw [if_neg (by omega)]; exact f13 c
end FSC
