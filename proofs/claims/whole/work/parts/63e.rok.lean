section ROK
/-- what an instruction leaves is a row as it may be -/
theorem prf_ok {P : PG} {many k : Nat} {T : Int} {r : Nat → Int} (h : RowOK many T r) (pg : PGk P many k) (hk : k < many) (ck : chk (P 0 k) r (opA P r k) (lnA P k) (opB P r k) (lnB P k) = none) : PK many r (P 0 k = 24) (prf P r k) := by
  have rq := RQ_rf h
  obtain ⟨-, -, -, -, -, h266, -⟩ := h
  have lr := ln_r pg
  have aR := adr_r P r k 0
  have bR := opB_r P r k
  obtain ⟨n1, n2, n3, -, -⟩ := chk_none ck
  obtain ⟨⟨o1, o2⟩, -, -, -, -, -, -, p4, p5, p6, p7, p8, p9⟩ := pg
  have fA : P 0 k ≤ 17 → (opA P r k).toNat + (lnA P k).toNat ≤ 256 ∧ 1 ≤ (lnA P k).toNat ∧ (lnA P k).toNat ≤ 64 := by
    clear n2 n3 p4 p5 p6 p7 p8 p9
    intro q
    have := n1 q
    obtain ⟨l1, l2, l3, -⟩ := lr
    have := l3 q
    clear n1 l3
    omega
  have fB : P 0 k ≤ 11 → (opB P r k).toNat + (lnB P k).toNat ≤ 256 ∧ 1 ≤ (lnB P k).toNat := by
    clear n1 n3 p4 p5 p6 p7 p8 p9 fA
    intro q
    have := n2 q
    obtain ⟨-, -, -, -, l1, l2, l3, -⟩ := lr
    have := l3 q
    clear n2 l3
    omega
  have f3 : P 0 k = 7 ∨ P 0 k = 8 → (lnB P k).toNat < (lnA P k).toNat := by
    clear n1 n2 p4 p5 p6 p7 p8 p9 fA
    intro q
    have := n3 q
    have l5 := lr.2.2.2.2.1
    clear n3 lr fB q
    omega
  have lm : P 0 k = 9 ∨ P 0 k = 10 ∨ P 0 k = 11 → lnB P k = lnA P k := by
    clear n1 n2 n3 p4 p5 p6 p7 p8 p9 fA fB f3 lr
    intro q
    unfold lnB; rw [if_neg (by omega), if_pos (by omega)]
  have p4' : 16 ≤ P 0 k → P 0 k ≤ 20 → (P 4 k).toNat < 8 := by
    clear n1 n2 n3 p5 p6 p7 p8 p9 fA fB f3 lr lm
    intro a b
    have := p4 a b
    clear p4
    omega
  have p7' : P 0 k = 22 → 1 ≤ (P 4 k).toNat ∧ (P 4 k).toNat ≤ 8 := by
    clear n1 n2 n3 p5 p6 p4 p8 p9 fA fB f3 lr lm p4'
    intro a
    have := p7 a
    clear p7
    omega
  clear n1 n2 n3 lr p4 p5 p6 p7 ck
  rw [prf_eq]
  by_cases q0 : P 0 k = 0
  · rw [if_pos q0]
    have hA := fA (by rw [q0]; decide)
    have hB := fB (by rw [q0]; decide)
    exact PK_pk rq hk hA.1 hA.2.1 hB.1 hB.2
  rw [if_neg q0]
  by_cases q1 : P 0 k = 1
  · rw [if_pos q1]
    have hA := fA (by rw [q1]; decide)
    have hB := fB (by rw [q1]; decide)
    exact PK_up rq hk hA.1 hA.2.1 hB.1 hB.2
  rw [if_neg q1]
  by_cases q2 : P 0 k = 2
  · rw [if_pos q2]
    have hA := fA (by rw [q2]; decide)
    have hB := fB (by rw [q2]; decide)
    exact PK_of rq hk hA.1 hA.2.1 hB.1 hB.2
  rw [if_neg q2]
  by_cases q3 : P 0 k = 3
  · rw [if_pos q3]
    have hA := fA (by rw [q3]; decide)
    exact PK_fin rq hk hA.1 hA.2.1 hA.2.2 (by rw [q3]; decide)
  rw [if_neg q3]
  by_cases q4 : P 0 k = 4 ∨ P 0 k = 5
  · rw [if_pos q4]
    have hA := fA (by rcases q4 with q | q <;> rw [q] <;> decide)
    exact PK_fin rq hk hA.1 hA.2.1 hA.2.2 (by rcases q4 with q | q <;> rw [q] <;> decide)
  rw [if_neg q4]
  by_cases q6 : P 0 k = 6
  · rw [if_pos q6]
    exact PK_cc rq hk (ccK_r _ _).1 (ccK_r _ _).2
  rw [if_neg q6]
  by_cases q7 : P 0 k = 7
  · rw [if_pos q7]
    have hA := fA (by rw [q7]; decide)
    exact PK_mul (B := 0) rq hk hA.1 hA.2.1 hA.2.2 (f3 (Or.inl q7)) sgn_r.1 sgn_r.2 (by rw [q7]; decide)
  rw [if_neg q7]
  by_cases q8 : P 0 k = 8
  · rw [if_pos q8]
    have hA := fA (by rw [q8]; decide)
    exact PK_div rq hk hA.1 hA.2.1 hA.2.2 (f3 (Or.inr q8)) sgn_r.1 sgn_r.2 sgn_r.1 sgn_r.2 (by rw [q8]; decide)
  rw [if_neg q8]
  by_cases q9 : P 0 k = 9 ∨ P 0 k = 10 ∨ P 0 k = 11
  · rw [if_pos q9]
    have hA := fA (by rcases q9 with q | q | q <;> rw [q] <;> decide)
    have hB := fB (by rcases q9 with q | q | q <;> rw [q] <;> decide)
    rw [lm q9] at hB
    exact PK_cp rq hk hA.1 hB.1
  rw [if_neg q9]
  by_cases q12 : P 0 k = 12 ∨ P 0 k = 13
  · rw [if_pos q12]
    have hA := fA (by rcases q12 with q | q <;> rw [q] <;> decide)
    exact PK_ed rq hk hA.1 hA.2.1 bR.1 bR.2 (by rcases q12 with q | q <;> rw [q] <;> decide)
  rw [if_neg q12]
  by_cases q14 : P 0 k = 14
  · rw [if_pos q14]
    have hA := fA (by rw [q14]; decide)
    exact PK_fin rq hk hA.1 hA.2.1 hA.2.2 (by rw [q14]; decide)
  rw [if_neg q14]
  by_cases q15 : P 0 k = 15
  · rw [if_pos q15]
    exact PK_cc rq hk tst_r.1 tst_r.2
  rw [if_neg q15]
  by_cases q16 : P 0 k = 16
  · rw [if_pos q16]
    have hA := fA (by rw [q16]; decide)
    exact PK_bi rq hk (by have := hA.1; clear fA fB f3 lm p4' p7' p8 p9; omega) hA.2.2 (p4' (by rw [q16]; decide) (by rw [q16]; decide)) (by rw [q16]; decide)
  rw [if_neg q16]
  by_cases q17 : P 0 k = 17
  · rw [if_pos q17]
    have hA := fA (by rw [q17]; decide)
    exact PK_st rq hk hA.1 sgn_r.1 sgn_r.2
  rw [if_neg q17]
  by_cases q18 : P 0 k = 18
  · rw [if_pos q18]
    exact PK_rg rq hk (p4' (by rw [q18]; decide) (by rw [q18]; decide)) aR.1 aR.2
  rw [if_neg q18]
  by_cases q19 : P 0 k = 19
  · rw [if_pos q19]
    have bb := bm_r (r (256 + (P 4 k).toNat) + P 5 k)
    exact PK_rg rq hk (p4' (by rw [q19]; decide) (by rw [q19]; decide)) bb.1 bb.2
  rw [if_neg q19]
  by_cases q20 : P 0 k = 20
  · rw [if_pos q20]
    have bb := bm_r (r (256 + (P 4 k).toNat) - 1)
    have ht := p8 (Or.inl q20)
    exact PK_ct rq hk (p4' (by rw [q20]; decide) (by rw [q20]; decide)) bb.1 bb.2 ht.1 ht.2
  rw [if_neg q20]
  by_cases q21 : P 0 k = 21
  · rw [if_pos q21]
    have ht := p8 (Or.inr q21)
    exact PK_on rq hk ht.1 ht.2
  rw [if_neg q21]
  by_cases q22 : P 0 k = 22
  · rw [if_pos q22]
    have ht := p9 q22
    have hq := p7' q22
    exact PK_nx (RQ_gd rq hq.1 hq.2 ht.1 ht.2) hk
  rw [if_neg q22]
  by_cases q23 : P 0 k = 23
  · rw [if_pos q23]
    exact PK_bk rq hk h266.1 h266.2
  rw [if_neg q23]
  exact PK_nx rq hk
end ROK
