section FCK
variable {K : Nat → Nat} {I : Nat → Nat → Int32} {R : Nat → Nat → Nat} {L : Nat → Nat → Int64} {N : Nat → Nat} {w : Nat × Nat × Nat × Nat} {X U C Z : Nat}
variable {b many k m n pc pu : Nat} {P : PG} {r nt cr t : Nat → Int} {A : Nat → Nat → Int} {fp : Int} {im : Option DS}
/-- the tape is written, the image may be dropped -/
theorem RC_tp {I' : Nat → Nat → Int32} {n' : Nat} {t' : Nat → Int} {fp' : Int} {im' : Option DS} (h : RC K I R N X b many P r k A m nt cr n t fp im pc pu) (hI : ∀ y, y ≠ b → y ≠ b + 1 → I' y = I y) (ht : Tp I' b n' t' fp' im') (hm : im' = im ∨ im' = none) : RC K I' R N X b many P r k A m nt cr n' t' fp' im' pc pu := by
  obtain ⟨l, sl, i, sh, pm, dsk, ok, tp, hi, z1, z2, po⟩ := h
  obtain ⟨gd, ld, ls, ln1, ln2, dis, hz⟩ := pm
  have s11 : (0 < b ∧ b + 59 ≤ X ∧ (i = 0 ∨ (b + 59 ≤ i ∧ i + 6 ≤ X)) ∧ ((l = b + 29 ∧ sl = b + 2) ∨ (l = b + 2 ∧ sl = b + 29))) := sh.2.2.2.2.2.2.2.2.2.2.2.1
  have q0 : K b = 10 := sh.1
  have q1 : K (b + 1) = 101 := sh.2.2.2.2.2.2.2.2.2.2.2.2.2.2.2.2.2.2.1
  have k56 : ∀ y, K y = 5 ∨ K y = 6 → I' y = I y := fun y hk => hI y (fun e => by subst e; omega) (fun e => by subst e; omega)
  have hbd : ∀ y, K y = 101 → ¬ bd b i y → I' y = I y := fun y _ q => hI y (fun c => q (by unfold bd; omega)) (fun c => q (by unfold bd; omega))
  refine ⟨l, sl, i, sh, ⟨Gd_fr5 gd (fun y _ hk => k56 y hk) (RFr_rf _ _), ?_, ls, ln1, ln2, dis, ?_⟩, Dsk_c dsk (fun y a c => hI y (by omega) (by omega)) hbd (fun _ _ => rfl), ok, ht, ?_, ?_, ?_, po⟩
  · unfold Ld at ld ⊢; rw [hI (l + 2) (by omega) (by omega)]; exact ld
  · rw [hI (l + 2) (by omega) (by omega), hI (sl + 2) (by omega) (by omega)]; exact hz
  · rcases hi with q | ⟨i0, r2, k2, A2, m2, nt2, cr2, hd2, hdis, hq⟩
    · exact Or.inl ⟨q.1, by rcases hm with e | e; rw [e]; exact q.2; exact e⟩
    · refine Or.inr ⟨i0, r2, k2, A2, m2, nt2, cr2, Dsk_c hd2 (fun y a c => hI y (by omega) (by omega)) hbd (fun _ _ => rfl), hdis, fun q hq2 => ?_⟩
      rcases hm with e | e
      · rw [e] at hq2; exact hq q hq2
      · rw [e] at hq2; exact absurd hq2 (by simp)
  · unfold Zr at z1 ⊢; rw [hI (b + 35 + 1) (by omega) (by omega)]; exact z1
  · unfold Zr at z2 ⊢; rw [hI (b + 37 + 1) (by omega) (by omega)]; exact z2
/-- the i-th of an int's four bytes -/
def apJ (z : Int) (i : Nat) : Int := z % 4294967296 / (if i = 0 then 16777216 else if i = 1 then 65536 else if i = 2 then 256 else 1) % 256
def tpF (F : Nat → Int32) (n : Nat) (z : Int) (i : Nat) : Nat → Int32 := fun j => if n ≤ j ∧ j < n + i then jI (apJ z (j - n)) else F j
def tpT (t : Nat → Int) (n : Nat) (z : Int) : Nat → Int := fun j => if n ≤ j ∧ j < n + 4 then apJ z (j - n) else t j
theorem apJ_r (z : Int) (i : Nat) : 0 ≤ apJ z i ∧ apJ z i < 256 := by unfold apJ; omega
theorem and255 {z : Int} : jI z &&& (255 : Int32) = jI (z % 256) := by
  apply Int32.toBitVec_inj.1
  apply BitVec.eq_of_toNat_eq
  have e1 : (jI z &&& (255 : Int32)).toBitVec.toNat = (BitVec.ofInt 32 z).toNat &&& 255 := rfl
  have e2 : (jI (z % 256)).toBitVec.toNat = (BitVec.ofInt 32 (z % 256)).toNat := rfl
  rw [e1, e2, show (255 : Nat) = 2 ^ 8 - 1 from rfl, Nat.and_two_pow_sub_one_eq_mod, BitVec.toNat_ofInt, BitVec.toNat_ofInt]
  omega
theorem ap_b {z : Int} {i : Nat} (hi : i < 4) : ius (jI z) (jI (24 - 8 * (i : Int))) &&& (255 : Int32) = jI (apJ z i) := by
  unfold apJ
  rcases (by omega : i = 0 ∨ i = 1 ∨ i = 2 ∨ i = 3) with e | e | e | e <;> subst e
  · rw [show (24 - 8 * ((0 : Nat) : Int)) = 24 from rfl, ius_24, and255]; rfl
  · rw [show (24 - 8 * ((1 : Nat) : Int)) = 16 from rfl, ius_16, and255]; rfl
  · rw [show (24 - 8 * ((2 : Nat) : Int)) = 8 from rfl, ius_8, and255]; rfl
  · rw [show (24 - 8 * ((3 : Nat) : Int)) = 0 from rfl, ius_0, and255]
    rw [show (if (3 : Nat) = 0 then (16777216 : Int) else if (3 : Nat) = 1 then 65536 else if (3 : Nat) = 2 then 256 else 1) = 1 from rfl, Int.ediv_one]
    congr 1; omega
theorem y_app {z : Int} (h : RC K I R N X b many P r k A m nt cr n t fp im pc pu) (hn : n + 4 ≤ 700) : ∃ I', fX12_append b (jI z) (K, I, R, L, N, w) = some (K, I', R, L, N, w) ∧ RC K I' R N X b many P r k A m nt cr (n + 4) (tpT t n z) fp im pc pu := by
  obtain ⟨l, sl, i, sh, pm, -, -, tp, -⟩ := id h
  have kb : K b = 10 := sh.1
  have k1 : K (b + 1) = 101 := sh.2.2.2.2.2.2.2.2.2.2.2.2.2.2.2.2.2.2.1
  have n1 : N (b + 1) = 700 := sh.2.2.2.2.2.2.2.2.2.2.2.2.2.2.2.2.2.2.2
  have r0 : R b 0 = b + 1 := sh.2.1
  obtain ⟨i1, -, i2, ht, i12⟩ := tp
  obtain ⟨J, hJ⟩ : ∃ J : Nat → Nat → Nat → Int32, J = fun i => va_up (va_up I (b + 1) (tpF (I (b + 1)) n z i)) b (va_up (I b) 1 (jI ((n + i : Nat) : Int))) := ⟨_, rfl⟩
  have Jb : ∀ i, J i b = va_up (I b) 1 (jI ((n + i : Nat) : Int)) := fun i => by rw [hJ]; exact va_up_self _ _ _
  have J1 : ∀ i, J i (b + 1) = tpF (I (b + 1)) n z i := fun i => by rw [hJ]; show va_up (va_up I (b + 1) _) b _ (b + 1) = _; rw [va_up_ne _ _ (by omega), va_up_self]
  have Jn : ∀ i y, y ≠ b → y ≠ b + 1 → J i y = I y := fun i y a c => by rw [hJ]; show va_up (va_up I (b + 1) _) b _ y = _; rw [va_up_ne _ _ a, va_up_ne _ _ c]
  have J0 : J 0 = I := by
    funext y
    by_cases a : y = b
    · rw [a, Jb]; funext j
      by_cases c : j = 1
      · rw [c, va_up_self, i1]; rfl
      · rw [va_up_ne _ _ c]
    · by_cases c : y = b + 1
      · rw [c, J1]; funext j; unfold tpF; rw [if_neg (by omega)]
      · exact Jn 0 y a c
  have Js : ∀ i, va_up (va_up (J i) (b + 1) (va_up (J i (b + 1)) (n + i) (jI (apJ z i)))) b (va_up (J i b) 1 (jI ((n + (i + 1) : Nat) : Int))) = J (i + 1) := fun i => by
    funext y
    by_cases a : y = b
    · rw [a, va_up_self, Jb, Jb]; funext j
      by_cases c : j = 1
      · rw [c, va_up_self, va_up_self]
      · rw [va_up_ne _ _ c, va_up_ne _ _ c, va_up_ne _ _ c]
    · rw [va_up_ne _ _ a]
      by_cases c : y = b + 1
      · rw [c, va_up_self, J1, J1]; funext j
        by_cases d : j = n + i
        · rw [d, va_up_self]; unfold tpF; rw [if_pos (by omega), show n + i - n = i by omega]
        · rw [va_up_ne _ _ d]; unfold tpF
          by_cases f : n ≤ j ∧ j < n + i
          · rw [if_pos f, if_pos (by omega)]
          · rw [if_neg f, if_neg (by omega)]
      · rw [va_up_ne _ _ c, Jn i y a c, Jn (i + 1) y a c]
  refine ⟨J 4, ?_, RC_tp h (fun y a c => Jn 4 y a c) ⟨by rw [Jb, va_up_self], hn, by rw [Jb, va_up_ne _ _ (by omega)]; exact i2, fun j hj => ?_, by rw [Jb, va_up_ne _ _ (by omega)]; exact i12⟩ (Or.inl rfl)⟩
  · have key := lp_up (z := fun _ _ _ _ => none) (S := fX12_append_3) (β := Hp) (fun kk i => kk b (jI z) (jI (24 - 8 * (i : Int))) (K, J i, R, L, N, w)) (E := some (K, J 4, R, L, N, w)) (M := 4) ?_ ?_ FU 0 (by omega) (FU_lt (by omega))
    · unfold fX12_append
      rw [o_gd _ kb]
      rw [J0] at key
      exact key
    · intro i hi kk
      show fX12_append_3 kk _ _ _ _ = _
      have x1 : ¬ (jI (24 - 8 * (i : Int)) < 0) := by
        rw [show (0 : Int32) = jI 0 from rfl, jI_lt (by omega) (by omega) (by omega) (by omega)]; omega
      have e1 : J i b 1 = jI ((n + i : Nat) : Int) := by rw [Jb, va_up_self]
      have x2 : ¬ ((700 : Int32) ≤ jI ((n + i : Nat) : Int)) := by
        rw [show (700 : Int32) = jI 700 from rfl, jI_le (by omega) (by omega) (by omega) (by omega)]; omega
      have e2 : jI (24 - 8 * (i : Int)) + (-8) = jI (24 - 8 * ((i + 1 : Nat) : Int)) := by
        rw [show (-8 : Int32) = jI (-8) from rfl, jI_add]; congr 1; omega
      have e3 : jI ((n + i : Nat) : Int) + 1 = jI ((n + (i + 1) : Nat) : Int) := by rw [show (1 : Int32) = jI 1 from rfl, jI_add]; congr 1
      have e4 : va_up (J i) (b + 1) (va_up (J i (b + 1)) (n + i) (jI (apJ z i))) b 1 = jI ((n + i : Nat) : Int) := by rw [va_up_ne _ _ (by omega)]; exact e1
      have e5 : va_up (J i) (b + 1) (va_up (J i (b + 1)) (n + i) (jI (apJ z i))) b = J i b := va_up_ne _ _ (by omega)
      have e6 := Js i
      unfold fX12_append_3
      rw [if_neg x1, o_gI kb, o_ob, e1, if_neg x2, o_gR kb, o_ob, r0, o_ob, o_qI k1 (by omega) (by omega) (by omega), o_ob, ap_b hi, show (((n + i : Nat) : Int)).toNat = n + i by omega, o_gI kb, o_ob, e4, e3, o_pI kb, o_ob, o_lt, e2, e5, e6]
    · intro kk
      show fX12_append_3 kk _ _ _ _ = _
      unfold fX12_append_3
      rw [if_pos (show jI (24 - 8 * ((4 : Nat) : Int)) < 0 by decide)]
  · rw [J1]
    unfold tpF tpT
    by_cases c : n ≤ j ∧ j < n + 4
    · rw [if_pos c, if_pos c]; exact ⟨rfl, apJ_r _ _⟩
    · rw [if_neg c, if_neg c]; exact ht j hj
theorem y_Feed1 {z1 z2 z3 z4 z5 : Int} (h : RC K I R N X b many P r k A m nt cr n t fp im pc pu) (hn : n ≤ 680) : ∃ I', fX12_feed b (jI z1) (jI z2) (jI z3) (jI z4) (jI z5) (K, I, R, L, N, w) = some (jI ((n + 20 : Nat) : Int), (K, I', R, L, N, w)) ∧ RC K I' R N X b many P r k A m nt cr (n + 20) (tpT (tpT (tpT (tpT (tpT t n z1) (n + 4) z2) (n + 8) z3) (n + 12) z4) (n + 16) z5) fp im pc pu := by
  obtain ⟨l, sl, i, sh, pm, -, -, tp, -⟩ := id h
  have kb : K b = 10 := sh.1
  have i1 := tp.1
  obtain ⟨J1, a1, h1⟩ := y_app (L := L) (w := w) (z := z1) h (by omega)
  obtain ⟨J2, a2, h2⟩ := y_app (L := L) (w := w) (z := z2) h1 (by omega)
  obtain ⟨J3, a3, h3⟩ := y_app (L := L) (w := w) (z := z3) h2 (by omega)
  obtain ⟨J4, a4, h4⟩ := y_app (L := L) (w := w) (z := z4) h3 (by omega)
  obtain ⟨J5, a5, h5⟩ := y_app (L := L) (w := w) (z := z5) h4 (by omega)
  have i5 : J5 b 1 = jI ((n + 20 : Nat) : Int) := by
    obtain ⟨l', sl', i', -, -, -, -, tp', -⟩ := id h5
    exact tp'.1
  have x1 : jI (n : Int) ≤ (680 : Int32) := by
    rw [show (680 : Int32) = jI 680 from rfl, jI_le (by omega) (by omega) (by omega) (by omega)]; omega
  refine ⟨J5, ?_, h5⟩
  unfold fX12_feed
  rw [o_gd _ kb, o_gI kb, o_ob, i1, if_pos x1, a1, o_ob, a2, o_ob, a3, o_ob, a4, o_ob, a5, o_ob, o_gI kb, o_ob, i5]
theorem y_Feed0 {z1 z2 z3 z4 z5 : Int} (h : RC K I R N X b many P r k A m nt cr n t fp im pc pu) (hn : ¬ n ≤ 680) : fX12_feed b (jI z1) (jI z2) (jI z3) (jI z4) (jI z5) (K, I, R, L, N, w) = some (jI (-1), (K, I, R, L, N, w)) := by
  obtain ⟨l, sl, i, sh, pm, -, -, tp, -⟩ := id h
  have kb : K b = 10 := sh.1
  have i1 := tp.1
  have n7 := tp.2.1
  have x1 : ¬ (jI (n : Int) ≤ (680 : Int32)) := by
    rw [show (680 : Int32) = jI 680 from rfl, jI_le (by omega) (by omega) (by omega) (by omega)]; omega
  unfold fX12_feed
  rw [o_gd _ kb, o_gI kb, o_ob, i1, if_neg x1]
  rfl
end FCK
