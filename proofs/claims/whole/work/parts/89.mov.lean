section RMV
variable {c : MC} {m : Nat} {f r : Nat → Int} {s t : SI2}
theorem s_right {p k : Int} (hm : Mo c m) (hb : Byt r) (h0 : 0 ≤ k → 0 ≤ p + k ∧ p + k < 256) (k1 : -1000 ≤ k) (k2 : k < 1000) : fX13_rightAt m (jI p) (jI k) (MS c m f r s t) = some (jI (if 0 ≤ k then r (p + k).toNat % 16 else 0)) := by
  unfold fX13_rightAt
  rw [s_gd _ hm]
  by_cases q : 0 ≤ k
  · have h := h0 q
    (rw [if_pos (by first | ((simp (disch := omega) only [jI_lit, jI_neg, jI_add, jI_sub, jI_mul, jI_lt, jI_le, jI_eq, jL_lit, jL_lt, jL_le, jL_eq]) <;> omega) | omega), if_pos q]; (try rw [s_R3 hm]); rw [o_ob]; (try rw [jI_add]); rw [s_a3 hm (by omega) (by omega), o_ob]; (try rw [show (15 : Int32) = jI 15 from rfl]); rw [jI_and15])
  · rw [if_neg (by first | ((simp (disch := omega) only [jI_lit, jI_neg, jI_add, jI_sub, jI_mul, jI_lt, jI_le, jI_eq, jL_lit, jL_lt, jL_le, jL_eq]) <;> omega) | omega), if_neg q]; rfl
theorem e_trn {z : Int} (h1 : 0 ≤ z) (h2 : z < 256) : (16 : Int32) * (jI z &&& (15 : Int32)) + (jI z >>> ((4 : Int32) &&& 31)) = jI (trn z) := by
  ((try rw [show ((4 : Int32) &&& 31) = (jI 4 &&& jI 31) from rfl]); rw [jI_shr4 (by omega) (by omega)]; (try rw [show (15 : Int32) = jI 15 from rfl]); rw [jI_and15]; (try rw [show (16 : Int32) = jI 16 from rfl]); (try rw [jI_mul]); (try rw [jI_add]))
  rfl
theorem s_doPack {A n B l : Nat} (hm : Mo c m) (hb : Byt r) (e34 : f 34 = (A : Int)) (e35 : f 35 = (n : Int)) (e36 : f 36 = (B : Int)) (e37 : f 37 = (l : Int)) (hA : A + n ≤ 256) (n1 : 1 ≤ n) (hB : B + l ≤ 256) (l1 : 1 ≤ l) :
    fX13_doPack m (MS c m f r s t) = some (MS c m f (pkS r A n B l (n - 1)) s t) := by
  have bz := hb (B + l - 1) (by omega)
  unfold fX13_doPack
  (rw [s_gd _ hm]; (try rw [s_R3 hm]); rw [o_ob]; (try rw [s_gI hm]); rw [o_ob]; (try rw [s_gI hm]); rw [o_ob]; (try rw [e36]); (try rw [e37]); (try rw [show (1 : Int32) = jI 1 from rfl]); (try rw [jI_add]); (try rw [jI_sub]); rw [s_a3 hm (by omega) (by omega), o_ob]; (try rw [show ((B : Int) + (l : Int) - 1).toNat = B + l - 1 by omega]); (try rw [s_R3 hm]); rw [o_ob]; (try rw [s_gI hm]); rw [o_ob]; (try rw [s_gI hm]); rw [o_ob]; (try rw [e34]); (try rw [e35]); (try rw [jI_add]); (try rw [jI_sub]); rw [e_trn bz.1 bz.2, s_q3 hm (by omega) (by omega), o_ob]; (try rw [show ((A : Int) + (n : Int) - 1).toNat = A + n - 1 by omega]))
  have key := lp_up (z := fun _ _ _ => none) (S := fX13_doPack_46) (β := Hp) (fun k (i : Nat) => k m (jI ((i : Int) + 2)) (MS c m f (pkS r A n B l i) s t)) (E := some (MS c m f (pkS r A n B l (n - 1)) s t)) (M := n - 1) ?_ ?_ FU 0 (by omega) (FU_lt (by omega))
  · exact key
  · intro i hi k
    have bi := pkS_byt hb (p := A) (n := n) hB l1 i
    unfold fX13_doPack_46
    ((try rw [s_gI hm]); rw [o_ob]; (try rw [e35]); rw [if_neg (by first | ((simp (disch := omega) only [jI_lit, jI_neg, jI_add, jI_sub, jI_mul, jI_lt, jI_le, jI_eq, jL_lit, jL_lt, jL_le, jL_eq]) <;> omega) | omega)]; (try rw [s_gI hm]); rw [o_ob]; (try rw [e37]); (try rw [show (1 : Int32) = jI 1 from rfl]); (try rw [show (2 : Int32) = jI 2 from rfl]); (try rw [jI_sub]); (try rw [jI_mul]); (try rw [jI_sub]); rw [o_lt]; (try rw [s_R3 hm]); rw [o_ob]; (try rw [s_gI hm]); rw [o_ob]; (try rw [s_gI hm]); rw [o_ob]; (try rw [s_gI hm]); rw [o_ob]; (try rw [e34]); (try rw [e35]); (try rw [e36]); (try rw [jI_sub]); rw [s_right hm bi (by omega) (by omega) (by omega), o_ob]; (try rw [s_gI hm]); rw [o_ob]; (try rw [e36]); rw [s_right hm bi (by omega) (by omega) (by omega), o_ob]; (try rw [jI_add]); (try rw [jI_sub]); (try rw [show (16 : Int32) = jI 16 from rfl]); (try rw [jI_mul]); (try rw [jI_add]); rw [s_q3 hm (by omega) (by omega), o_ob, o_lt]; (try rw [jI_add]); (try rw [show (i : Int) + 2 + 1 = ((i + 1 : Nat) : Int) + 2 by omega]))
    have e : va_up (pkS r A n B l i) ((A : Int) + (n : Int) - ((i : Int) + 2)).toNat (16 * (if 0 ≤ (l : Int) - 2 * ((i : Int) + 2 - 1) - 1 then pkS r A n B l i ((B : Int) + ((l : Int) - 2 * ((i : Int) + 2 - 1) - 1)).toNat % 16 else 0) + if 0 ≤ (l : Int) - 2 * ((i : Int) + 2 - 1) then pkS r A n B l i ((B : Int) + ((l : Int) - 2 * ((i : Int) + 2 - 1))).toNat % 16 else 0) = pkS r A n B l (i + 1) := by
      show _ = va_up (pkS r A n B l i) (A + n - 2 - i) (16 * (if 2 * i + 3 ≤ l then pkS r A n B l i (B + l - 3 - 2 * i) % 16 else 0) + (if 2 * i + 2 ≤ l then pkS r A n B l i (B + l - 2 - 2 * i) % 16 else 0))
      have e1 : ((A : Int) + (n : Int) - ((i : Int) + 2)).toNat = A + n - 2 - i := by omega
      have e2 : (0 ≤ (l : Int) - 2 * ((i : Int) + 2 - 1) - 1) = (2 * i + 3 ≤ l) := by apply propext; omega
      have e3 : (0 ≤ (l : Int) - 2 * ((i : Int) + 2 - 1)) = (2 * i + 2 ≤ l) := by apply propext; omega
      simp only [e1, e2, e3]
      by_cases x : 2 * i + 3 ≤ l
      · (rw [if_pos x, if_pos x, if_pos (by omega), if_pos (by omega)]; (try rw [show ((B : Int) + ((l : Int) - 2 * ((i : Int) + 2 - 1) - 1)).toNat = B + l - 3 - 2 * i by omega]); (try rw [show ((B : Int) + ((l : Int) - 2 * ((i : Int) + 2 - 1))).toNat = B + l - 2 - 2 * i by omega]))
      · rw [if_neg x, if_neg x]
        by_cases y : 2 * i + 2 ≤ l
        · (rw [if_pos y, if_pos y]; (try rw [show ((B : Int) + ((l : Int) - 2 * ((i : Int) + 2 - 1))).toNat = B + l - 2 - 2 * i by omega]))
        · rw [if_neg y, if_neg y]
    rw [e]
  · intro k
    unfold fX13_doPack_46
    ((try rw [s_gI hm]); rw [o_ob]; (try rw [e35]); rw [if_pos (by first | ((simp (disch := omega) only [jI_lit, jI_neg, jI_add, jI_sub, jI_mul, jI_lt, jI_le, jI_eq, jL_lit, jL_lt, jL_le, jL_eq]) <;> omega) | omega)])
theorem s_doUnpack {A n B l : Nat} (hm : Mo c m) (hb : Byt r) (e34 : f 34 = (A : Int)) (e35 : f 35 = (n : Int)) (e36 : f 36 = (B : Int)) (e37 : f 37 = (l : Int)) (hA : A + n ≤ 256) (n1 : 1 ≤ n) (hB : B + l ≤ 256) (l1 : 1 ≤ l) :
    fX13_doUnpack m (MS c m f r s t) = some (MS c m f (upS r A n B l (n - 1)).1 s t) := by
  have bz := hb (B + l - 1) (by omega)
  unfold fX13_doUnpack
  (rw [s_gd _ hm]; (try rw [s_R3 hm]); rw [o_ob]; (try rw [s_gI hm]); rw [o_ob]; (try rw [s_gI hm]); rw [o_ob]; (try rw [e36]); (try rw [e37]); (try rw [show (1 : Int32) = jI 1 from rfl]); (try rw [jI_add]); (try rw [jI_sub]); rw [s_a3 hm (by omega) (by omega), o_ob]; (try rw [show ((B : Int) + (l : Int) - 1).toNat = B + l - 1 by omega]); (try rw [s_R3 hm]); rw [o_ob]; (try rw [s_gI hm]); rw [o_ob]; (try rw [s_gI hm]); rw [o_ob]; (try rw [e34]); (try rw [e35]); (try rw [jI_add]); (try rw [jI_sub]); rw [e_trn bz.1 bz.2, s_q3 hm (by omega) (by omega), o_ob]; (try rw [show ((A : Int) + (n : Int) - 1).toNat = A + n - 1 by omega]); (try rw [s_gI hm]); rw [o_ob]; (try rw [e37]); (try rw [jI_sub]); rw [o_lt])
  have key := lp_up (z := fun _ _ _ _ _ => none) (S := fX13_doUnpack_53) (β := Hp) (fun k (i : Nat) => k m (jI (if i = 0 then r (B + l - 1) else (upS r A n B l i).2)) (jI ((l : Int) - 1 - ((i + 1) / 2 : Nat))) (jI ((i : Int) + 2)) (MS c m f (upS r A n B l i).1 s t)) (E := some (MS c m f (upS r A n B l (n - 1)).1 s t)) (M := n - 1) ?_ ?_ FU 0 (by omega) (FU_lt (by omega))
  · have e0 : (l : Int) - 1 - (((0 + 1) / 2 : Nat) : Int) = (l : Int) - 1 := by omega
    rw [e0] at key
    exact key
  · intro i hi k
    obtain ⟨bi, b3, b4⟩ := upS_byt hb (p := A) (n := n) hB l1 i
    obtain ⟨bj, b5, b6⟩ := upS_byt hb (p := A) (n := n) hB l1 (i + 1)
    obtain ⟨V, hV⟩ : ∃ V, V = (upS r A n B l (i + 1)).2 := ⟨_, rfl⟩
    have eV : V = if i % 2 = 0 then (if i / 2 + 2 ≤ l then (upS r A n B l i).1 (B + l - 2 - i / 2) else 0) else (upS r A n B l i).2 := hV
    have eR : (upS r A n B l (i + 1)).1 = va_up (upS r A n B l i).1 (A + n - 2 - i) (240 + (if i % 2 = 0 then V % 16 else V / 16)) := by rw [hV]; rfl
    rw [← hV] at b5 b6
    have e2 := ir2 (z := (i : Int) + 2) (by omega) (by omega)
    have h90 : ∀ z : Int, z = (l : Int) - 1 - ((i + 1 + 1) / 2 : Nat) → fX13_doUnpack_90 k m (jI V) (jI z) (jI ((i : Int) + 2)) (MS c m f (upS r A n B l i).1 s t) = k m (jI V) (jI z) (jI (((i + 1 : Nat) : Int) + 2)) (MS c m f (upS r A n B l (i + 1)).1 s t) := by
      intro z hz
      unfold fX13_doUnpack_90 fX13_doUnpack_124
      ((try rw [s_R3 hm]); rw [o_ob]; (try rw [s_gI hm]); rw [o_ob]; (try rw [s_gI hm]); rw [o_ob]; (try rw [e34]); (try rw [e35]); rw [e2]; (try rw [jI_add]); (try rw [jI_sub]))
      by_cases ev : i % 2 = 0
      · (rw [if_pos (by rw [show ((i : Int) + 2) % 2 = 0 by omega]; rfl)]; (try rw [show (15 : Int32) = jI 15 from rfl]); rw [jI_and15]; (try rw [show (240 : Int32) = jI 240 from rfl]); (try rw [jI_add]); rw [s_q3 hm (by omega) (by omega), o_ob, o_lt]; (try rw [show (1 : Int32) = jI 1 from rfl]); (try rw [jI_add]); (try rw [show (i : Int) + 2 + 1 = ((i + 1 : Nat) : Int) + 2 by omega]); rw [eR, if_pos ev]; (try rw [show ((A : Int) + (n : Int) - ((i : Int) + 2)).toNat = A + n - 2 - i by omega]))
      · (rw [if_neg (by rw [show ((i : Int) + 2) % 2 = 1 by omega]; decide)]; (try rw [show ((4 : Int32) &&& 31) = (jI 4 &&& jI 31) from rfl]); rw [jI_shr4 (by omega) (by omega)]; (try rw [show (240 : Int32) = jI 240 from rfl]); (try rw [jI_add]); rw [s_q3 hm (by omega) (by omega), o_ob, o_lt]; (try rw [show (1 : Int32) = jI 1 from rfl]); (try rw [jI_add]); (try rw [show (i : Int) + 2 + 1 = ((i + 1 : Nat) : Int) + 2 by omega]); rw [eR, if_neg ev]; (try rw [show ((A : Int) + (n : Int) - ((i : Int) + 2)).toNat = A + n - 2 - i by omega]))
    rw [if_neg (show ¬ i + 1 = 0 by omega), ← hV]
    unfold fX13_doUnpack_53 fX13_doUnpack_89
    ((try rw [s_gI hm]); rw [o_ob]; (try rw [e35]); rw [if_neg (by first | ((simp (disch := omega) only [jI_lit, jI_neg, jI_add, jI_sub, jI_mul, jI_lt, jI_le, jI_eq, jL_lit, jL_lt, jL_le, jL_eq]) <;> omega) | omega), e2])
    by_cases ev : i % 2 = 0
    · rw [if_pos ev] at eV
      (rw [if_pos (by rw [show ((i : Int) + 2) % 2 = 0 by omega]; rfl)]; (try rw [show (-1 : Int32) = jI (-1) from rfl]); (try rw [jI_add]); rw [o_lt])
      have hz : (l : Int) - 1 - ((i + 1) / 2 : Nat) + -1 = (l : Int) - 1 - ((i + 1 + 1) / 2 : Nat) := by omega
      by_cases c1 : i / 2 + 2 ≤ l
      · rw [if_pos c1] at eV
        (rw [if_pos (by first | ((simp (disch := omega) only [jI_lit, jI_neg, jI_add, jI_sub, jI_mul, jI_lt, jI_le, jI_eq, jL_lit, jL_lt, jL_le, jL_eq]) <;> omega) | omega)]; (try rw [s_R3 hm]); rw [o_ob]; (try rw [s_gI hm]); rw [o_ob]; (try rw [e36]); (try rw [jI_add]); rw [s_a3 hm (by omega) (by omega), o_ob]; (try rw [show ((B : Int) + ((l : Int) - 1 - ((i + 1) / 2 : Nat) + -1)).toNat = B + l - 2 - i / 2 by omega]); rw [← eV, hz])
        exact h90 _ rfl
      · rw [if_neg c1] at eV
        (rw [if_neg (by first | ((simp (disch := omega) only [jI_lit, jI_neg, jI_add, jI_sub, jI_mul, jI_lt, jI_le, jI_eq, jL_lit, jL_lt, jL_le, jL_eq]) <;> omega) | omega)]; (try rw [show (0 : Int32) = jI V by rw [eV]; rfl]); rw [hz])
        exact h90 _ rfl
    · rw [if_neg ev] at eV
      (rw [if_neg (by rw [show ((i : Int) + 2) % 2 = 1 by omega]; decide), if_neg (show ¬ i = 0 by omega), ← eV]; (try rw [show (l : Int) - 1 - ((i + 1) / 2 : Nat) = (l : Int) - 1 - ((i + 1 + 1) / 2 : Nat) by omega]))
      exact h90 _ rfl
  · intro k
    unfold fX13_doUnpack_53
    ((try rw [s_gI hm]); rw [o_ob]; (try rw [e35]); rw [if_pos (by first | ((simp (disch := omega) only [jI_lit, jI_neg, jI_add, jI_sub, jI_mul, jI_lt, jI_le, jI_eq, jL_lit, jL_lt, jL_le, jL_eq]) <;> omega) | omega)])
theorem s_doOffset {A n B l : Nat} (hm : Mo c m) (hb : Byt r) (e34 : f 34 = (A : Int)) (e35 : f 35 = (n : Int)) (e36 : f 36 = (B : Int)) (e37 : f 37 = (l : Int)) (hA : A + n ≤ 256) (n1 : 1 ≤ n) (hB : B + l ≤ 256) (l1 : 1 ≤ l) :
    fX13_doOffset m (MS c m f r s t) = some (MS c m f (ofS r A n B l n).1 s t) := by
  have bz := hb (B + l - 1) (by omega)
  unfold fX13_doOffset
  (rw [s_gd _ hm]; (try rw [s_R3 hm]); rw [o_ob]; (try rw [s_gI hm]); rw [o_ob]; (try rw [s_gI hm]); rw [o_ob]; (try rw [e34]); (try rw [e35]); (try rw [show (1 : Int32) = jI 1 from rfl]); (try rw [jI_add]); (try rw [jI_sub]); rw [s_a3 hm (by omega) (by omega), o_ob]; (try rw [show ((A : Int) + (n : Int) - 1).toNat = A + n - 1 by omega]); (try rw [show (15 : Int32) = jI 15 from rfl]); rw [jI_and15, o_lt]; (try rw [s_R3 hm]); rw [o_ob]; (try rw [s_gI hm]); rw [o_ob]; (try rw [s_gI hm]); rw [o_ob]; (try rw [e36]); (try rw [e37]); (try rw [jI_add]); (try rw [jI_sub]); rw [s_a3 hm (by omega) (by omega), o_ob]; (try rw [show ((B : Int) + (l : Int) - 1).toNat = B + l - 1 by omega]); (try rw [s_R3 hm]); rw [o_ob]; (try rw [s_gI hm]); rw [o_ob]; (try rw [s_gI hm]); rw [o_ob]; (try rw [e34]); (try rw [e35]); (try rw [jI_add]); (try rw [jI_sub]); rw [jI_and15]; (try rw [show (16 : Int32) = jI 16 from rfl]); (try rw [jI_mul]); (try rw [jI_add]); rw [s_q3 hm (by omega) (by omega), o_ob]; (try rw [show ((A : Int) + (n : Int) - 1).toNat = A + n - 1 by omega]))
  have e1 : ofS r A n B l 1 = (va_up r (A + n - 1) (16 * (r (B + l - 1) % 16) + r (A + n - 1) % 16), r (B + l - 1) / 16) := by
    show (va_up r (A + n - 1 - 0) (16 * ((if 0 + 1 ≤ l then r (B + l - 1 - 0) else 0) % 16) + r (A + n - 1) % 16), (if 0 + 1 ≤ l then r (B + l - 1 - 0) else 0) / 16) = _
    rw [if_pos (by omega)]; rfl
  have key := lp_sr (z := fun _ _ _ _ => none) (S := fX13_doOffset_64) (β := Hp) (ev := fun k (i : Nat) (x : Int) => k m (jI x) (jI ((i : Int) + 1)) (MS c m f (ofS r A n B l i).1 s t)) (hi := n) (Inv := fun i x => 1 ≤ i ∧ x / 16 = (ofS r A n B l i).2 ∧ 0 ≤ x ∧ x < 256) (Post := fun q => q = some (MS c m f (ofS r A n B l n).1 s t)) ?_ ?_ FU 1 (r (B + l - 1)) (by omega) (FU_lt (by omega)) ⟨by omega, by rw [e1], bz⟩
  · rw [e1] at key
    exact key
  · intro i x hi hinv k
    obtain ⟨i1, x1, x2, x3⟩ := hinv
    obtain ⟨bi, b3, b4⟩ := ofS_byt hb hA n1 hB l1 i
    obtain ⟨V, hV⟩ : ∃ V, V = if i + 1 ≤ l then (ofS r A n B l i).1 (B + l - 1 - i) else 0 := ⟨_, rfl⟩
    have eR : ofS r A n B l (i + 1) = (va_up (ofS r A n B l i).1 (A + n - 1 - i) (16 * (V % 16) + (ofS r A n B l i).2), V / 16) := by rw [hV]; rfl
    have hV2 : 0 ≤ V ∧ V < 256 := by
      rw [hV]
      split
      · exact bi _ (by omega)
      · omega
    have h106 : fX13_doOffset_106 k m (jI ((i : Int) + 1)) (jI (x / 16)) (jI V) (MS c m f (ofS r A n B l i).1 s t) = k m (jI V) (jI (((i + 1 : Nat) : Int) + 1)) (MS c m f (ofS r A n B l (i + 1)).1 s t) := by
      unfold fX13_doOffset_106
      ((try rw [s_R3 hm]); rw [o_ob]; (try rw [s_gI hm]); rw [o_ob]; (try rw [s_gI hm]); rw [o_ob]; (try rw [e34]); (try rw [e35]); (try rw [jI_add]); (try rw [jI_sub]); (try rw [show (15 : Int32) = jI 15 from rfl]); rw [jI_and15]; (try rw [show (16 : Int32) = jI 16 from rfl]); (try rw [jI_mul]); (try rw [jI_add]); rw [s_q3 hm (by omega) (by omega), o_ob, o_lt]; (try rw [show (1 : Int32) = jI 1 from rfl]); (try rw [jI_add]); rw [eR]; (try rw [x1]); (try rw [show ((A : Int) + (n : Int) - ((i : Int) + 1)).toNat = A + n - 1 - i by omega]))
      rfl
    refine Or.inr ⟨V, ⟨by omega, by rw [eR], hV2⟩, ?_⟩
    unfold fX13_doOffset_64
    ((try rw [s_gI hm]); rw [o_ob]; (try rw [e35]); rw [if_neg (by first | ((simp (disch := omega) only [jI_lit, jI_neg, jI_add, jI_sub, jI_mul, jI_lt, jI_le, jI_eq, jL_lit, jL_lt, jL_le, jL_eq]) <;> omega) | omega)]; (try rw [show ((4 : Int32) &&& 31) = (jI 4 &&& jI 31) from rfl]); rw [jI_shr4 (by omega) (by omega), o_lt]; (try rw [s_gI hm]); rw [o_ob]; (try rw [e37]); (try rw [jI_sub]))
    by_cases q : i + 1 ≤ l
    · rw [if_pos q] at hV
      (rw [if_pos (by first | ((simp (disch := omega) only [jI_lit, jI_neg, jI_add, jI_sub, jI_mul, jI_lt, jI_le, jI_eq, jL_lit, jL_lt, jL_le, jL_eq]) <;> omega) | omega)]; (try rw [s_R3 hm]); rw [o_ob]; (try rw [s_gI hm]); rw [o_ob]; (try rw [s_gI hm]); rw [o_ob]; (try rw [e36]); (try rw [e37]); (try rw [jI_add]); (try rw [jI_sub]); rw [s_a3 hm (by omega) (by omega), o_ob]; (try rw [show ((B : Int) + (l : Int) - ((i : Int) + 1)).toNat = B + l - 1 - i by omega]); (try rw [← hV]))
      exact h106
    · rw [if_neg q] at hV
      rw [if_neg (by first | ((simp (disch := omega) only [jI_lit, jI_neg, jI_add, jI_sub, jI_mul, jI_lt, jI_le, jI_eq, jL_lit, jL_lt, jL_le, jL_eq]) <;> omega) | omega), show (0 : Int32) = jI V by rw [hV]; rfl]
      exact h106
  · intro x hinv k
    unfold fX13_doOffset_64
    ((try rw [s_gI hm]); rw [o_ob]; (try rw [e35]); rw [if_pos (by first | ((simp (disch := omega) only [jI_lit, jI_neg, jI_add, jI_sub, jI_mul, jI_lt, jI_le, jI_eq, jL_lit, jL_lt, jL_le, jL_eq]) <;> omega) | omega)])
theorem jb_0 {x y : Int} (y1 : 0 ≤ y) (y2 : y < 256) : (jI x &&& (0 : Int32)) ||| (jI y &&& (255 - 0)) = jI y := by
  ((try rw [show ((255 : Int32) - 0) = jI 255 from rfl]); rw [jI_and255, Int.emod_eq_of_lt y1 y2]; (try rw [show jI x &&& (0 : Int32) = 0 from Int32.and_zero]))
  exact Int32.zero_or
theorem jb_240 {x y : Int} (x1 : 0 ≤ x) (x2 : x < 256) (y1 : 0 ≤ y) (y2 : y < 256) : (jI x &&& (240 : Int32)) ||| (jI y &&& (255 - 240)) = jI (x / 16 * 16 + y % 16) := by
  ((try rw [show ((255 : Int32) - 240) = jI 15 from rfl]); (try rw [show (240 : Int32) = jI 240 from rfl]); rw [jI_and15])
  rw [jI_hi x1 x2 (by omega) (by omega)]
theorem jb_15 {x y : Int} (x1 : 0 ≤ x) (x2 : x < 256) (y1 : 0 ≤ y) (y2 : y < 256) : (jI x &&& (15 : Int32)) ||| (jI y &&& (255 - 15)) = jI (y / 16 * 16 + x % 16) := by
  ((try rw [show ((255 : Int32) - 15) = jI 240 from rfl]); (try rw [show (15 : Int32) = jI 15 from rfl]); rw [jI_and15])
  rw [show jI (x % 16) ||| (jI y &&& jI 240) = (jI y &&& jI 240) ||| jI (x % 16) from Int32.or_comm _ _, jI_hi y1 y2 (by omega) (by omega)]
theorem s_doCopy {o : Int} {A n B : Nat} (hm : Mo c m) (hb : Byt r) (o1 : 9 ≤ o) (o2 : o ≤ 11) (e34 : f 34 = (A : Int)) (e35 : f 35 = (n : Int)) (e36 : f 36 = (B : Int)) (hA : A + n ≤ 256) (hB : B + n ≤ 256) :
    fX13_doCopy m (jI o) (MS c m f r s t) = some (MS c m f (cpS (o - 9).toNat r A B n) s t) := by
  unfold fX13_doCopy
  rw [s_gd _ hm]
  have key := lp_up (z := fun _ _ _ _ => none) (S := fX13_doCopy_2) (β := Hp) (fun k (i : Nat) => k m (jI o) (jI (i : Int)) (MS c m f (cpS (o - 9).toNat r A B i) s t)) (E := some (MS c m f (cpS (o - 9).toNat r A B n) s t)) (M := n) ?_ ?_ FU 0 (by omega) (FU_lt (by omega))
  · exact key
  · intro i hi k
    have bi := cpS_byt (o - 9).toNat hb hA hB i (by omega)
    have b1 := bi (A + i) (by omega)
    have b3 := bi (B + i) (by omega)
    have main : ∀ z : Int32, ((jI (cpS (o - 9).toNat r A B i (A + i)) &&& z) ||| (jI (cpS (o - 9).toNat r A B i (B + i)) &&& (255 - z))) = jI (cpB (o - 9).toNat (cpS (o - 9).toNat r A B i (A + i)) (cpS (o - 9).toNat r A B i (B + i))) → fX13_doCopy_34 k m (jI o) (jI (i : Int)) z (MS c m f (cpS (o - 9).toNat r A B i) s t) = k m (jI o) (jI ((i + 1 : Nat) : Int)) (MS c m f (cpS (o - 9).toNat r A B (i + 1)) s t) := by
      intro z hz
      unfold fX13_doCopy_34
      ((try rw [s_R3 hm]); rw [o_ob]; (try rw [s_gI hm]); rw [o_ob]; (try rw [s_R3 hm]); rw [o_ob]; (try rw [s_gI hm]); rw [o_ob]; (try rw [e34]); (try rw [jI_add]); rw [s_a3 hm (by omega) (by omega), o_ob]; (try rw [s_R3 hm]); rw [o_ob]; (try rw [s_gI hm]); rw [o_ob]; (try rw [e36]); (try rw [jI_add]); rw [s_a3 hm (by omega) (by omega), o_ob]; (try rw [show ((A : Int) + (i : Int)).toNat = A + i by omega]); (try rw [show ((B : Int) + (i : Int)).toNat = B + i by omega]); rw [hz, s_q3 hm (by omega) (by omega), o_ob, o_lt]; (try rw [show (1 : Int32) = jI 1 from rfl]); (try rw [jI_add]); (try rw [show ((A : Int) + (i : Int)).toNat = A + i by omega]))
      rfl
    unfold fX13_doCopy_2
    ((try rw [s_gI hm]); rw [o_ob]; (try rw [e35]); rw [if_neg (by first | ((simp (disch := omega) only [jI_lit, jI_neg, jI_add, jI_sub, jI_mul, jI_lt, jI_le, jI_eq, jL_lit, jL_lt, jL_le, jL_eq]) <;> omega) | omega)])
    by_cases x9 : o = 9
    · rw [if_pos (by first | ((simp (disch := omega) only [jI_lit, jI_neg, jI_add, jI_sub, jI_mul, jI_lt, jI_le, jI_eq, jL_lit, jL_lt, jL_le, jL_eq]) <;> omega) | omega)]
      refine main 0 ?_
      rw [jb_0 b3.1 b3.2, show (o - 9).toNat = 0 by omega]
      rfl
    · rw [if_neg (by first | ((simp (disch := omega) only [jI_lit, jI_neg, jI_add, jI_sub, jI_mul, jI_lt, jI_le, jI_eq, jL_lit, jL_lt, jL_le, jL_eq]) <;> omega) | omega)]
      by_cases x10 : o = 10
      · rw [if_pos (by first | ((simp (disch := omega) only [jI_lit, jI_neg, jI_add, jI_sub, jI_mul, jI_lt, jI_le, jI_eq, jL_lit, jL_lt, jL_le, jL_eq]) <;> omega) | omega)]
        refine main 240 ?_
        rw [jb_240 b1.1 b1.2 b3.1 b3.2, show (o - 9).toNat = 1 by omega]
        rfl
      · rw [if_neg (by first | ((simp (disch := omega) only [jI_lit, jI_neg, jI_add, jI_sub, jI_mul, jI_lt, jI_le, jI_eq, jL_lit, jL_lt, jL_le, jL_eq]) <;> omega) | omega)]
        refine main 15 ?_
        rw [jb_15 b1.1 b1.2 b3.1 b3.2, show (o - 9).toNat = 2 by omega]
        rfl
  · intro k
    unfold fX13_doCopy_2
    ((try rw [s_gI hm]); rw [o_ob]; (try rw [e35]); rw [if_pos (by first | ((simp (disch := omega) only [jI_lit, jI_neg, jI_add, jI_sub, jI_mul, jI_lt, jI_le, jI_eq, jL_lit, jL_lt, jL_le, jL_eq]) <;> omega) | omega)])
end RMV
