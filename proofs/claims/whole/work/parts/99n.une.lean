section RAP
variable {c : MC} {m : Nat} {f r : Nat → Int} {s t : SI2} {many k mm n : Nat} {P : PG} {A : Nat → Nat → Int} {nt cr tp : Nat → Int} {fp : Int} {im : Option DS}
/-- as far as the sources have been found -/
def FS (C V : Nat → Int) (n k : Nat) (f0 : Nat → Int) (s0 : SI2) (x : Bool × (Nat → Int) × SI2) : Prop :=
  (∀ j, j ≠ 56 → j ≠ 57 → x.2.1 j = f0 j) ∧ (∀ j, j ≠ 24 → x.2.2 j = s0 j) ∧ x.2.1 56 = (((fsO C V n k).2.2 : Nat) : Int) ∧ (∀ j, j < k → isD (C j) = true → x.2.2 24 (fsO C V n j).2.2 = ((fdg C V n j (fsO C V n j).1 (fsO C V n j).2.1 : Nat) : Int)) ∧ ((k : Int) ≤ lstD C n → SA C V n k x.1) ∧ (lstD C n < (k : Int) → x.2.1 57 = if (fsO C V n k).1.isSome = true then 0 else 1)
theorem s_dig {C V : Nat → Int} {p q n k : Nat} {x : Bool × (Nat → Int) × SI2} {f0 : Nat → Int} {s0 : SI2} (k16 : Nat → Int32 → Int32 → Int32 → Int32 → Int32 → Hp → Option Hp) (hm : Mo c m) (hr : Byt r) (hC : C = fun j => r (p + j)) (hV : V = fun j => r (q + j)) (hp : p + n ≤ 256) (hq : q + n ≤ 256) (hn : n ≤ 32) (hk : k < n) (h54 : f0 54 = r p) (h53 : f0 53 = lstD C n) (hw : WT C V n 0 t) (hD : isD (C k) = true) (hx : FS C V n k f0 s0 x) :
    ∃ y, FS C V n (k + 1) f0 s0 y ∧ lp (fun _ _ _ _ _ _ _ _ _ => none) (fX13_findSource_72 k16) FU m (jI (p : Int)) (jI (n : Int)) (jI (q : Int)) (jI (b2 x.1)) (jI (k : Int)) (jI (C k)) 0 (MS c m x.2.1 r x.2.2 t) = k16 m (jI (p : Int)) (jI (n : Int)) (jI (q : Int)) (jI (b2 y.1)) (jI ((k + 1 : Nat) : Int)) (MS c m y.2.1 r y.2.2 t) := by
  obtain ⟨is, F, S⟩ := x
  obtain ⟨x1, x2, x3, x4, x5, -⟩ := hx
  have x1 : ∀ j, j ≠ 56 → j ≠ 57 → F j = f0 j := x1
  have x2 : ∀ j, j ≠ 24 → S j = s0 j := x2
  have x3 : F 56 = (((fsO C V n k).2.2 : Nat) : Int) := x3
  have x4 : ∀ j, j < k → isD (C j) = true → S 24 (fsO C V n j).2.2 = ((fdg C V n j (fsO C V n j).1 (fsO C V n j).2.1 : Nat) : Int) := x4
  have lge : (k : Int) ≤ lstD C n := lstD_ge hD hk
  have sa : SA C V n k is := x5 lge
  have lr := lstD_r C n
  have bC : 0 ≤ C k ∧ C k < 256 := by rw [hC]; exact hr (p + k) (by omega)
  have bV : 0 ≤ V k ∧ V k < 256 := by rw [hV]; exact hr (q + k) (by omega)
  have eV : r (q + k) = V k := by rw [hV]
  have eC0 : r p = C 0 := by rw [hC]; rfl
  have b0 : 0 ≤ C 0 ∧ C 0 < 256 := by rw [hC]; exact hr (p + 0) (by omega)
  have hD2 := isD_iff.1 hD
  have tk := fs_t C V n k
  have F54 : F 54 = C 0 := (x1 54 (by omega) (by omega)).trans (h54.trans eC0)
  have F53 : F 53 = lstD C n := (x1 53 (by omega) (by omega)).trans h53
  have ek : jI (k : Int) + 1 = jI ((k + 1 : Nat) : Int) := by rw [show (1 : Int32) = jI 1 from rfl, jI_add]; rfl
  have eqk : jI (q : Int) + jI (k : Int) = jI ((q + k : Nat) : Int) := by rw [jI_add]; rfl
  have wl : ∀ is' be', wy C V n (n - 1 - k) is' be' ≤ 2 ^ 32 := fun is' be' => Nat.le_trans (wy_le C V n (n - 1 - k) is' be') (Nat.pow_le_pow_right (by omega) (by omega))
  have key := lp_sr (z := fun _ _ _ _ _ _ _ _ _ => none) (S := fX13_findSource_72 k16) (β := Hp) (ev := fun kk (d : Nat) (_ : Unit) => kk m (jI (p : Int)) (jI (n : Int)) (jI (q : Int)) (jI (b2 is)) (jI (k : Int)) (jI (C k)) (jI (d : Int)) (MS c m F r S t)) (hi := 10) (Inv := fun d _ => ∀ e, e < d → ta C V n k is false e = 0 ∧ ta C V n k is true e = 0) (Post := fun o => ∃ y, FS C V n (k + 1) f0 s0 y ∧ o = k16 m (jI (p : Int)) (jI (n : Int)) (jI (q : Int)) (jI (b2 y.1)) (jI ((k + 1 : Nat) : Int)) (MS c m y.2.1 r y.2.2 t)) ?_ ?_ FU 0 () (by omega) (FU_lt (by omega)) (fun e he => by omega)
  · exact key
  · intro d _ hd h0 kk
    have ed : jI (d : Int) + 1 = jI ((d + 1 : Nat) : Int) := by rw [show (1 : Int32) = jI 1 from rfl, jI_add]; rfl
    have nx : ∀ res, ta C V n k is false d = 0 → ta C V n k is true d = 0 → res = kk m (jI (p : Int)) (jI (n : Int)) (jI (q : Int)) (jI (b2 is)) (jI (k : Int)) (jI (C k)) (jI ((d + 1 : Nat) : Int)) (MS c m F r S t) → (∃ y, FS C V n (k + 1) f0 s0 y ∧ res = k16 m (jI (p : Int)) (jI (n : Int)) (jI (q : Int)) (jI (b2 y.1)) (jI ((k + 1 : Nat) : Int)) (MS c m y.2.1 r y.2.2 t)) ∨ ∃ _ : Unit, (∀ e, e < d + 1 → ta C V n k is false e = 0 ∧ ta C V n k is true e = 0) ∧ res = kk m (jI (p : Int)) (jI (n : Int)) (jI (q : Int)) (jI (b2 is)) (jI (k : Int)) (jI (C k)) (jI ((d + 1 : Nat) : Int)) (MS c m F r S t) := fun res t1 t2 er => Or.inr ⟨(), fun e he => by
      by_cases c1 : e = d
      · rw [c1]; exact ⟨t1, t2⟩
      · exact h0 e (by omega), er⟩
    show (∃ y, _ ∧ fX13_findSource_72 k16 kk m (jI (p : Int)) (jI (n : Int)) (jI (q : Int)) (jI (b2 is)) (jI (k : Int)) (jI (C k)) (jI (d : Int)) (MS c m F r S t) = _) ∨ ∃ _ : Unit, _ ∧ fX13_findSource_72 k16 kk m (jI (p : Int)) (jI (n : Int)) (jI (q : Int)) (jI (b2 is)) (jI (k : Int)) (jI (C k)) (jI (d : Int)) (MS c m F r S t) = kk m (jI (p : Int)) (jI (n : Int)) (jI (q : Int)) (jI (b2 is)) (jI (k : Int)) (jI (C k)) (jI ((d + 1 : Nat) : Int)) (MS c m F r S t)
    unfold fX13_findSource_72
    (rw [if_neg (by first | ((simp (disch := omega) only [jI_lit, jI_neg, jI_add, jI_sub, jI_mul, jI_lt, jI_le, jI_eq, jL_lit, jL_lt, jL_le, jL_eq]) <;> omega) | omega)]; (try rw [s_R3 hm]); rw [o_ob, eqk, s_a3 hm (by omega) (by omega), o_ob]; (try rw [show (((q + k : Nat) : Int)).toNat = q + k by omega]); rw [eV, s_gives (mk := C k) (fill := C 0) (d := (d : Int)) hm F54 hD2 (by omega) (by omega) b0.1 b0.2 bV.1 bV.2, o_ob])
    by_cases g : V k = ldv (C k) (C 0) is (d : Int)
    rotate_left
    · have tz : ∀ be, ta C V n k is be d = 0 := fun be => by unfold ta; rw [if_neg g]
      rw [if_pos (by rw [decide_eq_false g]; rfl), o_lt, ed]
      exact nx _ (tz false) (tz true) rfl
    have tw : ∀ be, ta C V n k is be d = wy C V n (n - 1 - k) (sbv (C k) is (d : Int) (decide ((k : Int) = lstD C n) && !be)) be := fun be => by unfold ta; rw [if_pos g]
    have wat : ∀ be : Bool, ob (fX13_seenBehind m (jI (k : Int)) (jI (C k)) (jI (d : Int)) (jI (b2 is)) (jI (b2 be)) (MS c m F r S t)) (fun v8 => ob (fX13_wayAt m (jI (k : Int) + 1) v8 (jI (b2 be)) (MS c m F r S t)) fun v9 => aL (m + 23) v9 (MS c m F r S t)) = some (jL ((ta C V n k is be d : Nat) : Int)) := fun be => by
      have l1 := bN_le (sbv (C k) is (d : Int) (decide ((k : Int) = lstD C n) && !be))
      have l2 := bN_le be
      (rw [s_seenB (mk := C k) (d := (d : Int)) hm F53 hD2 (by omega) (by omega) lr.1 (by omega) (by omega), o_ob, ek, s_wayAt hm, o_ob, s_a23 hm (by omega) (by unfold wix; omega), Int.toNat_natCast, hw (k + 1) (by omega) (by omega), tw be]; (try rw [show n - (k + 1) = n - 1 - k by omega]))
    have sb : ∀ be : Bool, fX13_seenBehind m (jI (k : Int)) (jI (C k)) (jI (d : Int)) (jI (b2 is)) (jI (b2 be)) (MS c m F r S t) = some (jI (b2 (sbv (C k) is (d : Int) (decide ((k : Int) = lstD C n) && !be)))) := fun be => s_seenB (mk := C k) (d := (d : Int)) hm F53 hD2 (by omega) (by omega) lr.1 (by omega) (by omega)
    have w0 := wat false
    have w1 := wat true
    rw [sb false, o_ob] at w0
    rw [sb true, o_ob] at w1
    have w0 : ob (fX13_wayAt m (jI (k : Int) + 1) (jI (b2 (sbv (C k) is (d : Int) (decide ((k : Int) = lstD C n) && !false)))) 0 (MS c m F r S t)) (fun v9 => aL (m + 23) v9 (MS c m F r S t)) = _ := w0
    have w1 : ob (fX13_wayAt m (jI (k : Int) + 1) (jI (b2 (sbv (C k) is (d : Int) (decide ((k : Int) = lstD C n) && !true)))) 1 (MS c m F r S t)) (fun v9 => aL (m + 23) v9 (MS c m F r S t)) = _ := w1
    have s0' : fX13_seenBehind m (jI (k : Int)) (jI (C k)) (jI (d : Int)) (jI (b2 is)) 0 (MS c m F r S t) = _ := sb false
    have s1' : fX13_seenBehind m (jI (k : Int)) (jI (C k)) (jI (d : Int)) (jI (b2 is)) 1 (MS c m F r S t) = _ := sb true
    have tl : ∀ be, ta C V n k is be d ≤ 2 ^ 32 := fun be => by rw [tw]; exact wl _ _
    have tl0 := tl false
    have tl1 := tl true
    obtain ⟨TA, hTA⟩ : ∃ z, z = ta C V n k is false d := ⟨_, rfl⟩
    obtain ⟨TB, hTB⟩ : ∃ z, z = ta C V n k is true d := ⟨_, rfl⟩
    rw [← hTA] at w0 tl0
    rw [← hTB] at w1 tl1
    have bind : ∀ {α β γ : Type} (x : Option α) (y : α → Option β) (z : β → Option γ), ob x (fun a => ob (y a) z) = ob (ob x y) z := fun x y z => by cases x <;> rfl
    -- the code with both signs looked at
    have cmpz : ∀ z : Nat, z ≤ 2 ^ 32 → (lg_cmp (jL (z : Int)) 0 ≤ 0 ↔ z = 0) := fun z hz => by
      rw [show (0 : Int64) = jL 0 from rfl, jL_cmp (by omega) (by omega) (by omega) (by omega)]
      by_cases q : z = 0
      · rw [q, if_neg (by omega), if_pos (show ((0 : Nat) : Int) = 0 from rfl)]
        exact ⟨fun _ => rfl, fun _ => Int32.le_refl _⟩
      · rw [if_pos (by omega)]
        exact ⟨fun e => absurd e (by decide), fun e => absurd e q⟩
    (rw [if_neg (by rw [decide_eq_true g]; decide)]; (try rw [s_R52 hm]); rw [o_ob, s0', o_ob, bind]; (try rw [w0]); rw [o_ob])
    -- behind the second look
    have c139 : ∀ y0 : Int32, fX13_findSource_139 k16 kk m (jI (p : Int)) (jI (n : Int)) (jI (q : Int)) (jI (b2 is)) (jI (k : Int)) (jI (C k)) (jI (d : Int)) y0 (MS c m F r S t) = fX13_findSource_178 k16 kk m (jI (p : Int)) (jI (n : Int)) (jI (q : Int)) (jI (b2 is)) (jI (k : Int)) (jI (C k)) (jI (d : Int)) y0 (if TB = 0 then 0 else 1) (MS c m F r S t) := fun y0 => by
      unfold fX13_findSource_139
      ((try rw [s_R52 hm]); rw [o_ob, s1', o_ob, bind]; (try rw [w1]); rw [o_ob])
      by_cases q : TB = 0
      · rw [if_pos ((cmpz TB tl1).2 q), if_pos q]
      · rw [if_neg (fun e => q ((cmpz TB tl1).1 e)), if_neg q]
    have e178 : (if lg_cmp (jL (TA : Int)) 0 ≤ 0 then fX13_findSource_139 k16 kk m (jI (p : Int)) (jI (n : Int)) (jI (q : Int)) (jI (b2 is)) (jI (k : Int)) (jI (C k)) (jI (d : Int)) 0 (MS c m F r S t) else fX13_findSource_139 k16 kk m (jI (p : Int)) (jI (n : Int)) (jI (q : Int)) (jI (b2 is)) (jI (k : Int)) (jI (C k)) (jI (d : Int)) 1 (MS c m F r S t)) = fX13_findSource_178 k16 kk m (jI (p : Int)) (jI (n : Int)) (jI (q : Int)) (jI (b2 is)) (jI (k : Int)) (jI (C k)) (jI (d : Int)) (if TA = 0 then 0 else 1) (if TB = 0 then 0 else 1) (MS c m F r S t) := by
      by_cases q : TA = 0
      · (rw [if_pos ((cmpz TA tl0).2 q), if_pos q]; (try rw [c139]))
      · (rw [if_neg (fun e => q ((cmpz TA tl0).1 e)), if_neg q]; (try rw [c139]))
    rw [e178]
    unfold fX13_findSource_178
    by_cases both : TA = 0 ∧ TB = 0
    · rw [if_pos both.1, if_pos rfl, if_pos both.2, if_pos rfl, o_lt, ed]
      exact nx _ (hTA ▸ both.1) (hTB ▸ both.2) rfl
    left
    have hdn : ¬ (ta C V n k is false d = 0 ∧ ta C V n k is true d = 0) := by rw [← hTA, ← hTB]; exact both
    have fd := fdg_D hk hD sa hd hdn h0
    obtain ⟨n1, n2⟩ := SA_d hk hD sa hd hdn h0
    have eT : (fsO C V n (k + 1)).2.2 = (fsO C V n k).2.2 + 1 := by show (if isD (C k) then (fsO C V n k).2.2 + 1 else (fsO C V n k).2.2) = _; rw [if_pos hD]
    obtain ⟨T, hT⟩ : ∃ T, T = (fsO C V n k).2.2 := ⟨_, rfl⟩
    rw [← hT] at x3 tk eT
    -- what is written
    have fin : ∀ (G : Nat → Int) (is' : Bool), (∀ j, j ≠ 56 → j ≠ 57 → G j = f0 j) → G 56 = ((T + 1 : Nat) : Int) → ((k : Int) ≠ lstD C n → is' = sbv (C k) is (d : Int) false) → ((k : Int) = lstD C n → G 57 = if TA = 0 then 1 else 0) → FS C V n (k + 1) f0 s0 (is', G, va_up S 24 (va_up (S 24) T (d : Int))) := by
      intro G is' g1 g2 g3 g4
      refine ⟨g1, fun j hj => by show (va_up S 24 _) j = _; rw [va_up_ne _ _ hj]; exact x2 j hj, by show G 56 = _; rw [g2, eT], fun j hj hjD => ?_, fun hl => ?_, fun hl => ?_⟩
      · show (va_up S 24 (va_up (S 24) T (d : Int))) 24 (fsO C V n j).2.2 = _
        rw [va_up_self]
        by_cases e : j = k
        · (rw [e]; (try rw [← hT]); (try rw [va_up_self]); rw [fd])
        · have : (fsO C V n j).2.2 < T := by
            rw [hT, fs_cnt, fs_cnt]
            have := cnt_mono (q := fun i => isD (C i)) (a := j + 1) k (by omega)
            rw [cnt_t (show (fun i => isD (C i)) j = true from hjD)] at this
            omega
          rw [va_up_ne _ _ (by omega)]
          exact x4 j (by omega) hjD
      · show SA C V n (k + 1) is'
        rw [g3 (by omega)]
        exact n2 (by omega)
      · have e : (k : Int) = lstD C n := by omega
        show G 57 = _
        (rw [g4 e]; (try rw [n1]); rw [oS_some]; (try rw [← hTA]))
        by_cases q : TA = 0
        · rw [if_pos q, if_neg (by simp [q])]
        · rw [if_neg q, if_pos (by simp [q])]
    have c242 : ∀ (G : Nat → Int) (be : Bool), (∀ j, j ≠ 57 → G j = F j) → fX13_findSource_242 k16 m (jI (p : Int)) (jI (n : Int)) (jI (q : Int)) (jI (k : Int)) (jI (d : Int)) (jI (b2 be)) (jI (b2 is)) (jI (d : Int)) (jI (C k)) (jI (k : Int)) m (MS c m G r S t) = k16 m (jI (p : Int)) (jI (n : Int)) (jI (q : Int)) (jI (b2 (sbv (C k) is (d : Int) (decide ((k : Int) = lstD C n) && !be)))) (jI ((k + 1 : Nat) : Int)) (MS c m (va_up G 56 ((T + 1 : Nat) : Int)) r (va_up S 24 (va_up (S 24) T (d : Int))) t) := by
      intro G be hG
      have G56 : G 56 = (T : Int) := (hG 56 (by omega)).trans x3
      unfold fX13_findSource_242
      (rw [s_seenB (mk := C k) (d := (d : Int)) hm ((hG 53 (by omega)).trans F53) hD2 (by omega) (by omega) lr.1 (by omega) (by omega), o_ob]; (try rw [s_R55 hm]); rw [o_ob]; (try rw [s_gI hm]); rw [o_ob, G56, s_q24 hm (by omega) (by omega), o_ob]; (try rw [s_gI hm]); rw [o_ob, G56]; (try rw [show (1 : Int32) = jI 1 from rfl]); (try rw [jI_add]); rw [s_pI hm, o_ob, o_lt]; (try rw [jI_add]); (try rw [show ((T : Int)).toNat = T by omega]))
      rfl
    have c193 : ∀ z : Int32, z = (if TA = 0 then 0 else 1) → ∃ y, FS C V n (k + 1) f0 s0 y ∧ fX13_findSource_193 k16 m (jI (p : Int)) (jI (n : Int)) (jI (q : Int)) (jI (b2 is)) (jI (k : Int)) (jI (C k)) (jI (d : Int)) z (MS c m F r S t) = k16 m (jI (p : Int)) (jI (n : Int)) (jI (q : Int)) (jI (b2 y.1)) (jI ((k + 1 : Nat) : Int)) (MS c m y.2.1 r y.2.2 t) := by
      intro z hz
      unfold fX13_findSource_193
      ((try rw [s_gI hm]); rw [o_ob, F53])
      by_cases e : (k : Int) = lstD C n
      · rw [if_pos (by rw [e])]
        have c213 : ∀ be : Bool, be = decide (TA = 0) → fX13_findSource_213 (fX13_findSource_216 k16) m (jI (p : Int)) (jI (n : Int)) (jI (q : Int)) (jI (b2 is)) (jI (k : Int)) (jI (C k)) (jI (d : Int)) (jI (b2 be)) m (MS c m F r S t) = k16 m (jI (p : Int)) (jI (n : Int)) (jI (q : Int)) (jI (b2 (sbv (C k) is (d : Int) (decide ((k : Int) = lstD C n) && !be)))) (jI ((k + 1 : Nat) : Int)) (MS c m (va_up (va_up F 57 (b2 be)) 56 ((T + 1 : Nat) : Int)) r (va_up S 24 (va_up (S 24) T (d : Int))) t) := by
          intro be _
          unfold fX13_findSource_213 fX13_findSource_216
          (rw [s_pI hm, o_ob]; (try rw [s_gI hm]); rw [o_ob]; (try rw [va_up_ne _ _ (show (53 : Nat) ≠ 57 by omega)]); rw [F53, if_pos (by rw [e])]; (try rw [s_gI hm]); rw [o_ob]; (try rw [va_up_self]))
          exact c242 _ be (fun j hj => va_up_ne _ _ hj)
        have out : ∀ be : Bool, be = decide (TA = 0) → ∃ y, FS C V n (k + 1) f0 s0 y ∧ fX13_findSource_213 (fX13_findSource_216 k16) m (jI (p : Int)) (jI (n : Int)) (jI (q : Int)) (jI (b2 is)) (jI (k : Int)) (jI (C k)) (jI (d : Int)) (jI (b2 be)) m (MS c m F r S t) = k16 m (jI (p : Int)) (jI (n : Int)) (jI (q : Int)) (jI (b2 y.1)) (jI ((k + 1 : Nat) : Int)) (MS c m y.2.1 r y.2.2 t) := by
          intro be hb
          refine ⟨(_, _, _), fin (va_up (va_up F 57 (b2 be)) 56 ((T + 1 : Nat) : Int)) (sbv (C k) is (d : Int) (decide ((k : Int) = lstD C n) && !be)) (fun j a b => by rw [va_up_ne _ _ a, va_up_ne _ _ b]; exact x1 j a b) (va_up_self _ _ _) (fun q => absurd e q) (fun _ => ?_), c213 be hb⟩
          ((try rw [va_up_ne _ _ (by omega)]); (try rw [va_up_self]); rw [hb])
          by_cases q : TA = 0
          · rw [if_pos q, decide_eq_true q]; rfl
          · rw [if_neg q, decide_eq_false q]; rfl
        by_cases q : TA = 0
        · rw [if_pos (by rw [hz, if_pos q])]
          exact out true (by rw [decide_eq_true q])
        · rw [if_neg (by rw [hz, if_neg q]; decide)]
          exact out false (by rw [decide_eq_false q])
      · have ne : ¬ jI (k : Int) = jI (lstD C n) := by rw [jI_eq (by omega) (by omega) (by omega) (by omega)]; exact e
        unfold fX13_findSource_216
        (rw [if_neg ne]; (try rw [s_gI hm]); rw [o_ob, F53, if_neg ne])
        refine ⟨(_, _, _), fin (va_up F 56 ((T + 1 : Nat) : Int)) (sbv (C k) is (d : Int) (decide ((k : Int) = lstD C n) && !true)) (fun j a b => by rw [va_up_ne _ _ a]; exact x1 j a b) (va_up_self _ _ _) (fun _ => by rw [decide_eq_false e, Bool.false_and]) (fun q => absurd q e), c242 F true (fun _ _ => rfl)⟩
    by_cases q : TA = 0
    · have qb : TB ≠ 0 := fun e => both ⟨q, e⟩
      rw [if_pos q, if_pos rfl, if_neg qb, if_neg (by decide)]
      exact c193 0 (by rw [if_pos q])
    · rw [if_neg q, if_neg (by decide)]
      exact c193 1 (by rw [if_neg q])
  · intro _ h0 kk
    exfalso
    apply sa.2.2
    rw [wyk is false hk, wyk is true hk, if_pos hD]
    exact ⟨sm_z (fun d hd => (h0 d hd).1), sm_z (fun d hd => (h0 d hd).2)⟩
end RAP
