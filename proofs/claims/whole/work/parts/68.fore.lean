section FS
/-! THE CLASS'S FORESIGHT: many steps on a row of its own -/
theorem lp_sr {τ σ β : Type} {z : τ} {S : τ → τ} (ev : τ → Nat → σ → Option β) (hi : Nat) (Inv : Nat → σ → Prop) (Post : Option β → Prop)
    (step : ∀ i s, i < hi → Inv i s → ∀ k, Post (ev (S k) i s) ∨ ∃ s', Inv (i + 1) s' ∧ ev (S k) i s = ev k (i + 1) s')
    (fin : ∀ s, Inv hi s → ∀ k, Post (ev (S k) hi s)) :
    ∀ n i s, i ≤ hi → hi - i < n → Inv i s → Post (ev (lp z S n) i s) := by
  intro n
  induction n with
  | zero => intro i s h1 h2; omega
  | succ n ih =>
    intro i s h1 h2 h3
    show Post (ev (S (lp z S n)) i s)
    by_cases h : i = hi
    · subst h; exact fin s h3 _
    · rcases step i s (by omega) h3 (lp z S n) with h4 | ⟨s', h4, h5⟩
      · exact h4
      · rw [h5]; exact ih (i + 1) s' (by omega) (by omega) h4
theorem fnd_is {q : Nat → Bool} : ∀ {n lo i : Nat}, lo ≤ i → i < lo + n → q i = true → (∀ j, lo ≤ j → j < i → q j = false) → fnd q lo n = (i : Int)
  | 0, _, _, h1, h2, _, _ => by omega
  | n + 1, lo, i, h1, h2, h3, h4 => by
    by_cases c : i = lo
    · subst c; exact fnd_at h3
    · rw [fnd_nx (h4 lo (by omega) (by omega))]
      exact fnd_is (by omega) (by omega) h3 (fun j a b => h4 j (by omega) b)
theorem fnd_no {q : Nat → Bool} : ∀ {n lo : Nat}, (∀ j, lo ≤ j → j < lo + n → q j = false) → fnd q lo n = -1
  | 0, _, _ => rfl
  | n + 1, lo, h => by
    rw [fnd_nx (h lo (by omega) (by omega))]
    exact fnd_no (fun j a b => h j (by omega) (by omega))
def stpN (P : PG) (many : Nat) : Nat → (Nat → Int) → (Nat → Int)
  | 0, r => r
  | n + 1, r => stp P many (stpN P many n r)
theorem stp_st {P : PG} {many : Nat} {r : Nat → Int} (h : r 276 ≠ 0) : stp P many r = r := by
  unfold stp; rw [if_neg h]
theorem stpN_st {P : PG} {many : Nat} {r : Nat → Int} : ∀ {n i : Nat}, i ≤ n → stpN P many i r 276 ≠ 0 → stpN P many n r = stpN P many i r
  | 0, i, h, _ => by rw [show i = 0 by omega]
  | n + 1, i, h, h2 => by
    by_cases c : i = n + 1
    · rw [c]
    · have ih := stpN_st (n := n) (i := i) (by omega) h2
      show stp P many (stpN P many n r) = _
      rw [ih, stp_st h2]
theorem stpN_ok {P : PG} {many : Nat} {T : Int} {r : Nat → Int} (h : RowOK many T r) (pg : ∀ k, k < many → PGk P many k) (hm : many ≤ 60) : ∀ n : Nat, T + n < 1000000 → RowOK many (T + n) (stpN P many n r)
  | 0, _ => by
    have : T + (0 : Nat) = T := by omega
    rw [this]; exact h
  | n + 1, hT => by
    have ih := stpN_ok h pg hm n (by omega)
    have := stp_ok ih pg hm (by omega)
    rw [show T + ((n + 1 : Nat) : Int) = T + (n : Int) + 1 by omega]
    exact this
variable {K : Nat → Nat} {I : Nat → Nat → Int32} {R : Nat → Nat → Nat} {L : Nat → Nat → Int64} {N : Nat → Nat} {w : Nat × Nat × Nat × Nat}
/-- what steps change of the refs -/
def RFr (p : Nat) (R R' : Nat → Nat → Nat) : Prop := (∀ y, y ≠ p → y ≠ p + 7 → R' y = R y) ∧ (∀ j, j ≠ 6 → j ≠ 7 → R' p j = R p j) ∧ (∀ j, j ≠ 4 → R' (p + 7) j = R (p + 7) j)
theorem RFr_rf (p : Nat) (R : Nat → Nat → Nat) : RFr p R R := ⟨fun _ _ _ => rfl, fun _ _ _ => rfl, fun _ _ => rfl⟩
theorem RFr_tr {p : Nat} {R R' R'' : Nat → Nat → Nat} (h : RFr p R R') (h' : RFr p R' R'') : RFr p R R'' :=
  ⟨fun y a b => (h'.1 y a b).trans (h.1 y a b), fun j a b => (h'.2.1 j a b).trans (h.2.1 j a b), fun j a => (h'.2.2 j a).trans (h.2.2 j a)⟩
/-- a processor with its program -/
def Gd (K : Nat → Nat) (I : Nat → Nat → Int32) (R : Nat → Nat → Nat) (N : Nat → Nat) (p l many : Nat) (P : PG) : Prop := Pc K R N p ∧ R p 5 = l ∧ Lst K I R N P many l p
theorem Gd_pg {p l many : Nat} {P : PG} (h : Gd K I R N p l many P) : (∀ k, k < many → PGk P many k) ∧ many ≤ 60 := by
  obtain ⟨-, -, -, -, -, -, -, -, -, -, hm, hin, -⟩ := h
  exact ⟨fun k hk => (hin k hk).2.1, hm⟩
theorem Gd_fr {p l many : Nat} {P : PG} {I' : Nat → Nat → Int32} {R' : Nat → Nat → Nat} (h : Gd K I R N p l many P) (hI : ∀ y, (y < p ∨ p + 15 ≤ y) → K y ≠ 101 → I' y = I y) (hR : RFr p R R') : Gd K I' R' N p l many P := by
  obtain ⟨pc, h5, k6, l0, l1, k7, n7, k8, n8, i2, hm, hin, hlp⟩ := h
  have kp : K p = 8 := pc.1
  have k3 : K (p + 7) = 3 := pc.2.2.2.2.2.2.2.2.2.2.2.1
  have ne : ∀ y, K y ≠ 8 → K y ≠ 3 → y ≠ p ∧ y ≠ p + 7 := fun y a b => ⟨fun e => a (by rw [e, kp]), fun e => b (by rw [e, k3])⟩
  have nl := ne l (by rw [k6]; decide) (by rw [k6]; decide)
  have nl1 := ne (l + 1) (by rw [k7]; decide) (by rw [k7]; decide)
  refine ⟨Pc_R pc (fun y a b => hR.1 y a b) (fun j hj => hR.2.1 j (by omega) (by omega)) hR.2.2, by rw [hR.2.1 5 (by omega) (by omega)]; exact h5, k6, by rw [hR.1 l nl.1 nl.2]; exact l0, by rw [hR.1 l nl.1 nl.2]; exact l1, k7, n7, k8, n8, by rw [hI l (by omega) (by rw [k6]; decide)]; exact i2, hm, fun k hk => ?_, hlp⟩
  obtain ⟨ins, pg, a0, ap⟩ := hin k hk
  have ka := ins.1
  have na := ne (R (l + 1) k) (by rw [ka]; decide) (by rw [ka]; decide)
  rw [hR.1 (l + 1) nl1.1 nl1.2]
  refine ⟨?_, pg, a0, ap⟩
  unfold InsOK at ins ⊢
  rw [hI _ ap (by rw [ka]; decide), hR.1 _ na.1 na.2]
  exact ins
/-- a row out of the processor's own cells -/
def Ro (K : Nat → Nat) (R : Nat → Nat → Nat) (N : Nat → Nat) (p x : Nat) : Prop := Rw K R N x ∧ (x + 1 < p ∨ p + 15 ≤ x)
/-- what has become of the heap by steps on a row -/
def PI (p x : Nat) (I : Nat → Nat → Int32) (R : Nat → Nat → Nat) (I' : Nat → Nat → Int32) (R' : Nat → Nat → Nat) (u : Nat → Int) : Prop :=
  (∃ g, I' (x + 1) = jF (cls u g)) ∧ (∀ y, (y < p ∨ p + 15 ≤ y) → y ≠ x + 1 → I' y = I y) ∧ RFr p R R'
theorem PI_Gd {p x l many : Nat} {P : PG} {I' : Nat → Nat → Int32} {R' : Nat → Nat → Nat} {u : Nat → Int} (h : Gd K I R N p l many P) (hx : Ro K R N p x) (hp : PI p x I R I' R' u) : Gd K I' R' N p l many P :=
  Gd_fr h (fun y a b => hp.2.1 y a (fun e => b (by rw [e]; exact hx.1.2.2.1))) hp.2.2
theorem Ro_fr {p x l many : Nat} {P : PG} {R' : Nat → Nat → Nat} (h : Gd K I R N p l many P) (hx : Ro K R N p x) (hR : RFr p R R') : Ro K R' N p x := by
  have kp : K p = 8 := h.1.1
  have k3 : K (p + 7) = 3 := h.1.2.2.2.2.2.2.2.2.2.2.2.1
  have k9 := hx.1.1
  refine ⟨⟨hx.1.1, ?_, hx.1.2.2⟩, hx.2⟩
  rw [hR.1 x (fun e => by rw [e, kp] at k9; omega) (fun e => by rw [e, k3] at k9; omega)]
  exact hx.1.2.1
theorem e_step1 {p x l many : Nat} {P : PG} {T : Int} {u : Nat → Int} {I' : Nat → Nat → Int32} {R' : Nat → Nat → Nat} (h : Gd K I R N p l many P) (hx : Ro K R N p x) (hp : PI p x I R I' R' u) (ok : RowOK many T u) (hT : T < 900000) (hs : u 276 = 0) :
    ∃ I'' R'', fX9_step p x (K, I', R', L, N, w) = some (jI (knd P u), (K, I'', R'', L, N, w)) ∧ PI p x I R I'' R'' (stp P many u) := by
  have h' := PI_Gd h hx hp
  have hx' := Ro_fr h hx hp.2.2
  obtain ⟨⟨g, hg⟩, hI, hR⟩ := hp
  obtain ⟨I'', R'', g', e1, e2, e3, e4, e5, e6⟩ := e_step (L := L) (w := w) h'.1 h'.2.1 h'.2.2 hx'.1 hg ok hT hs hx'.2
  exact ⟨I'', R'', e1, ⟨g', e2⟩, fun y a b => (e3 y a b).trans (hI y a b), RFr_tr hR ⟨e4, e5, e6⟩⟩
theorem e_run1 {p x l many : Nat} {P : PG} {T : Int} {u : Nat → Int} {I' : Nat → Nat → Int32} {R' : Nat → Nat → Nat} (h : Gd K I R N p l many P) (hx : Ro K R N p x) (hp : PI p x I R I' R' u) (ok : RowOK many T u) : fX10_running x (K, I', R', L, N, w) = some (jI (if u 276 = 0 then 1 else 0)) := by
  have hx' := Ro_fr h hx hp.2.2
  obtain ⟨⟨g, hg⟩, -, -⟩ := hp
  have h1 := ok.2.1 276
  have := e_run (L := L) (w := w) hx'.1 hg (by rw [cls_st]; exact h1.1) (by rw [cls_st]; exact h1.2)
  rw [cls_st] at this
  exact this
theorem knd_r {P : PG} {many : Nat} {T : Int} {u : Nat → Int} (ok : RowOK many T u) (pg : ∀ k, k < many → PGk P many k) (hs : u 276 = 0) : 0 ≤ knd P u ∧ knd P u ≤ 8 := by
  have h1 := ok.2.2.2.1
  have h2 := ok.2.2.2.2.1 hs
  have := (exe_ok ok (pg (u 265).toNat (by omega)) (by omega)).2.1
  unfold knd
  cases hF : (exe P u (u 265).toNat).2.1 with
  | none => exact ⟨by decide, by decide⟩
  | some f => exact ⟨by have := (this f hF).1.1.1; show 0 ≤ f.1; omega, (this f hF).1.1.2⟩
/-- beyond the cells of a row there is nothing -/
def Zr (I : Nat → Nat → Int32) (x : Nat) : Prop := ∀ j, 411 ≤ j → I (x + 1) j = jI 0
theorem cls_top {r g : Nat → Int} {j : Nat} (h : 411 ≤ j) : cls r g j = 0 := by
  unfold cls
  rw [if_neg (by omega), if_neg (by omega), if_neg (by omega), if_neg (by omega), if_neg (by omega), if_neg (by omega)]
theorem Zr_of {x : Nat} {r g : Nat → Int} (h : I (x + 1) = jF (cls r g)) : Zr I x := fun j hj => by rw [h, jF_at, cls_top hj]
theorem e_cpR {a b : Nat} {r g : Nat → Int} (hr : Rw K R N a) (hs : Rw K R N b) (hI : I (b + 1) = jF (cls r g)) (hz : Zr I a) : fX10_become a b (K, I, R, L, N, w) = some (K, va_up I (a + 1) (jF (cls r g)), R, L, N, w) := by
  rw [e_become hr hs]
  congr 3
  congr 1
  funext j
  unfold va_cpy
  by_cases h : 0 ≤ j ∧ j < 0 + 411
  · rw [if_pos h, hI]
    congr 1; omega
  · rw [if_neg h, hz j (by omega), jF_at, cls_top (by omega)]
/-- the class's foresight -/
def Fs (K : Nat → Nat) (R : Nat → Nat → Nat) (N : Nat → Nat) (f p x y t : Nat) : Prop := K f = 4 ∧ R f 0 = p ∧ R f 1 = x ∧ R f 2 = y ∧ R f 3 = t ∧ Ro K R N p x ∧ Ro K R N p y ∧ K t = 101 ∧ N t = 4 ∧ (t < p ∨ p + 15 ≤ t) ∧ t ≠ x + 1 ∧ t ≠ y + 1 ∧ x ≠ y ∧ (f < p ∨ p + 15 ≤ f)
theorem Fs_fr {f p x y t l many : Nat} {P : PG} {R' : Nat → Nat → Nat} (h : Gd K I R N p l many P) (hf : Fs K R N f p x y t) (hR : RFr p R R') : Fs K R' N f p x y t := by
  have kp : K p = 8 := h.1.1
  have k3 : K (p + 7) = 3 := h.1.2.2.2.2.2.2.2.2.2.2.2.1
  obtain ⟨k4, f0, f1, f2, f3, hx, hy, r⟩ := hf
  have e : R' f = R f := hR.1 f (fun e => by rw [e, kp] at k4; omega) (fun e => by rw [e, k3] at k4; omega)
  exact ⟨k4, by rw [e]; exact f0, by rw [e]; exact f1, by rw [e]; exact f2, by rw [e]; exact f3, Ro_fr h hx hR, Ro_fr h hy hR, r⟩
theorem PI_up {p x : Nat} {u g : Nat → Int} : PI p x I R (va_up I (x + 1) (jF (cls u g))) R u := ⟨⟨g, va_up_self _ _ _⟩, fun y _ b => va_up_ne _ _ b, RFr_rf _ _⟩
theorem e_behind {f p x y t l many n nw : Nat} {P : PG} {T : Int} {r g : Nat → Int} (h : Gd K I R N p l many P) (hf : Fs K R N f p x y t) (hw : Rw K R N nw) (hI : I (nw + 1) = jF (cls r g)) (hz : Zr I x) (ok : RowOK many T r) (hT : T < 800000) (hn : n ≤ 100) :
    ∃ I' R', fX4_behind f nw (jI (n : Int)) (K, I, R, L, N, w) = some (x, (K, I', R', L, N, w)) ∧ PI p x I R I' R' (stpN P many n r) := by
  obtain ⟨pg, hm⟩ := Gd_pg h
  have hx : Ro K R N p x := hf.2.2.2.2.2.1
  have k4 := hf.1
  have f1 := hf.2.2.1
  have ec := e_cpR (L := L) (w := w) hx.1 hw hI hz
  have key := lp_sr (z := fun _ _ _ _ => none) (S := fX4_behind_10) (β := Nat × Hp) (σ := (Nat → Nat → Int32) × (Nat → Nat → Nat)) (fun k i s => k f (jI (n : Int)) (jI (i : Int)) (K, s.1, s.2, L, N, w)) n
    (fun i s => PI p x I R s.1 s.2 (stpN P many i r))
    (fun res => ∃ I' R', res = some (x, (K, I', R', L, N, w)) ∧ PI p x I R I' R' (stpN P many n r)) ?_ ?_ FU 0 (va_up I (x + 1) (jF (cls r g)), R) (by omega) (FU_lt (by omega)) PI_up
  · obtain ⟨I', R', e1, e2⟩ := key
    refine ⟨I', R', ?_, e2⟩
    rw [← e1]
    clear e1 e2 ok hI
    unfold fX4_behind
    ((repeat (first | (with_reducible apply q_gd; · (first | assumption | omega)) | (with_reducible apply q_ob; · (first | with_reducible rfl | ((simp (disch := omega) only [jI_lit, jI_neg, jI_add, jI_sub, jI_mul, o_gI, o_gR, o_pI, o_pZ0, o_pZ1, o_pZb, o_pR, o_aI, o_qI, o_aN, tn, va_up_self, va_up_ne, upup, jI_shr1, jI_shr4, jI_shr0, jI_and1, jI_and15, jI_join, jI_240, jI_hi, jF_at, jF_up, jI_max, jI_min, b2_t, b2_f, Bool.not_true, Bool.not_false, eq_self, true_or, or_true, f1, ec]) <;> with_reducible rfl))) | (with_reducible apply q_ob2; · (first | with_reducible rfl | ((simp (disch := omega) only [jI_lit, jI_neg, jI_add, jI_sub, jI_mul, o_gI, o_gR, o_pI, o_pZ0, o_pZ1, o_pZb, o_pR, o_aI, o_qI, o_aN, tn, va_up_self, va_up_ne, upup, jI_shr1, jI_shr4, jI_shr0, jI_and1, jI_and15, jI_join, jI_240, jI_hi, jF_at, jF_up, jI_max, jI_min, b2_t, b2_f, Bool.not_true, Bool.not_false, eq_self, true_or, or_true, f1, ec]) <;> with_reducible rfl))) | (with_reducible apply q_lt; · (first | with_reducible rfl | ((simp (disch := omega) only [jI_lit, jI_neg, jI_add, jI_sub, jI_mul, o_gI, o_gR, o_pI, o_pZ0, o_pZ1, o_pZb, o_pR, o_aI, o_qI, o_aN, tn, va_up_self, va_up_ne, upup, jI_shr1, jI_shr4, jI_shr0, jI_and1, jI_and15, jI_join, jI_240, jI_hi, jF_at, jF_up, jI_max, jI_min, b2_t, b2_f, Bool.not_true, Bool.not_false, eq_self, true_or, or_true, f1, ec]) <;> with_reducible rfl))) | (with_reducible apply q_ifp; · (first | ((simp (disch := omega) only [jI_lit, jI_neg, jI_add, jI_sub, jI_mul, jI_lt, jI_le, jI_eq, va_up_self, va_up_ne, jI_shr1, jI_shr4, jI_shr0, jI_and1, jI_and15, jF_at, tn, b2_t, b2_f, cmp_ge, cmp_gt, cmp_le, cmp_lt, cmp_eq, jL_lit, jL_lt, jL_le, jL_eq, f1, ec]) <;> omega) | omega)) | (with_reducible apply q_ifn; · (first | ((simp (disch := omega) only [jI_lit, jI_neg, jI_add, jI_sub, jI_mul, jI_lt, jI_le, jI_eq, va_up_self, va_up_ne, jI_shr1, jI_shr4, jI_shr0, jI_and1, jI_and15, jF_at, tn, b2_t, b2_f, cmp_ge, cmp_gt, cmp_le, cmp_lt, cmp_eq, jL_lit, jL_lt, jL_le, jL_eq, f1, ec]) <;> omega) | omega)) | (with_reducible apply q_obk; · (first | with_reducible rfl | ((simp (disch := omega) only [jI_lit, jI_neg, jI_add, jI_sub, jI_mul, o_gI, o_gR, o_pI, o_pZ0, o_pZ1, o_pZb, o_pR, o_aI, o_qI, o_aN, tn, va_up_self, va_up_ne, upup, jI_shr1, jI_shr4, jI_shr0, jI_and1, jI_and15, jI_join, jI_240, jI_hi, jF_at, jF_up, jI_max, jI_min, b2_t, b2_f, Bool.not_true, Bool.not_false, eq_self, true_or, or_true, f1, ec]) <;> with_reducible rfl))) | (with_reducible apply q_nz; · (first | ((simp (disch := omega) only [jI_lit, jI_neg, jI_add, jI_sub, jI_mul, jI_lt, jI_le, jI_eq, va_up_self, va_up_ne, jI_shr1, jI_shr4, jI_shr0, jI_and1, jI_and15, jF_at, tn, b2_t, b2_f, cmp_ge, cmp_gt, cmp_le, cmp_lt, cmp_eq, jL_lit, jL_lt, jL_le, jL_eq, f1, ec]) <;> omega) | omega)) | (with_reducible apply q_rz; · (first | exact b2_01 _ | decide)))) <;> (first | with_reducible rfl | ((simp (disch := omega) only [jI_lit, jI_neg, jI_add, jI_sub, jI_mul, o_gI, o_gR, o_pI, o_pZ0, o_pZ1, o_pZb, o_pR, o_aI, o_qI, o_aN, tn, va_up_self, va_up_ne, upup, jI_shr1, jI_shr4, jI_shr0, jI_and1, jI_and15, jI_join, jI_240, jI_hi, jF_at, jF_up, jI_max, jI_min, b2_t, b2_f, Bool.not_true, Bool.not_false, eq_self, true_or, or_true, f1, ec]) <;> with_reducible rfl) | rfl))
  · intro i s hi hp k'
    obtain ⟨I1, R1⟩ := s
    have hp : PI p x I R I1 R1 (stpN P many i r) := hp
    have oki := stpN_ok (P := P) ok pg hm i (by omega)
    have er := e_run1 (L := L) (w := w) h hx hp oki
    have hf' := Fs_fr h hf hp.2.2
    have f1' := hf'.2.2.1
    have f0' := hf'.2.1
    have e2 : (i : Int) + 1 = ((i + 1 : Nat) : Int) := by omega
    by_cases c : stpN P many i r 276 = 0
    · right
      rw [if_pos c] at er
      obtain ⟨I2, R2, e3, e4⟩ := e_step1 (L := L) (w := w) h hx hp oki (by omega) c
      refine ⟨(I2, R2), e4, ?_⟩
      show fX4_behind_10 k' f (jI (n : Int)) (jI (i : Int)) (K, I1, R1, L, N, w) = k' f (jI (n : Int)) (jI ((i + 1 : Nat) : Int)) (K, I2, R2, L, N, w)
      clear hp oki hf' e4 ok hI hf h hw hz c
      unfold fX4_behind_10
      ((repeat (first | (with_reducible apply q_gd; · (first | assumption | omega)) | (with_reducible apply q_ob; · (first | with_reducible rfl | ((simp (disch := omega) only [jI_lit, jI_neg, jI_add, jI_sub, jI_mul, o_gI, o_gR, o_pI, o_pZ0, o_pZ1, o_pZb, o_pR, o_aI, o_qI, o_aN, tn, va_up_self, va_up_ne, upup, jI_shr1, jI_shr4, jI_shr0, jI_and1, jI_and15, jI_join, jI_240, jI_hi, jF_at, jF_up, jI_max, jI_min, b2_t, b2_f, Bool.not_true, Bool.not_false, eq_self, true_or, or_true, f1', f0', er, e2, e3]) <;> with_reducible rfl))) | (with_reducible apply q_ob2; · (first | with_reducible rfl | ((simp (disch := omega) only [jI_lit, jI_neg, jI_add, jI_sub, jI_mul, o_gI, o_gR, o_pI, o_pZ0, o_pZ1, o_pZb, o_pR, o_aI, o_qI, o_aN, tn, va_up_self, va_up_ne, upup, jI_shr1, jI_shr4, jI_shr0, jI_and1, jI_and15, jI_join, jI_240, jI_hi, jF_at, jF_up, jI_max, jI_min, b2_t, b2_f, Bool.not_true, Bool.not_false, eq_self, true_or, or_true, f1', f0', er, e2, e3]) <;> with_reducible rfl))) | (with_reducible apply q_lt; · (first | with_reducible rfl | ((simp (disch := omega) only [jI_lit, jI_neg, jI_add, jI_sub, jI_mul, o_gI, o_gR, o_pI, o_pZ0, o_pZ1, o_pZb, o_pR, o_aI, o_qI, o_aN, tn, va_up_self, va_up_ne, upup, jI_shr1, jI_shr4, jI_shr0, jI_and1, jI_and15, jI_join, jI_240, jI_hi, jF_at, jF_up, jI_max, jI_min, b2_t, b2_f, Bool.not_true, Bool.not_false, eq_self, true_or, or_true, f1', f0', er, e2, e3]) <;> with_reducible rfl))) | (with_reducible apply q_ifp; · (first | ((simp (disch := omega) only [jI_lit, jI_neg, jI_add, jI_sub, jI_mul, jI_lt, jI_le, jI_eq, va_up_self, va_up_ne, jI_shr1, jI_shr4, jI_shr0, jI_and1, jI_and15, jF_at, tn, b2_t, b2_f, cmp_ge, cmp_gt, cmp_le, cmp_lt, cmp_eq, jL_lit, jL_lt, jL_le, jL_eq, f1', f0', er, e2, e3]) <;> omega) | omega)) | (with_reducible apply q_ifn; · (first | ((simp (disch := omega) only [jI_lit, jI_neg, jI_add, jI_sub, jI_mul, jI_lt, jI_le, jI_eq, va_up_self, va_up_ne, jI_shr1, jI_shr4, jI_shr0, jI_and1, jI_and15, jF_at, tn, b2_t, b2_f, cmp_ge, cmp_gt, cmp_le, cmp_lt, cmp_eq, jL_lit, jL_lt, jL_le, jL_eq, f1', f0', er, e2, e3]) <;> omega) | omega)) | (with_reducible apply q_obk; · (first | with_reducible rfl | ((simp (disch := omega) only [jI_lit, jI_neg, jI_add, jI_sub, jI_mul, o_gI, o_gR, o_pI, o_pZ0, o_pZ1, o_pZb, o_pR, o_aI, o_qI, o_aN, tn, va_up_self, va_up_ne, upup, jI_shr1, jI_shr4, jI_shr0, jI_and1, jI_and15, jI_join, jI_240, jI_hi, jF_at, jF_up, jI_max, jI_min, b2_t, b2_f, Bool.not_true, Bool.not_false, eq_self, true_or, or_true, f1', f0', er, e2, e3]) <;> with_reducible rfl))) | (with_reducible apply q_nz; · (first | ((simp (disch := omega) only [jI_lit, jI_neg, jI_add, jI_sub, jI_mul, jI_lt, jI_le, jI_eq, va_up_self, va_up_ne, jI_shr1, jI_shr4, jI_shr0, jI_and1, jI_and15, jF_at, tn, b2_t, b2_f, cmp_ge, cmp_gt, cmp_le, cmp_lt, cmp_eq, jL_lit, jL_lt, jL_le, jL_eq, f1', f0', er, e2, e3]) <;> omega) | omega)) | (with_reducible apply q_rz; · (first | exact b2_01 _ | decide)))) <;> (first | with_reducible rfl | ((simp (disch := omega) only [jI_lit, jI_neg, jI_add, jI_sub, jI_mul, o_gI, o_gR, o_pI, o_pZ0, o_pZ1, o_pZb, o_pR, o_aI, o_qI, o_aN, tn, va_up_self, va_up_ne, upup, jI_shr1, jI_shr4, jI_shr0, jI_and1, jI_and15, jI_join, jI_240, jI_hi, jF_at, jF_up, jI_max, jI_min, b2_t, b2_f, Bool.not_true, Bool.not_false, eq_self, true_or, or_true, f1', f0', er, e2, e3]) <;> with_reducible rfl) | rfl))
    · left
      rw [if_neg c] at er
      refine ⟨I1, R1, ?_, ?_⟩
      · show fX4_behind_10 k' f (jI (n : Int)) (jI (i : Int)) (K, I1, R1, L, N, w) = _
        clear hp oki hf' ok hI hf h hw hz c
        unfold fX4_behind_10
        ((repeat (first | (with_reducible apply q_gd; · (first | assumption | omega)) | (with_reducible apply q_ob; · (first | with_reducible rfl | ((simp (disch := omega) only [jI_lit, jI_neg, jI_add, jI_sub, jI_mul, o_gI, o_gR, o_pI, o_pZ0, o_pZ1, o_pZb, o_pR, o_aI, o_qI, o_aN, tn, va_up_self, va_up_ne, upup, jI_shr1, jI_shr4, jI_shr0, jI_and1, jI_and15, jI_join, jI_240, jI_hi, jF_at, jF_up, jI_max, jI_min, b2_t, b2_f, Bool.not_true, Bool.not_false, eq_self, true_or, or_true, f1', er]) <;> with_reducible rfl))) | (with_reducible apply q_ob2; · (first | with_reducible rfl | ((simp (disch := omega) only [jI_lit, jI_neg, jI_add, jI_sub, jI_mul, o_gI, o_gR, o_pI, o_pZ0, o_pZ1, o_pZb, o_pR, o_aI, o_qI, o_aN, tn, va_up_self, va_up_ne, upup, jI_shr1, jI_shr4, jI_shr0, jI_and1, jI_and15, jI_join, jI_240, jI_hi, jF_at, jF_up, jI_max, jI_min, b2_t, b2_f, Bool.not_true, Bool.not_false, eq_self, true_or, or_true, f1', er]) <;> with_reducible rfl))) | (with_reducible apply q_lt; · (first | with_reducible rfl | ((simp (disch := omega) only [jI_lit, jI_neg, jI_add, jI_sub, jI_mul, o_gI, o_gR, o_pI, o_pZ0, o_pZ1, o_pZb, o_pR, o_aI, o_qI, o_aN, tn, va_up_self, va_up_ne, upup, jI_shr1, jI_shr4, jI_shr0, jI_and1, jI_and15, jI_join, jI_240, jI_hi, jF_at, jF_up, jI_max, jI_min, b2_t, b2_f, Bool.not_true, Bool.not_false, eq_self, true_or, or_true, f1', er]) <;> with_reducible rfl))) | (with_reducible apply q_ifp; · (first | ((simp (disch := omega) only [jI_lit, jI_neg, jI_add, jI_sub, jI_mul, jI_lt, jI_le, jI_eq, va_up_self, va_up_ne, jI_shr1, jI_shr4, jI_shr0, jI_and1, jI_and15, jF_at, tn, b2_t, b2_f, cmp_ge, cmp_gt, cmp_le, cmp_lt, cmp_eq, jL_lit, jL_lt, jL_le, jL_eq, f1', er]) <;> omega) | omega)) | (with_reducible apply q_ifn; · (first | ((simp (disch := omega) only [jI_lit, jI_neg, jI_add, jI_sub, jI_mul, jI_lt, jI_le, jI_eq, va_up_self, va_up_ne, jI_shr1, jI_shr4, jI_shr0, jI_and1, jI_and15, jF_at, tn, b2_t, b2_f, cmp_ge, cmp_gt, cmp_le, cmp_lt, cmp_eq, jL_lit, jL_lt, jL_le, jL_eq, f1', er]) <;> omega) | omega)) | (with_reducible apply q_obk; · (first | with_reducible rfl | ((simp (disch := omega) only [jI_lit, jI_neg, jI_add, jI_sub, jI_mul, o_gI, o_gR, o_pI, o_pZ0, o_pZ1, o_pZb, o_pR, o_aI, o_qI, o_aN, tn, va_up_self, va_up_ne, upup, jI_shr1, jI_shr4, jI_shr0, jI_and1, jI_and15, jI_join, jI_240, jI_hi, jF_at, jF_up, jI_max, jI_min, b2_t, b2_f, Bool.not_true, Bool.not_false, eq_self, true_or, or_true, f1', er]) <;> with_reducible rfl))) | (with_reducible apply q_nz; · (first | ((simp (disch := omega) only [jI_lit, jI_neg, jI_add, jI_sub, jI_mul, jI_lt, jI_le, jI_eq, va_up_self, va_up_ne, jI_shr1, jI_shr4, jI_shr0, jI_and1, jI_and15, jF_at, tn, b2_t, b2_f, cmp_ge, cmp_gt, cmp_le, cmp_lt, cmp_eq, jL_lit, jL_lt, jL_le, jL_eq, f1', er]) <;> omega) | omega)) | (with_reducible apply q_rz; · (first | exact b2_01 _ | decide)))) <;> (first | with_reducible rfl | ((simp (disch := omega) only [jI_lit, jI_neg, jI_add, jI_sub, jI_mul, o_gI, o_gR, o_pI, o_pZ0, o_pZ1, o_pZb, o_pR, o_aI, o_qI, o_aN, tn, va_up_self, va_up_ne, upup, jI_shr1, jI_shr4, jI_shr0, jI_and1, jI_and15, jI_join, jI_240, jI_hi, jF_at, jF_up, jI_max, jI_min, b2_t, b2_f, Bool.not_true, Bool.not_false, eq_self, true_or, or_true, f1', er]) <;> with_reducible rfl) | rfl))
      · rw [stpN_st (by omega) c]; exact hp
  · intro s hp k'
    obtain ⟨I1, R1⟩ := s
    have hp : PI p x I R I1 R1 (stpN P many n r) := hp
    have hf' := Fs_fr h hf hp.2.2
    have f1' := hf'.2.2.1
    refine ⟨I1, R1, ?_, hp⟩
    show fX4_behind_10 k' f (jI (n : Int)) (jI (n : Int)) (K, I1, R1, L, N, w) = _
    clear hp hf' ok hI hf h hw hz
    unfold fX4_behind_10
    ((repeat (first | (with_reducible apply q_gd; · (first | assumption | omega)) | (with_reducible apply q_ob; · (first | with_reducible rfl | ((simp (disch := omega) only [jI_lit, jI_neg, jI_add, jI_sub, jI_mul, o_gI, o_gR, o_pI, o_pZ0, o_pZ1, o_pZb, o_pR, o_aI, o_qI, o_aN, tn, va_up_self, va_up_ne, upup, jI_shr1, jI_shr4, jI_shr0, jI_and1, jI_and15, jI_join, jI_240, jI_hi, jF_at, jF_up, jI_max, jI_min, b2_t, b2_f, Bool.not_true, Bool.not_false, eq_self, true_or, or_true, f1']) <;> with_reducible rfl))) | (with_reducible apply q_ob2; · (first | with_reducible rfl | ((simp (disch := omega) only [jI_lit, jI_neg, jI_add, jI_sub, jI_mul, o_gI, o_gR, o_pI, o_pZ0, o_pZ1, o_pZb, o_pR, o_aI, o_qI, o_aN, tn, va_up_self, va_up_ne, upup, jI_shr1, jI_shr4, jI_shr0, jI_and1, jI_and15, jI_join, jI_240, jI_hi, jF_at, jF_up, jI_max, jI_min, b2_t, b2_f, Bool.not_true, Bool.not_false, eq_self, true_or, or_true, f1']) <;> with_reducible rfl))) | (with_reducible apply q_lt; · (first | with_reducible rfl | ((simp (disch := omega) only [jI_lit, jI_neg, jI_add, jI_sub, jI_mul, o_gI, o_gR, o_pI, o_pZ0, o_pZ1, o_pZb, o_pR, o_aI, o_qI, o_aN, tn, va_up_self, va_up_ne, upup, jI_shr1, jI_shr4, jI_shr0, jI_and1, jI_and15, jI_join, jI_240, jI_hi, jF_at, jF_up, jI_max, jI_min, b2_t, b2_f, Bool.not_true, Bool.not_false, eq_self, true_or, or_true, f1']) <;> with_reducible rfl))) | (with_reducible apply q_ifp; · (first | ((simp (disch := omega) only [jI_lit, jI_neg, jI_add, jI_sub, jI_mul, jI_lt, jI_le, jI_eq, va_up_self, va_up_ne, jI_shr1, jI_shr4, jI_shr0, jI_and1, jI_and15, jF_at, tn, b2_t, b2_f, cmp_ge, cmp_gt, cmp_le, cmp_lt, cmp_eq, jL_lit, jL_lt, jL_le, jL_eq, f1']) <;> omega) | omega)) | (with_reducible apply q_ifn; · (first | ((simp (disch := omega) only [jI_lit, jI_neg, jI_add, jI_sub, jI_mul, jI_lt, jI_le, jI_eq, va_up_self, va_up_ne, jI_shr1, jI_shr4, jI_shr0, jI_and1, jI_and15, jF_at, tn, b2_t, b2_f, cmp_ge, cmp_gt, cmp_le, cmp_lt, cmp_eq, jL_lit, jL_lt, jL_le, jL_eq, f1']) <;> omega) | omega)) | (with_reducible apply q_obk; · (first | with_reducible rfl | ((simp (disch := omega) only [jI_lit, jI_neg, jI_add, jI_sub, jI_mul, o_gI, o_gR, o_pI, o_pZ0, o_pZ1, o_pZb, o_pR, o_aI, o_qI, o_aN, tn, va_up_self, va_up_ne, upup, jI_shr1, jI_shr4, jI_shr0, jI_and1, jI_and15, jI_join, jI_240, jI_hi, jF_at, jF_up, jI_max, jI_min, b2_t, b2_f, Bool.not_true, Bool.not_false, eq_self, true_or, or_true, f1']) <;> with_reducible rfl))) | (with_reducible apply q_nz; · (first | ((simp (disch := omega) only [jI_lit, jI_neg, jI_add, jI_sub, jI_mul, jI_lt, jI_le, jI_eq, va_up_self, va_up_ne, jI_shr1, jI_shr4, jI_shr0, jI_and1, jI_and15, jF_at, tn, b2_t, b2_f, cmp_ge, cmp_gt, cmp_le, cmp_lt, cmp_eq, jL_lit, jL_lt, jL_le, jL_eq, f1']) <;> omega) | omega)) | (with_reducible apply q_rz; · (first | exact b2_01 _ | decide)))) <;> (first | with_reducible rfl | ((simp (disch := omega) only [jI_lit, jI_neg, jI_add, jI_sub, jI_mul, o_gI, o_gR, o_pI, o_pZ0, o_pZ1, o_pZb, o_pR, o_aI, o_qI, o_aN, tn, va_up_self, va_up_ne, upup, jI_shr1, jI_shr4, jI_shr0, jI_and1, jI_and15, jI_join, jI_240, jI_hi, jF_at, jF_up, jI_max, jI_min, b2_t, b2_f, Bool.not_true, Bool.not_false, eq_self, true_or, or_true, f1']) <;> with_reducible rfl) | rfl))
end FS
