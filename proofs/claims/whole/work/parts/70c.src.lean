section SRC
variable {K : Nat → Nat} {I : Nat → Nat → Int32} {R : Nat → Nat → Nat} {L : Nat → Nat → Int64} {N : Nat → Nat} {w : Nat × Nat × Nat × Nat}
abbrev OB : Type := Option (Bool × Bool)
def enc : OB → Int
  | none => -1
  | some (is, be) => (stn is be : Nat)
theorem enc_r (s : OB) : -1 ≤ enc s ∧ enc s ≤ 3 := by
  cases s with
  | none => exact ⟨by decide, by decide⟩
  | some b =>
    obtain ⟨is, be⟩ := b
    have := stn_lt is be
    show -1 ≤ ((stn is be : Nat) : Int) ∧ ((stn is be : Nat) : Int) ≤ 3
    omega
theorem enc_n (s : OB) : enc s = -1 ↔ s.isSome = false := by
  cases s with
  | none => exact ⟨fun _ => rfl, fun _ => rfl⟩
  | some b =>
    obtain ⟨is, be⟩ := b
    have : enc (some (is, be)) = (stn is be : Nat) := rfl
    rw [this]
    exact ⟨fun q => by omega, fun q => by simp at q⟩
/-- the state behind a byte, as far as a row of digits goes that way -/
def wayO (c v : Nat → Int) (n k : Nat) (s : OB) (d : Int) : OB := match s with
  | none => none
  | some (is, be) => if v k = ldv (c k) (c 0) is d then (if wy c v n (n - 1 - k) (sbv (c k) is d (decide ((k : Int) = lstD c n) && !be)) be = 0 then none else some (sbv (c k) is d (decide ((k : Int) = lstD c n) && !be), be)) else none
theorem e_way {e n k : Nat} {c v : Nat → Int} {s : OB} {d : Int} (h : Sr K I R N e n c v) (hk : k < n) (h1 : 0 ≤ d) (h2 : d < 10) (hL : ∀ m, m < 4 * (n + 1) → L (e + 4) m = jL (wvt c v n m : Nat)) :
    fX3_way e (jI (k : Int)) (jI (enc s)) (jI d) (K, I, R, L, N, w) = some (jI (enc (wayO c v n k s d))) := by
  have hh := h
  obtain ⟨ed, hn, hc, hv, i5, i14, i16, hr⟩ := hh
  obtain ⟨k3, r0, r1, r2, r3, k1, n1, k2, n2, k3', n3, k4, n4⟩ := ed
  cases s with
  | none =>
    show fX3_way e (jI (k : Int)) (jI (-1)) (jI d) (K, I, R, L, N, w) = some (jI (-1))
    clear h hc hv hr hL
    unfold fX3_way fX3_way_16
    ((repeat (first | (with_reducible apply q_gd; · (first | assumption | omega)) | (with_reducible apply q_ob; · (first | with_reducible rfl | ((simp (disch := omega) only [jI_lit, jI_neg, jI_add, jI_sub, jI_mul, o_gI, o_gR, o_pI, o_pZ0, o_pZ1, o_pZb, o_pR, o_aI, o_qI, o_aN, tn, va_up_self, va_up_ne, upup, jI_shr1, jI_shr4, jI_shr0, jI_and1, jI_and15, jI_join, jI_240, jI_hi, jF_at, jF_up, jI_max, jI_min, b2_t, b2_f, Bool.not_true, Bool.not_false, eq_self, true_or, or_true]) <;> with_reducible rfl))) | (with_reducible apply q_ob2; · (first | with_reducible rfl | ((simp (disch := omega) only [jI_lit, jI_neg, jI_add, jI_sub, jI_mul, o_gI, o_gR, o_pI, o_pZ0, o_pZ1, o_pZb, o_pR, o_aI, o_qI, o_aN, tn, va_up_self, va_up_ne, upup, jI_shr1, jI_shr4, jI_shr0, jI_and1, jI_and15, jI_join, jI_240, jI_hi, jF_at, jF_up, jI_max, jI_min, b2_t, b2_f, Bool.not_true, Bool.not_false, eq_self, true_or, or_true]) <;> with_reducible rfl))) | (with_reducible apply q_lt; · (first | with_reducible rfl | ((simp (disch := omega) only [jI_lit, jI_neg, jI_add, jI_sub, jI_mul, o_gI, o_gR, o_pI, o_pZ0, o_pZ1, o_pZb, o_pR, o_aI, o_qI, o_aN, tn, va_up_self, va_up_ne, upup, jI_shr1, jI_shr4, jI_shr0, jI_and1, jI_and15, jI_join, jI_240, jI_hi, jF_at, jF_up, jI_max, jI_min, b2_t, b2_f, Bool.not_true, Bool.not_false, eq_self, true_or, or_true]) <;> with_reducible rfl))) | (with_reducible apply q_ifp; · (first | ((simp (disch := omega) only [jI_lit, jI_neg, jI_add, jI_sub, jI_mul, jI_lt, jI_le, jI_eq, va_up_self, va_up_ne, jI_shr1, jI_shr4, jI_shr0, jI_and1, jI_and15, jF_at, tn, b2_t, b2_f, cmp_ge, cmp_gt, cmp_le, cmp_lt, cmp_eq, jL_lit, jL_lt, jL_le, jL_eq]) <;> omega) | omega)) | (with_reducible apply q_ifn; · (first | ((simp (disch := omega) only [jI_lit, jI_neg, jI_add, jI_sub, jI_mul, jI_lt, jI_le, jI_eq, va_up_self, va_up_ne, jI_shr1, jI_shr4, jI_shr0, jI_and1, jI_and15, jF_at, tn, b2_t, b2_f, cmp_ge, cmp_gt, cmp_le, cmp_lt, cmp_eq, jL_lit, jL_lt, jL_le, jL_eq]) <;> omega) | omega)) | (with_reducible apply q_obk; · (first | with_reducible rfl | ((simp (disch := omega) only [jI_lit, jI_neg, jI_add, jI_sub, jI_mul, o_gI, o_gR, o_pI, o_pZ0, o_pZ1, o_pZb, o_pR, o_aI, o_qI, o_aN, tn, va_up_self, va_up_ne, upup, jI_shr1, jI_shr4, jI_shr0, jI_and1, jI_and15, jI_join, jI_240, jI_hi, jF_at, jF_up, jI_max, jI_min, b2_t, b2_f, Bool.not_true, Bool.not_false, eq_self, true_or, or_true]) <;> with_reducible rfl))) | (with_reducible apply q_nz; · (first | ((simp (disch := omega) only [jI_lit, jI_neg, jI_add, jI_sub, jI_mul, jI_lt, jI_le, jI_eq, va_up_self, va_up_ne, jI_shr1, jI_shr4, jI_shr0, jI_and1, jI_and15, jF_at, tn, b2_t, b2_f, cmp_ge, cmp_gt, cmp_le, cmp_lt, cmp_eq, jL_lit, jL_lt, jL_le, jL_eq]) <;> omega) | omega)) | (with_reducible apply q_rz; · (first | exact b2_01 _ | decide)))) <;> (first | with_reducible rfl | ((simp (disch := omega) only [jI_lit, jI_neg, jI_add, jI_sub, jI_mul, o_gI, o_gR, o_pI, o_pZ0, o_pZ1, o_pZb, o_pR, o_aI, o_qI, o_aN, tn, va_up_self, va_up_ne, upup, jI_shr1, jI_shr4, jI_shr0, jI_and1, jI_and15, jI_join, jI_240, jI_hi, jF_at, jF_up, jI_max, jI_min, b2_t, b2_f, Bool.not_true, Bool.not_false, eq_self, true_or, or_true]) <;> with_reducible rfl) | rfl))
  | some b =>
    obtain ⟨is, be⟩ := b
    have es := e_stateB (L := L) (w := w) (is := is) (be := be) h hk h1 h2
    have s4 := stn_lt is be
    show fX3_way e (jI (k : Int)) (jI ((stn is be : Nat) : Int)) (jI d) (K, I, R, L, N, w) = some (jI (enc (if v k = ldv (c k) (c 0) is d then _ else none)))
    unfold bhd at es
    by_cases q : v k = ldv (c k) (c 0) is d
    · rw [if_pos q] at es
      rw [if_pos q]
      obtain ⟨is', his⟩ : ∃ is', is' = sbv (c k) is d (decide ((k : Int) = lstD c n) && !be) := ⟨_, rfl⟩
      rw [← his] at es
      rw [← his]
      have s4' := stn_lt is' be
      have hl := hL (4 * (k + 1) + stn is' be) (by omega)
      rw [wvt_at, show n - (k + 1) = n - 1 - k by omega] at hl
      have hle := wy_le c v n (n - 1 - k) is' be
      have p : 2 ^ (n - 1 - k) ≤ 2 ^ 32 := Nat.pow_le_pow_right (by omega) (by omega)
      obtain ⟨W, hW⟩ : ∃ W, W = wy c v n (n - 1 - k) is' be := ⟨_, rfl⟩
      rw [← hW] at hl hle ⊢
      have ei : (4 * ((k : Int) + 1) + ((stn is' be : Nat) : Int)).toNat = 4 * (k + 1) + stn is' be := by omega
      have eq : aL (e + 4) (jI (4 * ((k : Int) + 1) + ((stn is' be : Nat) : Int))) (K, I, R, L, N, w) = some (jL (W : Nat)) := by
        rw [o_aL k4 (by omega) (by omega) (by omega), ei, hl]
      have ecm : (lg_cmp (jL (W : Nat)) 0 = 0) ↔ W = 0 := by
        rw [show (0 : Int32) = jI 0 from rfl, cmp_eq, show (0 : Int64) = jL 0 from rfl, jL_eq (by omega) (by omega) (by omega) (by omega)]
        omega
      obtain ⟨ss, hss⟩ : ∃ ss, ss = stn is' be := ⟨_, rfl⟩
      rw [← hss] at es eq s4'
      have n1' : ¬ (jI ((stn is be : Nat) : Int) = -1) := by rw [show (-1 : Int32) = jI (-1) from rfl, jI_eq (by omega) (by omega) (by omega) (by omega)]; omega
      have n2' : ¬ (jI (ss : Int) = -1) := by rw [show (-1 : Int32) = jI (-1) from rfl, jI_eq (by omega) (by omega) (by omega) (by omega)]; omega
      have ea : (4 : Int32) * (jI (k : Int) + 1) + jI (ss : Int) = jI (4 * ((k : Int) + 1) + (ss : Int)) := by
        rw [show (4 : Int32) = jI 4 from rfl, show (1 : Int32) = jI 1 from rfl, jI_add, jI_mul, jI_add]
      unfold fX3_way fX3_way_16
      rw [o_gd _ k3, if_neg n1', es, o_ob, if_neg n2', o_gR k3, o_ob, r3, ea, eq, o_ob]
      by_cases w0 : W = 0
      · rw [if_pos (ecm.2 w0), if_pos w0]; rfl
      · rw [if_neg (fun q => w0 (ecm.1 q)), if_neg w0, hss]; rfl
    · rw [if_neg q] at es
      rw [if_neg q]
      show _ = some (jI (-1))
      clear h hc hv hr hL
      unfold fX3_way fX3_way_16
      ((repeat (first | (with_reducible apply q_gd; · (first | assumption | omega)) | (with_reducible apply q_ob; · (first | with_reducible rfl | ((simp (disch := omega) only [jI_lit, jI_neg, jI_add, jI_sub, jI_mul, o_gI, o_gR, o_pI, o_pZ0, o_pZ1, o_pZb, o_pR, o_aI, o_qI, o_aN, tn, va_up_self, va_up_ne, upup, jI_shr1, jI_shr4, jI_shr0, jI_and1, jI_and15, jI_join, jI_240, jI_hi, jF_at, jF_up, jI_max, jI_min, b2_t, b2_f, Bool.not_true, Bool.not_false, eq_self, true_or, or_true, es]) <;> with_reducible rfl))) | (with_reducible apply q_ob2; · (first | with_reducible rfl | ((simp (disch := omega) only [jI_lit, jI_neg, jI_add, jI_sub, jI_mul, o_gI, o_gR, o_pI, o_pZ0, o_pZ1, o_pZb, o_pR, o_aI, o_qI, o_aN, tn, va_up_self, va_up_ne, upup, jI_shr1, jI_shr4, jI_shr0, jI_and1, jI_and15, jI_join, jI_240, jI_hi, jF_at, jF_up, jI_max, jI_min, b2_t, b2_f, Bool.not_true, Bool.not_false, eq_self, true_or, or_true, es]) <;> with_reducible rfl))) | (with_reducible apply q_lt; · (first | with_reducible rfl | ((simp (disch := omega) only [jI_lit, jI_neg, jI_add, jI_sub, jI_mul, o_gI, o_gR, o_pI, o_pZ0, o_pZ1, o_pZb, o_pR, o_aI, o_qI, o_aN, tn, va_up_self, va_up_ne, upup, jI_shr1, jI_shr4, jI_shr0, jI_and1, jI_and15, jI_join, jI_240, jI_hi, jF_at, jF_up, jI_max, jI_min, b2_t, b2_f, Bool.not_true, Bool.not_false, eq_self, true_or, or_true, es]) <;> with_reducible rfl))) | (with_reducible apply q_ifp; · (first | ((simp (disch := omega) only [jI_lit, jI_neg, jI_add, jI_sub, jI_mul, jI_lt, jI_le, jI_eq, va_up_self, va_up_ne, jI_shr1, jI_shr4, jI_shr0, jI_and1, jI_and15, jF_at, tn, b2_t, b2_f, cmp_ge, cmp_gt, cmp_le, cmp_lt, cmp_eq, jL_lit, jL_lt, jL_le, jL_eq, es]) <;> omega) | omega)) | (with_reducible apply q_ifn; · (first | ((simp (disch := omega) only [jI_lit, jI_neg, jI_add, jI_sub, jI_mul, jI_lt, jI_le, jI_eq, va_up_self, va_up_ne, jI_shr1, jI_shr4, jI_shr0, jI_and1, jI_and15, jF_at, tn, b2_t, b2_f, cmp_ge, cmp_gt, cmp_le, cmp_lt, cmp_eq, jL_lit, jL_lt, jL_le, jL_eq, es]) <;> omega) | omega)) | (with_reducible apply q_obk; · (first | with_reducible rfl | ((simp (disch := omega) only [jI_lit, jI_neg, jI_add, jI_sub, jI_mul, o_gI, o_gR, o_pI, o_pZ0, o_pZ1, o_pZb, o_pR, o_aI, o_qI, o_aN, tn, va_up_self, va_up_ne, upup, jI_shr1, jI_shr4, jI_shr0, jI_and1, jI_and15, jI_join, jI_240, jI_hi, jF_at, jF_up, jI_max, jI_min, b2_t, b2_f, Bool.not_true, Bool.not_false, eq_self, true_or, or_true, es]) <;> with_reducible rfl))) | (with_reducible apply q_nz; · (first | ((simp (disch := omega) only [jI_lit, jI_neg, jI_add, jI_sub, jI_mul, jI_lt, jI_le, jI_eq, va_up_self, va_up_ne, jI_shr1, jI_shr4, jI_shr0, jI_and1, jI_and15, jF_at, tn, b2_t, b2_f, cmp_ge, cmp_gt, cmp_le, cmp_lt, cmp_eq, jL_lit, jL_lt, jL_le, jL_eq, es]) <;> omega) | omega)) | (with_reducible apply q_rz; · (first | exact b2_01 _ | decide)))) <;> (first | with_reducible rfl | ((simp (disch := omega) only [jI_lit, jI_neg, jI_add, jI_sub, jI_mul, o_gI, o_gR, o_pI, o_pZ0, o_pZ1, o_pZb, o_pR, o_aI, o_qI, o_aN, tn, va_up_self, va_up_ne, upup, jI_shr1, jI_shr4, jI_shr0, jI_and1, jI_and15, jI_join, jI_240, jI_hi, jF_at, jF_up, jI_max, jI_min, b2_t, b2_f, Bool.not_true, Bool.not_false, eq_self, true_or, or_true, es]) <;> with_reducible rfl) | rfl))
/-- the first digit by which a row of digits goes on -/
def fdq (c v : Nat → Int) (n k : Nat) (a b : OB) (d : Nat) : Bool := (wayO c v n k a (d : Int)).isSome || (wayO c v n k b (d : Int)).isSome
def fdg (c v : Nat → Int) (n k : Nat) (a b : OB) : Nat := if fnd (fdq c v n k a b) 0 9 = -1 then 9 else (fnd (fdq c v n k a b) 0 9).toNat
theorem fdg_r (c v : Nat → Int) (n k : Nat) (a b : OB) : fdg c v n k a b < 10 := by
  have := fnd_m (q := fdq c v n k a b) (lo := 0) (m := 9)
  unfold fdg
  split <;> omega
/-- ahead of a byte: the states, by either sign, and how many digits are taken -/
def fsO (c v : Nat → Int) (n : Nat) : Nat → OB × OB × Nat
  | 0 => (if 0 < wy c v n n false false then some (false, false) else none, if 0 < wy c v n n false true then some (false, true) else none, 0)
  | k + 1 => (wayO c v n k (fsO c v n k).1 (fdg c v n k (fsO c v n k).1 (fsO c v n k).2.1 : Nat), wayO c v n k (fsO c v n k).2.1 (fdg c v n k (fsO c v n k).1 (fsO c v n k).2.1 : Nat), if isD (c k) then (fsO c v n k).2.2 + 1 else (fsO c v n k).2.2)
def fsq (c v : Nat → Int) (n : Nat) (wt : Int) (k : Nat) : Bool := isD (c k) && (((fsO c v n k).2.2 : Nat) : Int) == wt
def fsA (c v : Nat → Int) (n : Nat) (wt : Int) : Int :=
  if fnd (fsq c v n wt) 0 n = -1 then (if (fsO c v n n).1.isSome then 0 else 1) else (fdg c v n (fnd (fsq c v n wt) 0 n).toNat (fsO c v n (fnd (fsq c v n wt) 0 n).toNat).1 (fsO c v n (fnd (fsq c v n wt) 0 n).toNat).2.1 : Nat)
theorem fs_t (c v : Nat → Int) (n : Nat) : ∀ k, (fsO c v n k).2.2 ≤ k
  | 0 => Nat.le_refl _
  | k + 1 => by
    have := fs_t c v n k
    show (if isD (c k) then (fsO c v n k).2.2 + 1 else (fsO c v n k).2.2) ≤ k + 1
    split <;> omega
/-- a byte's digit is looked for -/
theorem e_fdg {e n k : Nat} {c v : Nat → Int} {a b : OB} {t wt : Int} (h : Sr K I R N e n c v) (hk : k < n) (hL : ∀ m, m < 4 * (n + 1) → L (e + 4) m = jL (wvt c v n m : Nat)) (k40 : Nat → Int32 → Int32 → Int32 → Int32 → Int32 → Option (Int32)) :
    lp (fun _ _ _ _ _ _ _ => none) (fX3_firstSource_52 (K, I, R, L, N, w) k40) FU e (jI wt) (jI (enc a)) (jI (enc b)) (jI t) (jI (k : Int)) (jI ((0 : Nat) : Int)) = fX3_firstSource_91 (K, I, R, L, N, w) k40 e (jI wt) (jI (enc a)) (jI (enc b)) (jI t) (jI (k : Int)) (jI (fdg c v n k a b : Nat)) := by
  have k3 := h.1.1
  have key := lp_sr (z := fun _ _ _ _ _ _ _ => none) (S := fX3_firstSource_52 (K, I, R, L, N, w) k40) (β := Int32) (σ := Unit) (fun kk d _ => kk e (jI wt) (jI (enc a)) (jI (enc b)) (jI t) (jI (k : Int)) (jI (d : Int))) 9
    (fun d _ => ∀ j, 0 ≤ j → j < d → fdq c v n k a b j = false) (fun res => res = fX3_firstSource_91 (K, I, R, L, N, w) k40 e (jI wt) (jI (enc a)) (jI (enc b)) (jI t) (jI (k : Int)) (jI (fdg c v n k a b : Nat))) ?_ ?_ FU 0 () (by omega) (FU_lt (by omega)) (fun j _ hj => by omega)
  · exact key
  · intro d st hd hq kk
    have ea := e_way (w := w) (s := a) (d := (d : Int)) h hk (by omega) (by omega) hL
    have eb := e_way (w := w) (s := b) (d := (d : Int)) h hk (by omega) (by omega) hL
    have e2 : (d : Int) + 1 = ((d + 1 : Nat) : Int) := by omega
    have ra := enc_r (wayO c v n k a (d : Int))
    have rb := enc_r (wayO c v n k b (d : Int))
    have na := enc_n (wayO c v n k a (d : Int))
    have nb := enc_n (wayO c v n k b (d : Int))
    have hqd : fdq c v n k a b d = ((wayO c v n k a (d : Int)).isSome || (wayO c v n k b (d : Int)).isSome) := rfl
    obtain ⟨za, hza⟩ : ∃ z, z = enc (wayO c v n k a (d : Int)) := ⟨_, rfl⟩
    obtain ⟨zb, hzb⟩ : ∃ z, z = enc (wayO c v n k b (d : Int)) := ⟨_, rfl⟩
    rw [← hza] at ea ra na
    rw [← hzb] at eb rb nb
    by_cases ca : za = -1
    · by_cases cb : zb = -1
      · right
        refine ⟨(), fun j _ hj => ?_, ?_⟩
        · by_cases cj : j = d
          · rw [cj, hqd, na.1 ca, nb.1 cb]; rfl
          · exact hq j (by omega) (by omega)
        · show fX3_firstSource_52 (K, I, R, L, N, w) k40 kk e (jI wt) (jI (enc a)) (jI (enc b)) (jI t) (jI (k : Int)) (jI (d : Int)) = kk e (jI wt) (jI (enc a)) (jI (enc b)) (jI t) (jI (k : Int)) (jI ((d + 1 : Nat) : Int))
          rw [ca] at ea
          rw [cb] at eb
          clear h hL hq na nb hqd hza hzb
          unfold fX3_firstSource_52
          ((repeat (first | (with_reducible apply q_gd; · (first | assumption | omega)) | (with_reducible apply q_ob; · (first | with_reducible rfl | ((simp (disch := omega) only [jI_lit, jI_neg, jI_add, jI_sub, jI_mul, o_gI, o_gR, o_pI, o_pZ0, o_pZ1, o_pZb, o_pR, o_aI, o_qI, o_aN, tn, va_up_self, va_up_ne, upup, jI_shr1, jI_shr4, jI_shr0, jI_and1, jI_and15, jI_join, jI_240, jI_hi, jF_at, jF_up, jI_max, jI_min, b2_t, b2_f, Bool.not_true, Bool.not_false, eq_self, true_or, or_true, ea, eb, e2]) <;> with_reducible rfl))) | (with_reducible apply q_ob2; · (first | with_reducible rfl | ((simp (disch := omega) only [jI_lit, jI_neg, jI_add, jI_sub, jI_mul, o_gI, o_gR, o_pI, o_pZ0, o_pZ1, o_pZb, o_pR, o_aI, o_qI, o_aN, tn, va_up_self, va_up_ne, upup, jI_shr1, jI_shr4, jI_shr0, jI_and1, jI_and15, jI_join, jI_240, jI_hi, jF_at, jF_up, jI_max, jI_min, b2_t, b2_f, Bool.not_true, Bool.not_false, eq_self, true_or, or_true, ea, eb, e2]) <;> with_reducible rfl))) | (with_reducible apply q_lt; · (first | with_reducible rfl | ((simp (disch := omega) only [jI_lit, jI_neg, jI_add, jI_sub, jI_mul, o_gI, o_gR, o_pI, o_pZ0, o_pZ1, o_pZb, o_pR, o_aI, o_qI, o_aN, tn, va_up_self, va_up_ne, upup, jI_shr1, jI_shr4, jI_shr0, jI_and1, jI_and15, jI_join, jI_240, jI_hi, jF_at, jF_up, jI_max, jI_min, b2_t, b2_f, Bool.not_true, Bool.not_false, eq_self, true_or, or_true, ea, eb, e2]) <;> with_reducible rfl))) | (with_reducible apply q_ifp; · (first | ((simp (disch := omega) only [jI_lit, jI_neg, jI_add, jI_sub, jI_mul, jI_lt, jI_le, jI_eq, va_up_self, va_up_ne, jI_shr1, jI_shr4, jI_shr0, jI_and1, jI_and15, jF_at, tn, b2_t, b2_f, cmp_ge, cmp_gt, cmp_le, cmp_lt, cmp_eq, jL_lit, jL_lt, jL_le, jL_eq, ea, eb, e2]) <;> omega) | omega)) | (with_reducible apply q_ifn; · (first | ((simp (disch := omega) only [jI_lit, jI_neg, jI_add, jI_sub, jI_mul, jI_lt, jI_le, jI_eq, va_up_self, va_up_ne, jI_shr1, jI_shr4, jI_shr0, jI_and1, jI_and15, jF_at, tn, b2_t, b2_f, cmp_ge, cmp_gt, cmp_le, cmp_lt, cmp_eq, jL_lit, jL_lt, jL_le, jL_eq, ea, eb, e2]) <;> omega) | omega)) | (with_reducible apply q_obk; · (first | with_reducible rfl | ((simp (disch := omega) only [jI_lit, jI_neg, jI_add, jI_sub, jI_mul, o_gI, o_gR, o_pI, o_pZ0, o_pZ1, o_pZb, o_pR, o_aI, o_qI, o_aN, tn, va_up_self, va_up_ne, upup, jI_shr1, jI_shr4, jI_shr0, jI_and1, jI_and15, jI_join, jI_240, jI_hi, jF_at, jF_up, jI_max, jI_min, b2_t, b2_f, Bool.not_true, Bool.not_false, eq_self, true_or, or_true, ea, eb, e2]) <;> with_reducible rfl))) | (with_reducible apply q_nz; · (first | ((simp (disch := omega) only [jI_lit, jI_neg, jI_add, jI_sub, jI_mul, jI_lt, jI_le, jI_eq, va_up_self, va_up_ne, jI_shr1, jI_shr4, jI_shr0, jI_and1, jI_and15, jF_at, tn, b2_t, b2_f, cmp_ge, cmp_gt, cmp_le, cmp_lt, cmp_eq, jL_lit, jL_lt, jL_le, jL_eq, ea, eb, e2]) <;> omega) | omega)) | (with_reducible apply q_rz; · (first | exact b2_01 _ | decide)))) <;> (first | with_reducible rfl | ((simp (disch := omega) only [jI_lit, jI_neg, jI_add, jI_sub, jI_mul, o_gI, o_gR, o_pI, o_pZ0, o_pZ1, o_pZb, o_pR, o_aI, o_qI, o_aN, tn, va_up_self, va_up_ne, upup, jI_shr1, jI_shr4, jI_shr0, jI_and1, jI_and15, jI_join, jI_240, jI_hi, jF_at, jF_up, jI_max, jI_min, b2_t, b2_f, Bool.not_true, Bool.not_false, eq_self, true_or, or_true, ea, eb, e2]) <;> with_reducible rfl) | rfl))
      · left
        have hqi : fdq c v n k a b d = true := by
          rw [hqd]
          cases hs : (wayO c v n k b (d : Int)).isSome with
          | true => simp
          | false => exact absurd (nb.2 hs) cb
        have ef : fdg c v n k a b = d := by
          unfold fdg
          rw [fnd_is (by omega) (by omega) hqi hq, if_neg (by omega)]
          omega
        show fX3_firstSource_52 (K, I, R, L, N, w) k40 kk e (jI wt) (jI (enc a)) (jI (enc b)) (jI t) (jI (k : Int)) (jI (d : Int)) = _
        rw [ef]
        rw [ca] at ea
        clear h hL hq na nb hqd hza hzb hqi ef
        unfold fX3_firstSource_52
        ((repeat (first | (with_reducible apply q_gd; · (first | assumption | omega)) | (with_reducible apply q_ob; · (first | with_reducible rfl | ((simp (disch := omega) only [jI_lit, jI_neg, jI_add, jI_sub, jI_mul, o_gI, o_gR, o_pI, o_pZ0, o_pZ1, o_pZb, o_pR, o_aI, o_qI, o_aN, tn, va_up_self, va_up_ne, upup, jI_shr1, jI_shr4, jI_shr0, jI_and1, jI_and15, jI_join, jI_240, jI_hi, jF_at, jF_up, jI_max, jI_min, b2_t, b2_f, Bool.not_true, Bool.not_false, eq_self, true_or, or_true, ea, eb]) <;> with_reducible rfl))) | (with_reducible apply q_ob2; · (first | with_reducible rfl | ((simp (disch := omega) only [jI_lit, jI_neg, jI_add, jI_sub, jI_mul, o_gI, o_gR, o_pI, o_pZ0, o_pZ1, o_pZb, o_pR, o_aI, o_qI, o_aN, tn, va_up_self, va_up_ne, upup, jI_shr1, jI_shr4, jI_shr0, jI_and1, jI_and15, jI_join, jI_240, jI_hi, jF_at, jF_up, jI_max, jI_min, b2_t, b2_f, Bool.not_true, Bool.not_false, eq_self, true_or, or_true, ea, eb]) <;> with_reducible rfl))) | (with_reducible apply q_lt; · (first | with_reducible rfl | ((simp (disch := omega) only [jI_lit, jI_neg, jI_add, jI_sub, jI_mul, o_gI, o_gR, o_pI, o_pZ0, o_pZ1, o_pZb, o_pR, o_aI, o_qI, o_aN, tn, va_up_self, va_up_ne, upup, jI_shr1, jI_shr4, jI_shr0, jI_and1, jI_and15, jI_join, jI_240, jI_hi, jF_at, jF_up, jI_max, jI_min, b2_t, b2_f, Bool.not_true, Bool.not_false, eq_self, true_or, or_true, ea, eb]) <;> with_reducible rfl))) | (with_reducible apply q_ifp; · (first | ((simp (disch := omega) only [jI_lit, jI_neg, jI_add, jI_sub, jI_mul, jI_lt, jI_le, jI_eq, va_up_self, va_up_ne, jI_shr1, jI_shr4, jI_shr0, jI_and1, jI_and15, jF_at, tn, b2_t, b2_f, cmp_ge, cmp_gt, cmp_le, cmp_lt, cmp_eq, jL_lit, jL_lt, jL_le, jL_eq, ea, eb]) <;> omega) | omega)) | (with_reducible apply q_ifn; · (first | ((simp (disch := omega) only [jI_lit, jI_neg, jI_add, jI_sub, jI_mul, jI_lt, jI_le, jI_eq, va_up_self, va_up_ne, jI_shr1, jI_shr4, jI_shr0, jI_and1, jI_and15, jF_at, tn, b2_t, b2_f, cmp_ge, cmp_gt, cmp_le, cmp_lt, cmp_eq, jL_lit, jL_lt, jL_le, jL_eq, ea, eb]) <;> omega) | omega)) | (with_reducible apply q_obk; · (first | with_reducible rfl | ((simp (disch := omega) only [jI_lit, jI_neg, jI_add, jI_sub, jI_mul, o_gI, o_gR, o_pI, o_pZ0, o_pZ1, o_pZb, o_pR, o_aI, o_qI, o_aN, tn, va_up_self, va_up_ne, upup, jI_shr1, jI_shr4, jI_shr0, jI_and1, jI_and15, jI_join, jI_240, jI_hi, jF_at, jF_up, jI_max, jI_min, b2_t, b2_f, Bool.not_true, Bool.not_false, eq_self, true_or, or_true, ea, eb]) <;> with_reducible rfl))) | (with_reducible apply q_nz; · (first | ((simp (disch := omega) only [jI_lit, jI_neg, jI_add, jI_sub, jI_mul, jI_lt, jI_le, jI_eq, va_up_self, va_up_ne, jI_shr1, jI_shr4, jI_shr0, jI_and1, jI_and15, jF_at, tn, b2_t, b2_f, cmp_ge, cmp_gt, cmp_le, cmp_lt, cmp_eq, jL_lit, jL_lt, jL_le, jL_eq, ea, eb]) <;> omega) | omega)) | (with_reducible apply q_rz; · (first | exact b2_01 _ | decide)))) <;> (first | with_reducible rfl | ((simp (disch := omega) only [jI_lit, jI_neg, jI_add, jI_sub, jI_mul, o_gI, o_gR, o_pI, o_pZ0, o_pZ1, o_pZb, o_pR, o_aI, o_qI, o_aN, tn, va_up_self, va_up_ne, upup, jI_shr1, jI_shr4, jI_shr0, jI_and1, jI_and15, jI_join, jI_240, jI_hi, jF_at, jF_up, jI_max, jI_min, b2_t, b2_f, Bool.not_true, Bool.not_false, eq_self, true_or, or_true, ea, eb]) <;> with_reducible rfl) | rfl))
    · left
      have hqi : fdq c v n k a b d = true := by
        rw [hqd]
        cases hs : (wayO c v n k a (d : Int)).isSome with
        | true => simp
        | false => exact absurd (na.2 hs) ca
      have ef : fdg c v n k a b = d := by
        unfold fdg
        rw [fnd_is (by omega) (by omega) hqi hq, if_neg (by omega)]
        omega
      show fX3_firstSource_52 (K, I, R, L, N, w) k40 kk e (jI wt) (jI (enc a)) (jI (enc b)) (jI t) (jI (k : Int)) (jI (d : Int)) = _
      rw [ef]
      clear h hL hq na nb hqd hza hzb hqi ef
      unfold fX3_firstSource_52
      ((repeat (first | (with_reducible apply q_gd; · (first | assumption | omega)) | (with_reducible apply q_ob; · (first | with_reducible rfl | ((simp (disch := omega) only [jI_lit, jI_neg, jI_add, jI_sub, jI_mul, o_gI, o_gR, o_pI, o_pZ0, o_pZ1, o_pZb, o_pR, o_aI, o_qI, o_aN, tn, va_up_self, va_up_ne, upup, jI_shr1, jI_shr4, jI_shr0, jI_and1, jI_and15, jI_join, jI_240, jI_hi, jF_at, jF_up, jI_max, jI_min, b2_t, b2_f, Bool.not_true, Bool.not_false, eq_self, true_or, or_true, ea]) <;> with_reducible rfl))) | (with_reducible apply q_ob2; · (first | with_reducible rfl | ((simp (disch := omega) only [jI_lit, jI_neg, jI_add, jI_sub, jI_mul, o_gI, o_gR, o_pI, o_pZ0, o_pZ1, o_pZb, o_pR, o_aI, o_qI, o_aN, tn, va_up_self, va_up_ne, upup, jI_shr1, jI_shr4, jI_shr0, jI_and1, jI_and15, jI_join, jI_240, jI_hi, jF_at, jF_up, jI_max, jI_min, b2_t, b2_f, Bool.not_true, Bool.not_false, eq_self, true_or, or_true, ea]) <;> with_reducible rfl))) | (with_reducible apply q_lt; · (first | with_reducible rfl | ((simp (disch := omega) only [jI_lit, jI_neg, jI_add, jI_sub, jI_mul, o_gI, o_gR, o_pI, o_pZ0, o_pZ1, o_pZb, o_pR, o_aI, o_qI, o_aN, tn, va_up_self, va_up_ne, upup, jI_shr1, jI_shr4, jI_shr0, jI_and1, jI_and15, jI_join, jI_240, jI_hi, jF_at, jF_up, jI_max, jI_min, b2_t, b2_f, Bool.not_true, Bool.not_false, eq_self, true_or, or_true, ea]) <;> with_reducible rfl))) | (with_reducible apply q_ifp; · (first | ((simp (disch := omega) only [jI_lit, jI_neg, jI_add, jI_sub, jI_mul, jI_lt, jI_le, jI_eq, va_up_self, va_up_ne, jI_shr1, jI_shr4, jI_shr0, jI_and1, jI_and15, jF_at, tn, b2_t, b2_f, cmp_ge, cmp_gt, cmp_le, cmp_lt, cmp_eq, jL_lit, jL_lt, jL_le, jL_eq, ea]) <;> omega) | omega)) | (with_reducible apply q_ifn; · (first | ((simp (disch := omega) only [jI_lit, jI_neg, jI_add, jI_sub, jI_mul, jI_lt, jI_le, jI_eq, va_up_self, va_up_ne, jI_shr1, jI_shr4, jI_shr0, jI_and1, jI_and15, jF_at, tn, b2_t, b2_f, cmp_ge, cmp_gt, cmp_le, cmp_lt, cmp_eq, jL_lit, jL_lt, jL_le, jL_eq, ea]) <;> omega) | omega)) | (with_reducible apply q_obk; · (first | with_reducible rfl | ((simp (disch := omega) only [jI_lit, jI_neg, jI_add, jI_sub, jI_mul, o_gI, o_gR, o_pI, o_pZ0, o_pZ1, o_pZb, o_pR, o_aI, o_qI, o_aN, tn, va_up_self, va_up_ne, upup, jI_shr1, jI_shr4, jI_shr0, jI_and1, jI_and15, jI_join, jI_240, jI_hi, jF_at, jF_up, jI_max, jI_min, b2_t, b2_f, Bool.not_true, Bool.not_false, eq_self, true_or, or_true, ea]) <;> with_reducible rfl))) | (with_reducible apply q_nz; · (first | ((simp (disch := omega) only [jI_lit, jI_neg, jI_add, jI_sub, jI_mul, jI_lt, jI_le, jI_eq, va_up_self, va_up_ne, jI_shr1, jI_shr4, jI_shr0, jI_and1, jI_and15, jF_at, tn, b2_t, b2_f, cmp_ge, cmp_gt, cmp_le, cmp_lt, cmp_eq, jL_lit, jL_lt, jL_le, jL_eq, ea]) <;> omega) | omega)) | (with_reducible apply q_rz; · (first | exact b2_01 _ | decide)))) <;> (first | with_reducible rfl | ((simp (disch := omega) only [jI_lit, jI_neg, jI_add, jI_sub, jI_mul, o_gI, o_gR, o_pI, o_pZ0, o_pZ1, o_pZb, o_pR, o_aI, o_qI, o_aN, tn, va_up_self, va_up_ne, upup, jI_shr1, jI_shr4, jI_shr0, jI_and1, jI_and15, jI_join, jI_240, jI_hi, jF_at, jF_up, jI_max, jI_min, b2_t, b2_f, Bool.not_true, Bool.not_false, eq_self, true_or, or_true, ea]) <;> with_reducible rfl) | rfl))
  · intro st hq kk
    have ef : fdg c v n k a b = 9 := by
      unfold fdg
      rw [fnd_no (fun j h1 h2 => hq j h1 (by omega)), if_pos rfl]
    show fX3_firstSource_52 (K, I, R, L, N, w) k40 kk e (jI wt) (jI (enc a)) (jI (enc b)) (jI t) (jI (k : Int)) (jI ((9 : Nat) : Int)) = _
    rw [ef]
    clear h hL hq ef
    unfold fX3_firstSource_52
    ((repeat (first | (with_reducible apply q_gd; · (first | assumption | omega)) | (with_reducible apply q_ob; · (first | with_reducible rfl | ((simp (disch := omega) only [jI_lit, jI_neg, jI_add, jI_sub, jI_mul, o_gI, o_gR, o_pI, o_pZ0, o_pZ1, o_pZb, o_pR, o_aI, o_qI, o_aN, tn, va_up_self, va_up_ne, upup, jI_shr1, jI_shr4, jI_shr0, jI_and1, jI_and15, jI_join, jI_240, jI_hi, jF_at, jF_up, jI_max, jI_min, b2_t, b2_f, Bool.not_true, Bool.not_false, eq_self, true_or, or_true]) <;> with_reducible rfl))) | (with_reducible apply q_ob2; · (first | with_reducible rfl | ((simp (disch := omega) only [jI_lit, jI_neg, jI_add, jI_sub, jI_mul, o_gI, o_gR, o_pI, o_pZ0, o_pZ1, o_pZb, o_pR, o_aI, o_qI, o_aN, tn, va_up_self, va_up_ne, upup, jI_shr1, jI_shr4, jI_shr0, jI_and1, jI_and15, jI_join, jI_240, jI_hi, jF_at, jF_up, jI_max, jI_min, b2_t, b2_f, Bool.not_true, Bool.not_false, eq_self, true_or, or_true]) <;> with_reducible rfl))) | (with_reducible apply q_lt; · (first | with_reducible rfl | ((simp (disch := omega) only [jI_lit, jI_neg, jI_add, jI_sub, jI_mul, o_gI, o_gR, o_pI, o_pZ0, o_pZ1, o_pZb, o_pR, o_aI, o_qI, o_aN, tn, va_up_self, va_up_ne, upup, jI_shr1, jI_shr4, jI_shr0, jI_and1, jI_and15, jI_join, jI_240, jI_hi, jF_at, jF_up, jI_max, jI_min, b2_t, b2_f, Bool.not_true, Bool.not_false, eq_self, true_or, or_true]) <;> with_reducible rfl))) | (with_reducible apply q_ifp; · (first | ((simp (disch := omega) only [jI_lit, jI_neg, jI_add, jI_sub, jI_mul, jI_lt, jI_le, jI_eq, va_up_self, va_up_ne, jI_shr1, jI_shr4, jI_shr0, jI_and1, jI_and15, jF_at, tn, b2_t, b2_f, cmp_ge, cmp_gt, cmp_le, cmp_lt, cmp_eq, jL_lit, jL_lt, jL_le, jL_eq]) <;> omega) | omega)) | (with_reducible apply q_ifn; · (first | ((simp (disch := omega) only [jI_lit, jI_neg, jI_add, jI_sub, jI_mul, jI_lt, jI_le, jI_eq, va_up_self, va_up_ne, jI_shr1, jI_shr4, jI_shr0, jI_and1, jI_and15, jF_at, tn, b2_t, b2_f, cmp_ge, cmp_gt, cmp_le, cmp_lt, cmp_eq, jL_lit, jL_lt, jL_le, jL_eq]) <;> omega) | omega)) | (with_reducible apply q_obk; · (first | with_reducible rfl | ((simp (disch := omega) only [jI_lit, jI_neg, jI_add, jI_sub, jI_mul, o_gI, o_gR, o_pI, o_pZ0, o_pZ1, o_pZb, o_pR, o_aI, o_qI, o_aN, tn, va_up_self, va_up_ne, upup, jI_shr1, jI_shr4, jI_shr0, jI_and1, jI_and15, jI_join, jI_240, jI_hi, jF_at, jF_up, jI_max, jI_min, b2_t, b2_f, Bool.not_true, Bool.not_false, eq_self, true_or, or_true]) <;> with_reducible rfl))) | (with_reducible apply q_nz; · (first | ((simp (disch := omega) only [jI_lit, jI_neg, jI_add, jI_sub, jI_mul, jI_lt, jI_le, jI_eq, va_up_self, va_up_ne, jI_shr1, jI_shr4, jI_shr0, jI_and1, jI_and15, jF_at, tn, b2_t, b2_f, cmp_ge, cmp_gt, cmp_le, cmp_lt, cmp_eq, jL_lit, jL_lt, jL_le, jL_eq]) <;> omega) | omega)) | (with_reducible apply q_rz; · (first | exact b2_01 _ | decide)))) <;> (first | with_reducible rfl | ((simp (disch := omega) only [jI_lit, jI_neg, jI_add, jI_sub, jI_mul, o_gI, o_gR, o_pI, o_pZ0, o_pZ1, o_pZb, o_pR, o_aI, o_qI, o_aN, tn, va_up_self, va_up_ne, upup, jI_shr1, jI_shr4, jI_shr0, jI_and1, jI_and15, jI_join, jI_240, jI_hi, jF_at, jF_up, jI_max, jI_min, b2_t, b2_f, Bool.not_true, Bool.not_false, eq_self, true_or, or_true]) <;> with_reducible rfl) | rfl))
set_option maxHeartbeats 4000000 in
theorem e_firstSource {e n : Nat} {c v : Nat → Int} {wt : Int} (h : Sr K I R N e n c v) (hL : ∀ m, m < 4 * (n + 1) → L (e + 4) m = jL (wvt c v n m : Nat)) (w1 : -2 ≤ wt) (w2 : wt < 100) : fX3_firstSource e (jI wt) (K, I, R, L, N, w) = some (jI (fsA c v n wt)) := by
  have hh := h
  obtain ⟨ed, hn, hc, hv, i5, i14, i16, hr⟩ := hh
  obtain ⟨k3, r0, r1, r2, r3, k1, n1, k2, n2, k3', n3, k4, n4⟩ := ed
  have key := lp_sr (z := fun _ _ _ _ _ _ => none) (S := fX3_firstSource_40 (K, I, R, L, N, w)) (β := Int32) (σ := Unit) (fun kk k _ => kk e (jI wt) (jI (enc (fsO c v n k).1)) (jI (enc (fsO c v n k).2.1)) (jI ((fsO c v n k).2.2 : Nat)) (jI (k : Int))) n
    (fun k _ => ∀ j, 0 ≤ j → j < k → fsq c v n wt j = false) (fun res => res = some (jI (fsA c v n wt))) ?_ ?_ FU 0 () (by omega) (FU_lt (by omega)) (fun j _ hj => by omega)
  · -- the begin: the states by either sign
    have l0 := hL 0 (by omega)
    have l2 := hL 2 (by omega)
    have b0 := wy_le c v n n false false
    have b2' := wy_le c v n n false true
    have p : 2 ^ n ≤ 2 ^ 32 := Nat.pow_le_pow_right (by omega) (by omega)
    have w0e : wvt c v n 0 = wy c v n n false false := wvt_at c v n 0 false false
    have w2e : wvt c v n 2 = wy c v n n false true := wvt_at c v n 0 false true
    rw [w0e] at l0
    rw [w2e] at l2
    obtain ⟨W0, hW0⟩ : ∃ W, W = wy c v n n false false := ⟨_, rfl⟩
    obtain ⟨W2, hW2⟩ : ∃ W, W = wy c v n n false true := ⟨_, rfl⟩
    have f0 : enc (fsO c v n 0).1 = if 0 < W0 then 0 else -1 := by
      show enc (if 0 < wy c v n n false false then some (false, false) else none) = _
      rw [← hW0]
      split <;> rfl
    have f2 : enc (fsO c v n 0).2.1 = if 0 < W2 then 2 else -1 := by
      show enc (if 0 < wy c v n n false true then some (false, true) else none) = _
      rw [← hW2]
      split <;> rfl
    have ft : (fsO c v n 0).2.2 = 0 := rfl
    rw [← hW0] at l0 b0
    rw [← hW2] at l2 b2'
    rw [f0, f2, ft] at key
    have a0 : aL (e + 4) 0 (K, I, R, L, N, w) = some (jL (W0 : Nat)) := by
      have := o_aL (K := K) (I := I) (R := R) (L := L) (N := N) (w := w) (a := e + 4) (z := 0) k4 (by omega) (by omega) (by omega)
      exact this.trans (congrArg some l0)
    have a2 : aL (e + 4) 2 (K, I, R, L, N, w) = some (jL (W2 : Nat)) := by
      have := o_aL (K := K) (I := I) (R := R) (L := L) (N := N) (w := w) (a := e + 4) (z := 2) k4 (by omega) (by omega) (by omega)
      exact this.trans (congrArg some l2)
    have cm : ∀ W : Nat, W ≤ 2 ^ 32 → ((lg_cmp (jL (W : Nat)) 0 ≤ 0) ↔ ¬ 0 < W) := fun W hW => by
      rw [show (0 : Int32) = jI 0 from rfl, cmp_le, show (0 : Int64) = jL 0 from rfl, jL_le (by omega) (by omega) (by omega) (by omega)]
      omega
    have cm0 := cm W0 (by omega)
    have cm2 := cm W2 (by omega)
    rw [← key]
    have e16 : ∀ s : Int, fX3_firstSource_16 (K, I, R, L, N, w) e (jI wt) (jI s) = lp (fun _ _ _ _ _ _ => none) (fX3_firstSource_40 (K, I, R, L, N, w)) FU e (jI wt) (jI s) (jI (if 0 < W2 then 2 else -1)) (jI ((0 : Nat) : Int)) (jI ((0 : Nat) : Int)) := fun s => by
      unfold fX3_firstSource_16
      rw [o_gR k3, o_ob, r3, a2, o_ob]
      by_cases q : 0 < W2
      · rw [if_neg (fun z => cm2.1 z q), if_pos q]; rfl
      · rw [if_pos (cm2.2 q), if_neg q]; rfl
    unfold fX3_firstSource
    rw [o_gd _ k3, o_gR k3, o_ob, r3, a0, o_ob]
    by_cases q : 0 < W0
    · rw [if_neg (fun z => cm0.1 z q), if_pos q]; exact (congrArg (fX3_firstSource_16 (K, I, R, L, N, w) e (jI wt)) (show (0 : Int32) = jI 0 from rfl)).trans (e16 0)
    · rw [if_pos (cm0.2 q), if_neg q]; exact (congrArg (fX3_firstSource_16 (K, I, R, L, N, w) e (jI wt)) (show (-1 : Int32) = jI (-1) from rfl)).trans (e16 (-1))
  · intro k st hk hq kk
    obtain ⟨c1, c2, v1, v2⟩ := hr k hk
    have hck := hc k hk
    have e1 : ((k : Int)).toNat = k := by omega
    have e2 : (k : Int) + 1 = ((k + 1 : Nat) : Int) := by omega
    have et := e_takesD c1 c2
    have tl := fs_t c v n k
    have efd := e_fdg (w := w) (a := (fsO c v n k).1) (b := (fsO c v n k).2.1) (t := ((fsO c v n k).2.2 : Nat)) (wt := wt) h hk hL kk
    obtain ⟨d, hd⟩ : ∃ d, d = fdg c v n k (fsO c v n k).1 (fsO c v n k).2.1 := ⟨_, rfl⟩
    have hd10 : d < 10 := by rw [hd]; exact fdg_r _ _ _ _ _ _
    rw [← hd] at efd
    have ea := e_way (w := w) (s := (fsO c v n k).1) (d := (d : Int)) h hk (by omega) (by omega) hL
    have eb := e_way (w := w) (s := (fsO c v n k).2.1) (d := (d : Int)) h hk (by omega) (by omega) hL
    have n1' : (fsO c v n (k + 1)).1 = wayO c v n k (fsO c v n k).1 (d : Int) := by rw [hd]; rfl
    have n2' : (fsO c v n (k + 1)).2.1 = wayO c v n k (fsO c v n k).2.1 (d : Int) := by rw [hd]; rfl
    have n3' : (fsO c v n (k + 1)).2.2 = if isD (c k) then (fsO c v n k).2.2 + 1 else (fsO c v n k).2.2 := rfl
    have hqk : fsq c v n wt k = (isD (c k) && (((fsO c v n k).2.2 : Nat) : Int) == wt) := rfl
    obtain ⟨za, hza⟩ : ∃ z, z = enc (fsO c v n k).1 := ⟨_, rfl⟩
    obtain ⟨zb, hzb⟩ : ∃ z, z = enc (fsO c v n k).2.1 := ⟨_, rfl⟩
    obtain ⟨t, htt⟩ : ∃ t, t = (fsO c v n k).2.2 := ⟨_, rfl⟩
    obtain ⟨za', hza'⟩ : ∃ z, z = enc (wayO c v n k (fsO c v n k).1 (d : Int)) := ⟨_, rfl⟩
    obtain ⟨zb', hzb'⟩ : ∃ z, z = enc (wayO c v n k (fsO c v n k).2.1 (d : Int)) := ⟨_, rfl⟩
    rw [← hza, ← hza'] at ea
    rw [← hzb, ← hzb'] at eb
    rw [← hza, ← hzb, ← htt] at efd
    rw [← htt] at n3' hqk tl
    have e116 : ∀ t' : Int, fX3_firstSource_116 (K, I, R, L, N, w) kk e (jI wt) (jI za) (jI zb) (jI t') (jI (k : Int)) (jI (d : Int)) = kk e (jI wt) (jI za') (jI zb') (jI t') (jI ((k + 1 : Nat) : Int)) := fun t' => by
      clear h hc hv hr hL hq efd n1' n2' n3' hqk hza hzb hza' hzb' htt et hck
      unfold fX3_firstSource_116
      ((repeat (first | (with_reducible apply q_gd; · (first | assumption | omega)) | (with_reducible apply q_ob; · (first | with_reducible rfl | ((simp (disch := omega) only [jI_lit, jI_neg, jI_add, jI_sub, jI_mul, o_gI, o_gR, o_pI, o_pZ0, o_pZ1, o_pZb, o_pR, o_aI, o_qI, o_aN, tn, va_up_self, va_up_ne, upup, jI_shr1, jI_shr4, jI_shr0, jI_and1, jI_and15, jI_join, jI_240, jI_hi, jF_at, jF_up, jI_max, jI_min, b2_t, b2_f, Bool.not_true, Bool.not_false, eq_self, true_or, or_true, ea, eb, e2]) <;> with_reducible rfl))) | (with_reducible apply q_ob2; · (first | with_reducible rfl | ((simp (disch := omega) only [jI_lit, jI_neg, jI_add, jI_sub, jI_mul, o_gI, o_gR, o_pI, o_pZ0, o_pZ1, o_pZb, o_pR, o_aI, o_qI, o_aN, tn, va_up_self, va_up_ne, upup, jI_shr1, jI_shr4, jI_shr0, jI_and1, jI_and15, jI_join, jI_240, jI_hi, jF_at, jF_up, jI_max, jI_min, b2_t, b2_f, Bool.not_true, Bool.not_false, eq_self, true_or, or_true, ea, eb, e2]) <;> with_reducible rfl))) | (with_reducible apply q_lt; · (first | with_reducible rfl | ((simp (disch := omega) only [jI_lit, jI_neg, jI_add, jI_sub, jI_mul, o_gI, o_gR, o_pI, o_pZ0, o_pZ1, o_pZb, o_pR, o_aI, o_qI, o_aN, tn, va_up_self, va_up_ne, upup, jI_shr1, jI_shr4, jI_shr0, jI_and1, jI_and15, jI_join, jI_240, jI_hi, jF_at, jF_up, jI_max, jI_min, b2_t, b2_f, Bool.not_true, Bool.not_false, eq_self, true_or, or_true, ea, eb, e2]) <;> with_reducible rfl))) | (with_reducible apply q_ifp; · (first | ((simp (disch := omega) only [jI_lit, jI_neg, jI_add, jI_sub, jI_mul, jI_lt, jI_le, jI_eq, va_up_self, va_up_ne, jI_shr1, jI_shr4, jI_shr0, jI_and1, jI_and15, jF_at, tn, b2_t, b2_f, cmp_ge, cmp_gt, cmp_le, cmp_lt, cmp_eq, jL_lit, jL_lt, jL_le, jL_eq, ea, eb, e2]) <;> omega) | omega)) | (with_reducible apply q_ifn; · (first | ((simp (disch := omega) only [jI_lit, jI_neg, jI_add, jI_sub, jI_mul, jI_lt, jI_le, jI_eq, va_up_self, va_up_ne, jI_shr1, jI_shr4, jI_shr0, jI_and1, jI_and15, jF_at, tn, b2_t, b2_f, cmp_ge, cmp_gt, cmp_le, cmp_lt, cmp_eq, jL_lit, jL_lt, jL_le, jL_eq, ea, eb, e2]) <;> omega) | omega)) | (with_reducible apply q_obk; · (first | with_reducible rfl | ((simp (disch := omega) only [jI_lit, jI_neg, jI_add, jI_sub, jI_mul, o_gI, o_gR, o_pI, o_pZ0, o_pZ1, o_pZb, o_pR, o_aI, o_qI, o_aN, tn, va_up_self, va_up_ne, upup, jI_shr1, jI_shr4, jI_shr0, jI_and1, jI_and15, jI_join, jI_240, jI_hi, jF_at, jF_up, jI_max, jI_min, b2_t, b2_f, Bool.not_true, Bool.not_false, eq_self, true_or, or_true, ea, eb, e2]) <;> with_reducible rfl))) | (with_reducible apply q_nz; · (first | ((simp (disch := omega) only [jI_lit, jI_neg, jI_add, jI_sub, jI_mul, jI_lt, jI_le, jI_eq, va_up_self, va_up_ne, jI_shr1, jI_shr4, jI_shr0, jI_and1, jI_and15, jF_at, tn, b2_t, b2_f, cmp_ge, cmp_gt, cmp_le, cmp_lt, cmp_eq, jL_lit, jL_lt, jL_le, jL_eq, ea, eb, e2]) <;> omega) | omega)) | (with_reducible apply q_rz; · (first | exact b2_01 _ | decide)))) <;> (first | with_reducible rfl | ((simp (disch := omega) only [jI_lit, jI_neg, jI_add, jI_sub, jI_mul, o_gI, o_gR, o_pI, o_pZ0, o_pZ1, o_pZb, o_pR, o_aI, o_qI, o_aN, tn, va_up_self, va_up_ne, upup, jI_shr1, jI_shr4, jI_shr0, jI_and1, jI_and15, jI_join, jI_240, jI_hi, jF_at, jF_up, jI_max, jI_min, b2_t, b2_f, Bool.not_true, Bool.not_false, eq_self, true_or, or_true, ea, eb, e2]) <;> with_reducible rfl) | rfl))
    have ego : ∀ z, fX3_firstSource_91 (K, I, R, L, N, w) kk e (jI wt) (jI za) (jI zb) (jI (t : Int)) (jI (k : Int)) (jI (d : Int)) = z → fX3_firstSource_40 (K, I, R, L, N, w) kk e (jI wt) (jI (enc (fsO c v n k).1)) (jI (enc (fsO c v n k).2.1)) (jI ((fsO c v n k).2.2 : Nat)) (jI (k : Int)) = z := by
      intro z hz
      rw [← hza, ← hzb, ← htt]
      rw [← hz, ← efd]
      have c0 : ¬ (jI (n : Int) ≤ jI (k : Int)) := by rw [jI_le (by omega) (by omega) (by omega) (by omega)]; omega
      unfold fX3_firstSource_40
      rw [o_gI k3, o_ob, i14, if_neg c0]
      rfl
    cases hD : isD (c k) with
    | true =>
      rw [hD, b2_t] at et
      by_cases ct : (t : Int) = wt
      · left
        have hqi : fsq c v n wt k = true := by rw [hqk, hD]; simpa using ct
        have eA : fsA c v n wt = (d : Int) := by
          unfold fsA
          rw [fnd_is (by omega) (by omega) hqi hq, if_neg (by omega), show ((k : Int)).toNat = k by omega, ← hd]
        refine ego _ ?_
        rw [eA]
        clear h hc hv hr hL hq efd n1' n2' n3' hqk hza hzb hza' hzb' htt ea eb e116 ego hqi eA hD
        unfold fX3_firstSource_91
        ((repeat (first | (with_reducible apply q_gd; · (first | assumption | omega)) | (with_reducible apply q_ob; · (first | with_reducible rfl | ((simp (disch := omega) only [jI_lit, jI_neg, jI_add, jI_sub, jI_mul, o_gI, o_gR, o_pI, o_pZ0, o_pZ1, o_pZb, o_pR, o_aI, o_qI, o_aN, tn, va_up_self, va_up_ne, upup, jI_shr1, jI_shr4, jI_shr0, jI_and1, jI_and15, jI_join, jI_240, jI_hi, jF_at, jF_up, jI_max, jI_min, b2_t, b2_f, Bool.not_true, Bool.not_false, eq_self, true_or, or_true, r1, e1, hck, et]) <;> with_reducible rfl))) | (with_reducible apply q_ob2; · (first | with_reducible rfl | ((simp (disch := omega) only [jI_lit, jI_neg, jI_add, jI_sub, jI_mul, o_gI, o_gR, o_pI, o_pZ0, o_pZ1, o_pZb, o_pR, o_aI, o_qI, o_aN, tn, va_up_self, va_up_ne, upup, jI_shr1, jI_shr4, jI_shr0, jI_and1, jI_and15, jI_join, jI_240, jI_hi, jF_at, jF_up, jI_max, jI_min, b2_t, b2_f, Bool.not_true, Bool.not_false, eq_self, true_or, or_true, r1, e1, hck, et]) <;> with_reducible rfl))) | (with_reducible apply q_lt; · (first | with_reducible rfl | ((simp (disch := omega) only [jI_lit, jI_neg, jI_add, jI_sub, jI_mul, o_gI, o_gR, o_pI, o_pZ0, o_pZ1, o_pZb, o_pR, o_aI, o_qI, o_aN, tn, va_up_self, va_up_ne, upup, jI_shr1, jI_shr4, jI_shr0, jI_and1, jI_and15, jI_join, jI_240, jI_hi, jF_at, jF_up, jI_max, jI_min, b2_t, b2_f, Bool.not_true, Bool.not_false, eq_self, true_or, or_true, r1, e1, hck, et]) <;> with_reducible rfl))) | (with_reducible apply q_ifp; · (first | ((simp (disch := omega) only [jI_lit, jI_neg, jI_add, jI_sub, jI_mul, jI_lt, jI_le, jI_eq, va_up_self, va_up_ne, jI_shr1, jI_shr4, jI_shr0, jI_and1, jI_and15, jF_at, tn, b2_t, b2_f, cmp_ge, cmp_gt, cmp_le, cmp_lt, cmp_eq, jL_lit, jL_lt, jL_le, jL_eq, r1, e1, hck, et]) <;> omega) | omega)) | (with_reducible apply q_ifn; · (first | ((simp (disch := omega) only [jI_lit, jI_neg, jI_add, jI_sub, jI_mul, jI_lt, jI_le, jI_eq, va_up_self, va_up_ne, jI_shr1, jI_shr4, jI_shr0, jI_and1, jI_and15, jF_at, tn, b2_t, b2_f, cmp_ge, cmp_gt, cmp_le, cmp_lt, cmp_eq, jL_lit, jL_lt, jL_le, jL_eq, r1, e1, hck, et]) <;> omega) | omega)) | (with_reducible apply q_obk; · (first | with_reducible rfl | ((simp (disch := omega) only [jI_lit, jI_neg, jI_add, jI_sub, jI_mul, o_gI, o_gR, o_pI, o_pZ0, o_pZ1, o_pZb, o_pR, o_aI, o_qI, o_aN, tn, va_up_self, va_up_ne, upup, jI_shr1, jI_shr4, jI_shr0, jI_and1, jI_and15, jI_join, jI_240, jI_hi, jF_at, jF_up, jI_max, jI_min, b2_t, b2_f, Bool.not_true, Bool.not_false, eq_self, true_or, or_true, r1, e1, hck, et]) <;> with_reducible rfl))) | (with_reducible apply q_nz; · (first | ((simp (disch := omega) only [jI_lit, jI_neg, jI_add, jI_sub, jI_mul, jI_lt, jI_le, jI_eq, va_up_self, va_up_ne, jI_shr1, jI_shr4, jI_shr0, jI_and1, jI_and15, jF_at, tn, b2_t, b2_f, cmp_ge, cmp_gt, cmp_le, cmp_lt, cmp_eq, jL_lit, jL_lt, jL_le, jL_eq, r1, e1, hck, et]) <;> omega) | omega)) | (with_reducible apply q_rz; · (first | exact b2_01 _ | decide)))) <;> (first | with_reducible rfl | ((simp (disch := omega) only [jI_lit, jI_neg, jI_add, jI_sub, jI_mul, o_gI, o_gR, o_pI, o_pZ0, o_pZ1, o_pZb, o_pR, o_aI, o_qI, o_aN, tn, va_up_self, va_up_ne, upup, jI_shr1, jI_shr4, jI_shr0, jI_and1, jI_and15, jI_join, jI_240, jI_hi, jF_at, jF_up, jI_max, jI_min, b2_t, b2_f, Bool.not_true, Bool.not_false, eq_self, true_or, or_true, r1, e1, hck, et]) <;> with_reducible rfl) | rfl))
      · right
        have hqi : fsq c v n wt k = false := by rw [hqk, hD]; simpa using ct
        refine ⟨(), fun j _ hj => ?_, ego _ ?_⟩
        · by_cases cj : j = k
          · rw [cj]; exact hqi
          · exact hq j (by omega) (by omega)
        · rw [n1', n2', n3', hD, ← hza', ← hzb', if_pos rfl]
          have e11 := e116 ((t : Int) + 1)
          have ett : ((t + 1 : Nat) : Int) = (t : Int) + 1 := by omega
          rw [ett, ← e11]
          clear h hc hv hr hL hq efd n1' n2' n3' hqk hza hzb hza' hzb' htt ea eb e116 ego hqi hD e11
          unfold fX3_firstSource_91
          ((repeat (first | (with_reducible apply q_gd; · (first | assumption | omega)) | (with_reducible apply q_ob; · (first | with_reducible rfl | ((simp (disch := omega) only [jI_lit, jI_neg, jI_add, jI_sub, jI_mul, o_gI, o_gR, o_pI, o_pZ0, o_pZ1, o_pZb, o_pR, o_aI, o_qI, o_aN, tn, va_up_self, va_up_ne, upup, jI_shr1, jI_shr4, jI_shr0, jI_and1, jI_and15, jI_join, jI_240, jI_hi, jF_at, jF_up, jI_max, jI_min, b2_t, b2_f, Bool.not_true, Bool.not_false, eq_self, true_or, or_true, r1, e1, hck, et]) <;> with_reducible rfl))) | (with_reducible apply q_ob2; · (first | with_reducible rfl | ((simp (disch := omega) only [jI_lit, jI_neg, jI_add, jI_sub, jI_mul, o_gI, o_gR, o_pI, o_pZ0, o_pZ1, o_pZb, o_pR, o_aI, o_qI, o_aN, tn, va_up_self, va_up_ne, upup, jI_shr1, jI_shr4, jI_shr0, jI_and1, jI_and15, jI_join, jI_240, jI_hi, jF_at, jF_up, jI_max, jI_min, b2_t, b2_f, Bool.not_true, Bool.not_false, eq_self, true_or, or_true, r1, e1, hck, et]) <;> with_reducible rfl))) | (with_reducible apply q_lt; · (first | with_reducible rfl | ((simp (disch := omega) only [jI_lit, jI_neg, jI_add, jI_sub, jI_mul, o_gI, o_gR, o_pI, o_pZ0, o_pZ1, o_pZb, o_pR, o_aI, o_qI, o_aN, tn, va_up_self, va_up_ne, upup, jI_shr1, jI_shr4, jI_shr0, jI_and1, jI_and15, jI_join, jI_240, jI_hi, jF_at, jF_up, jI_max, jI_min, b2_t, b2_f, Bool.not_true, Bool.not_false, eq_self, true_or, or_true, r1, e1, hck, et]) <;> with_reducible rfl))) | (with_reducible apply q_ifp; · (first | ((simp (disch := omega) only [jI_lit, jI_neg, jI_add, jI_sub, jI_mul, jI_lt, jI_le, jI_eq, va_up_self, va_up_ne, jI_shr1, jI_shr4, jI_shr0, jI_and1, jI_and15, jF_at, tn, b2_t, b2_f, cmp_ge, cmp_gt, cmp_le, cmp_lt, cmp_eq, jL_lit, jL_lt, jL_le, jL_eq, r1, e1, hck, et]) <;> omega) | omega)) | (with_reducible apply q_ifn; · (first | ((simp (disch := omega) only [jI_lit, jI_neg, jI_add, jI_sub, jI_mul, jI_lt, jI_le, jI_eq, va_up_self, va_up_ne, jI_shr1, jI_shr4, jI_shr0, jI_and1, jI_and15, jF_at, tn, b2_t, b2_f, cmp_ge, cmp_gt, cmp_le, cmp_lt, cmp_eq, jL_lit, jL_lt, jL_le, jL_eq, r1, e1, hck, et]) <;> omega) | omega)) | (with_reducible apply q_obk; · (first | with_reducible rfl | ((simp (disch := omega) only [jI_lit, jI_neg, jI_add, jI_sub, jI_mul, o_gI, o_gR, o_pI, o_pZ0, o_pZ1, o_pZb, o_pR, o_aI, o_qI, o_aN, tn, va_up_self, va_up_ne, upup, jI_shr1, jI_shr4, jI_shr0, jI_and1, jI_and15, jI_join, jI_240, jI_hi, jF_at, jF_up, jI_max, jI_min, b2_t, b2_f, Bool.not_true, Bool.not_false, eq_self, true_or, or_true, r1, e1, hck, et]) <;> with_reducible rfl))) | (with_reducible apply q_nz; · (first | ((simp (disch := omega) only [jI_lit, jI_neg, jI_add, jI_sub, jI_mul, jI_lt, jI_le, jI_eq, va_up_self, va_up_ne, jI_shr1, jI_shr4, jI_shr0, jI_and1, jI_and15, jF_at, tn, b2_t, b2_f, cmp_ge, cmp_gt, cmp_le, cmp_lt, cmp_eq, jL_lit, jL_lt, jL_le, jL_eq, r1, e1, hck, et]) <;> omega) | omega)) | (with_reducible apply q_rz; · (first | exact b2_01 _ | decide)))) <;> (first | with_reducible rfl | ((simp (disch := omega) only [jI_lit, jI_neg, jI_add, jI_sub, jI_mul, o_gI, o_gR, o_pI, o_pZ0, o_pZ1, o_pZb, o_pR, o_aI, o_qI, o_aN, tn, va_up_self, va_up_ne, upup, jI_shr1, jI_shr4, jI_shr0, jI_and1, jI_and15, jI_join, jI_240, jI_hi, jF_at, jF_up, jI_max, jI_min, b2_t, b2_f, Bool.not_true, Bool.not_false, eq_self, true_or, or_true, r1, e1, hck, et]) <;> with_reducible rfl) | rfl))
    | false =>
      right
      rw [hD, b2_f] at et
      have hqi : fsq c v n wt k = false := by rw [hqk, hD]; rfl
      refine ⟨(), fun j _ hj => ?_, ego _ ?_⟩
      · by_cases cj : j = k
        · rw [cj]; exact hqi
        · exact hq j (by omega) (by omega)
      · rw [n1', n2', n3', hD, ← hza', ← hzb', if_neg (by decide)]
        have e11 := e116 (t : Int)
        rw [← e11]
        clear h hc hv hr hL hq efd n1' n2' n3' hqk hza hzb hza' hzb' htt ea eb e116 ego hqi hD e11
        unfold fX3_firstSource_91
        ((repeat (first | (with_reducible apply q_gd; · (first | assumption | omega)) | (with_reducible apply q_ob; · (first | with_reducible rfl | ((simp (disch := omega) only [jI_lit, jI_neg, jI_add, jI_sub, jI_mul, o_gI, o_gR, o_pI, o_pZ0, o_pZ1, o_pZb, o_pR, o_aI, o_qI, o_aN, tn, va_up_self, va_up_ne, upup, jI_shr1, jI_shr4, jI_shr0, jI_and1, jI_and15, jI_join, jI_240, jI_hi, jF_at, jF_up, jI_max, jI_min, b2_t, b2_f, Bool.not_true, Bool.not_false, eq_self, true_or, or_true, r1, e1, hck, et]) <;> with_reducible rfl))) | (with_reducible apply q_ob2; · (first | with_reducible rfl | ((simp (disch := omega) only [jI_lit, jI_neg, jI_add, jI_sub, jI_mul, o_gI, o_gR, o_pI, o_pZ0, o_pZ1, o_pZb, o_pR, o_aI, o_qI, o_aN, tn, va_up_self, va_up_ne, upup, jI_shr1, jI_shr4, jI_shr0, jI_and1, jI_and15, jI_join, jI_240, jI_hi, jF_at, jF_up, jI_max, jI_min, b2_t, b2_f, Bool.not_true, Bool.not_false, eq_self, true_or, or_true, r1, e1, hck, et]) <;> with_reducible rfl))) | (with_reducible apply q_lt; · (first | with_reducible rfl | ((simp (disch := omega) only [jI_lit, jI_neg, jI_add, jI_sub, jI_mul, o_gI, o_gR, o_pI, o_pZ0, o_pZ1, o_pZb, o_pR, o_aI, o_qI, o_aN, tn, va_up_self, va_up_ne, upup, jI_shr1, jI_shr4, jI_shr0, jI_and1, jI_and15, jI_join, jI_240, jI_hi, jF_at, jF_up, jI_max, jI_min, b2_t, b2_f, Bool.not_true, Bool.not_false, eq_self, true_or, or_true, r1, e1, hck, et]) <;> with_reducible rfl))) | (with_reducible apply q_ifp; · (first | ((simp (disch := omega) only [jI_lit, jI_neg, jI_add, jI_sub, jI_mul, jI_lt, jI_le, jI_eq, va_up_self, va_up_ne, jI_shr1, jI_shr4, jI_shr0, jI_and1, jI_and15, jF_at, tn, b2_t, b2_f, cmp_ge, cmp_gt, cmp_le, cmp_lt, cmp_eq, jL_lit, jL_lt, jL_le, jL_eq, r1, e1, hck, et]) <;> omega) | omega)) | (with_reducible apply q_ifn; · (first | ((simp (disch := omega) only [jI_lit, jI_neg, jI_add, jI_sub, jI_mul, jI_lt, jI_le, jI_eq, va_up_self, va_up_ne, jI_shr1, jI_shr4, jI_shr0, jI_and1, jI_and15, jF_at, tn, b2_t, b2_f, cmp_ge, cmp_gt, cmp_le, cmp_lt, cmp_eq, jL_lit, jL_lt, jL_le, jL_eq, r1, e1, hck, et]) <;> omega) | omega)) | (with_reducible apply q_obk; · (first | with_reducible rfl | ((simp (disch := omega) only [jI_lit, jI_neg, jI_add, jI_sub, jI_mul, o_gI, o_gR, o_pI, o_pZ0, o_pZ1, o_pZb, o_pR, o_aI, o_qI, o_aN, tn, va_up_self, va_up_ne, upup, jI_shr1, jI_shr4, jI_shr0, jI_and1, jI_and15, jI_join, jI_240, jI_hi, jF_at, jF_up, jI_max, jI_min, b2_t, b2_f, Bool.not_true, Bool.not_false, eq_self, true_or, or_true, r1, e1, hck, et]) <;> with_reducible rfl))) | (with_reducible apply q_nz; · (first | ((simp (disch := omega) only [jI_lit, jI_neg, jI_add, jI_sub, jI_mul, jI_lt, jI_le, jI_eq, va_up_self, va_up_ne, jI_shr1, jI_shr4, jI_shr0, jI_and1, jI_and15, jF_at, tn, b2_t, b2_f, cmp_ge, cmp_gt, cmp_le, cmp_lt, cmp_eq, jL_lit, jL_lt, jL_le, jL_eq, r1, e1, hck, et]) <;> omega) | omega)) | (with_reducible apply q_rz; · (first | exact b2_01 _ | decide)))) <;> (first | with_reducible rfl | ((simp (disch := omega) only [jI_lit, jI_neg, jI_add, jI_sub, jI_mul, o_gI, o_gR, o_pI, o_pZ0, o_pZ1, o_pZb, o_pR, o_aI, o_qI, o_aN, tn, va_up_self, va_up_ne, upup, jI_shr1, jI_shr4, jI_shr0, jI_and1, jI_and15, jI_join, jI_240, jI_hi, jF_at, jF_up, jI_max, jI_min, b2_t, b2_f, Bool.not_true, Bool.not_false, eq_self, true_or, or_true, r1, e1, hck, et]) <;> with_reducible rfl) | rfl))
  · intro st hq kk
    have eA : fsA c v n wt = if (fsO c v n n).1.isSome then 0 else 1 := by
      unfold fsA
      rw [fnd_no (fun j h1 h2 => hq j h1 (by omega)), if_pos rfl]
    have ra := enc_r (fsO c v n n).1
    have na := enc_n (fsO c v n n).1
    obtain ⟨z, hz⟩ : ∃ z, z = enc (fsO c v n n).1 := ⟨_, rfl⟩
    rw [← hz] at ra na
    show fX3_firstSource_40 (K, I, R, L, N, w) kk e (jI wt) (jI (enc (fsO c v n n).1)) (jI (enc (fsO c v n n).2.1)) (jI ((fsO c v n n).2.2 : Nat)) (jI (n : Int)) = _
    rw [← hz, eA]
    by_cases cz : z = -1
    · rw [na.1 cz, if_neg (by decide), cz]
      clear h hc hv hr hL hq eA na hz
      unfold fX3_firstSource_40
      ((repeat (first | (with_reducible apply q_gd; · (first | assumption | omega)) | (with_reducible apply q_ob; · (first | with_reducible rfl | ((simp (disch := omega) only [jI_lit, jI_neg, jI_add, jI_sub, jI_mul, o_gI, o_gR, o_pI, o_pZ0, o_pZ1, o_pZb, o_pR, o_aI, o_qI, o_aN, tn, va_up_self, va_up_ne, upup, jI_shr1, jI_shr4, jI_shr0, jI_and1, jI_and15, jI_join, jI_240, jI_hi, jF_at, jF_up, jI_max, jI_min, b2_t, b2_f, Bool.not_true, Bool.not_false, eq_self, true_or, or_true, i14]) <;> with_reducible rfl))) | (with_reducible apply q_ob2; · (first | with_reducible rfl | ((simp (disch := omega) only [jI_lit, jI_neg, jI_add, jI_sub, jI_mul, o_gI, o_gR, o_pI, o_pZ0, o_pZ1, o_pZb, o_pR, o_aI, o_qI, o_aN, tn, va_up_self, va_up_ne, upup, jI_shr1, jI_shr4, jI_shr0, jI_and1, jI_and15, jI_join, jI_240, jI_hi, jF_at, jF_up, jI_max, jI_min, b2_t, b2_f, Bool.not_true, Bool.not_false, eq_self, true_or, or_true, i14]) <;> with_reducible rfl))) | (with_reducible apply q_lt; · (first | with_reducible rfl | ((simp (disch := omega) only [jI_lit, jI_neg, jI_add, jI_sub, jI_mul, o_gI, o_gR, o_pI, o_pZ0, o_pZ1, o_pZb, o_pR, o_aI, o_qI, o_aN, tn, va_up_self, va_up_ne, upup, jI_shr1, jI_shr4, jI_shr0, jI_and1, jI_and15, jI_join, jI_240, jI_hi, jF_at, jF_up, jI_max, jI_min, b2_t, b2_f, Bool.not_true, Bool.not_false, eq_self, true_or, or_true, i14]) <;> with_reducible rfl))) | (with_reducible apply q_ifp; · (first | ((simp (disch := omega) only [jI_lit, jI_neg, jI_add, jI_sub, jI_mul, jI_lt, jI_le, jI_eq, va_up_self, va_up_ne, jI_shr1, jI_shr4, jI_shr0, jI_and1, jI_and15, jF_at, tn, b2_t, b2_f, cmp_ge, cmp_gt, cmp_le, cmp_lt, cmp_eq, jL_lit, jL_lt, jL_le, jL_eq, i14]) <;> omega) | omega)) | (with_reducible apply q_ifn; · (first | ((simp (disch := omega) only [jI_lit, jI_neg, jI_add, jI_sub, jI_mul, jI_lt, jI_le, jI_eq, va_up_self, va_up_ne, jI_shr1, jI_shr4, jI_shr0, jI_and1, jI_and15, jF_at, tn, b2_t, b2_f, cmp_ge, cmp_gt, cmp_le, cmp_lt, cmp_eq, jL_lit, jL_lt, jL_le, jL_eq, i14]) <;> omega) | omega)) | (with_reducible apply q_obk; · (first | with_reducible rfl | ((simp (disch := omega) only [jI_lit, jI_neg, jI_add, jI_sub, jI_mul, o_gI, o_gR, o_pI, o_pZ0, o_pZ1, o_pZb, o_pR, o_aI, o_qI, o_aN, tn, va_up_self, va_up_ne, upup, jI_shr1, jI_shr4, jI_shr0, jI_and1, jI_and15, jI_join, jI_240, jI_hi, jF_at, jF_up, jI_max, jI_min, b2_t, b2_f, Bool.not_true, Bool.not_false, eq_self, true_or, or_true, i14]) <;> with_reducible rfl))) | (with_reducible apply q_nz; · (first | ((simp (disch := omega) only [jI_lit, jI_neg, jI_add, jI_sub, jI_mul, jI_lt, jI_le, jI_eq, va_up_self, va_up_ne, jI_shr1, jI_shr4, jI_shr0, jI_and1, jI_and15, jF_at, tn, b2_t, b2_f, cmp_ge, cmp_gt, cmp_le, cmp_lt, cmp_eq, jL_lit, jL_lt, jL_le, jL_eq, i14]) <;> omega) | omega)) | (with_reducible apply q_rz; · (first | exact b2_01 _ | decide)))) <;> (first | with_reducible rfl | ((simp (disch := omega) only [jI_lit, jI_neg, jI_add, jI_sub, jI_mul, o_gI, o_gR, o_pI, o_pZ0, o_pZ1, o_pZb, o_pR, o_aI, o_qI, o_aN, tn, va_up_self, va_up_ne, upup, jI_shr1, jI_shr4, jI_shr0, jI_and1, jI_and15, jI_join, jI_240, jI_hi, jF_at, jF_up, jI_max, jI_min, b2_t, b2_f, Bool.not_true, Bool.not_false, eq_self, true_or, or_true, i14]) <;> with_reducible rfl) | rfl))
    · have : (fsO c v n n).1.isSome = true := by
        cases hs : (fsO c v n n).1.isSome with
        | true => rfl
        | false => exact absurd (na.2 hs) cz
      rw [this, if_pos rfl]
      clear h hc hv hr hL hq eA na hz this
      unfold fX3_firstSource_40
      ((repeat (first | (with_reducible apply q_gd; · (first | assumption | omega)) | (with_reducible apply q_ob; · (first | with_reducible rfl | ((simp (disch := omega) only [jI_lit, jI_neg, jI_add, jI_sub, jI_mul, o_gI, o_gR, o_pI, o_pZ0, o_pZ1, o_pZb, o_pR, o_aI, o_qI, o_aN, tn, va_up_self, va_up_ne, upup, jI_shr1, jI_shr4, jI_shr0, jI_and1, jI_and15, jI_join, jI_240, jI_hi, jF_at, jF_up, jI_max, jI_min, b2_t, b2_f, Bool.not_true, Bool.not_false, eq_self, true_or, or_true, i14]) <;> with_reducible rfl))) | (with_reducible apply q_ob2; · (first | with_reducible rfl | ((simp (disch := omega) only [jI_lit, jI_neg, jI_add, jI_sub, jI_mul, o_gI, o_gR, o_pI, o_pZ0, o_pZ1, o_pZb, o_pR, o_aI, o_qI, o_aN, tn, va_up_self, va_up_ne, upup, jI_shr1, jI_shr4, jI_shr0, jI_and1, jI_and15, jI_join, jI_240, jI_hi, jF_at, jF_up, jI_max, jI_min, b2_t, b2_f, Bool.not_true, Bool.not_false, eq_self, true_or, or_true, i14]) <;> with_reducible rfl))) | (with_reducible apply q_lt; · (first | with_reducible rfl | ((simp (disch := omega) only [jI_lit, jI_neg, jI_add, jI_sub, jI_mul, o_gI, o_gR, o_pI, o_pZ0, o_pZ1, o_pZb, o_pR, o_aI, o_qI, o_aN, tn, va_up_self, va_up_ne, upup, jI_shr1, jI_shr4, jI_shr0, jI_and1, jI_and15, jI_join, jI_240, jI_hi, jF_at, jF_up, jI_max, jI_min, b2_t, b2_f, Bool.not_true, Bool.not_false, eq_self, true_or, or_true, i14]) <;> with_reducible rfl))) | (with_reducible apply q_ifp; · (first | ((simp (disch := omega) only [jI_lit, jI_neg, jI_add, jI_sub, jI_mul, jI_lt, jI_le, jI_eq, va_up_self, va_up_ne, jI_shr1, jI_shr4, jI_shr0, jI_and1, jI_and15, jF_at, tn, b2_t, b2_f, cmp_ge, cmp_gt, cmp_le, cmp_lt, cmp_eq, jL_lit, jL_lt, jL_le, jL_eq, i14]) <;> omega) | omega)) | (with_reducible apply q_ifn; · (first | ((simp (disch := omega) only [jI_lit, jI_neg, jI_add, jI_sub, jI_mul, jI_lt, jI_le, jI_eq, va_up_self, va_up_ne, jI_shr1, jI_shr4, jI_shr0, jI_and1, jI_and15, jF_at, tn, b2_t, b2_f, cmp_ge, cmp_gt, cmp_le, cmp_lt, cmp_eq, jL_lit, jL_lt, jL_le, jL_eq, i14]) <;> omega) | omega)) | (with_reducible apply q_obk; · (first | with_reducible rfl | ((simp (disch := omega) only [jI_lit, jI_neg, jI_add, jI_sub, jI_mul, o_gI, o_gR, o_pI, o_pZ0, o_pZ1, o_pZb, o_pR, o_aI, o_qI, o_aN, tn, va_up_self, va_up_ne, upup, jI_shr1, jI_shr4, jI_shr0, jI_and1, jI_and15, jI_join, jI_240, jI_hi, jF_at, jF_up, jI_max, jI_min, b2_t, b2_f, Bool.not_true, Bool.not_false, eq_self, true_or, or_true, i14]) <;> with_reducible rfl))) | (with_reducible apply q_nz; · (first | ((simp (disch := omega) only [jI_lit, jI_neg, jI_add, jI_sub, jI_mul, jI_lt, jI_le, jI_eq, va_up_self, va_up_ne, jI_shr1, jI_shr4, jI_shr0, jI_and1, jI_and15, jF_at, tn, b2_t, b2_f, cmp_ge, cmp_gt, cmp_le, cmp_lt, cmp_eq, jL_lit, jL_lt, jL_le, jL_eq, i14]) <;> omega) | omega)) | (with_reducible apply q_rz; · (first | exact b2_01 _ | decide)))) <;> (first | with_reducible rfl | ((simp (disch := omega) only [jI_lit, jI_neg, jI_add, jI_sub, jI_mul, o_gI, o_gR, o_pI, o_pZ0, o_pZ1, o_pZb, o_pR, o_aI, o_qI, o_aN, tn, va_up_self, va_up_ne, upup, jI_shr1, jI_shr4, jI_shr0, jI_and1, jI_and15, jI_join, jI_240, jI_hi, jF_at, jF_up, jI_max, jI_min, b2_t, b2_f, Bool.not_true, Bool.not_false, eq_self, true_or, or_true, i14]) <;> with_reducible rfl) | rfl))
end SRC
