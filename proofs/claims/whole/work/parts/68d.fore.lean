section FS
variable {K : Nat → Nat} {I : Nat → Nat → Int32} {R : Nat → Nat → Nat} {L : Nat → Nat → Int64} {N : Nat → Nat} {w : Nat × Nat × Nat × Nat}
theorem cnt_t {q : Nat → Bool} {m : Nat} (h : q m = true) : cnt q (m + 1) = cnt q m + 1 := by
  show cnt q m + (if q m then 1 else 0) = _
  rw [h]; rfl
theorem cnt_f {q : Nat → Bool} {m : Nat} (h : q m = false) : cnt q (m + 1) = cnt q m := by
  show cnt q m + (if q m then 1 else 0) = _
  rw [h]; rfl
theorem fnd_s {q : Nat → Bool} {lo m : Nat} : fnd q lo (m + 1) = if fnd q lo m = -1 then (if q (lo + m) then ((lo + m : Nat) : Int) else -1) else fnd q lo m := by
  by_cases c : fnd q lo m = -1
  · rw [if_pos c]
    have hn := fnd_none c
    cases hq : q (lo + m) with
    | true =>
      rw [if_pos rfl]
      exact fnd_is (by omega) (by omega) hq (fun j a b => hn j a (by omega))
    | false =>
      rw [if_neg (by decide)]
      refine fnd_no (fun j a b => ?_)
      by_cases cj : j = lo + m
      · rw [cj]; exact hq
      · exact hn j a (by omega)
  · rw [if_neg c]
    obtain ⟨i, a1, a2, a3, a4, a5⟩ := fnd_some c
    rw [a3]
    exact fnd_is a1 (by omega) a4 a5
/-- a half is laid otherwise -/
def pth (r : Nat → Int) (h : Nat) (z : Int) : Nat → Int := va_up r (h / 2) (if h % 2 = 0 then 16 * z + r (h / 2) % 16 else r (h / 2) / 16 * 16 + z)
theorem RowOK_lay {many k : Nat} {T z : Int} {r : Nat → Int} (h : RowOK many T r) (hk : k < 256) (h1 : 0 ≤ z) (h2 : z < 256) : RowOK many T (va_up r k z) := by
  obtain ⟨a1, a2, a3, a4, a5, a6, a7, a8, a9, a10, a11, a12, a13, a14, a15, a16⟩ := h
  have e : ∀ j, 256 ≤ j → va_up r k z j = r j := fun j hj => va_up_ne _ _ (by omega)
  refine ⟨fun j hj => ?_, Rng_up a2 (by omega) (by omega), ?_, ?_, ?_, ?_, fun j j1 j2 => ?_, ?_, ?_, ?_, ?_, fun j hj => ?_, ?_, ?_, ?_, ?_⟩
  · by_cases c : j = k
    · rw [c, va_up_self]; exact ⟨h1, h2⟩
    · rw [va_up_ne _ _ c]; exact a1 j hj
  · rw [e 264 (by omega)]; exact a3
  · rw [e 265 (by omega)]; exact a4
  · rw [e 265 (by omega), e 276 (by omega)]; exact a5
  · rw [e 266 (by omega)]; exact a6
  · rw [e (267 + j) (by omega)]; exact a7 j j1 j2
  · rw [e 276 (by omega)]; exact a8
  · rw [e 279 (by omega), e 277 (by omega)]; exact a9
  · rw [e 277 (by omega)]; exact a10
  · rw [e 278 (by omega), e 277 (by omega)]; exact a11
  · rw [e (354 + j) (by omega), e 277 (by omega)]; exact a12 j hj
  · rw [e 278 (by omega), e 280 (by omega)]; exact a13
  · rw [e 280 (by omega)]; exact a14
  · rw [e 289 (by omega), e 280 (by omega)]; exact a15
  · rw [e 267 (by omega)]; exact a16
theorem RowOK_pth {many h : Nat} {T z : Int} {r : Nat → Int} (ok : RowOK many T r) (hh : h < 512) (h1 : 0 ≤ z) (h2 : z < 16) : RowOK many T (pth r h z) := by
  have := ok.1 (h / 2) (by omega)
  unfold pth
  exact RowOK_lay ok (by omega) (by split <;> omega) (by split <;> omega)
theorem e_pth {x h : Nat} {z : Int} {r g : Nat → Int} (hx : Rw K R N x) (hb : Byt r) (hh : h < 512) (h1 : 0 ≤ z) (h2 : z < 16) :
    fX10_putHalf x (jI (h : Int)) (jI z) (K, va_up I (x + 1) (jF (cls r g)), R, L, N, w) = some (K, va_up I (x + 1) (jF (cls (pth r h z) g)), R, L, N, w) := by
  rw [e_putHalf hx (va_up_self _ _ _) (cls_byt hb) (by omega) (by omega) h1 h2, upup]
  unfold pth
  have e : ((h : Int)).toNat = h := by omega
  rw [e, cls_lo (by omega) (by omega), cls_up_lo (by omega) (by omega)]
  have : ((h : Int) % 2 = 0) ↔ (h % 2 = 0) := by omega
  by_cases c : h % 2 = 0
  · rw [if_pos c, if_pos (this.2 c)]
  · rw [if_neg c, if_neg (fun q => c (this.1 q))]
theorem stp_280 {P : PG} {many : Nat} {T : Int} {u : Nat → Int} (ok : RowOK many T u) (pg : ∀ k, k < many → PGk P many k) (hs : u 276 = 0) (h : knd P u ≠ 0) : stp P many u 280 = knd P u := by
  obtain ⟨k, hk⟩ : ∃ k, k = (u 265).toNat := ⟨_, rfl⟩
  have h1 := ok.2.2.2.1
  have h2 := ok.2.2.2.2.1 hs
  have hx := (exe_ok ok (pg k (by omega)) (by omega)).2.1
  obtain ⟨⟨v, fo, nx⟩, ho⟩ : ∃ z, z = exe P u k := ⟨_, rfl⟩
  rw [← ho] at hx
  cases fo with
  | none => exact absurd (knd_none hk ho.symm) h
  | some f =>
    have hF := (hx f rfl).1.1
    rw [knd_some hk ho.symm, stp_some hs hk ho.symm (by omega), va_up_ne _ _ (by omega), flt6_why (by omega)]
    have hw : why6 (rec6 v k) k f 280 = f.1 := by
      obtain ⟨c, w', a, n, hh, x⟩ := f
      unfold why6
      simp (disch := omega) only [va_up_ne, va_up_self]
    split
    · rw [va_up_ne _ _ (by omega)]; exact hw
    · rw [va_up_ne _ _ (by omega), va_up_ne _ _ (by omega)]; exact hw
theorem rtf_kd {P : PG} {many : Nat} {T : Int} {r : Nat → Int} (h : RowOK many T r) (pg : ∀ k, k < many → PGk P many k) (hm : many ≤ 60) : ∀ n : Nat, T + n < 900000 → (rtf P many r n).2 ≠ 0 → (rtf P many r n).1 280 = (rtf P many r n).2
  | 0, _ => fun q => absurd rfl q
  | n + 1, hT => by
    have ih := rtf_kd h pg hm n (by omega)
    have ok := rtf_ok h pg hm n (by omega)
    by_cases c : (rtf P many r n).1 276 = 0 ∧ (rtf P many r n).2 = 0
    · rw [rtf_go c.1 c.2]
      exact fun q => stp_280 ok.1 pg c.1 q
    · rw [rtf_no c]; exact ih
def sQ (P : PG) (many : Nat) (r base : Nat → Int) (sound : Bool) (n pl : Nat) (v : Int) (j : Nat) : Bool :=
  ((j % 16 : Nat) : Int) != hf r (2 * pl + j / 16) && vrd (rtf P many (pth r (2 * pl + j / 16) ((j % 16 : Nat) : Int)) n).1 base (rtf P many (pth r (2 * pl + j / 16) ((j % 16 : Nat) : Int)) n).2 sound (2 * pl + j / 16) == v
def fstv (pl : Nat) (q : Nat → Bool) (m : Nat) : Int := if fnd q 0 m = -1 then -1 else 100 * (2 * pl + fnd q 0 m / 16) + fnd q 0 m % 16
theorem fstv_f {pl m : Nat} {q : Nat → Bool} (h : q m = false) : fstv pl q (m + 1) = fstv pl q m := by
  unfold fstv
  rw [fnd_s]
  by_cases c : fnd q 0 m = -1
  · rw [if_pos c, if_pos c, Nat.zero_add, h]; rfl
  · rw [if_neg c]
theorem fnd_m {q : Nat → Bool} {lo m : Nat} : -1 ≤ fnd q lo m ∧ fnd q lo m < lo + m := by
  by_cases c : fnd q lo m = -1
  · omega
  · obtain ⟨i, a1, a2, a3, -⟩ := fnd_some c
    omega
theorem fstv_r {pl m : Nat} {q : Nat → Bool} (h : pl ≤ 256) (hm : m < 100000) : -1 ≤ fstv pl q m ∧ fstv pl q m < 2147483648 := by
  have := fnd_m (q := q) (lo := 0) (m := m)
  unfold fstv
  split <;> omega
theorem fstv_t {pl m : Nat} {q : Nat → Bool} (h : q m = true) : fstv pl q (m + 1) = if fstv pl q m = -1 then 100 * (2 * pl + (m : Int) / 16) + (m : Int) % 16 else fstv pl q m := by
  unfold fstv
  rw [fnd_s]
  by_cases c : fnd q 0 m = -1
  · rw [if_pos c, if_pos c, Nat.zero_add, h, if_pos rfl, if_neg (by omega), if_pos rfl]
  · have := fnd_m (q := q) (lo := 0) (m := m)
    rw [if_neg c, if_neg c, if_neg (by omega)]
theorem vrd_r (u v : Nat → Int) (kd : Int) (s : Bool) (h : Nat) : vrd u v kd s h = 0 ∨ vrd u v kd s h = 1 ∨ vrd u v kd s h = 2 := by
  unfold vrd
  by_cases c : (kd = 4 ∨ kd = 5) ∧ u 286 = ((h / 2 : Nat) : Int) ∧ u 287 = ((h % 2 : Nat) : Int)
  · rw [if_pos c]; exact Or.inl rfl
  · rw [if_neg c]
    by_cases c2 : kd = 0 ∧ s = true ∧ allb (alk u v ((h / 2 : Nat) : Int)) 266 = true
    · rw [if_pos c2]; exact Or.inr (Or.inl rfl)
    · rw [if_neg c2]; exact Or.inr (Or.inr rfl)
/-- how it stands behind so many halves that were spoilt -/
def SI (p x y t : Nat) (I : Nat → Nat → Int32) (R : Nat → Nat → Nat) (P : PG) (many : Nat) (r base : Nat → Int) (sound : Bool) (n pl m : Nat) (s : (Nat → Nat → Int32) × (Nat → Nat → Nat)) : Prop :=
  Tl s.1 t (cnt (sQ P many r base sound n pl 0) m : Nat) (cnt (sQ P many r base sound n pl 1) m : Nat) (cnt (sQ P many r base sound n pl 2) m : Nat) (fstv pl (sQ P many r base sound n pl 2) m) ∧ (∃ gb, s.1 (y + 1) = jF (cls base gb)) ∧ Zr s.1 x ∧ (∀ y', (y' < p ∨ p + 15 ≤ y') → y' ≠ x + 1 → y' ≠ y + 1 → y' ≠ t → s.1 y' = I y') ∧ RFr p R s.2
theorem e_sp1 {f p x y t l many nw n pl ln i z : Nat} {P : PG} {T what : Int} {r g base : Nat → Int} {sound : Bool} {s : (Nat → Nat → Int32) × (Nat → Nat → Nat)} (h : Gd K I R N p l many P) (hf0 : Fs K R N f p x y t) (hw : Ro K R N p nw) (hwx : nw ≠ x) (hwy : nw ≠ y) (hwt : nw + 1 ≠ t) (hI : I (nw + 1) = jF (cls r g)) (ok : RowOK many T r) (hT : T < 800000) (hn : n ≤ 60) (hpl : pl + ln ≤ 256) (hi : i < 2 * ln) (hz : z < 16) (hb : Rng base)
    (hs : SI p x y t I R P many r base sound n pl (16 * i + z) s) (k37 : Nat → Nat → Int32 → Int32 → Int32 → Int32 → Int32 → Int32 → Hp → Option (Int32 × Hp)) (k50 : Nat → Nat → Int32 → Int32 → Int32 → Int32 → Int32 → Int32 → Int32 → Hp → Option (Int32 × Hp)) :
    ∃ s', SI p x y t I R P many r base sound n pl (16 * i + (z + 1)) s' ∧ fX4_spoil_50 k37 k50 f nw (jI (pl : Int)) (jI (ln : Int)) (jI (n : Int)) (jI what) (jI (b2 sound)) (jI ((2 * pl + i : Nat) : Int)) (jI (z : Int)) (K, s.1, s.2, L, N, w) = k50 f nw (jI (pl : Int)) (jI (ln : Int)) (jI (n : Int)) (jI what) (jI (b2 sound)) (jI ((2 * pl + i : Nat) : Int)) (jI ((z + 1 : Nat) : Int)) (K, s'.1, s'.2, L, N, w) := by
  obtain ⟨pg, hm⟩ := Gd_pg h
  obtain ⟨I1, R1⟩ := s
  obtain ⟨ht, ⟨gb, hgb⟩, hzx, hfr, hR⟩ := hs
  have ht : Tl I1 t (cnt (sQ P many r base sound n pl 0) (16 * i + z) : Nat) (cnt (sQ P many r base sound n pl 1) (16 * i + z) : Nat) (cnt (sQ P many r base sound n pl 2) (16 * i + z) : Nat) (fstv pl (sQ P many r base sound n pl 2) (16 * i + z)) := ht
  have hgb : I1 (y + 1) = jF (cls base gb) := hgb
  have hzx : Zr I1 x := hzx
  have hfr : ∀ y', (y' < p ∨ p + 15 ≤ y') → y' ≠ x + 1 → y' ≠ y + 1 → y' ≠ t → I1 y' = I y' := hfr
  have hR : RFr p R R1 := hR
  have hf1 := Fs_fr h hf0 hR
  have hw1 := Ro_fr h hw hR
  obtain ⟨k4, f0, f1, f2, f3, hx1, hy1, kt, nt, hto, htx, hty, hxy, hfo⟩ := hf1
  have hI1 : I1 (nw + 1) = jF (cls r g) := by rw [hfr (nw + 1) (by have := hw.2; omega) (by omega) (by omega) hwt]; exact hI
  obtain ⟨hh, ehh⟩ : ∃ hh, hh = 2 * pl + i := ⟨_, rfl⟩
  have hh5 : hh < 512 := by omega
  have em1 : (16 * i + z) % 16 = z := by omega
  have em2 : 2 * pl + (16 * i + z) / 16 = hh := by omega
  have qv : ∀ v, sQ P many r base sound n pl v (16 * i + z) = (((z : Nat) : Int) != hf r hh && vrd (rtf P many (pth r hh ((z : Nat) : Int)) n).1 base (rtf P many (pth r hh ((z : Nat) : Int)) n).2 sound hh == v) := fun v => by
    unfold sQ; rw [em1, em2]
  have eh := e_half (L := L) (w := w) hw1.1 hI1 (cls_byt ok.1) (z := (hh : Int)) (by omega) (by omega)
  rw [show ((hh : Int)).toNat = hh by omega, hf_cls hh5] at eh
  have e2 : (z : Int) + 1 = ((z + 1 : Nat) : Int) := by omega
  have eA : 16 * i + (z + 1) = 16 * i + z + 1 := by omega
  have hr16 := hf_lt ok.1 hh5
  rw [← ehh]
  by_cases c : (z : Int) = hf r hh
  · have q0 : ∀ v, sQ P many r base sound n pl v (16 * i + z) = false := fun v => by rw [qv v]; simp [c]
    refine ⟨(I1, R1), ⟨?_, ⟨gb, hgb⟩, hzx, hfr, hR⟩, ?_⟩
    · rw [eA, cnt_f (q0 0), cnt_f (q0 1), cnt_f (q0 2), fstv_f (q0 2)]
      exact ht
    · show fX4_spoil_50 k37 k50 f nw (jI (pl : Int)) (jI (ln : Int)) (jI (n : Int)) (jI what) (jI (b2 sound)) (jI (hh : Int)) (jI (z : Int)) (K, I1, R1, L, N, w) = k50 f nw (jI (pl : Int)) (jI (ln : Int)) (jI (n : Int)) (jI what) (jI (b2 sound)) (jI (hh : Int)) (jI ((z + 1 : Nat) : Int)) (K, I1, R1, L, N, w)
      rw [← c] at eh
      clear ht hgb hzx hfr hR qv q0 h hf0 hw hI ok hw1 hx1 hy1 hI1 c em1 em2 eA ehh hr16 hb
      unfold fX4_spoil_50
      ((repeat (first | (with_reducible apply q_gd; · (first | assumption | omega)) | (with_reducible apply q_ob; · (first | with_reducible rfl | ((simp (disch := omega) only [jI_lit, jI_neg, jI_add, jI_sub, jI_mul, o_gI, o_gR, o_pI, o_pZ0, o_pZ1, o_pZb, o_pR, o_aI, o_qI, o_aN, tn, va_up_self, va_up_ne, upup, jI_shr1, jI_shr4, jI_shr0, jI_and1, jI_and15, jI_join, jI_240, jI_hi, jF_at, jF_up, jI_max, jI_min, b2_t, b2_f, Bool.not_true, Bool.not_false, eq_self, true_or, or_true, eh, e2]) <;> with_reducible rfl))) | (with_reducible apply q_ob2; · (first | with_reducible rfl | ((simp (disch := omega) only [jI_lit, jI_neg, jI_add, jI_sub, jI_mul, o_gI, o_gR, o_pI, o_pZ0, o_pZ1, o_pZb, o_pR, o_aI, o_qI, o_aN, tn, va_up_self, va_up_ne, upup, jI_shr1, jI_shr4, jI_shr0, jI_and1, jI_and15, jI_join, jI_240, jI_hi, jF_at, jF_up, jI_max, jI_min, b2_t, b2_f, Bool.not_true, Bool.not_false, eq_self, true_or, or_true, eh, e2]) <;> with_reducible rfl))) | (with_reducible apply q_lt; · (first | with_reducible rfl | ((simp (disch := omega) only [jI_lit, jI_neg, jI_add, jI_sub, jI_mul, o_gI, o_gR, o_pI, o_pZ0, o_pZ1, o_pZb, o_pR, o_aI, o_qI, o_aN, tn, va_up_self, va_up_ne, upup, jI_shr1, jI_shr4, jI_shr0, jI_and1, jI_and15, jI_join, jI_240, jI_hi, jF_at, jF_up, jI_max, jI_min, b2_t, b2_f, Bool.not_true, Bool.not_false, eq_self, true_or, or_true, eh, e2]) <;> with_reducible rfl))) | (with_reducible apply q_ifp; · (first | ((simp (disch := omega) only [jI_lit, jI_neg, jI_add, jI_sub, jI_mul, jI_lt, jI_le, jI_eq, va_up_self, va_up_ne, jI_shr1, jI_shr4, jI_shr0, jI_and1, jI_and15, jF_at, tn, b2_t, b2_f, cmp_ge, cmp_gt, cmp_le, cmp_lt, cmp_eq, jL_lit, jL_lt, jL_le, jL_eq, eh, e2]) <;> omega) | omega)) | (with_reducible apply q_ifn; · (first | ((simp (disch := omega) only [jI_lit, jI_neg, jI_add, jI_sub, jI_mul, jI_lt, jI_le, jI_eq, va_up_self, va_up_ne, jI_shr1, jI_shr4, jI_shr0, jI_and1, jI_and15, jF_at, tn, b2_t, b2_f, cmp_ge, cmp_gt, cmp_le, cmp_lt, cmp_eq, jL_lit, jL_lt, jL_le, jL_eq, eh, e2]) <;> omega) | omega)) | (with_reducible apply q_obk; · (first | with_reducible rfl | ((simp (disch := omega) only [jI_lit, jI_neg, jI_add, jI_sub, jI_mul, o_gI, o_gR, o_pI, o_pZ0, o_pZ1, o_pZb, o_pR, o_aI, o_qI, o_aN, tn, va_up_self, va_up_ne, upup, jI_shr1, jI_shr4, jI_shr0, jI_and1, jI_and15, jI_join, jI_240, jI_hi, jF_at, jF_up, jI_max, jI_min, b2_t, b2_f, Bool.not_true, Bool.not_false, eq_self, true_or, or_true, eh, e2]) <;> with_reducible rfl))) | (with_reducible apply q_nz; · (first | ((simp (disch := omega) only [jI_lit, jI_neg, jI_add, jI_sub, jI_mul, jI_lt, jI_le, jI_eq, va_up_self, va_up_ne, jI_shr1, jI_shr4, jI_shr0, jI_and1, jI_and15, jF_at, tn, b2_t, b2_f, cmp_ge, cmp_gt, cmp_le, cmp_lt, cmp_eq, jL_lit, jL_lt, jL_le, jL_eq, eh, e2]) <;> omega) | omega)) | (with_reducible apply q_rz; · (first | exact b2_01 _ | decide)))) <;> (first | with_reducible rfl | ((simp (disch := omega) only [jI_lit, jI_neg, jI_add, jI_sub, jI_mul, o_gI, o_gR, o_pI, o_pZ0, o_pZ1, o_pZb, o_pR, o_aI, o_qI, o_aN, tn, va_up_self, va_up_ne, upup, jI_shr1, jI_shr4, jI_shr0, jI_and1, jI_and15, jI_join, jI_240, jI_hi, jF_at, jF_up, jI_max, jI_min, b2_t, b2_f, Bool.not_true, Bool.not_false, eq_self, true_or, or_true, eh, e2]) <;> with_reducible rfl) | rfl))
  · have eb := e_cpR (L := L) (w := w) hx1.1 hw1.1 hI1 hzx
    have ep := e_pth (I := I1) (L := L) (w := w) (g := g) (z := (z : Int)) hx1.1 ok.1 hh5 (by omega) (by omega)
    obtain ⟨v, hv⟩ : ∃ v, v = pth r hh (z : Int) := ⟨_, rfl⟩
    rw [← hv] at ep
    have okv : RowOK many T v := by rw [hv]; exact RowOK_pth ok hh5 (by omega) (by omega)
    obtain ⟨I2, hI2⟩ : ∃ I2, I2 = va_up I1 (x + 1) (jF (cls v g)) := ⟨_, rfl⟩
    rw [← hI2] at ep
    have hg2 : Gd K I2 R1 N p l many P := Gd_fr h (fun y' a b => by
      rw [hI2, va_up_ne _ _ (fun e => b (by rw [e]; exact hx1.1.2.2.1)), hfr y' a (fun e => b (by rw [e]; exact hx1.1.2.2.1)) (fun e => b (by rw [e]; exact hy1.1.2.2.1)) (fun e => b (by rw [e]; exact kt))]) hR
    have hf2 : Fs K R1 N f p x y t := ⟨k4, f0, f1, f2, f3, hx1, hy1, kt, nt, hto, htx, hty, hxy, hfo⟩
    obtain ⟨I3, R3, er, hp3⟩ := e_rtf (L := L) (w := w) (n := n) hg2 hf2 hx1 (by rw [hI2, va_up_self]) okv hT (by omega)
    obtain ⟨okU, kd1, kd2⟩ := rtf_ok okv pg hm n (by omega)
    have hkd := rtf_kd okv pg hm n (by omega)
    have qv2 : ∀ d, sQ P many r base sound n pl d (16 * i + z) = (vrd (rtf P many v n).1 base (rtf P many v n).2 sound hh == d) := fun d => by rw [qv d, ← hv]; simp [c]
    obtain ⟨u, hu⟩ : ∃ u, u = (rtf P many v n).1 := ⟨_, rfl⟩
    obtain ⟨kd, hk⟩ : ∃ kd, kd = (rtf P many v n).2 := ⟨_, rfl⟩
    rw [← hu] at okU hkd hp3 qv2
    rw [← hk] at kd1 kd2 hkd er
    have hkd : kd ≠ 0 → u 280 = kd := hkd
    have qv2 : ∀ d, sQ P many r base sound n pl d (16 * i + z) = (vrd u base kd sound hh == d) := fun d => by rw [hk]; exact qv2 d
    obtain ⟨⟨g3, hg3⟩, hfr3, hR3⟩ := hp3
    have hy3 : I3 (y + 1) = jF (cls base gb) := by rw [hfr3 (y + 1) (by have := hy1.2; omega) (by omega), hI2, va_up_ne _ _ (by omega)]; exact hgb
    have hf3 := Fs_fr hg2 hf2 hR3
    have h289 : kd = 4 ∨ kd = 5 → u 289 ≠ 0 := fun q => by
      have a := hkd (by omega)
      have b := okU.2.2.2.2.2.2.2.2.2.2.2.2.2.2.1
      rw [a, if_pos q] at b
      omega
    have ev := e_verdict (L := L) (w := w) (sound := sound) hf3 hg3 hy3 okU.2.1 hb hh5 kd1 kd2 h289
    obtain ⟨d, hd⟩ : ∃ d, d = vrd u base kd sound hh := ⟨_, rfl⟩
    have dr : d = 0 ∨ d = 1 ∨ d = 2 := by rw [hd]; exact vrd_r _ _ _ _ _
    rw [← hd] at ev qv2
    have ht3 : I3 t = I1 t := by rw [hfr3 t hto htx, hI2, va_up_ne _ _ htx]
    have ht3' : Tl I3 t (cnt (sQ P many r base sound n pl 0) (16 * i + z) : Nat) (cnt (sQ P many r base sound n pl 1) (16 * i + z) : Nat) (cnt (sQ P many r base sound n pl 2) (16 * i + z) : Nat) (fstv pl (sQ P many r base sound n pl 2) (16 * i + z)) := by
      unfold Tl at ht ⊢; rw [ht3]; exact ht
    have fr := fstv_r (pl := pl) (m := 16 * i + z) (q := sQ P many r base sound n pl 2) (by omega) (by omega)
    obtain ⟨F, ej, hT4⟩ := e_judge (L := L) (w := w) (h := (hh : Int)) (v := (z : Int)) hf3 ht3' dr fr.1 fr.2
    have hT5 : Tl (va_up I3 t F) t (cnt (sQ P many r base sound n pl 0) (16 * i + (z + 1)) : Nat) (cnt (sQ P many r base sound n pl 1) (16 * i + (z + 1)) : Nat) (cnt (sQ P many r base sound n pl 2) (16 * i + (z + 1)) : Nat) (fstv pl (sQ P many r base sound n pl 2) (16 * i + (z + 1))) := by
      rw [eA]
      rcases dr with e | e | e
      · subst e
        rw [if_pos rfl, if_neg (by decide), if_neg (by decide), if_neg (by omega)] at hT4
        rw [cnt_t (by rw [qv2]; rfl), cnt_f (by rw [qv2]; rfl), cnt_f (by rw [qv2]; rfl), fstv_f (by rw [qv2]; rfl)]
        exact hT4
      · subst e
        rw [if_neg (by decide), if_pos rfl, if_neg (by decide), if_neg (by omega)] at hT4
        rw [cnt_f (by rw [qv2]; rfl), cnt_t (by rw [qv2]; rfl), cnt_f (by rw [qv2]; rfl), fstv_f (by rw [qv2]; rfl)]
        exact hT4
      · subst e
        rw [if_neg (by decide), if_neg (by decide), if_pos rfl] at hT4
        rw [cnt_f (by rw [qv2]; rfl), cnt_f (by rw [qv2]; rfl), cnt_t (by rw [qv2]; rfl), fstv_t (by rw [qv2]; rfl)]
        have e5 : (100 * (2 * (pl : Int) + ((16 * i + z : Nat) : Int) / 16) + ((16 * i + z : Nat) : Int) % 16) = 100 * (hh : Int) + (z : Int) := by omega
        rw [e5]
        by_cases c3 : fstv pl (sQ P many r base sound n pl 2) (16 * i + z) = -1
        · rw [if_pos c3]
          rw [if_pos ⟨rfl, c3⟩] at hT4
          exact hT4
        · rw [if_neg c3]
          rw [if_neg (fun q => c3 q.2)] at hT4
          exact hT4
    refine ⟨(va_up I3 t F, R3), ⟨hT5, ⟨gb, ?_⟩, ?_, fun y' a1 a2 a3 a4 => ?_, RFr_tr hR hR3⟩, ?_⟩
    · show va_up I3 t F (y + 1) = _
      rw [va_up_ne _ _ (Ne.symm hty)]; exact hy3
    · have : (va_up I3 t F) (x + 1) = jF (cls u g3) := by rw [va_up_ne _ _ (Ne.symm htx)]; exact hg3
      exact Zr_of this
    · show va_up I3 t F y' = _
      rw [va_up_ne _ _ a4, hfr3 y' a1 a2, hI2, va_up_ne _ _ a2, hfr y' a1 a2 a3 a4]
    · show fX4_spoil_50 k37 k50 f nw (jI (pl : Int)) (jI (ln : Int)) (jI (n : Int)) (jI what) (jI (b2 sound)) (jI (hh : Int)) (jI (z : Int)) (K, I1, R1, L, N, w) = k50 f nw (jI (pl : Int)) (jI (ln : Int)) (jI (n : Int)) (jI what) (jI (b2 sound)) (jI (hh : Int)) (jI ((z + 1 : Nat) : Int)) (K, va_up I3 t F, R3, L, N, w)
      have f13 := hf3.2.2.1
      obtain ⟨hv0, ehv0⟩ : ∃ q, q = hf r hh := ⟨_, rfl⟩
      rw [← ehv0] at eh c hr16
      clear ht hgb hzx hfr hR qv h hf0 hw hI ok hw1 hx1 hy1 hI1 em1 em2 eA ehh hb okv hg2 hf2 okU hkd qv2 hg3 hfr3 hR3 hy3 hf3 h289 ht3 ht3' fr hT4 hT5 hI2 hd dr hu hk hv ehv0
      unfold fX4_spoil_50
      ((repeat (first | (with_reducible apply q_gd; · (first | assumption | omega)) | (with_reducible apply q_ob; · (first | with_reducible rfl | ((simp (disch := omega) only [jI_lit, jI_neg, jI_add, jI_sub, jI_mul, o_gI, o_gR, o_pI, o_pZ0, o_pZ1, o_pZb, o_pR, o_aI, o_qI, o_aN, tn, va_up_self, va_up_ne, upup, jI_shr1, jI_shr4, jI_shr0, jI_and1, jI_and15, jI_join, jI_240, jI_hi, jF_at, jF_up, jI_max, jI_min, b2_t, b2_f, Bool.not_true, Bool.not_false, eq_self, true_or, or_true, eh, e2, f1, eb, ep, er, ev, ej, f13]) <;> with_reducible rfl))) | (with_reducible apply q_ob2; · (first | with_reducible rfl | ((simp (disch := omega) only [jI_lit, jI_neg, jI_add, jI_sub, jI_mul, o_gI, o_gR, o_pI, o_pZ0, o_pZ1, o_pZb, o_pR, o_aI, o_qI, o_aN, tn, va_up_self, va_up_ne, upup, jI_shr1, jI_shr4, jI_shr0, jI_and1, jI_and15, jI_join, jI_240, jI_hi, jF_at, jF_up, jI_max, jI_min, b2_t, b2_f, Bool.not_true, Bool.not_false, eq_self, true_or, or_true, eh, e2, f1, eb, ep, er, ev, ej, f13]) <;> with_reducible rfl))) | (with_reducible apply q_lt; · (first | with_reducible rfl | ((simp (disch := omega) only [jI_lit, jI_neg, jI_add, jI_sub, jI_mul, o_gI, o_gR, o_pI, o_pZ0, o_pZ1, o_pZb, o_pR, o_aI, o_qI, o_aN, tn, va_up_self, va_up_ne, upup, jI_shr1, jI_shr4, jI_shr0, jI_and1, jI_and15, jI_join, jI_240, jI_hi, jF_at, jF_up, jI_max, jI_min, b2_t, b2_f, Bool.not_true, Bool.not_false, eq_self, true_or, or_true, eh, e2, f1, eb, ep, er, ev, ej, f13]) <;> with_reducible rfl))) | (with_reducible apply q_ifp; · (first | ((simp (disch := omega) only [jI_lit, jI_neg, jI_add, jI_sub, jI_mul, jI_lt, jI_le, jI_eq, va_up_self, va_up_ne, jI_shr1, jI_shr4, jI_shr0, jI_and1, jI_and15, jF_at, tn, b2_t, b2_f, cmp_ge, cmp_gt, cmp_le, cmp_lt, cmp_eq, jL_lit, jL_lt, jL_le, jL_eq, eh, e2, f1, eb, ep, er, ev, ej, f13]) <;> omega) | omega)) | (with_reducible apply q_ifn; · (first | ((simp (disch := omega) only [jI_lit, jI_neg, jI_add, jI_sub, jI_mul, jI_lt, jI_le, jI_eq, va_up_self, va_up_ne, jI_shr1, jI_shr4, jI_shr0, jI_and1, jI_and15, jF_at, tn, b2_t, b2_f, cmp_ge, cmp_gt, cmp_le, cmp_lt, cmp_eq, jL_lit, jL_lt, jL_le, jL_eq, eh, e2, f1, eb, ep, er, ev, ej, f13]) <;> omega) | omega)) | (with_reducible apply q_obk; · (first | with_reducible rfl | ((simp (disch := omega) only [jI_lit, jI_neg, jI_add, jI_sub, jI_mul, o_gI, o_gR, o_pI, o_pZ0, o_pZ1, o_pZb, o_pR, o_aI, o_qI, o_aN, tn, va_up_self, va_up_ne, upup, jI_shr1, jI_shr4, jI_shr0, jI_and1, jI_and15, jI_join, jI_240, jI_hi, jF_at, jF_up, jI_max, jI_min, b2_t, b2_f, Bool.not_true, Bool.not_false, eq_self, true_or, or_true, eh, e2, f1, eb, ep, er, ev, ej, f13]) <;> with_reducible rfl))) | (with_reducible apply q_nz; · (first | ((simp (disch := omega) only [jI_lit, jI_neg, jI_add, jI_sub, jI_mul, jI_lt, jI_le, jI_eq, va_up_self, va_up_ne, jI_shr1, jI_shr4, jI_shr0, jI_and1, jI_and15, jF_at, tn, b2_t, b2_f, cmp_ge, cmp_gt, cmp_le, cmp_lt, cmp_eq, jL_lit, jL_lt, jL_le, jL_eq, eh, e2, f1, eb, ep, er, ev, ej, f13]) <;> omega) | omega)) | (with_reducible apply q_rz; · (first | exact b2_01 _ | decide)))) <;> (first | with_reducible rfl | ((simp (disch := omega) only [jI_lit, jI_neg, jI_add, jI_sub, jI_mul, o_gI, o_gR, o_pI, o_pZ0, o_pZ1, o_pZb, o_pR, o_aI, o_qI, o_aN, tn, va_up_self, va_up_ne, upup, jI_shr1, jI_shr4, jI_shr0, jI_and1, jI_and15, jI_join, jI_240, jI_hi, jF_at, jF_up, jI_max, jI_min, b2_t, b2_f, Bool.not_true, Bool.not_false, eq_self, true_or, or_true, eh, e2, f1, eb, ep, er, ev, ej, f13]) <;> with_reducible rfl) | rfl))
theorem spoil_in {f p x y t l many nw n pl ln i : Nat} {P : PG} {T what : Int} {r g base : Nat → Int} {sound : Bool} {s : (Nat → Nat → Int32) × (Nat → Nat → Nat)} (h : Gd K I R N p l many P) (hf0 : Fs K R N f p x y t) (hw : Ro K R N p nw) (hwx : nw ≠ x) (hwy : nw ≠ y) (hwt : nw + 1 ≠ t) (hI : I (nw + 1) = jF (cls r g)) (ok : RowOK many T r) (hT : T < 800000) (hn : n ≤ 60) (hpl : pl + ln ≤ 256) (hi : i < 2 * ln) (hb : Rng base)
    (hs : SI p x y t I R P many r base sound n pl (16 * i + 0) s) (k37 : Nat → Nat → Int32 → Int32 → Int32 → Int32 → Int32 → Int32 → Hp → Option (Int32 × Hp)) :
    ∃ s', SI p x y t I R P many r base sound n pl (16 * (i + 1)) s' ∧ lp (fun _ _ _ _ _ _ _ _ _ _ => none) (fX4_spoil_50 k37) FU f nw (jI (pl : Int)) (jI (ln : Int)) (jI (n : Int)) (jI what) (jI (b2 sound)) (jI ((2 * pl + i : Nat) : Int)) (jI ((0 : Nat) : Int)) (K, s.1, s.2, L, N, w) = k37 f nw (jI (pl : Int)) (jI (ln : Int)) (jI (n : Int)) (jI what) (jI (b2 sound)) (jI ((2 * pl + (i + 1) : Nat) : Int)) (K, s'.1, s'.2, L, N, w) := by
  have key := lp_sr (z := fun _ _ _ _ _ _ _ _ _ _ => none) (S := fX4_spoil_50 k37) (β := Int32 × Hp) (σ := (Nat → Nat → Int32) × (Nat → Nat → Nat)) (fun k z s => k f nw (jI (pl : Int)) (jI (ln : Int)) (jI (n : Int)) (jI what) (jI (b2 sound)) (jI ((2 * pl + i : Nat) : Int)) (jI (z : Int)) (K, s.1, s.2, L, N, w)) 16
    (fun z s => SI p x y t I R P many r base sound n pl (16 * i + z) s)
    (fun res => ∃ s', SI p x y t I R P many r base sound n pl (16 * (i + 1)) s' ∧ res = k37 f nw (jI (pl : Int)) (jI (ln : Int)) (jI (n : Int)) (jI what) (jI (b2 sound)) (jI ((2 * pl + (i + 1) : Nat) : Int)) (K, s'.1, s'.2, L, N, w)) ?_ ?_ FU 0 s (by omega) (FU_lt (by omega)) hs
  · exact key
  · intro z s hz hs k'
    exact Or.inr (e_sp1 h hf0 hw hwx hwy hwt hI ok hT hn hpl hi hz hb hs k37 k')
  · intro s hs k'
    refine ⟨s, ?_, ?_⟩
    · have e : 16 * (i + 1) = 16 * i + 16 := by omega
      rw [e]; exact hs
    · show fX4_spoil_50 k37 k' f nw (jI (pl : Int)) (jI (ln : Int)) (jI (n : Int)) (jI what) (jI (b2 sound)) (jI ((2 * pl + i : Nat) : Int)) (jI ((16 : Nat) : Int)) (K, s.1, s.2, L, N, w) = _
      have e2 : ((2 * pl + i : Nat) : Int) + 1 = ((2 * pl + (i + 1) : Nat) : Int) := by omega
      clear hs h hf0 hw hI ok hb
      unfold fX4_spoil_50
      ((repeat (first | (with_reducible apply q_gd; · (first | assumption | omega)) | (with_reducible apply q_ob; · (first | with_reducible rfl | ((simp (disch := omega) only [jI_lit, jI_neg, jI_add, jI_sub, jI_mul, o_gI, o_gR, o_pI, o_pZ0, o_pZ1, o_pZb, o_pR, o_aI, o_qI, o_aN, tn, va_up_self, va_up_ne, upup, jI_shr1, jI_shr4, jI_shr0, jI_and1, jI_and15, jI_join, jI_240, jI_hi, jF_at, jF_up, jI_max, jI_min, b2_t, b2_f, Bool.not_true, Bool.not_false, eq_self, true_or, or_true, e2]) <;> with_reducible rfl))) | (with_reducible apply q_ob2; · (first | with_reducible rfl | ((simp (disch := omega) only [jI_lit, jI_neg, jI_add, jI_sub, jI_mul, o_gI, o_gR, o_pI, o_pZ0, o_pZ1, o_pZb, o_pR, o_aI, o_qI, o_aN, tn, va_up_self, va_up_ne, upup, jI_shr1, jI_shr4, jI_shr0, jI_and1, jI_and15, jI_join, jI_240, jI_hi, jF_at, jF_up, jI_max, jI_min, b2_t, b2_f, Bool.not_true, Bool.not_false, eq_self, true_or, or_true, e2]) <;> with_reducible rfl))) | (with_reducible apply q_lt; · (first | with_reducible rfl | ((simp (disch := omega) only [jI_lit, jI_neg, jI_add, jI_sub, jI_mul, o_gI, o_gR, o_pI, o_pZ0, o_pZ1, o_pZb, o_pR, o_aI, o_qI, o_aN, tn, va_up_self, va_up_ne, upup, jI_shr1, jI_shr4, jI_shr0, jI_and1, jI_and15, jI_join, jI_240, jI_hi, jF_at, jF_up, jI_max, jI_min, b2_t, b2_f, Bool.not_true, Bool.not_false, eq_self, true_or, or_true, e2]) <;> with_reducible rfl))) | (with_reducible apply q_ifp; · (first | ((simp (disch := omega) only [jI_lit, jI_neg, jI_add, jI_sub, jI_mul, jI_lt, jI_le, jI_eq, va_up_self, va_up_ne, jI_shr1, jI_shr4, jI_shr0, jI_and1, jI_and15, jF_at, tn, b2_t, b2_f, cmp_ge, cmp_gt, cmp_le, cmp_lt, cmp_eq, jL_lit, jL_lt, jL_le, jL_eq, e2]) <;> omega) | omega)) | (with_reducible apply q_ifn; · (first | ((simp (disch := omega) only [jI_lit, jI_neg, jI_add, jI_sub, jI_mul, jI_lt, jI_le, jI_eq, va_up_self, va_up_ne, jI_shr1, jI_shr4, jI_shr0, jI_and1, jI_and15, jF_at, tn, b2_t, b2_f, cmp_ge, cmp_gt, cmp_le, cmp_lt, cmp_eq, jL_lit, jL_lt, jL_le, jL_eq, e2]) <;> omega) | omega)) | (with_reducible apply q_obk; · (first | with_reducible rfl | ((simp (disch := omega) only [jI_lit, jI_neg, jI_add, jI_sub, jI_mul, o_gI, o_gR, o_pI, o_pZ0, o_pZ1, o_pZb, o_pR, o_aI, o_qI, o_aN, tn, va_up_self, va_up_ne, upup, jI_shr1, jI_shr4, jI_shr0, jI_and1, jI_and15, jI_join, jI_240, jI_hi, jF_at, jF_up, jI_max, jI_min, b2_t, b2_f, Bool.not_true, Bool.not_false, eq_self, true_or, or_true, e2]) <;> with_reducible rfl))) | (with_reducible apply q_nz; · (first | ((simp (disch := omega) only [jI_lit, jI_neg, jI_add, jI_sub, jI_mul, jI_lt, jI_le, jI_eq, va_up_self, va_up_ne, jI_shr1, jI_shr4, jI_shr0, jI_and1, jI_and15, jF_at, tn, b2_t, b2_f, cmp_ge, cmp_gt, cmp_le, cmp_lt, cmp_eq, jL_lit, jL_lt, jL_le, jL_eq, e2]) <;> omega) | omega)) | (with_reducible apply q_rz; · (first | exact b2_01 _ | decide)))) <;> (first | with_reducible rfl | ((simp (disch := omega) only [jI_lit, jI_neg, jI_add, jI_sub, jI_mul, o_gI, o_gR, o_pI, o_pZ0, o_pZ1, o_pZb, o_pR, o_aI, o_qI, o_aN, tn, va_up_self, va_up_ne, upup, jI_shr1, jI_shr4, jI_shr0, jI_and1, jI_and15, jI_join, jI_240, jI_hi, jF_at, jF_up, jI_max, jI_min, b2_t, b2_f, Bool.not_true, Bool.not_false, eq_self, true_or, or_true, e2]) <;> with_reducible rfl) | rfl))
/-- how many halves otherwise are told so, or the first that is neither named nor harmless -/
def spl (P : PG) (many : Nat) (r : Nat → Int) (n pl ln : Nat) (what : Int) : Int :=
  if what = 3 then fstv pl (sQ P many r (rtf P many r n).1 ((rtf P many r n).2 == 0) n pl 2) (32 * ln) else (cnt (sQ P many r (rtf P many r n).1 ((rtf P many r n).2 == 0) n pl what) (32 * ln) : Nat)
theorem e_spoil {f p x y t l many nw n pl ln : Nat} {P : PG} {T what : Int} {r g : Nat → Int} (h : Gd K I R N p l many P) (hf0 : Fs K R N f p x y t) (hw : Ro K R N p nw) (hwx : nw ≠ x) (hwy : nw ≠ y) (hwt : nw + 1 ≠ t) (hI : I (nw + 1) = jF (cls r g)) (hzx : Zr I x) (hzy : Zr I y) (ok : RowOK many T r) (hT : T < 800000) (hn : n ≤ 60) (hpl : pl + ln ≤ 256) (w1 : 0 ≤ what) (w2 : what ≤ 3) :
    ∃ I' R', fX4_spoil f nw (jI (pl : Int)) (jI (ln : Int)) (jI (n : Int)) (jI what) (K, I, R, L, N, w) = some (jI (spl P many r n pl ln what), (K, I', R', L, N, w)) ∧ (∀ y', (y' < p ∨ p + 15 ≤ y') → y' ≠ x + 1 → y' ≠ y + 1 → y' ≠ t → I' y' = I y') ∧ RFr p R R' ∧ Zr I' x ∧ Zr I' y := by
  obtain ⟨pg, hm⟩ := Gd_pg h
  have hff := hf0
  obtain ⟨k4, f0, f1, f2, f3, hx1, hy1, kt, nt, hto, htx, hty, hxy, hfo⟩ := hff
  obtain ⟨F, ec, hT0⟩ := e_clearTold (I := I) (L := L) (w := w) hf0
  obtain ⟨I0, hI0⟩ : ∃ I0, I0 = va_up I t F := ⟨_, rfl⟩
  rw [← hI0] at ec hT0
  have hI0n : ∀ y', y' ≠ t → I0 y' = I y' := fun y' q => by rw [hI0, va_up_ne _ _ q]
  have eb := e_cpR (I := I0) (L := L) (w := w) hy1.1 hw.1 (by rw [hI0n _ hwt]; exact hI) (fun j hj => by rw [hI0n _ (Ne.symm hty)]; exact hzy j hj)
  obtain ⟨I1, hI1⟩ : ∃ I1, I1 = va_up I0 (y + 1) (jF (cls r g)) := ⟨_, rfl⟩
  rw [← hI1] at eb
  have hI1n : ∀ y', y' ≠ t → y' ≠ y + 1 → I1 y' = I y' := fun y' q q2 => by rw [hI1, va_up_ne _ _ q2, hI0n y' q]
  have hg1 : Gd K I1 R N p l many P := Gd_fr h (fun y' a b => hI1n y' (fun e => b (by rw [e]; exact kt)) (fun e => b (by rw [e]; exact hy1.1.2.2.1))) (RFr_rf _ _)
  obtain ⟨I2, R2, er, hp2⟩ := e_rtf (L := L) (w := w) (n := n) hg1 hf0 hy1 (by rw [hI1, va_up_self]) ok hT (by omega)
  obtain ⟨okB, kd1, kd2⟩ := rtf_ok ok pg hm n (by omega)
  obtain ⟨base, hbase⟩ : ∃ base, base = (rtf P many r n).1 := ⟨_, rfl⟩
  obtain ⟨kd, hkd⟩ : ∃ kd, kd = (rtf P many r n).2 := ⟨_, rfl⟩
  obtain ⟨sound, hsound⟩ : ∃ sound, sound = (kd == 0) := ⟨_, rfl⟩
  obtain ⟨A, hA⟩ : ∃ A, A = spl P many r n pl ln what := ⟨_, rfl⟩
  have hA2 : A = if what = 3 then fstv pl (sQ P many r base sound n pl 2) (32 * ln) else (cnt (sQ P many r base sound n pl what) (32 * ln) : Nat) := by
    rw [hA, hsound, hkd, hbase]; rfl
  rw [← hA]
  rw [← hbase] at okB hp2
  rw [← hkd] at kd1 kd2 er
  obtain ⟨⟨gb, hgb⟩, hfr2, hR2⟩ := hp2
  have s0 : SI p x y t I R P many r base sound n pl (16 * 0) (I2, R2) := by
    refine ⟨?_, ⟨gb, hgb⟩, fun j hj => ?_, fun y' a1 a2 a3 a4 => ?_, hR2⟩
    · have e : I2 t = I0 t := by rw [hfr2 t hto hty, hI1, va_up_ne _ _ hty]
      unfold Tl at hT0 ⊢
      show I2 t 0 = _ ∧ I2 t 1 = _ ∧ I2 t 2 = _ ∧ I2 t 3 = _
      rw [e]
      exact hT0
    · show I2 (x + 1) j = _
      rw [hfr2 (x + 1) (by have := hx1.2; omega) (by omega), hI1n _ (Ne.symm htx) (by omega)]
      exact hzx j hj
    · show I2 y' = _
      rw [hfr2 y' a1 a3, hI1n y' a4 a3]
  have key := lp_sr (z := fun _ _ _ _ _ _ _ _ _ => none) (S := fX4_spoil_37) (β := Int32 × Hp) (σ := (Nat → Nat → Int32) × (Nat → Nat → Nat)) (fun k i s => k f nw (jI (pl : Int)) (jI (ln : Int)) (jI (n : Int)) (jI what) (jI (b2 sound)) (jI ((2 * pl + i : Nat) : Int)) (K, s.1, s.2, L, N, w)) (2 * ln)
    (fun i s => SI p x y t I R P many r base sound n pl (16 * i) s)
    (fun res => ∃ I' R', res = some (jI A, (K, I', R', L, N, w)) ∧ (∀ y', (y' < p ∨ p + 15 ≤ y') → y' ≠ x + 1 → y' ≠ y + 1 → y' ≠ t → I' y' = I y') ∧ RFr p R R' ∧ Zr I' x ∧ Zr I' y) ?_ ?_ FU 0 (I2, R2) (by omega) (FU_lt (by omega)) s0
  · obtain ⟨I', R', e1, e2⟩ := key
    refine ⟨I', R', ?_, e2⟩
    rw [← e1]
    clear e1 e2 ok hI hA hA2 h hf0 hw hzx hzy hT0 hI0 hI0n hI1 hI1n hg1 okB hbase hkd hgb hfr2 hR2 s0 hx1 hy1 pg
    have ez : (2 : Int) * (pl : Int) = ((2 * pl + 0 : Nat) : Int) := by omega
    unfold fX4_spoil
    by_cases c : kd = 0
    · have : sound = true := by rw [hsound]; simpa using c
      rw [this, b2_t]
      ((repeat (first | (with_reducible apply q_gd; · (first | assumption | omega)) | (with_reducible apply q_ob; · (first | with_reducible rfl | ((simp (disch := omega) only [jI_lit, jI_neg, jI_add, jI_sub, jI_mul, o_gI, o_gR, o_pI, o_pZ0, o_pZ1, o_pZb, o_pR, o_aI, o_qI, o_aN, tn, va_up_self, va_up_ne, upup, jI_shr1, jI_shr4, jI_shr0, jI_and1, jI_and15, jI_join, jI_240, jI_hi, jF_at, jF_up, jI_max, jI_min, b2_t, b2_f, Bool.not_true, Bool.not_false, eq_self, true_or, or_true, ec, f2, eb, er, ez]) <;> with_reducible rfl))) | (with_reducible apply q_ob2; · (first | with_reducible rfl | ((simp (disch := omega) only [jI_lit, jI_neg, jI_add, jI_sub, jI_mul, o_gI, o_gR, o_pI, o_pZ0, o_pZ1, o_pZb, o_pR, o_aI, o_qI, o_aN, tn, va_up_self, va_up_ne, upup, jI_shr1, jI_shr4, jI_shr0, jI_and1, jI_and15, jI_join, jI_240, jI_hi, jF_at, jF_up, jI_max, jI_min, b2_t, b2_f, Bool.not_true, Bool.not_false, eq_self, true_or, or_true, ec, f2, eb, er, ez]) <;> with_reducible rfl))) | (with_reducible apply q_lt; · (first | with_reducible rfl | ((simp (disch := omega) only [jI_lit, jI_neg, jI_add, jI_sub, jI_mul, o_gI, o_gR, o_pI, o_pZ0, o_pZ1, o_pZb, o_pR, o_aI, o_qI, o_aN, tn, va_up_self, va_up_ne, upup, jI_shr1, jI_shr4, jI_shr0, jI_and1, jI_and15, jI_join, jI_240, jI_hi, jF_at, jF_up, jI_max, jI_min, b2_t, b2_f, Bool.not_true, Bool.not_false, eq_self, true_or, or_true, ec, f2, eb, er, ez]) <;> with_reducible rfl))) | (with_reducible apply q_ifp; · (first | ((simp (disch := omega) only [jI_lit, jI_neg, jI_add, jI_sub, jI_mul, jI_lt, jI_le, jI_eq, va_up_self, va_up_ne, jI_shr1, jI_shr4, jI_shr0, jI_and1, jI_and15, jF_at, tn, b2_t, b2_f, cmp_ge, cmp_gt, cmp_le, cmp_lt, cmp_eq, jL_lit, jL_lt, jL_le, jL_eq, ec, f2, eb, er, ez]) <;> omega) | omega)) | (with_reducible apply q_ifn; · (first | ((simp (disch := omega) only [jI_lit, jI_neg, jI_add, jI_sub, jI_mul, jI_lt, jI_le, jI_eq, va_up_self, va_up_ne, jI_shr1, jI_shr4, jI_shr0, jI_and1, jI_and15, jF_at, tn, b2_t, b2_f, cmp_ge, cmp_gt, cmp_le, cmp_lt, cmp_eq, jL_lit, jL_lt, jL_le, jL_eq, ec, f2, eb, er, ez]) <;> omega) | omega)) | (with_reducible apply q_obk; · (first | with_reducible rfl | ((simp (disch := omega) only [jI_lit, jI_neg, jI_add, jI_sub, jI_mul, o_gI, o_gR, o_pI, o_pZ0, o_pZ1, o_pZb, o_pR, o_aI, o_qI, o_aN, tn, va_up_self, va_up_ne, upup, jI_shr1, jI_shr4, jI_shr0, jI_and1, jI_and15, jI_join, jI_240, jI_hi, jF_at, jF_up, jI_max, jI_min, b2_t, b2_f, Bool.not_true, Bool.not_false, eq_self, true_or, or_true, ec, f2, eb, er, ez]) <;> with_reducible rfl))) | (with_reducible apply q_nz; · (first | ((simp (disch := omega) only [jI_lit, jI_neg, jI_add, jI_sub, jI_mul, jI_lt, jI_le, jI_eq, va_up_self, va_up_ne, jI_shr1, jI_shr4, jI_shr0, jI_and1, jI_and15, jF_at, tn, b2_t, b2_f, cmp_ge, cmp_gt, cmp_le, cmp_lt, cmp_eq, jL_lit, jL_lt, jL_le, jL_eq, ec, f2, eb, er, ez]) <;> omega) | omega)) | (with_reducible apply q_rz; · (first | exact b2_01 _ | decide)))) <;> (first | with_reducible rfl | ((simp (disch := omega) only [jI_lit, jI_neg, jI_add, jI_sub, jI_mul, o_gI, o_gR, o_pI, o_pZ0, o_pZ1, o_pZb, o_pR, o_aI, o_qI, o_aN, tn, va_up_self, va_up_ne, upup, jI_shr1, jI_shr4, jI_shr0, jI_and1, jI_and15, jI_join, jI_240, jI_hi, jF_at, jF_up, jI_max, jI_min, b2_t, b2_f, Bool.not_true, Bool.not_false, eq_self, true_or, or_true, ec, f2, eb, er, ez]) <;> with_reducible rfl) | rfl))
    · have : sound = false := by rw [hsound]; simpa using c
      rw [this, b2_f]
      ((repeat (first | (with_reducible apply q_gd; · (first | assumption | omega)) | (with_reducible apply q_ob; · (first | with_reducible rfl | ((simp (disch := omega) only [jI_lit, jI_neg, jI_add, jI_sub, jI_mul, o_gI, o_gR, o_pI, o_pZ0, o_pZ1, o_pZb, o_pR, o_aI, o_qI, o_aN, tn, va_up_self, va_up_ne, upup, jI_shr1, jI_shr4, jI_shr0, jI_and1, jI_and15, jI_join, jI_240, jI_hi, jF_at, jF_up, jI_max, jI_min, b2_t, b2_f, Bool.not_true, Bool.not_false, eq_self, true_or, or_true, ec, f2, eb, er, ez]) <;> with_reducible rfl))) | (with_reducible apply q_ob2; · (first | with_reducible rfl | ((simp (disch := omega) only [jI_lit, jI_neg, jI_add, jI_sub, jI_mul, o_gI, o_gR, o_pI, o_pZ0, o_pZ1, o_pZb, o_pR, o_aI, o_qI, o_aN, tn, va_up_self, va_up_ne, upup, jI_shr1, jI_shr4, jI_shr0, jI_and1, jI_and15, jI_join, jI_240, jI_hi, jF_at, jF_up, jI_max, jI_min, b2_t, b2_f, Bool.not_true, Bool.not_false, eq_self, true_or, or_true, ec, f2, eb, er, ez]) <;> with_reducible rfl))) | (with_reducible apply q_lt; · (first | with_reducible rfl | ((simp (disch := omega) only [jI_lit, jI_neg, jI_add, jI_sub, jI_mul, o_gI, o_gR, o_pI, o_pZ0, o_pZ1, o_pZb, o_pR, o_aI, o_qI, o_aN, tn, va_up_self, va_up_ne, upup, jI_shr1, jI_shr4, jI_shr0, jI_and1, jI_and15, jI_join, jI_240, jI_hi, jF_at, jF_up, jI_max, jI_min, b2_t, b2_f, Bool.not_true, Bool.not_false, eq_self, true_or, or_true, ec, f2, eb, er, ez]) <;> with_reducible rfl))) | (with_reducible apply q_ifp; · (first | ((simp (disch := omega) only [jI_lit, jI_neg, jI_add, jI_sub, jI_mul, jI_lt, jI_le, jI_eq, va_up_self, va_up_ne, jI_shr1, jI_shr4, jI_shr0, jI_and1, jI_and15, jF_at, tn, b2_t, b2_f, cmp_ge, cmp_gt, cmp_le, cmp_lt, cmp_eq, jL_lit, jL_lt, jL_le, jL_eq, ec, f2, eb, er, ez]) <;> omega) | omega)) | (with_reducible apply q_ifn; · (first | ((simp (disch := omega) only [jI_lit, jI_neg, jI_add, jI_sub, jI_mul, jI_lt, jI_le, jI_eq, va_up_self, va_up_ne, jI_shr1, jI_shr4, jI_shr0, jI_and1, jI_and15, jF_at, tn, b2_t, b2_f, cmp_ge, cmp_gt, cmp_le, cmp_lt, cmp_eq, jL_lit, jL_lt, jL_le, jL_eq, ec, f2, eb, er, ez]) <;> omega) | omega)) | (with_reducible apply q_obk; · (first | with_reducible rfl | ((simp (disch := omega) only [jI_lit, jI_neg, jI_add, jI_sub, jI_mul, o_gI, o_gR, o_pI, o_pZ0, o_pZ1, o_pZb, o_pR, o_aI, o_qI, o_aN, tn, va_up_self, va_up_ne, upup, jI_shr1, jI_shr4, jI_shr0, jI_and1, jI_and15, jI_join, jI_240, jI_hi, jF_at, jF_up, jI_max, jI_min, b2_t, b2_f, Bool.not_true, Bool.not_false, eq_self, true_or, or_true, ec, f2, eb, er, ez]) <;> with_reducible rfl))) | (with_reducible apply q_nz; · (first | ((simp (disch := omega) only [jI_lit, jI_neg, jI_add, jI_sub, jI_mul, jI_lt, jI_le, jI_eq, va_up_self, va_up_ne, jI_shr1, jI_shr4, jI_shr0, jI_and1, jI_and15, jF_at, tn, b2_t, b2_f, cmp_ge, cmp_gt, cmp_le, cmp_lt, cmp_eq, jL_lit, jL_lt, jL_le, jL_eq, ec, f2, eb, er, ez]) <;> omega) | omega)) | (with_reducible apply q_rz; · (first | exact b2_01 _ | decide)))) <;> (first | with_reducible rfl | ((simp (disch := omega) only [jI_lit, jI_neg, jI_add, jI_sub, jI_mul, o_gI, o_gR, o_pI, o_pZ0, o_pZ1, o_pZb, o_pR, o_aI, o_qI, o_aN, tn, va_up_self, va_up_ne, upup, jI_shr1, jI_shr4, jI_shr0, jI_and1, jI_and15, jI_join, jI_240, jI_hi, jF_at, jF_up, jI_max, jI_min, b2_t, b2_f, Bool.not_true, Bool.not_false, eq_self, true_or, or_true, ec, f2, eb, er, ez]) <;> with_reducible rfl) | rfl))
  · intro i s hi hs k'
    right
    obtain ⟨s', hs', e⟩ := spoil_in (L := L) (w := w) (what := what) h hf0 hw hwx hwy hwt hI ok hT hn hpl hi okB.2.1 hs k'
    refine ⟨s', hs', ?_⟩
    rw [← e]
    clear e hs' hs ok hI hA hA2 h hf0 hw hzx hzy hT0 hI0 hI0n hI1 hI1n hg1 okB hbase hkd hgb hfr2 hR2 s0 hx1 hy1 pg
    unfold fX4_spoil_37
    ((repeat (first | (with_reducible apply q_gd; · (first | assumption | omega)) | (with_reducible apply q_ob; · (first | with_reducible rfl | ((simp (disch := omega) only [jI_lit, jI_neg, jI_add, jI_sub, jI_mul, o_gI, o_gR, o_pI, o_pZ0, o_pZ1, o_pZb, o_pR, o_aI, o_qI, o_aN, tn, va_up_self, va_up_ne, upup, jI_shr1, jI_shr4, jI_shr0, jI_and1, jI_and15, jI_join, jI_240, jI_hi, jF_at, jF_up, jI_max, jI_min, b2_t, b2_f, Bool.not_true, Bool.not_false, eq_self, true_or, or_true]) <;> with_reducible rfl))) | (with_reducible apply q_ob2; · (first | with_reducible rfl | ((simp (disch := omega) only [jI_lit, jI_neg, jI_add, jI_sub, jI_mul, o_gI, o_gR, o_pI, o_pZ0, o_pZ1, o_pZb, o_pR, o_aI, o_qI, o_aN, tn, va_up_self, va_up_ne, upup, jI_shr1, jI_shr4, jI_shr0, jI_and1, jI_and15, jI_join, jI_240, jI_hi, jF_at, jF_up, jI_max, jI_min, b2_t, b2_f, Bool.not_true, Bool.not_false, eq_self, true_or, or_true]) <;> with_reducible rfl))) | (with_reducible apply q_lt; · (first | with_reducible rfl | ((simp (disch := omega) only [jI_lit, jI_neg, jI_add, jI_sub, jI_mul, o_gI, o_gR, o_pI, o_pZ0, o_pZ1, o_pZb, o_pR, o_aI, o_qI, o_aN, tn, va_up_self, va_up_ne, upup, jI_shr1, jI_shr4, jI_shr0, jI_and1, jI_and15, jI_join, jI_240, jI_hi, jF_at, jF_up, jI_max, jI_min, b2_t, b2_f, Bool.not_true, Bool.not_false, eq_self, true_or, or_true]) <;> with_reducible rfl))) | (with_reducible apply q_ifp; · (first | ((simp (disch := omega) only [jI_lit, jI_neg, jI_add, jI_sub, jI_mul, jI_lt, jI_le, jI_eq, va_up_self, va_up_ne, jI_shr1, jI_shr4, jI_shr0, jI_and1, jI_and15, jF_at, tn, b2_t, b2_f, cmp_ge, cmp_gt, cmp_le, cmp_lt, cmp_eq, jL_lit, jL_lt, jL_le, jL_eq]) <;> omega) | omega)) | (with_reducible apply q_ifn; · (first | ((simp (disch := omega) only [jI_lit, jI_neg, jI_add, jI_sub, jI_mul, jI_lt, jI_le, jI_eq, va_up_self, va_up_ne, jI_shr1, jI_shr4, jI_shr0, jI_and1, jI_and15, jF_at, tn, b2_t, b2_f, cmp_ge, cmp_gt, cmp_le, cmp_lt, cmp_eq, jL_lit, jL_lt, jL_le, jL_eq]) <;> omega) | omega)) | (with_reducible apply q_obk; · (first | with_reducible rfl | ((simp (disch := omega) only [jI_lit, jI_neg, jI_add, jI_sub, jI_mul, o_gI, o_gR, o_pI, o_pZ0, o_pZ1, o_pZb, o_pR, o_aI, o_qI, o_aN, tn, va_up_self, va_up_ne, upup, jI_shr1, jI_shr4, jI_shr0, jI_and1, jI_and15, jI_join, jI_240, jI_hi, jF_at, jF_up, jI_max, jI_min, b2_t, b2_f, Bool.not_true, Bool.not_false, eq_self, true_or, or_true]) <;> with_reducible rfl))) | (with_reducible apply q_nz; · (first | ((simp (disch := omega) only [jI_lit, jI_neg, jI_add, jI_sub, jI_mul, jI_lt, jI_le, jI_eq, va_up_self, va_up_ne, jI_shr1, jI_shr4, jI_shr0, jI_and1, jI_and15, jF_at, tn, b2_t, b2_f, cmp_ge, cmp_gt, cmp_le, cmp_lt, cmp_eq, jL_lit, jL_lt, jL_le, jL_eq]) <;> omega) | omega)) | (with_reducible apply q_rz; · (first | exact b2_01 _ | decide)))) <;> (first | with_reducible rfl | ((simp (disch := omega) only [jI_lit, jI_neg, jI_add, jI_sub, jI_mul, o_gI, o_gR, o_pI, o_pZ0, o_pZ1, o_pZb, o_pR, o_aI, o_qI, o_aN, tn, va_up_self, va_up_ne, upup, jI_shr1, jI_shr4, jI_shr0, jI_and1, jI_and15, jI_join, jI_240, jI_hi, jF_at, jF_up, jI_max, jI_min, b2_t, b2_f, Bool.not_true, Bool.not_false, eq_self, true_or, or_true]) <;> with_reducible rfl) | rfl))
  · intro s hs k'
    obtain ⟨I3, R3⟩ := s
    obtain ⟨ht, ⟨g3, hg3⟩, hz3, hfr3, hR3⟩ := hs
    have ht : Tl I3 t (cnt (sQ P many r base sound n pl 0) (16 * (2 * ln)) : Nat) (cnt (sQ P many r base sound n pl 1) (16 * (2 * ln)) : Nat) (cnt (sQ P many r base sound n pl 2) (16 * (2 * ln)) : Nat) (fstv pl (sQ P many r base sound n pl 2) (16 * (2 * ln))) := ht
    have hg3 : I3 (y + 1) = jF (cls base g3) := hg3
    have et := e_tell (L := L) (w := w) (z := what) (Fs_fr h hf0 hR3) ht w1 w2
    rw [show 16 * (2 * ln) = 32 * ln by omega] at et
    have eA : (if what = 0 then ((cnt (sQ P many r base sound n pl 0) (32 * ln) : Nat) : Int) else if what = 1 then ((cnt (sQ P many r base sound n pl 1) (32 * ln) : Nat) : Int) else if what = 2 then ((cnt (sQ P many r base sound n pl 2) (32 * ln) : Nat) : Int) else fstv pl (sQ P many r base sound n pl 2) (32 * ln)) = A := by
      rw [hA2]
      have : what = 0 ∨ what = 1 ∨ what = 2 ∨ what = 3 := by omega
      rcases this with q | q | q | q <;> subst q <;> rfl
    rw [eA] at et
    refine ⟨I3, R3, ?_, hfr3, hR3, hz3, Zr_of hg3⟩
    show fX4_spoil_37 k' f nw (jI (pl : Int)) (jI (ln : Int)) (jI (n : Int)) (jI what) (jI (b2 sound)) (jI ((2 * pl + 2 * ln : Nat) : Int)) (K, I3, R3, L, N, w) = _
    have et : fX4_told f (jI what) (K, I3, R3, L, N, w) = some (jI A) := et
    clear eA ht hg3 hz3 hfr3 hR3 ok hI hA hA2 h hf0 hw hzx hzy hT0 hI0 hI0n hI1 hI1n hg1 okB hbase hkd hgb hfr2 hR2 s0 hx1 hy1 pg
    unfold fX4_spoil_37
    ((repeat (first | (with_reducible apply q_gd; · (first | assumption | omega)) | (with_reducible apply q_ob; · (first | with_reducible rfl | ((simp (disch := omega) only [jI_lit, jI_neg, jI_add, jI_sub, jI_mul, o_gI, o_gR, o_pI, o_pZ0, o_pZ1, o_pZb, o_pR, o_aI, o_qI, o_aN, tn, va_up_self, va_up_ne, upup, jI_shr1, jI_shr4, jI_shr0, jI_and1, jI_and15, jI_join, jI_240, jI_hi, jF_at, jF_up, jI_max, jI_min, b2_t, b2_f, Bool.not_true, Bool.not_false, eq_self, true_or, or_true, et]) <;> with_reducible rfl))) | (with_reducible apply q_ob2; · (first | with_reducible rfl | ((simp (disch := omega) only [jI_lit, jI_neg, jI_add, jI_sub, jI_mul, o_gI, o_gR, o_pI, o_pZ0, o_pZ1, o_pZb, o_pR, o_aI, o_qI, o_aN, tn, va_up_self, va_up_ne, upup, jI_shr1, jI_shr4, jI_shr0, jI_and1, jI_and15, jI_join, jI_240, jI_hi, jF_at, jF_up, jI_max, jI_min, b2_t, b2_f, Bool.not_true, Bool.not_false, eq_self, true_or, or_true, et]) <;> with_reducible rfl))) | (with_reducible apply q_lt; · (first | with_reducible rfl | ((simp (disch := omega) only [jI_lit, jI_neg, jI_add, jI_sub, jI_mul, o_gI, o_gR, o_pI, o_pZ0, o_pZ1, o_pZb, o_pR, o_aI, o_qI, o_aN, tn, va_up_self, va_up_ne, upup, jI_shr1, jI_shr4, jI_shr0, jI_and1, jI_and15, jI_join, jI_240, jI_hi, jF_at, jF_up, jI_max, jI_min, b2_t, b2_f, Bool.not_true, Bool.not_false, eq_self, true_or, or_true, et]) <;> with_reducible rfl))) | (with_reducible apply q_ifp; · (first | ((simp (disch := omega) only [jI_lit, jI_neg, jI_add, jI_sub, jI_mul, jI_lt, jI_le, jI_eq, va_up_self, va_up_ne, jI_shr1, jI_shr4, jI_shr0, jI_and1, jI_and15, jF_at, tn, b2_t, b2_f, cmp_ge, cmp_gt, cmp_le, cmp_lt, cmp_eq, jL_lit, jL_lt, jL_le, jL_eq, et]) <;> omega) | omega)) | (with_reducible apply q_ifn; · (first | ((simp (disch := omega) only [jI_lit, jI_neg, jI_add, jI_sub, jI_mul, jI_lt, jI_le, jI_eq, va_up_self, va_up_ne, jI_shr1, jI_shr4, jI_shr0, jI_and1, jI_and15, jF_at, tn, b2_t, b2_f, cmp_ge, cmp_gt, cmp_le, cmp_lt, cmp_eq, jL_lit, jL_lt, jL_le, jL_eq, et]) <;> omega) | omega)) | (with_reducible apply q_obk; · (first | with_reducible rfl | ((simp (disch := omega) only [jI_lit, jI_neg, jI_add, jI_sub, jI_mul, o_gI, o_gR, o_pI, o_pZ0, o_pZ1, o_pZb, o_pR, o_aI, o_qI, o_aN, tn, va_up_self, va_up_ne, upup, jI_shr1, jI_shr4, jI_shr0, jI_and1, jI_and15, jI_join, jI_240, jI_hi, jF_at, jF_up, jI_max, jI_min, b2_t, b2_f, Bool.not_true, Bool.not_false, eq_self, true_or, or_true, et]) <;> with_reducible rfl))) | (with_reducible apply q_nz; · (first | ((simp (disch := omega) only [jI_lit, jI_neg, jI_add, jI_sub, jI_mul, jI_lt, jI_le, jI_eq, va_up_self, va_up_ne, jI_shr1, jI_shr4, jI_shr0, jI_and1, jI_and15, jF_at, tn, b2_t, b2_f, cmp_ge, cmp_gt, cmp_le, cmp_lt, cmp_eq, jL_lit, jL_lt, jL_le, jL_eq, et]) <;> omega) | omega)) | (with_reducible apply q_rz; · (first | exact b2_01 _ | decide)))) <;> (first | with_reducible rfl | ((simp (disch := omega) only [jI_lit, jI_neg, jI_add, jI_sub, jI_mul, o_gI, o_gR, o_pI, o_pZ0, o_pZ1, o_pZb, o_pR, o_aI, o_qI, o_aN, tn, va_up_self, va_up_ne, upup, jI_shr1, jI_shr4, jI_shr0, jI_and1, jI_and15, jI_join, jI_240, jI_hi, jF_at, jF_up, jI_max, jI_min, b2_t, b2_f, Bool.not_true, Bool.not_false, eq_self, true_or, or_true, et]) <;> with_reducible rfl) | rfl))
end FS
