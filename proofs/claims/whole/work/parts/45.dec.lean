section DC
/-! THE CLASS'S DECIMALS -/
def Dc (K : Nat → Nat) (R : Nat → Nat → Nat) (N : Nat → Nat) (a : Nat) : Prop := K a = 1 ∧ R a 0 = a + 1 ∧ K (a + 1) = 101 ∧ N (a + 1) = 64
def b2 (s : Bool) : Int := if s then 1 else 0
theorem b2_r (s : Bool) : 0 ≤ b2 s ∧ b2 s ≤ 1 := by cases s <;> simp [b2]
theorem b2_01 (s : Bool) : jI (b2 s) = 0 ∨ jI (b2 s) = 1 := by cases s <;> decide
/-- a Decimal holds a number and a sign -/
def DV (I : Nat → Nat → Int32) (a v : Nat) (s : Bool) : Prop := (∀ k, k < 64 → I (a + 1) k = jI (dg v k : Int)) ∧ I a 1 = jI (nd v : Int) ∧ I a 2 = jI (b2 s)
/-- nothing but these cells has changed -/
def Fr2 (I I' : Nat → Nat → Int32) (a b : Nat) : Prop := ∀ x, x ≠ a → x ≠ b → I' x = I x
theorem lp_g {τ σ β : Type} {z : τ} {S : τ → τ} (ev : τ → σ → β) (G : σ → β) (Inv : σ → Prop) (M : σ → Nat)
    (step : ∀ s, Inv s → (∀ k, ev (S k) s = G s) ∨ ∃ s', Inv s' ∧ M s' < M s ∧ G s' = G s ∧ ∀ k, ev (S k) s = ev k s') :
    ∀ n s, Inv s → M s < n → ev (lp z S n) s = G s := by
  intro n
  induction n with
  | zero => intro s h1 h2; omega
  | succ n ih =>
    intro s h1 h2
    rcases step s h1 with e | ⟨s', i', m', g', e⟩
    · exact e _
    · exact (e _).trans ((ih s' i' (by omega)).trans g')
variable {K : Nat → Nat} {I : Nat → Nat → Int32} {R : Nat → Nat → Nat} {L : Nat → Nat → Int64} {N : Nat → Nat} {w : Nat × Nat × Nat × Nat}
theorem e_below {s : Int} (h1 : -2147483648 ≤ s) (h2 : s < 2147483648) : fX1_isBelow (jI s) = some (jI (b2 (bel s))) := by
  unfold fX1_isBelow
  simp (disch := omega) only [jI_lit, jI_eq]
  unfold bel b2
  by_cases q : s = 11
  · simp [q]
  · by_cases q2 : s = 13
    · simp [q2]
    · simp [q, q2]
theorem va2 (I : Nat → Nat → Int32) (a k : Nat) (v : Int32) : va_up I a (va_up (I a) k v) a k = v := by rw [va_up_self, va_up_self]
theorem e_measure {a v : Nat} (hd : Dc K R N a) (hv : ∀ k, k < 64 → I (a + 1) k = jI (dg v k : Int)) :
    fX1_measure a (K, I, R, L, N, w) = some (K, va_up I a (va_up (I a) 1 (jI (nd v : Int))), R, L, N, w) := by
  obtain ⟨k1, r0, k2, n2⟩ := hd
  unfold fX1_measure
  simp (disch := omega) only [jI_lit, o_gd, o_pI, o_ob]
  have key := lp_g (z := fun _ _ => none) (S := fX1_measure_6) (β := Option Hp) (ev := fun k (s : Nat) => k a (K, va_up I a (va_up (I a) 1 (jI (s : Int))), R, L, N, w))
    (G := fun s => some (K, va_up I a (va_up (I a) 1 (jI (ndk v s : Int))), R, L, N, w)) (Inv := fun s => s ≤ 64) (M := fun s => s) ?_ FU 64 (by omega) (FU_lt (by omega))
  · exact key
  · intro s hs
    unfold fX1_measure_6
    cases s with
    | zero =>
      left; intro k
      simp (disch := omega) only [jI_lit, o_gI, o_ob, va_up_self, jI_le]
      rfl
    | succ s =>
      have e1 : ((((s + 1 : Nat) : Int)) - 1).toNat = s := by omega
      have e2 : ((s + 1 : Nat) : Int) - 1 = (s : Int) := by omega
      have e3 := dg_lt v s
      by_cases q : dg v s = 0
      · right
        refine ⟨s, by omega, by omega, ?_, fun k => ?_⟩
        · show some _ = some _
          rw [show ndk v (s + 1) = ndk v s by unfold ndk; rw [if_pos q]; cases s <;> rfl]
        · simp (disch := omega) only [jI_lit, jI_sub, o_gI, o_gR, o_ob, o_pI, o_aI, va_up_self, va_up_ne, jI_le, r0, e1, hv, jI_eq, upup]
          rw [if_neg (by omega), if_pos (by omega), e2]
      · left; intro k
        simp (disch := omega) only [jI_lit, jI_sub, o_gI, o_gR, o_ob, o_aI, va_up_self, va_up_ne, jI_le, r0, e1, hv, jI_eq]
        rw [if_neg (by omega), if_neg (by omega)]
        rw [show ndk v (s + 1) = s + 1 by unfold ndk; rw [if_neg q]]

/-- digits that are laid up to a place -/
def Dl (I : Nat → Nat → Int32) (a v i : Nat) : Nat → Nat → Int32 := va_up I (a + 1) (fun k => if k < i then jI (dg v k : Int) else I (a + 1) k)
/-- a Decimal is set -/
def dset (I : Nat → Nat → Int32) (a v : Nat) (s : Bool) : Nat → Nat → Int32 :=
  va_up (Dl I a v 64) a (va_up (va_up (I a) 2 (jI (b2 s))) 1 (jI (nd v : Int)))
theorem Dl_0 (I : Nat → Nat → Int32) (a v : Nat) : Dl I a v 0 = I := by
  unfold Dl
  rw [up_0 (fun k => jI (dg v k : Int)) (I (a + 1)), up_id]
theorem Dl_s (I : Nat → Nat → Int32) (a v i : Nat) : va_up (Dl I a v i) (a + 1) (va_up (Dl I a v i (a + 1)) i (jI (dg v i : Int))) = Dl I a v (i + 1) := by
  unfold Dl
  rw [va_up_self, upup, up_lt (fun k => jI (dg v k : Int)) (I (a + 1)) i]
theorem Dl_ne (I : Nat → Nat → Int32) (a v i : Nat) {x : Nat} (h : x ≠ a + 1) : Dl I a v i x = I x := va_up_ne _ _ h
theorem Dl_at (I : Nat → Nat → Int32) (a v i k : Nat) (h : k < i) : Dl I a v i (a + 1) k = jI (dg v k : Int) := by
  unfold Dl
  rw [va_up_self, if_pos h]
theorem dset_ne (I : Nat → Nat → Int32) (a v : Nat) (s : Bool) {x : Nat} (h1 : x ≠ a) (h2 : x ≠ a + 1) : dset I a v s x = I x := by
  unfold dset
  rw [va_up_ne _ _ h1, Dl_ne _ _ _ _ h2]
theorem DV_dset (I : Nat → Nat → Int32) (a v : Nat) (s : Bool) : DV (dset I a v s) a v s := by
  refine ⟨fun k hk => ?_, ?_, ?_⟩
  · unfold dset
    rw [va_up_ne _ _ (by omega), Dl_at _ _ _ _ _ hk]
  · unfold dset
    rw [va_up_self, va_up_self]
  · unfold dset
    rw [va_up_self, va_up_ne _ _ (by omega), va_up_self]
theorem DV_ne {I : Nat → Nat → Int32} {a v b u : Nat} {s t : Bool} (h : DV I b u t) (h1 : b ≠ a) (h2 : b ≠ a + 1) (h3 : b + 1 ≠ a) : DV (dset I a v s) b u t := by
  unfold DV
  rw [dset_ne _ _ _ _ h1 h2, dset_ne _ _ _ _ h3 (by omega)]
  exact h
theorem e_end {a v : Nat} {s : Bool} (hd : Dc K R N a) : (ob (pZ 1 a 2 (jI (b2 s)) (K, Dl I a v 64, R, L, N, w)) fun h => ob (fX1_measure a h) fun h => some h) = some (K, dset I a v s, R, L, N, w) := by
  have k1 := hd.1
  have e1 : (va_up (Dl I a v 64) a (va_up (Dl I a v 64 a) 2 (jI (b2 s)))) (a + 1) = Dl I a v 64 (a + 1) := va_up_ne _ _ (by omega)
  rw [o_pZ k1 (b2_01 s), o_ob, e_measure (v := v) hd (fun k hk => by rw [e1, Dl_at _ _ _ _ _ hk]), o_ob, va_up_self, upup, Dl_ne _ _ _ _ (by omega)]
  rfl
theorem e_endm {a v : Nat} {s : Bool} (hd : Dc K R N a) (hs : I a 2 = jI (b2 s)) : fX1_measure a (K, Dl I a v 64, R, L, N, w) = some (K, dset I a v s, R, L, N, w) := by
  rw [e_measure (v := v) hd (fun k hk => Dl_at _ _ _ _ _ hk)]
  unfold dset
  rw [Dl_ne _ _ _ _ (show a ≠ a + 1 by omega), ← hs, up_id]
/-- a field is packed: digits, and a sign at the end -/
def Snd (c : Nat → Int) (p n : Nat) : Prop := ∀ h, 2 * p ≤ h → h < 2 * (p + n) - 1 → hf c h < 10
theorem pkv_dg {c : Nat → Int} (hb : Byt c) {p n : Nat} (hp : p + n ≤ 256) (hs : Snd c p n) (k : Nat) : (dg (pkv c p n) k : Int) = if k < 2 * n - 1 then hf c (2 * (p + n) - 2 - k) else 0 := by
  have h0 : ∀ i, i < 2 * n - 1 → (hf c (2 * (p + n) - 2 - i)).toNat < 10 := by
    intro i hi
    have := hs (2 * (p + n) - 2 - i) (by omega) (by omega)
    omega
  unfold pkv
  rw [dg_vl10 h0]
  by_cases q : k < 2 * n - 1
  · rw [if_pos q, if_pos q]
    have := hf_lt hb (h := 2 * (p + n) - 2 - k) (by omega)
    omega
  · rw [if_neg q, if_neg q]; rfl
theorem pkv_lt {c : Nat → Int} (hb : Byt c) {p n : Nat} (hp : p + n ≤ 256) (hs : Snd c p n) : pkv c p n < 10 ^ (2 * n - 1) :=
  vl10_lt (fun i hi => by have := hs (2 * (p + n) - 2 - i) (by omega) (by omega); have := hf_lt hb (h := 2 * (p + n) - 2 - i) (by omega); omega)

theorem e_takePacked {a x : Nat} {c : Nat → Int} {p n : Nat} (hd : Dc K R N a) (hr : Rw K R N x) (hI : I (x + 1) = jF c) (hb : Byt c) (hp : p + n ≤ 256) (hn : 1 ≤ n) (hs : Snd c p n) (hx : x ≠ a) :
    fX1_takePacked a x (jI (p : Int)) (jI (n : Int)) (K, I, R, L, N, w) = some (K, dset I a (pkv c p n) (pks c p n), R, L, N, w) := by
  have hd' := hd
  obtain ⟨k1, r0, k2, n2⟩ := hd
  have hJ : ∀ i, Dl I a (pkv c p n) i (x + 1) = jF c := fun i => (Dl_ne _ _ _ _ (by omega)).trans hI
  unfold fX1_takePacked
  simp (disch := omega) only [jI_lit, jI_add, jI_sub, jI_mul, o_gd, o_lt]
  have key := lp_g (z := fun _ _ _ _ _ _ => none) (S := fX1_takePacked_12) (β := Option Hp) (ev := fun k (i : Nat) => k a x (jI (n : Int)) (jI (2 * ((p : Int) + n) - 1)) (jI (i : Int)) (K, Dl I a (pkv c p n) i, R, L, N, w))
    (G := fun _ => some (K, dset I a (pkv c p n) (pks c p n), R, L, N, w)) (Inv := fun i => i ≤ 64) (M := fun i => 64 - i) ?_ FU 0 (by omega) (FU_lt (by omega))
  · rw [Dl_0] at key
    exact key
  · intro i hi
    unfold fX1_takePacked_12 fX1_takePacked_50
    by_cases h64 : i = 64
    · left; intro k
      subst h64
      have eh := e_half (L := L) (w := w) hr (hJ 64) hb (z := 2 * ((p : Int) + n) - 1) (by omega) (by omega)
      have hl := hf_lt hb (h := (2 * ((p : Int) + n) - 1).toNat) (by omega)
      have et : (2 * ((p : Int) + n) - 1).toNat = 2 * (p + n) - 1 := by omega
      simp (disch := omega) only [jI_lit, jI_le, eh, o_ob, e_below]
      rw [if_pos (by omega)]
      have ee := e_end (I := I) (L := L) (w := w) (v := pkv c p n) (s := pks c p n) hd'
      unfold pks at ee ⊢
      rw [et]
      exact ee
    · right
      refine ⟨i + 1, by omega, by omega, rfl, fun k => ?_⟩
      have e1 : ((i : Int)).toNat = i := by omega
      have e2 : (i : Int) + 1 = ((i + 1 : Nat) : Int) := by omega
      have ed := pkv_dg hb hp hs i
      by_cases q : i < 2 * n - 1
      · have eh := e_half (L := L) (w := w) hr (hJ i) hb (z := 2 * ((p : Int) + n) - 1 - 1 - i) (by omega) (by omega)
        have et : (2 * ((p : Int) + n) - 1 - 1 - i).toNat = 2 * (p + n) - 2 - i := by omega
        rw [if_pos q] at ed
        simp (disch := omega) only [jI_lit, jI_add, jI_sub, jI_mul, jI_le, o_gR, o_ob, r0, eh, o_qI, o_lt, et, e1, e2, ← ed, Dl_s]
        rw [if_neg (by omega), if_neg (by omega)]
      · rw [if_neg q] at ed
        simp (disch := omega) only [jI_lit, jI_add, jI_sub, jI_mul, jI_le, o_gR, o_ob, r0, o_qI, o_lt, e1, e2]
        rw [if_neg (by omega), if_pos (by omega)]
        rw [show jI 0 = jI (dg (pkv c p n) i : Int) by rw [ed], Dl_s]
end DC
