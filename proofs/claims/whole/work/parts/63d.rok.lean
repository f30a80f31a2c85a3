section ROK
/-- an outcome as it may be -/
def PK (many : Nat) (r : Nat → Int) (o24 : Prop) (o : (Nat → Int) × Option FT6 × Int) : Prop :=
  RQ many r o.1 ∧ (∀ f, o.2.1 = some f → FOK f ∧ ¬ o24 ∧ (f.1 = 6 → o.1 273 ≠ -1)) ∧ (o.2.1 = none → 0 ≤ o.2.2 ∧ o.2.2 ≤ many)
theorem PK_no {many : Nat} {r u : Nat → Int} {q : Prop} {nx : Int} (h : RQ many r u) (h1 : 0 ≤ nx) (h2 : nx ≤ many) : PK many r q (u, none, nx) := ⟨h, (fun _ x => nomatch x), fun _ => ⟨h1, h2⟩⟩
theorem PK_nx {many k : Nat} {r u : Nat → Int} {q : Prop} (h : RQ many r u) (hk : k < many) : PK many r q (u, none, (k : Int) + 1) := PK_no h (by omega) (by omega)
theorem PK_ft {many : Nat} {r u : Nat → Int} {q : Prop} {nx : Int} {f : FT6} (h : RQ many r u) (hf : FOK f) (hq : ¬ q) (h6 : f.1 = 6 → u 273 ≠ -1) : PK many r q (u, some f, nx) :=
  ⟨h, fun f' e => by cases e; exact ⟨hf, hq, h6⟩, (fun x => nomatch x)⟩
theorem FOK_mk {c w a n h v : Int} (c1 : 1 ≤ c) (c2 : c ≤ 8) (w1 : w = 0 ∨ w = 1) (a1 : -2147483648 ≤ a) (a2 : a < 2147483648) (n1 : 0 ≤ n) (n2 : n ≤ 64) (e : (c = 4 ∨ c = 5) ↔ h ≠ -1) (e2 : h ≠ -1 → 0 ≤ h ∧ h < 512 ∧ 0 ≤ v ∧ v < 16) : FOK (c, w, a, n, h, v) := ⟨⟨c1, c2⟩, w1, ⟨a1, a2⟩, ⟨n1, n2⟩, e, e2⟩
theorem ccK_r (v : Nat) (s : Bool) : 0 ≤ ccK v s ∧ ccK v s ≤ 3 := by
  unfold ccK; (repeat' split) <;> omega
theorem PK_fin {many k A n v : Nat} {s : Bool} {r : Nat → Int} {q : Prop} (rq : RQ many r r) (hk : k < many) (hA : A + n ≤ 256) (hn : 1 ≤ n) (hn2 : n ≤ 64) (hq : ¬ q) : PK many r q ((fin6 r A n v s).1, (fin6 r A n v s).2, (k : Int) + 1) := by
  have hb := rq.1
  have cr := ccK_r v s
  have h1 : RQ many r (fin6 r A n v s).1 := by
    unfold fin6
    refine RQ_st (RQ_cc rq (z := if 2 * n - 1 < nd v then 3 else ccK v s) ?_ ?_) (fun j hj => sto_hi (by omega)) (sto_byt (Byt_hi hb (by omega) _) (by split <;> omega) (by split <;> omega))
    · split <;> omega
    · split <;> omega
  have h2 : (fin6 r A n v s).2 = if 2 * n - 1 < nd v ∧ r 273 ≠ -1 then some ((6, 0, (A : Int), (n : Int), -1, 0) : FT6) else none := rfl
  by_cases c : 2 * n - 1 < nd v ∧ r 273 ≠ -1
  · rw [h2, if_pos c]
    refine PK_ft h1 (FOK_mk (by omega) (by omega) (Or.inl rfl) (by omega) (by omega) (by omega) (by omega) (by omega) (fun x => absurd rfl x)) hq (fun _ => ?_)
    show (fin6 r A n v s).1 273 ≠ -1
    unfold fin6
    show sto (va_up r 264 _) _ _ _ _ 273 ≠ -1
    rw [sto_hi (by omega), va_up_ne _ _ (by omega)]
    exact c.2
  · rw [h2, if_neg c]
    exact PK_nx h1 hk
theorem PK_pk {many k A n B m j : Nat} {r : Nat → Int} {q : Prop} (rq : RQ many r r) (hk : k < many) (hA : A + n ≤ 256) (hn : 1 ≤ n) (hB : B + m ≤ 256) (hm : 1 ≤ m) : PK many r q (pkS r A n B m j, none, (k : Int) + 1) :=
  PK_nx (RQ_st rq (fun i hi => pkS_hi hA hn hi _) (pkS_byt rq.1 hB hm _)) hk
theorem PK_up {many k A n B m j : Nat} {r : Nat → Int} {q : Prop} (rq : RQ many r r) (hk : k < many) (hA : A + n ≤ 256) (hn : 1 ≤ n) (hB : B + m ≤ 256) (hm : 1 ≤ m) : PK many r q ((upS r A n B m j).1, none, (k : Int) + 1) :=
  PK_nx (RQ_st rq (fun i hi => upS_hi hA hn hi _) (upS_byt rq.1 hB hm _).1) hk
theorem PK_of {many k A n B m j : Nat} {r : Nat → Int} {q : Prop} (rq : RQ many r r) (hk : k < many) (hA : A + n ≤ 256) (hn : 1 ≤ n) (hB : B + m ≤ 256) (hm : 1 ≤ m) : PK many r q ((ofS r A n B m j).1, none, (k : Int) + 1) :=
  PK_nx (RQ_st rq (fun i hi => ofS_hi hA hn hi _) (ofS_byt rq.1 hA hn hB hm _).1) hk
theorem PK_mul {many k A n B m v : Nat} {z : Int} {r : Nat → Int} {q : Prop} (rq : RQ many r r) (hk : k < many) (hA : A + n ≤ 256) (hn : 1 ≤ n) (hn2 : n ≤ 64) (hm : m < n) (hz1 : 0 ≤ z) (hz2 : z < 16) (hq : ¬ q) :
    PK many r q (if fnd (fun h => hf r h != 0) (2 * A) (2 * m) ≠ -1 then (r, some (5, 0, (A : Int), (n : Int), fnd (fun h => hf r h != 0) (2 * A) (2 * m), hf r (fnd (fun h => hf r h != 0) (2 * A) (2 * m)).toNat), (k : Int) + 1) else (sto r A n v z, none, (k : Int) + 1)) := by
  by_cases c : fnd (fun h => hf r h != 0) (2 * A) (2 * m) ≠ -1
  · rw [if_pos c]
    obtain ⟨j, m1, m2, m3, -⟩ := fnd_some c
    rw [m3]
    have := hf_lt rq.1 (h := j) (by omega)
    refine PK_ft rq (FOK_mk (by omega) (by omega) (Or.inl rfl) (by omega) (by omega) (by omega) (by omega) (by omega) (fun _ => ?_)) hq (fun x => by have : (5 : Int) = 6 := x; omega)
    rw [show ((j : Int)).toNat = j by omega]; omega
  · rw [if_neg c]
    exact PK_nx (RQ_st rq (fun i hi => sto_hi (by omega)) (sto_byt rq.1 hz1 hz2)) hk
theorem PK_div {many k A n m v v' : Nat} {z z' : Int} {r : Nat → Int} {q c : Prop} [Decidable c] (rq : RQ many r r) (hk : k < many) (hA : A + n ≤ 256) (hn : 1 ≤ n) (hn2 : n ≤ 64) (hm : m < n) (hz1 : 0 ≤ z) (hz2 : z < 16) (hz3 : 0 ≤ z') (hz4 : z' < 16) (hq : ¬ q) :
    PK many r q (if c then (r, some (7, 0, (A : Int), (n : Int), -1, 0), (k : Int) + 1) else (sto (sto r A (n - m) v z) (A + n - m) m v' z', none, (k : Int) + 1)) := by
  by_cases h : c
  · rw [if_pos h]
    exact PK_ft rq (FOK_mk (by omega) (by omega) (Or.inl rfl) (by omega) (by omega) (by omega) (by omega) (by omega) (fun x => absurd rfl x)) hq (fun x => by have : (7 : Int) = 6 := x; omega)
  · rw [if_neg h]
    exact PK_nx (RQ_st rq (fun i hi => by rw [sto_hi (by omega), sto_hi (by omega)]) (sto_byt (sto_byt rq.1 hz1 hz2) hz3 hz4)) hk
theorem PK_cp {many k o A n B : Nat} {r : Nat → Int} {q : Prop} (rq : RQ many r r) (hk : k < many) (hA : A + n ≤ 256) (hB : B + n ≤ 256) : PK many r q (cpS o r A B n, none, (k : Int) + 1) :=
  PK_nx (RQ_st rq (fun i hi => cpS_hi o hA hi _ (Nat.le_refl _)) (cpS_byt o rq.1 hA hB _ (Nat.le_refl _))) hk
theorem PK_ed {many k A n : Nat} {src : Int} {r : Nat → Int} {q c13 : Prop} [Decidable c13] (rq : RQ many r r) (hk : k < many) (hA : A + n ≤ 256) (hn : 1 ≤ n) (s1 : -2147483648 ≤ src) (s2 : src < 2147483648) (hq : ¬ q) :
    PK many r q (match edS r A src n with
    | .inl (c, x, u) => (r, some (c, 1, x, 1, (if c = 4 then 2 * x else -1), if c = 4 then u x.toNat / 16 else 0), (k : Int) + 1)
    | .inr (u, _, _, seen, any, mark) =>
      ((if c13 ∧ mark ≠ -1 then va_up (va_up u 264 (if any then (if seen then 1 else 2) else 0)) 257 mark else va_up u 264 (if any then (if seen then 1 else 2) else 0)), none, (k : Int) + 1)) := by
  have hb := rq.1
  cases hS : edS r A src n with
  | inl b =>
    obtain ⟨c, sx, u⟩ := b
    have hu := edS_inl hb (by omega) _ hS
    have hcc := edS_kind s1 s2 hS
    show PK many r q (r, some (c, 1, sx, 1, (if c = 4 then 2 * sx else -1), if c = 4 then u sx.toNat / 16 else 0), (k : Int) + 1)
    by_cases c4 : c = 4
    · have h1 := hu.2 c4
      have h2 := hu.1 sx.toNat (by omega)
      rw [if_pos c4, if_pos c4]
      exact PK_ft rq (FOK_mk (by omega) (by omega) (Or.inr rfl) (by omega) (by omega) (by omega) (by omega) (by omega) (fun _ => by omega)) hq (fun x => by have : c = 6 := x; omega)
    · rw [if_neg c4, if_neg c4]
      exact PK_ft rq (FOK_mk (by omega) (by omega) (Or.inr rfl) (by omega) (by omega) (by omega) (by omega) (by omega) (fun x => absurd rfl x)) hq (fun x => by have : c = 6 := x; omega)
  | inr t =>
    obtain ⟨u, src', waits, seen, any, mark⟩ := t
    obtain ⟨e1, -, e3⟩ := edS_ok hb hA hn _ (Nat.le_refl _) _ hS
    have hm := edS_mark hA hS
    have r1 : RQ many r (va_up u 264 (if any then (if seen then 1 else 2) else 0)) := RQ_cc (RQ_st rq e3 e1) (by split <;> (try split) <;> omega) (by split <;> (try split) <;> omega)
    show PK many r q ((if c13 ∧ mark ≠ -1 then va_up (va_up u 264 (if any then (if seen then 1 else 2) else 0)) 257 mark else va_up u 264 (if any then (if seen then 1 else 2) else 0)), none, (k : Int) + 1)
    by_cases c : c13 ∧ mark ≠ -1
    · rw [if_pos c]
      exact PK_nx (RQ_reg (q := 1) r1 (by omega) (by omega) (by omega)) hk
    · rw [if_neg c]
      exact PK_nx r1 hk
theorem PK_cc {many k : Nat} {z : Int} {r : Nat → Int} {q : Prop} (rq : RQ many r r) (hk : k < many) (h1 : 0 ≤ z) (h2 : z ≤ 3) : PK many r q (va_up r 264 z, none, (k : Int) + 1) := PK_nx (RQ_cc rq h1 h2) hk
theorem PK_bi {many k A n t : Nat} {z : Int} {r : Nat → Int} {q : Prop} (rq : RQ many r r) (hk : k < many) (hA : A ≤ 256) (hn2 : n ≤ 64) (ht : t < 8) (hq : ¬ q) :
    PK many r q (if z < -2147483648 ∨ 2147483647 < z then (r, some (8, 0, (A : Int), (n : Int), -1, 0), (k : Int) + 1) else (va_up r (256 + t) z, none, (k : Int) + 1)) := by
  by_cases c : z < -2147483648 ∨ 2147483647 < z
  · rw [if_pos c]
    exact PK_ft rq (FOK_mk (by omega) (by omega) (Or.inl rfl) (by omega) (by omega) (by omega) (by omega) (by omega) (fun x => absurd rfl x)) hq (fun x => by have : (8 : Int) = 6 := x; omega)
  · rw [if_neg c]
    exact PK_nx (RQ_reg rq ht (by omega) (by omega)) hk
theorem PK_st {many k A n v : Nat} {z : Int} {r : Nat → Int} {q : Prop} (rq : RQ many r r) (hk : k < many) (hA : A + n ≤ 256) (hz1 : 0 ≤ z) (hz2 : z < 16) : PK many r q (sto r A n v z, none, (k : Int) + 1) :=
  PK_nx (RQ_st rq (fun i hi => sto_hi (by omega)) (sto_byt rq.1 hz1 hz2)) hk
theorem PK_rg {many k t : Nat} {z : Int} {r : Nat → Int} {q : Prop} (rq : RQ many r r) (hk : k < many) (ht : t < 8) (h1 : -2147483648 ≤ z) (h2 : z < 2147483648) : PK many r q (va_up r (256 + t) z, none, (k : Int) + 1) := PK_nx (RQ_reg rq ht h1 h2) hk
theorem PK_ct {many k t : Nat} {z tg : Int} {r : Nat → Int} {q : Prop} (rq : RQ many r r) (hk : k < many) (ht : t < 8) (h1 : -2147483648 ≤ z) (h2 : z < 2147483648) (g1 : 0 ≤ tg) (g2 : tg < many) : PK many r q (va_up r (256 + t) z, none, if z = 0 then (k : Int) + 1 else tg) := by
  refine PK_no (RQ_reg rq ht h1 h2) ?_ ?_
  · split <;> omega
  · split <;> omega
theorem PK_on {many k : Nat} {tg : Int} {c : Prop} [Decidable c] {r : Nat → Int} {q : Prop} (rq : RQ many r r) (hk : k < many) (g1 : 0 ≤ tg) (g2 : tg < many) : PK many r q (r, none, if c then tg else (k : Int) + 1) := by
  refine PK_no rq ?_ ?_
  · split <;> omega
  · split <;> omega
theorem PK_bk {many k : Nat} {r : Nat → Int} {q : Prop} (rq : RQ many r r) (hk : k < many) (g1 : -1 ≤ r 266) (g2 : r 266 < many) : PK many r q (r, none, if r 266 = -1 then (k : Int) + 1 else r 266 + 1) := by
  refine PK_no rq ?_ ?_
  · split <;> omega
  · split <;> omega
theorem sgn_r {c : Prop} [Decidable c] : 0 ≤ (if c then (13 : Int) else 12) ∧ (if c then (13 : Int) else 12) < 16 := by split <;> omega
theorem tst_r {c d : Prop} [Decidable c] [Decidable d] : 0 ≤ ((if c then (0 : Int) else 2) + (if d then 0 else 1)) ∧ ((if c then (0 : Int) else 2) + (if d then 0 else 1)) ≤ 3 := by split <;> split <;> omega
end ROK
