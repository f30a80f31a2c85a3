section CLS
/-! A row of the class out of a row of the reference (g: what the halves' cells hold where there is none) -/
def cls (r g : Nat → Int) : Nat → Int := fun k => if k = 267 then r 276 else if k < 276 then r k else if k < 278 then r (k + 1) else if k < 284 then r (k + 2) else if k < 287 then (if r 289 = 0 then g (k - 284) else r (k + 2)) else if k < 411 then r (k + 3) else 0
variable {r g : Nat → Int}
theorem cls_lo {k : Nat} (h : k < 276) (h2 : k ≠ 267) : cls r g k = r k := by unfold cls; rw [if_neg h2, if_pos h]
theorem cls_st : cls r g 267 = r 276 := by unfold cls; rw [if_pos rfl]
theorem cls_tm {k : Nat} (h : 276 ≤ k) (h2 : k < 278) : cls r g k = r (k + 1) := by unfold cls; rw [if_neg (by omega), if_neg (by omega), if_pos h2]
theorem cls_wy {k : Nat} (h : 278 ≤ k) (h2 : k < 284) : cls r g k = r (k + 2) := by unfold cls; rw [if_neg (by omega), if_neg (by omega), if_neg (by omega), if_pos h2]
theorem cls_hf {k : Nat} (h : 284 ≤ k) (h2 : k < 287) : cls r g k = if r 289 = 0 then g (k - 284) else r (k + 2) := by unfold cls; rw [if_neg (by omega), if_neg (by omega), if_neg (by omega), if_neg (by omega), if_pos h2]
theorem cls_hi {k : Nat} (h : 287 ≤ k) (h2 : k < 411) : cls r g k = r (k + 3) := by unfold cls; rw [if_neg (by omega), if_neg (by omega), if_neg (by omega), if_neg (by omega), if_neg (by omega), if_pos h2]
theorem cls_up_lo {k : Nat} {v : Int} (h : k < 276) (h2 : k ≠ 267) : va_up (cls r g) k v = cls (va_up r k v) g := by
  funext j
  simp only [cls, va_up]
  repeat' split
  all_goals first | rfl | omega
theorem cls_up_st {v : Int} : va_up (cls r g) 267 v = cls (va_up r 276 v) g := by
  funext j
  by_cases hj : j = 267
  · subst hj; rw [va_up_self, cls_st, va_up_self]
  · rw [va_up_ne _ _ hj]
    unfold cls
    rw [if_neg hj, if_neg hj]
    by_cases h1 : j < 276
    · rw [if_pos h1, if_pos h1, va_up_ne _ _ (by omega)]
    · rw [if_neg h1, if_neg h1, va_up_ne r v (show j + 1 ≠ 276 by omega), va_up_ne r v (show j + 2 ≠ 276 by omega), va_up_ne r v (show j + 3 ≠ 276 by omega), va_up_ne r v (show 289 ≠ 276 by omega)]
theorem cls_up_tm {k : Nat} {v : Int} (h : 276 ≤ k) (h2 : k < 278) : va_up (cls r g) k v = cls (va_up r (k + 1) v) g := by
  funext j
  simp only [cls, va_up]
  repeat' split
  all_goals first | rfl | omega
theorem cls_up_wy {k : Nat} {v : Int} (h : 278 ≤ k) (h2 : k < 284) : va_up (cls r g) k v = cls (va_up r (k + 2) v) g := by
  funext j
  simp only [cls, va_up]
  repeat' split
  all_goals first | rfl | omega
theorem cls_up_hi {k : Nat} {v : Int} (h : 287 ≤ k) (h2 : k < 411) : va_up (cls r g) k v = cls (va_up r (k + 3) v) g := by
  funext j
  simp only [cls, va_up]
  repeat' split
  all_goals first | rfl | omega
theorem cls_un {v : Int} : cls (va_up r 279 v) g = cls r g := by
  funext j
  simp only [cls, va_up]
  repeat' split
  all_goals first | rfl | omega
theorem cls_byt (h : Byt r) : Byt (cls r g) := fun k hk => by rw [cls_lo (by omega) (by omega)]; exact h k hk
theorem hf_cls {h : Nat} (hh : h < 512) : hf (cls r g) h = hf r h := by
  unfold hf
  rw [cls_lo (by omega) (by omega)]
theorem fnd_eq {q q' : Nat → Bool} : ∀ {n lo : Nat}, (∀ j, lo ≤ j → j < lo + n → q j = q' j) → fnd q lo n = fnd q' lo n
  | 0, _, _ => rfl
  | n + 1, lo, h => by
    unfold fnd
    rw [h lo (by omega) (by omega), fnd_eq (fun j h1 h2 => h j (by omega) (by omega))]
theorem vl10_eq {f f' : Nat → Nat} : ∀ {m : Nat}, (∀ i, i < m → f i = f' i) → vl10 f m = vl10 f' m
  | 0, _ => rfl
  | m + 1, h => by
    unfold vl10
    rw [vl10_eq (fun i hi => h i (by omega)), h m (by omega)]
theorem flp_cls {p n : Nat} (h : p + n ≤ 256) : flp (cls r g) p n = flp r p n := fnd_eq (fun j h1 h2 => by rw [hf_cls (by omega)])
theorem pkv_cls {p n : Nat} (h : p + n ≤ 256) : pkv (cls r g) p n = pkv r p n := vl10_eq (fun i hi => by rw [hf_cls (by omega)])
theorem pks_cls {p n : Nat} (h : p + n ≤ 256) (hn : 1 ≤ n) : pks (cls r g) p n = pks r p n := by unfold pks; rw [hf_cls (by omega)]
theorem sto_cls {p n v : Nat} {s : Int} (h : p + n ≤ 256) : sto (cls r g) p n v s = cls (sto r p n v s) g := by
  have e : ∀ n, p + n ≤ 256 → stoi (cls r g) p n v s n = cls (stoi r p n v s n) g := by
    intro n hn
    have : ∀ i, i ≤ n → stoi (cls r g) p n v s i = cls (stoi r p n v s i) g := by
      intro i
      induction i with
      | zero => intro _; rw [stoi_0, stoi_0]
      | succ i ih =>
        intro hi
        rw [← stoi_s _ _ _ (show i < n by omega), ih (by omega), cls_up_lo (by omega) (by omega), stoi_s _ _ _ (show i < n by omega)]
    exact this n (Nat.le_refl _)
  rw [← stoi_n, e n h, stoi_n]
theorem pk0_cls {p n q m : Nat} (hp : p + n ≤ 256) (hn : 1 ≤ n) (hq : q + m ≤ 256) (hm : 1 ≤ m) : pk0 (cls r g) p n q m = cls (pk0 r p n q m) g := by
  unfold pk0
  rw [cls_lo (k := q + m - 1) (by omega) (by omega), cls_up_lo (by omega) (by omega)]
theorem pkS_cls {p n q m : Nat} (hp : p + n ≤ 256) (hn : 1 ≤ n) (hq : q + m ≤ 256) (hm : 1 ≤ m) : ∀ j, pkS (cls r g) p n q m j = cls (pkS r p n q m j) g
  | 0 => pk0_cls hp hn hq hm
  | j + 1 => by
    rw [pkS_s, pkS_s, pkS_cls hp hn hq hm j, cls_lo (k := q + m - 3 - 2 * j) (by omega) (by omega), cls_lo (k := q + m - 2 - 2 * j) (by omega) (by omega), cls_up_lo (by omega) (by omega)]
theorem upS_cls {p n q m : Nat} (hp : p + n ≤ 256) (hn : 1 ≤ n) (hq : q + m ≤ 256) (hm : 1 ≤ m) : ∀ j, (upS (cls r g) p n q m j).1 = cls (upS r p n q m j).1 g ∧ (upS (cls r g) p n q m j).2 = (upS r p n q m j).2
  | 0 => ⟨pk0_cls hp hn hq hm, rfl⟩
  | j + 1 => by
    obtain ⟨h1, h2⟩ := upS_cls hp hn hq hm j
    have e2 : (upS (cls r g) p n q m (j + 1)).2 = (upS r p n q m (j + 1)).2 := by
      rw [upS_s2, upS_s2, h1, h2, cls_lo (k := q + m - 2 - j / 2) (by omega) (by omega)]
    refine ⟨?_, e2⟩
    rw [upS_s1, upS_s1, e2, h1, cls_up_lo (by omega) (by omega)]
theorem ofS_cls {p n q m : Nat} (hp : p + n ≤ 256) (hn : 1 ≤ n) (hq : q + m ≤ 256) (hm : 1 ≤ m) : ∀ j, (ofS (cls r g) p n q m j).1 = cls (ofS r p n q m j).1 g ∧ (ofS (cls r g) p n q m j).2 = (ofS r p n q m j).2
  | 0 => ⟨rfl, by show cls r g (p + n - 1) % 16 = r (p + n - 1) % 16; rw [cls_lo (by omega) (by omega)]⟩
  | j + 1 => by
    obtain ⟨h1, h2⟩ := ofS_cls hp hn hq hm j
    refine ⟨?_, ?_⟩
    · rw [ofS_s1, ofS_s1, h1, h2, cls_lo (k := q + m - 1 - j) (by omega) (by omega), cls_up_lo (by omega) (by omega)]
    · rw [ofS_s2, ofS_s2, h1, cls_lo (k := q + m - 1 - j) (by omega) (by omega)]
theorem cpS_s (o : Nat) (r : Nat → Int) (p q j : Nat) : cpS o r p q (j + 1) = va_up (cpS o r p q j) (p + j) (cpB o (cpS o r p q j (p + j)) (cpS o r p q j (q + j))) := rfl
theorem cpS_cls (o : Nat) {p n q : Nat} (hp : p + n ≤ 256) (hq : q + n ≤ 256) : ∀ j, j ≤ n → cpS o (cls r g) p q j = cls (cpS o r p q j) g
  | 0, _ => rfl
  | j + 1, hj => by
    rw [cpS_s, cpS_s, cpS_cls o hp hq j (by omega), cls_lo (k := p + j) (by omega) (by omega), cls_lo (k := q + j) (by omega) (by omega), cls_up_lo (by omega) (by omega)]
theorem edD_cls {src waits : Int} : edD (cls r g) src waits = edD r src waits := by
  unfold edD
  by_cases a : waits ≠ -1
  · rw [if_pos a, if_pos a]
  · rw [if_neg a, if_neg a]
    by_cases b : src < 0 ∨ 255 < src
    · rw [if_pos b, if_pos b]
    · rw [if_neg b, if_neg b, cls_lo (k := src.toNat) (by omega) (by omega)]
def ecl (g : Nat → Int) (x : (Int × Int × (Nat → Int)) ⊕ ES) : (Int × Int × (Nat → Int)) ⊕ ES := match x with
  | .inl (c, sx, u) => .inl (c, sx, cls u g)
  | .inr (u, t) => .inr (cls u g, t)
theorem edB_cls {fill : Int} {k : Nat} {src waits mark : Int} {seen any : Bool} (hk : k < 256) : edB fill k (cls r g, src, waits, seen, any, mark) = ecl g (edB fill k (r, src, waits, seen, any, mark)) := by
  have ek : cls r g k = r k := cls_lo (by omega) (by omega)
  by_cases c1 : r k = 32 ∨ r k = 33
  · have e : ∀ u : Nat → Int, (u k = 32 ∨ u k = 33) → edB fill k (u, src, waits, seen, any, mark) = match edD u src waits with
      | .inl (c, x) => .inl (c, x, u)
      | .inr (d, above, src', waits') =>
        .inr (va_up u k (if d = 0 ∧ seen = false then fill else 240 + d), src', waits', !above && (seen || d != 0 || u k == 33), any || d != 0, if d ≠ 0 ∧ seen = false then (k : Int) else mark) := by
      intro u hu
      unfold edB
      exact if_pos hu
    rw [e _ c1, e _ (by rw [ek]; exact c1), edD_cls]
    cases edD r src waits with
    | inl a => rfl
    | inr a => show Sum.inr _ = Sum.inr _; rw [cls_up_lo (by omega) (by omega), ek]
  · by_cases c2 : r k = 34
    · have e : ∀ u : Nat → Int, ¬ (u k = 32 ∨ u k = 33) → u k = 34 → edB fill k (u, src, waits, seen, any, mark) = .inr (va_up u k fill, src, waits, false, false, mark) := by
        intro u h1 h2
        unfold edB
        exact (if_neg h1).trans (if_pos h2)
      rw [e _ c1 c2, e _ (by rw [ek]; exact c1) (by rw [ek]; exact c2), cls_up_lo (by omega) (by omega)]
      rfl
    · have e : ∀ u : Nat → Int, ¬ (u k = 32 ∨ u k = 33) → ¬ u k = 34 → edB fill k (u, src, waits, seen, any, mark) = .inr ((if seen then u else va_up u k fill), src, waits, seen, any, mark) := by
        intro u h1 h2
        unfold edB
        exact (if_neg h1).trans (if_neg h2)
      rw [e _ c1 c2, e _ (by rw [ek]; exact c1) (by rw [ek]; exact c2)]
      cases seen
      · rw [if_neg (by simp), if_neg (by simp), cls_up_lo (by omega) (by omega)]; rfl
      · rfl
theorem edS_cls {p n : Nat} {src : Int} (hp : p + n ≤ 256) (hn : 1 ≤ n) : ∀ j, j ≤ n → edS (cls r g) p src j = ecl g (edS r p src j)
  | 0, _ => rfl
  | j + 1, hj => by
    rw [edS_s, edS_s, edS_cls hp hn j (by omega)]
    cases edS r p src j with
    | inl a => rfl
    | inr s =>
      obtain ⟨u, src', waits, seen, any, mark⟩ := s
      show edB (cls r g p) (p + j) (cls u g, src', waits, seen, any, mark) = ecl g (edB (r p) (p + j) (u, src', waits, seen, any, mark))
      rw [cls_lo (k := p) (by omega) (by omega), edB_cls (by omega)]
end CLS
