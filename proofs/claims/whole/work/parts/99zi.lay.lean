section RUI
variable {tx Q : Nat → Int}
theorem hf_pth {F : Nat → Int} {h h' : Nat} {z : Int} (z1 : 0 ≤ z) (z2 : z < 16) : hf (pth F h z) h' = if h' = h then z else hf F h' := by
  unfold hf pth
  by_cases e : h' / 2 = h / 2
  · rw [e, va_up_self]
    have m1 : h % 2 = 0 ∨ h % 2 = 1 := by omega
    have m2 : h' % 2 = 0 ∨ h' % 2 = 1 := by omega
    rcases m1 with m1 | m1
    · rcases m2 with m2 | m2
      · rw [if_pos m2, if_pos m1, if_pos (by omega : h' = h)]; omega
      · rw [if_neg (by omega : ¬ h' % 2 = 0), if_pos m1, if_neg (by omega : ¬ h' = h), if_neg (by omega : ¬ h' % 2 = 0)]; omega
    · rcases m2 with m2 | m2
      · rw [if_pos m2, if_neg (by omega : ¬ h % 2 = 0), if_neg (by omega : ¬ h' = h), if_pos m2]; omega
      · rw [if_neg (by omega : ¬ h' % 2 = 0), if_neg (by omega : ¬ h % 2 = 0), if_pos (by omega : h' = h)]; omega
  · rw [va_up_ne _ _ e, if_neg (show ¬ h' = h from fun q => e (by rw [q]))]
theorem by_hf (F : Nat → Int) (j : Nat) : F j = 16 * hf F (2 * j) + hf F (2 * j + 1) := by
  rw [hf_even, hf_odd]; omega
theorem hxQ_hf {p a h : Nat} : ∀ i, (∀ j, j < i → 0 ≤ hxv (tx (a + 1 + j)) ∧ hxv (tx (a + 1 + j)) < 16) → hf (hxQ tx Q p a i) h = if 2 * p ≤ h ∧ h < 2 * p + i then hxv (tx (a + 1 + (h - 2 * p))) else hf Q h
  | 0, _ => by rw [if_neg (by omega)]; rfl
  | i + 1, hr => by
    have r := hr i (by omega)
    show hf (pth (hxQ tx Q p a i) (2 * p + i) (hxv (tx (a + 1 + i)))) h = _
    rw [hf_pth r.1 r.2, hxQ_hf i (fun j hj => hr j (by omega))]
    by_cases c : h = 2 * p + i
    · (rw [if_pos c, if_pos (by omega)]; (try rw [show h - 2 * p = i by omega]))
    · rw [if_neg c]
      by_cases d : 2 * p ≤ h ∧ h < 2 * p + i
      · rw [if_pos d, if_pos (by omega)]
      · rw [if_neg d, if_neg (by omega)]
theorem pkQ_hf {b fr to h : Nat} {sg : Int} (s1 : 0 ≤ sg) (s2 : sg < 16) (hd : ∀ j, fr ≤ j → j < to → isDg (tx j) = true) : ∀ i, i < 2 * b → hf (pkQ tx Q b fr to sg i) h = if h = 2 * b - 1 then sg else if 2 * b - 1 ≤ h + i ∧ h < 2 * b - 1 then dgk tx fr to (2 * b - 1 - h) else hf Q h
  | 0, _ => by
    show hf (pth Q (2 * b - 1) sg) h = _
    rw [hf_pth s1 s2, if_neg (show ¬ (2 * b - 1 ≤ h + 0 ∧ h < 2 * b - 1) by omega)]
  | i + 1, hi => by
    have r := dgk_r hd (show 1 ≤ i + 1 by omega)
    show hf (pth (pkQ tx Q b fr to sg i) (2 * b - 2 - i) (dgk tx fr to (i + 1))) h = _
    rw [hf_pth r.1 (by omega), pkQ_hf s1 s2 hd i (by omega)]
    by_cases c : h = 2 * b - 2 - i
    · (rw [if_pos c, if_neg (by omega), if_pos (by omega)]; (try rw [show 2 * b - 1 - h = i + 1 by omega]))
    · rw [if_neg c]
      by_cases d : h = 2 * b - 1
      · rw [if_pos d, if_pos d]
      · rw [if_neg d, if_neg d]
        by_cases g : 2 * b - 1 ≤ h + i ∧ h < 2 * b - 1
        · rw [if_pos g, if_pos (by omega)]
        · rw [if_neg g, if_neg (by omega)]
theorem znQ_hf {b fr to h : Nat} {sg : Int} (s1 : 0 ≤ sg) (s2 : sg < 16) (hd : ∀ j, fr ≤ j → j < to → isDg (tx j) = true) : ∀ i, i ≤ b → hf (znQ tx Q b fr to sg i) h = if 2 * (b - i) ≤ h ∧ h < 2 * b then (if h % 2 = 1 then dgk tx fr to (b - h / 2) else if h = 2 * (b - 1) then sg else 15) else hf Q h
  | 0, _ => by rw [if_neg (by omega)]; rfl
  | i + 1, hi => by
    have r := dgk_r hd (show 1 ≤ i + 1 by omega)
    obtain ⟨z, hz, z1, z2⟩ : ∃ z : Int, z = (if i = 0 then sg else 15) ∧ 0 ≤ z ∧ z < 16 := ⟨_, rfl, by split <;> omega, by split <;> omega⟩
    show hf (pth (pth (znQ tx Q b fr to sg i) (2 * (b - (i + 1))) (if i = 0 then sg else 15)) (2 * (b - (i + 1)) + 1) (dgk tx fr to (i + 1))) h = _
    ((try rw [← hz]); rw [hf_pth r.1 (by omega), hf_pth z1 z2, znQ_hf s1 s2 hd i (by omega)])
    by_cases c : h = 2 * (b - (i + 1)) + 1
    · (rw [if_pos c, if_pos (by omega), if_pos (by omega)]; (try rw [show b - h / 2 = i + 1 by omega]))
    · rw [if_neg c]
      by_cases d : h = 2 * (b - (i + 1))
      · rw [if_pos d, if_pos (by omega), if_neg (by omega), hz]
        by_cases e : i = 0
        · rw [if_pos e, if_pos (by omega)]
        · rw [if_neg e, if_neg (by omega)]
      · rw [if_neg d]
        by_cases g : 2 * (b - i) ≤ h ∧ h < 2 * b
        · rw [if_pos g, if_pos (show 2 * (b - (i + 1)) ≤ h ∧ h < 2 * b by omega)]
        · rw [if_neg g, if_neg (show ¬ (2 * (b - (i + 1)) ≤ h ∧ h < 2 * b) by omega)]
theorem hxQ_bz {p a : Nat} (hQ : Byz Q) : ∀ i, 2 * p + i ≤ 512 → (∀ j, j < i → 0 ≤ hxv (tx (a + 1 + j)) ∧ hxv (tx (a + 1 + j)) < 16) → Byz (hxQ tx Q p a i)
  | 0, _, _ => hQ
  | i + 1, h, hr => Byz_pth (hxQ_bz hQ i (by omega) (fun j hj => hr j (by omega))) (by omega) (hr i (by omega)).1 (hr i (by omega)).2
/-- bytes laid, as the reference lays them -/
def hxA (a : Nat → Int) (lo : Nat) (tx : Nat → Int) (b k : Nat) : Nat → Int := fun j => if lo ≤ j ∧ j < lo + k then 16 * hxv (tx (b + 1 + 2 * (j - lo))) + hxv (tx (b + 2 + 2 * (j - lo))) else a j
def flA (a : Nat → Int) (lo k : Nat) (z : Int) : Nat → Int := fun j => if lo ≤ j ∧ j < lo + k then z else a j
def dgA (tx : Nat → Int) (to k x : Nat) : Int := if x < k then tx (to - 1 - x) - 48 else 0
def pkA (a : Nat → Int) (hi v : Nat) (tx : Nat → Int) (to k : Nat) : Nat → Int := fun j => if hi - v ≤ j ∧ j < hi then 16 * dgA tx to k (2 * (hi - 1 - j)) + (if j = hi - 1 then 0 else dgA tx to k (2 * (hi - 1 - j) - 1)) else a j
def znA (a : Nat → Int) (hi v : Nat) (tx : Nat → Int) (to k : Nat) : Nat → Int := fun j => if hi - v ≤ j ∧ j < hi then 240 + dgA tx to k (hi - 1 - j) else a j
theorem hxA_0 (a : Nat → Int) (lo : Nat) (tx : Nat → Int) (b : Nat) : hxA a lo tx b 0 = a := by
  funext j
  unfold hxA
  rw [if_neg (by omega)]
theorem hxA_s {a : Nat → Int} {lo b k : Nat} : va_up (hxA a lo tx b k) (lo + k) (16 * hxv (tx (b + 1 + 2 * k)) + hxv (tx (b + 2 + 2 * k))) = hxA a lo tx b (k + 1) := by
  funext j
  by_cases c : j = lo + k
  · rw [c, va_up_self]
    unfold hxA
    rw [if_pos (by omega), show lo + k - lo = k by omega]
  · rw [va_up_ne _ _ c]
    unfold hxA
    by_cases d : lo ≤ j ∧ j < lo + k
    · rw [if_pos d, if_pos (by omega)]
    · rw [if_neg d, if_neg (by omega)]
theorem flA_0 (a : Nat → Int) (lo : Nat) (z : Int) : flA a lo 0 z = a := by
  funext j
  unfold flA
  rw [if_neg (by omega)]
theorem flA_s {a : Nat → Int} {lo k : Nat} {z : Int} : va_up (flA a lo k z) (lo + k) z = flA a lo (k + 1) z := by
  funext j
  by_cases c : j = lo + k
  · rw [c, va_up_self]
    unfold flA
    rw [if_pos (by omega)]
  · rw [va_up_ne _ _ c]
    unfold flA
    by_cases d : lo ≤ j ∧ j < lo + k
    · rw [if_pos d, if_pos (by omega)]
    · rw [if_neg d, if_neg (by omega)]
theorem dgA_0 (tx : Nat → Int) (to x : Nat) : dgA tx to 0 x = 0 := if_neg (by omega)
theorem dgA_n {to k x : Nat} (h : x ≠ k) : dgA tx to (k + 1) x = dgA tx to k x := by
  unfold dgA
  by_cases c : x < k
  · rw [if_pos c, if_pos (by omega)]
  · rw [if_neg c, if_neg (by omega)]
theorem dgA_k (tx : Nat → Int) (to k : Nat) : dgA tx to (k + 1) k = tx (to - 1 - k) - 48 ∧ dgA tx to k k = 0 := ⟨if_pos (by omega), if_neg (by omega)⟩
theorem pkA_0 {a : Nat → Int} {hi v to : Nat} (h : v ≤ hi) : flA a (hi - v) v 0 = pkA a hi v tx to 0 := by
  funext j
  unfold flA pkA
  rw [dgA_0, dgA_0]
  by_cases d : hi - v ≤ j ∧ j < hi
  · rw [if_pos d, if_pos (by omega)]
    split <;> rfl
  · rw [if_neg d, if_neg (by omega)]
theorem znA_0 {a : Nat → Int} {hi v to : Nat} (h : v ≤ hi) : flA a (hi - v) v 240 = znA a hi v tx to 0 := by
  funext j
  unfold flA znA
  rw [dgA_0]
  by_cases d : hi - v ≤ j ∧ j < hi
  · rw [if_pos d, if_pos (by omega)]
    rfl
  · rw [if_neg d, if_neg (by omega)]
theorem znA_s {a : Nat → Int} {hi v to k : Nat} (h : v ≤ hi) (hk : k < v) : va_up (znA a hi v tx to k) (hi - 1 - k) (znA a hi v tx to k (hi - 1 - k) + (tx (to - 1 - k) - 48)) = znA a hi v tx to (k + 1) := by
  obtain ⟨d1, d2⟩ := dgA_k tx to k
  funext j
  by_cases c : j = hi - 1 - k
  · rw [c, va_up_self]
    unfold znA
    (rw [if_pos (by omega), if_pos (by omega)]; (try rw [show hi - 1 - (hi - 1 - k) = k by omega]); (try rw [d1]); (try rw [d2]))
    omega
  · rw [va_up_ne _ _ c]
    unfold znA
    by_cases d : hi - v ≤ j ∧ j < hi
    · rw [if_pos d, if_pos d, dgA_n (by omega)]
    · rw [if_neg d, if_neg d]
theorem pkA_in {a : Nat → Int} {hi v to k x : Nat} (hx : hi - v ≤ x ∧ x < hi) : pkA a hi v tx to k x = 16 * dgA tx to k (2 * (hi - 1 - x)) + (if x = hi - 1 then 0 else dgA tx to k (2 * (hi - 1 - x) - 1)) := if_pos hx
theorem pkA_out {a : Nat → Int} {hi v to k x : Nat} (hx : ¬ (hi - v ≤ x ∧ x < hi)) : pkA a hi v tx to k x = a x := if_neg hx
theorem znA_in {a : Nat → Int} {hi v to k x : Nat} (hx : hi - v ≤ x ∧ x < hi) : znA a hi v tx to k x = 240 + dgA tx to k (hi - 1 - x) := if_pos hx
theorem znA_out {a : Nat → Int} {hi v to k x : Nat} (hx : ¬ (hi - v ≤ x ∧ x < hi)) : znA a hi v tx to k x = a x := if_neg hx
theorem pkA_s {a : Nat → Int} {hi v to k : Nat} (h : v ≤ hi) (hk : k < 2 * v - 1) : va_up (pkA a hi v tx to k) (hi - 1 - (k + 1) / 2) (pkA a hi v tx to k (hi - 1 - (k + 1) / 2) + (if k % 2 = 0 then 16 * (tx (to - 1 - k) - 48) else tx (to - 1 - k) - 48)) = pkA a hi v tx to (k + 1) := by
  obtain ⟨d1, d2⟩ := dgA_k tx to k
  funext j
  by_cases c : j = hi - 1 - (k + 1) / 2
  · have hj : hi - v ≤ j ∧ j < hi := by omega
    (rw [← c]; (try rw [va_up_self]); rw [pkA_in hj, pkA_in hj])
    by_cases e : k % 2 = 0
    · have e1 : 2 * (hi - 1 - j) = k := by omega
      (rw [if_pos e]; (try rw [e1]); (try rw [d1]); (try rw [d2]))
      by_cases g : j = hi - 1
      · rw [if_pos g, if_pos g]; omega
      · rw [if_neg g, if_neg g, dgA_n (show k - 1 ≠ k by omega)]; omega
    · have e1 : 2 * (hi - 1 - j) - 1 = k := by omega
      have g : ¬ j = hi - 1 := by omega
      (rw [if_neg e]; (try rw [e1]); (try rw [d1]); (try rw [d2]); rw [if_neg g, if_neg g, dgA_n (show 2 * (hi - 1 - j) ≠ k by omega)])
      omega
  · rw [va_up_ne _ _ c]
    by_cases d : hi - v ≤ j ∧ j < hi
    · rw [pkA_in d, pkA_in d, dgA_n (show 2 * (hi - 1 - j) ≠ k by omega)]
      by_cases g : j = hi - 1
      · rw [if_pos g, if_pos g]
      · rw [if_neg g, if_neg g, dgA_n (show 2 * (hi - 1 - j) - 1 ≠ k by omega)]
    · rw [pkA_out d, pkA_out d]
/-- at the end it is what the specification lays -/
theorem hxA_e {a : Nat → Int} {p b q : Nat} (hL : ∀ j, j < 256 → a (256 + j) = Q j) (hr : ∀ j, j < 2 * q → 0 ≤ hxv (tx (b + 1 + j)) ∧ hxv (tx (b + 1 + j)) < 16) : ∀ j, j < 256 → hxA a (256 + p) tx b q (256 + j) = hxQ tx Q p b (2 * q) j := by
  intro j hj
  rw [by_hf (hxQ tx Q p b (2 * q)) j, hxQ_hf _ hr, hxQ_hf _ hr]
  unfold hxA
  by_cases c : p ≤ j ∧ j < p + q
  · (rw [if_pos (by omega), if_pos (by omega), if_pos (by omega)]; (try rw [show b + 1 + 2 * (256 + j - (256 + p)) = b + 1 + (2 * j - 2 * p) by omega]); (try rw [show b + 2 + 2 * (256 + j - (256 + p)) = b + 1 + (2 * j + 1 - 2 * p) by omega]))
  · rw [if_neg (by omega), if_neg (by omega), if_neg (by omega), hL j hj]
    exact by_hf Q j
theorem dgA_dgk {fr to x : Nat} (h : fr ≤ to) : dgA tx to (to - fr) x = dgk tx fr to (x + 1) := by
  unfold dgA dgk
  by_cases c : x < to - fr
  · (rw [if_pos c, if_neg (by omega)]; (try rw [show to - 1 - x = to - (x + 1) by omega]))
  · rw [if_neg c, if_pos (by omega)]
theorem pkA_e {a : Nat → Int} {b v fr to : Nat} {sg : Int} (hL : ∀ j, j < 256 → a (256 + j) = Q j) (s1 : 0 ≤ sg) (s2 : sg < 16) (hd : ∀ j, fr ≤ j → j < to → isDg (tx j) = true) (hft : fr ≤ to) (hv : 1 ≤ v) (hvb : v ≤ b) : ∀ j, j < 256 → (va_up (pkA a (256 + b) v tx to (to - fr)) (256 + b - 1) (pkA a (256 + b) v tx to (to - fr) (256 + b - 1) + sg)) (256 + j) = pkQ tx Q b fr to sg (2 * v - 1) j := by
  intro j hj
  have p0 := pkQ_hf (tx := tx) (Q := Q) (b := b) (fr := fr) (to := to) (h := 2 * j) s1 s2 hd (2 * v - 1) (by omega)
  have p1 := pkQ_hf (tx := tx) (Q := Q) (b := b) (fr := fr) (to := to) (h := 2 * j + 1) s1 s2 hd (2 * v - 1) (by omega)
  (rw [by_hf (pkQ tx Q b fr to sg (2 * v - 1)) j]; (try rw [p0]); (try rw [p1]))
  by_cases c : j = b - 1
  · have hx : 256 + b - v ≤ 256 + b - 1 ∧ 256 + b - 1 < 256 + b := by omega
    ((try rw [show 256 + j = 256 + b - 1 by omega]); (try rw [va_up_self]); rw [if_neg (show ¬ 2 * j = 2 * b - 1 by omega), if_pos (show 2 * b - 1 ≤ 2 * j + (2 * v - 1) ∧ 2 * j < 2 * b - 1 by omega), if_pos (show 2 * j + 1 = 2 * b - 1 by omega), pkA_in hx, if_pos rfl, dgA_dgk hft]; (try rw [show 2 * (256 + b - 1 - (256 + b - 1)) + 1 = 2 * b - 1 - 2 * j by omega]))
    omega
  · ((try rw [va_up_ne _ _ (show 256 + j ≠ 256 + b - 1 by omega)]); rw [if_neg (show ¬ 2 * j = 2 * b - 1 by omega), if_neg (show ¬ 2 * j + 1 = 2 * b - 1 by omega)])
    by_cases d : b - v ≤ j ∧ j < b
    · have hx : 256 + b - v ≤ 256 + j ∧ 256 + j < 256 + b := by omega
      (rw [if_pos (show 2 * b - 1 ≤ 2 * j + (2 * v - 1) ∧ 2 * j < 2 * b - 1 by omega), if_pos (show 2 * b - 1 ≤ 2 * j + 1 + (2 * v - 1) ∧ 2 * j + 1 < 2 * b - 1 by omega), pkA_in hx, if_neg (show ¬ 256 + j = 256 + b - 1 by omega), dgA_dgk hft, dgA_dgk hft]; (try rw [show 2 * (256 + b - 1 - (256 + j)) + 1 = 2 * b - 1 - 2 * j by omega]); (try rw [show 2 * (256 + b - 1 - (256 + j)) - 1 + 1 = 2 * b - 1 - (2 * j + 1) by omega]))
    · have hx : ¬ (256 + b - v ≤ 256 + j ∧ 256 + j < 256 + b) := by omega
      rw [if_neg (show ¬ (2 * b - 1 ≤ 2 * j + (2 * v - 1) ∧ 2 * j < 2 * b - 1) by omega), if_neg (show ¬ (2 * b - 1 ≤ 2 * j + 1 + (2 * v - 1) ∧ 2 * j + 1 < 2 * b - 1) by omega), pkA_out hx, hL j hj]
      exact by_hf Q j
theorem znA_e {a : Nat → Int} {b v fr to : Nat} {sg : Int} (hL : ∀ j, j < 256 → a (256 + j) = Q j) (s1 : 0 ≤ sg) (s2 : sg < 16) (hd : ∀ j, fr ≤ j → j < to → isDg (tx j) = true) (hft : fr ≤ to) (hv : 1 ≤ v) (hvb : v ≤ b) : ∀ j, j < 256 → (va_up (znA a (256 + b) v tx to (to - fr)) (256 + b - 1) (16 * sg + znA a (256 + b) v tx to (to - fr) (256 + b - 1) % 16)) (256 + j) = znQ tx Q b fr to sg v j := by
  intro j hj
  have p0 := znQ_hf (tx := tx) (Q := Q) (b := b) (fr := fr) (to := to) (h := 2 * j) s1 s2 hd v hvb
  have p1 := znQ_hf (tx := tx) (Q := Q) (b := b) (fr := fr) (to := to) (h := 2 * j + 1) s1 s2 hd v hvb
  (rw [by_hf (znQ tx Q b fr to sg v) j]; (try rw [p0]); (try rw [p1]))
  by_cases d : b - v ≤ j ∧ j < b
  · (rw [if_pos (show 2 * (b - v) ≤ 2 * j ∧ 2 * j < 2 * b by omega), if_pos (show 2 * (b - v) ≤ 2 * j + 1 ∧ 2 * j + 1 < 2 * b by omega), if_neg (show ¬ 2 * j % 2 = 1 by omega), if_pos (show (2 * j + 1) % 2 = 1 by omega)]; (try rw [show b - (2 * j + 1) / 2 = b - j by omega]))
    have r := dgk_r hd (show 1 ≤ b - j by omega)
    by_cases c : j = b - 1
    · have hx : 256 + b - v ≤ 256 + b - 1 ∧ 256 + b - 1 < 256 + b := by omega
      ((try rw [show 256 + j = 256 + b - 1 by omega]); (try rw [va_up_self]); rw [if_pos (show 2 * j = 2 * (b - 1) by omega), znA_in hx, dgA_dgk hft]; (try rw [show 256 + b - 1 - (256 + b - 1) + 1 = b - j by omega]))
      omega
    · have hx : 256 + b - v ≤ 256 + j ∧ 256 + j < 256 + b := by omega
      ((try rw [va_up_ne _ _ (show 256 + j ≠ 256 + b - 1 by omega)]); rw [if_neg (show ¬ 2 * j = 2 * (b - 1) by omega), znA_in hx, dgA_dgk hft]; (try rw [show 256 + b - 1 - (256 + j) + 1 = b - j by omega]))
      omega
  · have hx : ¬ (256 + b - v ≤ 256 + j ∧ 256 + j < 256 + b) := by omega
    (rw [if_neg (show ¬ (2 * (b - v) ≤ 2 * j ∧ 2 * j < 2 * b) by omega), if_neg (show ¬ (2 * (b - v) ≤ 2 * j + 1 ∧ 2 * j + 1 < 2 * b) by omega)]; (try rw [va_up_ne _ _ (show 256 + j ≠ 256 + b - 1 by omega)]); rw [znA_out hx, hL j hj])
    exact by_hf Q j
end RUI
