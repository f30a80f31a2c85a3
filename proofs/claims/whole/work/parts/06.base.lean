/-! MY OWN MEMORY: a heap of maps (kind, ints, refs, longs, lengths; next address, slots in use, their limits), and rows of the machine over it -/
abbrev Hp : Type := (Nat → Nat) × (Nat → Nat → Int32) × (Nat → Nat → Nat) × (Nat → Nat → Int64) × (Nat → Nat) × Nat × Nat × Nat × Nat
def hK (h : Hp) : Nat → Nat := h.1
def hI (h : Hp) : Nat → Nat → Int32 := h.2.1
def hR (h : Hp) : Nat → Nat → Nat := h.2.2.1
def hL (h : Hp) : Nat → Nat → Int64 := h.2.2.2.1
def hN (h : Hp) : Nat → Nat := h.2.2.2.2.1
def hX (h : Hp) : Nat := h.2.2.2.2.2.1
def hU (h : Hp) : Nat := h.2.2.2.2.2.2.1
def hC (h : Hp) : Nat := h.2.2.2.2.2.2.2.1
def hZ (h : Hp) : Nat := h.2.2.2.2.2.2.2.2
def sI (h : Hp) (a k : Nat) (v : Int32) : Hp := (h.1, va_up h.2.1 a (va_up (h.2.1 a) k v), h.2.2)
def sR (h : Hp) (a k : Nat) (v : Nat) : Hp := (h.1, h.2.1, va_up h.2.2.1 a (va_up (h.2.2.1 a) k v), h.2.2.2)
def sL (h : Hp) (a k : Nat) (v : Int64) : Hp := (h.1, h.2.1, h.2.2.1, va_up h.2.2.2.1 a (va_up (h.2.2.2.1 a) k v), h.2.2.2.2)
def sA (h : Hp) (a : Nat) (f : Nat → Int32) : Hp := (h.1, va_up h.2.1 a f, h.2.2)
/-- a new cell of a kind, of a length, of so many slots -/
def nw (h : Hp) (k len n : Nat) : Hp := (va_up h.1 (hX h) k, va_up h.2.1 (hX h) (fun _ => 0), va_up h.2.2.1 (hX h) (fun _ => 0), va_up h.2.2.2.1 (hX h) (fun _ => 0), va_up h.2.2.2.2.1 (hX h) len, hX h + 1, hU h + n, hC h, hZ h)
-- what a program of the class does there
def ob {α β : Type} (x : Option α) (f : α → Option β) : Option β := match x with | some a => f a | none => none
def ob2 {α γ β : Type} (x : Option (α × γ)) (f : α → γ → Option β) : Option β := match x with | some a => f a.1 a.2 | none => none
theorem ob_some {α β : Type} {x : Option α} {f : α → Option β} {r : β} (h : ob x f = some r) : ∃ a, x = some a ∧ f a = some r := by
  cases x with
  | none => cases h
  | some a => exact ⟨a, rfl, h⟩
theorem ob2_some {α γ β : Type} {x : Option (α × γ)} {f : α → γ → Option β} {r : β} (h : ob2 x f = some r) : ∃ a b, x = some (a, b) ∧ f a b = some r := by
  cases x with
  | none => cases h
  | some a => exact ⟨a.1, a.2, rfl, h⟩
/-- the kind of 'this' -/
def gd {β : Type} (c a : Nat) (h : Hp) (x : Option β) : Option β := if hK h a = c then x else none
theorem gd_some {β : Type} {c a : Nat} {h : Hp} {x : Option β} {r : β} (e : gd c a h x = some r) : hK h a = c ∧ x = some r := by
  unfold gd at e
  split at e
  · exact ⟨by assumption, e⟩
  · cases e
def gI (c a k : Nat) (h : Hp) : Option Int32 := if hK h a = c then some (hI h a k) else none
def gR (c a k : Nat) (h : Hp) : Option Nat := if hK h a = c then some (hR h a k) else none
def pI (c a k : Nat) (v : Int32) (h : Hp) : Option Hp := if hK h a = c then some (sI h a k v) else none
def pZ (c a k : Nat) (v : Int32) (h : Hp) : Option Hp := if hK h a = c ∧ (v = 0 ∨ v = 1) then some (sI h a k v) else none
def pR (c a k : Nat) (v : Nat) (h : Hp) : Option Hp := if hK h a = c then some (sR h a k v) else none
def okx (i : Int32) (n : Nat) : Prop := ¬ (i < 0 ∨ n ≤ i.toNatClampNeg)
def aI (a : Nat) (i : Int32) (h : Hp) : Option Int32 := if hK h a = 101 ∧ ¬ (i < 0 ∨ hN h a ≤ i.toNatClampNeg) then some (hI h a i.toNatClampNeg) else none
def aL (a : Nat) (i : Int32) (h : Hp) : Option Int64 := if hK h a = 102 ∧ ¬ (i < 0 ∨ hN h a ≤ i.toNatClampNeg) then some (hL h a i.toNatClampNeg) else none
def aR (c a : Nat) (i : Int32) (h : Hp) : Option Nat := if hK h a = c ∧ ¬ (i < 0 ∨ hN h a ≤ i.toNatClampNeg) then some (hR h a i.toNatClampNeg) else none
def qI (a : Nat) (i v : Int32) (h : Hp) : Option Hp := if hK h a = 101 ∧ ¬ (i < 0 ∨ hN h a ≤ i.toNatClampNeg) then some (sI h a i.toNatClampNeg v) else none
def qL (a : Nat) (i : Int32) (v : Int64) (h : Hp) : Option Hp := if hK h a = 102 ∧ ¬ (i < 0 ∨ hN h a ≤ i.toNatClampNeg) then some (sL h a i.toNatClampNeg v) else none
/-- an object into an array of its class -/
def qR (c d a : Nat) (i : Int32) (v : Nat) (h : Hp) : Option Hp := if hK h a = c ∧ hK h v = d ∧ ¬ (i < 0 ∨ hN h a ≤ i.toNatClampNeg) then some (sR h a i.toNatClampNeg v) else none
/-- a String constant into an array of Strings -/
def qS (a : Nat) (i : Int32) (v : Nat) (h : Hp) : Option Hp := if hK h a = 105 ∧ v ≠ 0 ∧ v ≤ 69 ∧ ¬ (i < 0 ∨ hN h a ≤ i.toNatClampNeg) then some (sR h a i.toNatClampNeg v) else none
def aN (c a : Nat) (h : Hp) : Option Int32 := if hK h a = c then some (Int32.ofNat (hN h a)) else none
def newO (c n : Nat) (h : Hp) : Option (Nat × Hp) := if 0 < hX h ∧ hX h + 1 ≤ hC h ∧ hU h + n ≤ hZ h then some (hX h, nw h c 0 n) else none
def newA (c z : Nat) (n : Int32) (h : Hp) : Option (Nat × Hp) := if 0 < hX h ∧ ¬ n < 0 ∧ n.toNatClampNeg * z ≤ 536870912 ∧ hX h + 1 ≤ hC h ∧ hU h + n.toNatClampNeg ≤ hZ h then some (hX h, nw h c n.toNatClampNeg n.toNatClampNeg) else none
def cpA (a : Nat) (i : Int32) (b : Nat) (j n : Int32) (h : Hp) : Option Hp := if hK h a = 101 ∧ hK h b = 101 ∧ ¬ i < 0 ∧ ¬ j < 0 ∧ ¬ n < 0 ∧ i.toNatClampNeg + n.toNatClampNeg ≤ hN h a ∧ j.toNatClampNeg + n.toNatClampNeg ≤ hN h b then some (sA h b (va_cpy (hI h a) (hI h b) i.toNatClampNeg j.toNatClampNeg n.toNatClampNeg)) else none
def lt {α β : Type} (x : α) (f : α → Option β) : Option β := f x
theorem lt_some {α β : Type} {x : α} {f : α → Option β} {r : β} (h : lt x f = some r) : ∃ y, x = y ∧ f y = some r := ⟨x, rfl, h⟩
def nz {β : Type} (P : Prop) [Decidable P] (x : Option β) : Option β := if P then none else x
theorem nz_some {β : Type} {P : Prop} [Decidable P] {x : Option β} {r : β} (h : nz P x = some r) : ¬ P ∧ x = some r := by
  unfold nz at h
  split at h
  · cases h
  · exact ⟨by assumption, h⟩
/-- a boolean that is answered -/
def rz {β : Type} (v : Int32) (x : Option β) : Option β := if v = 0 ∨ v = 1 then x else none
theorem rz_some {β : Type} {v : Int32} {x : Option β} {r : β} (h : rz v x = some r) : (v = 0 ∨ v = 1) ∧ x = some r := by
  unfold rz at h
  split at h
  · exact ⟨by assumption, h⟩
  · cases h
/-- two words -/
def wk {β : Type} (a b : Nat) (x : Option β) : Option β := if a ≤ 29 ∧ b ≤ 29 then x else none
theorem wk_some {β : Type} {a b : Nat} {x : Option β} {r : β} (h : wk a b x = some r) : a ≤ 29 ∧ b ≤ 29 ∧ x = some r := by
  unfold wk at h
  split at h
  · rename_i q; exact ⟨q.1, q.2, h⟩
  · cases h
def irm (x y : Int32) : Int32 := x - x / y * y
def lrm (x y : Int64) : Int64 := x - x / y * y
def ius (x y : Int32) : Int32 := (x.toUInt32 >>> (y.toUInt32 &&& Int32.toUInt32 31)).toInt32
def imax (x y : Int32) : Int32 := if x < y then y else x
def imin (x y : Int32) : Int32 := if y < x then y else x
def labs (x : Int64) : Int64 := if 0 < x then x else -x
/-- a loop: so many turns at most -/
def lp {τ : Type} (z : τ) (S : τ → τ) : Nat → τ
  | 0 => z
  | n + 1 => S (lp z S n)
/-- a call that makes no cell, out of one that may -/
def okc (h h' : Hp) : Prop := hX h' = hX h ∧ hU h' = hU h ∧ hC h' = hC h ∧ hZ h' = hZ h ∧ hK h' (hX h - 1) = hK h (hX h - 1)
def obk {β : Type} (h : Hp) (x : Option Hp) (f : Hp → Option β) : Option β := ob x fun h' => if hX h' = hX h ∧ hU h' = hU h ∧ hC h' = hC h ∧ hZ h' = hZ h ∧ hK h' (hX h - 1) = hK h (hX h - 1) then f h' else none
def obk2 {α β : Type} (h : Hp) (x : Option (α × Hp)) (f : α → Hp → Option β) : Option β := ob2 x fun v h' => if hX h' = hX h ∧ hU h' = hU h ∧ hC h' = hC h ∧ hZ h' = hZ h ∧ hK h' (hX h - 1) = hK h (hX h - 1) then f v h' else none
def okA (h h' : Hp) : Prop := hX h ≤ hX h' ∧ hU h ≤ hU h' ∧ hX h' ≤ hC h ∧ hU h' ≤ hZ h ∧ hC h' = hC h ∧ hZ h' = hZ h ∧ ((hX h' = hX h ∧ hK h' (hX h - 1) = hK h (hX h - 1)) ∨ (0 < hX h' ∧ hK h' (hX h' - 1) ≠ 0))
def oba {β : Type} (h : Hp) (x : Option Hp) (f : Hp → Option β) : Option β := ob x fun h' => if hX h ≤ hX h' ∧ hU h ≤ hU h' ∧ hX h' ≤ hC h ∧ hU h' ≤ hZ h ∧ hC h' = hC h ∧ hZ h' = hZ h ∧ ((hX h' = hX h ∧ hK h' (hX h - 1) = hK h (hX h - 1)) ∨ (0 < hX h' ∧ hK h' (hX h' - 1) ≠ 0)) then f h' else none
def oba2 {α β : Type} (h : Hp) (x : Option (α × Hp)) (f : α → Hp → Option β) : Option β := ob2 x fun v h' => if hX h ≤ hX h' ∧ hU h ≤ hU h' ∧ hX h' ≤ hC h ∧ hU h' ≤ hZ h ∧ hC h' = hC h ∧ hZ h' = hZ h ∧ ((hX h' = hX h ∧ hK h' (hX h - 1) = hK h (hX h - 1)) ∨ (0 < hX h' ∧ hK h' (hX h' - 1) ≠ 0)) then f v h' else none
theorem ite_some {β : Type} {P : Prop} [Decidable P] {x : Option β} {r : β} (e : (if P then x else none) = some r) : P ∧ x = some r := by
  split at e
  · exact ⟨by assumption, e⟩
  · cases e
theorem obk_some {β : Type} {h : Hp} {x : Option Hp} {f : Hp → Option β} {r : β} (e : obk h x f = some r) : ∃ h', x = some h' ∧ okc h h' ∧ f h' = some r := by
  obtain ⟨h', e1, e2⟩ := ob_some e
  obtain ⟨e3, e4⟩ := ite_some e2
  exact ⟨h', e1, e3, e4⟩
theorem obk2_some {α β : Type} {h : Hp} {x : Option (α × Hp)} {f : α → Hp → Option β} {r : β} (e : obk2 h x f = some r) : ∃ v h', x = some (v, h') ∧ okc h h' ∧ f v h' = some r := by
  obtain ⟨v, h', e1, e2⟩ := ob2_some e
  obtain ⟨e3, e4⟩ := ite_some e2
  exact ⟨v, h', e1, e3, e4⟩
theorem oba_some {β : Type} {h : Hp} {x : Option Hp} {f : Hp → Option β} {r : β} (e : oba h x f = some r) : ∃ h', x = some h' ∧ okA h h' ∧ f h' = some r := by
  obtain ⟨h', e1, e2⟩ := ob_some e
  obtain ⟨e3, e4⟩ := ite_some e2
  exact ⟨h', e1, e3, e4⟩
theorem oba2_some {α β : Type} {h : Hp} {x : Option (α × Hp)} {f : α → Hp → Option β} {r : β} (e : oba2 h x f = some r) : ∃ v h', x = some (v, h') ∧ okA h h' ∧ f v h' = some r := by
  obtain ⟨v, h', e1, e2⟩ := ob2_some e
  obtain ⟨e3, e4⟩ := ite_some e2
  exact ⟨v, h', e1, e3, e4⟩
/-- a callee that may throw (the kind of what is thrown on the left) -/
def oe {α β : Type} (x : Option (Nat ⊕ α)) (g : Nat → Option β) (f : α → Option β) : Option β := match x with | some (.inl k) => g k | some (.inr v) => f v | none => none
/-- a loop's fuel: more than any run can need -/
def FU : Nat := 1099511627776
theorem gI_some {c a k : Nat} {h : Hp} {v : Int32} (e : gI c a k h = some v) : hK h a = c ∧ hI h a k = v := by
  unfold gI at e
  split at e
  · exact ⟨by assumption, Option.some.inj e⟩
  · cases e
theorem gR_some {c a k : Nat} {h : Hp} {v : Nat} (e : gR c a k h = some v) : hK h a = c ∧ hR h a k = v := by
  unfold gR at e
  split at e
  · exact ⟨by assumption, Option.some.inj e⟩
  · cases e
theorem if_some {β : Type} {P : Prop} [Decidable P] {x r : β} (e : (if P then some x else none) = some r) : P ∧ x = r := by
  split at e
  · exact ⟨by assumption, Option.some.inj e⟩
  · cases e
/-- addresses: classes, field places, array classes, the words' and the Strings' cells -/
abbrev EE : Type := (Nat → ClassId) × (Nat → Nat → Nat) × (Nat → ClassId) × (Nat → Nat) × (Nat → Nat) × (Nat → Nat)
def EG (E : EE) : va_G := (E.1, E.2.1)
def oR (x : Nat) : Option Nat := if x = 0 then none else some x
def oF (f : Nat → Nat) (x : Nat) : Option Nat := if x = 0 then none else some (f (x - 1))
def rv (x : Nat) : Value := va_rf (oR x)
def wv (E : EE) (x : Nat) : Value := va_rf (oF E.2.2.2.1 x)
def sv (E : EE) (x : Nat) : Value := va_rf (oF E.2.2.2.2.1 x)
theorem cat_rf (r : Option Nat) : (va_rf r).category = 1 := by cases r <;> rfl
theorem cat_rv (x : Nat) : (rv x).category = 1 := cat_rf _
theorem cat_wv (E : EE) (x : Nat) : (wv E x).category = 1 := cat_rf _
theorem cat_sv (E : EE) (x : Nat) : (sv E x).category = 1 := cat_rf _
theorem cat_i (x : Int32) : (Value.int x).category = 1 := rfl
theorem cat_a (x : Nat) : (Value.ref x).category = 1 := rfl
theorem cat_l (x : Int64) : (Value.long x).category = 2 := rfl
theorem rv_ref {x : Nat} (h : x ≠ 0) : rv x = .ref x := by simp [rv, oR, h, va_rf]
theorem rv_0 : rv 0 = .null := rfl
theorem or_rv (x : Nat) : rv x = .null ∨ ∃ a, rv x = .ref a := va_rf_or _
theorem or_wv (E : EE) (x : Nat) : wv E x = .null ∨ ∃ a, wv E x = .ref a := va_rf_or _
theorem or_sv (E : EE) (x : Nat) : sv E x = .null ∨ ∃ a, sv E x = .ref a := va_rf_or _
def vl (E : EE) (h : Hp) (a k t : Nat) : Value := match t with
  | 1 => rv (hR h a k)
  | 2 => wv E (hR h a k)
  | 3 => sv E (hR h a k)
  | _ => .int (hI h a k)
def cellOf (E : EE) (h : Hp) (a : Nat) : va_E :=
  if hK h a < 100 then .inr (hK h a, (FT (hK h a)).mapIdx (fun k t => vl E h a k t))
  else if hK h a = 101 then .inl (E.2.2.1 0, hN h a, .inl (hI h a))
  else if hK h a = 102 then .inl (E.2.2.1 1, hN h a, .inr (.inl (hL h a)))
  else if hK h a = 105 then .inl (E.2.2.1 4, hN h a, .inr (.inr (.inr (.inr (fun j => oF E.2.2.2.2.1 (hR h a j))))))
  else .inl (E.2.2.1 (hK h a - 101), hN h a, .inr (.inr (.inr (.inr (fun j => oR (hR h a j))))))
def tysE (E : EE) : List (ClassId × FieldType) := [(E.2.2.1 0, .int), (E.2.2.1 1, .long), (E.2.2.1 2, .object "NibbleEngine$Row"), (E.2.2.1 3, .object "NibbleEngine$Instruction"), (E.2.2.1 4, .object "java/lang/String")]
def Rp (E : EE) (A : Nat → Prop) (h : Hp) (H : Heap) : Prop := hK h 0 = 0 ∧ ∃ L : List Nat, (∀ a, a ∈ L ↔ hK h a ≠ 0) ∧ va_P (EG E) vwCl ([] ++ va_pl L (cellOf E h)) H ∧ va_D A ([] ++ va_pl L (cellOf E h))
def St (E : EE) (A : Nat → Prop) (s : State) (h : Hp) (H : Heap) (locs : List Loc) : Prop := Rp E A h H ∧ va_S A s.heap H locs
theorem cellOf_obj {E : EE} {h : Hp} {a c : Nat} (hk : hK h a = c) (hc : c < 100) : cellOf E h a = .inr (c, (FT c).mapIdx (fun k t => vl E h a k t)) := by
  simp only [cellOf, hk, hc, if_true]
theorem cellOf_int {E : EE} {h : Hp} {a : Nat} (hk : hK h a = 101) : cellOf E h a = .inl (E.2.2.1 0, hN h a, .inl (hI h a)) := by
  simp [cellOf, hk]
theorem cellOf_long {E : EE} {h : Hp} {a : Nat} (hk : hK h a = 102) : cellOf E h a = .inl (E.2.2.1 1, hN h a, .inr (.inl (hL h a))) := by
  simp [cellOf, hk]
theorem cellOf_str {E : EE} {h : Hp} {a : Nat} (hk : hK h a = 105) : cellOf E h a = .inl (E.2.2.1 4, hN h a, .inr (.inr (.inr (.inr (fun j => oF E.2.2.2.2.1 (hR h a j)))))) := by
  simp [cellOf, hk]
theorem cellOf_ref {E : EE} {h : Hp} {a c : Nat} (hk : hK h a = c) (hc : c = 103 ∨ c = 104) : cellOf E h a = .inl (E.2.2.1 (c - 101), hN h a, .inr (.inr (.inr (.inr (fun j => oR (hR h a j)))))) := by
  rcases hc with rfl | rfl <;> simp [cellOf, hk]
/-- where nothing of a cell's has changed, its picture is the same -/
theorem cellOf_eq {E : EE} {h h' : Hp} {a : Nat} (e1 : hK h' a = hK h a) (e2 : hI h' a = hI h a) (e3 : hR h' a = hR h a) (e4 : hL h' a = hL h a) (e5 : hN h' a = hN h a) : cellOf E h' a = cellOf E h a := by
  simp only [cellOf, vl, e1, e2, e3, e4, e5]
theorem mapIdx_set {α β : Type} {l : List α} {f g : Nat → α → β} {k : Nat} {v : β} {t : α} (hk : l[k]? = some t) (hv : g k t = v) (ho : ∀ j u, j ≠ k → g j u = f j u) : (l.mapIdx f).set k v = l.mapIdx g := by
  apply List.ext_getElem?
  intro j
  rw [List.getElem?_set, List.getElem?_mapIdx, List.getElem?_mapIdx, List.length_mapIdx]
  by_cases hj : k = j
  · subst hj
    have hl : k < l.length := (List.getElem?_eq_some_iff.mp hk).1
    rw [if_pos rfl, if_pos hl, hk]
    exact congrArg some hv.symm
  · rw [if_neg hj]
    cases l[j]? with
    | none => rfl
    | some u => simp [ho j u (Ne.symm hj)]
theorem va_up_s {α : Type} {f : Nat → α} {k : Nat} {v : α} : va_up f k v k = v := va_up_self f k v
theorem upd_up (f : Nat → Int32) (k : Nat) (v : Int32) : upd f k v = va_up f k v := rfl
theorem updL_up (f : Nat → Int64) (k : Nat) (v : Int64) : vp_updL f k v = va_up f k v := rfl
theorem or_eq (f : Nat → Nat) (k v : Nat) (hv : v ≠ 0) : (fun j => oR (va_up f k v j)) = va_up (fun j => oR (f j)) k (some v) := by
  funext j
  by_cases hj : j = k
  · subst hj
    simp [va_up, oR, hv]
  · simp [va_up, hj]
theorem of_eq (g f : Nat → Nat) (k v : Nat) (hv : v ≠ 0) : (fun j => oF g (va_up f k v j)) = va_up (fun j => oF g (f j)) k (some (g (v - 1))) := by
  funext j
  by_cases hj : j = k
  · subst hj
    simp [va_up, oF, hv]
  · simp [va_up, hj]
/-- one cell is written anew -/
theorem Rp_set {E : EE} {A : Nat → Prop} {h h' : Hp} {L : List Nat} {H1 : Heap} {a k : Nat} {e : va_E} (h0 : hK h 0 = 0) (hL : ∀ a, a ∈ L ↔ hK h a ≠ 0) (ha : a ∈ L) (hk : ([] ++ va_pl L (cellOf E h))[k]? = some (a, cellOf E h a)) (hD0 : va_D A ([] ++ va_pl L (cellOf E h)))
    (hP : va_P (EG E) vwCl (([] ++ va_pl L (cellOf E h)).set k (a, e)) H1) (hD : va_D A (([] ++ va_pl L (cellOf E h)).set k (a, e))) (e1 : hK h' = hK h) (e2 : cellOf E h' a = e) (e3 : ∀ b, b ≠ a → cellOf E h' b = cellOf E h b) : Rp E A h' H1 := by
  have hc : va_up (cellOf E h) a e = cellOf E h' := by
    funext b
    by_cases hb : b = a
    · subst hb
      rw [va_up_self, e2]
    · rw [va_up_ne _ _ hb, e3 b hb]
  rw [va_pl_set hD0 ha hk, hc] at hP hD
  exact ⟨by rw [e1]; exact h0, L, by rw [e1]; exact hL, hP, hD⟩
