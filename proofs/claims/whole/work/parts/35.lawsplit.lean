/-! one abstract heap cut in two: after the constructors, the class's cells and the reference's -/
section GLS
variable {E : EE} {H : Heap} {h : Hp} {A : Nat → Prop}
theorem va_nodup {L : List Nat} {f : Nat → va_E} (hD : va_D A (va_pl L f)) : ∀ (i j x : Nat), L[i]? = some x → L[j]? = some x → i = j := fun i j x hi hj =>
  hD.1 i j (x, f x) (x, f x) (by unfold va_pl; rw [List.getElem?_map, hi]; rfl) (by unfold va_pl; rw [List.getElem?_map, hj]; rfl) rfl
theorem nodup_at {L : List Nat} (hL : L.Nodup) : ∀ (i j x : Nat), L[i]? = some x → L[j]? = some x → i = j := by
  intro i j x hi hj
  obtain ⟨h1, e1⟩ := List.getElem?_eq_some_iff.mp hi
  obtain ⟨h2, e2⟩ := List.getElem?_eq_some_iff.mp hj
  have hp := List.pairwise_iff_getElem.mp hL
  rcases Nat.lt_trichotomy i j with hlt | heq | hgt
  · exact absurd (e1.trans e2.symm) (hp i j h1 h2 hlt)
  · exact heq
  · exact absurd (e2.trans e1.symm) (hp j i h2 h1 hgt)
/-- the cells at the places that P takes -/
def hcut (P : Nat → Bool) (h : Hp) : Hp := (fun a => if P a then hK h a else 0, h.2)
theorem part_k {P : Nat → Bool} {a : Nat} (hp : P a = true) : hK (hcut P h) a = hK h a := by
  show (if P a then hK h a else 0) = _
  rw [if_pos hp]
theorem part_n {P : Nat → Bool} {a : Nat} (hp : ¬ P a = true) : hK (hcut P h) a = 0 := by
  show (if P a then hK h a else 0) = _
  rw [if_neg hp]
theorem part_cell {P : Nat → Bool} {a : Nat} (hp : P a = true) : cellOf E (hcut P h) a = cellOf E h a := by
  unfold cellOf
  rw [part_k hp]
  rfl
theorem Rp.part {P : Nat → Bool} (hr : Rp E A h H) : Rp E (fun q => A q ∧ P q = true) (hcut P h) H := by
  obtain ⟨h0, L, hL, hP, hD⟩ := hr
  have hnd : L.Nodup := by
    refine List.pairwise_iff_getElem.mpr (fun i j hi hj hlt e => ?_)
    exact absurd (va_nodup hD i j _ (List.getElem?_eq_getElem hi) ((List.getElem?_eq_getElem hj).trans (congrArg some e.symm))) (Nat.ne_of_lt hlt)
  have hnd' : (L.filter P).Nodup := List.Pairwise.filter _ hnd
  refine ⟨?_, L.filter P, fun a => ?_, fun k q hk => ?_, fun i j x z hi hj e => ?_, fun k q hk => ?_⟩
  · by_cases hp : P 0 = true
    · rw [part_k hp]; exact h0
    · exact part_n hp
  · rw [List.mem_filter]
    by_cases hp : P a = true
    · rw [part_k hp]
      exact ⟨fun q => (hL a).1 q.1, fun q => ⟨(hL a).2 q, hp⟩⟩
    · rw [part_n hp]
      exact ⟨fun q => absurd q.2 hp, fun q => absurd rfl q⟩
  · have hm : q ∈ va_pl (L.filter P) (cellOf E (hcut P h)) := List.mem_of_getElem? hk
    unfold va_pl at hm
    obtain ⟨a, ha, rfl⟩ := List.mem_map.mp hm
    obtain ⟨ha1, ha2⟩ := List.mem_filter.mp ha
    obtain ⟨k', hk'⟩ := va_pl_get (X := []) (f := cellOf E h) ha1
    have := hP k' _ hk'
    rw [part_cell ha2]
    exact this
  · have hi' : (va_pl (L.filter P) (cellOf E (hcut P h)))[i]? = some x := hi
    have hj' : (va_pl (L.filter P) (cellOf E (hcut P h)))[j]? = some z := hj
    unfold va_pl at hi' hj'
    rw [List.getElem?_map] at hi' hj'
    obtain ⟨x', hx', rfl⟩ := Option.map_eq_some_iff.mp hi'
    obtain ⟨z', hz', rfl⟩ := Option.map_eq_some_iff.mp hj'
    have e' : x' = z' := e
    subst e'
    exact nodup_at hnd' i j x' hx' hz'
  · have hm : q ∈ va_pl (L.filter P) (cellOf E (hcut P h)) := List.mem_of_getElem? hk
    unfold va_pl at hm
    obtain ⟨a, ha, rfl⟩ := List.mem_map.mp hm
    obtain ⟨ha1, ha2⟩ := List.mem_filter.mp ha
    obtain ⟨k', hk'⟩ := va_pl_get (X := []) (f := cellOf E h) ha1
    exact ⟨hD.2 k' (a, cellOf E h a) hk', ha2⟩
variable {p : Program} {R : Room} {s : State} {m : MethodId} {args : Array Value} {c : Code} {locs : List Loc}
/-- behind the constructors: the class's part and the reference's -/
theorem StL.cut (P : Nat → Bool) (S : St E (fun q => s.heap.size ≤ q) s h H locs) : StL E s (hcut P h) (hcut (fun a => !P a) h) H locs :=
  ⟨S.1.part.re (fun q _ hq => ⟨hq.1, part_n (by simp [hq.2])⟩), S.1.part.re (fun q _ hq => ⟨hq.1, part_n (by have := hq.2; simpa using this)⟩), S.2⟩
/-- before the constructors there is one heap only, and the rows of the class serve -/
theorem CxL.one {DD nL : Nat} {cc : ByteArray} {own : String} (X : CxL p E DD R s m args c cc own nL) : Cx p E (fun q => s.heap.size ≤ q) DD R s m args c cc own nL := by
  obtain ⟨hx, hb, hu, hown, hK9, hml, hR, hKo, hKL⟩ := X
  exact ⟨hx, hb, hu, hown, hK9, hml, hR, hKo _ (fun _ h => h), fun _ h => h⟩
theorem St.zero {x u cz z : Nat} : St E (fun q => s.heap.size ≤ q) s (hp0 x u cz z) s.heap [] := ⟨Rp.zero, va_S.rf⟩
theorem AlI.zero {x u : Nat} (hx : s.heap.size = x) : AlI R s (hp0 x u (R.cells + x) (R.slots + u)) (hp0 x u (R.cells + x) (R.slots + u)) 0 0 := ⟨rfl, rfl, hx, rfl, rfl, rfl, rfl, Nat.zero_le _, Nat.zero_le _, Or.inl rfl⟩
end GLS
