/-! the law's own ground: two abstract heaps, the class's and the reference's, apart -/
section GLB
variable {p : Program} {l : Launch} {e : Env} {R : Room} {s : State} {m : MethodId} {args : Array Value} {below : List Frame} {meth : Method} {c : Code} {E : EE} {A : Nat → Prop} {H H1 : Heap} {locs L : List Loc} {cells slots : Nat} {Q : State → Prop} {h g h' g' : Hp}
/-- the part that a call of the one may write: what is new since the law began, but for the other's cells -/
def AX (s : State) (g : Hp) : Nat → Prop := fun q => s.heap.size ≤ q ∧ hK g q = 0
theorem Rp.re {A' : Nat → Prop} (hr : Rp E A h H) (hd : ∀ q : Nat, hK h q ≠ 0 → A q → A' q) : Rp E A' h H := by
  obtain ⟨h0, L, hL, hP, hD⟩ := hr
  refine ⟨h0, L, hL, hP, va_D.weaken hD (fun k q hk hq => ?_)⟩
  have hm : q ∈ va_pl L (cellOf E h) := List.mem_of_getElem? hk
  have hq1 : q.1 ∈ L := by
    unfold va_pl at hm
    obtain ⟨x, hx, rfl⟩ := List.mem_map.mp hm
    exact hx
  exact hd _ ((hL _).1 hq1) hq
theorem Rp.dom (hr : Rp E A h H) {q : Nat} (hq : hK h q ≠ 0) : q < H.size ∧ A q := by
  obtain ⟨h0, L, hL, hP, hD⟩ := hr
  have hm := (hL q).2 hq
  obtain ⟨k, hk⟩ := va_pl_get (X := []) (f := cellOf E h) hm
  exact ⟨va_pl_lt hP hm, hD.2 _ _ hk⟩
theorem Rp.stay (hr : Rp E A h H) (hk : ∀ q : Nat, hK h q ≠ 0 → q < H.size → H1[q]? = H[q]?) : Rp E A h H1 := by
  obtain ⟨h0, L, hL, hP, hD⟩ := hr
  refine ⟨h0, L, hL, hP.kept (fun k q hq => ?_), hD⟩
  have hm : q ∈ va_pl L (cellOf E h) := List.mem_of_getElem? hq
  have hq1 : q.1 ∈ L := by
    unfold va_pl at hm
    obtain ⟨x, hx, rfl⟩ := List.mem_map.mp hm
    exact hx
  exact hk _ ((hL _).1 hq1) (hP k q hq).lt
/-- the class's heap h, the reference's g, over the machine's H -/
def StL (E : EE) (s : State) (h g : Hp) (H : Heap) (locs : List Loc) : Prop := Rp E (AX s g) h H ∧ Rp E (AX s h) g H ∧ va_S (fun q => s.heap.size ≤ q) s.heap H locs
theorem StL.swap (S : StL E s h g H locs) : StL E s g h H locs := ⟨S.2.1, S.1, S.2.2⟩
theorem StL.step (S : StL E s h g H locs) (h1 : Rp E (AX s g) h' H1) (hF : H.size ≤ H1.size ∧ ∀ q : Nat, q < H.size → ¬ AX s g q → H1[q]? = H[q]?) (hL : ∀ z ∈ L, AX s g z.base) : StL E s h' g H1 (locs ++ L) := by
  obtain ⟨S1, S2, S3⟩ := S
  refine ⟨h1, ?_, Nat.le_trans S3.1 hF.1, fun q a b => ?_, fun z hz => (List.mem_append.mp hz).elim (S3.2.2 z) (fun h => (hL z h).1)⟩
  · have hg : Rp E (AX s h) g H1 := S2.stay (fun q hq hlt => hF.2 q hlt (fun hA => hq hA.2))
    refine hg.re (fun q hq hA => ⟨hA.1, ?_⟩)
    by_cases hz : hK h' q = 0
    · exact hz
    · exact absurd (h1.dom hz).2.2 hq
  · have b' : ¬ s.heap.size ≤ q := b
    rw [hF.2 q (Nat.lt_of_lt_of_le a S3.1) (fun hA => b' hA.1)]
    exact S3.2.1 q a b
/-- what lies above is free for a call -/
theorem StL.up (S : StL E s h g H locs) : ∀ q : Nat, H.size ≤ q → AX s g q := by
  intro q hq
  refine ⟨Nat.le_trans S.2.2.1 hq, ?_⟩
  by_cases hz : hK g q = 0
  · exact hz
  · exact absurd (S.2.1.dom hz).1 (Nat.not_lt.mpr hq)
/-- counters set anew -/
def rs (h : Hp) (x u c z : Nat) : Hp := (h.1, h.2.1, h.2.2.1, h.2.2.2.1, h.2.2.2.2.1, x, u, c, z)
theorem Rp.rs {x u c z : Nat} (hr : Rp E A h H) : Rp E A (rs h x u c z) H := hr
theorem StL.rs1 {x u c z : Nat} (S : StL E s h g H locs) : StL E s (rs h x u c z) g H locs := S
theorem StL.rs2 {x u c z : Nat} (S : StL E s h g H locs) : StL E s h (rs g x u c z) H locs := S
/-- what the law's body stands on -/
def CxL (p : Program) (E : EE) (DD : Nat) (R : Room) (s : State) (m : MethodId) (args : Array Value) (c : Code) (cc : ByteArray) (own : String) (nL : Nat) : Prop :=
  p.tables.exec = Jvm.exec ∧ c.code = cc ∧ (∀ w ∈ UW, w.before args s = true) ∧ s.vm.findClass own = some m.cls ∧ va_K (EG E) vwCl (tysE E) s ∧ c.maxLocals = nL ∧ (DD ≤ R.frames ∧ 64 * DD ≤ R.locals) ∧ (∀ A : Nat → Prop, (∀ q, A q → s.heap.size ≤ q) → Kon E A s) ∧ KonL s
theorem pre_okL {DD nL : Nat} {cc : ByteArray} {own : String} (X : CxL p E DD R s m args c cc own nL) (S : StL E s h g H locs) (av : List Value) (U : State) (hU : U.heap = H) (hW : s.WarmedH U.vm) : PcL E (AX s g) h av av.toArray U := by
  obtain ⟨hx, hb, hu, hown, hK9, hml, hR, hKo, hKL⟩ := X
  have hup := S.up
  obtain ⟨S1, S2, S3⟩ := S
  exact ⟨⟨rfl, by rw [hU]; exact S1, va_K.moved hW.alike hK9, Kon.moved hW (fun q h1 h2 => by rw [hU]; exact S3.2.1 q h1 (Nat.not_le.mpr h1)) (hKo _ (fun q hq => hq.1)), fun q hq => hup q (by rw [← hU]; exact hq)⟩, hKL.moved hW.alike⟩
end GLB
