/-! the law's beginning and end, on its two heaps -/
section GLE
variable {p : Program} {l : Launch} {e : Env} {R : Room} {s : State} {m : MethodId} {args : Array Value} {below : List Frame} {meth : Method} {c : Code} {E : EE} {H : Heap} {locs : List Loc} {cells slots : Nat} {Q : State → Prop} {h g : Hp}
/-- what was written is new: nothing of it counts -/
theorem w_drop {gf : JFrame} (hL : ∀ z ∈ locs, s.heap.size ≤ z.base) (kk : W p l e R s m args below meth c H [] cells slots Q gf) : W p l e R s m args below meth c H locs cells slots Q gf := by
  intro T hT X
  exact kk T hT { X with same := X.same.weaken (fun y hy hlt => absurd (hL y hy) (Nat.not_le.mpr hlt)) (Nat.le_refl _) (Nat.le_refl _) }
theorem StL.nil (S : StL E s h g H locs) : StL E s h g H [] := ⟨S.1, S.2.1, S.2.2.1, S.2.2.2.1, fun _ hz => nomatch hz⟩
theorem StL.drop {gf : JFrame} (S : StL E s h g H locs) (kk : StL E s h g H [] → W p l e R s m args below meth c H [] cells slots Q gf) : W p l e R s m args below meth c H locs cells slots Q gf := w_drop S.2.2.2.2 (kk S.nil)
/-- no cell at all -/
def hp0 (x u cz z : Nat) : Hp := (fun _ => 0, fun _ _ => 0, fun _ _ => 0, fun _ _ => 0, fun _ => 0, x, u, cz, z)
theorem Rp.zero {A : Nat → Prop} {x u cz z : Nat} : Rp E A (hp0 x u cz z) H := by
  refine ⟨rfl, [], fun a => ⟨(fun q => nomatch q), fun q => absurd rfl q⟩, fun k q hk => ?_, fun i j p q hi hj => ?_, fun k q hk => ?_⟩
  · have : ([] : List (Nat × va_E))[k]? = some q := hk
    simp at this
  · have : ([] : List (Nat × va_E))[i]? = some p := hi
    simp at this
  · have : ([] : List (Nat × va_E))[k]? = some q := hk
    simp at this
theorem StL.zero {x u cz z x' u' cz' z' : Nat} : StL E s (hp0 x u cz z) (hp0 x' u' cz' z') s.heap [] := ⟨Rp.zero, Rp.zero, va_S.rf⟩
end GLE
