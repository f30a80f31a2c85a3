/-! what the law's body reads: the script, and out -/
section GLR
variable {p : Program} {l : Launch} {e : Env} {R : Room} {s : State} {m : MethodId} {args : Array Value} {below : List Frame} {meth : Method} {c : Code} {E : EE} {H : Heap} {locs : List Loc} {cells slots : Nat} {Q : State → Prop} {h g : Hp}
variable {cc : ByteArray} {own : String} {nL DD pc : Nat} {ls : Array Slot} {rest : List Value} {b L : Nat} {xs : Nat → Int32}
theorem g_sld (X : CxL p E DD R s m args c cc own nL) (S : StL E s h g H locs) (hX : va_X b L xs s s.heap) (hbl : b < s.heap.size) {i : Int32} (hin : vp_in i L) (hdg : decode cc pc = .ok (.iaload, 1))
    (kk : W p l e R s m args below meth c H locs cells slots Q (F0 m (pc + 1) ls (.int (xs i.toNatClampNeg) :: rest))) : W p l e R s m args below meth c H locs cells slots Q (F0 m pc ls (.int i :: .ref b :: rest)) :=
  va_sld X.1 X.2.1 hX hbl (Nat.not_le.mpr hbl) S.2.2 hin hdg kk
theorem g_slen (X : CxL p E DD R s m args c cc own nL) (S : StL E s h g H locs) (hX : va_X b L xs s s.heap) (hbl : b < s.heap.size) (hdg : decode cc pc = .ok (.arraylength, 1))
    (kk : W p l e R s m args below meth c H locs cells slots Q (F0 m (pc + 1) ls (.int (Int32.ofNat L) :: rest))) : W p l e R s m args below meth c H locs cells slots Q (F0 m pc ls (.ref b :: rest)) :=
  va_slen X.1 X.2.1 hX hbl (Nat.not_le.mpr hbl) S.2.2 hdg kk
theorem g_aLL {β : Type} {f : Int64 → Option β} {r : β} (X : CxL p E DD R s m args c cc own nL) (S : StL E s h g H locs) {a : Nat} {i : Int32} (hdg : decode cc pc = .ok (.laload, 1)) (hf : ob (aL a i h) f = some r)
    (kk : ∀ v : Int64, f v = some r → W p l e R s m args below meth c H locs cells slots Q (F0 m (pc + 1) ls (.long v :: rest))) : W p l e R s m args below meth c H locs cells slots Q (F0 m pc ls (.int i :: rv a :: rest)) := by
  obtain ⟨hx, hb, hu, hown, hK9, -⟩ := X
  obtain ⟨v, h1, h2⟩ := ob_some hf
  obtain ⟨⟨hk, hin⟩, rfl⟩ := if_some h1
  obtain ⟨⟨h0, L, hL, hP, hD⟩, hS⟩ := S
  rw [rv_ref (dom_ne h0 hk (by decide))]
  obtain ⟨q0, hq⟩ := va_pl_get (X := []) (f := cellOf E h) ((hL a).2 (by rw [hk]; decide))
  rw [cellOf_long hk] at hq
  exact va_lald hx hb hK9 hP q0 1 hq ty1 hin hdg (kk _ h2)
end GLR
