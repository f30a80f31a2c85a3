section PF5
variable {K : Nat → Nat} {I : Nat → Nat → Int32} {R : Nat → Nat → Nat} {L : Nat → Nat → Int64} {N : Nat → Nat} {w : Nat × Nat × Nat × Nat}
theorem e_perform {p x a k many : Nat} {P : PG} {r g : Nat → Int} (h : CTX K I R N p x a P r g k many) :
    PO K I R L N w p x g (fX9_perform p (K, I, R, L, N, w)) (prf P r k) (if P 0 k = 24 then 1 else 0) (r 273 = -1) := by
  have pg := h.2.2.2.2.1.1
  have : P 0 k = 0 ∨ P 0 k = 1 ∨ P 0 k = 2 ∨ P 0 k = 3 ∨ P 0 k = 4 ∨ P 0 k = 5 ∨ P 0 k = 6 ∨ P 0 k = 7 ∨ P 0 k = 8 ∨ P 0 k = 9 ∨ P 0 k = 10 ∨ P 0 k = 11 ∨ P 0 k = 12 ∨ P 0 k = 13 ∨ P 0 k = 14 ∨ P 0 k = 15 ∨ P 0 k = 16 ∨ P 0 k = 17 ∨ P 0 k = 18 ∨ P 0 k = 19 ∨ P 0 k = 20 ∨ P 0 k = 21 ∨ P 0 k = 22 ∨ P 0 k = 23 ∨ P 0 k = 24 := by omega
  rcases this with h0 | h0 | h0 | h0 | h0 | h0 | h0 | h0 | h0 | h0 | h0 | h0 | h0 | h0 | h0 | h0 | h0 | h0 | h0 | h0 | h0 | h0 | h0 | h0 | h0
  · exact e_pfPack h h0
  · exact e_pfUnpack h h0
  · exact e_pfOffset h h0
  · exact e_pfMove h h0
  · exact e_pfAdd h h0
  · exact e_pfSub h h0
  · exact e_pfCompare h h0
  · exact e_pfMul h h0
  · exact e_pfDiv h h0
  · exact e_pfCopy h h0
  · exact e_pfDigits h h0
  · exact e_pfZones h h0
  · exact e_pfEdit (mk := false) h h0
  · exact e_pfEdit (mk := true) h h0
  · exact e_pfShift h h0
  · exact e_pfTest h h0
  · exact e_pfBin h h0
  · exact e_pfDec h h0
  · exact e_pfLoad h h0
  · exact e_pfPlus h h0
  · exact e_pfCount h h0
  · exact e_pfOn h h0
  · exact e_pfGuard h h0
  · exact e_pfBack h h0
  · exact e_pfHalt h h0
end PF5
