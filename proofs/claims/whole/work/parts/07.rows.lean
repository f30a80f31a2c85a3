/-- the Strings: the words' texts and forms, then the reference's names -/
def strT : List (List Nat) := [[97, 116], [], [112, 97, 99, 107, 101, 100], [122, 111, 110, 101, 100], [105, 110], [112, 97, 99, 107], [112, 120, 58, 108, 113, 121, 58, 109], [117, 110, 112, 97, 99, 107], [111, 102, 102, 115, 101, 116], [109, 111, 118, 101], [97, 100, 100], [115, 117, 98], [99, 111, 109, 112, 97, 114, 101], [109, 117, 108], [100, 105, 118], [99, 111, 112, 121], [112, 120, 58, 76, 113, 121, 61], [100, 105, 103, 105, 116, 115], [122, 111, 110, 101, 115], [101, 100, 105, 116], [112, 120, 58, 76, 113, 121], [109, 97, 114, 107], [115, 104, 105, 102, 116], [112, 120, 58, 108, 115, 100], [116, 101, 115, 116], [112, 120, 58, 108], [98, 105, 110], [37, 114, 112, 120, 56], [100, 101, 99], [108, 111, 97, 100], [37, 114, 112, 120], [112, 108, 117, 115], [37, 114, 43], [99, 111, 117, 110, 116], [37, 114, 110], [111, 110], [103, 117, 97, 114, 100], [103, 78], [98, 97, 99, 107], [104, 97, 108, 116], [112, 97, 99, 107], [117, 110, 112, 97, 99, 107], [111, 102, 102, 115, 101, 116], [109, 111, 118, 101], [97, 100, 100], [115, 117, 98], [99, 111, 109, 112, 97, 114, 101], [109, 117, 108], [100, 105, 118], [99, 111, 112, 121], [100, 105, 103, 105, 116, 115], [122, 111, 110, 101, 115], [101, 100, 105, 116], [109, 97, 114, 107], [115, 104, 105, 102, 116], [116, 101, 115, 116], [98, 105, 110], [100, 101, 99], [108, 111, 97, 100], [112, 108, 117, 115], [99, 111, 117, 110, 116], [111, 110], [103, 117, 97, 114, 100], [98, 97, 99, 107], [104, 97, 108, 116], [97, 116], [112, 97, 99, 107, 101, 100], [122, 111, 110, 101, 100], [105, 110]]
def wTx : List Nat := [0, 2, 3, 4, 5, 7, 8, 9, 10, 11, 12, 13, 14, 15, 17, 18, 19, 21, 22, 24, 26, 28, 29, 31, 33, 35, 36, 38, 39]
def wFm : List Nat := [1, 1, 1, 1, 6, 6, 6, 6, 6, 6, 6, 6, 6, 16, 16, 16, 20, 20, 23, 25, 27, 27, 30, 32, 34, 35, 37, 1, 1]
def wPk : List Int32 := [0, 0, 0, 0, 0, 0, 0, 2, 3, 3, 3, 3, 3, 0, 0, 0, 0, 0, 1, 0, 1, 0, 0, 0, 0, 0, 0, 0, 0]
def wIn : List Int32 := [0, 0, 0, 0, 1, 1, 1, 1, 1, 1, 1, 1, 1, 1, 1, 1, 1, 1, 1, 1, 1, 1, 1, 1, 1, 1, 1, 1, 1]
def wSm : List Int32 := [0, 0, 0, 0, 6, 7, 8, 1, 2, 3, 12, 4, 5, 9, 10, 11, 14, 15, 13, 20, 16, 17, 18, 19, 21, 22, 23, 24, 0]
def sLen (x : Nat) : Option Int32 := if x ≠ 0 ∧ x ≤ 69 then some (Int32.ofNat ((strT.getD (x - 1) []).length)) else none
def sAt (x : Nat) (i : Int32) : Option Int32 := if x ≠ 0 ∧ x ≤ 69 ∧ ¬ (i < 0 ∨ (strT.getD (x - 1) []).length ≤ i.toNatClampNeg) then some (Int32.ofNat ((strT.getD (x - 1) []).getD i.toNatClampNeg 0)) else none
def wdT (x : Nat) : Option Nat := if x ≠ 0 ∧ x ≤ 29 then some (wTx.getD (x - 1) 0 + 1) else none
def wdF (x : Nat) : Option Nat := if x ≠ 0 ∧ x ≤ 29 then some (wFm.getD (x - 1) 0 + 1) else none
def wdP (x : Nat) : Option Int32 := if x ≠ 0 ∧ x ≤ 29 then some (wPk.getD (x - 1) 0) else none
def wdI (x : Nat) : Option Int32 := if x ≠ 0 ∧ x ≤ 29 then some (wIn.getD (x - 1) 0) else none
def wdO (x : Nat) : Option Int32 := if x ≠ 0 ∧ x ≤ 29 then some (Int32.ofNat (x - 1)) else none
def smI (i : Int32) : Option Int32 := if ¬ (i < 0 ∨ 29 ≤ i.toNatClampNeg) then some (wSm.getD i.toNatClampNeg 0) else none
def alW (i : Int32) : Option Nat := if ¬ (i < 0 ∨ 29 ≤ i.toNatClampNeg) then some (i.toNatClampNeg + 1) else none
def exL : List (String × Nat × String) := [("NibbleEngine", 74, "the tape has not so many bytes"), ("NibbleEngine", 137, "no such count"), ("NibbleEngine", 303, "no such place"), ("NibbleEngine", 305, "no such register"), ("NibbleEngine", 307, "no such kind"), ("NibbleEngine", 149, "no such instruction"), ("NibbleEngine", 151, "the trace has no such instruction"), ("NibbleEngine", 159, "no such cause"), ("NibbleEngine", 317, "no such field"), ("NibbleEngine", 169, "no such flaw"), ("NibbleEngine", 319, "the field has flaws"), ("NibbleEngine", 187, "more than 18 digits"), ("NibbleEngine", 194, "no such reckoning"), ("NibbleEngine", 204, "not 1 to 32"), ("NibbleEngine", 216, "no such source, no such digit"), ("NibbleEngine", 311, "not 0 to 100 steps"), ("NibbleEngine", 309, "nothing such is told"), ("NibbleEngine", 273, "not 1 to 60 steps"), ("NibbleEngine", 289, "not 0 to 20 years")]
def ldL : List (String × Nat × String) := [("NibbleEngine$Word", 139, "at"), ("NibbleEngine$Word", 141, ""), ("NibbleEngine$Word", 147, "packed"), ("NibbleEngine$Word", 149, "zoned"), ("NibbleEngine$Word", 152, "in"), ("NibbleEngine$Word", 155, "pack"), ("NibbleEngine$Word", 157, "px:lqy:m"), ("NibbleEngine$Word", 160, "unpack"), ("NibbleEngine$Word", 163, "offset"), ("NibbleEngine$Word", 166, "move"), ("NibbleEngine$Word", 169, "add"), ("NibbleEngine$Word", 172, "sub"), ("NibbleEngine$Word", 175, "compare"), ("NibbleEngine$Word", 178, "mul"), ("NibbleEngine$Word", 181, "div"), ("NibbleEngine$Word", 184, "copy"), ("NibbleEngine$Word", 186, "px:Lqy="), ("NibbleEngine$Word", 189, "digits"), ("NibbleEngine$Word", 192, "zones"), ("NibbleEngine$Word", 195, "edit"), ("NibbleEngine$Word", 197, "px:Lqy"), ("NibbleEngine$Word", 200, "mark"), ("NibbleEngine$Word", 203, "shift"), ("NibbleEngine$Word", 205, "px:lsd"), ("NibbleEngine$Word", 208, "test"), ("NibbleEngine$Word", 210, "px:l"), ("NibbleEngine$Word", 213, "bin"), ("NibbleEngine$Word", 215, "%rpx8"), ("NibbleEngine$Word", 218, "dec"), ("NibbleEngine$Word", 221, "load"), ("NibbleEngine$Word", 223, "%rpx"), ("NibbleEngine$Word", 226, "plus"), ("NibbleEngine$Word", 228, "%r+"), ("NibbleEngine$Word", 231, "count"), ("NibbleEngine$Word", 233, "%rn"), ("NibbleEngine$Word", 236, "on"), ("NibbleEngine$Word", 239, "guard"), ("NibbleEngine$Word", 241, "gN"), ("NibbleEngine$Word", 244, "back"), ("NibbleEngine$Word", 247, "halt"), ("NibbleEngineModel", 9, "pack"), ("NibbleEngineModel", 11, "unpack"), ("NibbleEngineModel", 13, "offset"), ("NibbleEngineModel", 15, "move"), ("NibbleEngineModel", 17, "add"), ("NibbleEngineModel", 19, "sub"), ("NibbleEngineModel", 21, "compare"), ("NibbleEngineModel", 23, "mul"), ("NibbleEngineModel", 25, "div"), ("NibbleEngineModel", 27, "copy"), ("NibbleEngineModel", 29, "digits"), ("NibbleEngineModel", 31, "zones"), ("NibbleEngineModel", 33, "edit"), ("NibbleEngineModel", 35, "mark"), ("NibbleEngineModel", 37, "shift"), ("NibbleEngineModel", 39, "test"), ("NibbleEngineModel", 41, "bin"), ("NibbleEngineModel", 43, "dec"), ("NibbleEngineModel", 45, "load"), ("NibbleEngineModel", 47, "plus"), ("NibbleEngineModel", 49, "count"), ("NibbleEngineModel", 51, "on"), ("NibbleEngineModel", 53, "guard"), ("NibbleEngineModel", 55, "back"), ("NibbleEngineModel", 57, "halt"), ("NibbleEngineModel", 65, "at"), ("NibbleEngineModel", 67, "packed"), ("NibbleEngineModel", 69, "zoned"), ("NibbleEngineModel", 71, "in")]
def wNm : List String := ["AT", "PACKED", "ZONED", "IN", "PACK", "UNPACK", "OFFSET", "MOVE", "ADD", "SUB", "COMPARE", "MUL", "DIV", "COPY", "DIGITS", "ZONES", "EDIT", "MARK", "SHIFT", "TEST", "BIN", "DEC", "LOAD", "PLUS", "COUNT", "ON", "GUARD", "BACK", "HALT"]
def wCN : String := "NibbleEngine$Word"
def wDD : String := "LNibbleEngine$Word;"
/-- a constant of the words -/
def KW (E : EE) (A : Nat → Prop) (U : State) (i : Nat) : Prop :=
  va_Z "NibbleEngine$Word" (wNm.getD i "") "LNibbleEngine$Word;" (.ref (E.2.2.2.1 i)) A U U.heap ∧ va_O "NibbleEngine$Word" (E.2.2.2.1 i) A U U.heap ∧ va_OF "java/lang/Enum" "ordinal" "I" (.int (Int32.ofNat i)) (E.2.2.2.1 i) A U U.heap ∧
  va_OF "NibbleEngine$Word" "packed" "I" (.int (wPk.getD i 0)) (E.2.2.2.1 i) A U U.heap ∧ va_OF "NibbleEngine$Word" "instruction" "Z" (.int (wIn.getD i 0)) (E.2.2.2.1 i) A U U.heap ∧
  va_OF "NibbleEngine$Word" "text" "Ljava/lang/String;" (.ref (E.2.2.2.2.1 (wTx.getD i 0))) (E.2.2.2.1 i) A U U.heap ∧ va_OF "NibbleEngine$Word" "form" "Ljava/lang/String;" (.ref (E.2.2.2.2.1 (wFm.getD i 0))) (E.2.2.2.1 i) A U U.heap
/-- a String constant -/
def KS (E : EE) (A : Nat → Prop) (U : State) (i : Nat) : Prop :=
  va_O "java/lang/String" (E.2.2.2.2.1 i) A U U.heap ∧ va_OF "java/lang/String" "coder" "B" (.int 0) (E.2.2.2.2.1 i) A U U.heap ∧ va_OF "java/lang/String" "value" "[B" (.ref (E.2.2.2.2.2 i)) (E.2.2.2.2.1 i) A U U.heap ∧
  va_T .byte (E.2.2.2.2.2 i) (strT.getD i []).length (fun j => .int (Int32.ofNat ((strT.getD i []).getD j 0))) A U U.heap
def isALL (E : EE) (A : Nat → Prop) (s : State) (q : Nat) : Prop := va_T (.object "NibbleEngine$Word") q 29 (fun j => .ref (E.2.2.2.1 j)) A s s.heap
def isSM (A : Nat → Prop) (s : State) (q : Nat) : Prop := va_T .int q 29 (fun j => .int (wSm.getD j 0)) A s s.heap
def exN (k : Nat) : String := if k = 1 then "java/util/NoSuchElementException" else if k = 2 then "java/lang/IllegalArgumentException" else "java/lang/ArithmeticException"
def exW (k : Nat) : List Cond := [.castable (exN k) (exN k), .declares ⟨"java/lang/RuntimeException", "<init>", "(Ljava/lang/String;)V"⟩, .declares ⟨"java/lang/Exception", "<init>", "(Ljava/lang/String;)V"⟩, .declares ⟨"java/lang/Throwable", "<init>", "(Ljava/lang/String;)V"⟩]
/-- what the constants of the classes are (words, Strings, a switch's table, what a throw needs) -/
def Kon (E : EE) (A : Nat → Prop) (U : State) : Prop :=
  (∀ i : Nat, i < 29 → KW E A U i) ∧ (∀ i : Nat, i < 69 → KS E A U i) ∧
  (∃ q : Nat, va_Z "NibbleEngine$Word" "ALL" "[LNibbleEngine$Word;" (.ref q) A U U.heap ∧ isALL E A U q) ∧
  (∃ q : Nat, va_Z "NibbleEngine$1" "$SwitchMap$NibbleEngine$Word" "[I" (.ref q) A U U.heap ∧ isSM A U q) ∧
  va_Z "java/lang/String" "COMPACT_STRINGS" "Z" (.int 1) A U U.heap ∧
  (∀ i : Nat, 40 ≤ i → i < 69 → vk_R (ldL.getD i ("", 0, "")).1 (ldL.getD i ("", 0, "")).2.1 (ldL.getD i ("", 0, "")).2.2 (E.2.2.2.2.1 i) U) ∧
  (∀ q ∈ exL, ∃ sa : Nat, vk_R q.1 q.2.1 q.2.2 sa U) ∧
  vx_Zq Bundle.tN "UNASSIGNED_STACK" Bundle.steD A U U.heap ∧ vx_Zq Bundle.tN "SUPPRESSED_SENTINEL" Bundle.listD A U U.heap ∧
  va_Zq "jdk/internal/util/Preconditions" "SIOOBE_FORMATTER" "Ljava/util/function/BiFunction;" A U U.heap ∧
  (va_AO "NibbleEngine$Row" U ∧ va_AO "NibbleEngine$Instruction" U ∧ va_AO "java/lang/String" U) ∧
  (∀ (k : Nat), ∀ w ∈ exW k, va_Nw w U)
theorem KW.go {E : EE} {A : Nat → Prop} {u U : State} {i : Nat} (hvm : u.vm.Alike U.vm) (hh : ∀ q : Nat, q < u.heap.size → ¬ A q → U.heap[q]? = u.heap[q]?) (h : KW E A u i) : KW E A U i := by
  obtain ⟨h1, h2, h3, h4, h5, h6, h7⟩ := h
  exact ⟨(h1.moved hvm).kept hh, (h2.moved hvm).kept hh, (h3.moved hvm).kept hh, (h4.moved hvm).kept hh, (h5.moved hvm).kept hh, (h6.moved hvm).kept hh, (h7.moved hvm).kept hh⟩
theorem KS.go {E : EE} {A : Nat → Prop} {u U : State} {i : Nat} (hvm : u.vm.Alike U.vm) (hh : ∀ q : Nat, q < u.heap.size → ¬ A q → U.heap[q]? = u.heap[q]?) (h : KS E A u i) : KS E A U i := by
  obtain ⟨h1, h2, h3, h4⟩ := h
  exact ⟨(h1.moved hvm).kept hh, (h2.moved hvm).kept hh, (h3.moved hvm).kept hh, (h4.moved hvm).kept hh⟩
theorem exW_warm {s U : State} (hW : s.WarmedH U.vm) (k : Nat) (w : Cond) (hw : w ∈ exW k) (h : va_Nw w s) : va_Nw w U := by
  simp only [exW, List.mem_cons, List.not_mem_nil, or_false] at hw
  rcases hw with rfl | rfl | rfl | rfl
  · exact va_Nw.warmC hW h
  · exact va_Nw.warmD hW h
  · exact va_Nw.warmD hW h
  · exact va_Nw.warmD hW h
theorem exW_use {s : State} {args : Array Value} (k : Nat) (w : Cond) (hw : w ∈ exW k) (h : va_Nw w s) : w.before args s = true := by
  simp only [exW, List.mem_cons, List.not_mem_nil, or_false] at hw
  rcases hw with rfl | rfl | rfl | rfl <;> exact va_Nw.use rfl h
theorem Kon.moved {E : EE} {A : Nat → Prop} {u U : State} (hW : u.WarmedH U.vm) (hh : ∀ q : Nat, q < u.heap.size → ¬ A q → U.heap[q]? = u.heap[q]?) (h : Kon E A u) : Kon E A U := by
  obtain ⟨h1, h2, ⟨q3, a3, b3⟩, ⟨q4, a4, b4⟩, h5, h6, h7, h8, h9, h10, ⟨h11, h12, h13⟩, h14⟩ := h
  have hvm := hW.alike
  exact ⟨fun i hi => (h1 i hi).go hvm hh, fun i hi => (h2 i hi).go hvm hh, ⟨q3, (a3.moved hvm).kept hh, (va_T.moved hvm b3).kept hh⟩, ⟨q4, (a4.moved hvm).kept hh, (va_T.moved hvm b4).kept hh⟩, (h5.moved hvm).kept hh, fun i h0 hi => (h6 i h0 hi).warm hW, fun q hq => by
    obtain ⟨sa, h⟩ := h7 q hq
    exact ⟨sa, h.warm hW⟩, (vx_Zq.moved hvm h8).kept hh, (vx_Zq.moved hvm h9).kept hh, (va_Zq.moved hvm h10).kept hh, ⟨va_AO.moved hvm h11, va_AO.moved hvm h12, va_AO.moved hvm h13⟩, fun k w hw => exW_warm hW k w hw (h14 k w hw)⟩
theorem wd_inj {E : EE} {A : Nat → Prop} {U : State} (h : Kon E A U) : ∀ i j : Nat, i < 29 → j < 29 → E.2.2.2.1 i = E.2.2.2.1 j → i = j := by
  intro i j hi hj he
  obtain ⟨-, -, ⟨cf, k, n, f, cell, a1, a2, a3, a4, a5, -⟩, -⟩ := h.1 i hi
  obtain ⟨-, -, ⟨cf', k', n', f', cell', b1, b2, b3, b4, b5, -⟩, -⟩ := h.1 j hj
  cases a1.symm.trans b1
  rw [← he] at b3
  cases a3.symm.trans b3
  have e := Option.some.inj (a5.symm.trans b5)
  have e2 : Int32.ofNat i = Int32.ofNat j := by injection e
  exact (nI_eq (by omega) (by omega)).1 e2
theorem Kon.ao103 {E : EE} {A : Nat → Prop} {U : State} (h : Kon E A U) : va_AO "NibbleEngine$Row" U := h.2.2.2.2.2.2.2.2.2.2.1.1
theorem Kon.ao104 {E : EE} {A : Nat → Prop} {U : State} (h : Kon E A U) : va_AO "NibbleEngine$Instruction" U := h.2.2.2.2.2.2.2.2.2.2.1.2.1
theorem Kon.ao105 {E : EE} {A : Nat → Prop} {U : State} (h : Kon E A U) : va_AO "java/lang/String" U := h.2.2.2.2.2.2.2.2.2.2.1.2.2
theorem u_math : Cond.initialized "java/lang/Math" ∈ UW := (uw_1 18 rfl rfl)
theorem u_max_s : Cond.static Lib.Math.max.name ∈ UW := (uw_3 21 rfl rfl)
theorem u_max_c : Cond.code Lib.Math.max.name Lib.Math.max.code 2 (some .int) ∈ UW := (uw_3 22 rfl rfl)
theorem u_min_s : Cond.static Lib.Math.min.name ∈ UW := (uw_3 138 rfl rfl)
theorem u_min_c : Cond.code Lib.Math.min.name Lib.Math.min.code 2 (some .int) ∈ UW := (uw_3 139 rfl rfl)
theorem u_abs_s : Cond.static Lib.MathLoose.abs_long.x ∈ UW := (uw_3 152 rfl rfl)
theorem u_abs_c : Cond.code Lib.MathLoose.abs_long.x Lib.MathLoose.abs_long.code 2 (some .long) ∈ UW := (uw_3 153 rfl rfl)
theorem u_ac_n : Cond.native arraycopyName ∈ UW := (uw_2 215 rfl rfl)
theorem u_ac_s : Cond.static arraycopyName ∈ UW := (uw_2 214 rfl rfl)
theorem u_ac_i : Cond.initialized "java/lang/System" ∈ UW := (uw_1 25 rfl rfl)
theorem u_arr_int : Cond.arrayClass (newarray.typeOf .int) ∈ UW := (uw_1 54 rfl rfl)
theorem u_arr_long : Cond.arrayClass (newarray.typeOf .long) ∈ UW := (uw_1 100 rfl rfl)
theorem u_oi_i : Cond.instanceMethod Lib.objectInit ∈ UW := (uw_1 34 rfl rfl)
theorem u_oi_c : Cond.code Lib.objectInit ⟨#[0xb1]⟩ 1 none ∈ UW := (uw_1 35 rfl rfl)
section GR
variable {p : Program} {l : Launch} {e : Env} {R : Room} {s : State} {m : MethodId} {args : Array Value} {below : List Frame} {meth : Method} {c : Code} {H : Heap} {locs : List Loc} {cells slots : Nat} {Q : State → Prop}
variable {cc : ByteArray} {pc : Nat} {ls : Array Slot} {rest : List Value} {E : EE} {A : Nat → Prop} {h : Hp} {own : String} {nL DD : Nat}
/-- no cell came -/
def Sm (h h' : Hp) : Prop := hK h' = hK h ∧ hX h' = hX h ∧ hU h' = hU h ∧ hC h' = hC h ∧ hZ h' = hZ h
def rmm (D mc ms : Nat) : Room := { frames := D, cells := mc, slots := ms, locals := 64 * D }
/-- what a body stands on, all along -/
def Cx (p : Program) (E : EE) (A : Nat → Prop) (DD : Nat) (R : Room) (s : State) (m : MethodId) (args : Array Value) (c : Code) (cc : ByteArray) (own : String) (nL : Nat) : Prop :=
  p.tables.exec = Jvm.exec ∧ c.code = cc ∧ (∀ w ∈ UW, w.before args s = true) ∧ s.vm.findClass own = some m.cls ∧ va_K (EG E) vwCl (tysE E) s ∧ c.maxLocals = nL ∧ (DD ≤ R.frames ∧ 64 * DD ≤ R.locals) ∧ Kon E A s ∧ (∀ q : Nat, s.heap.size ≤ q → A q)
/-- a field by its entry: class, place, kind -/
def FO (own : String) (idx ci k t : Nat) : Prop := ∃ (C : String) (T : u_T) (N : Nat), vwCl[ci]? = some (C, T, N) ∧ k < N ∧ ci ≠ 0 ∧ ci < 100 ∧ (FT ci)[k]? = some t ∧ (∀ w ∈ u_ws C T N, w ∈ UW) ∧ Cond.fieldLink own idx (T k).1 (T k).2.1 (T k).2.2.1 ∈ UW
theorem dom_ne {a ci : Nat} (h0 : hK h 0 = 0) (hk : hK h a = ci) (hc : ci ≠ 0) : a ≠ 0 := fun q => hc (by rw [← hk, q]; exact h0)
theorem g_get (X : Cx p E A DD R s m args c cc own nL) (S : St E A s h H locs) {ci k t index a : Nat} (F : FO own index ci k t) (hk : hK h a = ci) (hdg : decode cc pc = .ok (.getfield index, 3))
    (kk : W p l e R s m args below meth c H locs cells slots Q (F0 m (pc + 3) ls (vl E h a k t :: rest))) : W p l e R s m args below meth c H locs cells slots Q (F0 m pc ls (rv a :: rest)) := by
  obtain ⟨hx, hb, hu, hown, hK9, -⟩ := X
  obtain ⟨C, T, N, hc, hkN, hc0, hc1, hft, hin, hlk⟩ := F
  obtain ⟨⟨h0, L, hL, hP, hD⟩, hS⟩ := S
  rw [rv_ref (dom_ne h0 hk hc0)]
  obtain ⟨q0, hq⟩ := va_pl_get (X := []) (f := cellOf E h) ((hL a).2 (by rw [hk]; exact hc0))
  rw [cellOf_obj hk hc1] at hq
  exact va_get (Ts := UW) hx hb hu hin hown hK9 hP q0 hq hc k hkN (hu _ hlk) (fun _ h9 => h9) (by rw [List.getElem?_mapIdx, hft]; rfl) hdg kk
theorem g_gI {β : Type} {f : Int32 → Option β} {r : β} (X : Cx p E A DD R s m args c cc own nL) (S : St E A s h H locs) {ci k t index a : Nat} (F : FO own index ci k t) (ht : vl E h a k t = .int (hI h a k)) (hdg : decode cc pc = .ok (.getfield index, 3)) (hf : ob (gI ci a k h) f = some r)
    (kk : ∀ v : Int32, f v = some r → W p l e R s m args below meth c H locs cells slots Q (F0 m (pc + 3) ls (.int v :: rest))) : W p l e R s m args below meth c H locs cells slots Q (F0 m pc ls (rv a :: rest)) := by
  obtain ⟨v, h1, h2⟩ := ob_some hf
  obtain ⟨hk, hv⟩ := gI_some h1
  refine g_get X S F hk hdg ?_
  rw [ht, hv]
  exact kk v h2
theorem g_gR {β : Type} {f : Nat → Option β} {r : β} (X : Cx p E A DD R s m args c cc own nL) (S : St E A s h H locs) {ci k index a : Nat} (F : FO own index ci k 1) (hdg : decode cc pc = .ok (.getfield index, 3)) (hf : ob (gR ci a k h) f = some r)
    (kk : ∀ v : Nat, f v = some r → W p l e R s m args below meth c H locs cells slots Q (F0 m (pc + 3) ls (rv v :: rest))) : W p l e R s m args below meth c H locs cells slots Q (F0 m pc ls (rv a :: rest)) := by
  obtain ⟨v, h1, h2⟩ := ob_some hf
  obtain ⟨hk, hv⟩ := gR_some h1
  refine g_get X S F hk hdg ?_
  rw [show vl E h a k 1 = rv (hR h a k) from rfl, hv]
  exact kk v h2
theorem g_gW {β : Type} {f : Nat → Option β} {r : β} (X : Cx p E A DD R s m args c cc own nL) (S : St E A s h H locs) {ci k index a : Nat} (F : FO own index ci k 2) (hdg : decode cc pc = .ok (.getfield index, 3)) (hf : ob (gR ci a k h) f = some r)
    (kk : ∀ v : Nat, f v = some r → W p l e R s m args below meth c H locs cells slots Q (F0 m (pc + 3) ls (wv E v :: rest))) : W p l e R s m args below meth c H locs cells slots Q (F0 m pc ls (rv a :: rest)) := by
  obtain ⟨v, h1, h2⟩ := ob_some hf
  obtain ⟨hk, hv⟩ := gR_some h1
  refine g_get X S F hk hdg ?_
  rw [show vl E h a k 2 = wv E (hR h a k) from rfl, hv]
  exact kk v h2
theorem g_gS {β : Type} {f : Nat → Option β} {r : β} (X : Cx p E A DD R s m args c cc own nL) (S : St E A s h H locs) {ci k index a : Nat} (F : FO own index ci k 3) (hdg : decode cc pc = .ok (.getfield index, 3)) (hf : ob (gR ci a k h) f = some r)
    (kk : ∀ v : Nat, f v = some r → W p l e R s m args below meth c H locs cells slots Q (F0 m (pc + 3) ls (sv E v :: rest))) : W p l e R s m args below meth c H locs cells slots Q (F0 m pc ls (rv a :: rest)) := by
  obtain ⟨v, h1, h2⟩ := ob_some hf
  obtain ⟨hk, hv⟩ := gR_some h1
  refine g_get X S F hk hdg ?_
  rw [show vl E h a k 3 = sv E (hR h a k) from rfl, hv]
  exact kk v h2
/-- a field that is written: fin tells a final one in its constructor -/
def FP (own : String) (idx ci k t : Nat) (ty : FieldType) (fin : Bool) : Prop := ∃ (C : String) (T : u_T) (N : Nat) (tf : Nat → FieldType), vwCl[ci]? = some (C, T, N) ∧ k < N ∧ ci ≠ 0 ∧ ci < 100 ∧ (FT ci)[k]? = some t ∧ (∀ w ∈ u_ws C T N, w ∈ UW) ∧ Cond.fieldLink own idx (T k).1 (T k).2.1 (T k).2.2.1 ∈ UW ∧ (∀ k, k < N → parseFieldDescriptor (T k).2.2.1 = some (tf k)) ∧ (∀ a, a < N → ∀ b, b < N → a ≠ b → (T a).2.1 ≠ (T b).2.1) ∧ tf k = ty ∧ (T k).2.2.2 = fin ∧ (fin = false ∨ (T k).1 = own)
theorem g_put (X : Cx p E A DD R s m args c cc own nL) (S : St E A s h H locs) {ci k t index a : Nat} {ty : FieldType} {fin : Bool} {v : Value} {h' : Hp} (F : FP own index ci k t ty fin) (hin2 : fin = false ∨ meth.name = "<init>") (hk : hK h a = ci) (hdg : decode cc pc = .ok (.putfield index, 3)) (hn : narrow ty v = v) (hfit : fits ty v = true)
    (e1 : hK h' = hK h) (e2 : vl E h' a k t = v) (e3 : ∀ j u, j ≠ k → vl E h' a j u = vl E h a j u) (e4 : ∀ b, b ≠ a → cellOf E h' b = cellOf E h b)
    (kk : ∀ (H1 : Heap) (locs1 : List Loc), St E A s h' H1 locs1 → W p l e R s m args below meth c H1 locs1 cells slots Q (F0 m (pc + 3) ls rest)) : W p l e R s m args below meth c H locs cells slots Q (F0 m pc ls (v :: rv a :: rest)) := by
  obtain ⟨hx, hb, hu, hown, hK9, -⟩ := X
  obtain ⟨C, T, N, tf, hc, hkN, hc0, hc1, hft, hin, hlk, hty, hnm, ht, hfin, hdecl⟩ := F
  obtain ⟨⟨h0, L, hL, hP, hD⟩, hS⟩ := S
  rw [rv_ref (dom_ne h0 hk hc0)]
  have haL := (hL a).2 (by rw [hk]; exact hc0)
  obtain ⟨q0, hq⟩ := va_pl_get (X := []) (f := cellOf E h) haL
  have hq2 := hq
  rw [cellOf_obj hk hc1] at hq
  have hd : parseFieldDescriptor (T k).2.2.1 = some ty := by rw [hty k hkN, ht]
  have hl : k < ((FT ci).mapIdx (fun k t => vl E h a k t)).length := by rw [List.length_mapIdx]; exact (List.getElem?_eq_some_iff.mp hft).1
  have key : cellOf E h' a = .inr (ci, ((FT ci).mapIdx (fun k t => vl E h a k t)).set k v) := by
    rw [cellOf_obj (by rw [e1]; exact hk) hc1, mapIdx_set hft e2 e3]
  cases fin with
  | false =>
    refine va_put (Ts := UW) hx hb hu hin tf hty hnm hown hK9 hP hD hS q0 hq hc k hkN (hu _ hlk) (fun _ h9 => h9) hfin hd hn hfit hl hdg (fun H1 locs1 hP1 hD1 hS1 => ?_)
    exact kk H1 locs1 ⟨Rp_set h0 hL haL hq2 hD hP1 hD1 e1 key e4, hS1⟩
  | true =>
    have hname : meth.name = "<init>" := hin2.resolve_left (by decide)
    refine va_putF (Ts := UW) hx hb hu hin tf hty hnm hown hK9 hP hD hS q0 hq hc k hkN (hu _ hlk) (fun _ h9 => h9) hfin hname (hdecl.resolve_left (by decide)) hd hn hfit hl hdg (fun H1 locs1 hP1 hD1 hS1 => ?_)
    exact kk H1 locs1 ⟨Rp_set h0 hL haL hq2 hD hP1 hD1 e1 key e4, hS1⟩
theorem vl_sI_ne {a k j u : Nat} {v : Int32} (hj : j ≠ k) : vl E (sI h a k v) a j u = vl E h a j u := by
  simp only [vl, hI, hR, sI, va_up, if_true, if_neg hj]
theorem vl_sR_ne {a k j u v : Nat} (hj : j ≠ k) : vl E (sR h a k v) a j u = vl E h a j u := by
  simp only [vl, hI, hR, sR, va_up, if_true, if_neg hj]
theorem cell_sI {a k b : Nat} {v : Int32} (hb : b ≠ a) : cellOf E (sI h a k v) b = cellOf E h b := cellOf_eq rfl (va_up_ne _ _ hb) rfl rfl rfl
theorem cell_sR {a k b : Nat} {v : Nat} (hb : b ≠ a) : cellOf E (sR h a k v) b = cellOf E h b := cellOf_eq rfl rfl (va_up_ne _ _ hb) rfl rfl
theorem cell_sL {a k b : Nat} {v : Int64} (hb : b ≠ a) : cellOf E (sL h a k v) b = cellOf E h b := cellOf_eq rfl rfl rfl (va_up_ne _ _ hb) rfl
theorem cell_sA {a b : Nat} {f : Nat → Int32} (hb : b ≠ a) : cellOf E (sA h a f) b = cellOf E h b := cellOf_eq rfl (va_up_ne _ _ hb) rfl rfl rfl
theorem hI_sI {a k : Nat} {v : Int32} : hI (sI h a k v) a = va_up (hI h a) k v := va_up_self _ _ _
theorem hR_sR {a k : Nat} {v : Nat} : hR (sR h a k v) a = va_up (hR h a) k v := va_up_self _ _ _
theorem hL_sL {a k : Nat} {v : Int64} : hL (sL h a k v) a = va_up (hL h a) k v := va_up_self _ _ _
theorem hI_sA {a : Nat} {f : Nat → Int32} : hI (sA h a f) a = f := va_up_self _ _ _
theorem g_pI {β : Type} {f : Hp → Option β} {r : β} (X : Cx p E A DD R s m args c cc own nL) (S : St E A s h H locs) {ci k index a : Nat} {v : Int32} {fin : Bool} (F : FP own index ci k 0 .int fin) (hin2 : fin = false ∨ meth.name = "<init>") (hdg : decode cc pc = .ok (.putfield index, 3)) (hf : ob (pI ci a k v h) f = some r)
    (kk : ∀ (h' : Hp) (H1 : Heap) (locs1 : List Loc), Sm h h' → f h' = some r → St E A s h' H1 locs1 → W p l e R s m args below meth c H1 locs1 cells slots Q (F0 m (pc + 3) ls rest)) : W p l e R s m args below meth c H locs cells slots Q (F0 m pc ls (.int v :: rv a :: rest)) := by
  obtain ⟨h', h1, h2⟩ := ob_some hf
  obtain ⟨hk, rfl⟩ := if_some h1
  exact g_put (h' := sI h a k v) X S F hin2 hk hdg rfl rfl rfl (by show Value.int _ = _; rw [hI_sI, va_up_self]) (fun j u hj => vl_sI_ne hj) (fun b hb => cell_sI hb) (fun H1 locs1 S1 => kk _ H1 locs1 (by exact ⟨rfl, rfl, rfl, rfl, rfl⟩) h2 S1)
theorem g_pZ {β : Type} {f : Hp → Option β} {r : β} (X : Cx p E A DD R s m args c cc own nL) (S : St E A s h H locs) {ci k index a : Nat} {v : Int32} {fin : Bool} (F : FP own index ci k 4 .boolean fin) (hin2 : fin = false ∨ meth.name = "<init>") (hdg : decode cc pc = .ok (.putfield index, 3)) (hf : ob (pZ ci a k v h) f = some r)
    (kk : ∀ (h' : Hp) (H1 : Heap) (locs1 : List Loc), Sm h h' → f h' = some r → St E A s h' H1 locs1 → W p l e R s m args below meth c H1 locs1 cells slots Q (F0 m (pc + 3) ls rest)) : W p l e R s m args below meth c H locs cells slots Q (F0 m pc ls (.int v :: rv a :: rest)) := by
  obtain ⟨h', h1, h2⟩ := ob_some hf
  obtain ⟨⟨hk, hz⟩, rfl⟩ := if_some h1
  exact g_put (h' := sI h a k v) X S F hin2 hk hdg (by rcases hz with rfl | rfl <;> rfl) (by rcases hz with rfl | rfl <;> rfl) rfl (by show Value.int _ = _; rw [hI_sI, va_up_self]) (fun j u hj => vl_sI_ne hj) (fun b hb => cell_sI hb) (fun H1 locs1 S1 => kk _ H1 locs1 (by exact ⟨rfl, rfl, rfl, rfl, rfl⟩) h2 S1)
def isR (ty : FieldType) : Prop := (∃ n, ty = .object n) ∨ ∃ t, ty = .array t
theorem nar_rf {ty : FieldType} (h : isR ty) (r : Option Nat) : narrow ty (va_rf r) = va_rf r ∧ fits ty (va_rf r) = true := by
  rcases h with ⟨n, rfl⟩ | ⟨t, rfl⟩ <;> cases r <;> exact ⟨rfl, rfl⟩
theorem g_pR {β : Type} {f : Hp → Option β} {r : β} (X : Cx p E A DD R s m args c cc own nL) (S : St E A s h H locs) {ci k index a v : Nat} {ty : FieldType} {fin : Bool} (F : FP own index ci k 1 ty fin) (hty : isR ty) (hin2 : fin = false ∨ meth.name = "<init>") (hdg : decode cc pc = .ok (.putfield index, 3)) (hf : ob (pR ci a k v h) f = some r)
    (kk : ∀ (h' : Hp) (H1 : Heap) (locs1 : List Loc), Sm h h' → f h' = some r → St E A s h' H1 locs1 → W p l e R s m args below meth c H1 locs1 cells slots Q (F0 m (pc + 3) ls rest)) : W p l e R s m args below meth c H locs cells slots Q (F0 m pc ls (rv v :: rv a :: rest)) := by
  obtain ⟨h', h1, h2⟩ := ob_some hf
  obtain ⟨hk, rfl⟩ := if_some h1
  exact g_put (h' := sR h a k v) X S F hin2 hk hdg (nar_rf hty _).1 (nar_rf hty _).2 rfl (by show rv _ = _; rw [hR_sR, va_up_self]) (fun j u hj => vl_sR_ne hj) (fun b hb => cell_sR hb) (fun H1 locs1 S1 => kk _ H1 locs1 (by exact ⟨rfl, rfl, rfl, rfl, rfl⟩) h2 S1)
theorem g_pW {β : Type} {f : Hp → Option β} {r : β} (X : Cx p E A DD R s m args c cc own nL) (S : St E A s h H locs) {ci k index a v : Nat} {ty : FieldType} {fin : Bool} (F : FP own index ci k 2 ty fin) (hty : isR ty) (hin2 : fin = false ∨ meth.name = "<init>") (hdg : decode cc pc = .ok (.putfield index, 3)) (hf : ob (pR ci a k v h) f = some r)
    (kk : ∀ (h' : Hp) (H1 : Heap) (locs1 : List Loc), Sm h h' → f h' = some r → St E A s h' H1 locs1 → W p l e R s m args below meth c H1 locs1 cells slots Q (F0 m (pc + 3) ls rest)) : W p l e R s m args below meth c H locs cells slots Q (F0 m pc ls (wv E v :: rv a :: rest)) := by
  obtain ⟨h', h1, h2⟩ := ob_some hf
  obtain ⟨hk, rfl⟩ := if_some h1
  exact g_put (h' := sR h a k v) X S F hin2 hk hdg (nar_rf hty _).1 (nar_rf hty _).2 rfl (by show wv E _ = _; rw [hR_sR, va_up_self]) (fun j u hj => vl_sR_ne hj) (fun b hb => cell_sR hb) (fun H1 locs1 S1 => kk _ H1 locs1 (by exact ⟨rfl, rfl, rfl, rfl, rfl⟩) h2 S1)
theorem ty0 {E : EE} : (tysE E)[0]? = some (E.2.2.1 0, .int) := rfl
theorem ty1 {E : EE} : (tysE E)[1]? = some (E.2.2.1 1, .long) := rfl
theorem ty4 {E : EE} : (tysE E)[4]? = some (E.2.2.1 4, .object "java/lang/String") := rfl
def rcls (c : Nat) : String := if c = 103 then "NibbleEngine$Row" else "NibbleEngine$Instruction"
theorem tyr {E : EE} {c : Nat} (h : c = 103 ∨ c = 104) : (tysE E)[c - 101]? = some (E.2.2.1 (c - 101), .object (rcls c)) := by
  rcases h with rfl | rfl <;> rfl
theorem g_aI {β : Type} {f : Int32 → Option β} {r : β} (X : Cx p E A DD R s m args c cc own nL) (S : St E A s h H locs) {a : Nat} {i : Int32} (hdg : decode cc pc = .ok (.iaload, 1)) (hf : ob (aI a i h) f = some r)
    (kk : ∀ v : Int32, f v = some r → W p l e R s m args below meth c H locs cells slots Q (F0 m (pc + 1) ls (.int v :: rest))) : W p l e R s m args below meth c H locs cells slots Q (F0 m pc ls (.int i :: rv a :: rest)) := by
  obtain ⟨hx, hb, hu, hown, hK9, -⟩ := X
  obtain ⟨v, h1, h2⟩ := ob_some hf
  obtain ⟨⟨hk, hin⟩, rfl⟩ := if_some h1
  obtain ⟨⟨h0, L, hL, hP, hD⟩, hS⟩ := S
  rw [rv_ref (dom_ne h0 hk (by decide))]
  obtain ⟨q0, hq⟩ := va_pl_get (X := []) (f := cellOf E h) ((hL a).2 (by rw [hk]; decide))
  rw [cellOf_int hk] at hq
  exact va_iald hx hb hK9 hP q0 0 hq ty0 hin hdg (kk _ h2)
theorem g_aL {β : Type} {f : Int64 → Option β} {r : β} (X : Cx p E A DD R s m args c cc own nL) (S : St E A s h H locs) {a : Nat} {i : Int32} (hdg : decode cc pc = .ok (.laload, 1)) (hf : ob (aL a i h) f = some r)
    (kk : ∀ v : Int64, f v = some r → W p l e R s m args below meth c H locs cells slots Q (F0 m (pc + 1) ls (.long v :: rest))) : W p l e R s m args below meth c H locs cells slots Q (F0 m pc ls (.int i :: rv a :: rest)) := by
  obtain ⟨hx, hb, hu, hown, hK9, -⟩ := X
  obtain ⟨v, h1, h2⟩ := ob_some hf
  obtain ⟨⟨hk, hin⟩, rfl⟩ := if_some h1
  obtain ⟨⟨h0, L, hL, hP, hD⟩, hS⟩ := S
  rw [rv_ref (dom_ne h0 hk (by decide))]
  obtain ⟨q0, hq⟩ := va_pl_get (X := []) (f := cellOf E h) ((hL a).2 (by rw [hk]; decide))
  rw [cellOf_long hk] at hq
  exact va_lald hx hb hK9 hP q0 1 hq ty1 hin hdg (kk _ h2)
theorem g_aR {β : Type} {f : Nat → Option β} {r : β} (X : Cx p E A DD R s m args c cc own nL) (S : St E A s h H locs) {ci a : Nat} {i : Int32} (hc : ci = 103 ∨ ci = 104) (hdg : decode cc pc = .ok (.aaload, 1)) (hf : ob (aR ci a i h) f = some r)
    (kk : ∀ v : Nat, f v = some r → W p l e R s m args below meth c H locs cells slots Q (F0 m (pc + 1) ls (rv v :: rest))) : W p l e R s m args below meth c H locs cells slots Q (F0 m pc ls (.int i :: rv a :: rest)) := by
  obtain ⟨hx, hb, hu, hown, hK9, -⟩ := X
  obtain ⟨v, h1, h2⟩ := ob_some hf
  obtain ⟨⟨hk, hin⟩, rfl⟩ := if_some h1
  obtain ⟨⟨h0, L, hL, hP, hD⟩, hS⟩ := S
  rw [rv_ref (dom_ne h0 hk (by omega))]
  obtain ⟨q0, hq⟩ := va_pl_get (X := []) (f := cellOf E h) ((hL a).2 (by rw [hk]; omega))
  rw [cellOf_ref hk hc] at hq
  exact va_aldq hx hb hK9 hP q0 (ci - 101) hq (tyr hc) hin hdg (kk _ h2)
theorem g_aS {β : Type} {f : Nat → Option β} {r : β} (X : Cx p E A DD R s m args c cc own nL) (S : St E A s h H locs) {a : Nat} {i : Int32} (hdg : decode cc pc = .ok (.aaload, 1)) (hf : ob (aR 105 a i h) f = some r)
    (kk : ∀ v : Nat, f v = some r → W p l e R s m args below meth c H locs cells slots Q (F0 m (pc + 1) ls (sv E v :: rest))) : W p l e R s m args below meth c H locs cells slots Q (F0 m pc ls (.int i :: rv a :: rest)) := by
  obtain ⟨hx, hb, hu, hown, hK9, -⟩ := X
  obtain ⟨v, h1, h2⟩ := ob_some hf
  obtain ⟨⟨hk, hin⟩, rfl⟩ := if_some h1
  obtain ⟨⟨h0, L, hL, hP, hD⟩, hS⟩ := S
  rw [rv_ref (dom_ne h0 hk (by omega))]
  obtain ⟨q0, hq⟩ := va_pl_get (X := []) (f := cellOf E h) ((hL a).2 (by rw [hk]; omega))
  rw [cellOf_str hk] at hq
  exact va_aldq hx hb hK9 hP q0 4 hq ty4 hin hdg (kk _ h2)
theorem g_qI {β : Type} {f : Hp → Option β} {r : β} (X : Cx p E A DD R s m args c cc own nL) (S : St E A s h H locs) {a : Nat} {i v : Int32} (hdg : decode cc pc = .ok (.iastore, 1)) (hf : ob (qI a i v h) f = some r)
    (kk : ∀ (h' : Hp) (H1 : Heap) (locs1 : List Loc), Sm h h' → f h' = some r → St E A s h' H1 locs1 → W p l e R s m args below meth c H1 locs1 cells slots Q (F0 m (pc + 1) ls rest)) : W p l e R s m args below meth c H locs cells slots Q (F0 m pc ls (.int v :: .int i :: rv a :: rest)) := by
  obtain ⟨hx, hb, hu, hown, hK9, -⟩ := X
  obtain ⟨h', h1, h2⟩ := ob_some hf
  obtain ⟨⟨hk, hin⟩, rfl⟩ := if_some h1
  obtain ⟨⟨h0, L, hL, hP, hD⟩, hS⟩ := S
  rw [rv_ref (dom_ne h0 hk (by omega))]
  have haL := (hL a).2 (by rw [hk]; omega)
  obtain ⟨q0, hq⟩ := va_pl_get (X := []) (f := cellOf E h) haL
  have hq2 := hq
  rw [cellOf_int hk] at hq
  refine va_iast hx hb hK9 hP hD hS q0 0 hq ty0 hin hdg (fun H1 locs1 hP1 hD1 hS1 => ?_)
  exact kk _ H1 locs1 (by exact ⟨rfl, rfl, rfl, rfl, rfl⟩) h2 ⟨Rp_set h0 hL haL hq2 hD hP1 hD1 rfl (by rw [cellOf_int (show hK (sI h a i.toNatClampNeg v) a = 101 from hk), hI_sI]; rfl) (fun b hb => cell_sI hb), hS1⟩
theorem g_qL {β : Type} {f : Hp → Option β} {r : β} (X : Cx p E A DD R s m args c cc own nL) (S : St E A s h H locs) {a : Nat} {i : Int32} {v : Int64} (hdg : decode cc pc = .ok (.lastore, 1)) (hf : ob (qL a i v h) f = some r)
    (kk : ∀ (h' : Hp) (H1 : Heap) (locs1 : List Loc), Sm h h' → f h' = some r → St E A s h' H1 locs1 → W p l e R s m args below meth c H1 locs1 cells slots Q (F0 m (pc + 1) ls rest)) : W p l e R s m args below meth c H locs cells slots Q (F0 m pc ls (.long v :: .int i :: rv a :: rest)) := by
  obtain ⟨hx, hb, hu, hown, hK9, -⟩ := X
  obtain ⟨h', h1, h2⟩ := ob_some hf
  obtain ⟨⟨hk, hin⟩, rfl⟩ := if_some h1
  obtain ⟨⟨h0, L, hL, hP, hD⟩, hS⟩ := S
  rw [rv_ref (dom_ne h0 hk (by omega))]
  have haL := (hL a).2 (by rw [hk]; omega)
  obtain ⟨q0, hq⟩ := va_pl_get (X := []) (f := cellOf E h) haL
  have hq2 := hq
  rw [cellOf_long hk] at hq
  refine va_last hx hb hK9 hP hD hS q0 1 hq ty1 hin hdg (fun H1 locs1 hP1 hD1 hS1 => ?_)
  exact kk _ H1 locs1 (by exact ⟨rfl, rfl, rfl, rfl, rfl⟩) h2 ⟨Rp_set h0 hL haL hq2 hD hP1 hD1 rfl (by rw [cellOf_long (show hK (sL h a i.toNatClampNeg v) a = 102 from hk), hL_sL]; rfl) (fun b hb => cell_sL hb), hS1⟩
theorem g_qR {β : Type} {f : Hp → Option β} {r : β} (X : Cx p E A DD R s m args c cc own nL) (S : St E A s h H locs) {ci d a v : Nat} {i : Int32} {T : u_T} {N : Nat} (hc : ci = 103 ∨ ci = 104) (hd : vwCl[d]? = some (rcls ci, T, N)) (hd0 : d ≠ 0) (hd1 : d < 100) (hdg : decode cc pc = .ok (.aastore, 1)) (hf : ob (qR ci d a i v h) f = some r)
    (kk : ∀ (h' : Hp) (H1 : Heap) (locs1 : List Loc), Sm h h' → f h' = some r → St E A s h' H1 locs1 → W p l e R s m args below meth c H1 locs1 cells slots Q (F0 m (pc + 1) ls rest)) : W p l e R s m args below meth c H locs cells slots Q (F0 m pc ls (rv v :: .int i :: rv a :: rest)) := by
  obtain ⟨hx, hb, hu, hown, hK9, -⟩ := X
  obtain ⟨h', h1, h2⟩ := ob_some hf
  obtain ⟨⟨hk, hkv, hin⟩, rfl⟩ := if_some h1
  obtain ⟨⟨h0, L, hL, hP, hD⟩, hS⟩ := S
  have hv0 := dom_ne h0 hkv hd0
  rw [rv_ref (dom_ne h0 hk (by omega)), rv_ref hv0]
  have haL := (hL a).2 (by rw [hk]; omega)
  obtain ⟨q0, hq⟩ := va_pl_get (X := []) (f := cellOf E h) haL
  have hq2 := hq
  rw [cellOf_ref hk hc] at hq
  obtain ⟨q1, hq1⟩ := va_pl_get (X := []) (f := cellOf E h) ((hL v).2 (by rw [hkv]; exact hd0))
  rw [cellOf_obj hkv hd1] at hq1
  refine va_astq (r := (rcls ci, T, N)) hx hb hK9 hP hD hS q0 (ci - 101) q1 d hq (tyr hc) hq1 hd hin hdg (fun H1 locs1 hP1 hD1 hS1 => ?_)
  exact kk _ H1 locs1 (by exact ⟨rfl, rfl, rfl, rfl, rfl⟩) h2 ⟨Rp_set h0 hL haL hq2 hD hP1 hD1 rfl (by rw [cellOf_ref (show hK (sR h a i.toNatClampNeg v) a = ci from hk) hc, hR_sR, or_eq _ _ _ hv0]; rfl) (fun b hb => cell_sR hb), hS1⟩
theorem g_aN {β : Type} {f : Int32 → Option β} {r : β} (X : Cx p E A DD R s m args c cc own nL) (S : St E A s h H locs) {a ci : Nat} (hci : 101 ≤ ci ∧ ci ≤ 105) (hdg : decode cc pc = .ok (.arraylength, 1)) (hf : ob (aN ci a h) f = some r)
    (kk : ∀ v : Int32, f v = some r → W p l e R s m args below meth c H locs cells slots Q (F0 m (pc + 1) ls (.int v :: rest))) : W p l e R s m args below meth c H locs cells slots Q (F0 m pc ls (rv a :: rest)) := by
  obtain ⟨hx, hb, hu, hown, hK9, -⟩ := X
  obtain ⟨v, h1, h2⟩ := ob_some hf
  obtain ⟨hka, rfl⟩ := if_some h1
  obtain ⟨⟨h0, L, hL, hP, hD⟩, hS⟩ := S
  rw [rv_ref (dom_ne h0 hka (by omega))]
  obtain ⟨q0, hq⟩ := va_pl_get (X := []) (f := cellOf E h) ((hL a).2 (by rw [hka]; omega))
  rcases (show ci = 101 ∨ ci = 102 ∨ ci = 105 ∨ (ci = 103 ∨ ci = 104) by omega) with hc | hc | hc | hc
  · subst hc; rw [cellOf_int hka] at hq; exact va_alen hx hb hK9 hP q0 0 hq ty0 rfl hdg (kk _ h2)
  · subst hc; rw [cellOf_long hka] at hq; exact va_alen hx hb hK9 hP q0 1 hq ty1 rfl hdg (kk _ h2)
  · subst hc; rw [cellOf_str hka] at hq; exact va_alen hx hb hK9 hP q0 4 hq ty4 rfl hdg (kk _ h2)
  · rw [cellOf_ref hka hc] at hq; exact va_alen hx hb hK9 hP q0 (ci - 101) hq (tyr hc) rfl hdg (kk _ h2)
theorem g_aload_n (X : Cx p E A DD R s m args c cc own nL) {k : Fin 4} {i : Nat} {v : Value} (hv : v = .null ∨ ∃ a, v = .ref a) (hdg : decode cc pc = .ok (.aload_n k, 1)) (hi : (k : Nat) = i) (hl : ls[i]? = some (.val v))
    (kk : W p l e R s m args below meth c H locs cells slots Q (F0 m (pc + 1) ls (v :: rest))) : W p l e R s m args below meth c H locs cells slots Q (F0 m pc ls rest) := by
  rcases hv with rfl | ⟨a, rfl⟩
  · exact lv_aload_nN X.1 X.2.1 hdg hi hl kk
  · exact lv_aload_n X.1 X.2.1 hdg hi hl kk
theorem g_aload (X : Cx p E A DD R s m args c cc own nL) {i : Nat} {v : Value} (hv : v = .null ∨ ∃ a, v = .ref a) (hdg : decode cc pc = .ok (.aload i, 2)) (hl : ls[i]? = some (.val v))
    (kk : W p l e R s m args below meth c H locs cells slots Q (F0 m (pc + 2) ls (v :: rest))) : W p l e R s m args below meth c H locs cells slots Q (F0 m pc ls rest) := by
  rcases hv with rfl | ⟨a, rfl⟩
  · exact lv_aloadN X.1 X.2.1 hdg hl kk
  · exact lv_aload X.1 X.2.1 hdg hl kk
theorem g_astore_n (X : Cx p E A DD R s m args c cc own nL) {k : Fin 4} {i : Nat} {v : Value} {lv lv' : List (Nat × Value)} (hv : v = .null ∨ ∃ a, v = .ref a) (hdg : decode cc pc = .ok (.astore_n k, 1)) (hi : (k : Nat) = i) (h : lv_has ls nL lv) (hn : i < nL) (hl : (i, v) :: lv.filter (fun q => !(q.1 == i) && !(q.1 + 1 == i && q.2.category == 2)) = lv')
    (kk : ∀ ls' : Array Slot, lv_has ls' nL lv' → W p l e R s m args below meth c H locs cells slots Q (F0 m (pc + 1) ls' rest)) : W p l e R s m args below meth c H locs cells slots Q (F0 m pc ls (v :: rest)) := by
  rcases hv with rfl | ⟨a, rfl⟩
  · exact lv_astore_nN X.1 X.2.1 hdg hi h hn hl kk
  · exact lv_astore_n X.1 X.2.1 hdg hi h hn hl kk
theorem g_astore (X : Cx p E A DD R s m args c cc own nL) {i : Nat} {v : Value} {lv lv' : List (Nat × Value)} (hv : v = .null ∨ ∃ a, v = .ref a) (hdg : decode cc pc = .ok (.astore i, 2)) (h : lv_has ls nL lv) (hn : i < nL) (hl : (i, v) :: lv.filter (fun q => !(q.1 == i) && !(q.1 + 1 == i && q.2.category == 2)) = lv')
    (kk : ∀ ls' : Array Slot, lv_has ls' nL lv' → W p l e R s m args below meth c H locs cells slots Q (F0 m (pc + 2) ls' rest)) : W p l e R s m args below meth c H locs cells slots Q (F0 m pc ls (v :: rest)) := by
  rcases hv with rfl | ⟨a, rfl⟩
  · exact lv_astoreN X.1 X.2.1 hdg h hn hl kk
  · exact lv_astore X.1 X.2.1 hdg h hn hl kk
theorem g_ifnull (X : Cx p E A DD R s m args c cc own nL) {x tgt : Nat} {off : Int} (hdg : decode cc pc = .ok (.ifnull off, 3)) (ht : (pc : Int) + off = (tgt : Int)) (kt : x = 0 → W p l e R s m args below meth c H locs cells slots Q (F0 m tgt ls rest)) (kf : ¬ x = 0 → W p l e R s m args below meth c H locs cells slots Q (F0 m (pc + 3) ls rest)) :
    W p l e R s m args below meth c H locs cells slots Q (F0 m pc ls (rv x :: rest)) := by
  by_cases hx : x = 0
  · subst hx; exact lv_ifnullN X.1 X.2.1 hdg ht (kt rfl)
  · rw [rv_ref hx]; exact lv_ifnull X.1 X.2.1 hdg (kf hx)
theorem g_ifnonnull (X : Cx p E A DD R s m args c cc own nL) {x tgt : Nat} {off : Int} (hdg : decode cc pc = .ok (.ifnonnull off, 3)) (ht : (pc : Int) + off = (tgt : Int)) (kt : ¬ x = 0 → W p l e R s m args below meth c H locs cells slots Q (F0 m tgt ls rest)) (kf : x = 0 → W p l e R s m args below meth c H locs cells slots Q (F0 m (pc + 3) ls rest)) :
    W p l e R s m args below meth c H locs cells slots Q (F0 m pc ls (rv x :: rest)) := by
  by_cases hx : x = 0
  · subst hx; exact lv_ifnonnullN X.1 X.2.1 hdg (kf rfl)
  · rw [rv_ref hx]; exact lv_ifnonnull X.1 X.2.1 hdg ht (kt hx)
theorem wv_ref (E : EE) {x : Nat} (h : x ≠ 0) : wv E x = .ref (E.2.2.2.1 (x - 1)) := by simp [wv, oF, h, va_rf]
theorem wv_0 (E : EE) : wv E 0 = .null := rfl
theorem g_ifnullW (X : Cx p E A DD R s m args c cc own nL) {x tgt : Nat} {off : Int} (hdg : decode cc pc = .ok (.ifnull off, 3)) (ht : (pc : Int) + off = (tgt : Int)) (kt : x = 0 → W p l e R s m args below meth c H locs cells slots Q (F0 m tgt ls rest)) (kf : ¬ x = 0 → W p l e R s m args below meth c H locs cells slots Q (F0 m (pc + 3) ls rest)) :
    W p l e R s m args below meth c H locs cells slots Q (F0 m pc ls (wv E x :: rest)) := by
  by_cases hx : x = 0
  · subst hx; exact lv_ifnullN X.1 X.2.1 hdg ht (kt rfl)
  · rw [wv_ref E hx]; exact lv_ifnull X.1 X.2.1 hdg (kf hx)
theorem g_ifnonnullW (X : Cx p E A DD R s m args c cc own nL) {x tgt : Nat} {off : Int} (hdg : decode cc pc = .ok (.ifnonnull off, 3)) (ht : (pc : Int) + off = (tgt : Int)) (kt : ¬ x = 0 → W p l e R s m args below meth c H locs cells slots Q (F0 m tgt ls rest)) (kf : x = 0 → W p l e R s m args below meth c H locs cells slots Q (F0 m (pc + 3) ls rest)) :
    W p l e R s m args below meth c H locs cells slots Q (F0 m pc ls (wv E x :: rest)) := by
  by_cases hx : x = 0
  · subst hx; exact lv_ifnonnullN X.1 X.2.1 hdg (kf rfl)
  · rw [wv_ref E hx]; exact lv_ifnonnull X.1 X.2.1 hdg ht (kt hx)
def wsM (y : MethodName) (b : ByteArray) (maxL : Nat) (ret : Option FieldType) : List Cond := Cond.code y b maxL ret :: UW
def PcE (E : EE) (A : Nat → Prop) (h : Hp) (av : List Value) : Array Value → State → Prop := va_Pc av (fun U => Rp E A h U.heap ∧ va_K (EG E) vwCl (tysE E) U ∧ Kon E A U ∧ (∀ q : Nat, U.heap.size ≤ q → A q))
theorem blindE {av : List Value} : FrameBlind (PcE E A h av) := fun a U g mk q => by
  obtain ⟨e0, q1, q2, q3, q4⟩ := q
  exact ⟨e0, q1, va_K.moved (u := U) (U := U.calling g mk a) (Vm.Alike.refl U.vm) q2, Kon.moved (u := U) (U := U.calling g mk a) (State.WarmedH.refl U) (fun _ _ _ => rfl) q3, q4⟩
theorem met_of {y : MethodName} {b : ByteArray} {maxL D mc ms : Nat} {ret : Option FieldType} {av : List Value} {Qc : Array Value → State → Outcome → State → Prop} (hy : plainName y.cls = true) (hn : (lg_sl av).length ≤ maxL)
    (body : ∀ (p : Program) (e : Env) (s : State) (m : MethodId) (args : Array Value) (below : List Frame) (meth : Method) (c : Code) (ls : Array Slot), Cx p E A D (rmm D mc ms) s m args c b y.cls maxL → meth.sig.returnType = ret → meth.locks = false → meth.name = y.name → St E A s h s.heap [] → lv_has ls maxL (lv_args 0 av) →
      W p l e (rmm D mc ms) s m args below meth c s.heap [] 0 0 (MQ below Qc args s mc ms A) (F0 m 0 ls [])) : Met l y (wsM y b maxL ret) (rmm D mc ms) (PcE E A h av) Qc mc ms A := by
  refine Met.ofW (cc := b) (maxL := maxL) (ret := ret) hy rfl ?_
  intro p e s m args below meth c s₁ B hml hv
  obtain ⟨rfl, hR, hK9, hKo, hA⟩ := hv
  have hts := atoms_spec (ws := wsM y b maxL ret) B.pre
  rw [lg_entry_eq]
  exact body p e s m _ below meth c _ ⟨B.exec, B.bytes, fun w hw => hts w (List.mem_cons_of_mem _ hw), findClass_of_methodNamed B.named, hK9, hml, ⟨Nat.le_refl _, Nat.le_refl _⟩, hKo, hA⟩ B.returns B.notSynchronized (name_of_methodNamed B.named B.method).1 ⟨hR, va_S.rf⟩ (lv_entry av hn)
/-- a call's words -/
def CO (own : String) (index : Nat) (y : MethodName) (b : ByteArray) (maxL : Nat) (ret : Option FieldType) (n : Nat) : Prop := Cond.methodLink own index y ∈ UW ∧ Cond.code y b maxL ret ∈ UW ∧ Cond.initialized y.cls ∈ UW ∧ (y.cls ≠ "java/lang/invoke/MethodHandle" ∧ y.cls ≠ "java/lang/invoke/VarHandle") ∧ (parseMethodDescriptor y.desc).map (fun d => d.parameters.length) = some n ∧ maxL ≤ 45
def COV (own : String) (index : Nat) (y : MethodName) (b : ByteArray) (maxL : Nat) (ret : Option FieldType) (n ci : Nat) : Prop := CO own index y b maxL ret n ∧ Cond.instanceMethod y ∈ UW ∧ Cond.selects y.cls y y ∈ UW ∧ ∃ (T : u_T) (N : Nat), vwCl[ci]? = some (y.cls, T, N) ∧ ci ≠ 0 ∧ ci < 100
def COS (own : String) (index : Nat) (y : MethodName) (b : ByteArray) (maxL : Nat) (ret : Option FieldType) (n : Nat) : Prop := CO own index y b maxL ret n ∧ Cond.static y ∈ UW
def COI (own : String) (index : Nat) (y : MethodName) (b : ByteArray) (maxL : Nat) (n : Nat) : Prop := CO own index y b maxL none n ∧ Cond.instanceMethod y ∈ UW ∧ y.name = "<init>"
variable {y : MethodName} {b : ByteArray} {maxL n index D mc ms : Nat} {ret : Option FieldType} {Qc : Array Value → State → Outcome → State → Prop} {As st : List Value} {a ci : Nat}
theorem callb (X : Cx p E A DD R s m args c cc own nL) (O : CO own index y b maxL ret n) (hD : D + 1 ≤ DD) : CallB R s args own index y b maxL ret (wsM y b maxL ret) (rmm D mc ms) mc ms n := by
  obtain ⟨hx, hb, hu, hown, hK9, hml, hR, -⟩ := X
  obtain ⟨o1, o2, o3, o4, o5, o6⟩ := O
  refine ⟨rfl, rfl, Nat.le_trans hD hR.1, ?_, ?_, List.mem_cons_self, hu _ o2, hu _ o3, o4, ?_, hu _ o1⟩
  · show 8 + (maxL + 11) + 64 * D ≤ R.locals
    have := hR.2
    omega
  · intro w hw a' U hW
    rcases List.mem_cons.mp hw with rfl | hw
    · exact word_at hW (uw_good o2) (hu _ o2)
    · exact word_at hW (uw_good hw) (hu _ hw)
  · intro sig hsig
    rw [hsig] at o5
    exact (Option.some.inj o5).symm
theorem pre_ok (X : Cx p E A DD R s m args c cc own nL) (S : St E A s h H locs) (av : List Value) (U : State) (hU : U.heap = H) (hW : s.WarmedH U.vm) : PcE E A h av av.toArray U := by
  obtain ⟨hx, hb, hu, hown, hK9, hml, hR, hKo, hA⟩ := X
  refine ⟨rfl, by rw [hU]; exact S.1, va_K.moved hW.alike hK9, Kon.moved hW (fun q h1 h2 => by rw [hU]; exact S.2.2.1 q h1 h2) hKo, fun q hq => hA q (Nat.le_trans S.2.1 (by rw [← hU]; exact hq))⟩
theorem runV (X : Cx p E A DD R s m args c cc own nL) (S : St E A s h H locs) (O : COV own index y b maxL ret n ci) (hD : D + 1 ≤ DD) (hM : Met l y (wsM y b maxL ret) (rmm D mc ms) (PcE E A h (rv a :: As)) Qc mc ms A) (hk : hK h a = ci) (hn : As.length = n) (hl : ls.size = nL) (hst : (rest.map fun v => v.category).sum ≤ 8) (hs : st = As.reverse ++ rv a :: rest) (hf : cells + mc ≤ R.cells ∧ slots + ms ≤ R.slots)
    (hdg : decode cc pc = .ok (.invokevirtual index, 3)) : va_Run p l e R s m args below meth c H locs cells slots mc ms (F0 m pc ls st) rest (Qc (rv a :: As).toArray) A := by
  obtain ⟨o1, o2, o3, T, N, o4, o5, o6⟩ := O
  have cb := callb (mc := mc) (ms := ms) X o1 hD
  have hpre := pre_ok X S (rv a :: As)
  obtain ⟨hx, hb, hu, hown, hK9, hml, hR, hKo, hA⟩ := X
  obtain ⟨⟨h0, L, hL, hP, hD9⟩, hS⟩ := S
  have hra := rv_ref (dom_ne h0 hk o5)
  rw [hra] at hM hs hpre ⊢
  obtain ⟨q0, hq⟩ := va_pl_get (X := []) (f := cellOf E h) ((hL a).2 (by rw [hk]; exact o5))
  rw [cellOf_obj hk o6] at hq
  exact va_runV (C := y.cls) (ws := wsM y b maxL ret) (rm := rmm D mc ms) ⟨hx, hb, hml, hown, hu⟩ hM ⟨cb, hu _ o2, hu _ o3⟩ ⟨blindE, va_recv hK9 hP o4 hq, hpre⟩ rfl hn hl hs (lv_room hst) hdg hf
theorem runS (X : Cx p E A DD R s m args c cc own nL) (S : St E A s h H locs) (O : COS own index y b maxL ret n) (hD : D + 1 ≤ DD) (hM : Met l y (wsM y b maxL ret) (rmm D mc ms) (PcE E A h As) Qc mc ms A) (hn : As.length = n) (hl : ls.size = nL) (hst : (rest.map fun v => v.category).sum ≤ 8) (hs : st = As.reverse ++ rest) (hf : cells + mc ≤ R.cells ∧ slots + ms ≤ R.slots)
    (hdg : decode cc pc = .ok (.invokestatic index, 3)) : va_Run p l e R s m args below meth c H locs cells slots mc ms (F0 m pc ls st) rest (Qc As.toArray) A := by
  obtain ⟨o1, o2⟩ := O
  have cb := callb (mc := mc) (ms := ms) X o1 hD
  have hpre := pre_ok X S As
  obtain ⟨hx, hb, hu, hown, hK9, hml, hR, hKo, hA⟩ := X
  exact va_runS (ws := wsM y b maxL ret) (rm := rmm D mc ms) ⟨hx, hb, hml, hown, hu⟩ hM ⟨cb, hu _ o2⟩ ⟨blindE, hpre⟩ rfl hn hl hs (lv_room hst) hdg hf
theorem runI (X : Cx p E A DD R s m args c cc own nL) (S : St E A s h H locs) (O : COI own index y b maxL n) (hD : D + 1 ≤ DD) (hM : Met l y (wsM y b maxL none) (rmm D mc ms) (PcE E A h (rv a :: As)) Qc mc ms A) (hk : hK h a = ci) (hc0 : ci ≠ 0) (hn : As.length = n) (hl : ls.size = nL) (hst : (rest.map fun v => v.category).sum ≤ 8) (hs : st = As.reverse ++ rv a :: rest) (hf : cells + mc ≤ R.cells ∧ slots + ms ≤ R.slots)
    (hdg : decode cc pc = .ok (.invokespecial index, 3)) : va_Run p l e R s m args below meth c H locs cells slots mc ms (F0 m pc ls st) rest (Qc (rv a :: As).toArray) A := by
  obtain ⟨o1, o2, o3⟩ := O
  have cb := callb (mc := mc) (ms := ms) X o1 hD
  have hpre := pre_ok X S (rv a :: As)
  obtain ⟨hx, hb, hu, hown, hK9, hml, hR, hKo, hA⟩ := X
  have hra := rv_ref (dom_ne S.1.1 hk hc0)
  rw [hra] at hM hs hpre ⊢
  exact va_runI (ws := wsM y b maxL none) (rm := rmm D mc ms) ⟨hx, hb, hml, hown, hu⟩ hM ⟨cb, o3, hu _ o2⟩ ⟨blindE, hpre⟩ rfl hn hl hs (lv_room hst) hdg hf
variable {h' : Hp} {av : List Value}
def Qi (E : EE) (A : Nat → Prop) (h : Hp) (v : Int32) : Array Value → State → Outcome → State → Prop := va_Qi (fun r (_ : Unit) => r = v) (fun _ t => Rp E A h t.heap) A
def Ql (E : EE) (A : Nat → Prop) (h : Hp) (v : Int64) : Array Value → State → Outcome → State → Prop := va_Ql (fun r (_ : Unit) => r = v) (fun _ t => Rp E A h t.heap) A
def Qv (E : EE) (A : Nat → Prop) (h : Hp) : Array Value → State → Outcome → State → Prop := va_Qv (fun (_ : Unit) => True) (fun _ t => Rp E A h t.heap) A
def Qq (E : EE) (A : Nat → Prop) (h : Hp) (v : Option Nat) : Array Value → State → Outcome → State → Prop := va_Qq (fun r (_ : Unit) => r = v) (fun _ t => Rp E A h t.heap) A
theorem g_ci {v : Int32} (S : St E A s h H locs) (hr : va_Run p l e R s m args below meth c H locs cells slots mc ms (F0 m pc ls st) rest (Qi E A h' v av.toArray) A)
    (kk : ∀ (H1 : Heap) (locs1 : List Loc), St E A s h' H1 locs1 → W p l e R s m args below meth c H1 locs1 (cells + mc) (slots + ms) Q (F0 m (pc + 3) ls (.int v :: rest))) : W p l e R s m args below meth c H locs cells slots Q (F0 m pc ls st) := by
  refine va_calli hr S.2 (fun q _ z => z) (fun q z => z) (fun r u t H1 locs1 ht hvm hp hB hz hk1 hS => ?_)
  subst hp
  rw [ht] at hB
  exact kk H1 locs1 ⟨hB, hS⟩
theorem g_cl {v : Int64} (S : St E A s h H locs) (hr : va_Run p l e R s m args below meth c H locs cells slots mc ms (F0 m pc ls st) rest (Ql E A h' v av.toArray) A)
    (kk : ∀ (H1 : Heap) (locs1 : List Loc), St E A s h' H1 locs1 → W p l e R s m args below meth c H1 locs1 (cells + mc) (slots + ms) Q (F0 m (pc + 3) ls (.long v :: rest))) : W p l e R s m args below meth c H locs cells slots Q (F0 m pc ls st) := by
  refine va_calll hr S.2 (fun q _ z => z) (fun q z => z) (fun r u t H1 locs1 ht hvm hp hB hz hk1 hS => ?_)
  subst hp
  rw [ht] at hB
  exact kk H1 locs1 ⟨hB, hS⟩
theorem g_cv (S : St E A s h H locs) (hr : va_Run p l e R s m args below meth c H locs cells slots mc ms (F0 m pc ls st) rest (Qv E A h' av.toArray) A)
    (kk : ∀ (H1 : Heap) (locs1 : List Loc), St E A s h' H1 locs1 → W p l e R s m args below meth c H1 locs1 (cells + mc) (slots + ms) Q (F0 m (pc + 3) ls rest)) : W p l e R s m args below meth c H locs cells slots Q (F0 m pc ls st) := by
  refine va_callv hr S.2 (fun q _ z => z) (fun q z => z) (fun u t H1 locs1 ht hvm hp hB hz hk1 hS => ?_)
  rw [ht] at hB
  exact kk H1 locs1 ⟨hB, hS⟩
theorem g_cq {v : Option Nat} (S : St E A s h H locs) (hr : va_Run p l e R s m args below meth c H locs cells slots mc ms (F0 m pc ls st) rest (Qq E A h' v av.toArray) A)
    (kk : ∀ (H1 : Heap) (locs1 : List Loc), St E A s h' H1 locs1 → W p l e R s m args below meth c H1 locs1 (cells + mc) (slots + ms) Q (F0 m (pc + 3) ls (va_rf v :: rest))) : W p l e R s m args below meth c H locs cells slots Q (F0 m pc ls st) := by
  refine va_callq hr S.2 (fun q _ z => z) (fun q z => z) (fun r u t H1 locs1 ht hvm hp hB hz hk1 hS => ?_)
  subst hp
  rw [ht] at hB
  exact kk H1 locs1 ⟨hB, hS⟩
-- returns
theorem g_ri {v : Int32} (X : Cx p E A DD R s m args c cc own nL) (S : St E A s h H locs) (hr : meth.sig.returnType = some .int) (hlk : meth.locks = false) (hdg : decode cc pc = .ok (.ireturn, 1)) :
    W p l e R s m args below meth c H locs cells slots (MQ below (Qi E A h v) args s cells slots A) (F0 m pc ls [.int v]) :=
  W.iret X.1 X.2.1 hr (fun t ht hW => ⟨⟨v, (), rfl, rfl, by show Rp E A h t.heap; rw [ht]; exact S.1⟩, S.2.F ht⟩) S.2.2.2 hdg hlk
theorem g_rz {v : Int32} (X : Cx p E A DD R s m args c cc own nL) (S : St E A s h H locs) (hr : meth.sig.returnType = some .boolean) (hlk : meth.locks = false) (hz : v = 0 ∨ v = 1) (hdg : decode cc pc = .ok (.ireturn, 1)) :
    W p l e R s m args below meth c H locs cells slots (MQ below (Qi E A h v) args s cells slots A) (F0 m pc ls [.int v]) :=
  W.zret X.1 X.2.1 hr (by rcases hz with rfl | rfl <;> rfl) (fun t ht hW => ⟨⟨v, (), rfl, rfl, by show Rp E A h t.heap; rw [ht]; exact S.1⟩, S.2.F ht⟩) S.2.2.2 hdg hlk
theorem g_rl {v : Int64} (X : Cx p E A DD R s m args c cc own nL) (S : St E A s h H locs) (hr : meth.sig.returnType = some .long) (hlk : meth.locks = false) (hdg : decode cc pc = .ok (.lreturn, 1)) :
    W p l e R s m args below meth c H locs cells slots (MQ below (Ql E A h v) args s cells slots A) (F0 m pc ls [.long v]) :=
  W.lret X.1 X.2.1 hr (fun t ht hW => ⟨⟨v, (), rfl, rfl, by show Rp E A h t.heap; rw [ht]; exact S.1⟩, S.2.F ht⟩) S.2.2.2 hdg hlk
theorem g_rv (X : Cx p E A DD R s m args c cc own nL) (S : St E A s h H locs) (hr : meth.sig.returnType = none) (hlk : meth.locks = false) (hdg : decode cc pc = .ok (.return_, 1)) :
    W p l e R s m args below meth c H locs cells slots (MQ below (Qv E A h) args s cells slots A) (F0 m pc ls []) :=
  W.vret X.1 X.2.1 hr (fun t ht hW => ⟨⟨(), rfl, trivial, by show Rp E A h t.heap; rw [ht]; exact S.1⟩, S.2.F ht⟩) S.2.2.2 hdg hlk
theorem g_rq {v : Option Nat} {rt : FieldType} (X : Cx p E A DD R s m args c cc own nL) (S : St E A s h H locs) (hr : meth.sig.returnType = some rt) (hrt : isR rt) (hlk : meth.locks = false) (hdg : decode cc pc = .ok (.areturn, 1)) :
    W p l e R s m args below meth c H locs cells slots (MQ below (Qq E A h v) args s cells slots A) (F0 m pc ls [va_rf v]) :=
  W.aret X.1 X.2.1 hr hrt (va_rf_or v) (fun t ht hW => ⟨⟨v, (), rfl, rfl, by show Rp E A h t.heap; rw [ht]; exact S.1⟩, S.2.F ht⟩) S.2.2.2 hdg hlk
-- the library's own
theorem g_max (X : Cx p E A DD R s m args c cc own nL) (hl : ls.size = nL) (hDD : 1 ≤ DD) (hst : (rest.map fun v => v.category).sum ≤ 8) (h1 : Cond.methodLink own index Lib.Math.max.name ∈ UW) (h2 : Cond.static Lib.Math.max.name ∈ UW) (h3 : Cond.initialized "java/lang/Math" ∈ UW) (h4 : Cond.code Lib.Math.max.name Lib.Math.max.code 2 (some .int) ∈ UW) (hc : cells ≤ R.cells) (hs : slots ≤ R.slots) {x z : Int32} (hdg : decode cc pc = .ok (.invokestatic index, 3))
    (kk : W p l e R s m args below meth c H locs cells slots Q (F0 m (pc + 3) ls (.int (imax x z) :: rest))) : W p l e R s m args below meth c H locs cells slots Q (F0 m pc ls (.int z :: .int x :: rest)) := by
  obtain ⟨hx, hb, hu, hown, hK9, hml, hR, hKo, hA⟩ := X
  exact va_mmax hx hb (hml.trans hl.symm) hown (hu _ h1) (hu _ h2) (hu _ h3) (hu _ h4) (by omega) (by omega) hc hs hdg kk
theorem g_min (X : Cx p E A DD R s m args c cc own nL) (hl : ls.size = nL) (hDD : 1 ≤ DD) (hst : (rest.map fun v => v.category).sum ≤ 8) (h1 : Cond.methodLink own index Lib.Math.min.name ∈ UW) (h2 : Cond.static Lib.Math.min.name ∈ UW) (h3 : Cond.initialized "java/lang/Math" ∈ UW) (h4 : Cond.code Lib.Math.min.name Lib.Math.min.code 2 (some .int) ∈ UW) (hc : cells ≤ R.cells) (hs : slots ≤ R.slots) {x z : Int32} (hdg : decode cc pc = .ok (.invokestatic index, 3))
    (kk : W p l e R s m args below meth c H locs cells slots Q (F0 m (pc + 3) ls (.int (imin x z) :: rest))) : W p l e R s m args below meth c H locs cells slots Q (F0 m pc ls (.int z :: .int x :: rest)) := by
  obtain ⟨hx, hb, hu, hown, hK9, hml, hR, hKo, hA⟩ := X
  exact va_mmin hx hb (hml.trans hl.symm) hown (hu _ h1) (hu _ h2) (hu _ h3) (hu _ h4) (by omega) (by omega) hc hs hdg kk
theorem g_abs (X : Cx p E A DD R s m args c cc own nL) (hl : ls.size = nL) (hDD : 1 ≤ DD) (hst : (rest.map fun v => v.category).sum ≤ 8) (h1 : Cond.methodLink own index Lib.MathLoose.abs_long.x ∈ UW) (h2 : Cond.static Lib.MathLoose.abs_long.x ∈ UW) (h3 : Cond.initialized "java/lang/Math" ∈ UW) (h4 : Cond.code Lib.MathLoose.abs_long.x Lib.MathLoose.abs_long.code 2 (some .long) ∈ UW) (hc : cells ≤ R.cells) (hs : slots ≤ R.slots) {x : Int64} (hdg : decode cc pc = .ok (.invokestatic index, 3))
    (kk : W p l e R s m args below meth c H locs cells slots Q (F0 m (pc + 3) ls (.long (labs x) :: rest))) : W p l e R s m args below meth c H locs cells slots Q (F0 m pc ls (.long x :: rest)) := by
  obtain ⟨hx, hb, hu, hown, hK9, hml, hR, hKo, hA⟩ := X
  exact va_mabs_long hx hb (hml.trans hl.symm) hown (hu _ h1) (hu _ h2) (hu _ h3) (hu _ h4) (by omega) (by omega) hc hs hdg kk
theorem met_ofF {y : MethodName} {b : ByteArray} {maxL D mc ms : Nat} {ret : Option FieldType} {av : List Value} {Qc : Array Value → State → Outcome → State → Prop} (hy : plainFor y = true) (hn : (lg_sl av).length ≤ maxL)
    (body : ∀ (p : Program) (e : Env) (s : State) (m : MethodId) (args : Array Value) (below : List Frame) (meth : Method) (c : Code) (ls : Array Slot), Cx p E A D (rmm D mc ms) s m args c b y.cls maxL → meth.sig.returnType = ret → meth.locks = false → meth.name = y.name → St E A s h s.heap [] → lv_has ls maxL (lv_args 0 av) →
      W p l e (rmm D mc ms) s m args below meth c s.heap [] 0 0 (MQ below Qc args s mc ms A) (F0 m 0 ls [])) : Met l y (wsM y b maxL ret) (rmm D mc ms) (PcE E A h av) Qc mc ms A := by
  refine MetFree.of_bodySF (code := b) (maxLocals := maxL) (ret := ret) hy ?_ ?_
  · intro args s m h hn
    obtain ⟨meth, c, h1, h2, h3, h4, h5, h6, -, -⟩ := Cond.code_spec hn (atoms_spec (ws := wsM y b maxL ret) h _ List.mem_cons_self)
    exact ⟨meth, c, h1, h2, h3, h4, h5, h6⟩
  · intro p e s m args below meth c s₁ B hml hv _
    have hh0 : s₁.heap = s.heap := by rw [B.state]; rfl
    obtain ⟨rfl, hR, hK9, hKo, hA⟩ := hv
    have hts := atoms_spec (ws := wsM y b maxL ret) B.pre
    have key := body p e s m _ below meth c _ ⟨B.exec, B.bytes, fun w hw => hts w (List.mem_cons_of_mem _ hw), findClass_of_methodNamed B.named, hK9, hml, ⟨Nat.le_refl _, Nat.le_refl _⟩, hKo, hA⟩ B.returns B.notSynchronized (name_of_methodNamed B.named B.method).1 ⟨hR, va_S.rf⟩ (lv_entry av hn)
    rw [← lg_entry_eq] at key
    obtain ⟨t, a1, o, b1, b2, b3⟩ := key s₁ hh0 (Stand.of_body B)
    exact ⟨t, o, a1, b1, b2, ⟨b3.1, b3.2⟩⟩
theorem g_cp {β : Type} {f : Hp → Option β} {r : β} (X : Cx p E A DD R s m args c cc own nL) (S : St E A s h H locs) (hl : ls.size = nL) (hDD : 1 ≤ DD) (hst : (rest.map fun v => v.category).sum ≤ 8) (h1 : Cond.methodLink own index arraycopyName ∈ UW) (h2 : Cond.native arraycopyName ∈ UW) (h3 : Cond.static arraycopyName ∈ UW) (h4 : Cond.initialized "java/lang/System" ∈ UW) {a0 : Nat} {sp dp nn : Int32} (hdg : decode cc pc = .ok (.invokestatic index, 3)) (hf : ob (cpA a0 sp a dp nn h) f = some r)
    (kk : ∀ (h' : Hp) (H1 : Heap) (locs1 : List Loc), Sm h h' → f h' = some r → St E A s h' H1 locs1 → W p l e R s m args below meth c H1 locs1 cells slots Q (F0 m (pc + 3) ls rest)) : W p l e R s m args below meth c H locs cells slots Q (F0 m pc ls (.int nn :: .int dp :: rv a :: .int sp :: rv a0 :: rest)) := by
  obtain ⟨hx, hb, hu, hown, hK9, hml, hR, hKo, hA⟩ := X
  obtain ⟨h', h8, h9⟩ := ob_some hf
  obtain ⟨⟨k0, k1, i1, i2, i3, i4, i5⟩, rfl⟩ := if_some h8
  obtain ⟨⟨h0, L, hL, hP, hD⟩, hS⟩ := S
  rw [rv_ref (dom_ne h0 k0 (by decide)), rv_ref (dom_ne h0 k1 (by decide))]
  have haL := (hL a).2 (by rw [k1]; decide)
  obtain ⟨q1, hq⟩ := va_pl_get (X := []) (f := cellOf E h) haL
  have hq2 := hq
  rw [cellOf_int k1] at hq
  obtain ⟨q0, hq0⟩ := va_pl_get (X := []) (f := cellOf E h) ((hL a0).2 (by rw [k0]; decide))
  rw [cellOf_int k0] at hq0
  have hw : nativeFrameWords "java/lang/System" "arraycopy" 5 + 11 ≤ 55 := by decide +kernel
  refine va_copyi hx hb (hml.trans hl.symm) hown (hu _ h1) (hu _ h2) (hu _ h3) (hu _ h4) hK9 hP hD hS q0 q1 0 0 hq0 hq ty0 ty0 rfl i1 i2 i3 i4 i5 (fun i _ => rfl) (by omega) (by omega) hdg (fun H1 locs1 hP1 hD1 hS1 => ?_)
  exact kk _ H1 locs1 (by exact ⟨rfl, rfl, rfl, rfl, rfl⟩) h9 ⟨Rp_set h0 hL haL hq2 hD hP1 hD1 rfl (by rw [cellOf_int (show hK (sA h a _) a = 101 from k1), hI_sA]; rfl) (fun b hb => cell_sA hb), hS1⟩

theorem g_lti {β : Type} {f : Int32 → Option β} {r : β} {x : Int32} (hf : lt x f = some r) (kk : ∀ y : Int32, f y = some r → W p l e R s m args below meth c H locs cells slots Q (F0 m pc ls (.int y :: rest))) : W p l e R s m args below meth c H locs cells slots Q (F0 m pc ls (.int x :: rest)) := kk x hf
theorem g_ltl {β : Type} {f : Int64 → Option β} {r : β} {x : Int64} (hf : lt x f = some r) (kk : ∀ y : Int64, f y = some r → W p l e R s m args below meth c H locs cells slots Q (F0 m pc ls (.long y :: rest))) : W p l e R s m args below meth c H locs cells slots Q (F0 m pc ls (.long x :: rest)) := kk x hf
theorem g_idiv (X : Cx p E A DD R s m args c cc own nL) {x y : Int32} (hne : ¬ y = 0) (hdg : decode cc pc = .ok (.idiv, 1)) (kk : W p l e R s m args below meth c H locs cells slots Q (F0 m (pc + 1) ls (.int (x / y) :: rest))) : W p l e R s m args below meth c H locs cells slots Q (F0 m pc ls (.int y :: .int x :: rest)) := lv_idiv X.1 X.2.1 hdg hne kk
theorem g_irem (X : Cx p E A DD R s m args c cc own nL) {x y : Int32} (hne : ¬ y = 0) (hdg : decode cc pc = .ok (.irem, 1)) (kk : W p l e R s m args below meth c H locs cells slots Q (F0 m (pc + 1) ls (.int (irm x y) :: rest))) : W p l e R s m args below meth c H locs cells slots Q (F0 m pc ls (.int y :: .int x :: rest)) := lv_irem X.1 X.2.1 hdg hne kk
theorem g_ldiv (X : Cx p E A DD R s m args c cc own nL) {x y : Int64} (hne : ¬ y = 0) (hdg : decode cc pc = .ok (.ldiv, 1)) (kk : W p l e R s m args below meth c H locs cells slots Q (F0 m (pc + 1) ls (.long (x / y) :: rest))) : W p l e R s m args below meth c H locs cells slots Q (F0 m pc ls (.long y :: .long x :: rest)) := lv_ldiv X.1 X.2.1 hdg hne kk
theorem g_lrem (X : Cx p E A DD R s m args c cc own nL) {x y : Int64} (hne : ¬ y = 0) (hdg : decode cc pc = .ok (.lrem, 1)) (kk : W p l e R s m args below meth c H locs cells slots Q (F0 m (pc + 1) ls (.long (lrm x y) :: rest))) : W p l e R s m args below meth c H locs cells slots Q (F0 m pc ls (.long y :: .long x :: rest)) := lv_lrem X.1 X.2.1 hdg hne kk
theorem i32_ne {x k : Int32} {n : Int} (h : ¬ x = k) (hk : k.toInt = n) : x.toInt ≠ n := fun q => h (Int32.toInt_inj.mp (q.trans hk.symm))
theorem g_oi (X : Cx p E A DD R s m args c cc own nL) (S : St E A s h H locs) (hl : ls.size = nL) (h1 : Cond.methodLink own index Lib.objectInit ∈ UW) (hdg : decode cc pc = .ok (.invokespecial index, 3)) (hDD : 1 ≤ DD) (hst : (rest.map fun v => v.category).sum ≤ 8) (ha : a ≠ 0)
    (kk : W p l e R s m args below meth c H locs cells slots Q (F0 m (pc + 3) ls rest)) : W p l e R s m args below meth c H locs cells slots Q (F0 m pc ls (rv a :: rest)) := by
  obtain ⟨hx, hb, hu, hown, hK9, hml, hR, hKo, hA⟩ := X
  rw [rv_ref ha]
  exact W.objInit hx hb hown (hu _ h1) (hu _ u_oi_i) (hu _ u_oi_c) rfl (hl.trans hml.symm) rfl hdg (by omega) (by show 2 * 0 + _ + 12 ≤ _; omega) kk
-- words and Strings
def WFo (own : String) (index : Nat) (n d : String) : Prop := Cond.fieldLink own index "NibbleEngine$Word" n d ∈ UW
def SFo (own : String) (index : Nat) (C n d : String) : Prop := Cond.fieldLink own index C n d ∈ UW
def JFo (own : String) (index : Nat) (y : MethodName) : Prop := Cond.methodLink own index y ∈ UW
theorem sv_ref (E : EE) {x : Nat} (h : x ≠ 0) : sv E x = .ref (E.2.2.2.2.1 (x - 1)) := by simp [sv, oF, h, va_rf]
theorem g_wdT {β : Type} {f : Nat → Option β} {r : β} {x : Nat} (X : Cx p E A DD R s m args c cc own nL) (S : St E A s h H locs) (F : WFo own index "text" "Ljava/lang/String;") (hdg : decode cc pc = .ok (.getfield index, 3)) (hf : ob (wdT x) f = some r)
    (kk : ∀ v : Nat, f v = some r → W p l e R s m args below meth c H locs cells slots Q (F0 m (pc + 3) ls (sv E v :: rest))) : W p l e R s m args below meth c H locs cells slots Q (F0 m pc ls (wv E x :: rest)) := by
  obtain ⟨hx, hb, hu, hown, hK9, hml, hRm, hKo, hA⟩ := X
  obtain ⟨v, h1, h2⟩ := ob_some hf
  obtain ⟨⟨h3, h4⟩, rfl⟩ := if_some h1
  rw [wv_ref E h3]
  have hq := (hKo.1 (x - 1) (by omega)).2.2.2.2.2.1
  refine vk_getf hx hb hq S.2 hown (hu _ F) (fun _ h9 => h9) hdg ?_
  have := kk _ h2; rw [show sv E (wTx.getD (x - 1) 0 + 1) = .ref (E.2.2.2.2.1 (wTx.getD (x - 1) 0)) from sv_ref E (Nat.succ_ne_zero _)] at this; exact this
theorem g_wdF {β : Type} {f : Nat → Option β} {r : β} {x : Nat} (X : Cx p E A DD R s m args c cc own nL) (S : St E A s h H locs) (F : WFo own index "form" "Ljava/lang/String;") (hdg : decode cc pc = .ok (.getfield index, 3)) (hf : ob (wdF x) f = some r)
    (kk : ∀ v : Nat, f v = some r → W p l e R s m args below meth c H locs cells slots Q (F0 m (pc + 3) ls (sv E v :: rest))) : W p l e R s m args below meth c H locs cells slots Q (F0 m pc ls (wv E x :: rest)) := by
  obtain ⟨hx, hb, hu, hown, hK9, hml, hRm, hKo, hA⟩ := X
  obtain ⟨v, h1, h2⟩ := ob_some hf
  obtain ⟨⟨h3, h4⟩, rfl⟩ := if_some h1
  rw [wv_ref E h3]
  have hq := (hKo.1 (x - 1) (by omega)).2.2.2.2.2.2
  refine vk_getf hx hb hq S.2 hown (hu _ F) (fun _ h9 => h9) hdg ?_
  have := kk _ h2; rw [show sv E (wFm.getD (x - 1) 0 + 1) = .ref (E.2.2.2.2.1 (wFm.getD (x - 1) 0)) from sv_ref E (Nat.succ_ne_zero _)] at this; exact this
theorem g_wdP {β : Type} {f : Int32 → Option β} {r : β} {x : Nat} (X : Cx p E A DD R s m args c cc own nL) (S : St E A s h H locs) (F : WFo own index "packed" "I") (hdg : decode cc pc = .ok (.getfield index, 3)) (hf : ob (wdP x) f = some r)
    (kk : ∀ v : Int32, f v = some r → W p l e R s m args below meth c H locs cells slots Q (F0 m (pc + 3) ls (.int v :: rest))) : W p l e R s m args below meth c H locs cells slots Q (F0 m pc ls (wv E x :: rest)) := by
  obtain ⟨hx, hb, hu, hown, hK9, hml, hRm, hKo, hA⟩ := X
  obtain ⟨v, h1, h2⟩ := ob_some hf
  obtain ⟨⟨h3, h4⟩, rfl⟩ := if_some h1
  rw [wv_ref E h3]
  have hq := (hKo.1 (x - 1) (by omega)).2.2.2.1
  refine vk_getf hx hb hq S.2 hown (hu _ F) (fun _ h9 => h9) hdg ?_
  exact kk _ h2
theorem g_wdI {β : Type} {f : Int32 → Option β} {r : β} {x : Nat} (X : Cx p E A DD R s m args c cc own nL) (S : St E A s h H locs) (F : WFo own index "instruction" "Z") (hdg : decode cc pc = .ok (.getfield index, 3)) (hf : ob (wdI x) f = some r)
    (kk : ∀ v : Int32, f v = some r → W p l e R s m args below meth c H locs cells slots Q (F0 m (pc + 3) ls (.int v :: rest))) : W p l e R s m args below meth c H locs cells slots Q (F0 m pc ls (wv E x :: rest)) := by
  obtain ⟨hx, hb, hu, hown, hK9, hml, hRm, hKo, hA⟩ := X
  obtain ⟨v, h1, h2⟩ := ob_some hf
  obtain ⟨⟨h3, h4⟩, rfl⟩ := if_some h1
  rw [wv_ref E h3]
  have hq := (hKo.1 (x - 1) (by omega)).2.2.2.2.1
  refine vk_getf hx hb hq S.2 hown (hu _ F) (fun _ h9 => h9) hdg ?_
  exact kk _ h2
theorem g_getw {nm : String} {i : Nat} (X : Cx p E A DD R s m args c cc own nL) (S : St E A s h H locs) (F : SFo own index "NibbleEngine$Word" nm "LNibbleEngine$Word;") (hi : i < 29 ∧ wNm.getD i "" = nm) (hdg : decode cc pc = .ok (.getstatic index, 3))
    (kk : W p l e R s m args below meth c H locs cells slots Q (F0 m (pc + 3) ls (wv E (i + 1) :: rest))) : W p l e R s m args below meth c H locs cells slots Q (F0 m pc ls rest) := by
  obtain ⟨hx, hb, hu, hown, hK9, hml, hRm, hKo, hA⟩ := X
  obtain ⟨hi, rfl⟩ := hi
  rw [wv_ref E (Nat.succ_ne_zero i)] at kk
  exact va_gets hx hb (hKo.1 i hi).1 S.2 hown (hu _ F) (fun _ h9 => h9) hdg kk
theorem g_getall (X : Cx p E A DD R s m args c cc own nL) (S : St E A s h H locs) (F : SFo own index "NibbleEngine$Word" "ALL" "[LNibbleEngine$Word;") (hdg : decode cc pc = .ok (.getstatic index, 3))
    (kk : ∀ q : Nat, isALL E A s q → W p l e R s m args below meth c H locs cells slots Q (F0 m (pc + 3) ls (.ref q :: rest))) : W p l e R s m args below meth c H locs cells slots Q (F0 m pc ls rest) := by
  obtain ⟨hx, hb, hu, hown, hK9, hml, hRm, hKo, hA⟩ := X
  obtain ⟨q, h1, h2⟩ := hKo.2.2.1
  exact va_gets hx hb h1 S.2 hown (hu _ F) (fun _ h9 => h9) hdg (kk q h2)
theorem g_getsm (X : Cx p E A DD R s m args c cc own nL) (S : St E A s h H locs) (F : SFo own index "NibbleEngine$1" "$SwitchMap$NibbleEngine$Word" "[I") (hdg : decode cc pc = .ok (.getstatic index, 3))
    (kk : ∀ q : Nat, isSM A s q → W p l e R s m args below meth c H locs cells slots Q (F0 m (pc + 3) ls (.ref q :: rest))) : W p l e R s m args below meth c H locs cells slots Q (F0 m pc ls rest) := by
  obtain ⟨hx, hb, hu, hown, hK9, hml, hRm, hKo, hA⟩ := X
  obtain ⟨q, h1, h2⟩ := hKo.2.2.2.1
  exact va_gets hx hb h1 S.2 hown (hu _ F) (fun _ h9 => h9) hdg (kk q h2)
theorem g_sm {β : Type} {f : Int32 → Option β} {r : β} {i : Int32} {q : Nat} (X : Cx p E A DD R s m args c cc own nL) (S : St E A s h H locs) (hq : isSM A s q) (hdg : decode cc pc = .ok (.iaload, 1)) (hf : ob (smI i) f = some r)
    (kk : ∀ v : Int32, f v = some r → W p l e R s m args below meth c H locs cells slots Q (F0 m (pc + 1) ls (.int v :: rest))) : W p l e R s m args below meth c H locs cells slots Q (F0 m pc ls (.int i :: .ref q :: rest)) := by
  obtain ⟨v, h1, h2⟩ := ob_some hf
  obtain ⟨hin, rfl⟩ := if_some h1
  exact va_ti X.1 X.2.1 hq S.2 hin rfl hdg (kk _ h2)
theorem g_all {β : Type} {f : Nat → Option β} {r : β} {i : Int32} {q : Nat} (X : Cx p E A DD R s m args c cc own nL) (S : St E A s h H locs) (hq : isALL E A s q) (hdg : decode cc pc = .ok (.aaload, 1)) (hf : ob (alW i) f = some r)
    (kk : ∀ v : Nat, f v = some r → W p l e R s m args below meth c H locs cells slots Q (F0 m (pc + 1) ls (wv E v :: rest))) : W p l e R s m args below meth c H locs cells slots Q (F0 m pc ls (.int i :: .ref q :: rest)) := by
  obtain ⟨v, h1, h2⟩ := ob_some hf
  obtain ⟨hin, rfl⟩ := if_some h1
  exact vb_tq X.1 X.2.1 hq S.2 hin rfl hdg (kk _ h2)
theorem g_alen {q : Nat} (X : Cx p E A DD R s m args c cc own nL) (S : St E A s h H locs) (hq : isALL E A s q) (hdg : decode cc pc = .ok (.arraylength, 1))
    (kk : W p l e R s m args below meth c H locs cells slots Q (F0 m (pc + 1) ls (.int 29 :: rest))) : W p l e R s m args below meth c H locs cells slots Q (F0 m pc ls (.ref q :: rest)) := by
  obtain ⟨cell, h1, h2, h3, h4, h5, h6⟩ := va_T.kept hq S.2.2.1
  exact W.alen X.1 X.2.1 h1 h2 h5 rfl rfl hdg kk
theorem oF_inj {f : Nat → Nat} (hf : ∀ i j : Nat, i < 29 → j < 29 → f i = f j → i = j) {x y : Nat} (hx : x ≤ 29) (hy : y ≤ 29) : oF f x = oF f y ↔ x = y := by
  constructor
  · intro q
    unfold oF at q
    split at q <;> split at q
    · omega
    · cases q
    · cases q
    · have := hf _ _ (by omega) (by omega) (Option.some.inj q)
      omega
  · rintro rfl; rfl
theorem g_acmpeqW {x y tgt : Nat} {off : Int} (X : Cx p E A DD R s m args c cc own nL) (hdg : decode cc pc = .ok (.if_acmp .eq off, 3)) (ht : (pc : Int) + off = (tgt : Int)) (hx : x ≤ 29) (hy : y ≤ 29) (kt : x = y → W p l e R s m args below meth c H locs cells slots Q (F0 m tgt ls rest)) (kf : ¬ x = y → W p l e R s m args below meth c H locs cells slots Q (F0 m (pc + 3) ls rest)) :
    W p l e R s m args below meth c H locs cells slots Q (F0 m pc ls (wv E y :: wv E x :: rest)) := by
  have hi := oF_inj (wd_inj X.2.2.2.2.2.2.2.1) hx hy
  exact lv_acmp_eq X.1 X.2.1 hdg ht (fun q => kt (hi.1 q)) (fun q => kf (fun z => q (hi.2 z)))
theorem g_acmpneW {x y tgt : Nat} {off : Int} (X : Cx p E A DD R s m args c cc own nL) (hdg : decode cc pc = .ok (.if_acmp .ne off, 3)) (ht : (pc : Int) + off = (tgt : Int)) (hx : x ≤ 29) (hy : y ≤ 29) (kt : ¬ x = y → W p l e R s m args below meth c H locs cells slots Q (F0 m tgt ls rest)) (kf : x = y → W p l e R s m args below meth c H locs cells slots Q (F0 m (pc + 3) ls rest)) :
    W p l e R s m args below meth c H locs cells slots Q (F0 m pc ls (wv E y :: wv E x :: rest)) := by
  have hi := oF_inj (wd_inj X.2.2.2.2.2.2.2.1) hx hy
  exact lv_acmp_ne X.1 X.2.1 hdg ht (fun q => kt (fun z => q (hi.2 z))) (fun q => kf (hi.1 q))
theorem g_lds {i : Nat} {tx : String} (X : Cx p E A DD R s m args c cc own nL) (S : St E A s h H locs) (F : 40 ≤ i ∧ i < 69 ∧ ldL.getD i ("", 0, "") = (own, index, tx)) (hdg : decode cc pc = .ok (.ldc index, 2))
    (kk : W p l e R s m args below meth c H locs cells slots Q (F0 m (pc + 2) ls (sv E (i + 1) :: rest))) : W p l e R s m args below meth c H locs cells slots Q (F0 m pc ls rest) := by
  obtain ⟨hx, hb, hu, hown, hK9, hml, hRm, hKo, hA⟩ := X
  obtain ⟨h0, hi, he⟩ := F
  have hr := hKo.2.2.2.2.2.1 i h0 hi
  rw [he] at hr
  rw [sv_ref E (Nat.succ_ne_zero i)] at kk
  exact va_ldcS hx hb hown hr hdg kk
theorem g_qS {β : Type} {f : Hp → Option β} {r : β} {v : Nat} {i : Int32} (X : Cx p E A DD R s m args c cc own nL) (S : St E A s h H locs) (hdg : decode cc pc = .ok (.aastore, 1)) (hf : ob (qS a i v h) f = some r)
    (kk : ∀ (h' : Hp) (H1 : Heap) (locs1 : List Loc), Sm h h' → f h' = some r → St E A s h' H1 locs1 → W p l e R s m args below meth c H1 locs1 cells slots Q (F0 m (pc + 1) ls rest)) : W p l e R s m args below meth c H locs cells slots Q (F0 m pc ls (sv E v :: .int i :: rv a :: rest)) := by
  obtain ⟨h', h1, h2⟩ := ob_some hf
  obtain ⟨⟨hk, hv0, hv1, hin⟩, rfl⟩ := if_some h1
  have hO := (X.2.2.2.2.2.2.2.1.2.1 (v - 1) (by omega)).1
  obtain ⟨hx, hb, hu, hown, hK9, hml, hRm, hKo, hA⟩ := X
  obtain ⟨⟨h0, L, hL, hP, hD⟩, hS⟩ := S
  rw [rv_ref (dom_ne h0 hk (by omega)), sv_ref E hv0]
  have haL := (hL a).2 (by rw [hk]; omega)
  obtain ⟨q0, hq⟩ := va_pl_get (X := []) (f := cellOf E h) haL
  have hq2 := hq
  rw [cellOf_str hk] at hq
  have hany : va_Any "java/lang/String" s H (E.2.2.2.2.1 (v - 1)) := by
    obtain ⟨cell, c1, c2, c3, -⟩ := hO.kept hS.2.1
    obtain ⟨k9, hk9, hkind⟩ := Vm.findClass_spec c3
    exact ⟨cell, c1, c2, ⟨k9, hk9⟩, fun comp hc => by
      have : comp = cell.cls := Option.some.inj (hc.symm.trans c3)
      subst this
      have hcA := (hK9.1 0 _ (rfl : vwCl[0]? = some (RJ0, TJ0, 2))).2
      have e0 : cell.cls = (EG E).1 0 := Option.some.inj (c3.symm.trans hcA.1)
      rw [e0]
      exact va_assign hcA⟩
  refine va_astqM hx hb hK9 hP hD hS q0 4 hq ty4 hany hin hdg (fun H1 locs1 hP1 hD1 hS1 => ?_)
  exact kk _ H1 locs1 (by exact ⟨rfl, rfl, rfl, rfl, rfl⟩) h2 ⟨Rp_set h0 hL haL hq2 hD hP1 hD1 rfl (by rw [cellOf_str (show hK (sR h a i.toNatClampNeg v) a = 105 from hk), hR_sR, of_eq _ _ _ _ hv0]; rfl) (fun b hb => cell_sR hb), hS1⟩


-- ===== cells that come =====
def nS (H0 H : Heap) : Nat := ((H.toList.drop H0.size).map (fun (x : Cell) => x.slots.size)).sum
def Kept (H0 H : Heap) : Prop := ∀ (q : Nat) (c0 : Cell), H0[q]? = some c0 → ∃ c1 : Cell, H[q]? = some c1 ∧ c1.slots.size = c0.slots.size
theorem W_know {g : JFrame} (kk : H.size ≤ s.heap.size + cells → nS s.heap H ≤ slots → Kept s.heap H → W p l e R s m args below meth c H locs cells slots Q g) : W p l e R s m args below meth c H locs cells slots Q g := by
  intro T hT X
  obtain ⟨h1, h2, h3, h4, h5, h6⟩ := X.same
  refine kk ?_ ?_ ?_ T hT X
  · rw [← hT]; exact h3
  · rw [← hT]; exact h5
  · intro q c0 hc
    obtain ⟨c1, e1, e2, e3, -⟩ := h6 q c0 hc
    exact ⟨c1, by rw [← hT]; exact e1, e3⟩
theorem W_narrow {g : JFrame} {k n : Nat} (h1 : H.size ≤ s.heap.size + k) (h2 : nS s.heap H ≤ n) (kk : W p l e R s m args below meth c H locs k n Q g) : W p l e R s m args below meth c H locs cells slots Q g := by
  intro T hT X
  obtain ⟨g1, g2, g3, g4, g5, g6⟩ := X.same
  refine kk T hT { X with same := ⟨g1, g2, ?_, g4, ?_, g6⟩ }
  · rw [← hT] at h1; exact h1
  · rw [← hT] at h2; exact h2
theorem sizes_eq {H H1 : Heap} (h1 : H.size ≤ H1.size) (hp : Kept H H1) : (H1.toList.take H.size).map (fun (x : Cell) => x.slots.size) = H.toList.map (fun (x : Cell) => x.slots.size) := by
  apply List.ext_getElem?
  intro i
  rw [List.getElem?_map, List.getElem?_map]
  by_cases hi : i < H.size
  · obtain ⟨c1, e1, e2⟩ := hp i H[i] (Array.getElem?_eq_getElem hi)
    rw [List.getElem?_take_of_lt hi, Array.getElem?_toList, Array.getElem?_toList, e1, Array.getElem?_eq_getElem hi]
    exact congrArg some e2
  · have e1 : (H1.toList.take H.size)[i]? = none := List.getElem?_eq_none (by rw [List.length_take]; omega)
    have e2 : H.toList[i]? = none := List.getElem?_eq_none (by rw [Array.length_toList]; omega)
    rw [e1, e2]
theorem nS_add {H0 H H1 : Heap} (h0 : H0.size ≤ H.size) (h1 : H.size ≤ H1.size) (hp : Kept H H1) : nS H0 H1 = nS H0 H + nS H H1 := by
  unfold nS
  have e : H1.toList.drop H0.size = (H1.toList.take H.size).drop H0.size ++ H1.toList.drop H.size := by
    conv => lhs; rw [← List.take_append_drop H.size H1.toList]
    rw [List.drop_append_of_le_length (by rw [List.length_take, Array.length_toList]; omega)]
  rw [e, List.map_append, List.sum_append, List.map_drop, sizes_eq h1 hp, ← List.map_drop]
theorem Kept.trans {H0 H H1 : Heap} (a : Kept H0 H) (b : Kept H H1) : Kept H0 H1 := fun q c0 h => by
  obtain ⟨c1, e1, e2⟩ := a q c0 h
  obtain ⟨c2, e3, e4⟩ := b q c1 e1
  exact ⟨c2, e3, e4.trans e2⟩
def AlI (R : Room) (s : State) (h0 h : Hp) (cells slots : Nat) : Prop := R.cells + hX h0 = hC h0 ∧ R.slots + hU h0 = hZ h0 ∧ s.heap.size = hX h0 ∧ hX h0 + cells = hX h ∧ hU h0 + slots = hU h ∧ hC h = hC h0 ∧ hZ h = hZ h0 ∧ cells ≤ R.cells ∧ slots ≤ R.slots ∧ (hX h = hX h0 ∨ (0 < hX h ∧ hK h (hX h - 1) ≠ 0))
theorem AlI.sm {h0 : Hp} (a : AlI R s h0 h cells slots) {h1 : Hp} (hm : Sm h h1) : AlI R s h0 h1 cells slots := by
  obtain ⟨a1, a2, a3, a4, a5, a6, a7, a8, a9, a10⟩ := a
  obtain ⟨m1, m2, m3, m4, m5⟩ := hm
  exact ⟨a1, a2, a3, by omega, by omega, by omega, by omega, a8, a9, by rw [m1, m2]; exact a10⟩
theorem AlI.kc {h0 : Hp} (a : AlI R s h0 h cells slots) {h1 : Hp} (hm : okc h h1) : AlI R s h0 h1 cells slots := by
  obtain ⟨a1, a2, a3, a4, a5, a6, a7, a8, a9, a10⟩ := a
  obtain ⟨m2, m3, m4, m5, m1⟩ := hm
  exact ⟨a1, a2, a3, by omega, by omega, by omega, by omega, a8, a9, by rw [m2, m1]; exact a10⟩
theorem AlI.fit {h0 : Hp} (a : AlI R s h0 h cells slots) : cells + 0 ≤ R.cells ∧ slots + 0 ≤ R.slots := ⟨a.2.2.2.2.2.2.2.1, a.2.2.2.2.2.2.2.2.1⟩
theorem al_size {h0 : Hp} (S : St E A s h H locs) (a : AlI R s h0 h cells slots) (hk : H.size ≤ s.heap.size + cells) : H.size = hX h := by
  obtain ⟨a1, a2, a3, a4, a5, a6, a7, a8, a9, a10⟩ := a
  obtain ⟨⟨h0', L, hL, hP, hD⟩, hS⟩ := S
  have h1 := hS.1
  rcases a10 with a10 | ⟨b1, b2⟩
  · omega
  · have := va_pl_lt hP ((hL _).2 b2)
    omega
def dv (t : Nat) : Value := match t with
  | 1 => .null
  | 2 => .null
  | 3 => .null
  | _ => .int 0
theorem vl_nw {k len n j t : Nat} : vl E (nw h k len n) (hX h) j t = dv t := by
  unfold vl dv
  split <;> simp [hR, hI, nw, va_up, rv, wv, sv, oR, oF, va_rf]
theorem cell_nw {k len n b : Nat} (hb : b ≠ hX h) : cellOf E (nw h k len n) b = cellOf E h b := cellOf_eq (va_up_ne _ _ hb) (va_up_ne _ _ hb) (va_up_ne _ _ hb) (va_up_ne _ _ hb) (va_up_ne _ _ hb)
theorem hK_nw {k len n : Nat} : hK (nw h k len n) (hX h) = k := va_up_self _ _ _
theorem hN_nw {k len n : Nat} : hN (nw h k len n) (hX h) = len := va_up_self _ _ _
/-- one cell more -/
theorem Rp_push {H1 : Heap} {k len n : Nat} (hk0 : k ≠ 0) (hx0 : 0 < hX h) (R0 : Rp E A h H) (hsz : H.size = hX h) (hAx : A (hX h)) (ho : ∀ q : Nat, q < H.size → H1[q]? = H[q]?) (hnew : va_at (EG E) vwCl (hX h, cellOf E (nw h k len n) (hX h)) H1) : Rp E A (nw h k len n) H1 := by
  obtain ⟨h0, L, hL, hP, hD⟩ := R0
  have hfr : hX h ∉ L := va_pl_fresh hP (by rw [hsz]; exact Nat.le_refl _)
  have e : ([] ++ va_pl L (cellOf E h)) ++ [(hX h, cellOf E (nw h k len n) (hX h))] = [] ++ va_pl (L ++ [hX h]) (cellOf E (nw h k len n)) := by
    rw [List.append_assoc, va_pl_push hfr]
    refine congrArg (fun l => [] ++ l) (va_pl_congr fun b => ?_)
    by_cases hb : b = hX h
    · rw [hb, va_up_self]
    · rw [va_up_ne _ _ hb, cell_nw hb]
  have hk1 : ∀ (i : Nat) (x : Nat × va_E), ([] ++ va_pl L (cellOf E h))[i]? = some x → H1[x.1]? = H[x.1]? := fun i x hx => ho x.1 ((hP i x hx).lt)
  refine ⟨?_, L ++ [hX h], ?_, ?_, ?_⟩
  · show va_up h.1 (hX h) k 0 = 0
    rw [va_up_ne _ _ (by omega)]; exact h0
  · intro a
    rw [List.mem_append, List.mem_singleton, hL a]
    show _ ↔ va_up h.1 (hX h) k a ≠ 0
    by_cases ha : a = hX h
    · subst ha; rw [va_up_self]; exact ⟨fun _ => hk0, fun _ => Or.inr rfl⟩
    · rw [va_up_ne _ _ ha]; exact ⟨fun z => z.resolve_right ha, fun z => Or.inl z⟩
  · rw [← e]
    exact (hP.kept hk1).app (fun i x hx => by
      have hz : i < 1 := (List.getElem?_eq_some_iff.mp hx).1
      rw [show i = 0 by omega] at hx
      cases hx
      exact hnew)
  · rw [← e]
    exact hD.push hP hsz.symm hAx
theorem AlI.new {h0 : Hp} {k len n : Nat} (hk0 : k ≠ 0) (a : AlI R s h0 h cells slots) (c1 : hX h + 1 ≤ hC h) (c2 : hU h + n ≤ hZ h) : AlI R s h0 (nw h k len n) (cells + 1) (slots + n) := by
  obtain ⟨a1, a2, a3, a4, a5, a6, a7, a8, a9, a10⟩ := a
  have e1 : hX (nw h k len n) = hX h + 1 := rfl
  have e2 : hU (nw h k len n) = hU h + n := rfl
  refine ⟨a1, a2, a3, by omega, by omega, a6, a7, by omega, by omega, Or.inr ⟨by omega, ?_⟩⟩
  rw [e1, Nat.add_sub_cancel, hK_nw]; exact hk0
def NO (own : String) (index ci N : Nat) : Prop := ∃ (C : String) (T : u_T) (tf : Nat → FieldType), vwCl[ci]? = some (C, T, N) ∧ ci ≠ 0 ∧ ci < 100 ∧ (∀ w ∈ u_ws C T N, w ∈ UW) ∧ (∀ k, k < N → parseFieldDescriptor (T k).2.2.1 = some (tf k)) ∧ (∀ j, j < N → defaultValue (tf j) = vp_V ((FT ci).mapIdx (fun _ t => dv t)) j) ∧ Cond.classLink own index C ∈ UW ∧ Cond.instantiable C N ∈ UW ∧ Cond.initialized C ∈ UW
theorem g_newO {β : Type} {f : Nat → Hp → Option β} {r : β} {h0 : Hp} {N : Nat} (X : Cx p E A DD R s m args c cc own nL) (S : St E A s h H locs) (AI : AlI R s h0 h cells slots) (F : NO own index ci N) (hdg : decode cc pc = .ok (.new index, 3)) (hf : ob2 (newO ci N h) f = some r)
    (kk : ∀ (a : Nat) (h' : Hp) (H1 : Heap) (cells slots : Nat), hK h' a = ci → f a h' = some r → St E A s h' H1 locs → AlI R s h0 h' cells slots → W p l e R s m args below meth c H1 locs cells slots Q (F0 m (pc + 3) ls (rv a :: rest))) : W p l e R s m args below meth c H locs cells slots Q (F0 m pc ls rest) := by
  obtain ⟨a, h', e1, e2⟩ := ob2_some hf
  obtain ⟨⟨c0, c1, c2⟩, e3⟩ := if_some e1
  cases e3
  obtain ⟨C, T, tf, hc, hc0, hc1, hin, hty, hdf, k1, k2, k3⟩ := F
  obtain ⟨hx, hb, hu, hown, hK9, hml, hRm, hKo, hA⟩ := X
  refine W_know fun w1 w2 w3 => ?_
  have hsz := al_size S AI w1
  have AI2 := AlI.new (len := 0) (n := N) hc0 AI c1 c2
  have hKn := hK9.1 ci _ hc
  refine W.newcK hx hb hown (hu _ k1) (hu _ k2) (hu _ k3) rfl hdg AI2.2.2.2.2.2.2.2.1 AI2.2.2.2.2.2.2.2.2.1 hKn.2.1 hsz fun H1 kC hkC e1 z1 o1 => ?_
  have hnew : va_at (EG E) vwCl (hX h, cellOf E (nw h ci 0 N) (hX h)) H1 := by
    rw [cellOf_obj hK_nw hc1]
    refine ⟨_, hc, (u_born tf (fun w hw => hu w hw) hin hKn hkC e1 hty).to fun j hj => ?_⟩
    rw [hdf j hj]
    simp only [vl_nw]
  have hR2 := Rp_push hc0 c0 S.1 hsz (hA _ (by rw [← hsz]; exact S.2.1)) (fun q hq => o1 q (by rw [← hsz]; exact hq)) hnew
  have hS2 : va_S A s.heap H1 locs := ⟨Nat.le_trans S.2.1 (by omega), fun q h1 h2 => (o1 q (by have := S.2.1; omega)).trans (S.2.2.1 q h1 h2), S.2.2.2⟩
  have := kk (hX h) _ H1 _ _ hK_nw e2 ⟨hR2, hS2⟩ AI2
  rw [rv_ref (by omega)] at this
  exact this
theorem g_newI {β : Type} {f : Nat → Hp → Option β} {r : β} {h0 : Hp} {nn : Int32} (X : Cx p E A DD R s m args c cc own nL) (S : St E A s h H locs) (AI : AlI R s h0 h cells slots) (hdg : decode cc pc = .ok (.newarray .int, 2)) (hf : ob2 (newA 101 4 nn h) f = some r)
    (kk : ∀ (a : Nat) (h' : Hp) (H1 : Heap) (cells slots : Nat), f a h' = some r → St E A s h' H1 locs → AlI R s h0 h' cells slots → W p l e R s m args below meth c H1 locs cells slots Q (F0 m (pc + 2) ls (rv a :: rest))) : W p l e R s m args below meth c H locs cells slots Q (F0 m pc ls (.int nn :: rest)) := by
  obtain ⟨a, h', e1, e2⟩ := ob2_some hf
  obtain ⟨⟨c0, cn, cb, c1, c2⟩, e3⟩ := if_some e1
  cases e3
  obtain ⟨hx, hb, hu, hown, hK9, hml, hRm, hKo, hA⟩ := X
  refine W_know fun w1 w2 w3 => ?_
  have hsz := al_size S AI w1
  have AI2 := AlI.new (k := 101) (len := nn.toNatClampNeg) (n := nn.toNatClampNeg) (by decide) AI c1 c2
  refine va_newaK (atype := .int) hx hb (hu _ u_arr_int) rfl hdg rfl cn rfl cb AI2.2.2.2.2.2.2.2.1 AI2.2.2.2.2.2.2.2.2.1 hsz fun H1 cA e1 z1 o1 hAr hNm => ?_
  have hcA : cA = E.2.2.1 0 := by
    have := (hK9.2 0 _ ty0).2
    exact Option.some.inj (hNm.symm.trans this)
  have hnew : va_at (EG E) vwCl (hX h, cellOf E (nw h 101 nn.toNatClampNeg nn.toNatClampNeg) (hX h)) H1 := by
    rw [cellOf_int hK_nw, hN_nw]
    show H1[hX h]? = some (vp_cell _ _)
    rw [vp_cell_i, e1, hcA, show hI (nw h 101 nn.toNatClampNeg nn.toNatClampNeg) (hX h) = fun _ => 0 from va_up_self _ _ _]
    rfl
  have hR2 := Rp_push (by decide) c0 S.1 hsz (hA _ (by rw [← hsz]; exact S.2.1)) (fun q hq => o1 q (by rw [← hsz]; exact hq)) hnew
  have hS2 : va_S A s.heap H1 locs := ⟨Nat.le_trans S.2.1 (by omega), fun q h1 h2 => (o1 q (by have := S.2.1; omega)).trans (S.2.2.1 q h1 h2), S.2.2.2⟩
  have := kk (hX h) _ H1 _ _ e2 ⟨hR2, hS2⟩ AI2
  rw [rv_ref (by omega)] at this
  exact this
theorem g_newL {β : Type} {f : Nat → Hp → Option β} {r : β} {h0 : Hp} {nn : Int32} (X : Cx p E A DD R s m args c cc own nL) (S : St E A s h H locs) (AI : AlI R s h0 h cells slots) (hdg : decode cc pc = .ok (.newarray .long, 2)) (hf : ob2 (newA 102 8 nn h) f = some r)
    (kk : ∀ (a : Nat) (h' : Hp) (H1 : Heap) (cells slots : Nat), f a h' = some r → St E A s h' H1 locs → AlI R s h0 h' cells slots → W p l e R s m args below meth c H1 locs cells slots Q (F0 m (pc + 2) ls (rv a :: rest))) : W p l e R s m args below meth c H locs cells slots Q (F0 m pc ls (.int nn :: rest)) := by
  obtain ⟨a, h', e1, e2⟩ := ob2_some hf
  obtain ⟨⟨c0, cn, cb, c1, c2⟩, e3⟩ := if_some e1
  cases e3
  obtain ⟨hx, hb, hu, hown, hK9, hml, hRm, hKo, hA⟩ := X
  refine W_know fun w1 w2 w3 => ?_
  have hsz := al_size S AI w1
  have AI2 := AlI.new (k := 102) (len := nn.toNatClampNeg) (n := nn.toNatClampNeg) (by decide) AI c1 c2
  refine va_newaK (atype := .long) hx hb (hu _ u_arr_long) rfl hdg rfl cn rfl cb AI2.2.2.2.2.2.2.2.1 AI2.2.2.2.2.2.2.2.2.1 hsz fun H1 cA e1 z1 o1 hAr hNm => ?_
  have hcA : cA = E.2.2.1 1 := by
    have := (hK9.2 1 _ ty1).2
    exact Option.some.inj (hNm.symm.trans this)
  have hnew : va_at (EG E) vwCl (hX h, cellOf E (nw h 102 nn.toNatClampNeg nn.toNatClampNeg) (hX h)) H1 := by
    rw [cellOf_long hK_nw, hN_nw]
    show H1[hX h]? = some (vp_cell _ _)
    rw [e1, hcA, show hL (nw h 102 nn.toNatClampNeg nn.toNatClampNeg) (hX h) = fun _ => 0 from va_up_self _ _ _]
    rfl
  have hR2 := Rp_push (by decide) c0 S.1 hsz (hA _ (by rw [← hsz]; exact S.2.1)) (fun q hq => o1 q (by rw [← hsz]; exact hq)) hnew
  have hS2 : va_S A s.heap H1 locs := ⟨Nat.le_trans S.2.1 (by omega), fun q h1 h2 => (o1 q (by have := S.2.1; omega)).trans (S.2.2.1 q h1 h2), S.2.2.2⟩
  have := kk (hX h) _ H1 _ _ e2 ⟨hR2, hS2⟩ AI2
  rw [rv_ref (by omega)] at this
  exact this
theorem ra_same {s : State} {cA cB : ClassId} {C : String} (h : va_RA s cB (.object C)) (f1 : s.vm.findClass ("[" ++ (FieldType.object C).toString) = some cA) : cA = cB := by
  obtain ⟨kA, comp, -, -, -, h4⟩ := h
  exact Option.some.inj (f1.symm.trans h4)
theorem g_newQ {β : Type} {f : Nat → Hp → Option β} {r : β} {h0 : Hp} {nn : Int32} {t0 : Nat} {C : String} (X : Cx p E A DD R s m args c cc own nL) (S : St E A s h H locs) (AI : AlI R s h0 h cells slots) (ht : (t0 = 2 ∨ t0 = 3 ∨ t0 = 4) ∧ (tysE E)[t0]? = some (E.2.2.1 t0, .object C)) (hover : va_AO C s) (hcl : Cond.classLink own index C ∈ UW) (hdg : decode cc pc = .ok (.anewarray index, 3)) (hf : ob2 (newA (t0 + 101) 4 nn h) f = some r)
    (kk : ∀ (a : Nat) (h' : Hp) (H1 : Heap) (cells slots : Nat), f a h' = some r → St E A s h' H1 locs → AlI R s h0 h' cells slots → W p l e R s m args below meth c H1 locs cells slots Q (F0 m (pc + 3) ls (rv a :: rest))) : W p l e R s m args below meth c H locs cells slots Q (F0 m pc ls (.int nn :: rest)) := by
  obtain ⟨a, h', e1, e2⟩ := ob2_some hf
  obtain ⟨⟨c0, cn, cb, c1, c2⟩, e3⟩ := if_some e1
  cases e3
  obtain ⟨hx, hb, hu, hown, hK9, hml, hRm, hKo, hA⟩ := X
  refine W_know fun w1 w2 w3 => ?_
  have hsz := al_size S AI w1
  have AI2 := AlI.new (k := t0 + 101) (len := nn.toNatClampNeg) (n := nn.toNatClampNeg) (by omega) AI c1 c2
  refine W.anew hx hb hown (hu _ hcl) (va_AO.use hover) rfl hdg rfl cn cb AI2.2.2.2.2.2.2.2.1 AI2.2.2.2.2.2.2.2.2.1 fun cA kA comp f1 f2 f3 f4 => ?_
  rw [hsz]
  generalize hH1 : H.push ({ cls := cA, slots := Array.replicate nn.toNatClampNeg .null, vm := .none } : Cell) = H1
  have z1 : H1.size = hX h + 1 := by rw [← hH1, Array.size_push, hsz]
  have e1 : H1[hX h]? = some (arrV cA nn.toNatClampNeg (fun _ => .null)) := by rw [← hH1, ← hsz, Array.getElem?_push_size, ← arrV_new]
  have o1 : ∀ q : Nat, q < H.size → H1[q]? = H[q]? := fun q hq => by rw [← hH1, Array.getElem?_push, if_neg (Nat.ne_of_lt hq)]
  have hcA : cA = E.2.2.1 t0 := ra_same (hK9.2 t0 _ ht.2).2 f1
  have hcell : cellOf E (nw h (t0 + 101) nn.toNatClampNeg nn.toNatClampNeg) (hX h) = .inl (E.2.2.1 t0, nn.toNatClampNeg, .inr (.inr (.inr (.inr (fun _ => none))))) := by
    have hr0 : hR (nw h (t0 + 101) nn.toNatClampNeg nn.toNatClampNeg) (hX h) = fun _ => 0 := va_up_self _ _ _
    rcases ht.1 with rfl | rfl | rfl
    · rw [cellOf_ref hK_nw (by decide), hN_nw, hr0]; rfl
    · rw [cellOf_ref hK_nw (by decide), hN_nw, hr0]; rfl
    · rw [cellOf_str hK_nw, hN_nw, hr0]; rfl
  have hnew : va_at (EG E) vwCl (hX h, cellOf E (nw h (t0 + 101) nn.toNatClampNeg nn.toNatClampNeg) (hX h)) H1 := by
    rw [hcell]
    show H1[hX h]? = some (vp_cell _ _)
    rw [vp_cell_q, e1, hcA]
    rfl
  have hR2 := Rp_push (by omega) c0 S.1 hsz (hA _ (by rw [← hsz]; exact S.2.1)) o1 hnew
  have hS2 : va_S A s.heap H1 locs := ⟨Nat.le_trans S.2.1 (by omega), fun q h1 h2 => (o1 q (by have := S.2.1; omega)).trans (S.2.2.1 q h1 h2), S.2.2.2⟩
  have := kk (hX h) _ H1 _ _ e2 ⟨hR2, hS2⟩ AI2
  rw [rv_ref (by omega)] at this
  exact this
-- calls of what makes cells
def Grow (H0 H : Heap) (n : Nat) : Prop := nS H0 H ≤ n ∧ Kept H0 H
def QG (Q0 : Array Value → State → Outcome → State → Prop) (h h' : Hp) : Array Value → State → Outcome → State → Prop := fun a st o t => Q0 a st o t ∧ t.heap.size = hX h' ∧ Grow st.heap t.heap (hU h' - hU h)
def PcF (E : EE) (A : Nat → Prop) (h : Hp) (av : List Value) : Array Value → State → Prop := fun a U => PcE E A h av a U ∧ U.heap.size = hX h
theorem blindF {av : List Value} : FrameBlind (PcF E A h av) := fun a U g mk q => ⟨blindE a U g mk q.1, q.2⟩
theorem met_ofA {y : MethodName} {b : ByteArray} {maxL D mc ms : Nat} {ret : Option FieldType} {av : List Value} {Qc : Array Value → State → Outcome → State → Prop} (hy : plainName y.cls = true) (hn : (lg_sl av).length ≤ maxL) (hmc : mc + hX h = hC h) (hms : ms + hU h = hZ h)
    (body : ∀ (p : Program) (e : Env) (s : State) (m : MethodId) (args : Array Value) (below : List Frame) (meth : Method) (c : Code) (ls : Array Slot), Cx p E A D (rmm D mc ms) s m args c b y.cls maxL → meth.sig.returnType = ret → meth.locks = false → meth.name = y.name → St E A s h s.heap [] → AlI (rmm D mc ms) s h h 0 0 → lv_has ls maxL (lv_args 0 av) →
      W p l e (rmm D mc ms) s m args below meth c s.heap [] 0 0 (MQ below Qc args s mc ms A) (F0 m 0 ls [])) : Met l y (wsM y b maxL ret) (rmm D mc ms) (PcF E A h av) Qc mc ms A := by
  refine Met.ofW (cc := b) (maxL := maxL) (ret := ret) hy rfl ?_
  intro p e s m args below meth c s₁ B hml hv
  obtain ⟨⟨rfl, hR, hK9, hKo, hA⟩, hsz⟩ := hv
  have hts := atoms_spec (ws := wsM y b maxL ret) B.pre
  rw [lg_entry_eq]
  exact body p e s m _ below meth c _ ⟨B.exec, B.bytes, fun w hw => hts w (List.mem_cons_of_mem _ hw), findClass_of_methodNamed B.named, hK9, hml, ⟨Nat.le_refl _, Nat.le_refl _⟩, hKo, hA⟩ B.returns B.notSynchronized (name_of_methodNamed B.named B.method).1 ⟨hR, va_S.rf⟩ ⟨hmc, hms, hsz, rfl, rfl, rfl, rfl, Nat.zero_le _, Nat.zero_le _, Or.inl rfl⟩ (lv_entry av hn)
theorem pre_okF (X : Cx p E A DD R s m args c cc own nL) (S : St E A s h H locs) (hsz : H.size = hX h) (av : List Value) (U : State) (hU : U.heap = H) (hW : s.WarmedH U.vm) : PcF E A h av av.toArray U := ⟨pre_ok X S av U hU hW, by rw [hU]; exact hsz⟩
theorem runVF (X : Cx p E A DD R s m args c cc own nL) (S : St E A s h H locs) (hsz : H.size = hX h) (O : COV own index y b maxL ret n ci) (hD : D + 1 ≤ DD) (hM : Met l y (wsM y b maxL ret) (rmm D mc ms) (PcF E A h (rv a :: As)) Qc mc ms A) (hk : hK h a = ci) (hn : As.length = n) (hl : ls.size = nL) (hst : (rest.map fun v => v.category).sum ≤ 8) (hs : st = As.reverse ++ rv a :: rest) (hf : cells + mc ≤ R.cells ∧ slots + ms ≤ R.slots)
    (hdg : decode cc pc = .ok (.invokevirtual index, 3)) : va_Run p l e R s m args below meth c H locs cells slots mc ms (F0 m pc ls st) rest (Qc (rv a :: As).toArray) A := by
  obtain ⟨o1, o2, o3, T, N, o4, o5, o6⟩ := O
  have cb := callb (mc := mc) (ms := ms) X o1 hD
  have hpre := pre_okF X S hsz (rv a :: As)
  obtain ⟨hx, hb, hu, hown, hK9, hml, hRm, hKo, hA⟩ := X
  obtain ⟨⟨h0, L, hL, hP, hD9⟩, hS⟩ := S
  have hra := rv_ref (dom_ne h0 hk o5)
  rw [hra] at hM hs hpre ⊢
  obtain ⟨q0, hq⟩ := va_pl_get (X := []) (f := cellOf E h) ((hL a).2 (by rw [hk]; exact o5))
  rw [cellOf_obj hk o6] at hq
  exact va_runV (C := y.cls) (ws := wsM y b maxL ret) (rm := rmm D mc ms) ⟨hx, hb, hml, hown, hu⟩ hM ⟨cb, hu _ o2, hu _ o3⟩ ⟨blindF, va_recv hK9 hP o4 hq, hpre⟩ rfl hn hl hs (lv_room hst) hdg hf
theorem runIF (X : Cx p E A DD R s m args c cc own nL) (S : St E A s h H locs) (hsz : H.size = hX h) (O : COI own index y b maxL n) (hD : D + 1 ≤ DD) (hM : Met l y (wsM y b maxL none) (rmm D mc ms) (PcF E A h (rv a :: As)) Qc mc ms A) (hk : hK h a = ci) (hc0 : ci ≠ 0) (hn : As.length = n) (hl : ls.size = nL) (hst : (rest.map fun v => v.category).sum ≤ 8) (hs : st = As.reverse ++ rv a :: rest) (hf : cells + mc ≤ R.cells ∧ slots + ms ≤ R.slots)
    (hdg : decode cc pc = .ok (.invokespecial index, 3)) : va_Run p l e R s m args below meth c H locs cells slots mc ms (F0 m pc ls st) rest (Qc (rv a :: As).toArray) A := by
  obtain ⟨o1, o2, o3⟩ := O
  have cb := callb (mc := mc) (ms := ms) X o1 hD
  have hpre := pre_okF X S hsz (rv a :: As)
  obtain ⟨hx, hb, hu, hown, hK9, hml, hRm, hKo, hA⟩ := X
  have hra := rv_ref (dom_ne S.1.1 hk hc0)
  rw [hra] at hM hs hpre ⊢
  exact va_runI (ws := wsM y b maxL none) (rm := rmm D mc ms) ⟨hx, hb, hml, hown, hu⟩ hM ⟨cb, o3, hu _ o2⟩ ⟨blindF, hpre⟩ rfl hn hl hs (lv_room hst) hdg hf
/-- room for such a call: all that is left -/
theorem AlI.room {h0 : Hp} (a : AlI R s h0 h cells slots) : cells + (hC h - hX h) ≤ R.cells ∧ slots + (hZ h - hU h) ≤ R.slots := by
  obtain ⟨a1, a2, a3, a4, a5, a6, a7, a8, a9, a10⟩ := a
  exact ⟨by omega, by omega⟩
theorem AlI.mcs {h0 : Hp} (a : AlI R s h0 h cells slots) : (hC h - hX h) + hX h = hC h ∧ (hZ h - hU h) + hU h = hZ h := by
  obtain ⟨a1, a2, a3, a4, a5, a6, a7, a8, a9, a10⟩ := a
  exact ⟨by omega, by omega⟩
theorem g_A {g : JFrame} {h0 : Hp} {Qa : State → Outcome → State → Prop} {k9 n9 : Nat} (S : St E A s h H locs) (AI : AlI R s h0 h cells slots) (hsz : H.size = hX h) (hn0 : nS s.heap H ≤ slots) (ok : okA h h')
    (hr : va_Run p l e R s m args below meth c H locs cells slots k9 n9 g rest Qa A) (hQ : ∀ (st₀ t : State) (v : Option Value), st₀.heap = H → Qa st₀ (.returned v) t → Rp E A h' t.heap ∧ va_F A st₀ t ∧ t.heap.size = hX h' ∧ Grow st₀.heap t.heap (hU h' - hU h))
    (kk : ∀ (v : Option Value) (st₀ t : State) (H1 : Heap) (locs1 : List Loc) (cells slots : Nat), Qa st₀ (.returned v) t → St E A s h' H1 locs1 → AlI R s h0 h' cells slots → W p l e R s m args below meth c H1 locs1 cells slots Q { g with pc := g.pc + 3, stack := v.toList ++ rest }) : W p l e R s m args below meth c H locs cells slots Q g := by
  intro T hT X
  obtain ⟨v, st₀, t, T', L, b0, X', hL, e1, e2, q0, st⟩ := hr T hT X
  obtain ⟨q1, ⟨z1, z2⟩, q3, q4, q5⟩ := hQ st₀ t v b0 q0
  rw [b0] at z1 z2 q4 q5
  obtain ⟨a1, a2, a3, a4, a5, a6, a7, a8, a9, a10⟩ := AI
  obtain ⟨o1, o2, o3, o4, o5, o6, o7⟩ := ok
  have hS : va_S A s.heap t.heap (locs ++ L) := ⟨Nat.le_trans S.2.1 z1, fun q h1 h2 => (z2 q (Nat.lt_of_lt_of_le h1 S.2.1) h2).trans (S.2.2.1 q h1 h2), fun q hq => (List.mem_append.mp hq).elim (S.2.2.2 q) (hL q)⟩
  have AI2 : AlI R s h0 h' (hX h' - hX h0) (hU h' - hU h0) := ⟨a1, a2, a3, by omega, by omega, by omega, by omega, by omega, by omega, by
    rcases o7 with ⟨p1, p2⟩ | p
    · rw [p1, p2]; exact a10
    · exact Or.inr p⟩
  have key := kk v st₀ t t.heap (locs ++ L) _ _ q0 ⟨q1, hS⟩ AI2
  have hadd : nS s.heap t.heap = nS s.heap H + nS H t.heap := nS_add S.2.1 z1 q5
  obtain ⟨t2, c1, c2⟩ := W_narrow (cells := cells + k9) (slots := slots + n9) (by omega) (by omega) key T' e1 X'
  exact ⟨t2, st t2 c1, c2⟩
theorem g_cvA {h0 : Hp} {k9 n9 : Nat} (S : St E A s h H locs) (AI : AlI R s h0 h cells slots) (ok : okA h h') (hr : H.size = hX h → va_Run p l e R s m args below meth c H locs cells slots k9 n9 (F0 m pc ls st) rest (QG (Qv E A h') h h' av.toArray) A)
    (kk : ∀ (H1 : Heap) (locs1 : List Loc) (cells slots : Nat), St E A s h' H1 locs1 → AlI R s h0 h' cells slots → W p l e R s m args below meth c H1 locs1 cells slots Q (F0 m (pc + 3) ls rest)) : W p l e R s m args below meth c H locs cells slots Q (F0 m pc ls st) := by
  refine W_know fun w1 w2 w3 => ?_
  have hsz := al_size S AI w1
  refine g_A S AI hsz w2 ok (hr hsz) (fun st₀ t v b0 q => ?_) (fun v st₀ t H1 locs1 cells slots q S1 A1 => ?_)
  · obtain ⟨⟨⟨u, hv, -, hB⟩, hF⟩, q2, q3⟩ := q
    exact ⟨hB, hF, q2, q3⟩
  · obtain ⟨⟨⟨u, hv, -, hB⟩, hF⟩, q2, q3⟩ := q
    cases hv
    exact kk H1 locs1 cells slots S1 A1
theorem g_ciA {h0 : Hp} {k9 n9 : Nat} {v : Int32} (S : St E A s h H locs) (AI : AlI R s h0 h cells slots) (ok : okA h h') (hr : H.size = hX h → va_Run p l e R s m args below meth c H locs cells slots k9 n9 (F0 m pc ls st) rest (QG (Qi E A h' v) h h' av.toArray) A)
    (kk : ∀ (H1 : Heap) (locs1 : List Loc) (cells slots : Nat), St E A s h' H1 locs1 → AlI R s h0 h' cells slots → W p l e R s m args below meth c H1 locs1 cells slots Q (F0 m (pc + 3) ls (.int v :: rest))) : W p l e R s m args below meth c H locs cells slots Q (F0 m pc ls st) := by
  refine W_know fun w1 w2 w3 => ?_
  have hsz := al_size S AI w1
  refine g_A S AI hsz w2 ok (hr hsz) (fun st₀ t v b0 q => ?_) (fun v st₀ t H1 locs1 cells slots q S1 A1 => ?_)
  · obtain ⟨⟨⟨r, u, hv, -, hB⟩, hF⟩, q2, q3⟩ := q
    exact ⟨hB, hF, q2, q3⟩
  · obtain ⟨⟨⟨r, u, hv, rfl, hB⟩, hF⟩, q2, q3⟩ := q
    cases hv
    exact kk H1 locs1 cells slots S1 A1
theorem g_cqA {h0 : Hp} {k9 n9 : Nat} {v : Option Nat} (S : St E A s h H locs) (AI : AlI R s h0 h cells slots) (ok : okA h h') (hr : H.size = hX h → va_Run p l e R s m args below meth c H locs cells slots k9 n9 (F0 m pc ls st) rest (QG (Qq E A h' v) h h' av.toArray) A)
    (kk : ∀ (H1 : Heap) (locs1 : List Loc) (cells slots : Nat), St E A s h' H1 locs1 → AlI R s h0 h' cells slots → W p l e R s m args below meth c H1 locs1 cells slots Q (F0 m (pc + 3) ls (va_rf v :: rest))) : W p l e R s m args below meth c H locs cells slots Q (F0 m pc ls st) := by
  refine W_know fun w1 w2 w3 => ?_
  have hsz := al_size S AI w1
  refine g_A S AI hsz w2 ok (hr hsz) (fun st₀ t v b0 q => ?_) (fun v st₀ t H1 locs1 cells slots q S1 A1 => ?_)
  · obtain ⟨⟨⟨r, u, hv, -, hB⟩, hF⟩, q2, q3⟩ := q
    exact ⟨hB, hF, q2, q3⟩
  · obtain ⟨⟨⟨r, u, hv, rfl, hB⟩, hF⟩, q2, q3⟩ := q
    cases hv
    exact kk H1 locs1 cells slots S1 A1
/-- at a return: what came is told -/
theorem g_end {h0 : Hp} {g : JFrame} {Q0 : Array Value → State → Outcome → State → Prop} (S : St E A s h H locs) (AI : AlI R s h0 h cells slots)
    (kk : (∀ t : State, t.heap = H → t.heap.size = hX h ∧ Grow s.heap t.heap (hU h - hU h0)) → W p l e R s m args below meth c H locs R.cells R.slots (MQ below (QG Q0 h0 h) args s R.cells R.slots A) g) : W p l e R s m args below meth c H locs cells slots (MQ below (QG Q0 h0 h) args s R.cells R.slots A) g := by
  refine W_know fun w1 w2 w3 => ?_
  have hsz := al_size S AI w1
  have a5 := AI.2.2.2.2.1
  exact W.widen AI.2.2.2.2.2.2.2.1 AI.2.2.2.2.2.2.2.2.1 (kk fun t ht => by rw [ht]; exact ⟨hsz, by show nS _ _ ≤ _; omega, w3⟩)
theorem g_rvA {h0 : Hp} (X : Cx p E A DD R s m args c cc own nL) (S : St E A s h H locs) (AI : AlI R s h0 h cells slots) (hr : meth.sig.returnType = none) (hlk : meth.locks = false) (hdg : decode cc pc = .ok (.return_, 1)) :
    W p l e R s m args below meth c H locs cells slots (MQ below (QG (Qv E A h) h0 h) args s R.cells R.slots A) (F0 m pc ls []) :=
  g_end S AI fun kx => W.vret X.1 X.2.1 hr (fun t ht hW => ⟨⟨⟨(), rfl, trivial, by show Rp E A h t.heap; rw [ht]; exact S.1⟩, S.2.F ht⟩, kx t ht⟩) S.2.2.2 hdg hlk
theorem g_riA {h0 : Hp} {v : Int32} (X : Cx p E A DD R s m args c cc own nL) (S : St E A s h H locs) (AI : AlI R s h0 h cells slots) (hr : meth.sig.returnType = some .int) (hlk : meth.locks = false) (hdg : decode cc pc = .ok (.ireturn, 1)) :
    W p l e R s m args below meth c H locs cells slots (MQ below (QG (Qi E A h v) h0 h) args s R.cells R.slots A) (F0 m pc ls [.int v]) :=
  g_end S AI fun kx => W.iret X.1 X.2.1 hr (fun t ht hW => ⟨⟨⟨v, (), rfl, rfl, by show Rp E A h t.heap; rw [ht]; exact S.1⟩, S.2.F ht⟩, kx t ht⟩) S.2.2.2 hdg hlk
theorem g_rzA {h0 : Hp} {v : Int32} (X : Cx p E A DD R s m args c cc own nL) (S : St E A s h H locs) (AI : AlI R s h0 h cells slots) (hr : meth.sig.returnType = some .boolean) (hlk : meth.locks = false) (hz : v = 0 ∨ v = 1) (hdg : decode cc pc = .ok (.ireturn, 1)) :
    W p l e R s m args below meth c H locs cells slots (MQ below (QG (Qi E A h v) h0 h) args s R.cells R.slots A) (F0 m pc ls [.int v]) :=
  g_end S AI fun kx => W.zret X.1 X.2.1 hr (by rcases hz with rfl | rfl <;> rfl) (fun t ht hW => ⟨⟨⟨v, (), rfl, rfl, by show Rp E A h t.heap; rw [ht]; exact S.1⟩, S.2.F ht⟩, kx t ht⟩) S.2.2.2 hdg hlk
theorem g_rqA {h0 : Hp} {v : Option Nat} {rt : FieldType} (X : Cx p E A DD R s m args c cc own nL) (S : St E A s h H locs) (AI : AlI R s h0 h cells slots) (hr : meth.sig.returnType = some rt) (hrt : isR rt) (hlk : meth.locks = false) (hdg : decode cc pc = .ok (.areturn, 1)) :
    W p l e R s m args below meth c H locs cells slots (MQ below (QG (Qq E A h v) h0 h) args s R.cells R.slots A) (F0 m pc ls [va_rf v]) :=
  g_end S AI fun kx => W.aret X.1 X.2.1 hr hrt (va_rf_or v) (fun t ht hW => ⟨⟨⟨v, (), rfl, rfl, by show Rp E A h t.heap; rw [ht]; exact S.1⟩, S.2.F ht⟩, kx t ht⟩) S.2.2.2 hdg hlk
-- ===== what is thrown =====
def XX (E : EE) (A : Nat → Prop) (h : Hp) (k : Nat) : String → State → State → Prop := vx_X (fun (_ : Unit) => True) (fun En _ t => En = exN k ∧ Rp E A h t.heap) A
def noQ : Array Value → State → Outcome → State → Prop := fun _ _ _ _ => False
theorem oe_some {α β : Type} {x : Option (Nat ⊕ α)} {g : Nat → Option β} {f : α → Option β} {r : β} (h : oe x g f = some r) : (∃ k, x = some (.inl k) ∧ g k = some r) ∨ (∃ v, x = some (.inr v) ∧ f v = some r) := by
  cases x with
  | none => cases h
  | some y => cases y with
    | inl k => exact Or.inl ⟨k, rfl, h⟩
    | inr v => exact Or.inr ⟨v, rfl, h⟩
theorem met_ofX {y : MethodName} {b : ByteArray} {maxL D mc ms k : Nat} {ret : Option FieldType} {av : List Value} (hy : plainName y.cls = true) (hn : (lg_sl av).length ≤ maxL)
    (body : ∀ (p : Program) (e : Env) (s : State) (m : MethodId) (args : Array Value) (below : List Frame) (meth : Method) (c : Code) (ls : Array Slot), Cx p E A D (rmm D mc ms) s m args c b y.cls maxL → meth.sig.returnType = ret → meth.locks = false → meth.name = y.name → (∀ x ∈ c.exceptionTable.toList, False) → St E A s h s.heap [] → lv_has ls maxL (lv_args 0 av) →
      W p l e (rmm D mc ms) s m args below meth c s.heap [] 0 0 (vx_MQ below noQ (XX E A h' k) args s mc ms A) (F0 m 0 ls [])) : vx_Met l y (wsM y b maxL ret) (rmm D mc ms) (PcE E A h av) noQ (XX E A h' k) mc ms A := by
  refine vx_ofW (cc := b) (maxL := maxL) (ret := ret) hy rfl ?_
  intro p e s m args below meth c s₁ B hml hne hv
  obtain ⟨rfl, hR, hK9, hKo, hA⟩ := hv
  have hts := atoms_spec (ws := wsM y b maxL ret) B.pre
  rw [lg_entry_eq]
  exact body p e s m _ below meth c _ ⟨B.exec, B.bytes, fun w hw => hts w (List.mem_cons_of_mem _ hw), findClass_of_methodNamed B.named, hK9, hml, ⟨Nat.le_refl _, Nat.le_refl _⟩, hKo, hA⟩ B.returns B.notSynchronized (name_of_methodNamed B.named B.method).1 hne ⟨hR, va_S.rf⟩ (lv_entry av hn)
theorem runVX (X : Cx p E A DD R s m args c cc own nL) (S : St E A s h H locs) {k : Nat} (O : COV own index y b maxL ret n ci) (hD : D + 1 ≤ DD) (hM : vx_Met l y (wsM y b maxL ret) (rmm D mc ms) (PcE E A h (rv a :: As)) noQ (XX E A h' k) mc ms A) (hk : hK h a = ci) (hn : As.length = n) (hl : ls.size = nL) (hst : (rest.map fun v => v.category).sum ≤ 8) (hs : st = As.reverse ++ rv a :: rest) (hf : cells + mc ≤ R.cells ∧ slots + ms ≤ R.slots)
    (hdg : decode cc pc = .ok (.invokevirtual index, 3)) : vx_Run p l e R s m args below meth c H locs cells slots mc ms (F0 m pc ls st) rest (noQ (rv a :: As).toArray) (XX E A h' k) A := by
  obtain ⟨o1, o2, o3, T, N, o4, o5, o6⟩ := O
  have cb := callb (mc := mc) (ms := ms) X o1 hD
  have hpre := pre_ok X S (rv a :: As)
  obtain ⟨hx, hb, hu, hown, hK9, hml, hR, hKo, hA⟩ := X
  obtain ⟨⟨h0, L, hL, hP, hD9⟩, hS⟩ := S
  have hra := rv_ref (dom_ne h0 hk o5)
  rw [hra] at hM hs hpre ⊢
  obtain ⟨q0, hq⟩ := va_pl_get (X := []) (f := cellOf E h) ((hL a).2 (by rw [hk]; exact o5))
  rw [cellOf_obj hk o6] at hq
  exact vx_runV (C := y.cls) (ws := wsM y b maxL ret) (rm := rmm D mc ms) ⟨hx, hb, hml, hown, hu⟩ hM ⟨cb, hu _ o2, hu _ o3⟩ ⟨blindE, va_recv hK9 hP o4 hq, hpre⟩ rfl hn hl hs (lv_room hst) hdg hf
theorem runSX (X : Cx p E A DD R s m args c cc own nL) (S : St E A s h H locs) {k : Nat} (O : COS own index y b maxL ret n) (hD : D + 1 ≤ DD) (hM : vx_Met l y (wsM y b maxL ret) (rmm D mc ms) (PcE E A h As) noQ (XX E A h' k) mc ms A) (hn : As.length = n) (hl : ls.size = nL) (hst : (rest.map fun v => v.category).sum ≤ 8) (hs : st = As.reverse ++ rest) (hf : cells + mc ≤ R.cells ∧ slots + ms ≤ R.slots)
    (hdg : decode cc pc = .ok (.invokestatic index, 3)) : vx_Run p l e R s m args below meth c H locs cells slots mc ms (F0 m pc ls st) rest (noQ As.toArray) (XX E A h' k) A := by
  obtain ⟨o1, o2⟩ := O
  have cb := callb (mc := mc) (ms := ms) X o1 hD
  have hpre := pre_ok X S As
  obtain ⟨hx, hb, hu, hown, hK9, hml, hR, hKo, hA⟩ := X
  exact vx_runS (ws := wsM y b maxL ret) (rm := rmm D mc ms) ⟨hx, hb, hml, hown, hu⟩ hM ⟨cb, hu _ o2⟩ ⟨blindE, hpre⟩ rfl hn hl hs (lv_room hst) hdg hf
/-- a callee has thrown: wherever it lands -/
theorem g_thrown {k : Nat} {Qa : Array Value} {k9 n9 : Nat} (S : St E A s h H locs) (hr : vx_Run p l e R s m args below meth c H locs cells slots k9 n9 (F0 m pc ls st) rest (noQ Qa) (XX E A h' k) A)
    (kx : ∀ (ce : Cell) (q9 : Addr) (H1 : Heap) (locs1 : List Loc), St E A s h' H1 locs1 → H.size ≤ H1.size → H1[q9]? = some ce → ce.vm = .none → s.vm.findClass (exN k) = some ce.cls → vx_W p l e R s m args below meth c H1 locs1 (cells + k9) (slots + n9) Q (F0 m pc ls rest) q9) : W p l e R s m args below meth c H locs cells slots Q (F0 m pc ls st) := by
  intro T hT X
  rcases hr T hT X with ⟨v, st₀, t, T', L, b0, X', hL, e1, e2, q0, st⟩ | ⟨q, st₀, t, T', L, En, ce, b0, X', hL, e1, e2, ⟨u, -, ⟨hEn, hB⟩, hF⟩, hce, hcv, hcl, st⟩
  · exact q0.elim
  · obtain ⟨z1, z2⟩ := hF
    rw [b0] at z1 z2
    subst hEn
    have hS : va_S A s.heap t.heap (locs ++ L) := ⟨Nat.le_trans S.2.1 z1, fun q h1 h2 => (z2 q (Nat.lt_of_lt_of_le h1 S.2.1) h2).trans (S.2.2.1 q h1 h2), fun q hq => (List.mem_append.mp hq).elim (S.2.2.2 q) (hL q)⟩
    obtain ⟨t2, a1, b1⟩ := kx ce q t.heap (locs ++ L) ⟨hB, hS⟩ z1 hce hcv hcl T' e1 X'
    exact ⟨t2, st.trans a1, b1⟩
/-- it goes on to the caller -/
theorem g_pass {k : Nat} {Qa : Array Value} (S : St E A s h H locs) (hne : ∀ x ∈ c.exceptionTable.toList, False) (hlk : meth.locks = false) (hr : vx_Run p l e R s m args below meth c H locs 0 0 1 6 (F0 m pc ls st) rest (noQ Qa) (XX E A h' k) A) :
    W p l e R s m args below meth c H locs 0 0 (vx_MQ below noQ (XX E A h' k) args s 1 6 A) (F0 m pc ls st) := by
  refine g_thrown S hr (fun ce q9 H1 locs1 S1 hz hce hcv hcl => ?_)
  exact vx_out (E := exN k) (fun x hx => (hne x hx).elim) hlk hce hcv hcl (fun t ht hvm => ⟨(), trivial, ⟨rfl, by rw [ht]; exact S1.1⟩, S1.2.F ht⟩) S1.2.2.2 (Nat.le_refl _) (Nat.le_refl _)
/-- where the constructor of an exception's class names its super's, and its code -/
def exI (k : Nat) : Nat := if k = 1 then 13 else 7
def exR (k : Nat) : ByteArray := if k = 1 then ⟨#[0x2a, 0x2b, 0xb7, 0x00, 0x0d, 0xb1]⟩ else Bundle.six
theorem exR0 (k : Nat) : decode (exR k) 0 = .ok (.aload_n 0, 1) ∧ decode (exR k) 1 = .ok (.aload_n 1, 1) ∧ decode (exR k) 2 = .ok (.invokespecial (exI k), 3) ∧ decode (exR k) 5 = .ok (.return_, 1) := by
  unfold exR exI
  by_cases h : k = 1
  · rw [if_pos h, if_pos h]
    exact ⟨by decide +kernel, by decide +kernel, by decide +kernel, by decide +kernel⟩
  · rw [if_neg h, if_neg h]
    exact ⟨Bundle.six_0, Bundle.six_1, Bundle.six_2, Bundle.six_5⟩
def TFo (own : String) (ik is ic k : Nat) : Prop := ∃ (text : String) (names : List String), Bundle.fit (exN k) = true ∧ (∀ n ∈ names, Bundle.fit n = true) ∧ names.length ≤ 4 ∧ Cond.classLink own ik (exN k) ∈ UW ∧ Cond.initialized (exN k) ∈ UW ∧ (own, is, text) ∈ exL ∧ (∀ w ∈ vx_atX own ic (exN k) (exI k) (exR k) names, w ∈ UW ∨ w ∈ exW k) ∧ (∀ w ∈ Cond.classLink own ik (exN k) :: Cond.initialized (exN k) :: vx_atX own ic (exN k) (exI k) (exR k) names, vx_ot w = true)
theorem ux_or {L Z : List Cond} (h : L.all (fun w => (decide (w ∈ lw_tbl) && goodWord w) || decide (w ∈ Z)) = true) : ∀ w ∈ L, w ∈ UW ∨ w ∈ Z := by
  intro w hw
  have h1 := List.all_eq_true.mp h w hw
  simp only [Bool.or_eq_true, Bool.and_eq_true, decide_eq_true_eq] at h1
  exact h1.elim (fun q => Or.inl (List.mem_filter.mpr q)) Or.inr
theorem vx_ot_all {a b : Cond} {L : List Cond} (h : (a :: b :: L).all vx_ot = true) : ∀ w ∈ a :: b :: L, vx_ot w = true := List.all_eq_true.mp h
/-- 'throw new E("text")' -/
theorem g_throw {k ik is ic : Nat} (X : Cx p E A DD R s m args c cc own nL) (S : St E A s h H locs) (hne : ∀ x ∈ c.exceptionTable.toList, False) (hlk : meth.locks = false) (hlt : l.stackTraces = false) (hl : ls.size = nL) (hDD : 8 ≤ DD) (hst : (rest.map fun v => v.category).sum ≤ 8)
    (F : TFo own ik is ic k) (d0 : decode cc pc = .ok (.new ik, 3)) (d3 : decode cc (pc + 3) = .ok (.dup, 1)) (d4 : decode cc (pc + 4) = .ok (.ldc is, 2)) (d6 : decode cc (pc + 6) = .ok (.invokespecial ic, 3)) (d9 : decode cc (pc + 9) = .ok (.athrow, 1)) (hR1 : 1 ≤ R.cells ∧ 6 ≤ R.slots) :
    W p l e R s m args below meth c H locs 0 0 (vx_MQ below noQ (XX E A h k) args s 1 6 A) (F0 m pc ls rest) := by
  obtain ⟨hx, hb, hu, hown, hK9, hml, hRm, hKo, hA⟩ := X
  obtain ⟨text, names, f1, f2, f3, f4, f5, f6, f7, f8⟩ := F
  obtain ⟨-, -, -, -, -, -, hex, hzU, hzN, -, -, hcast⟩ := hKo
  obtain ⟨sa, hstr⟩ := hex _ f6
  have hat : ∀ w ∈ vx_atX own ic (exN k) (exI k) (exR k) names, w.before args s = true := fun w hw => (f7 w hw).elim (fun h => hu _ h) (fun h => exW_use k w h (hcast k w h))
  refine vx_throwX (exR0 k).1 (exR0 k).2.1 (exR0 k).2.2.1 (exR0 k).2.2.2 hx hb hlt hown f1 f2 (hu _ f4) (hu _ f5) hstr hat f8 hzU hzN S.2 (hl.trans hml.symm) d0 d3 d4 d6 d9 (fun x hx => (hne x hx).elim) (by omega) (by omega) hR1.1 hR1.2 hlk (fun t hvm hz hq => ?_) S.2.2.2 (Nat.le_refl _) (Nat.le_refl _)
  refine ⟨(), trivial, ⟨rfl, ?_⟩, ⟨Nat.le_trans S.2.1 hz, fun q h1 h2 => (hq q (Nat.lt_of_lt_of_le h1 S.2.1)).trans (S.2.2.1 q h1 h2)⟩⟩
  obtain ⟨h0, L, hL, hP, hD⟩ := S.1
  exact ⟨h0, L, hL, hP.kept (fun i x hx => hq x.1 ((hP i x hx).lt)), hD⟩

theorem g_throwW {k ik is ic : Nat} (X : Cx p E A DD R s m args c cc own nL) (S : St E A s h H locs) (hne : ∀ x ∈ c.exceptionTable.toList, False) (hlk : meth.locks = false) (hlt : l.stackTraces = false) (hl : ls.size = nL) (hDD : 8 ≤ DD) (hst : (rest.map fun v => v.category).sum ≤ 8)
    (F : TFo own ik is ic k) (d0 : decode cc pc = .ok (.new ik, 3)) (d3 : decode cc (pc + 3) = .ok (.dup, 1)) (d4 : decode cc (pc + 4) = .ok (.ldc_w is, 3)) (d7 : decode cc (pc + 7) = .ok (.invokespecial ic, 3)) (d10 : decode cc (pc + 10) = .ok (.athrow, 1)) (hR1 : 1 ≤ R.cells ∧ 6 ≤ R.slots) :
    W p l e R s m args below meth c H locs 0 0 (vx_MQ below noQ (XX E A h k) args s 1 6 A) (F0 m pc ls rest) := by
  obtain ⟨hx, hb, hu, hown, hK9, hml, hRm, hKo, hA⟩ := X
  obtain ⟨text, names, f1, f2, f3, f4, f5, f6, f7, f8⟩ := F
  obtain ⟨-, -, -, -, -, -, hex, hzU, hzN, -, -, hcast⟩ := hKo
  obtain ⟨sa, hstr⟩ := hex _ f6
  have hat : ∀ w ∈ vx_atX own ic (exN k) (exI k) (exR k) names, w.before args s = true := fun w hw => (f7 w hw).elim (fun h => hu _ h) (fun h => exW_use k w h (hcast k w h))
  refine vx_throwXW (exR0 k).1 (exR0 k).2.1 (exR0 k).2.2.1 (exR0 k).2.2.2 hx hb hlt hown f1 f2 (hu _ f4) (hu _ f5) hstr hat f8 hzU hzN S.2 (hl.trans hml.symm) d0 d3 d4 d7 d10 (fun x hx => (hne x hx).elim) (by omega) (by omega) hR1.1 hR1.2 hlk (fun t hvm hz hq => ?_) S.2.2.2 (Nat.le_refl _) (Nat.le_refl _)
  refine ⟨(), trivial, ⟨rfl, ?_⟩, ⟨Nat.le_trans S.2.1 hz, fun q h1 h2 => (hq q (Nat.lt_of_lt_of_le h1 S.2.1)).trans (S.2.2.1 q h1 h2)⟩⟩
  obtain ⟨h0, L, hL, hP, hD⟩ := S.1
  exact ⟨h0, L, hL, hP.kept (fun i x hx => hq x.1 ((hP i x hx).lt)), hD⟩

end GR
