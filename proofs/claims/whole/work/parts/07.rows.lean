/-- what the constants of the classes are (words, Strings, a switch's table) -/
def Kon (E : EE) (A : Nat → Prop) (U : State) : Prop := True ∧ (∀ i j : Nat, i < 29 → j < 29 → E.2.2.2.1 i = E.2.2.2.1 j → i = j)
theorem Kon.moved {E : EE} {A : Nat → Prop} {u U : State} (hvm : u.vm.Alike U.vm) (hh : ∀ q : Nat, q < u.heap.size → ¬ A q → U.heap[q]? = u.heap[q]?) (h : Kon E A u) : Kon E A U := h
theorem wd_inj {E : EE} {A : Nat → Prop} {U : State} (h : Kon E A U) : ∀ i j : Nat, i < 29 → j < 29 → E.2.2.2.1 i = E.2.2.2.1 j → i = j := h.2
/-- the Strings: the words' texts and forms, then the reference's names -/
def strT : List (List Nat) := [[97, 116], [], [112, 97, 99, 107, 101, 100], [122, 111, 110, 101, 100], [105, 110], [112, 97, 99, 107], [112, 120, 58, 108, 113, 121, 58, 109], [117, 110, 112, 97, 99, 107], [111, 102, 102, 115, 101, 116], [109, 111, 118, 101], [97, 100, 100], [115, 117, 98], [99, 111, 109, 112, 97, 114, 101], [109, 117, 108], [100, 105, 118], [99, 111, 112, 121], [112, 120, 58, 76, 113, 121, 61], [100, 105, 103, 105, 116, 115], [122, 111, 110, 101, 115], [101, 100, 105, 116], [112, 120, 58, 76, 113, 121], [109, 97, 114, 107], [115, 104, 105, 102, 116], [112, 120, 58, 108, 115, 100], [116, 101, 115, 116], [112, 120, 58, 108], [98, 105, 110], [37, 114, 112, 120, 56], [100, 101, 99], [108, 111, 97, 100], [37, 114, 112, 120], [112, 108, 117, 115], [37, 114, 43], [99, 111, 117, 110, 116], [37, 114, 110], [111, 110], [103, 117, 97, 114, 100], [103, 78], [98, 97, 99, 107], [104, 97, 108, 116], [112, 97, 99, 107], [117, 110, 112, 97, 99, 107], [111, 102, 102, 115, 101, 116], [109, 111, 118, 101], [97, 100, 100], [115, 117, 98], [99, 111, 109, 112, 97, 114, 101], [109, 117, 108], [100, 105, 118], [99, 111, 112, 121], [100, 105, 103, 105, 116, 115], [122, 111, 110, 101, 115], [101, 100, 105, 116], [109, 97, 114, 107], [115, 104, 105, 102, 116], [116, 101, 115, 116], [98, 105, 110], [100, 101, 99], [108, 111, 97, 100], [112, 108, 117, 115], [99, 111, 117, 110, 116], [111, 110], [103, 117, 97, 114, 100], [98, 97, 99, 107], [104, 97, 108, 116], [97, 116], [112, 97, 99, 107, 101, 100], [122, 111, 110, 101, 100], [105, 110]]
def wTx : List Nat := [0, 2, 3, 4, 5, 7, 8, 9, 10, 11, 12, 13, 14, 15, 17, 18, 19, 21, 22, 24, 26, 28, 29, 31, 33, 35, 36, 38, 39]
def wFm : List Nat := [1, 1, 1, 1, 6, 6, 6, 6, 6, 6, 6, 6, 6, 16, 16, 16, 20, 20, 23, 25, 27, 27, 30, 32, 34, 35, 37, 1, 1]
def wPk : List Int32 := [0, 0, 0, 0, 0, 0, 0, 2, 3, 3, 3, 3, 3, 0, 0, 0, 0, 0, 1, 0, 1, 0, 0, 0, 0, 0, 0, 0, 0]
def wIn : List Int32 := [0, 0, 0, 0, 1, 1, 1, 1, 1, 1, 1, 1, 1, 1, 1, 1, 1, 1, 1, 1, 1, 1, 1, 1, 1, 1, 1, 1, 1]
def wSm : List Int32 := [0, 0, 0, 0, 6, 7, 8, 1, 2, 3, 12, 4, 5, 9, 10, 11, 14, 15, 13, 20, 16, 17, 18, 19, 21, 22, 23, 24, 0]
def sLen (x : Nat) : Option Int32 := if x ≠ 0 ∧ x ≤ 69 then some (Int32.ofNat ((strT.getD (x - 1) []).length)) else none
def sAt (x : Nat) (i : Int32) : Option Int32 := if x ≠ 0 ∧ x ≤ 69 ∧ ¬ (i < 0 ∨ (strT.getD (x - 1) []).length ≤ i.toNatClampNeg) then some (Int32.ofNat ((strT.getD (x - 1) []).getD i.toNatClampNeg 0)) else none
def wdT (x : Nat) : Option Nat := if x ≠ 0 ∧ x ≤ 29 then some (wTx.getD (x - 1) 0 + 1) else none
def wdF (x : Nat) : Option Nat := if x ≠ 0 ∧ x ≤ 29 then some (wFm.getD (x - 1) 0 + 1) else none
def wdP (x : Nat) : Option Int32 := if x ≠ 0 ∧ x ≤ 29 then some (wPk.getD (x - 1) 0) else none
def wdI (x : Nat) : Option Int32 := if x ≠ 0 ∧ x ≤ 29 then some (wIn.getD (x - 1) 0) else none
def wdO (x : Nat) : Option Int32 := if x ≠ 0 ∧ x ≤ 29 then some (Int32.ofNat (x - 1)) else none
def smI (i : Int32) : Option Int32 := if ¬ (i < 0 ∨ 29 ≤ i.toNatClampNeg) then some (wSm.getD i.toNatClampNeg 0) else none
def alW (i : Int32) : Option Nat := if ¬ (i < 0 ∨ 29 ≤ i.toNatClampNeg) then some (i.toNatClampNeg + 1) else none
def wNm : List String := ["AT", "PACKED", "ZONED", "IN", "PACK", "UNPACK", "OFFSET", "MOVE", "ADD", "SUB", "COMPARE", "MUL", "DIV", "COPY", "DIGITS", "ZONES", "EDIT", "MARK", "SHIFT", "TEST", "BIN", "DEC", "LOAD", "PLUS", "COUNT", "ON", "GUARD", "BACK", "HALT"]
theorem u_math : Cond.initialized "java/lang/Math" ∈ UW := (uw_1 18 rfl rfl)
theorem u_max_s : Cond.static Lib.Math.max.name ∈ UW := (uw_3 21 rfl rfl)
theorem u_max_c : Cond.code Lib.Math.max.name Lib.Math.max.code 2 (some .int) ∈ UW := (uw_3 22 rfl rfl)
theorem u_min_s : Cond.static Lib.Math.min.name ∈ UW := (uw_3 138 rfl rfl)
theorem u_min_c : Cond.code Lib.Math.min.name Lib.Math.min.code 2 (some .int) ∈ UW := (uw_3 139 rfl rfl)
theorem u_abs_s : Cond.static Lib.MathLoose.abs_long.x ∈ UW := (uw_3 152 rfl rfl)
theorem u_abs_c : Cond.code Lib.MathLoose.abs_long.x Lib.MathLoose.abs_long.code 2 (some .long) ∈ UW := (uw_3 153 rfl rfl)
theorem u_ac_n : Cond.native arraycopyName ∈ UW := (uw_2 215 rfl rfl)
theorem u_ac_s : Cond.static arraycopyName ∈ UW := (uw_2 214 rfl rfl)
theorem u_ac_i : Cond.initialized "java/lang/System" ∈ UW := (uw_1 25 rfl rfl)
theorem u_oi_i : Cond.instanceMethod Lib.objectInit ∈ UW := (uw_1 34 rfl rfl)
theorem u_oi_c : Cond.code Lib.objectInit ⟨#[0xb1]⟩ 1 none ∈ UW := (uw_1 35 rfl rfl)
section GR
variable {p : Program} {l : Launch} {e : Env} {R : Room} {s : State} {m : MethodId} {args : Array Value} {below : List Frame} {meth : Method} {c : Code} {H : Heap} {locs : List Loc} {cells slots : Nat} {Q : State → Prop}
variable {cc : ByteArray} {pc : Nat} {ls : Array Slot} {rest : List Value} {E : EE} {A : Nat → Prop} {h : Hp} {own : String} {nL DD : Nat}
/-- no cell came -/
def Sm (h h' : Hp) : Prop := hK h' = hK h ∧ hX h' = hX h ∧ hU h' = hU h ∧ hC h' = hC h ∧ hZ h' = hZ h
def rmm (D mc ms : Nat) : Room := { frames := D, cells := mc, slots := ms, locals := 64 * D }
/-- what a body stands on, all along -/
def Cx (p : Program) (E : EE) (A : Nat → Prop) (DD : Nat) (R : Room) (s : State) (m : MethodId) (args : Array Value) (c : Code) (cc : ByteArray) (own : String) (nL : Nat) : Prop :=
  p.tables.exec = Jvm.exec ∧ c.code = cc ∧ (∀ w ∈ UW, w.before args s = true) ∧ s.vm.findClass own = some m.cls ∧ va_K (EG E) vwCl (tysE E) s ∧ c.maxLocals = nL ∧ (DD ≤ R.frames ∧ 64 * DD ≤ R.locals) ∧ Kon E A s ∧ (∀ q : Nat, s.heap.size ≤ q → A q)
/-- a field by its entry: class, place, kind -/
def FO (own : String) (idx ci k t : Nat) : Prop := ∃ (C : String) (T : u_T) (N : Nat), vwCl[ci]? = some (C, T, N) ∧ k < N ∧ ci ≠ 0 ∧ ci < 100 ∧ (FT ci)[k]? = some t ∧ (∀ w ∈ u_ws C T N, w ∈ UW) ∧ Cond.fieldLink own idx (T k).1 (T k).2.1 (T k).2.2.1 ∈ UW
theorem dom_ne {a ci : Nat} (h0 : hK h 0 = 0) (hk : hK h a = ci) (hc : ci ≠ 0) : a ≠ 0 := fun q => hc (by rw [← hk, q]; exact h0)
theorem g_get (X : Cx p E A DD R s m args c cc own nL) (S : St E A s h H locs) {ci k t index a : Nat} (F : FO own index ci k t) (hk : hK h a = ci) (hdg : decode cc pc = .ok (.getfield index, 3))
    (kk : W p l e R s m args below meth c H locs cells slots Q (F0 m (pc + 3) ls (vl E h a k t :: rest))) : W p l e R s m args below meth c H locs cells slots Q (F0 m pc ls (rv a :: rest)) := by
  obtain ⟨hx, hb, hu, hown, hK9, -⟩ := X
  obtain ⟨C, T, N, hc, hkN, hc0, hc1, hft, hin, hlk⟩ := F
  obtain ⟨⟨h0, L, hL, hP, hD⟩, hS⟩ := S
  rw [rv_ref (dom_ne h0 hk hc0)]
  obtain ⟨q0, hq⟩ := va_pl_get (X := []) (f := cellOf E h) ((hL a).2 (by rw [hk]; exact hc0))
  rw [cellOf_obj hk hc1] at hq
  exact va_get (Ts := UW) hx hb hu hin hown hK9 hP q0 hq hc k hkN (hu _ hlk) (fun _ h9 => h9) (by rw [List.getElem?_mapIdx, hft]; rfl) hdg kk
theorem g_gI {β : Type} {f : Int32 → Option β} {r : β} (X : Cx p E A DD R s m args c cc own nL) (S : St E A s h H locs) {ci k t index a : Nat} (F : FO own index ci k t) (ht : vl E h a k t = .int (hI h a k)) (hdg : decode cc pc = .ok (.getfield index, 3)) (hf : ob (gI ci a k h) f = some r)
    (kk : ∀ v : Int32, f v = some r → W p l e R s m args below meth c H locs cells slots Q (F0 m (pc + 3) ls (.int v :: rest))) : W p l e R s m args below meth c H locs cells slots Q (F0 m pc ls (rv a :: rest)) := by
  obtain ⟨v, h1, h2⟩ := ob_some hf
  obtain ⟨hk, hv⟩ := gI_some h1
  refine g_get X S F hk hdg ?_
  rw [ht, hv]
  exact kk v h2
theorem g_gR {β : Type} {f : Nat → Option β} {r : β} (X : Cx p E A DD R s m args c cc own nL) (S : St E A s h H locs) {ci k index a : Nat} (F : FO own index ci k 1) (hdg : decode cc pc = .ok (.getfield index, 3)) (hf : ob (gR ci a k h) f = some r)
    (kk : ∀ v : Nat, f v = some r → W p l e R s m args below meth c H locs cells slots Q (F0 m (pc + 3) ls (rv v :: rest))) : W p l e R s m args below meth c H locs cells slots Q (F0 m pc ls (rv a :: rest)) := by
  obtain ⟨v, h1, h2⟩ := ob_some hf
  obtain ⟨hk, hv⟩ := gR_some h1
  refine g_get X S F hk hdg ?_
  rw [show vl E h a k 1 = rv (hR h a k) from rfl, hv]
  exact kk v h2
theorem g_gW {β : Type} {f : Nat → Option β} {r : β} (X : Cx p E A DD R s m args c cc own nL) (S : St E A s h H locs) {ci k index a : Nat} (F : FO own index ci k 2) (hdg : decode cc pc = .ok (.getfield index, 3)) (hf : ob (gR ci a k h) f = some r)
    (kk : ∀ v : Nat, f v = some r → W p l e R s m args below meth c H locs cells slots Q (F0 m (pc + 3) ls (wv E v :: rest))) : W p l e R s m args below meth c H locs cells slots Q (F0 m pc ls (rv a :: rest)) := by
  obtain ⟨v, h1, h2⟩ := ob_some hf
  obtain ⟨hk, hv⟩ := gR_some h1
  refine g_get X S F hk hdg ?_
  rw [show vl E h a k 2 = wv E (hR h a k) from rfl, hv]
  exact kk v h2
theorem g_gS {β : Type} {f : Nat → Option β} {r : β} (X : Cx p E A DD R s m args c cc own nL) (S : St E A s h H locs) {ci k index a : Nat} (F : FO own index ci k 3) (hdg : decode cc pc = .ok (.getfield index, 3)) (hf : ob (gR ci a k h) f = some r)
    (kk : ∀ v : Nat, f v = some r → W p l e R s m args below meth c H locs cells slots Q (F0 m (pc + 3) ls (sv E v :: rest))) : W p l e R s m args below meth c H locs cells slots Q (F0 m pc ls (rv a :: rest)) := by
  obtain ⟨v, h1, h2⟩ := ob_some hf
  obtain ⟨hk, hv⟩ := gR_some h1
  refine g_get X S F hk hdg ?_
  rw [show vl E h a k 3 = sv E (hR h a k) from rfl, hv]
  exact kk v h2
/-- a field that is written: fin tells a final one in its constructor -/
def FP (own : String) (idx ci k t : Nat) (ty : FieldType) (fin : Bool) : Prop := ∃ (C : String) (T : u_T) (N : Nat) (tf : Nat → FieldType), vwCl[ci]? = some (C, T, N) ∧ k < N ∧ ci ≠ 0 ∧ ci < 100 ∧ (FT ci)[k]? = some t ∧ (∀ w ∈ u_ws C T N, w ∈ UW) ∧ Cond.fieldLink own idx (T k).1 (T k).2.1 (T k).2.2.1 ∈ UW ∧ (∀ k, k < N → parseFieldDescriptor (T k).2.2.1 = some (tf k)) ∧ (∀ a, a < N → ∀ b, b < N → a ≠ b → (T a).2.1 ≠ (T b).2.1) ∧ tf k = ty ∧ (T k).2.2.2 = fin ∧ (fin = false ∨ (T k).1 = own)
theorem g_put (X : Cx p E A DD R s m args c cc own nL) (S : St E A s h H locs) {ci k t index a : Nat} {ty : FieldType} {fin : Bool} {v : Value} {h' : Hp} (F : FP own index ci k t ty fin) (hin2 : fin = false ∨ meth.name = "<init>") (hk : hK h a = ci) (hdg : decode cc pc = .ok (.putfield index, 3)) (hn : narrow ty v = v) (hfit : fits ty v = true)
    (e1 : hK h' = hK h) (e2 : vl E h' a k t = v) (e3 : ∀ j u, j ≠ k → vl E h' a j u = vl E h a j u) (e4 : ∀ b, b ≠ a → cellOf E h' b = cellOf E h b)
    (kk : ∀ (H1 : Heap) (locs1 : List Loc), St E A s h' H1 locs1 → W p l e R s m args below meth c H1 locs1 cells slots Q (F0 m (pc + 3) ls rest)) : W p l e R s m args below meth c H locs cells slots Q (F0 m pc ls (v :: rv a :: rest)) := by
  obtain ⟨hx, hb, hu, hown, hK9, -⟩ := X
  obtain ⟨C, T, N, tf, hc, hkN, hc0, hc1, hft, hin, hlk, hty, hnm, ht, hfin, hdecl⟩ := F
  obtain ⟨⟨h0, L, hL, hP, hD⟩, hS⟩ := S
  rw [rv_ref (dom_ne h0 hk hc0)]
  have haL := (hL a).2 (by rw [hk]; exact hc0)
  obtain ⟨q0, hq⟩ := va_pl_get (X := []) (f := cellOf E h) haL
  have hq2 := hq
  rw [cellOf_obj hk hc1] at hq
  have hd : parseFieldDescriptor (T k).2.2.1 = some ty := by rw [hty k hkN, ht]
  have hl : k < ((FT ci).mapIdx (fun k t => vl E h a k t)).length := by rw [List.length_mapIdx]; exact (List.getElem?_eq_some_iff.mp hft).1
  have key : cellOf E h' a = .inr (ci, ((FT ci).mapIdx (fun k t => vl E h a k t)).set k v) := by
    rw [cellOf_obj (by rw [e1]; exact hk) hc1, mapIdx_set hft e2 e3]
  cases fin with
  | false =>
    refine va_put (Ts := UW) hx hb hu hin tf hty hnm hown hK9 hP hD hS q0 hq hc k hkN (hu _ hlk) (fun _ h9 => h9) hfin hd hn hfit hl hdg (fun H1 locs1 hP1 hD1 hS1 => ?_)
    exact kk H1 locs1 ⟨Rp_set h0 hL haL hq2 hD hP1 hD1 e1 key e4, hS1⟩
  | true =>
    have hname : meth.name = "<init>" := hin2.resolve_left (by decide)
    refine va_putF (Ts := UW) hx hb hu hin tf hty hnm hown hK9 hP hD hS q0 hq hc k hkN (hu _ hlk) (fun _ h9 => h9) hfin hname (hdecl.resolve_left (by decide)) hd hn hfit hl hdg (fun H1 locs1 hP1 hD1 hS1 => ?_)
    exact kk H1 locs1 ⟨Rp_set h0 hL haL hq2 hD hP1 hD1 e1 key e4, hS1⟩
theorem vl_sI_ne {a k j u : Nat} {v : Int32} (hj : j ≠ k) : vl E (sI h a k v) a j u = vl E h a j u := by
  simp only [vl, hI, hR, sI, va_up, if_true, if_neg hj]
theorem vl_sR_ne {a k j u v : Nat} (hj : j ≠ k) : vl E (sR h a k v) a j u = vl E h a j u := by
  simp only [vl, hI, hR, sR, va_up, if_true, if_neg hj]
theorem cell_sI {a k b : Nat} {v : Int32} (hb : b ≠ a) : cellOf E (sI h a k v) b = cellOf E h b := cellOf_eq rfl (va_up_ne _ _ hb) rfl rfl rfl
theorem cell_sR {a k b : Nat} {v : Nat} (hb : b ≠ a) : cellOf E (sR h a k v) b = cellOf E h b := cellOf_eq rfl rfl (va_up_ne _ _ hb) rfl rfl
theorem cell_sL {a k b : Nat} {v : Int64} (hb : b ≠ a) : cellOf E (sL h a k v) b = cellOf E h b := cellOf_eq rfl rfl rfl (va_up_ne _ _ hb) rfl
theorem cell_sA {a b : Nat} {f : Nat → Int32} (hb : b ≠ a) : cellOf E (sA h a f) b = cellOf E h b := cellOf_eq rfl (va_up_ne _ _ hb) rfl rfl rfl
theorem hI_sI {a k : Nat} {v : Int32} : hI (sI h a k v) a = va_up (hI h a) k v := va_up_self _ _ _
theorem hR_sR {a k : Nat} {v : Nat} : hR (sR h a k v) a = va_up (hR h a) k v := va_up_self _ _ _
theorem hL_sL {a k : Nat} {v : Int64} : hL (sL h a k v) a = va_up (hL h a) k v := va_up_self _ _ _
theorem hI_sA {a : Nat} {f : Nat → Int32} : hI (sA h a f) a = f := va_up_self _ _ _
theorem g_pI {β : Type} {f : Hp → Option β} {r : β} (X : Cx p E A DD R s m args c cc own nL) (S : St E A s h H locs) {ci k index a : Nat} {v : Int32} {fin : Bool} (F : FP own index ci k 0 .int fin) (hin2 : fin = false ∨ meth.name = "<init>") (hdg : decode cc pc = .ok (.putfield index, 3)) (hf : ob (pI ci a k v h) f = some r)
    (kk : ∀ (h' : Hp) (H1 : Heap) (locs1 : List Loc), Sm h h' → f h' = some r → St E A s h' H1 locs1 → W p l e R s m args below meth c H1 locs1 cells slots Q (F0 m (pc + 3) ls rest)) : W p l e R s m args below meth c H locs cells slots Q (F0 m pc ls (.int v :: rv a :: rest)) := by
  obtain ⟨h', h1, h2⟩ := ob_some hf
  obtain ⟨hk, rfl⟩ := if_some h1
  exact g_put (h' := sI h a k v) X S F hin2 hk hdg rfl rfl rfl (by show Value.int _ = _; rw [hI_sI, va_up_self]) (fun j u hj => vl_sI_ne hj) (fun b hb => cell_sI hb) (fun H1 locs1 S1 => kk _ H1 locs1 (by exact ⟨rfl, rfl, rfl, rfl, rfl⟩) h2 S1)
theorem g_pZ {β : Type} {f : Hp → Option β} {r : β} (X : Cx p E A DD R s m args c cc own nL) (S : St E A s h H locs) {ci k index a : Nat} {v : Int32} {fin : Bool} (F : FP own index ci k 4 .boolean fin) (hin2 : fin = false ∨ meth.name = "<init>") (hdg : decode cc pc = .ok (.putfield index, 3)) (hf : ob (pZ ci a k v h) f = some r)
    (kk : ∀ (h' : Hp) (H1 : Heap) (locs1 : List Loc), Sm h h' → f h' = some r → St E A s h' H1 locs1 → W p l e R s m args below meth c H1 locs1 cells slots Q (F0 m (pc + 3) ls rest)) : W p l e R s m args below meth c H locs cells slots Q (F0 m pc ls (.int v :: rv a :: rest)) := by
  obtain ⟨h', h1, h2⟩ := ob_some hf
  obtain ⟨⟨hk, hz⟩, rfl⟩ := if_some h1
  exact g_put (h' := sI h a k v) X S F hin2 hk hdg (by rcases hz with rfl | rfl <;> rfl) (by rcases hz with rfl | rfl <;> rfl) rfl (by show Value.int _ = _; rw [hI_sI, va_up_self]) (fun j u hj => vl_sI_ne hj) (fun b hb => cell_sI hb) (fun H1 locs1 S1 => kk _ H1 locs1 (by exact ⟨rfl, rfl, rfl, rfl, rfl⟩) h2 S1)
def isR (ty : FieldType) : Prop := (∃ n, ty = .object n) ∨ ∃ t, ty = .array t
theorem nar_rf {ty : FieldType} (h : isR ty) (r : Option Nat) : narrow ty (va_rf r) = va_rf r ∧ fits ty (va_rf r) = true := by
  rcases h with ⟨n, rfl⟩ | ⟨t, rfl⟩ <;> cases r <;> exact ⟨rfl, rfl⟩
theorem g_pR {β : Type} {f : Hp → Option β} {r : β} (X : Cx p E A DD R s m args c cc own nL) (S : St E A s h H locs) {ci k index a v : Nat} {ty : FieldType} {fin : Bool} (F : FP own index ci k 1 ty fin) (hty : isR ty) (hin2 : fin = false ∨ meth.name = "<init>") (hdg : decode cc pc = .ok (.putfield index, 3)) (hf : ob (pR ci a k v h) f = some r)
    (kk : ∀ (h' : Hp) (H1 : Heap) (locs1 : List Loc), Sm h h' → f h' = some r → St E A s h' H1 locs1 → W p l e R s m args below meth c H1 locs1 cells slots Q (F0 m (pc + 3) ls rest)) : W p l e R s m args below meth c H locs cells slots Q (F0 m pc ls (rv v :: rv a :: rest)) := by
  obtain ⟨h', h1, h2⟩ := ob_some hf
  obtain ⟨hk, rfl⟩ := if_some h1
  exact g_put (h' := sR h a k v) X S F hin2 hk hdg (nar_rf hty _).1 (nar_rf hty _).2 rfl (by show rv _ = _; rw [hR_sR, va_up_self]) (fun j u hj => vl_sR_ne hj) (fun b hb => cell_sR hb) (fun H1 locs1 S1 => kk _ H1 locs1 (by exact ⟨rfl, rfl, rfl, rfl, rfl⟩) h2 S1)
theorem g_pW {β : Type} {f : Hp → Option β} {r : β} (X : Cx p E A DD R s m args c cc own nL) (S : St E A s h H locs) {ci k index a v : Nat} {ty : FieldType} {fin : Bool} (F : FP own index ci k 2 ty fin) (hty : isR ty) (hin2 : fin = false ∨ meth.name = "<init>") (hdg : decode cc pc = .ok (.putfield index, 3)) (hf : ob (pR ci a k v h) f = some r)
    (kk : ∀ (h' : Hp) (H1 : Heap) (locs1 : List Loc), Sm h h' → f h' = some r → St E A s h' H1 locs1 → W p l e R s m args below meth c H1 locs1 cells slots Q (F0 m (pc + 3) ls rest)) : W p l e R s m args below meth c H locs cells slots Q (F0 m pc ls (wv E v :: rv a :: rest)) := by
  obtain ⟨h', h1, h2⟩ := ob_some hf
  obtain ⟨hk, rfl⟩ := if_some h1
  exact g_put (h' := sR h a k v) X S F hin2 hk hdg (nar_rf hty _).1 (nar_rf hty _).2 rfl (by show wv E _ = _; rw [hR_sR, va_up_self]) (fun j u hj => vl_sR_ne hj) (fun b hb => cell_sR hb) (fun H1 locs1 S1 => kk _ H1 locs1 (by exact ⟨rfl, rfl, rfl, rfl, rfl⟩) h2 S1)
theorem ty0 {E : EE} : (tysE E)[0]? = some (E.2.2.1 0, .int) := rfl
theorem ty1 {E : EE} : (tysE E)[1]? = some (E.2.2.1 1, .long) := rfl
theorem ty4 {E : EE} : (tysE E)[4]? = some (E.2.2.1 4, .object "java/lang/String") := rfl
def rcls (c : Nat) : String := if c = 103 then "NibbleEngine$Row" else "NibbleEngine$Instruction"
theorem tyr {E : EE} {c : Nat} (h : c = 103 ∨ c = 104) : (tysE E)[c - 101]? = some (E.2.2.1 (c - 101), .object (rcls c)) := by
  rcases h with rfl | rfl <;> rfl
theorem g_aI {β : Type} {f : Int32 → Option β} {r : β} (X : Cx p E A DD R s m args c cc own nL) (S : St E A s h H locs) {a : Nat} {i : Int32} (hdg : decode cc pc = .ok (.iaload, 1)) (hf : ob (aI a i h) f = some r)
    (kk : ∀ v : Int32, f v = some r → W p l e R s m args below meth c H locs cells slots Q (F0 m (pc + 1) ls (.int v :: rest))) : W p l e R s m args below meth c H locs cells slots Q (F0 m pc ls (.int i :: rv a :: rest)) := by
  obtain ⟨hx, hb, hu, hown, hK9, -⟩ := X
  obtain ⟨v, h1, h2⟩ := ob_some hf
  obtain ⟨⟨hk, hin⟩, rfl⟩ := if_some h1
  obtain ⟨⟨h0, L, hL, hP, hD⟩, hS⟩ := S
  rw [rv_ref (dom_ne h0 hk (by decide))]
  obtain ⟨q0, hq⟩ := va_pl_get (X := []) (f := cellOf E h) ((hL a).2 (by rw [hk]; decide))
  rw [cellOf_int hk] at hq
  exact va_iald hx hb hK9 hP q0 0 hq ty0 hin hdg (kk _ h2)
theorem g_aL {β : Type} {f : Int64 → Option β} {r : β} (X : Cx p E A DD R s m args c cc own nL) (S : St E A s h H locs) {a : Nat} {i : Int32} (hdg : decode cc pc = .ok (.laload, 1)) (hf : ob (aL a i h) f = some r)
    (kk : ∀ v : Int64, f v = some r → W p l e R s m args below meth c H locs cells slots Q (F0 m (pc + 1) ls (.long v :: rest))) : W p l e R s m args below meth c H locs cells slots Q (F0 m pc ls (.int i :: rv a :: rest)) := by
  obtain ⟨hx, hb, hu, hown, hK9, -⟩ := X
  obtain ⟨v, h1, h2⟩ := ob_some hf
  obtain ⟨⟨hk, hin⟩, rfl⟩ := if_some h1
  obtain ⟨⟨h0, L, hL, hP, hD⟩, hS⟩ := S
  rw [rv_ref (dom_ne h0 hk (by decide))]
  obtain ⟨q0, hq⟩ := va_pl_get (X := []) (f := cellOf E h) ((hL a).2 (by rw [hk]; decide))
  rw [cellOf_long hk] at hq
  exact va_lald hx hb hK9 hP q0 1 hq ty1 hin hdg (kk _ h2)
theorem g_aR {β : Type} {f : Nat → Option β} {r : β} (X : Cx p E A DD R s m args c cc own nL) (S : St E A s h H locs) {ci a : Nat} {i : Int32} (hc : ci = 103 ∨ ci = 104) (hdg : decode cc pc = .ok (.aaload, 1)) (hf : ob (aR ci a i h) f = some r)
    (kk : ∀ v : Nat, f v = some r → W p l e R s m args below meth c H locs cells slots Q (F0 m (pc + 1) ls (rv v :: rest))) : W p l e R s m args below meth c H locs cells slots Q (F0 m pc ls (.int i :: rv a :: rest)) := by
  obtain ⟨hx, hb, hu, hown, hK9, -⟩ := X
  obtain ⟨v, h1, h2⟩ := ob_some hf
  obtain ⟨⟨hk, hin⟩, rfl⟩ := if_some h1
  obtain ⟨⟨h0, L, hL, hP, hD⟩, hS⟩ := S
  rw [rv_ref (dom_ne h0 hk (by omega))]
  obtain ⟨q0, hq⟩ := va_pl_get (X := []) (f := cellOf E h) ((hL a).2 (by rw [hk]; omega))
  rw [cellOf_ref hk hc] at hq
  exact va_aldq hx hb hK9 hP q0 (ci - 101) hq (tyr hc) hin hdg (kk _ h2)
theorem g_aS {β : Type} {f : Nat → Option β} {r : β} (X : Cx p E A DD R s m args c cc own nL) (S : St E A s h H locs) {a : Nat} {i : Int32} (hdg : decode cc pc = .ok (.aaload, 1)) (hf : ob (aR 105 a i h) f = some r)
    (kk : ∀ v : Nat, f v = some r → W p l e R s m args below meth c H locs cells slots Q (F0 m (pc + 1) ls (sv E v :: rest))) : W p l e R s m args below meth c H locs cells slots Q (F0 m pc ls (.int i :: rv a :: rest)) := by
  obtain ⟨hx, hb, hu, hown, hK9, -⟩ := X
  obtain ⟨v, h1, h2⟩ := ob_some hf
  obtain ⟨⟨hk, hin⟩, rfl⟩ := if_some h1
  obtain ⟨⟨h0, L, hL, hP, hD⟩, hS⟩ := S
  rw [rv_ref (dom_ne h0 hk (by omega))]
  obtain ⟨q0, hq⟩ := va_pl_get (X := []) (f := cellOf E h) ((hL a).2 (by rw [hk]; omega))
  rw [cellOf_str hk] at hq
  exact va_aldq hx hb hK9 hP q0 4 hq ty4 hin hdg (kk _ h2)
theorem g_qI {β : Type} {f : Hp → Option β} {r : β} (X : Cx p E A DD R s m args c cc own nL) (S : St E A s h H locs) {a : Nat} {i v : Int32} (hdg : decode cc pc = .ok (.iastore, 1)) (hf : ob (qI a i v h) f = some r)
    (kk : ∀ (h' : Hp) (H1 : Heap) (locs1 : List Loc), Sm h h' → f h' = some r → St E A s h' H1 locs1 → W p l e R s m args below meth c H1 locs1 cells slots Q (F0 m (pc + 1) ls rest)) : W p l e R s m args below meth c H locs cells slots Q (F0 m pc ls (.int v :: .int i :: rv a :: rest)) := by
  obtain ⟨hx, hb, hu, hown, hK9, -⟩ := X
  obtain ⟨h', h1, h2⟩ := ob_some hf
  obtain ⟨⟨hk, hin⟩, rfl⟩ := if_some h1
  obtain ⟨⟨h0, L, hL, hP, hD⟩, hS⟩ := S
  rw [rv_ref (dom_ne h0 hk (by omega))]
  have haL := (hL a).2 (by rw [hk]; omega)
  obtain ⟨q0, hq⟩ := va_pl_get (X := []) (f := cellOf E h) haL
  have hq2 := hq
  rw [cellOf_int hk] at hq
  refine va_iast hx hb hK9 hP hD hS q0 0 hq ty0 hin hdg (fun H1 locs1 hP1 hD1 hS1 => ?_)
  exact kk _ H1 locs1 (by exact ⟨rfl, rfl, rfl, rfl, rfl⟩) h2 ⟨Rp_set h0 hL haL hq2 hD hP1 hD1 rfl (by rw [cellOf_int (show hK (sI h a i.toNatClampNeg v) a = 101 from hk), hI_sI]; rfl) (fun b hb => cell_sI hb), hS1⟩
theorem g_qL {β : Type} {f : Hp → Option β} {r : β} (X : Cx p E A DD R s m args c cc own nL) (S : St E A s h H locs) {a : Nat} {i : Int32} {v : Int64} (hdg : decode cc pc = .ok (.lastore, 1)) (hf : ob (qL a i v h) f = some r)
    (kk : ∀ (h' : Hp) (H1 : Heap) (locs1 : List Loc), Sm h h' → f h' = some r → St E A s h' H1 locs1 → W p l e R s m args below meth c H1 locs1 cells slots Q (F0 m (pc + 1) ls rest)) : W p l e R s m args below meth c H locs cells slots Q (F0 m pc ls (.long v :: .int i :: rv a :: rest)) := by
  obtain ⟨hx, hb, hu, hown, hK9, -⟩ := X
  obtain ⟨h', h1, h2⟩ := ob_some hf
  obtain ⟨⟨hk, hin⟩, rfl⟩ := if_some h1
  obtain ⟨⟨h0, L, hL, hP, hD⟩, hS⟩ := S
  rw [rv_ref (dom_ne h0 hk (by omega))]
  have haL := (hL a).2 (by rw [hk]; omega)
  obtain ⟨q0, hq⟩ := va_pl_get (X := []) (f := cellOf E h) haL
  have hq2 := hq
  rw [cellOf_long hk] at hq
  refine va_last hx hb hK9 hP hD hS q0 1 hq ty1 hin hdg (fun H1 locs1 hP1 hD1 hS1 => ?_)
  exact kk _ H1 locs1 (by exact ⟨rfl, rfl, rfl, rfl, rfl⟩) h2 ⟨Rp_set h0 hL haL hq2 hD hP1 hD1 rfl (by rw [cellOf_long (show hK (sL h a i.toNatClampNeg v) a = 102 from hk), hL_sL]; rfl) (fun b hb => cell_sL hb), hS1⟩
theorem g_qR {β : Type} {f : Hp → Option β} {r : β} (X : Cx p E A DD R s m args c cc own nL) (S : St E A s h H locs) {ci d a v : Nat} {i : Int32} {T : u_T} {N : Nat} (hc : ci = 103 ∨ ci = 104) (hd : vwCl[d]? = some (rcls ci, T, N)) (hd0 : d ≠ 0) (hd1 : d < 100) (hdg : decode cc pc = .ok (.aastore, 1)) (hf : ob (qR ci d a i v h) f = some r)
    (kk : ∀ (h' : Hp) (H1 : Heap) (locs1 : List Loc), Sm h h' → f h' = some r → St E A s h' H1 locs1 → W p l e R s m args below meth c H1 locs1 cells slots Q (F0 m (pc + 1) ls rest)) : W p l e R s m args below meth c H locs cells slots Q (F0 m pc ls (rv v :: .int i :: rv a :: rest)) := by
  obtain ⟨hx, hb, hu, hown, hK9, -⟩ := X
  obtain ⟨h', h1, h2⟩ := ob_some hf
  obtain ⟨⟨hk, hkv, hin⟩, rfl⟩ := if_some h1
  obtain ⟨⟨h0, L, hL, hP, hD⟩, hS⟩ := S
  have hv0 := dom_ne h0 hkv hd0
  rw [rv_ref (dom_ne h0 hk (by omega)), rv_ref hv0]
  have haL := (hL a).2 (by rw [hk]; omega)
  obtain ⟨q0, hq⟩ := va_pl_get (X := []) (f := cellOf E h) haL
  have hq2 := hq
  rw [cellOf_ref hk hc] at hq
  obtain ⟨q1, hq1⟩ := va_pl_get (X := []) (f := cellOf E h) ((hL v).2 (by rw [hkv]; exact hd0))
  rw [cellOf_obj hkv hd1] at hq1
  refine va_astq (r := (rcls ci, T, N)) hx hb hK9 hP hD hS q0 (ci - 101) q1 d hq (tyr hc) hq1 hd hin hdg (fun H1 locs1 hP1 hD1 hS1 => ?_)
  exact kk _ H1 locs1 (by exact ⟨rfl, rfl, rfl, rfl, rfl⟩) h2 ⟨Rp_set h0 hL haL hq2 hD hP1 hD1 rfl (by rw [cellOf_ref (show hK (sR h a i.toNatClampNeg v) a = ci from hk) hc, hR_sR, or_eq _ _ _ hv0]; rfl) (fun b hb => cell_sR hb), hS1⟩
theorem g_aN {β : Type} {f : Int32 → Option β} {r : β} (X : Cx p E A DD R s m args c cc own nL) (S : St E A s h H locs) {a ci : Nat} (hci : 101 ≤ ci ∧ ci ≤ 105) (hdg : decode cc pc = .ok (.arraylength, 1)) (hf : ob (aN ci a h) f = some r)
    (kk : ∀ v : Int32, f v = some r → W p l e R s m args below meth c H locs cells slots Q (F0 m (pc + 1) ls (.int v :: rest))) : W p l e R s m args below meth c H locs cells slots Q (F0 m pc ls (rv a :: rest)) := by
  obtain ⟨hx, hb, hu, hown, hK9, -⟩ := X
  obtain ⟨v, h1, h2⟩ := ob_some hf
  obtain ⟨hka, rfl⟩ := if_some h1
  obtain ⟨⟨h0, L, hL, hP, hD⟩, hS⟩ := S
  rw [rv_ref (dom_ne h0 hka (by omega))]
  obtain ⟨q0, hq⟩ := va_pl_get (X := []) (f := cellOf E h) ((hL a).2 (by rw [hka]; omega))
  rcases (show ci = 101 ∨ ci = 102 ∨ ci = 105 ∨ (ci = 103 ∨ ci = 104) by omega) with hc | hc | hc | hc
  · subst hc; rw [cellOf_int hka] at hq; exact va_alen hx hb hK9 hP q0 0 hq ty0 rfl hdg (kk _ h2)
  · subst hc; rw [cellOf_long hka] at hq; exact va_alen hx hb hK9 hP q0 1 hq ty1 rfl hdg (kk _ h2)
  · subst hc; rw [cellOf_str hka] at hq; exact va_alen hx hb hK9 hP q0 4 hq ty4 rfl hdg (kk _ h2)
  · rw [cellOf_ref hka hc] at hq; exact va_alen hx hb hK9 hP q0 (ci - 101) hq (tyr hc) rfl hdg (kk _ h2)
theorem g_aload_n (X : Cx p E A DD R s m args c cc own nL) {k : Fin 4} {i : Nat} {v : Value} (hv : v = .null ∨ ∃ a, v = .ref a) (hdg : decode cc pc = .ok (.aload_n k, 1)) (hi : (k : Nat) = i) (hl : ls[i]? = some (.val v))
    (kk : W p l e R s m args below meth c H locs cells slots Q (F0 m (pc + 1) ls (v :: rest))) : W p l e R s m args below meth c H locs cells slots Q (F0 m pc ls rest) := by
  rcases hv with rfl | ⟨a, rfl⟩
  · exact lv_aload_nN X.1 X.2.1 hdg hi hl kk
  · exact lv_aload_n X.1 X.2.1 hdg hi hl kk
theorem g_aload (X : Cx p E A DD R s m args c cc own nL) {i : Nat} {v : Value} (hv : v = .null ∨ ∃ a, v = .ref a) (hdg : decode cc pc = .ok (.aload i, 2)) (hl : ls[i]? = some (.val v))
    (kk : W p l e R s m args below meth c H locs cells slots Q (F0 m (pc + 2) ls (v :: rest))) : W p l e R s m args below meth c H locs cells slots Q (F0 m pc ls rest) := by
  rcases hv with rfl | ⟨a, rfl⟩
  · exact lv_aloadN X.1 X.2.1 hdg hl kk
  · exact lv_aload X.1 X.2.1 hdg hl kk
theorem g_astore_n (X : Cx p E A DD R s m args c cc own nL) {k : Fin 4} {i : Nat} {v : Value} {lv lv' : List (Nat × Value)} (hv : v = .null ∨ ∃ a, v = .ref a) (hdg : decode cc pc = .ok (.astore_n k, 1)) (hi : (k : Nat) = i) (h : lv_has ls nL lv) (hn : i < nL) (hl : (i, v) :: lv.filter (fun q => !(q.1 == i) && !(q.1 + 1 == i && q.2.category == 2)) = lv')
    (kk : ∀ ls' : Array Slot, lv_has ls' nL lv' → W p l e R s m args below meth c H locs cells slots Q (F0 m (pc + 1) ls' rest)) : W p l e R s m args below meth c H locs cells slots Q (F0 m pc ls (v :: rest)) := by
  rcases hv with rfl | ⟨a, rfl⟩
  · exact lv_astore_nN X.1 X.2.1 hdg hi h hn hl kk
  · exact lv_astore_n X.1 X.2.1 hdg hi h hn hl kk
theorem g_astore (X : Cx p E A DD R s m args c cc own nL) {i : Nat} {v : Value} {lv lv' : List (Nat × Value)} (hv : v = .null ∨ ∃ a, v = .ref a) (hdg : decode cc pc = .ok (.astore i, 2)) (h : lv_has ls nL lv) (hn : i < nL) (hl : (i, v) :: lv.filter (fun q => !(q.1 == i) && !(q.1 + 1 == i && q.2.category == 2)) = lv')
    (kk : ∀ ls' : Array Slot, lv_has ls' nL lv' → W p l e R s m args below meth c H locs cells slots Q (F0 m (pc + 2) ls' rest)) : W p l e R s m args below meth c H locs cells slots Q (F0 m pc ls (v :: rest)) := by
  rcases hv with rfl | ⟨a, rfl⟩
  · exact lv_astoreN X.1 X.2.1 hdg h hn hl kk
  · exact lv_astore X.1 X.2.1 hdg h hn hl kk
theorem g_ifnull (X : Cx p E A DD R s m args c cc own nL) {x tgt : Nat} {off : Int} (hdg : decode cc pc = .ok (.ifnull off, 3)) (ht : (pc : Int) + off = (tgt : Int)) (kt : x = 0 → W p l e R s m args below meth c H locs cells slots Q (F0 m tgt ls rest)) (kf : ¬ x = 0 → W p l e R s m args below meth c H locs cells slots Q (F0 m (pc + 3) ls rest)) :
    W p l e R s m args below meth c H locs cells slots Q (F0 m pc ls (rv x :: rest)) := by
  by_cases hx : x = 0
  · subst hx; exact lv_ifnullN X.1 X.2.1 hdg ht (kt rfl)
  · rw [rv_ref hx]; exact lv_ifnull X.1 X.2.1 hdg (kf hx)
theorem g_ifnonnull (X : Cx p E A DD R s m args c cc own nL) {x tgt : Nat} {off : Int} (hdg : decode cc pc = .ok (.ifnonnull off, 3)) (ht : (pc : Int) + off = (tgt : Int)) (kt : ¬ x = 0 → W p l e R s m args below meth c H locs cells slots Q (F0 m tgt ls rest)) (kf : x = 0 → W p l e R s m args below meth c H locs cells slots Q (F0 m (pc + 3) ls rest)) :
    W p l e R s m args below meth c H locs cells slots Q (F0 m pc ls (rv x :: rest)) := by
  by_cases hx : x = 0
  · subst hx; exact lv_ifnonnullN X.1 X.2.1 hdg (kf rfl)
  · rw [rv_ref hx]; exact lv_ifnonnull X.1 X.2.1 hdg ht (kt hx)
theorem wv_ref (E : EE) {x : Nat} (h : x ≠ 0) : wv E x = .ref (E.2.2.2.1 (x - 1)) := by simp [wv, oF, h, va_rf]
theorem wv_0 (E : EE) : wv E 0 = .null := rfl
theorem g_ifnullW (X : Cx p E A DD R s m args c cc own nL) {x tgt : Nat} {off : Int} (hdg : decode cc pc = .ok (.ifnull off, 3)) (ht : (pc : Int) + off = (tgt : Int)) (kt : x = 0 → W p l e R s m args below meth c H locs cells slots Q (F0 m tgt ls rest)) (kf : ¬ x = 0 → W p l e R s m args below meth c H locs cells slots Q (F0 m (pc + 3) ls rest)) :
    W p l e R s m args below meth c H locs cells slots Q (F0 m pc ls (wv E x :: rest)) := by
  by_cases hx : x = 0
  · subst hx; exact lv_ifnullN X.1 X.2.1 hdg ht (kt rfl)
  · rw [wv_ref E hx]; exact lv_ifnull X.1 X.2.1 hdg (kf hx)
theorem g_ifnonnullW (X : Cx p E A DD R s m args c cc own nL) {x tgt : Nat} {off : Int} (hdg : decode cc pc = .ok (.ifnonnull off, 3)) (ht : (pc : Int) + off = (tgt : Int)) (kt : ¬ x = 0 → W p l e R s m args below meth c H locs cells slots Q (F0 m tgt ls rest)) (kf : x = 0 → W p l e R s m args below meth c H locs cells slots Q (F0 m (pc + 3) ls rest)) :
    W p l e R s m args below meth c H locs cells slots Q (F0 m pc ls (wv E x :: rest)) := by
  by_cases hx : x = 0
  · subst hx; exact lv_ifnonnullN X.1 X.2.1 hdg (kf rfl)
  · rw [wv_ref E hx]; exact lv_ifnonnull X.1 X.2.1 hdg ht (kt hx)
def wsM (y : MethodName) (b : ByteArray) (maxL : Nat) (ret : Option FieldType) : List Cond := Cond.code y b maxL ret :: UW
def PcE (E : EE) (A : Nat → Prop) (h : Hp) (av : List Value) : Array Value → State → Prop := va_Pc av (fun U => Rp E A h U.heap ∧ va_K (EG E) vwCl (tysE E) U ∧ Kon E A U ∧ (∀ q : Nat, U.heap.size ≤ q → A q))
theorem blindE {av : List Value} : FrameBlind (PcE E A h av) := fun a U g mk q => by
  obtain ⟨e0, q1, q2, q3, q4⟩ := q
  exact ⟨e0, q1, va_K.moved (u := U) (U := U.calling g mk a) (Vm.Alike.refl U.vm) q2, Kon.moved (u := U) (U := U.calling g mk a) (Vm.Alike.refl U.vm) (fun _ _ _ => rfl) q3, q4⟩
theorem met_of {y : MethodName} {b : ByteArray} {maxL D mc ms : Nat} {ret : Option FieldType} {av : List Value} {Qc : Array Value → State → Outcome → State → Prop} (hy : plainName y.cls = true) (hn : (lg_sl av).length ≤ maxL)
    (body : ∀ (p : Program) (e : Env) (s : State) (m : MethodId) (args : Array Value) (below : List Frame) (meth : Method) (c : Code) (ls : Array Slot), Cx p E A D (rmm D mc ms) s m args c b y.cls maxL → meth.sig.returnType = ret → meth.locks = false → meth.name = y.name → St E A s h s.heap [] → lv_has ls maxL (lv_args 0 av) →
      W p l e (rmm D mc ms) s m args below meth c s.heap [] 0 0 (MQ below Qc args s mc ms A) (F0 m 0 ls [])) : Met l y (wsM y b maxL ret) (rmm D mc ms) (PcE E A h av) Qc mc ms A := by
  refine Met.ofW (cc := b) (maxL := maxL) (ret := ret) hy rfl ?_
  intro p e s m args below meth c s₁ B hml hv
  obtain ⟨rfl, hR, hK9, hKo, hA⟩ := hv
  have hts := atoms_spec (ws := wsM y b maxL ret) B.pre
  rw [lg_entry_eq]
  exact body p e s m _ below meth c _ ⟨B.exec, B.bytes, fun w hw => hts w (List.mem_cons_of_mem _ hw), findClass_of_methodNamed B.named, hK9, hml, ⟨Nat.le_refl _, Nat.le_refl _⟩, hKo, hA⟩ B.returns B.notSynchronized (name_of_methodNamed B.named B.method).1 ⟨hR, va_S.rf⟩ (lv_entry av hn)
/-- a call's words -/
def CO (own : String) (index : Nat) (y : MethodName) (b : ByteArray) (maxL : Nat) (ret : Option FieldType) (n : Nat) : Prop := Cond.methodLink own index y ∈ UW ∧ Cond.code y b maxL ret ∈ UW ∧ Cond.initialized y.cls ∈ UW ∧ (y.cls ≠ "java/lang/invoke/MethodHandle" ∧ y.cls ≠ "java/lang/invoke/VarHandle") ∧ (parseMethodDescriptor y.desc).map (fun d => d.parameters.length) = some n ∧ maxL ≤ 45
def COV (own : String) (index : Nat) (y : MethodName) (b : ByteArray) (maxL : Nat) (ret : Option FieldType) (n ci : Nat) : Prop := CO own index y b maxL ret n ∧ Cond.instanceMethod y ∈ UW ∧ Cond.selects y.cls y y ∈ UW ∧ ∃ (T : u_T) (N : Nat), vwCl[ci]? = some (y.cls, T, N) ∧ ci ≠ 0 ∧ ci < 100
def COS (own : String) (index : Nat) (y : MethodName) (b : ByteArray) (maxL : Nat) (ret : Option FieldType) (n : Nat) : Prop := CO own index y b maxL ret n ∧ Cond.static y ∈ UW
def COI (own : String) (index : Nat) (y : MethodName) (b : ByteArray) (maxL : Nat) (n : Nat) : Prop := CO own index y b maxL none n ∧ Cond.instanceMethod y ∈ UW ∧ y.name = "<init>"
variable {y : MethodName} {b : ByteArray} {maxL n index D mc ms : Nat} {ret : Option FieldType} {Qc : Array Value → State → Outcome → State → Prop} {As st : List Value} {a ci : Nat}
theorem callb (X : Cx p E A DD R s m args c cc own nL) (O : CO own index y b maxL ret n) (hD : D + 1 ≤ DD) : CallB R s args own index y b maxL ret (wsM y b maxL ret) (rmm D mc ms) mc ms n := by
  obtain ⟨hx, hb, hu, hown, hK9, hml, hR, -⟩ := X
  obtain ⟨o1, o2, o3, o4, o5, o6⟩ := O
  refine ⟨rfl, rfl, Nat.le_trans hD hR.1, ?_, ?_, List.mem_cons_self, hu _ o2, hu _ o3, o4, ?_, hu _ o1⟩
  · show 8 + (maxL + 11) + 64 * D ≤ R.locals
    have := hR.2
    omega
  · intro w hw a' U hW
    rcases List.mem_cons.mp hw with rfl | hw
    · exact word_at hW (uw_good o2) (hu _ o2)
    · exact word_at hW (uw_good hw) (hu _ hw)
  · intro sig hsig
    rw [hsig] at o5
    exact (Option.some.inj o5).symm
theorem pre_ok (X : Cx p E A DD R s m args c cc own nL) (S : St E A s h H locs) (av : List Value) (U : State) (hU : U.heap = H) (hW : s.WarmedH U.vm) : PcE E A h av av.toArray U := by
  obtain ⟨hx, hb, hu, hown, hK9, hml, hR, hKo, hA⟩ := X
  refine ⟨rfl, by rw [hU]; exact S.1, va_K.moved hW.alike hK9, Kon.moved hW.alike (fun q h1 h2 => by rw [hU]; exact S.2.2.1 q h1 h2) hKo, fun q hq => hA q (Nat.le_trans S.2.1 (by rw [← hU]; exact hq))⟩
theorem runV (X : Cx p E A DD R s m args c cc own nL) (S : St E A s h H locs) (O : COV own index y b maxL ret n ci) (hD : D + 1 ≤ DD) (hM : Met l y (wsM y b maxL ret) (rmm D mc ms) (PcE E A h (rv a :: As)) Qc mc ms A) (hk : hK h a = ci) (hn : As.length = n) (hl : ls.size = nL) (hst : (rest.map fun v => v.category).sum ≤ 8) (hs : st = As.reverse ++ rv a :: rest) (hf : cells + mc ≤ R.cells ∧ slots + ms ≤ R.slots)
    (hdg : decode cc pc = .ok (.invokevirtual index, 3)) : va_Run p l e R s m args below meth c H locs cells slots mc ms (F0 m pc ls st) rest (Qc (rv a :: As).toArray) A := by
  obtain ⟨o1, o2, o3, T, N, o4, o5, o6⟩ := O
  have cb := callb (mc := mc) (ms := ms) X o1 hD
  have hpre := pre_ok X S (rv a :: As)
  obtain ⟨hx, hb, hu, hown, hK9, hml, hR, hKo, hA⟩ := X
  obtain ⟨⟨h0, L, hL, hP, hD9⟩, hS⟩ := S
  have hra := rv_ref (dom_ne h0 hk o5)
  rw [hra] at hM hs hpre ⊢
  obtain ⟨q0, hq⟩ := va_pl_get (X := []) (f := cellOf E h) ((hL a).2 (by rw [hk]; exact o5))
  rw [cellOf_obj hk o6] at hq
  exact va_runV (C := y.cls) (ws := wsM y b maxL ret) (rm := rmm D mc ms) ⟨hx, hb, hml, hown, hu⟩ hM ⟨cb, hu _ o2, hu _ o3⟩ ⟨blindE, va_recv hK9 hP o4 hq, hpre⟩ rfl hn hl hs (lv_room hst) hdg hf
theorem runS (X : Cx p E A DD R s m args c cc own nL) (S : St E A s h H locs) (O : COS own index y b maxL ret n) (hD : D + 1 ≤ DD) (hM : Met l y (wsM y b maxL ret) (rmm D mc ms) (PcE E A h As) Qc mc ms A) (hn : As.length = n) (hl : ls.size = nL) (hst : (rest.map fun v => v.category).sum ≤ 8) (hs : st = As.reverse ++ rest) (hf : cells + mc ≤ R.cells ∧ slots + ms ≤ R.slots)
    (hdg : decode cc pc = .ok (.invokestatic index, 3)) : va_Run p l e R s m args below meth c H locs cells slots mc ms (F0 m pc ls st) rest (Qc As.toArray) A := by
  obtain ⟨o1, o2⟩ := O
  have cb := callb (mc := mc) (ms := ms) X o1 hD
  have hpre := pre_ok X S As
  obtain ⟨hx, hb, hu, hown, hK9, hml, hR, hKo, hA⟩ := X
  exact va_runS (ws := wsM y b maxL ret) (rm := rmm D mc ms) ⟨hx, hb, hml, hown, hu⟩ hM ⟨cb, hu _ o2⟩ ⟨blindE, hpre⟩ rfl hn hl hs (lv_room hst) hdg hf
theorem runI (X : Cx p E A DD R s m args c cc own nL) (S : St E A s h H locs) (O : COI own index y b maxL n) (hD : D + 1 ≤ DD) (hM : Met l y (wsM y b maxL none) (rmm D mc ms) (PcE E A h (rv a :: As)) Qc mc ms A) (hk : hK h a = ci) (hc0 : ci ≠ 0) (hn : As.length = n) (hl : ls.size = nL) (hst : (rest.map fun v => v.category).sum ≤ 8) (hs : st = As.reverse ++ rv a :: rest) (hf : cells + mc ≤ R.cells ∧ slots + ms ≤ R.slots)
    (hdg : decode cc pc = .ok (.invokespecial index, 3)) : va_Run p l e R s m args below meth c H locs cells slots mc ms (F0 m pc ls st) rest (Qc (rv a :: As).toArray) A := by
  obtain ⟨o1, o2, o3⟩ := O
  have cb := callb (mc := mc) (ms := ms) X o1 hD
  have hpre := pre_ok X S (rv a :: As)
  obtain ⟨hx, hb, hu, hown, hK9, hml, hR, hKo, hA⟩ := X
  have hra := rv_ref (dom_ne S.1.1 hk hc0)
  rw [hra] at hM hs hpre ⊢
  exact va_runI (ws := wsM y b maxL none) (rm := rmm D mc ms) ⟨hx, hb, hml, hown, hu⟩ hM ⟨cb, o3, hu _ o2⟩ ⟨blindE, hpre⟩ rfl hn hl hs (lv_room hst) hdg hf
variable {h' : Hp} {av : List Value}
def Qi (E : EE) (A : Nat → Prop) (h : Hp) (v : Int32) : Array Value → State → Outcome → State → Prop := va_Qi (fun r (_ : Unit) => r = v) (fun _ t => Rp E A h t.heap) A
def Ql (E : EE) (A : Nat → Prop) (h : Hp) (v : Int64) : Array Value → State → Outcome → State → Prop := va_Ql (fun r (_ : Unit) => r = v) (fun _ t => Rp E A h t.heap) A
def Qv (E : EE) (A : Nat → Prop) (h : Hp) : Array Value → State → Outcome → State → Prop := va_Qv (fun (_ : Unit) => True) (fun _ t => Rp E A h t.heap) A
def Qq (E : EE) (A : Nat → Prop) (h : Hp) (v : Option Nat) : Array Value → State → Outcome → State → Prop := va_Qq (fun r (_ : Unit) => r = v) (fun _ t => Rp E A h t.heap) A
theorem g_ci {v : Int32} (S : St E A s h H locs) (hr : va_Run p l e R s m args below meth c H locs cells slots mc ms (F0 m pc ls st) rest (Qi E A h' v av.toArray) A)
    (kk : ∀ (H1 : Heap) (locs1 : List Loc), St E A s h' H1 locs1 → W p l e R s m args below meth c H1 locs1 (cells + mc) (slots + ms) Q (F0 m (pc + 3) ls (.int v :: rest))) : W p l e R s m args below meth c H locs cells slots Q (F0 m pc ls st) := by
  refine va_calli hr S.2 (fun q _ z => z) (fun q z => z) (fun r u t H1 locs1 ht hvm hp hB hz hk1 hS => ?_)
  subst hp
  rw [ht] at hB
  exact kk H1 locs1 ⟨hB, hS⟩
theorem g_cl {v : Int64} (S : St E A s h H locs) (hr : va_Run p l e R s m args below meth c H locs cells slots mc ms (F0 m pc ls st) rest (Ql E A h' v av.toArray) A)
    (kk : ∀ (H1 : Heap) (locs1 : List Loc), St E A s h' H1 locs1 → W p l e R s m args below meth c H1 locs1 (cells + mc) (slots + ms) Q (F0 m (pc + 3) ls (.long v :: rest))) : W p l e R s m args below meth c H locs cells slots Q (F0 m pc ls st) := by
  refine va_calll hr S.2 (fun q _ z => z) (fun q z => z) (fun r u t H1 locs1 ht hvm hp hB hz hk1 hS => ?_)
  subst hp
  rw [ht] at hB
  exact kk H1 locs1 ⟨hB, hS⟩
theorem g_cv (S : St E A s h H locs) (hr : va_Run p l e R s m args below meth c H locs cells slots mc ms (F0 m pc ls st) rest (Qv E A h' av.toArray) A)
    (kk : ∀ (H1 : Heap) (locs1 : List Loc), St E A s h' H1 locs1 → W p l e R s m args below meth c H1 locs1 (cells + mc) (slots + ms) Q (F0 m (pc + 3) ls rest)) : W p l e R s m args below meth c H locs cells slots Q (F0 m pc ls st) := by
  refine va_callv hr S.2 (fun q _ z => z) (fun q z => z) (fun u t H1 locs1 ht hvm hp hB hz hk1 hS => ?_)
  rw [ht] at hB
  exact kk H1 locs1 ⟨hB, hS⟩
theorem g_cq {v : Option Nat} (S : St E A s h H locs) (hr : va_Run p l e R s m args below meth c H locs cells slots mc ms (F0 m pc ls st) rest (Qq E A h' v av.toArray) A)
    (kk : ∀ (H1 : Heap) (locs1 : List Loc), St E A s h' H1 locs1 → W p l e R s m args below meth c H1 locs1 (cells + mc) (slots + ms) Q (F0 m (pc + 3) ls (va_rf v :: rest))) : W p l e R s m args below meth c H locs cells slots Q (F0 m pc ls st) := by
  refine va_callq hr S.2 (fun q _ z => z) (fun q z => z) (fun r u t H1 locs1 ht hvm hp hB hz hk1 hS => ?_)
  subst hp
  rw [ht] at hB
  exact kk H1 locs1 ⟨hB, hS⟩
-- returns
theorem g_ri {v : Int32} (X : Cx p E A DD R s m args c cc own nL) (S : St E A s h H locs) (hr : meth.sig.returnType = some .int) (hlk : meth.locks = false) (hdg : decode cc pc = .ok (.ireturn, 1)) :
    W p l e R s m args below meth c H locs cells slots (MQ below (Qi E A h v) args s cells slots A) (F0 m pc ls [.int v]) :=
  W.iret X.1 X.2.1 hr (fun t ht hW => ⟨⟨v, (), rfl, rfl, by show Rp E A h t.heap; rw [ht]; exact S.1⟩, S.2.F ht⟩) S.2.2.2 hdg hlk
theorem g_rz {v : Int32} (X : Cx p E A DD R s m args c cc own nL) (S : St E A s h H locs) (hr : meth.sig.returnType = some .boolean) (hlk : meth.locks = false) (hz : v = 0 ∨ v = 1) (hdg : decode cc pc = .ok (.ireturn, 1)) :
    W p l e R s m args below meth c H locs cells slots (MQ below (Qi E A h v) args s cells slots A) (F0 m pc ls [.int v]) :=
  W.zret X.1 X.2.1 hr (by rcases hz with rfl | rfl <;> rfl) (fun t ht hW => ⟨⟨v, (), rfl, rfl, by show Rp E A h t.heap; rw [ht]; exact S.1⟩, S.2.F ht⟩) S.2.2.2 hdg hlk
theorem g_rl {v : Int64} (X : Cx p E A DD R s m args c cc own nL) (S : St E A s h H locs) (hr : meth.sig.returnType = some .long) (hlk : meth.locks = false) (hdg : decode cc pc = .ok (.lreturn, 1)) :
    W p l e R s m args below meth c H locs cells slots (MQ below (Ql E A h v) args s cells slots A) (F0 m pc ls [.long v]) :=
  W.lret X.1 X.2.1 hr (fun t ht hW => ⟨⟨v, (), rfl, rfl, by show Rp E A h t.heap; rw [ht]; exact S.1⟩, S.2.F ht⟩) S.2.2.2 hdg hlk
theorem g_rv (X : Cx p E A DD R s m args c cc own nL) (S : St E A s h H locs) (hr : meth.sig.returnType = none) (hlk : meth.locks = false) (hdg : decode cc pc = .ok (.return_, 1)) :
    W p l e R s m args below meth c H locs cells slots (MQ below (Qv E A h) args s cells slots A) (F0 m pc ls []) :=
  W.vret X.1 X.2.1 hr (fun t ht hW => ⟨⟨(), rfl, trivial, by show Rp E A h t.heap; rw [ht]; exact S.1⟩, S.2.F ht⟩) S.2.2.2 hdg hlk
theorem g_rq {v : Option Nat} {rt : FieldType} (X : Cx p E A DD R s m args c cc own nL) (S : St E A s h H locs) (hr : meth.sig.returnType = some rt) (hrt : isR rt) (hlk : meth.locks = false) (hdg : decode cc pc = .ok (.areturn, 1)) :
    W p l e R s m args below meth c H locs cells slots (MQ below (Qq E A h v) args s cells slots A) (F0 m pc ls [va_rf v]) :=
  W.aret X.1 X.2.1 hr hrt (va_rf_or v) (fun t ht hW => ⟨⟨v, (), rfl, rfl, by show Rp E A h t.heap; rw [ht]; exact S.1⟩, S.2.F ht⟩) S.2.2.2 hdg hlk
-- the library's own
theorem g_max (X : Cx p E A DD R s m args c cc own nL) (hl : ls.size = nL) (hDD : 1 ≤ DD) (hst : (rest.map fun v => v.category).sum ≤ 8) (h1 : Cond.methodLink own index Lib.Math.max.name ∈ UW) (h2 : Cond.static Lib.Math.max.name ∈ UW) (h3 : Cond.initialized "java/lang/Math" ∈ UW) (h4 : Cond.code Lib.Math.max.name Lib.Math.max.code 2 (some .int) ∈ UW) (hc : cells ≤ R.cells) (hs : slots ≤ R.slots) {x z : Int32} (hdg : decode cc pc = .ok (.invokestatic index, 3))
    (kk : W p l e R s m args below meth c H locs cells slots Q (F0 m (pc + 3) ls (.int (imax x z) :: rest))) : W p l e R s m args below meth c H locs cells slots Q (F0 m pc ls (.int z :: .int x :: rest)) := by
  obtain ⟨hx, hb, hu, hown, hK9, hml, hR, hKo, hA⟩ := X
  exact va_mmax hx hb (hml.trans hl.symm) hown (hu _ h1) (hu _ h2) (hu _ h3) (hu _ h4) (by omega) (by omega) hc hs hdg kk
theorem g_min (X : Cx p E A DD R s m args c cc own nL) (hl : ls.size = nL) (hDD : 1 ≤ DD) (hst : (rest.map fun v => v.category).sum ≤ 8) (h1 : Cond.methodLink own index Lib.Math.min.name ∈ UW) (h2 : Cond.static Lib.Math.min.name ∈ UW) (h3 : Cond.initialized "java/lang/Math" ∈ UW) (h4 : Cond.code Lib.Math.min.name Lib.Math.min.code 2 (some .int) ∈ UW) (hc : cells ≤ R.cells) (hs : slots ≤ R.slots) {x z : Int32} (hdg : decode cc pc = .ok (.invokestatic index, 3))
    (kk : W p l e R s m args below meth c H locs cells slots Q (F0 m (pc + 3) ls (.int (imin x z) :: rest))) : W p l e R s m args below meth c H locs cells slots Q (F0 m pc ls (.int z :: .int x :: rest)) := by
  obtain ⟨hx, hb, hu, hown, hK9, hml, hR, hKo, hA⟩ := X
  exact va_mmin hx hb (hml.trans hl.symm) hown (hu _ h1) (hu _ h2) (hu _ h3) (hu _ h4) (by omega) (by omega) hc hs hdg kk
theorem g_abs (X : Cx p E A DD R s m args c cc own nL) (hl : ls.size = nL) (hDD : 1 ≤ DD) (hst : (rest.map fun v => v.category).sum ≤ 8) (h1 : Cond.methodLink own index Lib.MathLoose.abs_long.x ∈ UW) (h2 : Cond.static Lib.MathLoose.abs_long.x ∈ UW) (h3 : Cond.initialized "java/lang/Math" ∈ UW) (h4 : Cond.code Lib.MathLoose.abs_long.x Lib.MathLoose.abs_long.code 2 (some .long) ∈ UW) (hc : cells ≤ R.cells) (hs : slots ≤ R.slots) {x : Int64} (hdg : decode cc pc = .ok (.invokestatic index, 3))
    (kk : W p l e R s m args below meth c H locs cells slots Q (F0 m (pc + 3) ls (.long (labs x) :: rest))) : W p l e R s m args below meth c H locs cells slots Q (F0 m pc ls (.long x :: rest)) := by
  obtain ⟨hx, hb, hu, hown, hK9, hml, hR, hKo, hA⟩ := X
  exact va_mabs_long hx hb (hml.trans hl.symm) hown (hu _ h1) (hu _ h2) (hu _ h3) (hu _ h4) (by omega) (by omega) hc hs hdg kk
theorem met_ofF {y : MethodName} {b : ByteArray} {maxL D mc ms : Nat} {ret : Option FieldType} {av : List Value} {Qc : Array Value → State → Outcome → State → Prop} (hy : plainFor y = true) (hn : (lg_sl av).length ≤ maxL)
    (body : ∀ (p : Program) (e : Env) (s : State) (m : MethodId) (args : Array Value) (below : List Frame) (meth : Method) (c : Code) (ls : Array Slot), Cx p E A D (rmm D mc ms) s m args c b y.cls maxL → meth.sig.returnType = ret → meth.locks = false → meth.name = y.name → St E A s h s.heap [] → lv_has ls maxL (lv_args 0 av) →
      W p l e (rmm D mc ms) s m args below meth c s.heap [] 0 0 (MQ below Qc args s mc ms A) (F0 m 0 ls [])) : Met l y (wsM y b maxL ret) (rmm D mc ms) (PcE E A h av) Qc mc ms A := by
  refine MetFree.of_bodySF (code := b) (maxLocals := maxL) (ret := ret) hy ?_ ?_
  · intro args s m h hn
    obtain ⟨meth, c, h1, h2, h3, h4, h5, h6, -, -⟩ := Cond.code_spec hn (atoms_spec (ws := wsM y b maxL ret) h _ List.mem_cons_self)
    exact ⟨meth, c, h1, h2, h3, h4, h5, h6⟩
  · intro p e s m args below meth c s₁ B hml hv _
    have hh0 : s₁.heap = s.heap := by rw [B.state]; rfl
    obtain ⟨rfl, hR, hK9, hKo, hA⟩ := hv
    have hts := atoms_spec (ws := wsM y b maxL ret) B.pre
    have key := body p e s m _ below meth c _ ⟨B.exec, B.bytes, fun w hw => hts w (List.mem_cons_of_mem _ hw), findClass_of_methodNamed B.named, hK9, hml, ⟨Nat.le_refl _, Nat.le_refl _⟩, hKo, hA⟩ B.returns B.notSynchronized (name_of_methodNamed B.named B.method).1 ⟨hR, va_S.rf⟩ (lv_entry av hn)
    rw [← lg_entry_eq] at key
    obtain ⟨t, a1, o, b1, b2, b3⟩ := key s₁ hh0 (Stand.of_body B)
    exact ⟨t, o, a1, b1, b2, ⟨b3.1, b3.2⟩⟩
theorem g_cp {β : Type} {f : Hp → Option β} {r : β} (X : Cx p E A DD R s m args c cc own nL) (S : St E A s h H locs) (hl : ls.size = nL) (hDD : 1 ≤ DD) (hst : (rest.map fun v => v.category).sum ≤ 8) (h1 : Cond.methodLink own index arraycopyName ∈ UW) (h2 : Cond.native arraycopyName ∈ UW) (h3 : Cond.static arraycopyName ∈ UW) (h4 : Cond.initialized "java/lang/System" ∈ UW) {a0 : Nat} {sp dp nn : Int32} (hdg : decode cc pc = .ok (.invokestatic index, 3)) (hf : ob (cpA a0 sp a dp nn h) f = some r)
    (kk : ∀ (h' : Hp) (H1 : Heap) (locs1 : List Loc), Sm h h' → f h' = some r → St E A s h' H1 locs1 → W p l e R s m args below meth c H1 locs1 cells slots Q (F0 m (pc + 3) ls rest)) : W p l e R s m args below meth c H locs cells slots Q (F0 m pc ls (.int nn :: .int dp :: rv a :: .int sp :: rv a0 :: rest)) := by
  obtain ⟨hx, hb, hu, hown, hK9, hml, hR, hKo, hA⟩ := X
  obtain ⟨h', h8, h9⟩ := ob_some hf
  obtain ⟨⟨k0, k1, i1, i2, i3, i4, i5⟩, rfl⟩ := if_some h8
  obtain ⟨⟨h0, L, hL, hP, hD⟩, hS⟩ := S
  rw [rv_ref (dom_ne h0 k0 (by decide)), rv_ref (dom_ne h0 k1 (by decide))]
  have haL := (hL a).2 (by rw [k1]; decide)
  obtain ⟨q1, hq⟩ := va_pl_get (X := []) (f := cellOf E h) haL
  have hq2 := hq
  rw [cellOf_int k1] at hq
  obtain ⟨q0, hq0⟩ := va_pl_get (X := []) (f := cellOf E h) ((hL a0).2 (by rw [k0]; decide))
  rw [cellOf_int k0] at hq0
  have hw : nativeFrameWords "java/lang/System" "arraycopy" 5 + 11 ≤ 55 := by decide +kernel
  refine va_copyi hx hb (hml.trans hl.symm) hown (hu _ h1) (hu _ h2) (hu _ h3) (hu _ h4) hK9 hP hD hS q0 q1 0 0 hq0 hq ty0 ty0 rfl i1 i2 i3 i4 i5 (fun i _ => rfl) (by omega) (by omega) hdg (fun H1 locs1 hP1 hD1 hS1 => ?_)
  exact kk _ H1 locs1 (by exact ⟨rfl, rfl, rfl, rfl, rfl⟩) h9 ⟨Rp_set h0 hL haL hq2 hD hP1 hD1 rfl (by rw [cellOf_int (show hK (sA h a _) a = 101 from k1), hI_sA]; rfl) (fun b hb => cell_sA hb), hS1⟩

theorem g_lti {β : Type} {f : Int32 → Option β} {r : β} {x : Int32} (hf : lt x f = some r) (kk : ∀ y : Int32, f y = some r → W p l e R s m args below meth c H locs cells slots Q (F0 m pc ls (.int y :: rest))) : W p l e R s m args below meth c H locs cells slots Q (F0 m pc ls (.int x :: rest)) := kk x hf
theorem g_ltl {β : Type} {f : Int64 → Option β} {r : β} {x : Int64} (hf : lt x f = some r) (kk : ∀ y : Int64, f y = some r → W p l e R s m args below meth c H locs cells slots Q (F0 m pc ls (.long y :: rest))) : W p l e R s m args below meth c H locs cells slots Q (F0 m pc ls (.long x :: rest)) := kk x hf
theorem g_idiv (X : Cx p E A DD R s m args c cc own nL) {x y : Int32} (hne : ¬ y = 0) (hdg : decode cc pc = .ok (.idiv, 1)) (kk : W p l e R s m args below meth c H locs cells slots Q (F0 m (pc + 1) ls (.int (x / y) :: rest))) : W p l e R s m args below meth c H locs cells slots Q (F0 m pc ls (.int y :: .int x :: rest)) := lv_idiv X.1 X.2.1 hdg hne kk
theorem g_irem (X : Cx p E A DD R s m args c cc own nL) {x y : Int32} (hne : ¬ y = 0) (hdg : decode cc pc = .ok (.irem, 1)) (kk : W p l e R s m args below meth c H locs cells slots Q (F0 m (pc + 1) ls (.int (irm x y) :: rest))) : W p l e R s m args below meth c H locs cells slots Q (F0 m pc ls (.int y :: .int x :: rest)) := lv_irem X.1 X.2.1 hdg hne kk
theorem g_ldiv (X : Cx p E A DD R s m args c cc own nL) {x y : Int64} (hne : ¬ y = 0) (hdg : decode cc pc = .ok (.ldiv, 1)) (kk : W p l e R s m args below meth c H locs cells slots Q (F0 m (pc + 1) ls (.long (x / y) :: rest))) : W p l e R s m args below meth c H locs cells slots Q (F0 m pc ls (.long y :: .long x :: rest)) := lv_ldiv X.1 X.2.1 hdg hne kk
theorem g_lrem (X : Cx p E A DD R s m args c cc own nL) {x y : Int64} (hne : ¬ y = 0) (hdg : decode cc pc = .ok (.lrem, 1)) (kk : W p l e R s m args below meth c H locs cells slots Q (F0 m (pc + 1) ls (.long (lrm x y) :: rest))) : W p l e R s m args below meth c H locs cells slots Q (F0 m pc ls (.long y :: .long x :: rest)) := lv_lrem X.1 X.2.1 hdg hne kk
theorem i32_ne {x k : Int32} {n : Int} (h : ¬ x = k) (hk : k.toInt = n) : x.toInt ≠ n := fun q => h (Int32.toInt_inj.mp (q.trans hk.symm))
theorem g_oi (X : Cx p E A DD R s m args c cc own nL) (S : St E A s h H locs) (hl : ls.size = nL) (h1 : Cond.methodLink own index Lib.objectInit ∈ UW) (hdg : decode cc pc = .ok (.invokespecial index, 3)) (hDD : 1 ≤ DD) (hst : (rest.map fun v => v.category).sum ≤ 8) (ha : a ≠ 0)
    (kk : W p l e R s m args below meth c H locs cells slots Q (F0 m (pc + 3) ls rest)) : W p l e R s m args below meth c H locs cells slots Q (F0 m pc ls (rv a :: rest)) := by
  obtain ⟨hx, hb, hu, hown, hK9, hml, hR, hKo, hA⟩ := X
  rw [rv_ref ha]
  exact W.objInit hx hb hown (hu _ h1) (hu _ u_oi_i) (hu _ u_oi_c) rfl (hl.trans hml.symm) rfl hdg (by omega) (by show 2 * 0 + _ + 12 ≤ _; omega) kk
-- words and Strings
def isALL (E : EE) (A : Nat → Prop) (s : State) (q : Nat) : Prop := va_T (.object "NibbleEngine$Word") q 29 (fun j => .ref (E.2.2.2.1 j)) A s s.heap
def isSM (A : Nat → Prop) (s : State) (q : Nat) : Prop := va_T .int q 29 (fun j => .int (wSm.getD j 0)) A s s.heap
def WFo (own : String) (index : Nat) (n d : String) : Prop := Cond.fieldLink own index "NibbleEngine$Word" n d ∈ UW
def SFo (own : String) (index : Nat) (C n d : String) : Prop := Cond.fieldLink own index C n d ∈ UW
def JFo (own : String) (index : Nat) (y : MethodName) : Prop := Cond.methodLink own index y ∈ UW
theorem g_wdT {β : Type} {f : Nat → Option β} {r : β} {x : Nat} (X : Cx p E A DD R s m args c cc own nL) (S : St E A s h H locs) (F : WFo own index "text" "Ljava/lang/String;") (hdg : decode cc pc = .ok (.getfield index, 3)) (hf : ob (wdT x) f = some r)
    (kk : ∀ v : Nat, f v = some r → W p l e R s m args below meth c H locs cells slots Q (F0 m (pc + 3) ls (sv E v :: rest))) : W p l e R s m args below meth c H locs cells slots Q (F0 m pc ls (wv E x :: rest)) := sorry
theorem g_wdF {β : Type} {f : Nat → Option β} {r : β} {x : Nat} (X : Cx p E A DD R s m args c cc own nL) (S : St E A s h H locs) (F : WFo own index "form" "Ljava/lang/String;") (hdg : decode cc pc = .ok (.getfield index, 3)) (hf : ob (wdF x) f = some r)
    (kk : ∀ v : Nat, f v = some r → W p l e R s m args below meth c H locs cells slots Q (F0 m (pc + 3) ls (sv E v :: rest))) : W p l e R s m args below meth c H locs cells slots Q (F0 m pc ls (wv E x :: rest)) := sorry
theorem g_wdP {β : Type} {f : Int32 → Option β} {r : β} {x : Nat} (X : Cx p E A DD R s m args c cc own nL) (S : St E A s h H locs) (F : WFo own index "packed" "I") (hdg : decode cc pc = .ok (.getfield index, 3)) (hf : ob (wdP x) f = some r)
    (kk : ∀ v : Int32, f v = some r → W p l e R s m args below meth c H locs cells slots Q (F0 m (pc + 3) ls (.int v :: rest))) : W p l e R s m args below meth c H locs cells slots Q (F0 m pc ls (wv E x :: rest)) := sorry
theorem g_wdI {β : Type} {f : Int32 → Option β} {r : β} {x : Nat} (X : Cx p E A DD R s m args c cc own nL) (S : St E A s h H locs) (F : WFo own index "instruction" "Z") (hdg : decode cc pc = .ok (.getfield index, 3)) (hf : ob (wdI x) f = some r)
    (kk : ∀ v : Int32, f v = some r → W p l e R s m args below meth c H locs cells slots Q (F0 m (pc + 3) ls (.int v :: rest))) : W p l e R s m args below meth c H locs cells slots Q (F0 m pc ls (wv E x :: rest)) := sorry
theorem g_getw {nm : String} {i : Nat} (X : Cx p E A DD R s m args c cc own nL) (S : St E A s h H locs) (F : SFo own index "NibbleEngine$Word" nm "LNibbleEngine$Word;") (hi : i < 29 ∧ wNm.getD i "" = nm) (hdg : decode cc pc = .ok (.getstatic index, 3))
    (kk : W p l e R s m args below meth c H locs cells slots Q (F0 m (pc + 3) ls (wv E (i + 1) :: rest))) : W p l e R s m args below meth c H locs cells slots Q (F0 m pc ls rest) := sorry
theorem g_getall (X : Cx p E A DD R s m args c cc own nL) (S : St E A s h H locs) (F : SFo own index "NibbleEngine$Word" "ALL" "[LNibbleEngine$Word;") (hdg : decode cc pc = .ok (.getstatic index, 3))
    (kk : ∀ q : Nat, isALL E A s q → W p l e R s m args below meth c H locs cells slots Q (F0 m (pc + 3) ls (.ref q :: rest))) : W p l e R s m args below meth c H locs cells slots Q (F0 m pc ls rest) := sorry
theorem g_getsm (X : Cx p E A DD R s m args c cc own nL) (S : St E A s h H locs) (F : SFo own index "NibbleEngine$1" "$SwitchMap$NibbleEngine$Word" "[I") (hdg : decode cc pc = .ok (.getstatic index, 3))
    (kk : ∀ q : Nat, isSM A s q → W p l e R s m args below meth c H locs cells slots Q (F0 m (pc + 3) ls (.ref q :: rest))) : W p l e R s m args below meth c H locs cells slots Q (F0 m pc ls rest) := sorry
theorem g_sm {β : Type} {f : Int32 → Option β} {r : β} {i : Int32} {q : Nat} (X : Cx p E A DD R s m args c cc own nL) (S : St E A s h H locs) (hq : isSM A s q) (hdg : decode cc pc = .ok (.iaload, 1)) (hf : ob (smI i) f = some r)
    (kk : ∀ v : Int32, f v = some r → W p l e R s m args below meth c H locs cells slots Q (F0 m (pc + 1) ls (.int v :: rest))) : W p l e R s m args below meth c H locs cells slots Q (F0 m pc ls (.int i :: .ref q :: rest)) := by
  obtain ⟨v, h1, h2⟩ := ob_some hf
  obtain ⟨hin, rfl⟩ := if_some h1
  exact va_ti X.1 X.2.1 hq S.2 hin rfl hdg (kk _ h2)
theorem g_all {β : Type} {f : Nat → Option β} {r : β} {i : Int32} {q : Nat} (X : Cx p E A DD R s m args c cc own nL) (S : St E A s h H locs) (hq : isALL E A s q) (hdg : decode cc pc = .ok (.aaload, 1)) (hf : ob (alW i) f = some r)
    (kk : ∀ v : Nat, f v = some r → W p l e R s m args below meth c H locs cells slots Q (F0 m (pc + 1) ls (wv E v :: rest))) : W p l e R s m args below meth c H locs cells slots Q (F0 m pc ls (.int i :: .ref q :: rest)) := by
  obtain ⟨v, h1, h2⟩ := ob_some hf
  obtain ⟨hin, rfl⟩ := if_some h1
  exact vb_tq X.1 X.2.1 hq S.2 hin rfl hdg (kk _ h2)
theorem g_alen {q : Nat} (X : Cx p E A DD R s m args c cc own nL) (S : St E A s h H locs) (hq : isALL E A s q) (hdg : decode cc pc = .ok (.arraylength, 1))
    (kk : W p l e R s m args below meth c H locs cells slots Q (F0 m (pc + 1) ls (.int 29 :: rest))) : W p l e R s m args below meth c H locs cells slots Q (F0 m pc ls (.ref q :: rest)) := sorry
theorem oF_inj {f : Nat → Nat} (hf : ∀ i j : Nat, i < 29 → j < 29 → f i = f j → i = j) {x y : Nat} (hx : x ≤ 29) (hy : y ≤ 29) : oF f x = oF f y ↔ x = y := by
  constructor
  · intro q
    unfold oF at q
    split at q <;> split at q
    · omega
    · cases q
    · cases q
    · have := hf _ _ (by omega) (by omega) (Option.some.inj q)
      omega
  · rintro rfl; rfl
theorem g_acmpeqW {x y tgt : Nat} {off : Int} (X : Cx p E A DD R s m args c cc own nL) (hdg : decode cc pc = .ok (.if_acmp .eq off, 3)) (ht : (pc : Int) + off = (tgt : Int)) (hx : x ≤ 29) (hy : y ≤ 29) (kt : x = y → W p l e R s m args below meth c H locs cells slots Q (F0 m tgt ls rest)) (kf : ¬ x = y → W p l e R s m args below meth c H locs cells slots Q (F0 m (pc + 3) ls rest)) :
    W p l e R s m args below meth c H locs cells slots Q (F0 m pc ls (wv E y :: wv E x :: rest)) := by
  have hi := oF_inj (wd_inj X.2.2.2.2.2.2.2.1) hx hy
  exact lv_acmp_eq X.1 X.2.1 hdg ht (fun q => kt (hi.1 q)) (fun q => kf (fun z => q (hi.2 z)))
theorem g_acmpneW {x y tgt : Nat} {off : Int} (X : Cx p E A DD R s m args c cc own nL) (hdg : decode cc pc = .ok (.if_acmp .ne off, 3)) (ht : (pc : Int) + off = (tgt : Int)) (hx : x ≤ 29) (hy : y ≤ 29) (kt : ¬ x = y → W p l e R s m args below meth c H locs cells slots Q (F0 m tgt ls rest)) (kf : x = y → W p l e R s m args below meth c H locs cells slots Q (F0 m (pc + 3) ls rest)) :
    W p l e R s m args below meth c H locs cells slots Q (F0 m pc ls (wv E y :: wv E x :: rest)) := by
  have hi := oF_inj (wd_inj X.2.2.2.2.2.2.2.1) hx hy
  exact lv_acmp_ne X.1 X.2.1 hdg ht (fun q => kt (fun z => q (hi.2 z))) (fun q => kf (hi.1 q))
theorem g_ord {β : Type} {f : Int32 → Option β} {r : β} {x : Nat} (X : Cx p E A DD R s m args c cc own nL) (S : St E A s h H locs) (hl : ls.size = nL) (hDD : 1 ≤ DD) (hst : (rest.map fun v => v.category).sum ≤ 8) (F : JFo own index ⟨"NibbleEngine$Word", "ordinal", "()I"⟩) (hc : cells ≤ R.cells) (hs : slots ≤ R.slots) (hdg : decode cc pc = .ok (.invokevirtual index, 3)) (hf : ob (wdO x) f = some r)
    (kk : ∀ (v : Int32) (H1 : Heap) (locs1 : List Loc), f v = some r → St E A s h H1 locs1 → W p l e R s m args below meth c H1 locs1 cells slots Q (F0 m (pc + 3) ls (.int v :: rest))) : W p l e R s m args below meth c H locs cells slots Q (F0 m pc ls (wv E x :: rest)) := sorry
theorem g_sLen {β : Type} {f : Int32 → Option β} {r : β} {x : Nat} (X : Cx p E A DD R s m args c cc own nL) (S : St E A s h H locs) (hl : ls.size = nL) (hDD : 5 ≤ DD) (hst : (rest.map fun v => v.category).sum ≤ 8) (F : JFo own index ⟨"java/lang/String", "length", "()I"⟩) (hc : cells ≤ R.cells) (hs : slots ≤ R.slots) (hdg : decode cc pc = .ok (.invokevirtual index, 3)) (hf : ob (sLen x) f = some r)
    (kk : ∀ (v : Int32) (H1 : Heap) (locs1 : List Loc), f v = some r → St E A s h H1 locs1 → W p l e R s m args below meth c H1 locs1 cells slots Q (F0 m (pc + 3) ls (.int v :: rest))) : W p l e R s m args below meth c H locs cells slots Q (F0 m pc ls (sv E x :: rest)) := sorry
theorem g_sAt {β : Type} {f : Int32 → Option β} {r : β} {x : Nat} {i : Int32} (X : Cx p E A DD R s m args c cc own nL) (S : St E A s h H locs) (hl : ls.size = nL) (hDD : 5 ≤ DD) (hst : (rest.map fun v => v.category).sum ≤ 8) (F : JFo own index ⟨"java/lang/String", "charAt", "(I)C"⟩) (hc : cells ≤ R.cells) (hs : slots ≤ R.slots) (hdg : decode cc pc = .ok (.invokevirtual index, 3)) (hf : ob (sAt x i) f = some r)
    (kk : ∀ (v : Int32) (H1 : Heap) (locs1 : List Loc), f v = some r → St E A s h H1 locs1 → W p l e R s m args below meth c H1 locs1 cells slots Q (F0 m (pc + 3) ls (.int v :: rest))) : W p l e R s m args below meth c H locs cells slots Q (F0 m pc ls (.int i :: sv E x :: rest)) := sorry
end GR
