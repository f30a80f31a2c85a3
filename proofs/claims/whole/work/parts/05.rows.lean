/-- what the constants of the classes are (words, Strings, a switch's table) -/
def Kon (E : EE) (A : Nat → Prop) (U : State) : Prop := True
theorem Kon.moved {E : EE} {A : Nat → Prop} {u U : State} (hvm : u.vm.Alike U.vm) (hh : ∀ q : Nat, q < u.heap.size → ¬ A q → U.heap[q]? = u.heap[q]?) (h : Kon E A u) : Kon E A U := trivial
section GR
variable {p : Program} {l : Launch} {e : Env} {R : Room} {s : State} {m : MethodId} {args : Array Value} {below : List Frame} {meth : Method} {c : Code} {H : Heap} {locs : List Loc} {cells slots : Nat} {Q : State → Prop}
variable {cc : ByteArray} {pc : Nat} {ls : Array Slot} {rest : List Value} {E : EE} {A : Nat → Prop} {h : Hp} {own : String} {nL DD : Nat}
def rmm (D mc ms : Nat) : Room := { frames := D, cells := mc, slots := ms, locals := 64 * D }
/-- what a body stands on, all along -/
def Cx (p : Program) (E : EE) (A : Nat → Prop) (DD : Nat) (R : Room) (s : State) (m : MethodId) (args : Array Value) (c : Code) (cc : ByteArray) (own : String) (nL : Nat) : Prop :=
  p.tables.exec = Jvm.exec ∧ c.code = cc ∧ (∀ w ∈ UW, w.before args s = true) ∧ s.vm.findClass own = some m.cls ∧ va_K (EG E) vwCl (tysE E) s ∧ c.maxLocals = nL ∧ (DD ≤ R.frames ∧ 64 * DD ≤ R.locals) ∧ Kon E A s ∧ (∀ q : Nat, s.heap.size ≤ q → A q)
/-- a field by its entry: class, place, kind -/
def FO (own : String) (idx ci k t : Nat) : Prop := ∃ (C : String) (T : u_T) (N : Nat), vwCl[ci]? = some (C, T, N) ∧ k < N ∧ ci ≠ 0 ∧ ci < 100 ∧ (FT ci)[k]? = some t ∧ (∀ w ∈ u_ws C T N, w ∈ UW) ∧ Cond.fieldLink own idx (T k).1 (T k).2.1 (T k).2.2.1 ∈ UW
theorem dom_ne {a ci : Nat} (h0 : hK h 0 = 0) (hk : hK h a = ci) (hc : ci ≠ 0) : a ≠ 0 := fun q => hc (by rw [← hk, q]; exact h0)
theorem g_get (X : Cx p E A DD R s m args c cc own nL) (S : St E A s h H locs) {ci k t index a : Nat} (F : FO own index ci k t) (hk : hK h a = ci) (hdg : decode cc pc = .ok (.getfield index, 3))
    (kk : W p l e R s m args below meth c H locs cells slots Q (F0 m (pc + 3) ls (vl E h a k t :: rest))) : W p l e R s m args below meth c H locs cells slots Q (F0 m pc ls (rv a :: rest)) := by
  obtain ⟨hx, hb, hu, hown, hK9, -⟩ := X
  obtain ⟨C, T, N, hc, hkN, hc0, hc1, hft, hin, hlk⟩ := F
  obtain ⟨⟨h0, L, hL, hP, hD⟩, hS⟩ := S
  rw [rv_ref (dom_ne h0 hk hc0)]
  obtain ⟨q0, hq⟩ := va_pl_get (X := []) (f := cellOf E h) ((hL a).2 (by rw [hk]; exact hc0))
  rw [cellOf_obj hk hc1] at hq
  exact va_get (Ts := UW) hx hb hu hin hown hK9 hP q0 hq hc k hkN (hu _ hlk) (fun _ h9 => h9) (by rw [List.getElem?_mapIdx, hft]; rfl) hdg kk
theorem g_gI {β : Type} {f : Int32 → Option β} {r : β} (X : Cx p E A DD R s m args c cc own nL) (S : St E A s h H locs) {ci k t index a : Nat} (F : FO own index ci k t) (ht : vl E h a k t = .int (hI h a k)) (hdg : decode cc pc = .ok (.getfield index, 3)) (hf : ob (gI ci a k h) f = some r)
    (kk : ∀ v : Int32, f v = some r → W p l e R s m args below meth c H locs cells slots Q (F0 m (pc + 3) ls (.int v :: rest))) : W p l e R s m args below meth c H locs cells slots Q (F0 m pc ls (rv a :: rest)) := by
  obtain ⟨v, h1, h2⟩ := ob_some hf
  obtain ⟨hk, hv⟩ := gI_some h1
  refine g_get X S F hk hdg ?_
  rw [ht, hv]
  exact kk v h2
theorem g_gR {β : Type} {f : Nat → Option β} {r : β} (X : Cx p E A DD R s m args c cc own nL) (S : St E A s h H locs) {ci k index a : Nat} (F : FO own index ci k 1) (hdg : decode cc pc = .ok (.getfield index, 3)) (hf : ob (gR ci a k h) f = some r)
    (kk : ∀ v : Nat, f v = some r → W p l e R s m args below meth c H locs cells slots Q (F0 m (pc + 3) ls (rv v :: rest))) : W p l e R s m args below meth c H locs cells slots Q (F0 m pc ls (rv a :: rest)) := by
  obtain ⟨v, h1, h2⟩ := ob_some hf
  obtain ⟨hk, hv⟩ := gR_some h1
  refine g_get X S F hk hdg ?_
  rw [show vl E h a k 1 = rv (hR h a k) from rfl, hv]
  exact kk v h2
theorem g_gW {β : Type} {f : Nat → Option β} {r : β} (X : Cx p E A DD R s m args c cc own nL) (S : St E A s h H locs) {ci k index a : Nat} (F : FO own index ci k 2) (hdg : decode cc pc = .ok (.getfield index, 3)) (hf : ob (gR ci a k h) f = some r)
    (kk : ∀ v : Nat, f v = some r → W p l e R s m args below meth c H locs cells slots Q (F0 m (pc + 3) ls (wv E v :: rest))) : W p l e R s m args below meth c H locs cells slots Q (F0 m pc ls (rv a :: rest)) := by
  obtain ⟨v, h1, h2⟩ := ob_some hf
  obtain ⟨hk, hv⟩ := gR_some h1
  refine g_get X S F hk hdg ?_
  rw [show vl E h a k 2 = wv E (hR h a k) from rfl, hv]
  exact kk v h2
theorem g_gS {β : Type} {f : Nat → Option β} {r : β} (X : Cx p E A DD R s m args c cc own nL) (S : St E A s h H locs) {ci k index a : Nat} (F : FO own index ci k 3) (hdg : decode cc pc = .ok (.getfield index, 3)) (hf : ob (gR ci a k h) f = some r)
    (kk : ∀ v : Nat, f v = some r → W p l e R s m args below meth c H locs cells slots Q (F0 m (pc + 3) ls (sv E v :: rest))) : W p l e R s m args below meth c H locs cells slots Q (F0 m pc ls (rv a :: rest)) := by
  obtain ⟨v, h1, h2⟩ := ob_some hf
  obtain ⟨hk, hv⟩ := gR_some h1
  refine g_get X S F hk hdg ?_
  rw [show vl E h a k 3 = sv E (hR h a k) from rfl, hv]
  exact kk v h2
/-- a field that is written: fin tells a final one in its constructor -/
def FP (own : String) (idx ci k t : Nat) (ty : FieldType) (fin : Bool) : Prop := ∃ (C : String) (T : u_T) (N : Nat) (tf : Nat → FieldType), vwCl[ci]? = some (C, T, N) ∧ k < N ∧ ci ≠ 0 ∧ ci < 100 ∧ (FT ci)[k]? = some t ∧ (∀ w ∈ u_ws C T N, w ∈ UW) ∧ Cond.fieldLink own idx (T k).1 (T k).2.1 (T k).2.2.1 ∈ UW ∧ (∀ k, k < N → parseFieldDescriptor (T k).2.2.1 = some (tf k)) ∧ (∀ a, a < N → ∀ b, b < N → a ≠ b → (T a).2.1 ≠ (T b).2.1) ∧ tf k = ty ∧ (T k).2.2.2 = fin ∧ (T k).1 = own
theorem g_put (X : Cx p E A DD R s m args c cc own nL) (S : St E A s h H locs) {ci k t index a : Nat} {ty : FieldType} {fin : Bool} {v : Value} {h' : Hp} (F : FP own index ci k t ty fin) (hin2 : fin = false ∨ meth.name = "<init>") (hk : hK h a = ci) (hdg : decode cc pc = .ok (.putfield index, 3)) (hn : narrow ty v = v) (hfit : fits ty v = true)
    (e1 : hK h' = hK h) (e2 : vl E h' a k t = v) (e3 : ∀ j u, j ≠ k → vl E h' a j u = vl E h a j u) (e4 : ∀ b, b ≠ a → cellOf E h' b = cellOf E h b)
    (kk : ∀ (H1 : Heap) (locs1 : List Loc), St E A s h' H1 locs1 → W p l e R s m args below meth c H1 locs1 cells slots Q (F0 m (pc + 3) ls rest)) : W p l e R s m args below meth c H locs cells slots Q (F0 m pc ls (v :: rv a :: rest)) := by
  obtain ⟨hx, hb, hu, hown, hK9, -⟩ := X
  obtain ⟨C, T, N, tf, hc, hkN, hc0, hc1, hft, hin, hlk, hty, hnm, ht, hfin, hdecl⟩ := F
  obtain ⟨⟨h0, L, hL, hP, hD⟩, hS⟩ := S
  rw [rv_ref (dom_ne h0 hk hc0)]
  have haL := (hL a).2 (by rw [hk]; exact hc0)
  obtain ⟨q0, hq⟩ := va_pl_get (X := []) (f := cellOf E h) haL
  have hq2 := hq
  rw [cellOf_obj hk hc1] at hq
  have hd : parseFieldDescriptor (T k).2.2.1 = some ty := by rw [hty k hkN, ht]
  have hl : k < ((FT ci).mapIdx (fun k t => vl E h a k t)).length := by rw [List.length_mapIdx]; exact (List.getElem?_eq_some_iff.mp hft).1
  have key : cellOf E h' a = .inr (ci, ((FT ci).mapIdx (fun k t => vl E h a k t)).set k v) := by
    rw [cellOf_obj (by rw [e1]; exact hk) hc1, mapIdx_set hft e2 e3]
  cases fin with
  | false =>
    refine va_put (Ts := UW) hx hb hu hin tf hty hnm hown hK9 hP hD hS q0 hq hc k hkN (hu _ hlk) (fun _ h9 => h9) hfin hd hn hfit hl hdg (fun H1 locs1 hP1 hD1 hS1 => ?_)
    exact kk H1 locs1 ⟨Rp_set h0 hL haL hq2 hD hP1 hD1 e1 key e4, hS1⟩
  | true =>
    have hname : meth.name = "<init>" := hin2.resolve_left (by decide)
    refine va_putF (Ts := UW) hx hb hu hin tf hty hnm hown hK9 hP hD hS q0 hq hc k hkN (hu _ hlk) (fun _ h9 => h9) hfin hname hdecl hd hn hfit hl hdg (fun H1 locs1 hP1 hD1 hS1 => ?_)
    exact kk H1 locs1 ⟨Rp_set h0 hL haL hq2 hD hP1 hD1 e1 key e4, hS1⟩
theorem vl_sI_ne {a k j u : Nat} {v : Int32} (hj : j ≠ k) : vl E (sI h a k v) a j u = vl E h a j u := by
  simp only [vl, hI, hR, sI, va_up, if_true, if_neg hj]
theorem vl_sR_ne {a k j u v : Nat} (hj : j ≠ k) : vl E (sR h a k v) a j u = vl E h a j u := by
  simp only [vl, hI, hR, sR, va_up, if_true, if_neg hj]
theorem cell_sI {a k b : Nat} {v : Int32} (hb : b ≠ a) : cellOf E (sI h a k v) b = cellOf E h b := cellOf_eq rfl (va_up_ne _ _ hb) rfl rfl rfl
theorem cell_sR {a k b : Nat} {v : Nat} (hb : b ≠ a) : cellOf E (sR h a k v) b = cellOf E h b := cellOf_eq rfl rfl (va_up_ne _ _ hb) rfl rfl
theorem cell_sL {a k b : Nat} {v : Int64} (hb : b ≠ a) : cellOf E (sL h a k v) b = cellOf E h b := cellOf_eq rfl rfl rfl (va_up_ne _ _ hb) rfl
theorem cell_sA {a b : Nat} {f : Nat → Int32} (hb : b ≠ a) : cellOf E (sA h a f) b = cellOf E h b := cellOf_eq rfl (va_up_ne _ _ hb) rfl rfl rfl
theorem hI_sI {a k : Nat} {v : Int32} : hI (sI h a k v) a = va_up (hI h a) k v := va_up_self _ _ _
theorem hR_sR {a k : Nat} {v : Nat} : hR (sR h a k v) a = va_up (hR h a) k v := va_up_self _ _ _
theorem hL_sL {a k : Nat} {v : Int64} : hL (sL h a k v) a = va_up (hL h a) k v := va_up_self _ _ _
theorem hI_sA {a : Nat} {f : Nat → Int32} : hI (sA h a f) a = f := va_up_self _ _ _
theorem g_pI {β : Type} {f : Hp → Option β} {r : β} (X : Cx p E A DD R s m args c cc own nL) (S : St E A s h H locs) {ci k index a : Nat} {v : Int32} {fin : Bool} (F : FP own index ci k 0 .int fin) (hin2 : fin = false ∨ meth.name = "<init>") (hdg : decode cc pc = .ok (.putfield index, 3)) (hf : ob (pI ci a k v h) f = some r)
    (kk : ∀ (h' : Hp) (H1 : Heap) (locs1 : List Loc), f h' = some r → St E A s h' H1 locs1 → W p l e R s m args below meth c H1 locs1 cells slots Q (F0 m (pc + 3) ls rest)) : W p l e R s m args below meth c H locs cells slots Q (F0 m pc ls (.int v :: rv a :: rest)) := by
  obtain ⟨h', h1, h2⟩ := ob_some hf
  obtain ⟨hk, rfl⟩ := if_some h1
  exact g_put (h' := sI h a k v) X S F hin2 hk hdg rfl rfl rfl (by show Value.int _ = _; rw [hI_sI, va_up_self]) (fun j u hj => vl_sI_ne hj) (fun b hb => cell_sI hb) (fun H1 locs1 S1 => kk _ H1 locs1 h2 S1)
theorem g_pZ {β : Type} {f : Hp → Option β} {r : β} (X : Cx p E A DD R s m args c cc own nL) (S : St E A s h H locs) {ci k index a : Nat} {v : Int32} {fin : Bool} (F : FP own index ci k 4 .boolean fin) (hin2 : fin = false ∨ meth.name = "<init>") (hdg : decode cc pc = .ok (.putfield index, 3)) (hf : ob (pZ ci a k v h) f = some r)
    (kk : ∀ (h' : Hp) (H1 : Heap) (locs1 : List Loc), f h' = some r → St E A s h' H1 locs1 → W p l e R s m args below meth c H1 locs1 cells slots Q (F0 m (pc + 3) ls rest)) : W p l e R s m args below meth c H locs cells slots Q (F0 m pc ls (.int v :: rv a :: rest)) := by
  obtain ⟨h', h1, h2⟩ := ob_some hf
  obtain ⟨⟨hk, hz⟩, rfl⟩ := if_some h1
  exact g_put (h' := sI h a k v) X S F hin2 hk hdg (by rcases hz with rfl | rfl <;> rfl) (by rcases hz with rfl | rfl <;> rfl) rfl (by show Value.int _ = _; rw [hI_sI, va_up_self]) (fun j u hj => vl_sI_ne hj) (fun b hb => cell_sI hb) (fun H1 locs1 S1 => kk _ H1 locs1 h2 S1)
def isR (ty : FieldType) : Prop := (∃ n, ty = .object n) ∨ ∃ t, ty = .array t
theorem nar_rf {ty : FieldType} (h : isR ty) (r : Option Nat) : narrow ty (va_rf r) = va_rf r ∧ fits ty (va_rf r) = true := by
  rcases h with ⟨n, rfl⟩ | ⟨t, rfl⟩ <;> cases r <;> exact ⟨rfl, rfl⟩
theorem g_pR {β : Type} {f : Hp → Option β} {r : β} (X : Cx p E A DD R s m args c cc own nL) (S : St E A s h H locs) {ci k index a v : Nat} {ty : FieldType} {fin : Bool} (F : FP own index ci k 1 ty fin) (hty : isR ty) (hin2 : fin = false ∨ meth.name = "<init>") (hdg : decode cc pc = .ok (.putfield index, 3)) (hf : ob (pR ci a k v h) f = some r)
    (kk : ∀ (h' : Hp) (H1 : Heap) (locs1 : List Loc), f h' = some r → St E A s h' H1 locs1 → W p l e R s m args below meth c H1 locs1 cells slots Q (F0 m (pc + 3) ls rest)) : W p l e R s m args below meth c H locs cells slots Q (F0 m pc ls (rv v :: rv a :: rest)) := by
  obtain ⟨h', h1, h2⟩ := ob_some hf
  obtain ⟨hk, rfl⟩ := if_some h1
  exact g_put (h' := sR h a k v) X S F hin2 hk hdg (nar_rf hty _).1 (nar_rf hty _).2 rfl (by show rv _ = _; rw [hR_sR, va_up_self]) (fun j u hj => vl_sR_ne hj) (fun b hb => cell_sR hb) (fun H1 locs1 S1 => kk _ H1 locs1 h2 S1)
theorem g_pW {β : Type} {f : Hp → Option β} {r : β} (X : Cx p E A DD R s m args c cc own nL) (S : St E A s h H locs) {ci k index a v : Nat} {ty : FieldType} {fin : Bool} (F : FP own index ci k 2 ty fin) (hty : isR ty) (hin2 : fin = false ∨ meth.name = "<init>") (hdg : decode cc pc = .ok (.putfield index, 3)) (hf : ob (pR ci a k v h) f = some r)
    (kk : ∀ (h' : Hp) (H1 : Heap) (locs1 : List Loc), f h' = some r → St E A s h' H1 locs1 → W p l e R s m args below meth c H1 locs1 cells slots Q (F0 m (pc + 3) ls rest)) : W p l e R s m args below meth c H locs cells slots Q (F0 m pc ls (wv E v :: rv a :: rest)) := by
  obtain ⟨h', h1, h2⟩ := ob_some hf
  obtain ⟨hk, rfl⟩ := if_some h1
  exact g_put (h' := sR h a k v) X S F hin2 hk hdg (nar_rf hty _).1 (nar_rf hty _).2 rfl (by show wv E _ = _; rw [hR_sR, va_up_self]) (fun j u hj => vl_sR_ne hj) (fun b hb => cell_sR hb) (fun H1 locs1 S1 => kk _ H1 locs1 h2 S1)
theorem ty0 {E : EE} : (tysE E)[0]? = some (E.2.2.1 0, .int) := rfl
theorem ty1 {E : EE} : (tysE E)[1]? = some (E.2.2.1 1, .long) := rfl
theorem ty4 {E : EE} : (tysE E)[4]? = some (E.2.2.1 4, .object "java/lang/String") := rfl
def rcls (c : Nat) : String := if c = 103 then "NibbleEngine$Row" else "NibbleEngine$Instruction"
theorem tyr {E : EE} {c : Nat} (h : c = 103 ∨ c = 104) : (tysE E)[c - 101]? = some (E.2.2.1 (c - 101), .object (rcls c)) := by
  rcases h with rfl | rfl <;> rfl
theorem g_aI {β : Type} {f : Int32 → Option β} {r : β} (X : Cx p E A DD R s m args c cc own nL) (S : St E A s h H locs) {a : Nat} {i : Int32} (hdg : decode cc pc = .ok (.iaload, 1)) (hf : ob (aI a i h) f = some r)
    (kk : ∀ v : Int32, f v = some r → W p l e R s m args below meth c H locs cells slots Q (F0 m (pc + 1) ls (.int v :: rest))) : W p l e R s m args below meth c H locs cells slots Q (F0 m pc ls (.int i :: rv a :: rest)) := by
  obtain ⟨hx, hb, hu, hown, hK9, -⟩ := X
  obtain ⟨v, h1, h2⟩ := ob_some hf
  obtain ⟨⟨hk, hin⟩, rfl⟩ := if_some h1
  obtain ⟨⟨h0, L, hL, hP, hD⟩, hS⟩ := S
  rw [rv_ref (dom_ne h0 hk (by decide))]
  obtain ⟨q0, hq⟩ := va_pl_get (X := []) (f := cellOf E h) ((hL a).2 (by rw [hk]; decide))
  rw [cellOf_int hk] at hq
  exact va_iald hx hb hK9 hP q0 0 hq ty0 hin hdg (kk _ h2)
theorem g_aL {β : Type} {f : Int64 → Option β} {r : β} (X : Cx p E A DD R s m args c cc own nL) (S : St E A s h H locs) {a : Nat} {i : Int32} (hdg : decode cc pc = .ok (.laload, 1)) (hf : ob (aL a i h) f = some r)
    (kk : ∀ v : Int64, f v = some r → W p l e R s m args below meth c H locs cells slots Q (F0 m (pc + 1) ls (.long v :: rest))) : W p l e R s m args below meth c H locs cells slots Q (F0 m pc ls (.int i :: rv a :: rest)) := by
  obtain ⟨hx, hb, hu, hown, hK9, -⟩ := X
  obtain ⟨v, h1, h2⟩ := ob_some hf
  obtain ⟨⟨hk, hin⟩, rfl⟩ := if_some h1
  obtain ⟨⟨h0, L, hL, hP, hD⟩, hS⟩ := S
  rw [rv_ref (dom_ne h0 hk (by decide))]
  obtain ⟨q0, hq⟩ := va_pl_get (X := []) (f := cellOf E h) ((hL a).2 (by rw [hk]; decide))
  rw [cellOf_long hk] at hq
  exact va_lald hx hb hK9 hP q0 1 hq ty1 hin hdg (kk _ h2)
theorem g_aR {β : Type} {f : Nat → Option β} {r : β} (X : Cx p E A DD R s m args c cc own nL) (S : St E A s h H locs) {ci a : Nat} {i : Int32} (hc : ci = 103 ∨ ci = 104) (hdg : decode cc pc = .ok (.aaload, 1)) (hf : ob (aR ci a i h) f = some r)
    (kk : ∀ v : Nat, f v = some r → W p l e R s m args below meth c H locs cells slots Q (F0 m (pc + 1) ls (rv v :: rest))) : W p l e R s m args below meth c H locs cells slots Q (F0 m pc ls (.int i :: rv a :: rest)) := by
  obtain ⟨hx, hb, hu, hown, hK9, -⟩ := X
  obtain ⟨v, h1, h2⟩ := ob_some hf
  obtain ⟨⟨hk, hin⟩, rfl⟩ := if_some h1
  obtain ⟨⟨h0, L, hL, hP, hD⟩, hS⟩ := S
  rw [rv_ref (dom_ne h0 hk (by omega))]
  obtain ⟨q0, hq⟩ := va_pl_get (X := []) (f := cellOf E h) ((hL a).2 (by rw [hk]; omega))
  rw [cellOf_ref hk hc] at hq
  exact va_aldq hx hb hK9 hP q0 (ci - 101) hq (tyr hc) hin hdg (kk _ h2)
theorem g_aS {β : Type} {f : Nat → Option β} {r : β} (X : Cx p E A DD R s m args c cc own nL) (S : St E A s h H locs) {a : Nat} {i : Int32} (hdg : decode cc pc = .ok (.aaload, 1)) (hf : ob (aR 105 a i h) f = some r)
    (kk : ∀ v : Nat, f v = some r → W p l e R s m args below meth c H locs cells slots Q (F0 m (pc + 1) ls (sv E v :: rest))) : W p l e R s m args below meth c H locs cells slots Q (F0 m pc ls (.int i :: rv a :: rest)) := by
  obtain ⟨hx, hb, hu, hown, hK9, -⟩ := X
  obtain ⟨v, h1, h2⟩ := ob_some hf
  obtain ⟨⟨hk, hin⟩, rfl⟩ := if_some h1
  obtain ⟨⟨h0, L, hL, hP, hD⟩, hS⟩ := S
  rw [rv_ref (dom_ne h0 hk (by omega))]
  obtain ⟨q0, hq⟩ := va_pl_get (X := []) (f := cellOf E h) ((hL a).2 (by rw [hk]; omega))
  rw [cellOf_str hk] at hq
  exact va_aldq hx hb hK9 hP q0 4 hq ty4 hin hdg (kk _ h2)
theorem g_qI {β : Type} {f : Hp → Option β} {r : β} (X : Cx p E A DD R s m args c cc own nL) (S : St E A s h H locs) {a : Nat} {i v : Int32} (hdg : decode cc pc = .ok (.iastore, 1)) (hf : ob (qI a i v h) f = some r)
    (kk : ∀ (h' : Hp) (H1 : Heap) (locs1 : List Loc), f h' = some r → St E A s h' H1 locs1 → W p l e R s m args below meth c H1 locs1 cells slots Q (F0 m (pc + 1) ls rest)) : W p l e R s m args below meth c H locs cells slots Q (F0 m pc ls (.int v :: .int i :: rv a :: rest)) := by
  obtain ⟨hx, hb, hu, hown, hK9, -⟩ := X
  obtain ⟨h', h1, h2⟩ := ob_some hf
  obtain ⟨⟨hk, hin⟩, rfl⟩ := if_some h1
  obtain ⟨⟨h0, L, hL, hP, hD⟩, hS⟩ := S
  rw [rv_ref (dom_ne h0 hk (by omega))]
  have haL := (hL a).2 (by rw [hk]; omega)
  obtain ⟨q0, hq⟩ := va_pl_get (X := []) (f := cellOf E h) haL
  have hq2 := hq
  rw [cellOf_int hk] at hq
  refine va_iast hx hb hK9 hP hD hS q0 0 hq ty0 hin hdg (fun H1 locs1 hP1 hD1 hS1 => ?_)
  exact kk _ H1 locs1 h2 ⟨Rp_set h0 hL haL hq2 hD hP1 hD1 rfl (by rw [cellOf_int (show hK (sI h a i.toNatClampNeg v) a = 101 from hk), hI_sI]; rfl) (fun b hb => cell_sI hb), hS1⟩
theorem g_qL {β : Type} {f : Hp → Option β} {r : β} (X : Cx p E A DD R s m args c cc own nL) (S : St E A s h H locs) {a : Nat} {i : Int32} {v : Int64} (hdg : decode cc pc = .ok (.lastore, 1)) (hf : ob (qL a i v h) f = some r)
    (kk : ∀ (h' : Hp) (H1 : Heap) (locs1 : List Loc), f h' = some r → St E A s h' H1 locs1 → W p l e R s m args below meth c H1 locs1 cells slots Q (F0 m (pc + 1) ls rest)) : W p l e R s m args below meth c H locs cells slots Q (F0 m pc ls (.long v :: .int i :: rv a :: rest)) := by
  obtain ⟨hx, hb, hu, hown, hK9, -⟩ := X
  obtain ⟨h', h1, h2⟩ := ob_some hf
  obtain ⟨⟨hk, hin⟩, rfl⟩ := if_some h1
  obtain ⟨⟨h0, L, hL, hP, hD⟩, hS⟩ := S
  rw [rv_ref (dom_ne h0 hk (by omega))]
  have haL := (hL a).2 (by rw [hk]; omega)
  obtain ⟨q0, hq⟩ := va_pl_get (X := []) (f := cellOf E h) haL
  have hq2 := hq
  rw [cellOf_long hk] at hq
  refine va_last hx hb hK9 hP hD hS q0 1 hq ty1 hin hdg (fun H1 locs1 hP1 hD1 hS1 => ?_)
  exact kk _ H1 locs1 h2 ⟨Rp_set h0 hL haL hq2 hD hP1 hD1 rfl (by rw [cellOf_long (show hK (sL h a i.toNatClampNeg v) a = 102 from hk), hL_sL]; rfl) (fun b hb => cell_sL hb), hS1⟩
theorem g_qR {β : Type} {f : Hp → Option β} {r : β} (X : Cx p E A DD R s m args c cc own nL) (S : St E A s h H locs) {ci d a v : Nat} {i : Int32} {T : u_T} {N : Nat} (hc : ci = 103 ∨ ci = 104) (hd : vwCl[d]? = some (rcls ci, T, N)) (hd0 : d ≠ 0) (hd1 : d < 100) (hdg : decode cc pc = .ok (.aastore, 1)) (hf : ob (qR ci d a i v h) f = some r)
    (kk : ∀ (h' : Hp) (H1 : Heap) (locs1 : List Loc), f h' = some r → St E A s h' H1 locs1 → W p l e R s m args below meth c H1 locs1 cells slots Q (F0 m (pc + 1) ls rest)) : W p l e R s m args below meth c H locs cells slots Q (F0 m pc ls (rv v :: .int i :: rv a :: rest)) := by
  obtain ⟨hx, hb, hu, hown, hK9, -⟩ := X
  obtain ⟨h', h1, h2⟩ := ob_some hf
  obtain ⟨⟨hk, hkv, hin⟩, rfl⟩ := if_some h1
  obtain ⟨⟨h0, L, hL, hP, hD⟩, hS⟩ := S
  have hv0 := dom_ne h0 hkv hd0
  rw [rv_ref (dom_ne h0 hk (by omega)), rv_ref hv0]
  have haL := (hL a).2 (by rw [hk]; omega)
  obtain ⟨q0, hq⟩ := va_pl_get (X := []) (f := cellOf E h) haL
  have hq2 := hq
  rw [cellOf_ref hk hc] at hq
  obtain ⟨q1, hq1⟩ := va_pl_get (X := []) (f := cellOf E h) ((hL v).2 (by rw [hkv]; exact hd0))
  rw [cellOf_obj hkv hd1] at hq1
  refine va_astq (r := (rcls ci, T, N)) hx hb hK9 hP hD hS q0 (ci - 101) q1 d hq (tyr hc) hq1 hd hin hdg (fun H1 locs1 hP1 hD1 hS1 => ?_)
  exact kk _ H1 locs1 h2 ⟨Rp_set h0 hL haL hq2 hD hP1 hD1 rfl (by rw [cellOf_ref (show hK (sR h a i.toNatClampNeg v) a = ci from hk) hc, hR_sR, or_eq _ _ _ hv0]; rfl) (fun b hb => cell_sR hb), hS1⟩
theorem g_aN {β : Type} {f : Int32 → Option β} {r : β} (X : Cx p E A DD R s m args c cc own nL) (S : St E A s h H locs) {a ci : Nat} (hci : 101 ≤ ci ∧ ci ≤ 105) (hka : hK h a = ci) (hdg : decode cc pc = .ok (.arraylength, 1)) (hf : ob (aN a h) f = some r)
    (kk : ∀ v : Int32, f v = some r → W p l e R s m args below meth c H locs cells slots Q (F0 m (pc + 1) ls (.int v :: rest))) : W p l e R s m args below meth c H locs cells slots Q (F0 m pc ls (rv a :: rest)) := by
  obtain ⟨hx, hb, hu, hown, hK9, -⟩ := X
  obtain ⟨v, h1, h2⟩ := ob_some hf
  obtain ⟨hk, rfl⟩ := if_some h1
  obtain ⟨⟨h0, L, hL, hP, hD⟩, hS⟩ := S
  rw [rv_ref (dom_ne h0 hka (by omega))]
  obtain ⟨q0, hq⟩ := va_pl_get (X := []) (f := cellOf E h) ((hL a).2 (by rw [hka]; omega))
  rcases (show ci = 101 ∨ ci = 102 ∨ ci = 105 ∨ (ci = 103 ∨ ci = 104) by omega) with hc | hc | hc | hc
  · subst hc; rw [cellOf_int hka] at hq; exact va_alen hx hb hK9 hP q0 0 hq ty0 rfl hdg (kk _ h2)
  · subst hc; rw [cellOf_long hka] at hq; exact va_alen hx hb hK9 hP q0 1 hq ty1 rfl hdg (kk _ h2)
  · subst hc; rw [cellOf_str hka] at hq; exact va_alen hx hb hK9 hP q0 4 hq ty4 rfl hdg (kk _ h2)
  · rw [cellOf_ref hka hc] at hq; exact va_alen hx hb hK9 hP q0 (ci - 101) hq (tyr hc) rfl hdg (kk _ h2)
theorem g_aload_n (X : Cx p E A DD R s m args c cc own nL) {k : Fin 4} {i : Nat} {v : Value} (hv : v = .null ∨ ∃ a, v = .ref a) (hdg : decode cc pc = .ok (.aload_n k, 1)) (hi : (k : Nat) = i) (hl : ls[i]? = some (.val v))
    (kk : W p l e R s m args below meth c H locs cells slots Q (F0 m (pc + 1) ls (v :: rest))) : W p l e R s m args below meth c H locs cells slots Q (F0 m pc ls rest) := by
  rcases hv with rfl | ⟨a, rfl⟩
  · exact lv_aload_nN X.1 X.2.1 hdg hi hl kk
  · exact lv_aload_n X.1 X.2.1 hdg hi hl kk
theorem g_aload (X : Cx p E A DD R s m args c cc own nL) {i : Nat} {v : Value} (hv : v = .null ∨ ∃ a, v = .ref a) (hdg : decode cc pc = .ok (.aload i, 2)) (hl : ls[i]? = some (.val v))
    (kk : W p l e R s m args below meth c H locs cells slots Q (F0 m (pc + 2) ls (v :: rest))) : W p l e R s m args below meth c H locs cells slots Q (F0 m pc ls rest) := by
  rcases hv with rfl | ⟨a, rfl⟩
  · exact lv_aloadN X.1 X.2.1 hdg hl kk
  · exact lv_aload X.1 X.2.1 hdg hl kk
theorem g_astore_n (X : Cx p E A DD R s m args c cc own nL) {k : Fin 4} {i : Nat} {v : Value} {lv lv' : List (Nat × Value)} (hv : v = .null ∨ ∃ a, v = .ref a) (hdg : decode cc pc = .ok (.astore_n k, 1)) (hi : (k : Nat) = i) (h : lv_has ls nL lv) (hn : i < nL) (hl : (i, v) :: lv.filter (fun q => !(q.1 == i) && !(q.1 + 1 == i && q.2.category == 2)) = lv')
    (kk : ∀ ls' : Array Slot, lv_has ls' nL lv' → W p l e R s m args below meth c H locs cells slots Q (F0 m (pc + 1) ls' rest)) : W p l e R s m args below meth c H locs cells slots Q (F0 m pc ls (v :: rest)) := by
  rcases hv with rfl | ⟨a, rfl⟩
  · exact lv_astore_nN X.1 X.2.1 hdg hi h hn hl kk
  · exact lv_astore_n X.1 X.2.1 hdg hi h hn hl kk
theorem g_astore (X : Cx p E A DD R s m args c cc own nL) {i : Nat} {v : Value} {lv lv' : List (Nat × Value)} (hv : v = .null ∨ ∃ a, v = .ref a) (hdg : decode cc pc = .ok (.astore i, 2)) (h : lv_has ls nL lv) (hn : i < nL) (hl : (i, v) :: lv.filter (fun q => !(q.1 == i) && !(q.1 + 1 == i && q.2.category == 2)) = lv')
    (kk : ∀ ls' : Array Slot, lv_has ls' nL lv' → W p l e R s m args below meth c H locs cells slots Q (F0 m (pc + 2) ls' rest)) : W p l e R s m args below meth c H locs cells slots Q (F0 m pc ls (v :: rest)) := by
  rcases hv with rfl | ⟨a, rfl⟩
  · exact lv_astoreN X.1 X.2.1 hdg h hn hl kk
  · exact lv_astore X.1 X.2.1 hdg h hn hl kk
theorem g_ifnull (X : Cx p E A DD R s m args c cc own nL) {x tgt : Nat} {off : Int} (hdg : decode cc pc = .ok (.ifnull off, 3)) (ht : (pc : Int) + off = (tgt : Int)) (kt : x = 0 → W p l e R s m args below meth c H locs cells slots Q (F0 m tgt ls rest)) (kf : ¬ x = 0 → W p l e R s m args below meth c H locs cells slots Q (F0 m (pc + 3) ls rest)) :
    W p l e R s m args below meth c H locs cells slots Q (F0 m pc ls (rv x :: rest)) := by
  by_cases hx : x = 0
  · subst hx; exact lv_ifnullN X.1 X.2.1 hdg ht (kt rfl)
  · rw [rv_ref hx]; exact lv_ifnull X.1 X.2.1 hdg (kf hx)
theorem g_ifnonnull (X : Cx p E A DD R s m args c cc own nL) {x tgt : Nat} {off : Int} (hdg : decode cc pc = .ok (.ifnonnull off, 3)) (ht : (pc : Int) + off = (tgt : Int)) (kt : ¬ x = 0 → W p l e R s m args below meth c H locs cells slots Q (F0 m tgt ls rest)) (kf : x = 0 → W p l e R s m args below meth c H locs cells slots Q (F0 m (pc + 3) ls rest)) :
    W p l e R s m args below meth c H locs cells slots Q (F0 m pc ls (rv x :: rest)) := by
  by_cases hx : x = 0
  · subst hx; exact lv_ifnonnullN X.1 X.2.1 hdg (kf rfl)
  · rw [rv_ref hx]; exact lv_ifnonnull X.1 X.2.1 hdg ht (kt hx)
theorem wv_ref (E : EE) {x : Nat} (h : x ≠ 0) : wv E x = .ref (E.2.2.2.1 (x - 1)) := by simp [wv, oF, h, va_rf]
theorem wv_0 (E : EE) : wv E 0 = .null := rfl
theorem g_ifnullW (X : Cx p E A DD R s m args c cc own nL) {x tgt : Nat} {off : Int} (hdg : decode cc pc = .ok (.ifnull off, 3)) (ht : (pc : Int) + off = (tgt : Int)) (kt : x = 0 → W p l e R s m args below meth c H locs cells slots Q (F0 m tgt ls rest)) (kf : ¬ x = 0 → W p l e R s m args below meth c H locs cells slots Q (F0 m (pc + 3) ls rest)) :
    W p l e R s m args below meth c H locs cells slots Q (F0 m pc ls (wv E x :: rest)) := by
  by_cases hx : x = 0
  · subst hx; exact lv_ifnullN X.1 X.2.1 hdg ht (kt rfl)
  · rw [wv_ref E hx]; exact lv_ifnull X.1 X.2.1 hdg (kf hx)
theorem g_ifnonnullW (X : Cx p E A DD R s m args c cc own nL) {x tgt : Nat} {off : Int} (hdg : decode cc pc = .ok (.ifnonnull off, 3)) (ht : (pc : Int) + off = (tgt : Int)) (kt : ¬ x = 0 → W p l e R s m args below meth c H locs cells slots Q (F0 m tgt ls rest)) (kf : x = 0 → W p l e R s m args below meth c H locs cells slots Q (F0 m (pc + 3) ls rest)) :
    W p l e R s m args below meth c H locs cells slots Q (F0 m pc ls (wv E x :: rest)) := by
  by_cases hx : x = 0
  · subst hx; exact lv_ifnonnullN X.1 X.2.1 hdg (kf rfl)
  · rw [wv_ref E hx]; exact lv_ifnonnull X.1 X.2.1 hdg ht (kt hx)
end GR
