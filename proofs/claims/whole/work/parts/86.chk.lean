section RCK2
variable {c : MC} {m : Nat} {f r : Nat → Int} {s t : SI2} {o a n b l : Int}
/-- operands that lie in the store -/
def Ops (o a n b l : Int) : Prop := (o ≤ 17 → 0 ≤ a ∧ 1 ≤ n ∧ n ≤ 64 ∧ a + n ≤ 256) ∧ (o ≤ 11 → 0 ≤ b ∧ 1 ≤ l ∧ l ≤ 64 ∧ b + l ≤ 256)
theorem s_meet (hm : Mo c m) (ho : Ops o a n b l) (h : o ≤ 11) (e34 : f 34 = a) (e35 : f 35 = n) (e36 : f 36 = b) (e37 : f 37 = l) : fX13_doMeet m (MS c m f r s t) = some (if a < b + l ∧ b < a + n then jI 1 else jI 0) := by
  obtain ⟨h1, h2⟩ := ho
  have a := h1 (by omega)
  have b := h2 h
  unfold fX13_doMeet
  (rw [s_gd _ hm]; (try rw [s_gI hm]); rw [o_ob]; (try rw [s_gI hm]); rw [o_ob]; (try rw [s_gI hm]); rw [o_ob]; (try rw [jI_add]); (try rw [e34]); (try rw [e35]); (try rw [e36]); (try rw [e37]))
  split
  · rename_i x
    rw [jI_le (by omega) (by omega) (by omega) (by omega)] at x
    rw [if_neg (by omega)]; rfl
  · rename_i x
    rw [jI_le (by omega) (by omega) (by omega) (by omega)] at x
    ((try rw [s_gI hm]); rw [o_ob]; (try rw [s_gI hm]); rw [o_ob]; (try rw [s_gI hm]); rw [o_ob]; (try rw [jI_add]); (try rw [e34]); (try rw [e35]); (try rw [e36]))
    split
    · rename_i y
      rw [jI_le (by omega) (by omega) (by omega) (by omega)] at y
      rw [if_neg (by omega)]; rfl
    · rename_i y
      rw [jI_le (by omega) (by omega) (by omega) (by omega)] at y
      rw [if_pos (by omega)]; rfl
/-- one after the other, the first fault stands -/
def Stg (f f' : Nat → Int) (o : Option FT6) : Prop := (∀ j, j < 38 ∨ 43 < j → f' j = f j) ∧ FtR f' o
def Sg (c : MC) (m : Nat) (r : Nat → Int) (s t : SI2) (o a n b l : Int) (S : Hp → Option Hp) (sp : Option FT6) : Prop :=
  ∀ f : Nat → Int, f 34 = a → f 35 = n → f 36 = b → f 37 = l → ((o = 7 → l ≤ n) → f 38 = 0 → ∃ f', S (MS c m f r s t) = some (MS c m f' r s t) ∧ Stg f f' sp) ∧ (1 ≤ f 38 → f 38 ≤ 8 → S (MS c m f r s t) = some (MS c m f r s t))
theorem Stg_v {k w a n v : Int} : Stg f (rsv f k w a n) (some (k, w, a, n, -1, v)) := ⟨fun j hj => rsv_lo (by omega), FtR_v⟩
theorem Stg_w {k w a n h v : Int} : Stg f (rsw f k w a n h v) (some (k, w, a, n, h, v)) := ⟨fun j hj => rsw_lo (by omega), FtR_w⟩
def zsQ (r : Nat → Int) (a l : Int) : Int := fnd (fun h => hf r h != 0) (2 * a.toNat) (2 * l.toNat)
def sp8 (o : Int) (r : Nat → Int) (a n l : Int) : Option FT6 := if o = 7 ∧ zsQ r a l ≠ -1 then some (5, 0, a, n, zsQ r a l, hf r (zsQ r a l).toNat) else none
theorem Sg_of {S S' : Hp → Option Hp} {sp : Option FT6} (e : ∀ f : Nat → Int, f 34 = a → f 35 = n → f 36 = b → f 37 = l → S (MS c m f r s t) = S' (MS c m f r s t)) (h : Sg c m r s t o a n b l S' sp) : Sg c m r s t o a n b l S sp := by
  intro f e34 e35 e36 e37
  rw [e f e34 e35 e36 e37]
  exact h f e34 e35 e36 e37
theorem g_208 (hm : Mo c m) (hb : Byt r) (o0 : 0 ≤ o) (o1 : o ≤ 24) (ho : Ops o a n b l) : Sg c m r s t o a n b l (fun h => lp (fun _ _ _ _ => none) fX13_check_208 FU m (jI o) (jI (2 * a)) h) (sp8 o r a n l) := by
  intro f e34 e35 e36 e37
  refine ⟨fun hq h0 => ?_, fun h0 h1 => ?_⟩
  · by_cases c7 : o = 7
    · have hln := hq c7
      subst c7
      obtain ⟨p1, p2⟩ := ho
      obtain ⟨a0, n0, -, an⟩ := p1 (by omega)
      obtain ⟨b0, l0, -, bl⟩ := p2 (by omega)
      have key := lp_sr (z := fun _ _ _ _ => none) (S := fX13_check_208) (β := Hp) (ev := fun k (i : Nat) (g : Nat → Int) => k m (jI 7) (jI (i : Int)) (MS c m g r s t)) (hi := 2 * (a.toNat + l.toNat)) (Inv := fun i g => (g = f ∧ 2 * a.toNat ≤ i ∧ ∀ j, 2 * a.toNat ≤ j → j < i → (hf r j != 0) = false) ∨ (∃ j, 2 * a.toNat ≤ j ∧ j < i ∧ j < 2 * (a.toNat + l.toNat) ∧ (hf r j != 0) = true ∧ (∀ x, 2 * a.toNat ≤ x → x < j → (hf r x != 0) = false) ∧ g = rsw f 5 0 a n (j : Int) (hf r j))) (Post := fun res => ∃ f', res = some (MS c m f' r s t) ∧ Stg f f' (sp8 7 r a n l)) ?_ ?_ FU (2 * a.toNat) f (by omega) (FU_lt (by omega)) (Or.inl ⟨rfl, Nat.le_refl _, fun j _ _ => by omega⟩)
      · rw [show ((2 * a.toNat : Nat) : Int) = 2 * a by omega] at key
        exact key
      · intro i g hi hinv k
        rcases hinv with ⟨rfl, hlo, hno⟩ | ⟨j, j0, j1, j2, j3, j4, rfl⟩
        · have hl := hf_lt hb (h := i) (by omega)
          unfold fX13_check_208
          ((try rw [s_gI hm]); rw [o_ob, h0, if_pos (by decide), if_pos (by decide)]; (try rw [s_gI hm]); rw [o_ob]; (try rw [s_gI hm]); rw [o_ob]; (try rw [e34]); (try rw [e37]); (try rw [show (2 : Int32) = jI 2 from rfl]); (try rw [jI_add]); (try rw [jI_mul]); rw [if_neg (by first | ((simp (disch := omega) only [jI_lit, jI_neg, jI_add, jI_sub, jI_mul, jI_lt, jI_le, jI_eq, jL_lit, jL_lt, jL_le, jL_eq]) <;> omega) | omega), s_half hm hb (by omega) (by omega), o_ob]; (try rw [show ((i : Int)).toNat = i by omega]); (try rw [show (1 : Int32) = jI 1 from rfl]); (try rw [jI_add]); (try rw [show (i : Int) + 1 = ((i + 1 : Nat) : Int) by omega]))
          by_cases q : hf r i = 0
          · refine Or.inr ⟨g, Or.inl ⟨rfl, by omega, fun j a1 a2 => ?_⟩, ?_⟩
            · by_cases e : j = i
              · rw [e, q]; rfl
              · exact hno j a1 (by omega)
            · rw [if_pos (by rw [q]; rfl), o_lt]
          · have q' : (hf r i != 0) = true := by simpa using q
            refine Or.inr ⟨rsw g 5 0 a n (i : Int) (hf r i), Or.inr ⟨i, hlo, by omega, hi, q', hno, rfl⟩, ?_⟩
            (rw [if_neg (by first | ((simp (disch := omega) only [jI_lit, jI_neg, jI_add, jI_sub, jI_mul, jI_lt, jI_le, jI_eq, jL_lit, jL_lt, jL_le, jL_eq]) <;> omega) | omega)]; (try rw [show (5 : Int32) = jI 5 from rfl]); (try rw [show (0 : Int32) = jI 0 from rfl]); rw [s_raiseH0 hm hb h0 (by omega) (by omega), o_ob, o_lt]; (try rw [e34]); (try rw [e35]); (try rw [show ((i : Int)).toNat = i by omega]))
        · left
          refine ⟨rsw f 5 0 a n (j : Int) (hf r j), ?_, ?_⟩
          · unfold fX13_check_208
            ((try rw [s_gI hm]); rw [o_ob, rsw_38, if_neg (by decide)])
          · have ez : zsQ r a l = (j : Int) := fnd_is j0 (by omega) j3 j4
            unfold sp8
            (rw [ez, if_pos ⟨rfl, by omega⟩]; (try rw [show ((j : Int)).toNat = j by omega]))
            exact Stg_w
      · intro g hinv k
        rcases hinv with ⟨rfl, hlo, hno⟩ | ⟨j, j0, j1, j2, j3, j4, rfl⟩
        · refine ⟨g, ?_, fun _ _ => rfl, ?_⟩
          · unfold fX13_check_208
            ((try rw [s_gI hm]); rw [o_ob, h0, if_pos (by decide), if_pos (by decide)]; (try rw [s_gI hm]); rw [o_ob]; (try rw [s_gI hm]); rw [o_ob]; (try rw [e34]); (try rw [e37]); (try rw [show (2 : Int32) = jI 2 from rfl]); (try rw [jI_add]); (try rw [jI_mul]); rw [if_pos (by first | ((simp (disch := omega) only [jI_lit, jI_neg, jI_add, jI_sub, jI_mul, jI_lt, jI_le, jI_eq, jL_lit, jL_lt, jL_le, jL_eq]) <;> omega) | omega)])
          · have ez : zsQ r a l = -1 := fnd_no (fun j h1 h2 => hno j h1 (by omega))
            unfold sp8
            rw [ez, if_neg (fun x => x.2 rfl)]
            exact h0
        · refine ⟨rsw f 5 0 a n (j : Int) (hf r j), ?_, ?_⟩
          · unfold fX13_check_208
            ((try rw [s_gI hm]); rw [o_ob, rsw_38, if_neg (by decide)])
          · have ez : zsQ r a l = (j : Int) := fnd_is j0 (by omega) j3 j4
            unfold sp8
            (rw [ez, if_pos ⟨rfl, by omega⟩]; (try rw [show ((j : Int)).toNat = j by omega]))
            exact Stg_w
    · have key := lp_up (z := fun _ _ _ _ => none) (S := fX13_check_208) (β := Hp) (fun k (_ : Nat) => k m (jI o) (jI (2 * a)) (MS c m f r s t)) (E := some (MS c m f r s t)) (M := 0) (fun i hi => by omega) (fun k => by
        unfold fX13_check_208
        ((try rw [s_gI hm]); rw [o_ob, h0, if_pos (by decide), if_neg (by first | ((simp (disch := omega) only [jI_lit, jI_neg, jI_add, jI_sub, jI_mul, jI_lt, jI_le, jI_eq, jL_lit, jL_lt, jL_le, jL_eq]) <;> omega) | omega)])) FU 0 (by omega) (FU_lt (by omega))
      exact ⟨f, key, fun _ _ => rfl, by unfold sp8; rw [if_neg (fun e => c7 e.1)]; exact h0⟩
  · exact lp_up (z := fun _ _ _ _ => none) (S := fX13_check_208) (β := Hp) (fun k (_ : Nat) => k m (jI o) (jI (2 * a)) (MS c m f r s t)) (E := some (MS c m f r s t)) (M := 0) (fun i hi => by omega) (fun k => by
        unfold fX13_check_208
        ((try rw [s_gI hm]); rw [o_ob, if_neg (by first | ((simp (disch := omega) only [jI_lit, jI_neg, jI_add, jI_sub, jI_mul, jI_lt, jI_le, jI_eq, jL_lit, jL_lt, jL_le, jL_eq]) <;> omega) | omega)])) FU 0 (by omega) (FU_lt (by omega))
theorem g_208' (hm : Mo c m) (hb : Byt r) (o0 : 0 ≤ o) (o1 : o ≤ 24) (ho : Ops o a n b l) : Sg c m r s t o a n b l (fun h => ob (gI 11 m 34 h) fun v => lt (2 * v) fun z => lp (fun _ _ _ _ => none) fX13_check_208 FU m (jI o) z h) (sp8 o r a n l) :=
  Sg_of (fun f e34 _ _ _ => by
    show ob (gI 11 m 34 (MS c m f r s t)) _ = _
    ((try rw [s_gI hm]); rw [o_ob, o_lt]; (try rw [e34]); (try rw [show (2 : Int32) = jI 2 from rfl]); (try rw [jI_mul]))) (g_208 hm hb o0 o1 ho)
def ckP (w : Int) (r : Nat → Int) (p q : Int) : Option FT6 := if flp r p.toNat q.toNat ≠ -1 then some (4, w, p, q, flp r p.toNat q.toNat, hf r (flp r p.toNat q.toNat).toNat) else none
theorem flp_b {p n : Nat} (h : p + n ≤ 256) : -1 ≤ flp r p n ∧ flp r p n < 512 := by
  by_cases e : flp r p n = -1
  · omega
  · have := flp_r e
    omega
theorem s_ckP0 (hm : Mo c m) (hb : Byt r) (h0 : f 38 = 0) (a0 : 0 ≤ f 34) (n0 : 1 ≤ f 35) (an : f 34 + f 35 ≤ 256) : ∃ f', fX13_checkPacked m (jI 0) (MS c m f r s t) = some (MS c m f' r s t) ∧ Stg f f' (ckP 0 r (f 34) (f 35)) := by
  have e := s_flaw (c := c) (m := m) (f := f) (r := r) (s := s) (t := t) (p := (f 34).toNat) (n := (f 35).toNat) hm hb (by omega) (by omega)
  rw [show (((f 34).toNat : Nat) : Int) = f 34 by omega, show (((f 35).toNat : Nat) : Int) = f 35 by omega] at e
  have fr := flp_b (r := r) (p := (f 34).toNat) (n := (f 35).toNat) (by omega)
  unfold fX13_checkPacked fX13_checkPacked_39 ckP
  (rw [s_gd _ hm]; (try rw [s_gI hm]); rw [o_ob, h0, if_pos (by decide), if_pos (by decide)]; (try rw [s_gI hm]); rw [o_ob]; (try rw [s_gI hm]); rw [o_ob, e, o_ob])
  by_cases q : flp r (f 34).toNat (f 35).toNat = -1
  · rw [if_pos (by rw [q]; rfl), if_neg (fun x => x q)]
    exact ⟨f, rfl, fun _ _ => rfl, h0⟩
  · (rw [if_neg (by first | ((simp (disch := omega) only [jI_lit, jI_neg, jI_add, jI_sub, jI_mul, jI_lt, jI_le, jI_eq, jL_lit, jL_lt, jL_le, jL_eq]) <;> omega) | omega), if_pos q]; (try rw [show (4 : Int32) = jI 4 from rfl]); rw [s_raiseH0 hm hb h0 (by omega) (by omega), o_ob])
    exact ⟨_, rfl, Stg_w⟩
theorem s_ckP1 (hm : Mo c m) (hb : Byt r) (h0 : f 38 = 0) (a0 : 0 ≤ f 36) (n0 : 1 ≤ f 37) (an : f 36 + f 37 ≤ 256) : ∃ f', fX13_checkPacked m (jI 1) (MS c m f r s t) = some (MS c m f' r s t) ∧ Stg f f' (ckP 1 r (f 36) (f 37)) := by
  have e := s_flaw (c := c) (m := m) (f := f) (r := r) (s := s) (t := t) (p := (f 36).toNat) (n := (f 37).toNat) hm hb (by omega) (by omega)
  rw [show (((f 36).toNat : Nat) : Int) = f 36 by omega, show (((f 37).toNat : Nat) : Int) = f 37 by omega] at e
  have fr := flp_b (r := r) (p := (f 36).toNat) (n := (f 37).toNat) (by omega)
  unfold fX13_checkPacked fX13_checkPacked_39 ckP
  (rw [s_gd _ hm]; (try rw [s_gI hm]); rw [o_ob, h0, if_pos (by decide), if_neg (by decide)]; (try rw [s_gI hm]); rw [o_ob]; (try rw [s_gI hm]); rw [o_ob, e, o_ob])
  by_cases q : flp r (f 36).toNat (f 37).toNat = -1
  · rw [if_pos (by rw [q]; rfl), if_neg (fun x => x q)]
    exact ⟨f, rfl, fun _ _ => rfl, h0⟩
  · (rw [if_neg (by first | ((simp (disch := omega) only [jI_lit, jI_neg, jI_add, jI_sub, jI_mul, jI_lt, jI_le, jI_eq, jL_lit, jL_lt, jL_le, jL_eq]) <;> omega) | omega), if_pos q]; (try rw [show (4 : Int32) = jI 4 from rfl]); rw [s_raiseH1 hm hb h0 (by omega) (by omega), o_ob])
    exact ⟨_, rfl, Stg_w⟩
theorem s_ckPX {w : Int} (hm : Mo c m) (h0 : 1 ≤ f 38) (h1 : f 38 ≤ 8) : fX13_checkPacked m (jI w) (MS c m f r s t) = some (MS c m f r s t) := by
  unfold fX13_checkPacked
  (rw [s_gd _ hm]; (try rw [s_gI hm]); rw [o_ob, if_neg (by first | ((simp (disch := omega) only [jI_lit, jI_neg, jI_add, jI_sub, jI_mul, jI_lt, jI_le, jI_eq, jL_lit, jL_lt, jL_le, jL_eq]) <;> omega) | omega)])
/-- a check, then the rest -/
def thn (x sp : Option FT6) : Option FT6 := match x with
  | some y => some y
  | none => sp
theorem Sg_then {S : Hp → Option Hp} {A : Hp → Option Hp} {x sp : Option FT6} (hx : ∀ k w a n h v, x = some (k, w, a, n, h, v) → 1 ≤ k ∧ k ≤ 8) (hA : Sg c m r s t o a n b l A x) (hS : Sg c m r s t o a n b l S sp) : Sg c m r s t o a n b l (fun h => ob (A h) S) (thn x sp) := by
  intro f e34 e35 e36 e37
  obtain ⟨u1, u2⟩ := hA f e34 e35 e36 e37
  obtain ⟨v1, v2⟩ := hS f e34 e35 e36 e37
  refine ⟨fun hq h0 => ?_, fun h0 h1 => ?_⟩
  · obtain ⟨f1, w1, w2, w3⟩ := u1 hq h0
    obtain ⟨y1, y2⟩ := hS f1 (by rw [w2 _ (by omega)]; exact e34) (by rw [w2 _ (by omega)]; exact e35) (by rw [w2 _ (by omega)]; exact e36) (by rw [w2 _ (by omega)]; exact e37)
    cases x with
    | none =>
      obtain ⟨f2, z1, z2, z3⟩ := y1 hq w3
      exact ⟨f2, by show ob _ _ = _; rw [w1, o_ob]; exact z1, fun j hj => (z2 j hj).trans (w2 j hj), z3⟩
    | some y =>
      obtain ⟨k, w, a', n', h', v'⟩ := y
      have hk := hx _ _ _ _ _ _ rfl
      have w38 : f1 38 = k := w3.1
      exact ⟨f1, by show ob _ _ = _; rw [w1, o_ob]; exact y2 (by omega) (by omega), w2, w3⟩
  · show ob _ _ = _
    rw [u2 h0 h1, o_ob]
    exact v2 h0 h1
theorem g_ck0 (hm : Mo c m) (hb : Byt r) (a0 : 0 ≤ a) (n0 : 1 ≤ n) (an : a + n ≤ 256) : Sg c m r s t o a n b l (fun h => fX13_checkPacked m (jI 0) h) (ckP 0 r a n) := by
  intro f e34 e35 e36 e37
  refine ⟨fun _ h0 => ?_, fun h0 h1 => s_ckPX hm h0 h1⟩
  have := s_ckP0 (s := s) (t := t) hm hb h0 (by omega) (by omega) (by omega)
  rw [e34, e35] at this
  exact this
theorem g_ck1 (hm : Mo c m) (hb : Byt r) (b0 : 0 ≤ b) (l0 : 1 ≤ l) (bl : b + l ≤ 256) : Sg c m r s t o a n b l (fun h => fX13_checkPacked m (jI 1) h) (ckP 1 r b l) := by
  intro f e34 e35 e36 e37
  refine ⟨fun _ h0 => ?_, fun h0 h1 => s_ckPX hm h0 h1⟩
  have := s_ckP1 (s := s) (t := t) hm hb h0 (by omega) (by omega) (by omega)
  rw [e36, e37] at this
  exact this
theorem ckP_k {w : Int} {p q : Int} : ∀ k w' a n h v, ckP w r p q = some (k, w', a, n, h, v) → 1 ≤ k ∧ k ≤ 8 := by
  intro k w' a n h v e
  unfold ckP at e
  split at e
  · cases e; omega
  · cases e
def sp7 (o : Int) (r : Nat → Int) (a n b l : Int) : Option FT6 := if 3 ≤ o ∧ o ≤ 8 ∧ flp r b.toNat l.toNat ≠ -1 then some (4, 1, b, l, flp r b.toNat l.toNat, hf r (flp r b.toNat l.toNat).toNat) else sp8 o r a n l
theorem g_182 (hm : Mo c m) (hb : Byt r) (o0 : 0 ≤ o) (o1 : o ≤ 24) (ho : Ops o a n b l) : Sg c m r s t o a n b l (fun h => fX13_check_182 m (jI o) h) (sp7 o r a n b l) := by
  have g8 := g_208' (s := s) (t := t) hm hb o0 o1 ho
  by_cases q : 3 ≤ o ∧ o ≤ 8
  · obtain ⟨p1, p2⟩ := ho
    obtain ⟨b0, l0, -, bl⟩ := p2 (by omega)
    have g := Sg_then (ckP_k (w := 1)) (g_ck1 (s := s) (t := t) (o := o) (a := a) (n := n) hm hb b0 l0 bl) g8
    have es : thn (ckP 1 r b l) (sp8 o r a n l) = sp7 o r a n b l := by
      unfold ckP sp7 thn
      by_cases z : flp r b.toNat l.toNat = -1
      · rw [if_neg (fun x => x z), if_neg (fun x => x.2.2 z)]
      · rw [if_pos z, if_pos ⟨q.1, q.2, z⟩]
    rw [es] at g
    exact Sg_of (fun f _ _ _ _ => by
      show fX13_check_182 m (jI o) (MS c m f r s t) = _
      unfold fX13_check_182
      ((try rw [show (3 : Int64) = jL 3 from rfl]); (try rw [show (8 : Int64) = jL 8 from rfl]); rw [w_isInI (by omega) (by omega) (by omega) (by omega) (by omega) (by omega), if_pos q, o_ob, if_neg (by decide)])
      rfl) g
  · have es : sp7 o r a n b l = sp8 o r a n l := by
      unfold sp7
      rw [if_neg (fun x => q ⟨x.1, x.2.1⟩)]
    rw [es]
    exact Sg_of (fun f _ _ _ _ => by
      show fX13_check_182 m (jI o) (MS c m f r s t) = _
      unfold fX13_check_182
      ((try rw [show (3 : Int64) = jL 3 from rfl]); (try rw [show (8 : Int64) = jL 8 from rfl]); rw [w_isInI (by omega) (by omega) (by omega) (by omega) (by omega) (by omega), if_neg q, o_ob, if_pos (by decide)])) g8
def sp6 (o : Int) (r : Nat → Int) (a n b l : Int) : Option FT6 := if ((4 ≤ o ∧ o ≤ 8) ∨ o = 14 ∨ o = 16) ∧ flp r a.toNat n.toNat ≠ -1 then some (4, 0, a, n, flp r a.toNat n.toNat, hf r (flp r a.toNat n.toNat).toNat) else sp7 o r a n b l
theorem g_151 (hm : Mo c m) (hb : Byt r) (o0 : 0 ≤ o) (o1 : o ≤ 24) (ho : Ops o a n b l) : Sg c m r s t o a n b l (fun h => fX13_check_151 m (jI o) h) (sp6 o r a n b l) := by
  have g7 := g_182 (s := s) (t := t) hm hb o0 o1 ho
  have ei : fX13_isIn (Int32.toInt64 (jI o)) 4 8 = some (if 4 ≤ o ∧ o ≤ 8 then jI 1 else jI 0) := by
    ((try rw [show (4 : Int64) = jL 4 from rfl]); (try rw [show (8 : Int64) = jL 8 from rfl]); rw [w_isInI (by omega) (by omega) (by omega) (by omega) (by omega) (by omega)])
  by_cases q : (4 ≤ o ∧ o ≤ 8) ∨ o = 14 ∨ o = 16
  · obtain ⟨p1, p2⟩ := ho
    obtain ⟨a0, n0, -, an⟩ := p1 (by omega)
    have g := Sg_then (ckP_k (w := 0)) (g_ck0 (s := s) (t := t) (o := o) (b := b) (l := l) hm hb a0 n0 an) g7
    have es : thn (ckP 0 r a n) (sp7 o r a n b l) = sp6 o r a n b l := by
      unfold ckP sp6 thn
      by_cases z : flp r a.toNat n.toNat = -1
      · rw [if_neg (fun x => x z), if_neg (fun x => x.2 z)]
      · rw [if_pos z, if_pos ⟨q, z⟩]
    rw [es] at g
    exact Sg_of (fun f _ _ _ _ => by
      show fX13_check_151 m (jI o) (MS c m f r s t) = _
      unfold fX13_check_151 fX13_check_177
      rw [ei, o_ob]
      by_cases q1 : 4 ≤ o ∧ o ≤ 8
      · rw [if_pos q1, if_neg (by decide)]; rfl
      · rw [if_neg q1, if_pos (by decide)]
        by_cases q2 : o = 14
        · rw [if_pos (by first | ((simp (disch := omega) only [jI_lit, jI_neg, jI_add, jI_sub, jI_mul, jI_lt, jI_le, jI_eq, jL_lit, jL_lt, jL_le, jL_eq]) <;> omega) | omega)]; rfl
        · rw [if_neg (by first | ((simp (disch := omega) only [jI_lit, jI_neg, jI_add, jI_sub, jI_mul, jI_lt, jI_le, jI_eq, jL_lit, jL_lt, jL_le, jL_eq]) <;> omega) | omega), if_pos (by first | ((simp (disch := omega) only [jI_lit, jI_neg, jI_add, jI_sub, jI_mul, jI_lt, jI_le, jI_eq, jL_lit, jL_lt, jL_le, jL_eq]) <;> omega) | omega)]; rfl) g
  · have es : sp6 o r a n b l = sp7 o r a n b l := by
      unfold sp6
      rw [if_neg (fun x => q x.1)]
    rw [es]
    exact Sg_of (fun f _ _ _ _ => by
      show fX13_check_151 m (jI o) (MS c m f r s t) = _
      unfold fX13_check_151
      rw [ei, o_ob, if_neg (fun x => q (Or.inl x)), if_pos (by decide), if_neg (by first | ((simp (disch := omega) only [jI_lit, jI_neg, jI_add, jI_sub, jI_mul, jI_lt, jI_le, jI_eq, jL_lit, jL_lt, jL_le, jL_eq]) <;> omega) | omega), if_neg (by first | ((simp (disch := omega) only [jI_lit, jI_neg, jI_add, jI_sub, jI_mul, jI_lt, jI_le, jI_eq, jL_lit, jL_lt, jL_le, jL_eq]) <;> omega) | omega)]) g7
theorem g_rs1 {k : Int} (hm : Mo c m) : Sg c m r s t o a n b l (fun h => fX13_raise m (jI k) (jI 1) h) (some (k, 1, b, l, -1, 0)) := by
  intro f e34 e35 e36 e37
  refine ⟨fun _ h0 => ⟨_, s_raise1 hm h0, ?_⟩, fun h0 h1 => s_raiseX hm h0 h1⟩
  rw [e36, e37]
  exact Stg_v
theorem Sg_rs {S : Hp → Option Hp} {k : Int} {sp : Option FT6} (hm : Mo c m) (k1 : 1 ≤ k) (k2 : k ≤ 8) (hS : Sg c m r s t o a n b l S sp) : ∀ f : Nat → Int, f 34 = a → f 35 = n → f 36 = b → f 37 = l → (f 38 = 0 → ∃ f', ob (fX13_raise m (jI k) (jI 1) (MS c m f r s t)) S = some (MS c m f' r s t) ∧ Stg f f' (some (k, 1, b, l, -1, 0))) ∧ (1 ≤ f 38 → f 38 ≤ 8 → ob (fX13_raise m (jI k) (jI 1) (MS c m f r s t)) S = some (MS c m f r s t)) := by
  intro f e34 e35 e36 e37
  refine ⟨fun h0 => ?_, fun h0 h1 => ?_⟩
  · (rw [s_raise1 hm h0, o_ob]; (try rw [e36]); (try rw [e37]))
    refine ⟨_, (hS _ (by rw [rsv_lo (by omega)]; exact e34) (by rw [rsv_lo (by omega)]; exact e35) (by rw [rsv_lo (by omega)]; exact e36) (by rw [rsv_lo (by omega)]; exact e37)).2 (by rw [rsv_38]; exact k1) (by rw [rsv_38]; exact k2), Stg_v⟩
  · rw [s_raiseX hm h0 h1, o_ob]
    exact (hS f e34 e35 e36 e37).2 h0 h1
theorem Sg_rg {S : Hp → Option Hp} {k : Int} {sp : Option FT6} (hm : Mo c m) (k1 : 1 ≤ k) (k2 : k ≤ 8) (hS : Sg c m r s t o a n b l S sp) : Sg c m r s t o a n b l (fun h => ob (fX13_raise m (jI k) (jI 1) h) S) (some (k, 1, b, l, -1, 0)) := by
  intro f e34 e35 e36 e37
  obtain ⟨u1, u2⟩ := Sg_rs hm k1 k2 hS f e34 e35 e36 e37
  exact ⟨fun _ h0 => u1 h0, u2⟩
def sp5 (o : Int) (r : Nat → Int) (a n b l : Int) : Option FT6 := if o = 3 ∧ (a < b + l ∧ b < a + n) ∧ a + n < b + l then some (3, 1, b, l, -1, 0) else sp6 o r a n b l
theorem g_112 (hm : Mo c m) (hb : Byt r) (o0 : 0 ≤ o) (o1 : o ≤ 24) (ho : Ops o a n b l) : Sg c m r s t o a n b l (fun h => fX13_check_112 m (jI o) h) (sp5 o r a n b l) := by
  have g6 := g_151 (s := s) (t := t) hm hb o0 o1 ho
  by_cases c3 : o = 3
  · have em := fun (f : Nat → Int) => s_meet (f := f) (r := r) (s := s) (t := t) hm ho (by omega)
    obtain ⟨p1, p2⟩ := ho
    obtain ⟨a0, n0, -, an⟩ := p1 (by omega)
    obtain ⟨b0, l0, -, bl⟩ := p2 (by omega)
    have el : (o : Int) = 3 := c3
    by_cases q : (a < b + l ∧ b < a + n) ∧ a + n < b + l
    · unfold sp5
      rw [if_pos ⟨c3, q⟩]
      exact Sg_of (fun f e34 e35 e36 e37 => by
        show fX13_check_112 m (jI o) (MS c m f r s t) = _
        unfold fX13_check_112
        (rw [if_pos (by first | ((simp (disch := omega) only [jI_lit, jI_neg, jI_add, jI_sub, jI_mul, jI_lt, jI_le, jI_eq, jL_lit, jL_lt, jL_le, jL_eq]) <;> omega) | omega), em f e34 e35 e36 e37, o_ob, if_pos q.1, if_neg (by decide)]; (try rw [s_gI hm]); rw [o_ob]; (try rw [s_gI hm]); rw [o_ob]; (try rw [s_gI hm]); rw [o_ob]; (try rw [s_gI hm]); rw [o_ob]; (try rw [e34]); (try rw [e35]); (try rw [e36]); (try rw [e37]); (try rw [jI_add]); (try rw [jI_add]); rw [if_neg (by first | ((simp (disch := omega) only [jI_lit, jI_neg, jI_add, jI_sub, jI_mul, jI_lt, jI_le, jI_eq, jL_lit, jL_lt, jL_le, jL_eq]) <;> omega) | omega)])
        rfl) (Sg_rg (k := 3) hm (by omega) (by omega) g6)
    · unfold sp5
      rw [if_neg (fun x => q x.2)]
      exact Sg_of (fun f e34 e35 e36 e37 => by
        show fX13_check_112 m (jI o) (MS c m f r s t) = _
        unfold fX13_check_112
        rw [if_pos (by first | ((simp (disch := omega) only [jI_lit, jI_neg, jI_add, jI_sub, jI_mul, jI_lt, jI_le, jI_eq, jL_lit, jL_lt, jL_le, jL_eq]) <;> omega) | omega), em f e34 e35 e36 e37, o_ob]
        by_cases q1 : a < b + l ∧ b < a + n
        · (rw [if_pos q1, if_neg (by decide)]; (try rw [s_gI hm]); rw [o_ob]; (try rw [s_gI hm]); rw [o_ob]; (try rw [s_gI hm]); rw [o_ob]; (try rw [s_gI hm]); rw [o_ob]; (try rw [e34]); (try rw [e35]); (try rw [e36]); (try rw [e37]); (try rw [jI_add]); (try rw [jI_add]); rw [if_pos (by first | ((simp (disch := omega) only [jI_lit, jI_neg, jI_add, jI_sub, jI_mul, jI_lt, jI_le, jI_eq, jL_lit, jL_lt, jL_le, jL_eq]) <;> omega) | omega)])
        · rw [if_neg q1, if_pos (by decide)]) g6
  · unfold sp5
    rw [if_neg (fun x => c3 x.1)]
    exact Sg_of (fun f e34 e35 e36 e37 => by
        show fX13_check_112 m (jI o) (MS c m f r s t) = _
        unfold fX13_check_112
        rw [if_neg (by first | ((simp (disch := omega) only [jI_lit, jI_neg, jI_add, jI_sub, jI_mul, jI_lt, jI_le, jI_eq, jL_lit, jL_lt, jL_le, jL_eq]) <;> omega) | omega)]) g6
def sp4 (o : Int) (r : Nat → Int) (a n b l : Int) : Option FT6 := if (o = 4 ∨ o = 5 ∨ o = 7 ∨ o = 8) ∧ (a < b + l ∧ b < a + n) ∧ a + n ≠ b + l then some (3, 1, b, l, -1, 0) else sp5 o r a n b l
theorem g_72 {y : Bool} (hm : Mo c m) (hb : Byt r) (o0 : 0 ≤ o) (o1 : o ≤ 24) (ho : Ops o a n b l) (hy : o ≤ 11 → (y = true ↔ a + n = b + l)) : Sg c m r s t o a n b l (fun h => fX13_check_72 m (jI o) (jI (b2 y)) h) (sp4 o r a n b l) := by
  have g5 := g_112 (s := s) (t := t) hm hb o0 o1 ho
  by_cases c4 : o = 4 ∨ o = 5 ∨ o = 7 ∨ o = 8
  · have em := fun (f : Nat → Int) => s_meet (f := f) (r := r) (s := s) (t := t) hm ho (by omega)
    have hy' := hy (by omega)
    have e95 : ∀ h, fX13_check_72 m (jI o) (jI (b2 y)) h = fX13_check_95 fX13_check_112 m (jI o) (jI (b2 y)) h := fun h => by
      unfold fX13_check_72
      by_cases x4 : o = 4
      · rw [if_pos (by first | ((simp (disch := omega) only [jI_lit, jI_neg, jI_add, jI_sub, jI_mul, jI_lt, jI_le, jI_eq, jL_lit, jL_lt, jL_le, jL_eq]) <;> omega) | omega)]
      · rw [if_neg (by first | ((simp (disch := omega) only [jI_lit, jI_neg, jI_add, jI_sub, jI_mul, jI_lt, jI_le, jI_eq, jL_lit, jL_lt, jL_le, jL_eq]) <;> omega) | omega)]
        by_cases x5 : o = 5
        · rw [if_pos (by first | ((simp (disch := omega) only [jI_lit, jI_neg, jI_add, jI_sub, jI_mul, jI_lt, jI_le, jI_eq, jL_lit, jL_lt, jL_le, jL_eq]) <;> omega) | omega)]
        · rw [if_neg (by first | ((simp (disch := omega) only [jI_lit, jI_neg, jI_add, jI_sub, jI_mul, jI_lt, jI_le, jI_eq, jL_lit, jL_lt, jL_le, jL_eq]) <;> omega) | omega)]
          by_cases x7 : o = 7
          · rw [if_pos (by first | ((simp (disch := omega) only [jI_lit, jI_neg, jI_add, jI_sub, jI_mul, jI_lt, jI_le, jI_eq, jL_lit, jL_lt, jL_le, jL_eq]) <;> omega) | omega)]
          · rw [if_neg (by first | ((simp (disch := omega) only [jI_lit, jI_neg, jI_add, jI_sub, jI_mul, jI_lt, jI_le, jI_eq, jL_lit, jL_lt, jL_le, jL_eq]) <;> omega) | omega), if_pos (by first | ((simp (disch := omega) only [jI_lit, jI_neg, jI_add, jI_sub, jI_mul, jI_lt, jI_le, jI_eq, jL_lit, jL_lt, jL_le, jL_eq]) <;> omega) | omega)]
    by_cases q : (a < b + l ∧ b < a + n) ∧ a + n ≠ b + l
    · have yf : y = false := by
        cases y with
        | false => rfl
        | true => exact absurd (hy'.1 rfl) q.2
      unfold sp4
      rw [if_pos ⟨c4, q⟩]
      exact Sg_of (fun f e34 e35 e36 e37 => by
        show fX13_check_72 m (jI o) (jI (b2 y)) (MS c m f r s t) = _
        rw [e95, yf]
        unfold fX13_check_95
        rw [em f e34 e35 e36 e37, o_ob, if_pos q.1, if_neg (by decide), if_pos (by decide)]
        rfl) (Sg_rg (k := 3) hm (by omega) (by omega) g5)
    · unfold sp4
      rw [if_neg (fun x => q x.2)]
      exact Sg_of (fun f e34 e35 e36 e37 => by
        show fX13_check_72 m (jI o) (jI (b2 y)) (MS c m f r s t) = _
        rw [e95]
        unfold fX13_check_95
        rw [em f e34 e35 e36 e37, o_ob]
        by_cases q1 : a < b + l ∧ b < a + n
        · have yt : y = true := hy'.2 (Decidable.byContradiction fun x => q ⟨q1, x⟩)
          rw [if_pos q1, if_neg (by decide), yt, if_neg (by decide)]
        · rw [if_neg q1, if_pos (by decide)]) g5
  · unfold sp4
    rw [if_neg (fun x => c4 x.1)]
    exact Sg_of (fun f e34 e35 e36 e37 => by
        show fX13_check_72 m (jI o) (jI (b2 y)) (MS c m f r s t) = _
        unfold fX13_check_72
        rw [if_neg (by first | ((simp (disch := omega) only [jI_lit, jI_neg, jI_add, jI_sub, jI_mul, jI_lt, jI_le, jI_eq, jL_lit, jL_lt, jL_le, jL_eq]) <;> omega) | omega), if_neg (by first | ((simp (disch := omega) only [jI_lit, jI_neg, jI_add, jI_sub, jI_mul, jI_lt, jI_le, jI_eq, jL_lit, jL_lt, jL_le, jL_eq]) <;> omega) | omega), if_neg (by first | ((simp (disch := omega) only [jI_lit, jI_neg, jI_add, jI_sub, jI_mul, jI_lt, jI_le, jI_eq, jL_lit, jL_lt, jL_le, jL_eq]) <;> omega) | omega), if_neg (by first | ((simp (disch := omega) only [jI_lit, jI_neg, jI_add, jI_sub, jI_mul, jI_lt, jI_le, jI_eq, jL_lit, jL_lt, jL_le, jL_eq]) <;> omega) | omega)]) g5
theorem g_46 (hm : Mo c m) (hb : Byt r) (o0 : 0 ≤ o) (o1 : o ≤ 24) (ho : Ops o a n b l) : Sg c m r s t o a n b l (fun h => fX13_check_46 m (jI o) h) (sp4 o r a n b l) := by
  by_cases q : jI (a + n) = jI (b + l)
  · refine Sg_of (fun f e34 e35 e36 e37 => ?_) (g_72 (y := true) (s := s) (t := t) hm hb o0 o1 ho (fun h => ?_))
    · show fX13_check_46 m (jI o) (MS c m f r s t) = _
      unfold fX13_check_46
      ((try rw [s_gI hm]); rw [o_ob]; (try rw [s_gI hm]); rw [o_ob]; (try rw [s_gI hm]); rw [o_ob]; (try rw [s_gI hm]); rw [o_ob]; (try rw [e34]); (try rw [e35]); (try rw [e36]); (try rw [e37]); (try rw [jI_add]); (try rw [jI_add]); rw [if_pos q])
      rfl
    · obtain ⟨p1, p2⟩ := ho
      have := p1 (by omega)
      have := p2 h
      rw [jI_eq (by omega) (by omega) (by omega) (by omega)] at q
      exact ⟨fun _ => q, fun _ => rfl⟩
  · refine Sg_of (fun f e34 e35 e36 e37 => ?_) (g_72 (y := false) (s := s) (t := t) hm hb o0 o1 ho (fun h => ?_))
    · show fX13_check_46 m (jI o) (MS c m f r s t) = _
      unfold fX13_check_46
      ((try rw [s_gI hm]); rw [o_ob]; (try rw [s_gI hm]); rw [o_ob]; (try rw [s_gI hm]); rw [o_ob]; (try rw [s_gI hm]); rw [o_ob]; (try rw [e34]); (try rw [e35]); (try rw [e36]); (try rw [e37]); (try rw [jI_add]); (try rw [jI_add]); rw [if_neg q])
      rfl
    · obtain ⟨p1, p2⟩ := ho
      have := p1 (by omega)
      have := p2 h
      rw [jI_eq (by omega) (by omega) (by omega) (by omega)] at q
      exact ⟨fun x => absurd x (by decide), fun x => absurd x q⟩
def sp3 (o : Int) (r : Nat → Int) (a n b l : Int) : Option FT6 := if (o = 7 ∨ o = 8) ∧ (8 < l ∨ n ≤ l) then some (2, 1, b, l, -1, 0) else sp4 o r a n b l
theorem s_check (hm : Mo c m) (hb : Byt r) (o0 : 0 ≤ o) (o1 : o ≤ 24) (ho : Ops o a n b l) (h0 : f 38 = 0) (e34 : f 34 = a) (e35 : f 35 = n) (e36 : f 36 = b) (e37 : f 37 = l) : ∃ f', fX13_check m (jI o) (MS c m f r s t) = some (MS c m f' r s t) ∧ Stg f f' (sp3 o r a n b l) := by
  have g4 := g_46 (s := s) (t := t) hm hb o0 o1 ho
  unfold fX13_check
  (rw [s_gd _ hm]; (try rw [s_gI hm]); rw [o_ob, h0, if_pos (by decide)])
  by_cases c7 : o = 7 ∨ o = 8
  · have e20 : (if jI o = 7 then fX13_check_20 fX13_check_46 m (jI o) (MS c m f r s t) else if jI o = 8 then fX13_check_20 fX13_check_46 m (jI o) (MS c m f r s t) else fX13_check_46 m (jI o) (MS c m f r s t)) = fX13_check_20 fX13_check_46 m (jI o) (MS c m f r s t) := by
      by_cases x7 : o = 7
      · rw [if_pos (by first | ((simp (disch := omega) only [jI_lit, jI_neg, jI_add, jI_sub, jI_mul, jI_lt, jI_le, jI_eq, jL_lit, jL_lt, jL_le, jL_eq]) <;> omega) | omega)]
      · rw [if_neg (by first | ((simp (disch := omega) only [jI_lit, jI_neg, jI_add, jI_sub, jI_mul, jI_lt, jI_le, jI_eq, jL_lit, jL_lt, jL_le, jL_eq]) <;> omega) | omega), if_pos (by first | ((simp (disch := omega) only [jI_lit, jI_neg, jI_add, jI_sub, jI_mul, jI_lt, jI_le, jI_eq, jL_lit, jL_lt, jL_le, jL_eq]) <;> omega) | omega)]
    rw [e20]
    obtain ⟨p1, p2⟩ := ho
    obtain ⟨a0, n0, n64, an⟩ := p1 (by omega)
    obtain ⟨b0, l0, l64, bl⟩ := p2 (by omega)
    by_cases q : 8 < l ∨ n ≤ l
    · unfold sp3
      rw [if_pos ⟨c7, q⟩]
      obtain ⟨u1, -⟩ := Sg_rs (k := 2) hm (by omega) (by omega) g4 f e34 e35 e36 e37
      have e40 : fX13_check_20 fX13_check_46 m (jI o) (MS c m f r s t) = ob (fX13_raise m (jI 2) (jI 1) (MS c m f r s t)) fun h => fX13_check_46 m (jI o) h := by
        unfold fX13_check_20 fX13_check_40
        ((try rw [s_gI hm]); rw [o_ob]; (try rw [e37]))
        by_cases x : 8 < l
        · rw [if_pos (by first | ((simp (disch := omega) only [jI_lit, jI_neg, jI_add, jI_sub, jI_mul, jI_lt, jI_le, jI_eq, jL_lit, jL_lt, jL_le, jL_eq]) <;> omega) | omega)]; rfl
        · (rw [if_neg (by first | ((simp (disch := omega) only [jI_lit, jI_neg, jI_add, jI_sub, jI_mul, jI_lt, jI_le, jI_eq, jL_lit, jL_lt, jL_le, jL_eq]) <;> omega) | omega)]; (try rw [s_gI hm]); rw [o_ob]; (try rw [s_gI hm]); rw [o_ob]; (try rw [e37]); (try rw [e35]); rw [if_neg (by first | ((simp (disch := omega) only [jI_lit, jI_neg, jI_add, jI_sub, jI_mul, jI_lt, jI_le, jI_eq, jL_lit, jL_lt, jL_le, jL_eq]) <;> omega) | omega)]); rfl
      rw [e40]
      exact u1 h0
    · unfold sp3
      rw [if_neg (fun x => q x.2)]
      obtain ⟨u1, -⟩ := g4 f e34 e35 e36 e37
      have e40 : fX13_check_20 fX13_check_46 m (jI o) (MS c m f r s t) = fX13_check_46 m (jI o) (MS c m f r s t) := by
        unfold fX13_check_20
        ((try rw [s_gI hm]); rw [o_ob]; (try rw [e37]); rw [if_neg (by first | ((simp (disch := omega) only [jI_lit, jI_neg, jI_add, jI_sub, jI_mul, jI_lt, jI_le, jI_eq, jL_lit, jL_lt, jL_le, jL_eq]) <;> omega) | omega)]; (try rw [s_gI hm]); rw [o_ob]; (try rw [s_gI hm]); rw [o_ob]; (try rw [e37]); (try rw [e35]); rw [if_pos (by first | ((simp (disch := omega) only [jI_lit, jI_neg, jI_add, jI_sub, jI_mul, jI_lt, jI_le, jI_eq, jL_lit, jL_lt, jL_le, jL_eq]) <;> omega) | omega)])
      rw [e40]
      exact u1 (fun _ => by omega) h0
  · rw [if_neg (by first | ((simp (disch := omega) only [jI_lit, jI_neg, jI_add, jI_sub, jI_mul, jI_lt, jI_le, jI_eq, jL_lit, jL_lt, jL_le, jL_eq]) <;> omega) | omega), if_neg (by first | ((simp (disch := omega) only [jI_lit, jI_neg, jI_add, jI_sub, jI_mul, jI_lt, jI_le, jI_eq, jL_lit, jL_lt, jL_le, jL_eq]) <;> omega) | omega)]
    unfold sp3
    rw [if_neg (fun x => c7 x.1)]
    exact (g4 f e34 e35 e36 e37).1 (fun x => absurd (Or.inl x) c7) h0
theorem s_checkX (hm : Mo c m) (h0 : 1 ≤ f 38) (h1 : f 38 ≤ 8) : fX13_check m (jI o) (MS c m f r s t) = some (MS c m f r s t) := by
  unfold fX13_check
  (rw [s_gd _ hm]; (try rw [s_gI hm]); rw [o_ob, if_neg (by first | ((simp (disch := omega) only [jI_lit, jI_neg, jI_add, jI_sub, jI_mul, jI_lt, jI_le, jI_eq, jL_lit, jL_lt, jL_le, jL_eq]) <;> omega) | omega)])
/-- the checks together are those of a step, zeros with them -/
theorem sp3_chk (h : chk1 o a n b l = none) : sp3 o r a n b l = match chk o r a n b l with | some x => some x | none => sp8 o r a n l := by
  have h1 : ¬ (o ≤ 17 ∧ isF a n = false) := fun q => by unfold chk1 at h; rw [if_pos q] at h; exact nomatch h
  have h2 : ¬ (o ≤ 11 ∧ isF b l = false) := fun q => by unfold chk1 at h; rw [if_neg h1, if_pos q] at h; exact nomatch h
  unfold sp3 sp4 sp5 sp6 sp7 chk
  rw [if_neg h1, if_neg h2]
  by_cases c1 : (o = 7 ∨ o = 8) ∧ (8 < l ∨ n ≤ l)
  · rw [if_pos c1, if_pos c1]
  rw [if_neg c1, if_neg c1]
  by_cases c2 : (o = 4 ∨ o = 5 ∨ o = 7 ∨ o = 8) ∧ (a < b + l ∧ b < a + n) ∧ a + n ≠ b + l
  · rw [if_pos c2, if_pos c2]
  rw [if_neg c2, if_neg c2]
  by_cases c3 : o = 3 ∧ (a < b + l ∧ b < a + n) ∧ a + n < b + l
  · rw [if_pos c3, if_pos c3]
  rw [if_neg c3, if_neg c3]
  by_cases c4 : ((4 ≤ o ∧ o ≤ 8) ∨ o = 14 ∨ o = 16) ∧ flp r a.toNat n.toNat ≠ -1
  · rw [if_pos c4, if_pos c4]
  rw [if_neg c4, if_neg c4]
  by_cases c5 : (3 ≤ o ∧ o ≤ 8) ∧ flp r b.toNat l.toNat ≠ -1
  · rw [if_pos ⟨c5.1.1, c5.1.2, c5.2⟩, if_pos c5]
  rw [if_neg (fun x => c5 ⟨⟨x.1, x.2.1⟩, x.2.2⟩), if_neg c5]
theorem chk1_chk {x : FT6} (h : chk1 o a n b l = some x) : chk o r a n b l = some x := by
  unfold chk1 at h
  unfold chk
  by_cases c1 : o ≤ 17 ∧ isF a n = false
  · rw [if_pos c1] at h ⊢; exact h
  · rw [if_neg c1] at h ⊢
    by_cases c2 : o ≤ 11 ∧ isF b l = false
    · rw [if_pos c2] at h ⊢; exact h
    · rw [if_neg c2] at h; exact nomatch h
end RCK2
