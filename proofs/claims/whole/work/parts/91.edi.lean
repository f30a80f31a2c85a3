section REE
variable {c : MC} {m : Nat} {f r : Nat → Int} {s t : SI2}
/-- what an edit leaves -/
def prE (r : Nat → Int) (A n : Nat) (src : Int) (mk : Bool) : (Nat → Int) × Option FT6 := match edS r A src n with
  | .inl (c, x, u) => (r, some (c, 1, x, 1, (if c = 4 then 2 * x else -1), if c = 4 then u x.toNat / 16 else 0))
  | .inr (u, _, _, seen, any, mark) => ((if mk = true ∧ mark ≠ -1 then va_up (va_up u 264 (if any then (if seen then 1 else 2) else 0)) 257 mark else va_up u 264 (if any then (if seen then 1 else 2) else 0)), none)
/-- fields that an edit may change -/
def Fe (f g : Nat → Int) : Prop := ∀ j, j < 36 ∨ j = 44 ∨ 51 < j → g j = f j
/-- the row as the reference has it while it edits -/
def erw (r u : Nat → Int) (mk : Bool) (mark : Int) : Nat → Int := va_up u 257 (if mk = true ∧ mark ≠ -1 then mark else r 257)
theorem erw_lo {r u : Nat → Int} {mk : Bool} {mark : Int} {k : Nat} (h : k ≠ 257) : erw r u mk mark k = u k := va_up_ne _ _ h
theorem erw_up {r u : Nat → Int} {mk : Bool} {mark x : Int} {k : Nat} (h : k ≠ 257) : va_up (erw r u mk mark) k x = erw r (va_up u k x) mk mark := by
  unfold erw; rw [up_sw _ _ _ (Ne.symm h)]
/-- behind a fault: the row is as it was -/
theorem s_ed274f {A n i : Nat} {mk : Bool} {mark : Int} {u g : Nat → Int} (hm : Mo c m) (hp : A + n ≤ 256) (hn : n ≤ 64) (hu : ∀ k, k < A ∨ A + n ≤ k → u k = r k) (e34 : g 34 = (A : Int)) (e35 : g 35 = (n : Int)) (k1 : 1 ≤ g 38) (k2 : g 38 ≤ 8) (hpat : ∀ k, k < n → s 22 k = r (A + k)) :
    fX13_doEdit_274 m (jI (r 257)) (MS c m g (erw r u mk mark) s t) = some (MS c m g r s t) := by
  unfold fX13_doEdit_274
  ((try rw [s_gI hm]); rw [o_ob, if_neg (by first | ((simp (disch := omega) only [jI_lit, jI_neg, jI_add, jI_sub, jI_mul, jI_lt, jI_le, jI_eq, jL_lit, jL_lt, jL_le, jL_eq]) <;> omega) | omega)]; (try rw [s_R3 hm]); rw [o_ob]; (try rw [show (257 : Int32) = jI 257 from rfl]); rw [s_q3 hm (by omega) (by omega), o_ob]; (try rw [show (257 : Int).toNat = 257 from rfl]))
  have e1 : va_up (erw r u mk mark) 257 (r 257) = u := by
    unfold erw
    ((try rw [upup]); rw [← hu 257 (by omega), up_id])
  rw [e1]
  have key := lp_up (z := fun _ _ _ => none) (S := fX13_doEdit_324) (β := Hp) (fun k (i : Nat) => k m (jI (i : Int)) (MS c m g (fun x => if A ≤ x ∧ x < A + i then r x else u x) s t)) (E := some (MS c m g r s t)) (M := n) ?_ ?_ FU 0 (by omega) (FU_lt (by omega))
  · rw [show (fun x => if A ≤ x ∧ x < A + 0 then r x else u x) = u by funext x; rw [if_neg (by omega)]] at key
    exact key
  · intro i hi k
    unfold fX13_doEdit_324
    ((try rw [s_gI hm]); rw [o_ob]; (try rw [e35]); rw [if_neg (by first | ((simp (disch := omega) only [jI_lit, jI_neg, jI_add, jI_sub, jI_mul, jI_lt, jI_le, jI_eq, jL_lit, jL_lt, jL_le, jL_eq]) <;> omega) | omega)]; (try rw [s_R3 hm]); rw [o_ob]; (try rw [s_gI hm]); rw [o_ob]; (try rw [s_R45 hm]); rw [o_ob]; (try rw [e34]); rw [s_a22 hm (by omega) (by omega), o_ob]; (try rw [jI_add]); rw [s_q3 hm (by omega) (by omega), o_ob, o_lt]; (try rw [show (1 : Int32) = jI 1 from rfl]); (try rw [jI_add]); (try rw [show ((i : Int)).toNat = i by omega]); rw [hpat i hi]; (try rw [show ((A : Int) + (i : Int)).toNat = A + i by omega]))
    have e2 : va_up (fun x => if A ≤ x ∧ x < A + i then r x else u x) (A + i) (r (A + i)) = fun x => if A ≤ x ∧ x < A + (i + 1) then r x else u x := by
      funext x
      by_cases q : x = A + i
      · (rw [q]; (try rw [va_up_self]); rw [if_pos (by omega)])
      · rw [va_up_ne _ _ q]
        by_cases q2 : A ≤ x ∧ x < A + i
        · rw [if_pos q2, if_pos (by omega)]
        · rw [if_neg q2, if_neg (by omega)]
    rw [e2]
    rfl
  · intro k
    unfold fX13_doEdit_324
    ((try rw [s_gI hm]); rw [o_ob]; (try rw [e35]); rw [if_pos (by first | ((simp (disch := omega) only [jI_lit, jI_neg, jI_add, jI_sub, jI_mul, jI_lt, jI_le, jI_eq, jL_lit, jL_lt, jL_le, jL_eq]) <;> omega) | omega)])
    have e3 : (fun x => if A ≤ x ∧ x < A + n then r x else u x) = r := by
      funext x
      by_cases q : A ≤ x ∧ x < A + n
      · rw [if_pos q]
      · rw [if_neg q]; exact hu x (by omega)
    rw [e3]
/-- at the end of the pattern -/
theorem s_ed274 {seen any mk : Bool} {mark : Int} {u g : Nat → Int} (hm : Mo c m) (hu : u 257 = r 257) (k0 : g 38 = 0) (e49 : g 49 = b2 seen) (e51 : g 51 = b2 any) :
    fX13_doEdit_274 m (jI (r 257)) (MS c m g (erw r u mk mark) s t) = some (MS c m g (if mk = true ∧ mark ≠ -1 then va_up (va_up u 264 (if any then (if seen then 1 else 2) else 0)) 257 mark else va_up u 264 (if any then (if seen then 1 else 2) else 0)) s t) := by
  have fin : ∀ z : Int, va_up (erw r u mk mark) 264 z = if mk = true ∧ mark ≠ -1 then va_up (va_up u 264 z) 257 mark else va_up u 264 z := by
    intro z
    rw [erw_up (by omega)]
    unfold erw
    by_cases q : mk = true ∧ mark ≠ -1
    · rw [if_pos q, if_pos q]
    · (rw [if_neg q, if_neg q]; (try rw [← hu]); rw [← va_up_ne u (show (257 : Nat) ≠ 264 by omega) (v := z), up_id])
  unfold fX13_doEdit_274 fX13_doEdit_311
  ((try rw [s_gI hm]); rw [o_ob]; (try rw [k0]); rw [if_pos (by decide)]; (try rw [s_R3 hm]); rw [o_ob]; (try rw [s_gI hm]); rw [o_ob]; (try rw [e51]); (try rw [show (264 : Int32) = jI 264 from rfl]))
  cases any with
  | false =>
    (rw [if_pos (show jI (b2 false) = 0 from rfl)]; (try rw [show (0 : Int32) = jI 0 from rfl]); rw [s_q3 hm (by omega) (by omega), o_ob]; (try rw [show (264 : Int).toNat = 264 from rfl]); rw [fin])
    rfl
  | true =>
    (rw [if_neg (show ¬ jI (b2 true) = 0 by decide)]; (try rw [s_gI hm]); rw [o_ob]; (try rw [e49]))
    cases seen with
    | false =>
      (rw [if_pos (show jI (b2 false) = 0 from rfl)]; (try rw [show (2 : Int32) = jI 2 from rfl]); rw [s_q3 hm (by omega) (by omega), o_ob]; (try rw [show (264 : Int).toNat = 264 from rfl]); rw [fin])
      rfl
    | true =>
      (rw [if_neg (show ¬ jI (b2 true) = 0 by decide)]; (try rw [show (1 : Int32) = jI 1 from rfl]); rw [s_q3 hm (by omega) (by omega), o_ob]; (try rw [show (264 : Int).toNat = 264 from rfl]); rw [fin])
      rfl
/-- how it stands at a byte of the pattern -/
def EI (f r : Nat → Int) (A n : Nat) (src0 : Int) (mk : Bool) (i : Nat) (x : (Nat → Int) × (Nat → Int)) : Prop :=
  ∃ u src waits seen any mark, edS r A src0 i = .inr (u, src, waits, seen, any, mark) ∧ x.2 = erw r u mk mark ∧ x.1 38 = 0 ∧ x.1 48 = r A ∧ x.1 46 = src ∧ x.1 47 = waits ∧ x.1 49 = b2 seen ∧ x.1 51 = b2 any ∧ Fe f x.1
theorem s_ed168 {A n i : Nat} {d fill v : Int} {seen above any mk : Bool} {g ρ : Nat → Int} (k80 : Nat → Int32 → Int32 → Int32 → Hp → Option Hp) {x2 : Int32} (hm : Mo c m) (hp : A + n ≤ 256) (hi : i < n) (e34 : g 34 = (A : Int)) (v1 : 0 ≤ v) (v2 : v < 256) (d1 : 0 ≤ d) (d2 : d < 16) (e48 : g 48 = fill) (e49 : g 49 = b2 seen) (e50 : g 50 = b2 above) (e51 : g 51 = b2 any) :
    ∃ g', fX13_doEdit_168 k80 m (jI (b2 mk)) x2 (jI (i : Int)) (jI v) (jI d) (MS c m g ρ s t) = k80 m (jI (b2 mk)) x2 (jI ((i + 1 : Nat) : Int)) (MS c m g' (va_up ρ (A + i) (if d = 0 ∧ seen = false then fill else 240 + d)) s t) ∧ (∀ j, j ≠ 49 → j ≠ 51 → g' j = g j) ∧ g' 49 = b2 (!above && (seen || d != 0 || v == 33)) ∧ g' 51 = b2 (any || d != 0) := by
  have h186 : ∀ q : Bool, ∃ g', fX13_doEdit_186 k80 m (jI (b2 mk)) x2 (jI (i : Int)) (jI v) (jI d) (jI (b2 q)) m (MS c m g ρ s t) = k80 m (jI (b2 mk)) x2 (jI ((i + 1 : Nat) : Int)) (MS c m g' (va_up ρ (A + i) (if d = 0 ∧ seen = false then fill else 240 + d)) s t) ∧ (∀ j, j ≠ 49 → j ≠ 51 → g' j = g j) ∧ g' 49 = b2 (!above && (seen || d != 0 || v == 33)) ∧ g' 51 = b2 q := by
    intro q
    obtain ⟨g', y1, y2, y3⟩ := s_edited (f := va_up g 51 (b2 q)) (r := ρ) (s := s) (t := t) (v := v) (d := d) (fill := fill) (seen := seen) (above := above) hm v1 v2 d1 d2 (by rw [va_up_ne _ _ (by omega)]; exact e48) (by rw [va_up_ne _ _ (by omega)]; exact e49) (by rw [va_up_ne _ _ (by omega)]; exact e50)
    unfold fX13_doEdit_186
    (rw [s_pZb hm, o_ob]; (try rw [s_R3 hm]); rw [o_ob]; (try rw [s_gI hm]); rw [o_ob]; (try rw [va_up_ne _ _ (show (34 : Nat) ≠ 51 by omega)]); (try rw [e34]); (try rw [y1]); rw [o_ob2]; (try rw [jI_add]); rw [s_q3 hm (by omega) (by omega), o_ob, o_lt]; (try rw [show (1 : Int32) = jI 1 from rfl]); (try rw [jI_add]); (try rw [show ((A : Int) + (i : Int)).toNat = A + i by omega]))
    exact ⟨g', rfl, fun j a b => by rw [y2 j a, va_up_ne _ _ b], y3, by rw [y2 _ (by omega), va_up_self]⟩
  unfold fX13_doEdit_168 fX13_doEdit_181
  ((try rw [s_gI hm]); rw [o_ob]; (try rw [e51]))
  cases any with
  | true =>
    rw [if_neg (show ¬ jI (b2 true) = 0 by decide), show (true || d != 0) = true from rfl]
    exact h186 true
  | false =>
    rw [if_pos (show jI (b2 false) = 0 from rfl)]
    by_cases q : d = 0
    · rw [if_pos (by rw [q]; rfl), show (false || d != 0) = false by rw [q]; rfl]
      exact h186 false
    · rw [if_neg (by first | ((simp (disch := omega) only [jI_lit, jI_neg, jI_add, jI_sub, jI_mul, jI_lt, jI_le, jI_eq, jL_lit, jL_lt, jL_le, jL_eq]) <;> omega) | omega), show (false || d != 0) = true by
        have : (d != 0) = true := by simpa using q
        rw [this]; rfl]
      exact h186 true
theorem s_ed80 {A n : Nat} {src0 : Int} {mk : Bool} (hm : Mo c m) (hb : Byt r) (e34 : f 34 = (A : Int)) (e35 : f 35 = (n : Int)) (s1 : -2147483648 ≤ src0) (s2 : src0 < 2147483648) (hp : A + n ≤ 256) (hn : 1 ≤ n) (hn2 : n ≤ 64) (hpat : ∀ k, k < n → s 22 k = r (A + k)) (x0 : (Nat → Int) × (Nat → Int)) (h0 : EI f r A n src0 mk 0 x0) :
    ∃ g, lp (fun _ _ _ _ _ => none) fX13_doEdit_80 FU m (jI (b2 mk)) (jI (r 257)) (jI 0) (MS c m x0.1 x0.2 s t) = some (MS c m g (prE r A n src0 mk).1 s t) ∧ Fe f g ∧ FtR g (prE r A n src0 mk).2 := by
  have key := lp_sr (z := fun _ _ _ _ _ => none) (S := fX13_doEdit_80) (β := Hp) (ev := fun k (i : Nat) (x : (Nat → Int) × (Nat → Int)) => k m (jI (b2 mk)) (jI (r 257)) (jI (i : Int)) (MS c m x.1 x.2 s t)) (hi := n) (Inv := fun i x => EI f r A n src0 mk i x) (Post := fun q => ∃ g, q = some (MS c m g (prE r A n src0 mk).1 s t) ∧ Fe f g ∧ FtR g (prE r A n src0 mk).2) ?_ ?_ FU 0 x0 (by omega) (FU_lt (by omega)) h0
  · exact key
  · intro i x hi hinv k
    obtain ⟨u, src, waits, seen, any, mark, hS, xr, k0, e48, e46, e47, e49, e51, hfe⟩ := hinv
    obtain ⟨g, ρ⟩ := x
    have xr : ρ = erw r u mk mark := xr
    subst xr
    have z38 : g 38 = 0 := k0
    have z48 : g 48 = r A := e48
    have z46 : g 46 = src := e46
    have z47 : g 47 = waits := e47
    have z49 : g 49 = b2 seen := e49
    have z51 : g 51 = b2 any := e51
    have hfe : Fe f g := hfe
    obtain ⟨o1, ⟨o2, o3⟩, o4⟩ := edS_ok hb hp hn i (by omega) _ hS
    obtain ⟨w1, w2, w3⟩ := edS_out hb s1 s2 hp hn i (by omega) _ hS
    have o1 : Byt u := o1
    have o2 : -1 ≤ waits := o2
    have o3 : waits < 10 := o3
    have w1 : ∀ k, k < A ∨ A + n ≤ k → u k = r k := w1
    have w2 : -2147483648 ≤ src := w2
    have w3 : src < 2147483648 := w3
    have g34 : g 34 = (A : Int) := (hfe 34 (by omega)).trans e34
    have g35 : g 35 = (n : Int) := (hfe 35 (by omega)).trans e35
    have rb := hb A (by omega)
    have ub := o1 (A + i) (by omega)
    have hu257 : u 257 = r 257 := w1 257 (by omega)
    have hbρ : Byt (erw r u mk mark) := Byt_hi o1 (by omega) _
    have nx : edS r A src0 (i + 1) = edB (r A) (A + i) (u, src, waits, seen, any, mark) := by rw [edS_s, hS]
    show (∃ g', fX13_doEdit_80 k m (jI (b2 mk)) (jI (r 257)) (jI (i : Int)) (MS c m g (erw r u mk mark) s t) = _ ∧ _) ∨ ∃ s', EI f r A n src0 mk (i + 1) s' ∧ fX13_doEdit_80 k m (jI (b2 mk)) (jI (r 257)) (jI (i : Int)) (MS c m g (erw r u mk mark) s t) = _
    unfold fX13_doEdit_80
    ((try rw [s_gI hm]); rw [o_ob]; (try rw [g35]); rw [if_neg (by first | ((simp (disch := omega) only [jI_lit, jI_neg, jI_add, jI_sub, jI_mul, jI_lt, jI_le, jI_eq, jL_lit, jL_lt, jL_le, jL_eq]) <;> omega) | omega)]; (try rw [s_gI hm]); rw [o_ob]; (try rw [z38]); rw [if_pos (by decide)]; (try rw [s_R3 hm]); rw [o_ob]; (try rw [s_gI hm]); rw [o_ob]; (try rw [g34]); (try rw [jI_add]); rw [s_a3 hm (by omega) (by omega), o_ob]; (try rw [show ((A : Int) + (i : Int)).toNat = A + i by omega]); rw [erw_lo (by omega)])
    by_cases c1 : u (A + i) = 32 ∨ u (A + i) = 33
    · suffices M : (∃ g', fX13_doEdit_122 k fX13_doEdit_274 m (jI (b2 mk)) (jI (r 257)) (jI (i : Int)) (jI (u (A + i))) (MS c m g (erw r u mk mark) s t) = some (MS c m g' (prE r A n src0 mk).1 s t) ∧ Fe f g' ∧ FtR g' (prE r A n src0 mk).2) ∨ ∃ s', EI f r A n src0 mk (i + 1) s' ∧ fX13_doEdit_122 k fX13_doEdit_274 m (jI (b2 mk)) (jI (r 257)) (jI (i : Int)) (jI (u (A + i))) (MS c m g (erw r u mk mark) s t) = k m (jI (b2 mk)) (jI (r 257)) (jI ((i + 1 : Nat) : Int)) (MS c m s'.1 s'.2 s t) by
        by_cases y : u (A + i) = 32
        · rw [if_pos (show jI (u (A + i)) = 32 by rw [y]; rfl)]
          exact M
        · have y2 : ¬ jI (u (A + i)) = 32 := fun e => y (by rw [show (32 : Int32) = jI 32 from rfl, jI_eq (by omega) (by omega) (by omega) (by omega)] at e; exact e)
          have y3 : jI (u (A + i)) = 33 := by rw [show u (A + i) = 33 by omega]; rfl
          rw [if_neg y2, if_pos y3]
          exact M
      have eB : edB (r A) (A + i) (u, src, waits, seen, any, mark) = match edD u src waits with
          | .inl (c, x) => .inl (c, x, u)
          | .inr (d, above, src', waits') =>
            .inr (va_up u (A + i) (if d = 0 ∧ seen = false then r A else 240 + d), src', waits', !above && (seen || d != 0 || u (A + i) == 33), any || d != 0, if d ≠ 0 ∧ seen = false then ((A + i : Nat) : Int) else mark) := by
        unfold edB
        exact if_pos c1
      have huρ : ∀ k, k < 256 → erw r u mk mark k = u k := fun k hk => erw_lo (by omega)
      unfold fX13_doEdit_122
      cases hD : edD u src waits with
      | inl a =>
        obtain ⟨c', xx⟩ := a
        rw [hD] at eB
        have eB : edS r A src0 (i + 1) = .inl (c', xx, u) := nx.trans eB
        have eN : edS r A src0 n = .inl (c', xx, u) := by
          have := edS_stay eB (n - (i + 1))
          rw [show i + 1 + (n - (i + 1)) = n by omega] at this
          exact this
        obtain ⟨g', y1, y2, y3, y4⟩ := s_takeI (s := s) (t := t) hm hbρ huρ z38 z46 z47 w2 w3 o2 o3 hD
        left
        ((try rw [y1]); rw [o_ob2]; (try rw [s_gI hm]); rw [o_ob, if_neg (by first | ((simp (disch := omega) only [jI_lit, jI_neg, jI_add, jI_sub, jI_mul, jI_lt, jI_le, jI_eq, jL_lit, jL_lt, jL_le, jL_eq]) <;> omega) | omega), s_ed274f (i := i) hm hp hn2 w1 (by rw [y2 _ (by omega)]; exact g34) (by rw [y2 _ (by omega)]; exact g35) y3.1 y3.2 hpat])
        have eP : prE r A n src0 mk = (r, some (c', 1, xx, 1, (if c' = 4 then 2 * xx else -1), if c' = 4 then u xx.toNat / 16 else 0)) := by unfold prE; rw [eN]
        rw [eP]
        exact ⟨g', rfl, fun j hj => (y2 j hj).trans (hfe j hj), y4⟩
      | inr a =>
        obtain ⟨d, above, src', waits'⟩ := a
        have dr := edD_r o1 o2 o3 hD
        rw [hD] at eB
        have eB : edS r A src0 (i + 1) = .inr (va_up u (A + i) (if d = 0 ∧ seen = false then r A else 240 + d), src', waits', !above && (seen || d != 0 || u (A + i) == 33), any || d != 0, if d ≠ 0 ∧ seen = false then ((A + i : Nat) : Int) else mark) := nx.trans eB
        obtain ⟨g', y1, y2, y3, y4, y5⟩ := s_takeR (s := s) (t := t) hm hbρ huρ z38 z46 z47 w2 w3 o2 o3 hD
        right
        ((try rw [y1]); rw [o_ob2]; (try rw [s_gI hm]); rw [o_ob, y2 _ (by omega)]; (try rw [z38]); rw [if_pos (by decide)])
        have fin : ∀ (ρ : Nat → Int), va_up ρ (A + i) (if d = 0 ∧ seen = false then r A else 240 + d) = erw r (va_up u (A + i) (if d = 0 ∧ seen = false then r A else 240 + d)) mk (if d ≠ 0 ∧ seen = false then ((A + i : Nat) : Int) else mark) → ∃ s', EI f r A n src0 mk (i + 1) s' ∧ fX13_doEdit_168 k m (jI (b2 mk)) (jI (r 257)) (jI (i : Int)) (jI (u (A + i))) (jI d) (MS c m g' ρ s t) = k m (jI (b2 mk)) (jI (r 257)) (jI ((i + 1 : Nat) : Int)) (MS c m s'.1 s'.2 s t) := by
          intro ρ hρ
          obtain ⟨g2, z1, z2, z3, z4⟩ := s_ed168 (s := s) (t := t) (A := A) (n := n) (i := i) (d := d) (fill := r A) (v := u (A + i)) (seen := seen) (above := above) (any := any) (mk := mk) (g := g') (ρ := ρ) (x2 := jI (r 257)) k hm hp hi (by rw [y2 _ (by omega)]; exact g34) ub.1 ub.2 dr.1 (by omega) (by rw [y2 _ (by omega)]; exact z48) (by rw [y2 _ (by omega)]; exact z49) y5 (by rw [y2 _ (by omega)]; exact z51)
          refine ⟨(g2, _), ⟨_, _, _, _, _, _, eB, hρ, ?_, ?_, ?_, ?_, z3, z4, ?_⟩, z1⟩
          · show g2 38 = 0
            rw [z2 _ (by omega) (by omega), y2 _ (by omega)]; exact z38
          · show g2 48 = r A
            rw [z2 _ (by omega) (by omega), y2 _ (by omega)]; exact z48
          · show g2 46 = src'
            rw [z2 _ (by omega) (by omega)]; exact y3
          · show g2 47 = waits'
            rw [z2 _ (by omega) (by omega)]; exact y4
          · intro j hj
            show g2 j = f j
            rw [z2 j (by omega) (by omega), y2 j (by omega)]
            exact hfe j hj
        have same : (¬ (mk = true ∧ d ≠ 0 ∧ seen = false)) → ∃ s', EI f r A n src0 mk (i + 1) s' ∧ fX13_doEdit_168 k m (jI (b2 mk)) (jI (r 257)) (jI (i : Int)) (jI (u (A + i))) (jI d) (MS c m g' (erw r u mk mark) s t) = k m (jI (b2 mk)) (jI (r 257)) (jI ((i + 1 : Nat) : Int)) (MS c m s'.1 s'.2 s t) := by
          intro q
          refine fin _ ?_
          rw [erw_up (by omega)]
          unfold erw
          cases mk with
          | false => rfl
          | true => rw [if_neg (fun x : d ≠ 0 ∧ seen = false => q ⟨rfl, x.1, x.2⟩)]
        cases mk with
        | false =>
          rw [if_pos (show jI (b2 false) = 0 from rfl)]
          exact same (fun x => absurd x.1 (by decide))
        | true =>
          rw [if_neg (show ¬ jI (b2 true) = 0 by decide)]
          by_cases q : d = 0
          · rw [if_pos (by rw [q]; rfl)]
            exact same (fun x => x.2.1 q)
          · (rw [if_neg (by first | ((simp (disch := omega) only [jI_lit, jI_neg, jI_add, jI_sub, jI_mul, jI_lt, jI_le, jI_eq, jL_lit, jL_lt, jL_le, jL_eq]) <;> omega) | omega)]; (try rw [s_gI hm]); rw [o_ob, y2 _ (by omega)]; (try rw [z49]))
            cases seen with
            | true =>
              rw [if_neg (show ¬ jI (b2 true) = 0 by decide)]
              exact same (fun x => absurd x.2.2 (by decide))
            | false =>
              (rw [if_pos (show jI (b2 false) = 0 from rfl)]; (try rw [s_R3 hm]); rw [o_ob]; (try rw [s_gI hm]); rw [o_ob, y2 _ (by omega)]; (try rw [g34]); (try rw [jI_add]); (try rw [show (257 : Int32) = jI 257 from rfl]); rw [s_q3 hm (by omega) (by omega), o_ob]; (try rw [show (257 : Int).toNat = 257 from rfl]))
              refine fin _ ?_
              unfold erw
              ((try rw [upup]); rw [if_pos (⟨q, rfl⟩ : d ≠ 0 ∧ false = false), if_pos (show true = true ∧ ((A + i : Nat) : Int) ≠ -1 from ⟨rfl, by omega⟩), up_sw _ _ _ (show (257 : Nat) ≠ A + i by omega)])
              rfl
    · have n32 : ¬ jI (u (A + i)) = 32 := fun e => c1 (Or.inl (by rw [show (32 : Int32) = jI 32 from rfl, jI_eq (by omega) (by omega) (by omega) (by omega)] at e; exact e))
      have n33 : ¬ jI (u (A + i)) = 33 := fun e => c1 (Or.inr (by rw [show (33 : Int32) = jI 33 from rfl, jI_eq (by omega) (by omega) (by omega) (by omega)] at e; exact e))
      right
      rw [if_neg n32, if_neg n33]
      by_cases c2 : u (A + i) = 34
      · have eB : edS r A src0 (i + 1) = .inr (va_up u (A + i) (r A), src, waits, false, false, mark) := by
          rw [nx]
          unfold edB
          show (if _ then _ else _) = _
          rw [if_neg c1]
          exact if_pos c2
        (rw [if_pos (by rw [c2]; rfl)]; (try rw [s_R3 hm]); rw [o_ob]; (try rw [s_gI hm]); rw [o_ob]; (try rw [s_gI hm]); rw [o_ob]; (try rw [g34]); (try rw [z48]); (try rw [jI_add]); rw [s_q3 hm (by omega) (by omega), o_ob]; (try rw [show (0 : Int32) = jI 0 from rfl]); rw [s_pZ0 hm, o_ob, s_pZ0 hm, o_ob, o_lt]; (try rw [show (1 : Int32) = jI 1 from rfl]); (try rw [jI_add]); (try rw [show ((A : Int) + (i : Int)).toNat = A + i by omega]); rw [erw_up (show A + i ≠ 257 by omega)])
        refine ⟨(va_up (va_up g 49 0) 51 0, erw r (va_up u (A + i) (r A)) mk mark), ⟨_, _, _, _, _, _, eB, rfl, ?_, ?_, ?_, ?_, ?_, ?_, ?_⟩, rfl⟩
        · show va_up (va_up g 49 0) 51 0 38 = 0
          rw [va_up_ne _ _ (by omega), va_up_ne _ _ (by omega)]; exact z38
        · show va_up (va_up g 49 0) 51 0 48 = r A
          rw [va_up_ne _ _ (by omega), va_up_ne _ _ (by omega)]; exact z48
        · show va_up (va_up g 49 0) 51 0 46 = src
          rw [va_up_ne _ _ (by omega), va_up_ne _ _ (by omega)]; exact z46
        · show va_up (va_up g 49 0) 51 0 47 = waits
          rw [va_up_ne _ _ (by omega), va_up_ne _ _ (by omega)]; exact z47
        · show va_up (va_up g 49 0) 51 0 49 = b2 false
          rw [va_up_ne _ _ (by omega), va_up_self]; rfl
        · show va_up (va_up g 49 0) 51 0 51 = b2 false
          rw [va_up_self]; rfl
        · intro j hj
          show va_up (va_up g 49 0) 51 0 j = f j
          rw [va_up_ne _ _ (by omega), va_up_ne _ _ (by omega)]; exact hfe j hj
      · have n34 : ¬ jI (u (A + i)) = 34 := fun e => c2 (by rw [show (34 : Int32) = jI 34 from rfl, jI_eq (by omega) (by omega) (by omega) (by omega)] at e; exact e)
        have eB : edS r A src0 (i + 1) = .inr ((if seen then u else va_up u (A + i) (r A)), src, waits, seen, any, mark) := by
          rw [nx]
          unfold edB
          show (if _ then _ else _) = _
          rw [if_neg c1]
          exact if_neg c2
        (rw [if_neg n34]; (try rw [s_gI hm]); rw [o_ob]; (try rw [z49]))
        cases seen with
        | true =>
          (rw [if_neg (show ¬ jI (b2 true) = 0 by decide), o_lt]; (try rw [show (1 : Int32) = jI 1 from rfl]); (try rw [jI_add]))
          exact ⟨(g, erw r u mk mark), ⟨_, _, _, _, _, _, eB, rfl, z38, z48, z46, z47, z49, z51, hfe⟩, rfl⟩
        | false =>
          (rw [if_pos (show jI (b2 false) = 0 from rfl)]; (try rw [s_R3 hm]); rw [o_ob]; (try rw [s_gI hm]); rw [o_ob]; (try rw [s_gI hm]); rw [o_ob]; (try rw [g34]); (try rw [z48]); (try rw [jI_add]); rw [s_q3 hm (by omega) (by omega), o_ob, o_lt]; (try rw [show (1 : Int32) = jI 1 from rfl]); (try rw [jI_add]); (try rw [show ((A : Int) + (i : Int)).toNat = A + i by omega]); rw [erw_up (show A + i ≠ 257 by omega)])
          exact ⟨(g, erw r (va_up u (A + i) (r A)) mk mark), ⟨_, _, _, _, _, _, eB, rfl, z38, z48, z46, z47, z49, z51, hfe⟩, rfl⟩
  · intro x hinv k
    obtain ⟨u, src, waits, seen, any, mark, hS, xr, k0, e48, e46, e47, e49, e51, hfe⟩ := hinv
    obtain ⟨w1, w2, w3⟩ := edS_out hb s1 s2 hp hn n (by omega) _ hS
    have w1 : ∀ k, k < A ∨ A + n ≤ k → u k = r k := w1
    obtain ⟨g, ρ⟩ := x
    have xr : ρ = erw r u mk mark := xr
    subst xr
    have g35 : g 35 = (n : Int) := (hfe 35 (by omega)).trans e35
    show ∃ g', fX13_doEdit_80 k m (jI (b2 mk)) (jI (r 257)) (jI (n : Int)) (MS c m g (erw r u mk mark) s t) = _ ∧ _
    unfold fX13_doEdit_80
    have eP : prE r A n src0 mk = ((if mk = true ∧ mark ≠ -1 then va_up (va_up u 264 (if any then (if seen then 1 else 2) else 0)) 257 mark else va_up u 264 (if any then (if seen then 1 else 2) else 0)), none) := by unfold prE; rw [hS]
    ((try rw [s_gI hm]); rw [o_ob]; (try rw [g35]); rw [if_pos (by first | ((simp (disch := omega) only [jI_lit, jI_neg, jI_add, jI_sub, jI_mul, jI_lt, jI_le, jI_eq, jL_lit, jL_lt, jL_le, jL_eq]) <;> omega) | omega), s_ed274 hm (w1 257 (by omega)) k0 e49 e51, eP])
    exact ⟨g, rfl, hfe, k0⟩
theorem s_doEdit {A n : Nat} {src0 : Int} {mk : Bool} (hm : Mo c m) (hb : Byt r) (h0 : f 38 = 0) (e34 : f 34 = (A : Int)) (e35 : f 35 = (n : Int)) (e36 : f 36 = src0) (s1 : -2147483648 ≤ src0) (s2 : src0 < 2147483648) (hp : A + n ≤ 256) (hn : 1 ≤ n) (hn2 : n ≤ 64) :
    ∃ g pt, fX13_doEdit m (jI (b2 mk)) (MS c m f r s t) = some (MS c m g (prE r A n src0 mk).1 (va_up s 22 pt) t) ∧ Fe f g ∧ FtR g (prE r A n src0 mk).2 := by
  unfold fX13_doEdit
  (rw [s_gd _ hm]; (try rw [s_R3 hm]); rw [o_ob]; (try rw [show (257 : Int32) = jI 257 from rfl]); rw [s_a3 hm (by omega) (by omega), o_ob]; (try rw [show (257 : Int).toNat = 257 from rfl]))
  have key := lp_up (z := fun _ _ _ _ _ => none) (S := fX13_doEdit_11) (β := Hp) (fun k (i : Nat) => k m (jI (b2 mk)) (jI (r 257)) (jI (i : Int)) (MS c m f r (va_up s 22 (fun k => if k < i then r (A + k) else s 22 k)) t)) (E := lp (fun _ _ _ _ _ => none) fX13_doEdit_80 FU m (jI (b2 mk)) (jI (r 257)) (jI 0) (MS c m (va_up (va_up (va_up (va_up (va_up f 48 (r A)) 46 src0) 47 (-1)) 49 0) 51 0) r (va_up s 22 (fun k => if k < n then r (A + k) else s 22 k)) t)) (M := n) ?_ ?_ FU 0 (by omega) (FU_lt (by omega))
  · rw [show (fun k => if k < 0 then r (A + k) else s 22 k) = s 22 from up_0 (fun k => r (A + k)) (s 22), up_id] at key
    have key : lp (fun _ _ _ _ _ => none) fX13_doEdit_11 FU m (jI (b2 mk)) (jI (r 257)) 0 (MS c m f r s t) = _ := key
    obtain ⟨g0, hg0⟩ : ∃ g0, g0 = va_up (va_up (va_up (va_up (va_up f 48 (r A)) 46 src0) 47 (-1)) 49 0) 51 0 := ⟨_, rfl⟩
    have gn : ∀ j, j ≠ 48 → j ≠ 46 → j ≠ 47 → j ≠ 49 → j ≠ 51 → g0 j = f j := fun j a1 a2 a3 a4 a5 => by ((try rw [hg0]); (try rw [va_up_ne _ _ a5]); (try rw [va_up_ne _ _ a4]); (try rw [va_up_ne _ _ a3]); (try rw [va_up_ne _ _ a2]); (try rw [va_up_ne _ _ a1]))
    rw [← hg0] at key
    rw [key]
    have main := s_ed80 (f := f) (r := r) (s := va_up s 22 (fun k => if k < n then r (A + k) else s 22 k)) (t := t) (src0 := src0) (mk := mk) hm hb e34 e35 s1 s2 hp hn hn2 (fun k hk => by rw [va_up_self, if_pos hk]) (g0, r) ⟨r, src0, -1, false, false, -1, rfl, ?_, ?_, ?_, ?_, ?_, ?_, ?_, ?_⟩
    · obtain ⟨g, y1, y2, y3⟩ := main
      exact ⟨g, _, y1, y2, y3⟩
    · show r = erw r r mk (-1)
      unfold erw
      rw [if_neg (fun x => x.2 rfl), up_id]
    · exact (gn _ (by omega) (by omega) (by omega) (by omega) (by omega)).trans h0
    · show g0 48 = r A
      rw [hg0]; simp (disch := omega) only [va_up_self, va_up_ne]
    · show g0 46 = src0
      rw [hg0]; simp (disch := omega) only [va_up_self, va_up_ne]
    · show g0 47 = -1
      rw [hg0]; simp (disch := omega) only [va_up_self, va_up_ne]
    · show g0 49 = b2 false
      rw [hg0]; simp (disch := omega) only [va_up_self, va_up_ne]; rfl
    · show g0 51 = b2 false
      rw [hg0]; simp (disch := omega) only [va_up_self, va_up_ne]; rfl
    · exact fun j hj => gn j (by omega) (by omega) (by omega) (by omega) (by omega)
  · intro i hi k
    unfold fX13_doEdit_11
    ((try rw [s_gI hm]); rw [o_ob]; (try rw [e35]); rw [if_neg (by first | ((simp (disch := omega) only [jI_lit, jI_neg, jI_add, jI_sub, jI_mul, jI_lt, jI_le, jI_eq, jL_lit, jL_lt, jL_le, jL_eq]) <;> omega) | omega)]; (try rw [s_R45 hm]); rw [o_ob]; (try rw [s_R3 hm]); rw [o_ob]; (try rw [s_gI hm]); rw [o_ob]; (try rw [e34]); (try rw [jI_add]); rw [s_a3 hm (by omega) (by omega), o_ob, s_q22 hm (by omega) (by omega), o_ob, o_lt]; (try rw [va_up_self]); (try rw [upup]); (try rw [show ((A : Int) + (i : Int)).toNat = A + i by omega]); (try rw [show ((i : Int)).toNat = i by omega]); rw [up_lt (fun k => r (A + k)) (s 22) i]; (try rw [show (1 : Int32) = jI 1 from rfl]); (try rw [jI_add]))
    rfl
  · intro k
    have rb := hb A (by omega)
    unfold fX13_doEdit_11
    ((try rw [s_gI hm]); rw [o_ob]; (try rw [e35]); rw [if_pos (by first | ((simp (disch := omega) only [jI_lit, jI_neg, jI_add, jI_sub, jI_mul, jI_lt, jI_le, jI_eq, jL_lit, jL_lt, jL_le, jL_eq]) <;> omega) | omega)]; (try rw [s_R3 hm]); rw [o_ob]; (try rw [s_gI hm]); rw [o_ob]; (try rw [e34]); rw [s_a3 hm (by omega) (by omega), o_ob]; (try rw [show ((A : Int)).toNat = A by omega]); rw [s_pI hm, o_ob]; (try rw [s_gI hm]); rw [o_ob]; (try rw [va_up_ne _ _ (show (36 : Nat) ≠ 48 by omega)]); (try rw [e36]); rw [s_pI hm, o_ob]; (try rw [show (-1 : Int32) = jI (-1) from rfl]); rw [s_pI hm, o_ob]; (try rw [show (0 : Int32) = jI 0 from rfl]); rw [s_pZ0 hm, o_ob, s_pZ0 hm, o_ob])
end REE
