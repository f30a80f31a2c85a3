section RUJ
variable {c : MC} {m : Nat} {f r : Nat → Int} {s t : SI2} {n : Nat} {tx : Nat → Int}
theorem w_worth {z : Int} (h : isHx z = true) (z1 : 0 ≤ z) (z2 : z < 256) : fX13_worthOf (jI z) = some (jI (hxv z)) ∧ 0 ≤ hxv z ∧ hxv z < 16 := by
  unfold fX13_worthOf hxv
  rw [w_isDg (by omega) z2, o_ob]
  unfold isHx at h
  cases e : isDg z with
  | true =>
    have d := e
    unfold isDg at d
    have d := of_decide_eq_true d
    (rw [if_neg (show ¬ jI (b2 true) = 0 by decide), if_pos rfl]; (try rw [show (48 : Int32) = jI 48 from rfl]); (try rw [jI_sub]))
    exact ⟨rfl, by omega, by omega⟩
  | false =>
    rw [e, Bool.false_or] at h
    have d := of_decide_eq_true h
    (rw [if_pos (show jI (b2 false) = 0 from rfl), if_neg (show ¬ false = true by decide), if_pos d]; (try rw [show (97 : Int32) = jI 97 from rfl]); (try rw [show (10 : Int32) = jI 10 from rfl]); (try rw [jI_sub]); (try rw [jI_add]))
    refine ⟨?_, by omega, by omega⟩
    congr 2
    omega
theorem j_hf {k : Nat} (hk : k < 100000) : jI (k : Int) / (2 : Int32) = jI ((k / 2 : Nat) : Int) := by
  rw [show (2 : Int32) = jI 2 from rfl, jI_div (by omega) (by omega) (by omega) (by omega)]
  congr 1
theorem j_rm {k : Nat} (hk : k < 100000) : irm (jI (k : Int)) (2 : Int32) = jI ((k % 2 : Nat) : Int) := by
  rw [show (2 : Int32) = jI 2 from rfl, jI_rem (by omega) (by omega) (by omega) (by omega)]
  congr 1
theorem j_rm16 {k : Int} (h0 : 0 ≤ k) (hk : k < 100000) : irm (jI k) (16 : Int32) = jI (k % 16) := by
  rw [show (16 : Int32) = jI 16 from rfl, jI_rem (by omega) (by omega) (by omega) (by omega)]
/-- nothing but the second half of array 12 has changed -/
def Lw12 (s s' : SI2) : Prop := (∀ j, j ≠ 12 → s' j = s j) ∧ ∀ i, i < 256 → s' 12 i = s 12 i
theorem Lw12_rf (s : SI2) : Lw12 s s := ⟨fun _ _ => rfl, fun _ _ => rfl⟩
/-- what is laid stands in the second half of array 12 -/
def LdR (s : SI2) (Q : Nat → Int) : Prop := Byz Q ∧ ∀ j, j < 256 → s 12 (256 + j) = Q j
theorem TxR_12 {a : Nat → Int} (ht : TxR s tx n) : TxR (va_up s 12 a) tx n := ⟨ht.1, fun y hy => by rw [va_up_ne _ _ (by omega)]; exact ht.2 y hy⟩
theorem s_readHex {T : TK} {p : Nat} {Q : Nat → Int} (hm : Mo c m) (ht : TxR s tx n) (h : LvR f tx n T) (h3 : T.1 = 3) (hp : p < 256) (hQ : LdR s Q) : ∃ f' s', fX13_readHex m (jI (p : Int)) (MS c m f r s t) = some (MS c m f' r s' t) ∧ SmR f' tx n (mhx tx n T p Q).1 ∧ FrP f f' ∧ Lw12 s s' ∧ ∀ T', (mhx tx n T p Q).1 = .inr T' → LdR s' (mhx tx n T p Q).2 := by
  obtain ⟨a1, a2, a3, a4, a5, a6, a7, a8⟩ := id h
  have tr := TOK_r a7
  obtain ⟨t1, t2⟩ := tr.2.2.2.2.2.2.1 h3
  have te := tr.2.1
  have hn := ht.1
  obtain ⟨S, hS⟩ : ∃ S, S = T.2.1 := ⟨_, rfl⟩
  obtain ⟨E, hE⟩ : ∃ E, E = T.2.2 := ⟨_, rfl⟩
  obtain ⟨g, hg⟩ : ∃ g, g = E - S - 1 := ⟨_, rfl⟩
  rw [← hS] at a3 t1 t2
  rw [← hE] at a4 t1 t2 te
  have eg : jI (E : Int) - jI (S : Int) - 1 = jI (g : Int) := by ((try rw [show (1 : Int32) = jI 1 from rfl]); (try rw [jI_sub]); (try rw [jI_sub])); congr 1; omega
  have em : mhx tx n T p Q = if g % 2 ≠ 0 ∨ 256 < p + g / 2 then (.inl (2, (S : Nat)), Q) else (.inr (tok tx n T.2.2), hxQ tx Q p S g) := by
    unfold mhx
    ((try rw [← hS]); (try rw [← hE]); (try rw [← hg]))
  -- a fault
  have bad : (g % 2 ≠ 0 ∨ 256 < p + g / 2) → ∃ f' s', fX13_readHex_30 (lp (fun _ _ _ _ _ => none) fX13_readHex_37 FU) m (jI (p : Int)) (jI (g : Int)) (MS c m f r s t) = some (MS c m f' r s' t) ∧ SmR f' tx n (mhx tx n T p Q).1 ∧ FrP f f' ∧ Lw12 s s' ∧ ∀ T', (mhx tx n T p Q).1 = .inr T' → LdR s' (mhx tx n T p Q).2 := by
    intro q
    rw [if_pos q] at em
    obtain ⟨f1, w1, w2, w3⟩ := s_wrong0 (r := r) (s := s) (t := t) (k := 2) hm h (by omega) (by omega)
    rw [← hS] at w2
    have g23 : f1 23 = 2 := w2.1
    have k2 := lp_up (z := fun _ _ _ _ _ => none) (S := fX13_readHex_37) (β := Hp) (fun kk (_ : Nat) => kk m (jI (p : Int)) (jI (g : Int)) 0 (MS c m f1 r s t)) (E := some (MS c m f1 r s t)) (M := 0) (fun i hi => by omega) (fun kk => by
      unfold fX13_readHex_37 fX13_readHex_105
      ((try rw [s_gI hm]); rw [o_ob]; (try rw [g23]); rw [if_neg (by decide)]; (try rw [s_gI hm]); rw [o_ob]; (try rw [g23]); rw [if_neg (by decide)])) FU 0 (by omega) (FU_lt (by omega))
    have k2 : lp (fun _ _ _ _ _ => none) fX13_readHex_37 FU m (jI (p : Int)) (jI (g : Int)) 0 (MS c m f1 r s t) = _ := k2
    refine ⟨f1, s, ?_, by rw [em]; exact w2, w3, Lw12_rf s, fun T' h' => by rw [em] at h'; exact absurd h' (by simp)⟩
    unfold fX13_readHex_30
    ((try rw [show (2 : Int32) = jI 2 from rfl]); (try rw [w1]); rw [o_ob])
    exact k2
  unfold fX13_readHex
  (rw [s_gd _ hm]; (try rw [s_gI hm]); rw [o_ob]; (try rw [a4]); (try rw [s_gI hm]); rw [o_ob]; (try rw [a3]); rw [eg, o_lt, j_rm (by omega)])
  by_cases c1 : g % 2 = 1
  · rw [if_pos (by rw [c1]; rfl)]
    exact bad (Or.inl (by omega))
  (rw [if_neg (by rw [show (1 : Int32) = jI 1 from rfl, jI_eq (by omega) (by omega) (by omega) (by omega)]; omega), j_hf (by omega)]; (try rw [jI_add]))
  by_cases c2 : 256 < p + g / 2
  · rw [if_neg (by rw [show (256 : Int32) = jI 256 from rfl, jI_le (by omega) (by omega) (by omega) (by omega)]; omega)]
    exact bad (Or.inr c2)
  rw [if_pos (by rw [show (256 : Int32) = jI 256 from rfl, jI_le (by omega) (by omega) (by omega) (by omega)]; omega)]
  rw [if_neg (by omega)] at em
  obtain ⟨q, hq⟩ : ∃ q, q = g / 2 := ⟨_, rfl⟩
  have eg2 : g = 2 * q := by omega
  subst eg2
  obtain ⟨SX, hSX⟩ : ∃ SX : Nat → SI2, SX = fun k => va_up s 12 (hxA (s 12) (256 + p) tx S k) := ⟨_, rfl⟩
  have htx : ∀ k, TxR (SX k) tx n := fun k => by rw [hSX]; exact TxR_12 ht
  have hx : ∀ j, j < 2 * q → isHx (tx (S + 1 + j)) = true ∧ 0 ≤ tx (S + 1 + j) ∧ tx (S + 1 + j) < 256 := fun j hj => ⟨t2 (S + 1 + j) (by omega) (by omega), (ht.2 (S + 1 + j) (by omega)).2⟩
  obtain ⟨f1, w1, w2, w3⟩ := s_step (r := r) (t := t) hm (htx q) h
  have key := lp_up (z := fun _ _ _ _ _ => none) (S := fX13_readHex_37) (β := Hp) (fun kk (k : Nat) => kk m (jI (p : Int)) (jI ((2 * q : Nat) : Int)) (jI ((2 * k : Nat) : Int)) (MS c m f r (SX k) t)) (E := some (MS c m f1 r (SX q) t)) (M := q) ?_ ?_ FU 0 (by omega) (FU_lt (by omega))
  · have z0 : SX 0 = s := by rw [hSX]; show va_up s 12 (hxA (s 12) (256 + p) tx S 0) = s; rw [hxA_0, up_id]
    have key : lp (fun _ _ _ _ _ => none) fX13_readHex_37 FU m (jI (p : Int)) (jI ((2 * q : Nat) : Int)) 0 (MS c m f r (SX 0) t) = _ := key
    rw [z0] at key
    refine ⟨f1, SX q, key, by rw [em]; exact w2, w3, ⟨fun j hj => by rw [hSX]; exact va_up_ne _ _ hj, fun i hi => by rw [hSX]; show (va_up s 12 (hxA (s 12) (256 + p) tx S q)) 12 i = s 12 i; rw [va_up_self]; unfold hxA; rw [if_neg (by omega)]⟩, fun T' _ => ?_⟩
    rw [em, hSX]
    refine ⟨hxQ_bz hQ.1 (2 * q) (by omega) (fun j hj => (w_worth (hx j hj).1 (hx j hj).2.1 (hx j hj).2.2).2), fun j hj => ?_⟩
    show (va_up s 12 (hxA (s 12) (256 + p) tx S q)) 12 (256 + j) = hxQ tx Q p S (2 * q) j
    rw [va_up_self]
    exact hxA_e hQ.2 (fun j hj => (w_worth (hx j hj).1 (hx j hj).2.1 (hx j hj).2.2).2) j hj
  · intro k hk kk
    obtain ⟨x1, x2, x3⟩ := hx (2 * k) (by omega)
    obtain ⟨y1, y2, y3⟩ := hx (2 * k + 1) (by omega)
    obtain ⟨u1, u2, u3⟩ := w_worth x1 x2 x3
    obtain ⟨v1, v2, v3⟩ := w_worth y1 y2 y3
    have e1 := ((htx k).2 (S + 1 + 2 * k) (by omega)).1
    have e2 := ((htx k).2 (S + 1 + (2 * k + 1)) (by omega)).1
    have e12 : (SX k) 12 = hxA (s 12) (256 + p) tx S k := by rw [hSX]; exact va_up_self _ _ _
    have ek : jI ((2 * k : Nat) : Int) + 2 = jI ((2 * (k + 1) : Nat) : Int) := by rw [show (2 : Int32) = jI 2 from rfl, jI_add]; congr 1
    have n1 : ((S : Int) + 1 + ((2 * k : Nat) : Int)).toNat = S + 1 + 2 * k := by omega
    have n2 : ((S : Int) + 2 + ((2 * k : Nat) : Int)).toNat = S + 1 + (2 * k + 1) := by omega
    have n3 : ((256 : Int) + (p : Int) + ((2 * k / 2 : Nat) : Int)).toNat = 256 + p + k := by omega
    have es : va_up (SX k) 12 (va_up ((SX k) 12) (256 + p + k) (16 * hxv (tx (S + 1 + 2 * k)) + hxv (tx (S + 1 + (2 * k + 1))))) = SX (k + 1) := by
      ((try rw [e12]); (try rw [show S + 1 + (2 * k + 1) = S + 2 + 2 * k by omega]); rw [hxA_s, hSX])
      exact upup _ _ _ _
    unfold fX13_readHex_37
    ((try rw [s_gI hm]); rw [o_ob]; (try rw [a1]); rw [if_pos (show jI 0 = 0 from rfl), if_neg (by rw [jI_le (by omega) (by omega) (by omega) (by omega)]; omega)]; (try rw [s_R12 hm]); rw [o_ob]; (try rw [s_R15 hm]); rw [o_ob]; (try rw [s_gI hm]); rw [o_ob]; (try rw [a3]); (try rw [show (1 : Int32) = jI 1 from rfl]); (try rw [jI_add]); (try rw [jI_add]); rw [s_a13 hm (by omega) (by omega), o_ob]; (try rw [n1]); (try rw [e1]); (try rw [u1]); rw [o_ob]; (try rw [s_R15 hm]); rw [o_ob]; (try rw [s_gI hm]); rw [o_ob])
    ((try rw [a3]); rw [ek]; (try rw [show (2 : Int32) = jI 2 from rfl]); (try rw [jI_add]); (try rw [jI_add]); rw [s_a13 hm (by omega) (by omega), o_ob]; (try rw [n2]); rw [e2]; (try rw [v1]); rw [o_ob]; (try rw [show jI 2 = (2 : Int32) from rfl]); rw [j_hf (by omega)]; (try rw [show (256 : Int32) = jI 256 from rfl]); (try rw [jI_add]); (try rw [jI_add]); (try rw [show (16 : Int32) = jI 16 from rfl]); (try rw [jI_mul]); (try rw [jI_add]); rw [s_q12 hm (by omega) (by omega), o_ob]; (try rw [n3]); rw [es, o_lt])
  · intro kk
    unfold fX13_readHex_37 fX13_readHex_105
    ((try rw [s_gI hm]); rw [o_ob]; (try rw [a1]); rw [if_pos (show jI 0 = 0 from rfl), if_pos (Int32.le_refl _)]; (try rw [s_gI hm]); rw [o_ob]; (try rw [a1]); rw [if_pos (show jI 0 = 0 from rfl)]; (try rw [w1]); rw [o_ob])
end RUJ
