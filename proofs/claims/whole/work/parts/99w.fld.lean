section RTF
variable {c : MC} {m : Nat} {f r : Nat → Int} {s t : SI2} {n : Nat} {tx : Nat → Int}
/-- nothing but these arrays at this place has changed -/
def WrF (lo hi i : Nat) (s s' : SI2) : Prop := (∀ j, j < lo ∨ hi < j → s' j = s j) ∧ ∀ j k, k ≠ i → s' j k = s j k
theorem WrF_rf (lo hi i : Nat) (s : SI2) : WrF lo hi i s s := ⟨fun _ _ => rfl, fun _ _ _ => rfl⟩
theorem WrF_tr {lo hi i : Nat} {s s1 s2 : SI2} (h : WrF lo hi i s s1) (h' : WrF lo hi i s1 s2) : WrF lo hi i s s2 := ⟨fun j hj => (h'.1 j hj).trans (h.1 j hj), fun j k hk => (h'.2 j k hk).trans (h.2 j k hk)⟩
theorem WrF_up {lo hi i j : Nat} {v : Int} (h1 : lo ≤ j) (h2 : j ≤ hi) : WrF lo hi i s (va_up s j (va_up (s j) i v)) := by
  refine ⟨fun k hk => va_up_ne _ _ (by omega), fun k y hy => ?_⟩
  by_cases q : k = j
  · (rw [q]; (try rw [va_up_self]); (try rw [va_up_ne _ _ hy]))
  · rw [va_up_ne _ _ q]
theorem WrF_tx {lo hi i : Nat} {s' : SI2} (h : WrF lo hi i s s') (ht : TxR s tx n) (hh : hi < 13) : TxR s' tx n := ⟨ht.1, fun j hj => by rw [h.1 13 (by omega)]; exact ht.2 j hj⟩
theorem up2_at (s : SI2) (j i : Nat) (v : Int) : (va_up s j (va_up (s j) i v)) j i = v := by rw [va_up_self, va_up_self]
theorem up2_ne {s : SI2} {j j' i : Nat} {v : Int} (h : j' ≠ j) : (va_up s j (va_up (s j) i v)) j' = s j' := va_up_ne _ _ h
/-- an address: the reading behind it, its number, its register -/
def adM (tx : Nat → Int) (n : Nat) (x : MD) : MD × Int × Int :=
  if (psM tx n (numR tx n x 0 255).1 37).2 = true then ((numR tx n (msg tx n (numR tx n x 0 255).1 37) 0 7).1, (numR tx n x 0 255).2, (numR tx n (msg tx n (numR tx n x 0 255).1 37) 0 7).2) else ((numR tx n x 0 255).1, (numR tx n x 0 255).2, -1)
theorem s_address {x : MD} {k a : Nat} (hm : Mo c m) (ht : TxR s tx n) (h : SmR f tx n x) (h14 : f 14 = (k : Int)) (hk : k < 60) (ha : a < 2) : ∃ f' s', fX13_readAddress m (jI (a : Int)) (MS c m f r s t) = some (MS c m f' r s' t) ∧ SmR f' tx n (adM tx n x).1 ∧ FrP f f' ∧ WrF 6 8 (2 * (60 + k) + a) s s' ∧ s' 6 (2 * (60 + k) + a) = (adM tx n x).2.1 ∧ s' 7 (2 * (60 + k) + a) = (adM tx n x).2.2 ∧ s' 8 (2 * (60 + k) + a) = 0 := by
  obtain ⟨i, hi⟩ : ∃ i, i = 2 * (60 + k) + a := ⟨_, rfl⟩
  have ei : ((2 : Int32) * ((60 : Int32) + jI (k : Int))) + jI (a : Int) = jI (i : Int) := by
    ((try rw [show (2 : Int32) = jI 2 from rfl]); (try rw [show (60 : Int32) = jI 60 from rfl]); (try rw [jI_add]); (try rw [jI_mul]); (try rw [jI_add]))
    congr 1; omega
  rw [← hi]
  obtain ⟨f1, a1, a2, a3⟩ := s_num (r := r) (t := t) (lo := 0) (hi := 255) hm ht h (by omega) (by omega) (by omega) (by omega)
  obtain ⟨s1, hs1⟩ : ∃ s1 : SI2, s1 = va_up s 6 (va_up (s 6) i (numR tx n x 0 255).2) := ⟨_, rfl⟩
  have q1 : WrF 6 8 i s s1 := by rw [hs1]; exact WrF_up (by omega) (by omega)
  have v6 : s1 6 i = (numR tx n x 0 255).2 := by rw [hs1]; exact up2_at _ _ _ _
  have ht1 := WrF_tx q1 ht (by omega)
  have im := s_isMarkedM (r := r) (t := t) (k := 37) hm ht1 a2 (by omega) (by omega)
  -- the register and what else is written
  have fin : ∀ (F : Nat → Int) (v : Int), ∃ s', fX13_readAddress_48 m (jI (i : Int)) (jI v) (jI (i : Int)) (m + 7) (MS c m F r s1 t) = some (MS c m F r s' t) ∧ WrF 6 8 i s s' ∧ s' 6 i = (numR tx n x 0 255).2 ∧ s' 7 i = v ∧ s' 8 i = 0 := by
    intro F v
    obtain ⟨s2, hs2⟩ : ∃ s2 : SI2, s2 = va_up s1 7 (va_up (s1 7) i v) := ⟨_, rfl⟩
    obtain ⟨s3, hs3⟩ : ∃ s3 : SI2, s3 = va_up s2 8 (va_up (s2 8) i 0) := ⟨_, rfl⟩
    have q2 : WrF 6 8 i s1 s2 := by rw [hs2]; exact WrF_up (by omega) (by omega)
    have q3 : WrF 6 8 i s2 s3 := by rw [hs3]; exact WrF_up (by omega) (by omega)
    unfold fX13_readAddress_48
    (rw [s_q7 hm (by omega) (by omega), o_ob]; (try rw [s_R8 hm]); rw [o_ob]; (try rw [show (0 : Int32) = jI 0 from rfl]); rw [s_q8 hm (by omega) (by omega), o_ob, Int.toNat_natCast]; (try rw [← hs2]); (try rw [← hs3]))
    refine ⟨s3, rfl, WrF_tr q1 (WrF_tr q2 q3), ?_, ?_, ?_⟩
    · ((try rw [hs3]); rw [up2_ne (by omega)]; (try rw [hs2]); rw [up2_ne (by omega)]); exact v6
    · ((try rw [hs3]); rw [up2_ne (by omega)]; (try rw [hs2])); exact up2_at _ _ _ _
    · rw [hs3]; exact up2_at _ _ _ _
  unfold fX13_readAddress
  (rw [s_gd _ hm]; (try rw [s_gI hm]); rw [o_ob]; (try rw [h14]); rw [o_lt, ei]; (try rw [s_R6 hm]); rw [o_ob]; (try rw [show (0 : Int32) = jI 0 from rfl]); (try rw [show (255 : Int32) = jI 255 from rfl]); (try rw [a1]); rw [o_ob2, s_q6 hm (by omega) (by omega), o_ob, Int.toNat_natCast]; (try rw [← hs1]); (try rw [s_R7 hm]); rw [o_ob]; (try rw [show (37 : Int32) = jI 37 from rfl]); rw [im, o_ob])
  unfold adM
  cases q : (psM tx n (numR tx n x 0 255).1 37).2 with
  | false =>
    obtain ⟨s', e1, e2, e3, e4, e5⟩ := fin f1 (-1)
    have e1 : fX13_readAddress_48 m (jI (i : Int)) (-1) (jI (i : Int)) (m + 7) (MS c m f1 r s1 t) = _ := e1
    (rw [if_pos (by rfl)]; (try rw [e1]); rw [if_neg (show ¬ false = true by decide)])
    exact ⟨f1, s', rfl, a2, a3, e2, e3, e4, e5⟩
  | true =>
    obtain ⟨f2, b1, b2', b3⟩ := s_register (r := r) (t := t) hm ht1 a2
    obtain ⟨s', e1, e2, e3, e4, e5⟩ := fin f2 (numR tx n (msg tx n (numR tx n x 0 255).1 37) 0 7).2
    (rw [if_neg (show ¬ jI (b2 true) = jI 0 by decide)]; (try rw [b1]); rw [o_ob2]; (try rw [e1]); rw [if_pos rfl])
    exact ⟨f2, s', rfl, b2', FrP_tr a3 b3, e2, e3, e4, e5⟩
/-- a field: an address, ':' and a length -/
def fdM (tx : Nat → Int) (n : Nat) (x : MD) (hi : Int) : MD × Int × Int × Int :=
  ((numR tx n (msg tx n (adM tx n x).1 58) 1 hi).1, (adM tx n x).2.1, (adM tx n x).2.2, (numR tx n (msg tx n (adM tx n x).1 58) 1 hi).2)
theorem s_field {x : MD} {k a : Nat} {hi : Int} (hm : Mo c m) (ht : TxR s tx n) (h : SmR f tx n x) (h14 : f 14 = (k : Int)) (hk : k < 60) (ha : a < 2) (h0 : 0 ≤ hi) (h1 : hi < 10000) : ∃ f' s', fX13_readField m (jI (a : Int)) (jI hi) (MS c m f r s t) = some (MS c m f' r s' t) ∧ SmR f' tx n (fdM tx n x hi).1 ∧ FrP f f' ∧ WrF 6 8 (2 * (60 + k) + a) s s' ∧ s' 6 (2 * (60 + k) + a) = (fdM tx n x hi).2.1 ∧ s' 7 (2 * (60 + k) + a) = (fdM tx n x hi).2.2.1 ∧ s' 8 (2 * (60 + k) + a) = (fdM tx n x hi).2.2.2 := by
  obtain ⟨f1, s1, a1, a2, a3, q1, v6, v7, v8⟩ := s_address (r := r) (t := t) hm ht h h14 hk ha
  obtain ⟨i, hi'⟩ : ∃ i, i = 2 * (60 + k) + a := ⟨_, rfl⟩
  have ei : ((2 : Int32) * ((60 : Int32) + jI (k : Int))) + jI (a : Int) = jI (i : Int) := by
    ((try rw [show (2 : Int32) = jI 2 from rfl]); (try rw [show (60 : Int32) = jI 60 from rfl]); (try rw [jI_add]); (try rw [jI_mul]); (try rw [jI_add]))
    congr 1; omega
  rw [← hi'] at q1 v6 v7 v8
  rw [← hi']
  have ht1 := WrF_tx q1 ht (by omega)
  obtain ⟨f2, b1, b2', b3⟩ := s_mark (r := r) (t := t) (k := 58) hm ht1 a2 (by omega) (by omega)
  obtain ⟨f3, c1, c2, c3⟩ := s_num (r := r) (t := t) (lo := 1) (hi := hi) hm ht1 b2' (by omega) (by omega) h0 h1
  have g14 : f2 14 = (k : Int) := (b3 14 (by omega)).trans ((a3 14 (by omega)).trans h14)
  obtain ⟨s2, hs2⟩ : ∃ s2 : SI2, s2 = va_up s1 8 (va_up (s1 8) i (numR tx n (msg tx n (adM tx n x).1 58) 1 hi).2) := ⟨_, rfl⟩
  have q2 : WrF 6 8 i s1 s2 := by rw [hs2]; exact WrF_up (by omega) (by omega)
  unfold fX13_readField
  (rw [s_gd _ hm]; (try rw [a1]); rw [o_ob]; (try rw [show (58 : Int32) = jI 58 from rfl]); (try rw [b1]); rw [o_ob]; (try rw [s_R8 hm]); rw [o_ob]; (try rw [s_gI hm]); rw [o_ob]; (try rw [g14]); (try rw [show (1 : Int32) = jI 1 from rfl]); (try rw [c1]); rw [o_ob2, ei, s_q8 hm (by omega) (by omega), o_ob, Int.toNat_natCast]; (try rw [← hs2]))
  refine ⟨f3, s2, rfl, c2, FrP_tr a3 (FrP_tr b3 c3), WrF_tr q1 q2, ?_, ?_, ?_⟩
  · rw [hs2, up2_ne (by omega)]; exact v6
  · rw [hs2, up2_ne (by omega)]; exact v7
  · rw [hs2]; exact up2_at _ _ _ _
end RTF
