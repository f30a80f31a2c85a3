section RUK
variable {c : MC} {m : Nat} {f r : Nat → Int} {s t : SI2} {n : Nat} {tx : Nat → Int}
theorem isW_wrd {T : TK} {i : Nat} (hi : i < 29) : isW tx T i = (wrd tx T == i + 1) := by
  unfold isW wrd
  by_cases c1 : T.1 = 1
  · have e1 : (T.1 == 1) = true := by simpa using c1
    ((try rw [e1]); rw [Bool.true_and, if_pos c1])
    cases e : wat tx T.2.1 T.2.2 i with
    | true =>
      have : wfd tx T.2.1 T.2.2 = (i : Int) := fnd_is (by omega) (by omega) e (fun j _ hj => by
        cases e2 : wat tx T.2.1 T.2.2 j with
        | false => rfl
        | true => have := wat_one (by omega) hi e2 e; omega)
      rw [this]
      have : ((i : Int) + 1).toNat = i + 1 := by omega
      rw [this]
      simp
    | false =>
      have ne : (wfd tx T.2.1 T.2.2 + 1).toNat ≠ i + 1 := by
        intro q
        have w : wfd tx T.2.1 T.2.2 = (i : Int) := by omega
        obtain ⟨k, -, -, k3, k4, -⟩ := fnd_some (q := wat tx T.2.1 T.2.2) (lo := 0) (n := 29) (by
          have w : fnd (wat tx T.2.1 T.2.2) 0 29 = (i : Int) := w
          rw [w]; omega)
        have w : fnd (wat tx T.2.1 T.2.2) 0 29 = (i : Int) := w
        rw [w] at k3
        have : k = i := by omega
        rw [this, e] at k4
        exact absurd k4 (by decide)
      symm
      simpa using ne
  · have e1 : (T.1 == 1) = false := by simpa using c1
    ((try rw [e1]); rw [Bool.false_and, if_neg c1])
    symm
    simp
theorem s_rdPk {F : Nat → Int} {p v bg N : Nat} {sg : Int} {Q : Nat → Int} (hm : Mo c m) (ht : TxR s tx n) (hQ : LdR s Q) (hv : 1 ≤ v) (hpv : p + v ≤ 256) (s1 : 0 ≤ sg) (s2 : sg < 16) (hN : N ≤ 2 * v - 1) (hb : bg + N ≤ n) (hd : ∀ j, bg ≤ j → j < bg + N → isDg (tx j) = true) : ∃ s', lp (fun _ _ _ _ _ _ _ _ _ => none) fX13_readDigits_206 FU m (jI (p : Int)) 1 (jI sg) (jI (bg : Int)) (jI (N : Int)) (jI (v : Int)) 0 (MS c m F r s t) = some (MS c m F r s' t) ∧ Lw12 s s' ∧ LdR s' (pkQ tx Q (p + v) bg (bg + N) sg (2 * v - 1)) := by
  have hn := ht.1
  obtain ⟨SA, hSA⟩ : ∃ SA : Nat → SI2, SA = fun k => va_up s 12 (flA (s 12) (256 + p) k 0) := ⟨_, rfl⟩
  obtain ⟨SB, hSB⟩ : ∃ SB : Nat → SI2, SB = fun k => va_up s 12 (pkA (s 12) (256 + (p + v)) v tx (bg + N) k) := ⟨_, rfl⟩
  have SA0 : SA 0 = s := by rw [hSA]; show va_up s 12 (flA (s 12) (256 + p) 0 0) = s; rw [flA_0, up_id]
  have SAB : SA v = SB 0 := by
    rw [hSA, hSB]
    show va_up s 12 (flA (s 12) (256 + p) v 0) = va_up s 12 (pkA (s 12) (256 + (p + v)) v tx (bg + N) 0)
    rw [← pkA_0 (by omega), show 256 + (p + v) - v = 256 + p by omega]
  obtain ⟨s', hs'⟩ : ∃ s' : SI2, s' = va_up s 12 (va_up (pkA (s 12) (256 + (p + v)) v tx (bg + N) N) (256 + (p + v) - 1) (pkA (s 12) (256 + (p + v)) v tx (bg + N) N (256 + (p + v) - 1) + sg)) := ⟨_, rfl⟩
  refine ⟨s', ?_, ⟨fun j hj => by rw [hs']; exact va_up_ne _ _ hj, fun i hi => by (rw [hs']; (try rw [va_up_self]); (try rw [va_up_ne _ _ (by omega)])); unfold pkA; rw [if_neg (by omega)]⟩, ?_⟩
  rotate_left
  · refine ⟨pkQ_b hQ.1 (by omega) (by omega) s1 s2 hd _ (by omega), fun j hj => ?_⟩
    have := pkA_e (tx := tx) (a := s 12) (Q := Q) (b := p + v) (v := v) (fr := bg) (to := bg + N) hQ.2 s1 s2 hd (by omega) hv (by omega) j hj
    rw [show bg + N - bg = N by omega] at this
    rw [hs', va_up_self]
    exact this
  have key := lp_up (z := fun _ _ _ _ _ _ _ _ _ => none) (S := fX13_readDigits_206) (β := Hp) (fun kk (k : Nat) => kk m (jI (p : Int)) 1 (jI sg) (jI (bg : Int)) (jI (N : Int)) (jI (v : Int)) (jI (k : Int)) (MS c m F r (SA k) t)) (E := lp (fun _ _ _ _ _ _ _ _ _ => none) fX13_readDigits_246 FU m (jI (p : Int)) 1 (jI sg) (jI (bg : Int)) (jI (N : Int)) (jI (v : Int)) 0 (MS c m F r (SA v) t)) (M := v) ?_ ?_ FU 0 (by omega) (FU_lt (by omega))
  · have key : lp (fun _ _ _ _ _ _ _ _ _ => none) fX13_readDigits_206 FU m (jI (p : Int)) 1 (jI sg) (jI (bg : Int)) (jI (N : Int)) (jI (v : Int)) 0 (MS c m F r (SA 0) t) = _ := key
    rw [SA0] at key
    rw [key, SAB]
    clear key
    have k2 := lp_up (z := fun _ _ _ _ _ _ _ _ _ => none) (S := fX13_readDigits_246) (β := Hp) (fun kk (k : Nat) => kk m (jI (p : Int)) 1 (jI sg) (jI (bg : Int)) (jI (N : Int)) (jI (v : Int)) (jI (k : Int)) (MS c m F r (SB k) t)) (E := some (MS c m F r s' t)) (M := N) ?_ ?_ FU 0 (by omega) (FU_lt (by omega))
    · exact k2
    · intro k hk kk
      have e13 := ((show TxR (SB k) tx n by rw [hSB]; exact TxR_12 ht).2 (bg + N - 1 - k) (by omega))
      have e12 : (SB k) 12 = pkA (s 12) (256 + (p + v)) v tx (bg + N) k := by rw [hSB]; exact va_up_self _ _ _
      have ek : jI (k : Int) + 1 = jI ((k + 1 : Nat) : Int) := by rw [show (1 : Int32) = jI 1 from rfl, jI_add]; congr 1
      have i1 : jI (bg : Int) + jI (N : Int) - 1 - jI (k : Int) = jI ((bg + N - 1 - k : Nat) : Int) := by ((try rw [show (1 : Int32) = jI 1 from rfl]); (try rw [jI_add]); (try rw [jI_sub]); (try rw [jI_sub])); congr 1; omega
      have i2 : (256 : Int32) + jI (p : Int) + jI (v : Int) - 1 - (jI (k : Int) + 1) / 2 = jI ((256 + (p + v) - 1 - (k + 1) / 2 : Nat) : Int) := by
        (rw [ek, j_hf (by omega)]; (try rw [show (256 : Int32) = jI 256 from rfl]); (try rw [show (1 : Int32) = jI 1 from rfl]); (try rw [jI_add]); (try rw [jI_add]); (try rw [jI_sub]); (try rw [jI_sub])); congr 1; omega
      have es := pkA_s (tx := tx) (a := s 12) (hi := 256 + (p + v)) (v := v) (to := bg + N) (k := k) (by omega) (by omega)
      have fin : ∀ z : Int, z = (if k % 2 = 0 then 16 * (tx (bg + N - 1 - k) - 48) else tx (bg + N - 1 - k) - 48) → fX13_readDigits_317 kk m (jI (p : Int)) 1 (jI sg) (jI (bg : Int)) (jI (N : Int)) (jI (v : Int)) (jI (k : Int)) (jI z) (jI ((SB k) 12 (256 + (p + v) - 1 - (k + 1) / 2))) (jI ((256 + (p + v) - 1 - (k + 1) / 2 : Nat) : Int)) (m + 12) (MS c m F r (SB k) t) = kk m (jI (p : Int)) 1 (jI sg) (jI (bg : Int)) (jI (N : Int)) (jI (v : Int)) (jI ((k + 1 : Nat) : Int)) (MS c m F r (SB (k + 1)) t) := by
        intro z hz
        rw [← hz] at es
        have es2 : va_up (SB k) 12 (va_up ((SB k) 12) (256 + (p + v) - 1 - (k + 1) / 2) ((SB k) 12 (256 + (p + v) - 1 - (k + 1) / 2) + z)) = SB (k + 1) := by
          ((try rw [e12]); rw [es, hSB])
          exact upup _ _ _ _
        unfold fX13_readDigits_317
        ((try rw [jI_add]); rw [s_q12 hm (by omega) (by omega), o_ob, Int.toNat_natCast]; (try rw [es2]); rw [o_lt, ek])
      have step : fX13_readDigits_246 kk m (jI (p : Int)) 1 (jI sg) (jI (bg : Int)) (jI (N : Int)) (jI (v : Int)) (jI (k : Int)) (MS c m F r (SB k) t) = if irm (jI (k : Int)) 2 = 0 then fX13_readDigits_317 kk m (jI (p : Int)) 1 (jI sg) (jI (bg : Int)) (jI (N : Int)) (jI (v : Int)) (jI (k : Int)) (jI (16 * (tx (bg + N - 1 - k) - 48))) (jI ((SB k) 12 (256 + (p + v) - 1 - (k + 1) / 2))) (jI ((256 + (p + v) - 1 - (k + 1) / 2 : Nat) : Int)) (m + 12) (MS c m F r (SB k) t) else fX13_readDigits_317 kk m (jI (p : Int)) 1 (jI sg) (jI (bg : Int)) (jI (N : Int)) (jI (v : Int)) (jI (k : Int)) (jI (tx (bg + N - 1 - k) - 48)) (jI ((SB k) 12 (256 + (p + v) - 1 - (k + 1) / 2))) (jI ((256 + (p + v) - 1 - (k + 1) / 2 : Nat) : Int)) (m + 12) (MS c m F r (SB k) t) := by
        unfold fX13_readDigits_246
        (rw [if_neg (by rw [jI_le (by omega) (by omega) (by omega) (by omega)]; omega)]; (try rw [s_R15 hm]); rw [o_ob]; (try rw [i1]); rw [s_a13 hm (by omega) (by omega), o_ob, Int.toNat_natCast, e13.1, o_lt, if_neg (by decide)]; (try rw [s_R12 hm]); rw [o_ob]; (try rw [i2]); rw [s_a12 hm (by omega) (by omega), o_ob, Int.toNat_natCast]; (try rw [show (48 : Int32) = jI 48 from rfl]); (try rw [jI_sub]); (try rw [show (16 : Int32) = jI 16 from rfl]); (try rw [jI_mul]))
      show fX13_readDigits_246 kk m (jI (p : Int)) 1 (jI sg) (jI (bg : Int)) (jI (N : Int)) (jI (v : Int)) (jI (k : Int)) (MS c m F r (SB k) t) = _
      rw [step, j_rm (by omega)]
      by_cases q : k % 2 = 0
      · rw [if_pos (by rw [q]; rfl)]
        exact fin _ (by rw [if_pos q])
      · rw [if_neg (by rw [show (0 : Int32) = jI 0 from rfl, jI_eq (by omega) (by omega) (by omega) (by omega)]; omega)]
        exact fin _ (by rw [if_neg q])
    · intro kk
      have e12 : (SB N) 12 = pkA (s 12) (256 + (p + v)) v tx (bg + N) N := by rw [hSB]; exact va_up_self _ _ _
      have i2 : (256 : Int32) + jI (p : Int) + jI (v : Int) - 1 = jI ((256 + (p + v) - 1 : Nat) : Int) := by
        ((try rw [show (256 : Int32) = jI 256 from rfl]); (try rw [show (1 : Int32) = jI 1 from rfl]); (try rw [jI_add]); (try rw [jI_add]); (try rw [jI_sub])); congr 1; omega
      have es2 : va_up (SB N) 12 (va_up ((SB N) 12) (256 + (p + v) - 1) ((SB N) 12 (256 + (p + v) - 1) + sg)) = s' := by
        ((try rw [e12]); rw [hs', hSB])
        exact upup _ _ _ _
      show fX13_readDigits_246 kk m (jI (p : Int)) 1 (jI sg) (jI (bg : Int)) (jI (N : Int)) (jI (v : Int)) (jI (N : Int)) (MS c m F r (SB N) t) = _
      unfold fX13_readDigits_246 fX13_readDigits_400
      (rw [if_pos (Int32.le_refl _), o_lt]; (try rw [i2]); (try rw [s_R12 hm]); rw [o_ob, if_neg (by decide)]; (try rw [s_R12 hm]); rw [o_ob, s_a12 hm (by omega) (by omega), o_ob, Int.toNat_natCast]; (try rw [jI_add]); rw [s_q12 hm (by omega) (by omega), o_ob, Int.toNat_natCast]; (try rw [es2]))
  · intro k hk kk
    have e12 : (SA k) 12 = flA (s 12) (256 + p) k 0 := by rw [hSA]; exact va_up_self _ _ _
    have ek : jI (k : Int) + 1 = jI ((k + 1 : Nat) : Int) := by rw [show (1 : Int32) = jI 1 from rfl, jI_add]; congr 1
    have i2 : (256 : Int32) + jI (p : Int) + jI (k : Int) = jI ((256 + p + k : Nat) : Int) := by
      ((try rw [show (256 : Int32) = jI 256 from rfl]); (try rw [jI_add]); (try rw [jI_add])); congr 1
    have es2 : va_up (SA k) 12 (va_up ((SA k) 12) (256 + p + k) 0) = SA (k + 1) := by
      ((try rw [e12]); rw [flA_s, hSA])
      exact upup _ _ _ _
    show fX13_readDigits_206 kk m (jI (p : Int)) 1 (jI sg) (jI (bg : Int)) (jI (N : Int)) (jI (v : Int)) (jI (k : Int)) (MS c m F r (SA k) t) = _
    unfold fX13_readDigits_206 fX13_readDigits_236
    (rw [if_neg (by rw [jI_le (by omega) (by omega) (by omega) (by omega)]; omega)]; (try rw [s_R12 hm]); rw [o_ob, if_neg (by decide)]; (try rw [i2]); (try rw [show (0 : Int32) = jI 0 from rfl]); rw [s_q12 hm (by omega) (by omega), o_ob, Int.toNat_natCast]; (try rw [es2]); rw [o_lt, ek])
  · intro kk
    show fX13_readDigits_206 kk m (jI (p : Int)) 1 (jI sg) (jI (bg : Int)) (jI (N : Int)) (jI (v : Int)) (jI (v : Int)) (MS c m F r (SA v) t) = _
    unfold fX13_readDigits_206
    rw [if_pos (Int32.le_refl _)]
theorem s_rdZn {F : Nat → Int} {p v bg N : Nat} {sg : Int} {Q : Nat → Int} (hm : Mo c m) (ht : TxR s tx n) (hQ : LdR s Q) (hv : 1 ≤ v) (hpv : p + v ≤ 256) (s1 : 0 ≤ sg) (s2 : sg < 16) (hN : N ≤ v) (hb : bg + N ≤ n) (hd : ∀ j, bg ≤ j → j < bg + N → isDg (tx j) = true) : ∃ s', lp (fun _ _ _ _ _ _ _ _ _ => none) fX13_readDigits_206 FU m (jI (p : Int)) 0 (jI sg) (jI (bg : Int)) (jI (N : Int)) (jI (v : Int)) 0 (MS c m F r s t) = some (MS c m F r s' t) ∧ Lw12 s s' ∧ LdR s' (znQ tx Q (p + v) bg (bg + N) sg v) := by
  have hn := ht.1
  obtain ⟨SA, hSA⟩ : ∃ SA : Nat → SI2, SA = fun k => va_up s 12 (flA (s 12) (256 + p) k 240) := ⟨_, rfl⟩
  obtain ⟨SB, hSB⟩ : ∃ SB : Nat → SI2, SB = fun k => va_up s 12 (znA (s 12) (256 + (p + v)) v tx (bg + N) k) := ⟨_, rfl⟩
  have SA0 : SA 0 = s := by rw [hSA]; show va_up s 12 (flA (s 12) (256 + p) 0 240) = s; rw [flA_0, up_id]
  have SAB : SA v = SB 0 := by
    rw [hSA, hSB]
    show va_up s 12 (flA (s 12) (256 + p) v 240) = va_up s 12 (znA (s 12) (256 + (p + v)) v tx (bg + N) 0)
    rw [← znA_0 (by omega), show 256 + (p + v) - v = 256 + p by omega]
  obtain ⟨s', hs'⟩ : ∃ s' : SI2, s' = va_up s 12 (va_up (znA (s 12) (256 + (p + v)) v tx (bg + N) N) (256 + (p + v) - 1) (16 * sg + znA (s 12) (256 + (p + v)) v tx (bg + N) N (256 + (p + v) - 1) % 16)) := ⟨_, rfl⟩
  have zr : 0 ≤ znA (s 12) (256 + (p + v)) v tx (bg + N) N (256 + (p + v) - 1) ∧ znA (s 12) (256 + (p + v)) v tx (bg + N) N (256 + (p + v) - 1) < 100000 := by
    unfold znA dgA
    rw [if_pos (by omega)]
    by_cases q : 256 + (p + v) - 1 - (256 + (p + v) - 1) < N
    · rw [if_pos q]
      have := hd (bg + N - 1 - (256 + (p + v) - 1 - (256 + (p + v) - 1))) (by omega) (by omega)
      unfold isDg at this
      have := of_decide_eq_true this
      omega
    · rw [if_neg q]; omega
  refine ⟨s', ?_, ⟨fun j hj => by rw [hs']; exact va_up_ne _ _ hj, fun i hi => by (rw [hs']; (try rw [va_up_self]); (try rw [va_up_ne _ _ (by omega)])); unfold znA; rw [if_neg (by omega)]⟩, ?_⟩
  rotate_left
  · refine ⟨znQ_b hQ.1 (by omega) s1 s2 hd _ (by omega), fun j hj => ?_⟩
    have := znA_e (tx := tx) (a := s 12) (Q := Q) (b := p + v) (v := v) (fr := bg) (to := bg + N) hQ.2 s1 s2 hd (by omega) hv (by omega) j hj
    rw [show bg + N - bg = N by omega] at this
    rw [hs', va_up_self]
    exact this
  have key := lp_up (z := fun _ _ _ _ _ _ _ _ _ => none) (S := fX13_readDigits_206) (β := Hp) (fun kk (k : Nat) => kk m (jI (p : Int)) 0 (jI sg) (jI (bg : Int)) (jI (N : Int)) (jI (v : Int)) (jI (k : Int)) (MS c m F r (SA k) t)) (E := lp (fun _ _ _ _ _ _ _ _ _ => none) fX13_readDigits_246 FU m (jI (p : Int)) 0 (jI sg) (jI (bg : Int)) (jI (N : Int)) (jI (v : Int)) 0 (MS c m F r (SA v) t)) (M := v) ?_ ?_ FU 0 (by omega) (FU_lt (by omega))
  · have key : lp (fun _ _ _ _ _ _ _ _ _ => none) fX13_readDigits_206 FU m (jI (p : Int)) 0 (jI sg) (jI (bg : Int)) (jI (N : Int)) (jI (v : Int)) 0 (MS c m F r (SA 0) t) = _ := key
    rw [SA0] at key
    rw [key, SAB]
    clear key
    have k2 := lp_up (z := fun _ _ _ _ _ _ _ _ _ => none) (S := fX13_readDigits_246) (β := Hp) (fun kk (k : Nat) => kk m (jI (p : Int)) 0 (jI sg) (jI (bg : Int)) (jI (N : Int)) (jI (v : Int)) (jI (k : Int)) (MS c m F r (SB k) t)) (E := some (MS c m F r s' t)) (M := N) ?_ ?_ FU 0 (by omega) (FU_lt (by omega))
    · exact k2
    · intro k hk kk
      have e13 := ((show TxR (SB k) tx n by rw [hSB]; exact TxR_12 ht).2 (bg + N - 1 - k) (by omega))
      have e12 : (SB k) 12 = znA (s 12) (256 + (p + v)) v tx (bg + N) k := by rw [hSB]; exact va_up_self _ _ _
      have ek : jI (k : Int) + 1 = jI ((k + 1 : Nat) : Int) := by rw [show (1 : Int32) = jI 1 from rfl, jI_add]; congr 1
      have i1 : jI (bg : Int) + jI (N : Int) - 1 - jI (k : Int) = jI ((bg + N - 1 - k : Nat) : Int) := by ((try rw [show (1 : Int32) = jI 1 from rfl]); (try rw [jI_add]); (try rw [jI_sub]); (try rw [jI_sub])); congr 1; omega
      have i2 : (256 : Int32) + jI (p : Int) + jI (v : Int) - 1 - jI (k : Int) = jI ((256 + (p + v) - 1 - k : Nat) : Int) := by
        ((try rw [show (256 : Int32) = jI 256 from rfl]); (try rw [show (1 : Int32) = jI 1 from rfl]); (try rw [jI_add]); (try rw [jI_add]); (try rw [jI_sub]); (try rw [jI_sub])); congr 1; omega
      have es := znA_s (tx := tx) (a := s 12) (hi := 256 + (p + v)) (v := v) (to := bg + N) (k := k) (by omega) (by omega)
      have es2 : va_up (SB k) 12 (va_up ((SB k) 12) (256 + (p + v) - 1 - k) ((SB k) 12 (256 + (p + v) - 1 - k) + (tx (bg + N - 1 - k) - 48))) = SB (k + 1) := by
        ((try rw [e12]); rw [es, hSB])
        exact upup _ _ _ _
      show fX13_readDigits_246 kk m (jI (p : Int)) 0 (jI sg) (jI (bg : Int)) (jI (N : Int)) (jI (v : Int)) (jI (k : Int)) (MS c m F r (SB k) t) = _
      unfold fX13_readDigits_246
      (rw [if_neg (by rw [jI_le (by omega) (by omega) (by omega) (by omega)]; omega)]; (try rw [s_R15 hm]); rw [o_ob]; (try rw [i1]); rw [s_a13 hm (by omega) (by omega), o_ob, Int.toNat_natCast, e13.1, o_lt, if_pos rfl]; (try rw [s_R12 hm]); rw [o_ob]; (try rw [i2]); rw [s_a12 hm (by omega) (by omega), o_ob, Int.toNat_natCast]; (try rw [show (48 : Int32) = jI 48 from rfl]); (try rw [jI_sub]); (try rw [jI_add]); rw [s_q12 hm (by omega) (by omega), o_ob, Int.toNat_natCast]; (try rw [es2]); rw [o_lt, ek])
    · intro kk
      have e12 : (SB N) 12 = znA (s 12) (256 + (p + v)) v tx (bg + N) N := by rw [hSB]; exact va_up_self _ _ _
      have i2 : (256 : Int32) + jI (p : Int) + jI (v : Int) - 1 = jI ((256 + (p + v) - 1 : Nat) : Int) := by
        ((try rw [show (256 : Int32) = jI 256 from rfl]); (try rw [show (1 : Int32) = jI 1 from rfl]); (try rw [jI_add]); (try rw [jI_add]); (try rw [jI_sub])); congr 1; omega
      have es2 : va_up (SB N) 12 (va_up ((SB N) 12) (256 + (p + v) - 1) (16 * sg + (SB N) 12 (256 + (p + v) - 1) % 16)) = s' := by
        ((try rw [e12]); rw [hs', hSB])
        exact upup _ _ _ _
      have zr2 : irm (jI ((SB N) 12 (256 + (p + v) - 1))) 16 = jI ((SB N) 12 (256 + (p + v) - 1) % 16) := by
        rw [e12]; exact j_rm16 zr.1 zr.2
      show fX13_readDigits_246 kk m (jI (p : Int)) 0 (jI sg) (jI (bg : Int)) (jI (N : Int)) (jI (v : Int)) (jI (N : Int)) (MS c m F r (SB N) t) = _
      unfold fX13_readDigits_246 fX13_readDigits_400
      (rw [if_pos (Int32.le_refl _), o_lt]; (try rw [i2]); (try rw [s_R12 hm]); rw [o_ob, if_pos rfl]; (try rw [s_R12 hm]); rw [o_ob, s_a12 hm (by omega) (by omega), o_ob, Int.toNat_natCast]; (try rw [zr2]); (try rw [show (16 : Int32) = jI 16 from rfl]); (try rw [jI_mul]); (try rw [jI_add]); rw [s_q12 hm (by omega) (by omega), o_ob, Int.toNat_natCast]; (try rw [es2]))
  · intro k hk kk
    have e12 : (SA k) 12 = flA (s 12) (256 + p) k 240 := by rw [hSA]; exact va_up_self _ _ _
    have ek : jI (k : Int) + 1 = jI ((k + 1 : Nat) : Int) := by rw [show (1 : Int32) = jI 1 from rfl, jI_add]; congr 1
    have i2 : (256 : Int32) + jI (p : Int) + jI (k : Int) = jI ((256 + p + k : Nat) : Int) := by
      ((try rw [show (256 : Int32) = jI 256 from rfl]); (try rw [jI_add]); (try rw [jI_add])); congr 1
    have es2 : va_up (SA k) 12 (va_up ((SA k) 12) (256 + p + k) 240) = SA (k + 1) := by
      ((try rw [e12]); rw [flA_s, hSA])
      exact upup _ _ _ _
    show fX13_readDigits_206 kk m (jI (p : Int)) 0 (jI sg) (jI (bg : Int)) (jI (N : Int)) (jI (v : Int)) (jI (k : Int)) (MS c m F r (SA k) t) = _
    unfold fX13_readDigits_206 fX13_readDigits_236
    (rw [if_neg (by rw [jI_le (by omega) (by omega) (by omega) (by omega)]; omega)]; (try rw [s_R12 hm]); rw [o_ob, if_pos rfl]; (try rw [i2]); (try rw [show (240 : Int32) = jI 240 from rfl]); rw [s_q12 hm (by omega) (by omega), o_ob, Int.toNat_natCast]; (try rw [es2]); rw [o_lt, ek])
  · intro kk
    show fX13_readDigits_206 kk m (jI (p : Int)) 0 (jI sg) (jI (bg : Int)) (jI (N : Int)) (jI (v : Int)) (jI (v : Int)) (MS c m F r (SA v) t) = _
    unfold fX13_readDigits_206
    rw [if_pos (Int32.le_refl _)]
end RUK
