section ST2
variable {K : Nat → Nat} {I : Nat → Nat → Int32} {R : Nat → Nat → Nat} {L : Nat → Nat → Int64} {N : Nat → Nat} {w : Nat × Nat × Nat × Nat}
theorem chk_k4 {o : Int} {r : Nat → Int} {a n b m : Int} {f : FT6} (h : chk o r a n b m = some f) : 1 ≤ f.1 ∧ f.1 ≤ 4 ∧ o ≠ 24 := by
  rw [chk_eq] at h
  by_cases c1 : o ≤ 17 ∧ isF a n = false
  · rw [if_pos c1] at h; cases h; exact ⟨by simp, by simp, by omega⟩
  rw [if_neg c1] at h
  by_cases c2 : o ≤ 11 ∧ isF b m = false
  · rw [if_pos c2] at h; cases h; exact ⟨by simp, by simp, by omega⟩
  rw [if_neg c2] at h
  by_cases c3 : (o = 7 ∨ o = 8) ∧ (8 < m ∨ n ≤ m)
  · rw [if_pos c3] at h; cases h; exact ⟨by simp, by simp, by omega⟩
  rw [if_neg c3] at h
  by_cases c4 : (o = 4 ∨ o = 5 ∨ o = 7 ∨ o = 8) ∧ (a < b + m ∧ b < a + n) ∧ a + n ≠ b + m
  · rw [if_pos c4] at h; cases h; exact ⟨by simp, by simp, by omega⟩
  rw [if_neg c4] at h
  by_cases c5 : o = 3 ∧ (a < b + m ∧ b < a + n) ∧ a + n < b + m
  · rw [if_pos c5] at h; cases h; exact ⟨by simp, by simp, by omega⟩
  rw [if_neg c5] at h
  by_cases c6 : ((4 ≤ o ∧ o ≤ 8) ∨ o = 14 ∨ o = 16) ∧ flp r a.toNat n.toNat ≠ -1
  · rw [if_pos c6] at h; cases h; exact ⟨by simp, by simp, by omega⟩
  rw [if_neg c6] at h
  by_cases c7 : (3 ≤ o ∧ o ≤ 8) ∧ flp r b.toNat m.toNat ≠ -1
  · rw [if_pos c7] at h; cases h; exact ⟨by simp, by simp, by omega⟩
  rw [if_neg c7] at h
  exact nomatch h
/-- an instruction is done, as a row and its fault as they may be -/
theorem exe_ok {P : PG} {many k : Nat} {T : Int} {r : Nat → Int} (h : RowOK many T r) (pg : PGk P many k) (hk : k < many) :
    RQ many r (exe P r k).1 ∧ (∀ f, (exe P r k).2.1 = some f → FOK f ∧ P 0 k ≠ 24 ∧ (f.1 = 6 → (exe P r k).1 273 ≠ -1)) ∧ ((exe P r k).2.1 = none → 0 ≤ (exe P r k).2.2 ∧ (exe P r k).2.2 ≤ many) := by
  unfold exe
  cases hc : chk (P 0 k) r (opA P r k) (lnA P k) (opB P r k) (lnB P k) with
  | some f =>
    have lr := ln_r pg
    have br := opB_r P r k
    have ar : -2147483648 ≤ opA P r k ∧ opA P r k < 2147483648 := by
      have := adr_r P r k 0
      unfold opA; split <;> omega
    refine ⟨RQ_rf h, fun f' hf => ?_, (fun x => nomatch x)⟩
    cases hf
    exact ⟨chk_FOK h.1 ar.1 ar.2 br.1 br.2 (by omega) (by omega) (by omega) (by omega) hc, (chk_k4 hc).2.2, fun q => by have := chk_k4 hc; omega⟩
  | none => exact prf_ok h pg hk hc
theorem rec6_eq {r : Nat → Int} {k : Nat} (hk : k < 60) : rec6 r k = va_up (va_up (va_up r (290 + (r 279).toNat % 64) k) 279 (r 279 + 1)) (354 + k) (r (354 + k) + 1) := by
  have ht : (r 279).toNat % 64 < 64 := Nat.mod_lt _ (by omega)
  unfold rec6
  simp (disch := omega) only [va_up_ne]
theorem Rng_up {r : Nat → Int} (h : Rng r) {k : Nat} {v : Int} (h1 : -2147483648 ≤ v) (h2 : v < 2147483648) : Rng (va_up r k v) := by
  intro j
  unfold va_up
  split
  · exact ⟨h1, h2⟩
  · exact h j
theorem RQ_Rng {many : Nat} {r u : Nat → Int} (hq : RQ many r u) (hr : Rng r) (hm : many ≤ 60) : Rng u := by
  obtain ⟨h1, h2, h3, h4, h5⟩ := hq
  intro j
  by_cases a : j < 256
  · have := h1 j a; omega
  · by_cases b : j < 264
    · exact h2 j (by omega) b
    · by_cases c : j = 264
      · rw [c]; omega
      · by_cases d : j < 268
        · rw [h5 j (by omega) (Or.inl d)]; exact hr j
        · by_cases e : j < 276
          · have := h4 (j - 267) (by omega) (by omega)
            rw [show 267 + (j - 267) = j by omega] at this
            omega
          · rw [h5 j (by omega) (Or.inr (by omega))]; exact hr j
theorem flt6_eq (r : Nat → Int) (k : Nat) (c w a n h v : Int) : flt6 r k (c, w, a, n, h, v) =
    (let u := va_up (va_up (va_up (va_up (va_up (va_up (va_up (va_up (va_up (va_up (va_up r 278 (r 278 + 1)) 280 c) 281 k) 282 (r 277)) 283 w) 284 a) 285 n) 289 (if h = -1 then 0 else 1)) 286 (if h = -1 then 0 else h / 2)) 287 (if h = -1 then 0 else h % 2)) 288 (if h = -1 then 0 else v)
    if r (267 + c.toNat) = -1 ∧ c.toNat < 9 then va_up u 276 2 else if c.toNat < 9 then va_up (va_up u 265 (r (267 + c.toNat))) 266 k else flt6 r k (c, w, a, n, h, v)) := by
  by_cases hc : c.toNat < 9
  · simp only [hc, and_true, if_true]
    unfold flt6
    simp (disch := omega) only [va_up_ne]
  · simp only [hc, and_false, if_false]
theorem stp_ok {P : PG} {many : Nat} {T : Int} {r : Nat → Int} (h : RowOK many T r) (pg : ∀ k, k < many → PGk P many k) (hm : many ≤ 60) (hT : T < 1000000) : RowOK many (T + 1) (stp P many r) := by
  by_cases hs : r 276 = 0
  · have ho := h
    obtain ⟨hb, hg, h264, h265, hrun, h266, hgd, h276, h279, h277, h278, hdn, hw0, hw8, hw9, h267⟩ := h
    have hkm := hrun hs
    obtain ⟨k, hk⟩ : ∃ k, k = (r 265).toNat := ⟨_, rfl⟩
    have hk1 : k < many := by omega
    obtain ⟨q1, q2, q3⟩ := exe_ok ho (pg k hk1) hk1
    have qr := RQ_Rng q1 hg hm
    obtain ⟨u, hu⟩ : ∃ u, u = (exe P r k).1 := ⟨_, rfl⟩
    have eqs : stp P many r = va_up (match (exe P r k).2.1 with
      | none => va_up (va_up (rec6 u k) 265 (exe P r k).2.2) 276 (if P 0 k = 24 ∨ (exe P r k).2.2 = many then 1 else 0)
      | some f => flt6 (rec6 u k) k f) 277 ((match (exe P r k).2.1 with
      | none => va_up (va_up (rec6 u k) 265 (exe P r k).2.2) 276 (if P 0 k = 24 ∨ (exe P r k).2.2 = many then 1 else 0)
      | some f => flt6 (rec6 u k) k f) 277 + 1) := by
      unfold stp
      rw [if_pos hs, hu, hk]
      rfl
    rw [← hu] at q1 qr
    obtain ⟨b1, b2, b3, b4, b5⟩ := q1
    have e276 : u 276 = 0 := by rw [b5 _ (by omega) (by omega)]; exact hs
    have e277 : u 277 = r 277 := b5 _ (by omega) (by omega)
    have e278 : u 278 = r 278 := b5 _ (by omega) (by omega)
    have e279 : u 279 = r 277 := by rw [b5 _ (by omega) (by omega)]; exact h279
    have e280 : u 280 = r 280 := b5 _ (by omega) (by omega)
    have e289 : u 289 = r 289 := b5 _ (by omega) (by omega)
    have e266 : u 266 = r 266 := b5 _ (by omega) (by omega)
    have e265 : u 265 = r 265 := b5 _ (by omega) (by omega)
    have e267 : u 267 = -1 := by rw [b5 _ (by omega) (by omega)]; exact h267
    have edn : ∀ j, j < 60 → u (354 + j) = r (354 + j) := fun j hj => b5 _ (by omega) (by omega)
    obtain ⟨t, ht⟩ : ∃ t : Nat, t = (u 279).toNat % 64 := ⟨_, rfl⟩
    have ht64 : t < 64 := by rw [ht]; exact Nat.mod_lt _ (by omega)
    have er := rec6_eq (r := u) (k := k) (by omega)
    rw [← ht, e279, edn k (by omega)] at er
    obtain ⟨v, hv⟩ : ∃ v, v = rec6 u k := ⟨_, rfl⟩
    rw [← hv] at er eqs
    have hdk := hdn k (by omega)
    have vb : Byt v := by rw [er]; exact Byt_hi (Byt_hi (Byt_hi b1 (by omega) _) (by omega) _) (by omega) _
    have vr : Rng v := by rw [er]; exact Rng_up (Rng_up (Rng_up qr (by omega) (by omega)) (by omega) (by omega)) (by omega) (by omega)
    have v264 : v 264 = u 264 := by rw [er]; simp (disch := omega) only [va_up_ne]
    have vgd : ∀ j, 1 ≤ j → j ≤ 8 → v (267 + j) = u (267 + j) := fun j _ _ => by rw [er]; simp (disch := omega) only [va_up_ne]
    have v265 : v 265 = r 265 := by rw [er]; simp (disch := omega) only [va_up_ne]; exact e265
    have v266 : v 266 = r 266 := by rw [er]; simp (disch := omega) only [va_up_ne]; exact e266
    have v267 : v 267 = -1 := by rw [er]; simp (disch := omega) only [va_up_ne]; exact e267
    have v276 : v 276 = 0 := by rw [er]; simp (disch := omega) only [va_up_ne]; exact e276
    have v277 : v 277 = r 277 := by rw [er]; simp (disch := omega) only [va_up_ne]; exact e277
    have v278 : v 278 = r 278 := by rw [er]; simp (disch := omega) only [va_up_ne]; exact e278
    have v279 : v 279 = r 277 + 1 := by rw [er]; simp (disch := omega) only [va_up_ne, va_up_self]
    have v280 : v 280 = r 280 := by rw [er]; simp (disch := omega) only [va_up_ne]; exact e280
    have v289 : v 289 = r 289 := by rw [er]; simp (disch := omega) only [va_up_ne]; exact e289
    have vdn : ∀ j, j < 60 → 0 ≤ v (354 + j) ∧ v (354 + j) ≤ r 277 + 1 := fun j hj => by
      rw [er]
      by_cases hjk : j = k
      · rw [hjk, va_up_self]; omega
      · simp (disch := omega) only [va_up_ne]
        rw [edn j hj]
        have := hdn j hj
        omega
    clear er hv ht
    cases hF : (exe P r k).2.1 with
    | none =>
      rw [hF] at eqs
      have hn := q3 hF
      obtain ⟨nx, hnx⟩ : ∃ nx, nx = (exe P r k).2.2 := ⟨_, rfl⟩
      rw [← hnx] at eqs hn
      obtain ⟨sv, hsv⟩ : ∃ sv : Int, sv = (if P 0 k = 24 ∨ nx = many then 1 else 0) := ⟨_, rfl⟩
      have hsv2 : (sv = 0 ∨ sv = 1) ∧ (sv = 0 → nx < many) := by
        rw [hsv]
        by_cases c : P 0 k = 24 ∨ nx = many
        · rw [if_pos c]; omega
        · rw [if_neg c]; omega
      have eqs2 : stp P many r = va_up (va_up (va_up v 265 nx) 276 sv) 277 (r 277 + 1) := by
        rw [eqs, hsv]
        show va_up (va_up (va_up v 265 nx) 276 _) 277 (va_up (va_up v 265 nx) 276 _ 277 + 1) = _
        simp (disch := omega) only [va_up_ne]
        rw [v277]
      rw [eqs2]
      refine ⟨Byt_hi (Byt_hi (Byt_hi vb (by omega) _) (by omega) _) (by omega) _, Rng_up (Rng_up (Rng_up vr (by omega) (by omega)) (by omega) (by omega)) (by omega) (by omega), ?_, ?_, ?_, ?_, fun j j1 j2 => ?_, ?_, ?_, ?_, ?_, fun j hj => ?_, ?_, ?_, ?_, ?_⟩
      all_goals simp (disch := omega) only [va_up_ne, va_up_self]
      · rw [v264]; exact b3
      · exact hn
      · exact hsv2.2
      · rw [v266]; exact h266
      · rw [vgd j j1 j2]; exact b4 j j1 j2
      · omega
      · exact v279
      · omega
      · rw [v278]; omega
      · exact vdn j hj
      · rw [v278, v280]; exact hw0
      · rw [v280]; exact hw8
      · rw [v289, v280]; exact hw9
      · exact v267
    | some f =>
      rw [hF] at eqs
      obtain ⟨c, wh, a, n, hf, x⟩ := f
      obtain ⟨⟨⟨c1, c2⟩, f2, f3, f4, f5, f6⟩, -⟩ := q2 _ hF
      simp only [] at c1 c2 f2 f3 f4 f5 f6
      have hcn : c.toNat < 9 := by omega
      have e6 := flt6_eq v k c wh a n hf x
      simp only [hcn, and_true, if_true] at e6
      rw [v278, v277, vgd c.toNat (by omega) (by omega)] at e6
      have hgc := b4 c.toNat (by omega) (by omega)
      obtain ⟨z, hz⟩ : ∃ z, z = va_up (va_up (va_up (va_up (va_up (va_up (va_up (va_up (va_up (va_up (va_up v 278 (r 278 + 1)) 280 c) 281 k) 282 (r 277)) 283 wh) 284 a) 285 n) 289 (if hf = -1 then 0 else 1)) 286 (if hf = -1 then 0 else hf / 2)) 287 (if hf = -1 then 0 else hf % 2)) 288 (if hf = -1 then 0 else x) := ⟨_, rfl⟩
      rw [← hz] at e6
      have zb : Byt z := by
        rw [hz]
        exact Byt_hi (Byt_hi (Byt_hi (Byt_hi (Byt_hi (Byt_hi (Byt_hi (Byt_hi (Byt_hi (Byt_hi (Byt_hi vb (by omega) _) (by omega) _) (by omega) _) (by omega) _) (by omega) _) (by omega) _) (by omega) _) (by omega) _) (by omega) _) (by omega) _) (by omega) _
      have h6r : hf ≠ -1 → 0 ≤ hf ∧ hf < 512 ∧ 0 ≤ x ∧ x < 16 := f6
      have zr : Rng z := by
        rw [hz]
        refine Rng_up (Rng_up (Rng_up (Rng_up (Rng_up (Rng_up (Rng_up (Rng_up (Rng_up (Rng_up (Rng_up vr ?_ ?_) ?_ ?_) ?_ ?_) ?_ ?_) ?_ ?_) ?_ ?_) ?_ ?_) ?_ ?_) ?_ ?_) ?_ ?_) ?_ ?_
        all_goals first | omega | (split <;> omega) | (by_cases hh : hf = -1; · (rw [if_pos hh]; omega); · (have := h6r hh; rw [if_neg hh]; omega))
      have z264 : z 264 = u 264 := by rw [hz]; simp (disch := omega) only [va_up_ne]; exact v264
      have z265 : z 265 = r 265 := by rw [hz]; simp (disch := omega) only [va_up_ne]; exact v265
      have z266 : z 266 = r 266 := by rw [hz]; simp (disch := omega) only [va_up_ne]; exact v266
      have z267 : z 267 = -1 := by rw [hz]; simp (disch := omega) only [va_up_ne]; exact v267
      have z276 : z 276 = 0 := by rw [hz]; simp (disch := omega) only [va_up_ne]; exact v276
      have z277 : z 277 = r 277 := by rw [hz]; simp (disch := omega) only [va_up_ne]; exact v277
      have z278 : z 278 = r 278 + 1 := by rw [hz]; simp (disch := omega) only [va_up_ne, va_up_self]
      have z279 : z 279 = r 277 + 1 := by rw [hz]; simp (disch := omega) only [va_up_ne]; exact v279
      have z280 : z 280 = c := by rw [hz]; simp (disch := omega) only [va_up_ne, va_up_self]
      have z289 : z 289 = if hf = -1 then 0 else 1 := by rw [hz]; simp (disch := omega) only [va_up_ne, va_up_self]
      have zgd : ∀ j, 1 ≤ j → j ≤ 8 → z (267 + j) = u (267 + j) := fun j j1 j2 => by rw [hz]; simp (disch := omega) only [va_up_ne]; exact vgd j j1 j2
      have zdn : ∀ j, j < 60 → z (354 + j) = v (354 + j) := fun j _ => by rw [hz]; simp (disch := omega) only [va_up_ne]
      have hflag : (if hf = -1 then (0 : Int) else 1) = if c = 4 ∨ c = 5 then 1 else 0 := by
        by_cases hh : hf = -1
        · rw [if_pos hh, if_neg (by omega)]
        · rw [if_neg hh, if_pos (by omega)]
      clear hz
      by_cases cg : u (267 + c.toNat) = -1
      · rw [if_pos cg] at e6
        have eqs2 : stp P many r = va_up (va_up z 276 2) 277 (r 277 + 1) := by
          rw [eqs]
          show va_up (flt6 v k (c, wh, a, n, hf, x)) 277 (flt6 v k (c, wh, a, n, hf, x) 277 + 1) = _
          rw [e6]
          simp (disch := omega) only [va_up_ne]
          rw [z277]
        rw [eqs2]
        refine ⟨Byt_hi (Byt_hi zb (by omega) _) (by omega) _, Rng_up (Rng_up zr (by omega) (by omega)) (by omega) (by omega), ?_, ?_, ?_, ?_, fun j j1 j2 => ?_, ?_, ?_, ?_, ?_, fun j hj => ?_, ?_, ?_, ?_, ?_⟩
        all_goals simp (disch := omega) only [va_up_ne, va_up_self]
        · rw [z264]; exact b3
        · rw [z265]; exact h265
        · intro q; omega
        · rw [z266]; exact h266
        · rw [zgd j j1 j2]; exact b4 j j1 j2
        · omega
        · exact z279
        · omega
        · rw [z278]; omega
        · rw [zdn j hj]; exact vdn j hj
        · rw [z278, z280]; omega
        · rw [z280]; omega
        · rw [z289, z280]; exact hflag
        · exact z267
      · rw [if_neg cg] at e6
        have eqs2 : stp P many r = va_up (va_up (va_up z 265 (u (267 + c.toNat))) 266 k) 277 (r 277 + 1) := by
          rw [eqs]
          show va_up (flt6 v k (c, wh, a, n, hf, x)) 277 (flt6 v k (c, wh, a, n, hf, x) 277 + 1) = _
          rw [e6]
          simp (disch := omega) only [va_up_ne]
          rw [z277]
        rw [eqs2]
        refine ⟨Byt_hi (Byt_hi (Byt_hi zb (by omega) _) (by omega) _) (by omega) _, Rng_up (Rng_up (Rng_up zr (by omega) (by omega)) (by omega) (by omega)) (by omega) (by omega), ?_, ?_, ?_, ?_, fun j j1 j2 => ?_, ?_, ?_, ?_, ?_, fun j hj => ?_, ?_, ?_, ?_, ?_⟩
        all_goals simp (disch := omega) only [va_up_ne, va_up_self]
        · rw [z264]; exact b3
        · omega
        · intro _; omega
        · omega
        · rw [zgd j j1 j2]; exact b4 j j1 j2
        · rw [z276]; omega
        · exact z279
        · omega
        · rw [z278]; omega
        · rw [zdn j hj]; exact vdn j hj
        · rw [z278, z280]; omega
        · rw [z280]; omega
        · rw [z289, z280]; exact hflag
        · exact z267
  · have e : stp P many r = r := by unfold stp; rw [if_neg hs]
    rw [e]
    obtain ⟨a1, a2, a3, a4, a5, a6, a7, a8, a9, a10, a11⟩ := h
    exact ⟨a1, a2, a3, a4, a5, a6, a7, a8, a9, ⟨a10.1, by omega⟩, a11⟩
end ST2
