section ST3
/-- what WHY tells of a fault -/
def why6 (r : Nat → Int) (k : Nat) (f : FT6) : Nat → Int := match f with
  | (c, w, a, n, h, v) => va_up (va_up (va_up (va_up (va_up (va_up (va_up (va_up (va_up (va_up (va_up r 278 (r 278 + 1)) 280 c) 281 k) 282 (r 277)) 283 w) 284 a) 285 n) 289 (if h = -1 then 0 else 1)) 286 (if h = -1 then 0 else h / 2)) 287 (if h = -1 then 0 else h % 2)) 288 (if h = -1 then 0 else v)
theorem flt6_why {r : Nat → Int} {k : Nat} {f : FT6} (hc : f.1.toNat < 9) : flt6 r k f = if r (267 + f.1.toNat) = -1 then va_up (why6 r k f) 276 2 else va_up (va_up (why6 r k f) 265 (r (267 + f.1.toNat))) 266 k := by
  obtain ⟨c, w, a, n, h, v⟩ := f
  have hc : c.toNat < 9 := hc
  unfold flt6 why6
  simp (disch := omega) only [va_up_ne]
theorem why6_ne {r : Nat → Int} {k j : Nat} {f : FT6} (h : j < 278 ∨ j = 279 ∨ 290 ≤ j) : why6 r k f j = r j := by
  obtain ⟨c, w, a, n, h, v⟩ := f
  unfold why6
  simp (disch := omega) only [va_up_ne]
theorem why_row {u g : Nat → Int} {q : Nat → Int32} {k : Nat} {f : FT6} (q0 : q 0 = jI f.1) (q1 : q 1 = jI (k : Int)) (q2 : q 2 = jI (u 277)) (rs : RsF q f) :
    va_up (fun j => if 278 ≤ j ∧ j < 287 then q (j - 278) else jI (cls u g j)) 277 (jI (cls u g 277 + 1)) = jF (cls (why6 u k f) (fun i => (q (6 + i)).toInt)) := by
  obtain ⟨c, w, a, n, h, v⟩ := f
  obtain ⟨r3, r4, r5, r6⟩ := rs
  have q0 : q 0 = jI c := q0
  have r3 : q 3 = jI w := r3
  have r4 : q 4 = jI a := r4
  have r5 : q 5 = jI n := r5
  have r6 : h ≠ -1 → q 6 = jI (h / 2) ∧ q 7 = jI (h % 2) ∧ q 8 = jI v := r6
  funext j
  by_cases h1 : j = 277
  · subst h1
    rw [va_up_self, jF_at, cls_tm (by omega) (by omega), cls_tm (by omega) (by omega)]
    unfold why6
    simp (disch := omega) only [va_up_ne, va_up_self]
  rw [va_up_ne _ _ h1, jF_at]
  by_cases h2 : 278 ≤ j ∧ j < 287
  · show (if 278 ≤ j ∧ j < 287 then q (j - 278) else jI (cls u g j)) = _
    rw [if_pos h2]
    have : j = 278 ∨ j = 279 ∨ j = 280 ∨ j = 281 ∨ j = 282 ∨ j = 283 ∨ j = 284 ∨ j = 285 ∨ j = 286 := by omega
    rcases this with e | e | e | e | e | e | e | e | e
    · subst e
      rw [cls_wy (by omega) (by omega)]
      show q 0 = _
      rw [q0]
      unfold why6
      simp (disch := omega) only [va_up_ne, va_up_self]
    · subst e
      rw [cls_wy (by omega) (by omega)]
      show q 1 = _
      rw [q1]
      unfold why6
      simp (disch := omega) only [va_up_ne, va_up_self]
    · subst e
      rw [cls_wy (by omega) (by omega)]
      show q 2 = _
      rw [q2]
      unfold why6
      simp (disch := omega) only [va_up_ne, va_up_self]
    · subst e
      rw [cls_wy (by omega) (by omega)]
      show q 3 = _
      rw [r3]
      unfold why6
      simp (disch := omega) only [va_up_ne, va_up_self]
    · subst e
      rw [cls_wy (by omega) (by omega)]
      show q 4 = _
      rw [r4]
      unfold why6
      simp (disch := omega) only [va_up_ne, va_up_self]
    · subst e
      rw [cls_wy (by omega) (by omega)]
      show q 5 = _
      rw [r5]
      unfold why6
      simp (disch := omega) only [va_up_ne, va_up_self]
    · subst e
      rw [cls_hf (by omega) (by omega)]
      show q 6 = _
      unfold why6
      simp (disch := omega) only [va_up_ne, va_up_self]
      by_cases hh : h = -1
      · rw [if_pos hh, if_pos rfl]
        exact (jI_of _).symm
      · rw [if_neg hh, if_neg (by omega), if_neg hh]
        exact (r6 hh).1
    · subst e
      rw [cls_hf (by omega) (by omega)]
      show q 7 = _
      unfold why6
      simp (disch := omega) only [va_up_ne, va_up_self]
      by_cases hh : h = -1
      · rw [if_pos hh, if_pos rfl]
        exact (jI_of _).symm
      · rw [if_neg hh, if_neg (by omega), if_neg hh]
        exact (r6 hh).2.1
    · subst e
      rw [cls_hf (by omega) (by omega)]
      show q 8 = _
      unfold why6
      simp (disch := omega) only [va_up_ne, va_up_self]
      by_cases hh : h = -1
      · rw [if_pos hh, if_pos rfl]
        exact (jI_of _).symm
      · rw [if_neg hh, if_neg (by omega), if_neg hh]
        exact (r6 hh).2.2
  · show (if 278 ≤ j ∧ j < 287 then q (j - 278) else jI (cls u g j)) = _
    rw [if_neg h2]
    congr 1
    by_cases c1 : j = 267
    · rw [c1, cls_st, cls_st, why6_ne (by omega)]
    by_cases c2 : j < 276
    · rw [cls_lo c2 c1, cls_lo c2 c1, why6_ne (by omega)]
    by_cases c3 : j = 276
    · rw [c3, cls_tm (by omega) (by omega), cls_tm (by omega) (by omega), why6_ne (by omega)]
    by_cases c4 : j < 411
    · rw [cls_hi (by omega) c4, cls_hi (by omega) c4, why6_ne (by omega)]
    · unfold cls
      simp (disch := omega) only [if_neg]
/-- the class counts its TIME, the reference its trace too -/
theorem fin_none {u : Nat → Int} {k : Nat} {nx c : Int} (hk : k < 60) (e9 : u 279 = u 277) : va_up (va_up (va_up (rec6 u k) 265 nx) 276 c) 277 (u 277 + 1) = va_up (va_up (va_up (va_up (va_up (va_up u (290 + (u 277).toNat % 64) k) (354 + k) (u (354 + k) + 1)) 277 (u 277 + 1)) 265 nx) 276 c) 279 (u 277 + 1) := by
  obtain ⟨t, ht, ht2⟩ : ∃ t : Nat, t = (u 277).toNat % 64 ∧ t < 64 := ⟨_, rfl, Nat.mod_lt _ (by omega)⟩
  unfold rec6
  rw [e9, ← ht]
  clear ht
  funext j
  by_cases h265 : j = 265
  · rw [h265]; simp (disch := omega) only [va_up_ne, va_up_self]
  by_cases h276 : j = 276
  · rw [h276]; simp (disch := omega) only [va_up_ne, va_up_self]
  by_cases h277 : j = 277
  · rw [h277]; simp (disch := omega) only [va_up_ne, va_up_self]
  by_cases h279 : j = 279
  · rw [h279]; simp (disch := omega) only [va_up_ne, va_up_self]; rw [e9]
  by_cases h354k : j = 354 + k
  · rw [h354k]; simp (disch := omega) only [va_up_ne, va_up_self]
  by_cases h290t : j = 290 + t
  · rw [h290t]; simp (disch := omega) only [va_up_ne, va_up_self]
  simp (disch := omega) only [va_up_ne]
theorem fin_some {u : Nat → Int} {k : Nat} {f : FT6} (hk : k < 60) (e9 : u 279 = u 277) (hc : f.1.toNat < 9) (hc1 : 1 ≤ f.1.toNat) :
    va_up (flt6 (rec6 u k) k f) 277 (u 277 + 1) = va_up (if (why6 u k f) (267 + f.1.toNat) = -1 then va_up (va_up (va_up (va_up (why6 u k f) (290 + (u 277).toNat % 64) k) (354 + k) (u (354 + k) + 1)) 277 (u 277 + 1)) 276 2 else va_up (va_up (va_up (va_up (va_up (why6 u k f) (290 + (u 277).toNat % 64) k) (354 + k) (u (354 + k) + 1)) 277 (u 277 + 1)) 265 (why6 u k f (267 + f.1.toNat))) 266 k) 279 (u 277 + 1) := by
  rw [flt6_why hc]
  obtain ⟨c, w, a, n, h, v⟩ := f
  have hc : c.toNat < 9 := hc
  have hc1 : 1 ≤ c.toNat := hc1
  obtain ⟨t, ht, ht2⟩ : ∃ t : Nat, t = (u 277).toNat % 64 ∧ t < 64 := ⟨_, rfl, Nat.mod_lt _ (by omega)⟩
  have eg : (rec6 u k) (267 + c.toNat) = u (267 + c.toNat) := by
    unfold rec6
    rw [e9, ← ht]
    simp (disch := omega) only [va_up_ne]
  have eg2 : why6 u k (c, w, a, n, h, v) (267 + c.toNat) = u (267 + c.toNat) := why6_ne (by omega)
  show va_up (if rec6 u k (267 + c.toNat) = -1 then va_up (why6 (rec6 u k) k (c, w, a, n, h, v)) 276 2 else va_up (va_up (why6 (rec6 u k) k (c, w, a, n, h, v)) 265 (rec6 u k (267 + c.toNat))) 266 k) 277 (u 277 + 1) = va_up (if why6 u k (c, w, a, n, h, v) (267 + c.toNat) = -1 then _ else va_up (va_up _ 265 (why6 u k (c, w, a, n, h, v) (267 + c.toNat))) 266 k) 279 (u 277 + 1)
  rw [eg, eg2, ← ht]
  obtain ⟨z, hz⟩ : ∃ z, z = u (267 + c.toNat) := ⟨_, rfl⟩
  rw [← hz]
  clear eg eg2 hz
  unfold why6 rec6
  rw [e9, ← ht]
  clear ht
  by_cases cz : z = -1
  · rw [if_pos cz, if_pos cz]
    funext j
    by_cases h276 : j = 276
    · rw [h276]; simp (disch := omega) only [va_up_ne, va_up_self]
    by_cases h277 : j = 277
    · rw [h277]; simp (disch := omega) only [va_up_ne, va_up_self]
    by_cases h278 : j = 278
    · rw [h278]; simp (disch := omega) only [va_up_ne, va_up_self]
    by_cases h279 : j = 279
    · rw [h279]; simp (disch := omega) only [va_up_ne, va_up_self]; rw [e9]
    by_cases h280 : j = 280
    · rw [h280]; simp (disch := omega) only [va_up_ne, va_up_self]
    by_cases h281 : j = 281
    · rw [h281]; simp (disch := omega) only [va_up_ne, va_up_self]
    by_cases h282 : j = 282
    · rw [h282]; simp (disch := omega) only [va_up_ne, va_up_self]
    by_cases h283 : j = 283
    · rw [h283]; simp (disch := omega) only [va_up_ne, va_up_self]
    by_cases h284 : j = 284
    · rw [h284]; simp (disch := omega) only [va_up_ne, va_up_self]
    by_cases h285 : j = 285
    · rw [h285]; simp (disch := omega) only [va_up_ne, va_up_self]
    by_cases h286 : j = 286
    · rw [h286]; simp (disch := omega) only [va_up_ne, va_up_self]
    by_cases h287 : j = 287
    · rw [h287]; simp (disch := omega) only [va_up_ne, va_up_self]
    by_cases h288 : j = 288
    · rw [h288]; simp (disch := omega) only [va_up_ne, va_up_self]
    by_cases h289 : j = 289
    · rw [h289]; simp (disch := omega) only [va_up_ne, va_up_self]
    by_cases h354k : j = 354 + k
    · rw [h354k]; simp (disch := omega) only [va_up_ne, va_up_self]
    by_cases h290t : j = 290 + t
    · rw [h290t]; simp (disch := omega) only [va_up_ne, va_up_self]
    simp (disch := omega) only [va_up_ne]
  · rw [if_neg cz, if_neg cz]
    funext j
    by_cases h265 : j = 265
    · rw [h265]; simp (disch := omega) only [va_up_ne, va_up_self]
    by_cases h266 : j = 266
    · rw [h266]; simp (disch := omega) only [va_up_ne, va_up_self]
    by_cases h277 : j = 277
    · rw [h277]; simp (disch := omega) only [va_up_ne, va_up_self]
    by_cases h278 : j = 278
    · rw [h278]; simp (disch := omega) only [va_up_ne, va_up_self]
    by_cases h279 : j = 279
    · rw [h279]; simp (disch := omega) only [va_up_ne, va_up_self]; rw [e9]
    by_cases h280 : j = 280
    · rw [h280]; simp (disch := omega) only [va_up_ne, va_up_self]
    by_cases h281 : j = 281
    · rw [h281]; simp (disch := omega) only [va_up_ne, va_up_self]
    by_cases h282 : j = 282
    · rw [h282]; simp (disch := omega) only [va_up_ne, va_up_self]
    by_cases h283 : j = 283
    · rw [h283]; simp (disch := omega) only [va_up_ne, va_up_self]
    by_cases h284 : j = 284
    · rw [h284]; simp (disch := omega) only [va_up_ne, va_up_self]
    by_cases h285 : j = 285
    · rw [h285]; simp (disch := omega) only [va_up_ne, va_up_self]
    by_cases h286 : j = 286
    · rw [h286]; simp (disch := omega) only [va_up_ne, va_up_self]
    by_cases h287 : j = 287
    · rw [h287]; simp (disch := omega) only [va_up_ne, va_up_self]
    by_cases h288 : j = 288
    · rw [h288]; simp (disch := omega) only [va_up_ne, va_up_self]
    by_cases h289 : j = 289
    · rw [h289]; simp (disch := omega) only [va_up_ne, va_up_self]
    by_cases h354k : j = 354 + k
    · rw [h354k]; simp (disch := omega) only [va_up_ne, va_up_self]
    by_cases h290t : j = 290 + t
    · rw [h290t]; simp (disch := omega) only [va_up_ne, va_up_self]
    simp (disch := omega) only [va_up_ne]
end ST3
