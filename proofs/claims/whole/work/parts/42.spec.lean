section SP
/-! WHAT A STEP DOES, told over rows of integers (the places as the reference has them: store 0 .. 255, registers 256 .. 263, 264 CC, 265 NEXT, 266 OLD, 267 + kind the guards, 276 state, 277 TIME, 278 FAULTS, 279 traces, 280 WHY, 286 its half, 289 whether it has one, 290 trace, 354 done) -/
def jF (r : Nat → Int) : Nat → Int32 := fun k => jI (r k)
def hf (r : Nat → Int) (h : Nat) : Int := if h % 2 = 0 then r (h / 2) / 16 else r (h / 2) % 16
def Byt (r : Nat → Int) : Prop := ∀ k, k < 256 → 0 ≤ r k ∧ r k < 256
def Rng (r : Nat → Int) : Prop := ∀ k, -2147483648 ≤ r k ∧ r k < 2147483648
/-- an int that wraps -/
def bm (z : Int) : Int := z.bmod 4294967296
/-- the first of so many places, from one on, that is so; -1 without -/
def fnd (q : Nat → Bool) : Nat → Nat → Int
  | _, 0 => -1
  | lo, n + 1 => if q lo then (lo : Int) else fnd q (lo + 1) n
-- decimal numbers
def dg (v k : Nat) : Nat := v / 10 ^ k % 10
def ndk (v : Nat) : Nat → Nat
  | 0 => 0
  | m + 1 => if dg v m = 0 then ndk v m else m + 1
/-- how many digits without 0 ahead, of at most 64 -/
def nd (v : Nat) : Nat := ndk v 64
/-- a number by its digits, the lowest first -/
def vl10 (f : Nat → Nat) : Nat → Nat
  | 0 => 0
  | m + 1 => vl10 f m + f m * 10 ^ m
def bel (s : Int) : Bool := s == 11 || s == 13
/-- a packed field's number and its sign -/
def pkv (r : Nat → Int) (p n : Nat) : Nat := vl10 (fun i => (hf r (2 * (p + n) - 2 - i)).toNat) (2 * n - 1)
def pks (r : Nat → Int) (p n : Nat) : Bool := bel (hf r (2 * (p + n) - 1))
def flp (r : Nat → Int) (p n : Nat) : Int := fnd (fun h => (9 < hf r h) != (h == 2 * (p + n) - 1)) (2 * p) (2 * n)
/-- a number's lowest digits and a sign are laid -/
def sto (r : Nat → Int) (p n v : Nat) (s : Int) : Nat → Int := fun k =>
  if p ≤ k ∧ k < p + n then 16 * (dg v (2 * (p + n - 1 - k)) : Int) + (if k = p + n - 1 then s else (dg v (2 * (p + n - 1 - k) - 1) : Int)) else r k
-- moves
def trn (v : Int) : Int := 16 * (v % 16) + v / 16
def pk0 (r : Nat → Int) (p n q m : Nat) : Nat → Int := va_up r (p + n - 1) (trn (r (q + m - 1)))
def pkS (r : Nat → Int) (p n q m : Nat) : Nat → Nat → Int
  | 0 => pk0 r p n q m
  | j + 1 => let u := pkS r p n q m j
    va_up u (p + n - 2 - j) (16 * (if 2 * j + 3 ≤ m then u (q + m - 3 - 2 * j) % 16 else 0) + (if 2 * j + 2 ≤ m then u (q + m - 2 - 2 * j) % 16 else 0))
def upS (r : Nat → Int) (p n q m : Nat) : Nat → (Nat → Int) × Int
  | 0 => (pk0 r p n q m, 0)
  | j + 1 => let u := upS r p n q m j
    let v := if j % 2 = 0 then (if j / 2 + 2 ≤ m then u.1 (q + m - 2 - j / 2) else 0) else u.2
    (va_up u.1 (p + n - 2 - j) (240 + (if j % 2 = 0 then v % 16 else v / 16)), v)
def ofS (r : Nat → Int) (p n q m : Nat) : Nat → (Nat → Int) × Int
  | 0 => (r, r (p + n - 1) % 16)
  | j + 1 => let u := ofS r p n q m j
    let v := if j + 1 ≤ m then u.1 (q + m - 1 - j) else 0
    (va_up u.1 (p + n - 1 - j) (16 * (v % 16) + u.2), v / 16)
/-- 0 copy, 1 digits, 2 zones -/
def cpB (o : Nat) (x y : Int) : Int := if o = 0 then y else if o = 1 then x / 16 * 16 + y % 16 else y / 16 * 16 + x % 16
def cpS (o : Nat) (r : Nat → Int) (p q : Nat) : Nat → Nat → Int
  | 0 => r
  | j + 1 => let u := cpS o r p q j
    va_up u (p + j) (cpB o (u (p + j)) (u (q + j)))
-- editing: the row, the next place of the source, a half that waits (-1 none), seen, any, mark (-1 none)
abbrev ES : Type := (Nat → Int) × Int × Int × Bool × Bool × Int
/-- a kind of fault and the place looked at, or a digit, whether a sign above was passed, the next place, what waits -/
def edD (r : Nat → Int) (src waits : Int) : (Int × Int) ⊕ (Int × Bool × Int × Int) :=
  if waits ≠ -1 then .inr (waits, false, src, -1)
  else if src < 0 ∨ 255 < src then .inl (1, src)
  else if 9 < r src.toNat / 16 then .inl (4, src)
  else .inr (r src.toNat / 16, decide (9 < r src.toNat % 16) && !bel (r src.toNat % 16), src + 1, if r src.toNat % 16 < 10 then r src.toNat % 16 else -1)
def edB (fill : Int) (k : Nat) (s : ES) : (Int × Int × (Nat → Int)) ⊕ ES :=
  match s with
  | (r, src, waits, seen, any, mark) =>
    if r k = 32 ∨ r k = 33 then
      match edD r src waits with
      | .inl (c, x) => .inl (c, x, r)
      | .inr (d, above, src', waits') =>
        .inr (va_up r k (if d = 0 ∧ seen = false then fill else 240 + d), src', waits', !above && (seen || d != 0 || r k == 33), any || d != 0, if d ≠ 0 ∧ seen = false then (k : Int) else mark)
    else if r k = 34 then .inr (va_up r k fill, src, waits, false, false, mark)
    else .inr ((if seen then r else va_up r k fill), src, waits, seen, any, mark)
def edS (r : Nat → Int) (p : Nat) (src : Int) : Nat → (Int × Int × (Nat → Int)) ⊕ ES
  | 0 => .inr (r, src, -1, false, false, -1)
  | j + 1 => match edS r p src j with
    | .inl x => .inl x
    | .inr s => edB (r p) (p + j) s
-- a fault: kind, operand, its address, its length, the half (-1 none), what that holds
abbrev FT6 : Type := Int × Int × Int × Int × Int × Int
/-- a program: 0 its operations, 1 places, 2 registers of addresses, 3 lengths (2 an instruction), 4, 5 numbers, 6 targets, 7 what is laid -/
abbrev PG : Type := Nat → Nat → Int
def adr (P : PG) (r : Nat → Int) (k j : Nat) : Int := bm (P 1 (2 * k + j) + if P 2 (2 * k + j) = -1 then 0 else r (256 + (P 2 (2 * k + j)).toNat))
def opA (P : PG) (r : Nat → Int) (k : Nat) : Int := if P 0 k ≤ 17 then adr P r k 0 else 0
def opB (P : PG) (r : Nat → Int) (k : Nat) : Int := if P 0 k ≤ 13 then adr P r k 1 else 0
def lnA (P : PG) (k : Nat) : Int := if P 0 k = 16 ∨ P 0 k = 17 then 8 else if P 0 k ≤ 15 then P 3 (2 * k) else 0
def lnB (P : PG) (k : Nat) : Int := if P 0 k ≤ 8 then P 3 (2 * k + 1) else if P 0 k ≤ 11 then lnA P k else 0
def isF (p n : Int) : Bool := decide (0 ≤ p ∧ p ≤ 256 - n)
def chk (o : Int) (r : Nat → Int) (a n b m : Int) : Option FT6 :=
  if o ≤ 17 ∧ isF a n = false then some (1, 0, a, n, -1, 0)
  else if o ≤ 11 ∧ isF b m = false then some (1, 1, b, m, -1, 0)
  else if (o = 7 ∨ o = 8) ∧ (8 < m ∨ n ≤ m) then some (2, 1, b, m, -1, 0)
  else if (o = 4 ∨ o = 5 ∨ o = 7 ∨ o = 8) ∧ (a < b + m ∧ b < a + n) ∧ a + n ≠ b + m then some (3, 1, b, m, -1, 0)
  else if o = 3 ∧ (a < b + m ∧ b < a + n) ∧ a + n < b + m then some (3, 1, b, m, -1, 0)
  else if ((4 ≤ o ∧ o ≤ 8) ∨ o = 14 ∨ o = 16) ∧ flp r a.toNat n.toNat ≠ -1 then some (4, 0, a, n, flp r a.toNat n.toNat, hf r (flp r a.toNat n.toNat).toNat)
  else if (3 ≤ o ∧ o ≤ 8) ∧ flp r b.toNat m.toNat ≠ -1 then some (4, 1, b, m, flp r b.toNat m.toNat, hf r (flp r b.toNat m.toNat).toNat)
  else none
def ssum (s t : Bool) (v u : Nat) : Nat × Bool := if s = t then (v + u, s) else if u ≤ v then (v - u, s && decide (v - u ≠ 0)) else (u - v, t)
def ccK (v : Nat) (s : Bool) : Int := if v = 0 then 0 else if s then 1 else 2
/-- a result is laid, CC told; 6 if it has no room and that is guarded -/
def fin6 (r : Nat → Int) (p n v : Nat) (s : Bool) : (Nat → Int) × Option FT6 :=
  (sto (va_up r 264 (if 2 * n - 1 < nd v then 3 else ccK v s)) p n v (if s ∧ v ≠ 0 then 13 else 12),
   if 2 * n - 1 < nd v ∧ r 273 ≠ -1 then some (6, 0, p, n, -1, 0) else none)
def rnd (v n r : Nat) : Nat := v / 10 ^ n + if 9 < dg v (n - 1) + r then 1 else 0
/-- what an instruction does that has no fault of kinds 1 to 4 (but edit's): the row, a fault, what is next -/
def prf (P : PG) (r : Nat → Int) (k : Nat) : (Nat → Int) × Option FT6 × Int :=
  let o := P 0 k; let a := (opA P r k).toNat; let b := (opB P r k).toNat; let n := (lnA P k).toNat; let m := (lnB P k).toNat; let nx := (k : Int) + 1
  if o = 0 then (pkS r a n b m (n - 1), none, nx)
  else if o = 1 then ((upS r a n b m (n - 1)).1, none, nx)
  else if o = 2 then ((ofS r a n b m n).1, none, nx)
  else if o = 3 then let x := fin6 r a n (pkv r b m) (pks r b m); (x.1, x.2, nx)
  else if o = 4 ∨ o = 5 then
    let s := ssum (pks r a n) (pks r b m != decide (o = 5)) (pkv r a n) (pkv r b m)
    let x := fin6 r a n s.1 s.2; (x.1, x.2, nx)
  else if o = 6 then
    let s := ssum (pks r a n) (!pks r b m) (pkv r a n) (pkv r b m); (va_up r 264 (ccK s.1 s.2), none, nx)
  else if o = 7 then
    let z := fnd (fun h => hf r h != 0) (2 * a) (2 * m)
    if z ≠ -1 then (r, some (5, 0, (a : Int), (n : Int), z, hf r z.toNat), nx)
    else (sto r a n (pkv r a n * pkv r b m) (if pks r a n != pks r b m then 13 else 12), none, nx)
  else if o = 8 then
    if pkv r b m = 0 ∨ 2 * (n - m) - 1 < nd (pkv r a n / pkv r b m) then (r, some (7, 0, (a : Int), (n : Int), -1, 0), nx)
    else (sto (sto r a (n - m) (pkv r a n / pkv r b m) (if pks r a n != pks r b m then 13 else 12)) (a + n - m) m (pkv r a n % pkv r b m) (if pks r a n then 13 else 12), none, nx)
  else if o = 9 ∨ o = 10 ∨ o = 11 then (cpS (o - 9).toNat r a b n, none, nx)
  else if o = 12 ∨ o = 13 then
    match edS r a (opB P r k) n with
    | .inl (c, x, u) => (r, some (c, 1, x, 1, (if c = 4 then 2 * x else -1), if c = 4 then u x.toNat / 16 else 0), nx)
    | .inr (u, _, _, seen, any, mark) =>
      let u := va_up u 264 (if any then (if seen then 1 else 2) else 0)
      ((if o = 13 ∧ mark ≠ -1 then va_up u 257 mark else u), none, nx)
  else if o = 14 then
    let x := fin6 r a n (if P 4 k < 0 then rnd (pkv r a n) (-P 4 k).toNat (P 5 k).toNat else pkv r a n * 10 ^ (P 4 k).toNat) (pks r a n); (x.1, x.2, nx)
  else if o = 15 then (va_up r 264 ((if fnd (fun h => 9 < hf r h) (2 * a) (2 * n - 1) = -1 then 0 else 2) + (if 9 < hf r (2 * (a + n) - 1) then 0 else 1)), none, nx)
  else if o = 16 then
    let v : Int := if pks r a n then -(pkv r a n : Int) else pkv r a n
    if v < -2147483648 ∨ 2147483647 < v then (r, some (8, 0, (a : Int), (n : Int), -1, 0), nx) else (va_up r (256 + (P 4 k).toNat) v, none, nx)
  else if o = 17 then (sto r a n (r (256 + (P 4 k).toNat)).natAbs (if r (256 + (P 4 k).toNat) < 0 then 13 else 12), none, nx)
  else if o = 18 then (va_up r (256 + (P 4 k).toNat) (adr P r k 0), none, nx)
  else if o = 19 then (va_up r (256 + (P 4 k).toNat) (bm (r (256 + (P 4 k).toNat) + P 5 k)), none, nx)
  else if o = 20 then (va_up r (256 + (P 4 k).toNat) (bm (r (256 + (P 4 k).toNat) - 1)), none, if bm (r (256 + (P 4 k).toNat) - 1) = 0 then nx else P 6 k)
  else if o = 21 then (r, none, if (P 4 k).toNat / 2 ^ (3 - (r 264).toNat) % 2 = 1 then P 6 k else nx)
  else if o = 22 then (va_up r (267 + (P 4 k).toNat) (P 6 k), none, nx)
  else if o = 23 then (r, none, if r 266 = -1 then nx else r 266 + 1)
  else (r, none, nx)
def exe (P : PG) (r : Nat → Int) (k : Nat) : (Nat → Int) × Option FT6 × Int :=
  match chk (P 0 k) r (opA P r k) (lnA P k) (opB P r k) (lnB P k) with
  | some f => (r, some f, (k : Int) + 1)
  | none => prf P r k
/-- a step is told: trace, how often -/
def rec6 (r : Nat → Int) (k : Nat) : Nat → Int :=
  let r := va_up r (290 + (r 279).toNat % 64) k
  let r := va_up r 279 (r 279 + 1)
  va_up r (354 + k) (r (354 + k) + 1)
def flt6 (r : Nat → Int) (k : Nat) (f : FT6) : Nat → Int :=
  match f with
  | (c, w, a, n, h, v) =>
    let r := va_up r 278 (r 278 + 1)
    let r := va_up r 280 c
    let r := va_up r 281 k
    let r := va_up r 282 (r 277)
    let r := va_up r 283 w
    let r := va_up r 284 a
    let r := va_up r 285 n
    let r := va_up r 289 (if h = -1 then 0 else 1)
    let r := va_up r 286 (if h = -1 then 0 else h / 2)
    let r := va_up r 287 (if h = -1 then 0 else h % 2)
    let r := va_up r 288 (if h = -1 then 0 else v)
    if r (267 + c.toNat) = -1 then va_up r 276 2 else va_up (va_up r 265 (r (267 + c.toNat))) 266 k
def stp (P : PG) (many : Nat) (r : Nat → Int) : Nat → Int :=
  if r 276 = 0 then
    let k := (r 265).toNat
    let x := exe P r k
    let u := rec6 x.1 k
    let u := match x.2.1 with
      | none => va_up (va_up u 265 x.2.2) 276 (if P 0 k = 24 ∨ x.2.2 = many then 1 else 0)
      | some f => flt6 u k f
    va_up u 277 (u 277 + 1)
  else r
/-- the kind of the fault of a step of a row that runs, 0 without -/
def knd (P : PG) (r : Nat → Int) : Int := match (exe P r (r 265).toNat).2.1 with
  | none => 0
  | some f => f.1
end SP
