/-! The interpreter: values, cells, worlds, states; what a step does. Defs alone. -/
/-- a value: int constant, int symbol, long constant, long symbol, reference (null, or a cell's number), a reference to something outside the world -/
abbrev AV : Type := Int ⊕ (Nat ⊕ (Nat ⊕ (Nat ⊕ (Option Nat ⊕ Nat))))
abbrev aI (z : Int) : AV := .inl z
abbrev aS (k : Nat) : AV := .inr (.inl k)
abbrev aJ (n : Nat) : AV := .inr (.inr (.inl n))
abbrev aU (k : Nat) : AV := .inr (.inr (.inr (.inl k)))
abbrev aR (r : Option Nat) : AV := .inr (.inr (.inr (.inr (.inl r))))
abbrev aX (k : Nat) : AV := .inr (.inr (.inr (.inr (.inr k))))
/-- an array's contents: one by one, or by bounds (and the number of its symbol) -/
abbrev AB : Type := List AV ⊕ (Int × Int × Nat)
/-- a cell: an array (type, length, contents), or an object (class, fields) -/
abbrev AC : Type := (Nat × Nat × AB) ⊕ (Nat × List AV)
/-- symbols of ints: least, greatest, of which symbol, how far from it -/
abbrev AE : Type := List (Int × Int × Nat × Int)
/-- cells: how many, those that differ from the base -/
abbrev AH : Type := Nat × List (Nat × AC)
/-- a world: symbols of ints, cells, how many symbols of longs, of arrays, of things outside -/
abbrev AW : Type := AE × AH × Nat × Nat × Nat
abbrev wE (w : AW) : AE := w.1
abbrev wH (w : AW) : AH := w.2.1
abbrev wL (w : AW) : Nat := w.2.2.1
abbrev wA (w : AW) : Nat := w.2.2.2.1
abbrev wX (w : AW) : Nat := w.2.2.2.2
/-- what an activation holds where a loop was entered: locals, world, how many symbols there were of each kind -/
abbrev ALp : Type := Nat × List (Option AV) × AW × (Nat × Nat × Nat)
/-- a state of an activation: pc, locals, stack, world, loops, cells and slots made -/
abbrev AS : Type := Nat × List (Option AV) × List AV × AW × List ALp × Nat × Nat
abbrev sPc (s : AS) : Nat := s.1
abbrev sLv (s : AS) : List (Option AV) := s.2.1
abbrev sSt (s : AS) : List AV := s.2.2.1
abbrev sW (s : AS) : AW := s.2.2.2.1
abbrev sLp (s : AS) : List ALp := s.2.2.2.2.1
abbrev sC (s : AS) : Nat := s.2.2.2.2.2.1
abbrev sS (s : AS) : Nat := s.2.2.2.2.2.2
/-- an end: a value or none, or an exception (by its number); the world then -/
abbrev AR : Type := (Option AV ⊕ Nat) × AW
def iLo : Int := -2147483648
def iHi : Int := 2147483647
def inI (z : Int) : Bool := decide (iLo ≤ z) && decide (z ≤ iHi)
/-- bounds of an int -/
def aBd (E : AE) : AV → Option (Int × Int)
  | .inl z => if inI z then some (z, z) else none
  | .inr (.inl k) => match E[k]? with
    | some b => some (b.1, b.2.1)
    | none => none
  | _ => none
/-- a symbol with one value is that value -/
def aNm (E : AE) : AV → AV
  | .inr (.inl k) => match E[k]? with
    | some b => if b.1 = b.2.1 then .inl b.1 else .inr (.inl k)
    | none => .inr (.inl k)
  | a => a
def aCat : AV → Nat
  | .inr (.inr (.inl _)) => 2
  | .inr (.inr (.inr (.inl _))) => 2
  | _ => 1
def aIsI : AV → Bool
  | .inl _ => true
  | .inr (.inl _) => true
  | _ => false
def aIsL : AV → Bool
  | .inr (.inr (.inl _)) => true
  | .inr (.inr (.inr (.inl _))) => true
  | _ => false
def aIsR : AV → Bool
  | .inr (.inr (.inr (.inr _))) => true
  | _ => false
/-- cells -/
def hFind : List (Nat × AC) → Nat → Option AC
  | [], _ => none
  | (j, c) :: r, i => if Nat.beq j i then some c else hFind r i
def hGet (B : Nat → AC) (h : AH) (i : Nat) : AC := match hFind h.2 i with
  | some c => c
  | none => B i
def hDrop : List (Nat × AC) → Nat → List (Nat × AC)
  | [], _ => []
  | (j, c) :: r, i => if Nat.beq j i then r else (j, c) :: hDrop r i
def hSet (h : AH) (i : Nat) (c : AC) : AH := (h.1, (i, c) :: hDrop h.2 i)
def hAdd (h : AH) (c : AC) : AH := (h.1 + 1, (h.1, c) :: h.2)
/-- locals -/
def lGet (l : List (Option AV)) (i : Nat) : Option AV := match l[i]? with
  | some (some a) => some a
  | _ => none
def lPrev (l : List (Option AV)) : Nat → List (Option AV)
  | 0 => l
  | i + 1 => match l[i]? with
    | some (some a) => if Nat.beq (aCat a) 2 then l.set i none else l
    | _ => l
def lSet (l : List (Option AV)) (i : Nat) (a : AV) : List (Option AV) :=
  let l1 := (lPrev l i).set i (some a)
  if Nat.beq (aCat a) 2 then l1.set (i + 1) none else l1
/-- fresh symbols -/
def wNewI (w : AW) (lo hi : Int) (bo : Option (Nat × Int)) : AW × AV :=
  let k := (wE w).length
  (((wE w) ++ [match bo with | some (b, o) => (lo, hi, b, o) | none => (lo, hi, k, 0)], w.2), aS k)
def wNewU (w : AW) : AW × AV := ((w.1, w.2.1, wL w + 1, wA w, wX w), aU (wL w))
def wNewX (w : AW) : AW × AV := ((w.1, w.2.1, wL w, wA w, wX w + 1), aX (wX w))
def wTop (w : AW) : AW × AV := wNewI w iLo iHi none
/-- ints -/
def zWr (z : Int) : Int := if inI z then z else Int.bmod z 4294967296
def zN (z : Int) : Nat := (z % 4294967296).toNat
def zOf (n : Nat) : Int := if Nat.ble n 2147483647 then (n : Int) else (n : Int) - 4294967296
def iop (w : AW) (op : Nat) (x y : AV) : Option (AW × AV) :=
  match x, y with
  | .inl a, .inl b =>
    if inI a && inI b then
      match op with
      | 0 => some (w, aI (zWr (a + b)))
      | 1 => some (w, aI (zWr (a - b)))
      | 2 => some (w, aI (zWr (a * b)))
      | 3 => if b = 0 then none else some (w, aI (zWr (a.tdiv b)))
      | 4 => if b = 0 then none else some (w, aI (zWr (a - a.tdiv b * b)))
      | 5 => some (w, aI (zOf (Nat.land (zN a) (zN b))))
      | 6 => some (w, aI (zOf (Nat.lor (zN a) (zN b))))
      | 7 => some (w, aI (zOf (Nat.xor (zN a) (zN b))))
      | 8 => some (w, aI (zOf ((zN a * 2 ^ (zN b % 32)) % 4294967296)))
      | 9 => some (w, aI (a / 2 ^ (zN b % 32)))
      | 10 => some (w, aI (zOf (zN a / 2 ^ (zN b % 32))))
      | _ => none
    else none
  | .inr (.inl k), .inl b =>
    match (wE w)[k]? with
    | none => none
    | some e =>
      if inI b then
        match op with
        | 0 => if inI (e.1 + b) && inI (e.2.1 + b) then some (wNewI w (e.1 + b) (e.2.1 + b) (some (e.2.2.1, e.2.2.2 + b))) else some (wTop w)
        | 1 => if inI (e.1 - b) && inI (e.2.1 - b) then some (wNewI w (e.1 - b) (e.2.1 - b) (some (e.2.2.1, e.2.2.2 - b))) else some (wTop w)
        | 3 => none
        | 4 => none
        | 5 => if 0 ≤ b then some (wNewI w 0 b none) else some (wTop w)
        | _ => if Nat.ble op 10 then some (wTop w) else none
      else none
  | _, _ => if aIsI x && aIsI y && Nat.ble op 10 && !(Nat.beq op 3) && !(Nat.beq op 4) then some (wTop w) else none
/-- longs -/
def lop (w : AW) (op : Nat) (x y : AV) : Option (AW × AV) :=
  match x, y with
  | .inr (.inr (.inl a)), .inr (.inr (.inl b)) =>
    match op with
    | 0 => some (w, aJ ((a + b) % 18446744073709551616))
    | 1 => if Nat.ble b 18446744073709551616 then some (w, aJ ((a + (18446744073709551616 - b)) % 18446744073709551616)) else none
    | 2 => some (w, aJ (Nat.land a b))
    | 3 => some (w, aJ (Nat.lor a b))
    | 4 => some (w, aJ (Nat.xor a b))
    | _ => none
  | _, _ => if aIsL x && aIsL y && Nat.ble op 4 then some (wNewU w) else none
def lSh (w : AW) (left : Bool) (x y : AV) : Option (AW × AV) :=
  match x, y with
  | .inr (.inr (.inl a)), .inl b =>
    if Nat.blt a 18446744073709551616 && inI b then
      if left then some (w, aJ ((a * 2 ^ (zN b % 64)) % 18446744073709551616)) else some (w, aJ (a / 2 ^ (zN b % 64)))
    else none
  | _, _ => if aIsL x && aIsI y then some (match x with | .inr (.inr (.inl 0)) => (w, aJ 0) | _ => wNewU w) else none
def lSg (a : Nat) : Int := if Nat.blt a 9223372036854775808 then (a : Int) else (a : Int) - 18446744073709551616
def lCm (w : AW) (x y : AV) : Option (AW × AV) :=
  match x, y with
  | .inr (.inr (.inl a)), .inr (.inr (.inl b)) =>
    if Nat.blt a 18446744073709551616 && Nat.blt b 18446744073709551616 then some (w, aI (if lSg b < lSg a then 1 else if lSg a = lSg b then 0 else -1)) else none
  | _, _ => if aIsL x && aIsL y then some (wNewI w (-1) 1 none) else none
/-- bounds made narrower; none: it cannot be -/
def eSet (E : AE) (k : Nat) (lo hi : Int) : AE := match E[k]? with
  | some b => E.set k (lo, hi, b.2.2.1, b.2.2.2)
  | none => E
def rLo (E : AE) (a : AV) (lo : Int) : Option AE :=
  match a with
  | .inl z => if lo ≤ z then some E else none
  | .inr (.inl k) => match E[k]? with
    | some b => if lo ≤ b.1 then some E else if lo ≤ b.2.1 then some (eSet E k lo b.2.1) else none
    | none => some E
  | _ => some E
def rHi (E : AE) (a : AV) (hi : Int) : Option AE :=
  match a with
  | .inl z => if z ≤ hi then some E else none
  | .inr (.inl k) => match E[k]? with
    | some b => if b.2.1 ≤ hi then some E else if b.1 ≤ hi then some (eSet E k b.1 hi) else none
    | none => some E
  | _ => some E
/-- x + d ≤ y -/
def rLe (E : AE) (x y : AV) (d : Int) : Option AE :=
  match aBd E x, aBd E y with
  | some bx, some by_ => match rHi E x (by_.2 - d) with
    | some E1 => rLo E1 y (bx.1 + d)
    | none => none
  | _, _ => some E
def rEq (E : AE) (x y : AV) : Option AE := match rLe E x y 0 with
  | some E1 => rLe E1 y x 0
  | none => none
def rNe1 (E : AE) (x : AV) (z : Int) : Option AE :=
  match x with
  | .inl a => if a = z then none else some E
  | .inr (.inl k) => match E[k]? with
    | some b => if b.1 = z then (if b.2.1 = z then none else some (eSet E k (z + 1) b.2.1)) else if b.2.1 = z then some (eSet E k b.1 (z - 1)) else some E
    | none => some E
  | _ => some E
def rNe (E : AE) (x y : AV) : Option AE :=
  match y with
  | .inl z => rNe1 E x z
  | _ => match x with
    | .inl z => rNe1 E y z
    | _ => some E
/-- taken, not taken: 0 eq 1 ne 2 lt 3 ge 4 gt 5 le -/
def rT (E : AE) (op : Nat) (x y : AV) : Option AE :=
  match op with
  | 0 => rEq E x y
  | 1 => rNe E x y
  | 2 => rLe E x y 1
  | 3 => rLe E y x 0
  | 4 => rLe E y x 1
  | _ => rLe E x y 0
def rF (E : AE) (op : Nat) (x y : AV) : Option AE :=
  match op with
  | 0 => rNe E x y
  | 1 => rEq E x y
  | 2 => rLe E y x 0
  | 3 => rLe E x y 1
  | 4 => rLe E x y 0
  | _ => rLe E y x 1
abbrev AO : Type := Option (List AS × List AR)
def oOne (s : AS) : AO := some ([s], [])
def sGo (s : AS) (pc : Nat) (st : List AV) : AS := (pc, sLv s, st, sW s, sLp s, sC s, sS s)
def sGoW (s : AS) (pc : Nat) (st : List AV) (w : AW) : AS := (pc, sLv s, st, w, sLp s, sC s, sS s)
def wEnv (w : AW) (E : AE) : AW := (E, w.2)
def wHp (w : AW) (h : AH) : AW := (w.1, h, w.2.2)
def oBr (s : AS) (op : Nat) (x y : AV) (t f : Nat) (r : List AV) : AO :=
  if aIsI x && aIsI y then
    match aBd (wE (sW s)) x, aBd (wE (sW s)) y with
    | some _, some _ =>
      let a : List AS := match rT (wE (sW s)) op x y with
        | some E => [sGoW s t r (wEnv (sW s) E)]
        | none => []
      let b : List AS := match rF (wE (sW s)) op x y with
        | some E => [sGoW s f r (wEnv (sW s) E)]
        | none => []
      some (a ++ b, [])
    | _, _ => none
  else none
/-- a symbol taken apart into its values -/
def oSpl (s : AS) (a : AV) : AO :=
  match a with
  | .inr (.inl k) => match (wE (sW s))[k]? with
    | some b => if b.2.1 - b.1 ≤ 260 then some ((List.range ((b.2.1 - b.1).toNat + 1)).map (fun (j : Nat) => sGoW s (sPc s) (sSt s) (wEnv (sW s) (eSet (wE (sW s)) k (b.1 + (j : Int)) (b.1 + (j : Int))))), []) else none
    | none => none
  | _ => none
def allEq : List AV → Option AV
  | [] => none
  | a :: r => if r.all (fun b => decide (b = a)) then some a else none
/-- what an array holds at i: fails (none), is to be taken apart (some none) -/
def arGet (w : AW) (n : Nat) (b : AB) (lng : Bool) (i : AV) : Option (Option (AW × AV)) :=
  match aBd (wE w) i with
  | none => none
  | some (lo, hi) =>
    if 0 ≤ lo && hi < (n : Int) then
      match b with
      | .inl l => match i with
        | .inl z => match l[z.toNat]? with
          | some a => some (some (w, a))
          | none => none
        | _ => if Nat.beq l.length n then (match allEq ((l.drop lo.toNat).take (hi.toNat + 1 - lo.toNat)) with
          | some a => some (some (w, a))
          | none => some none) else none
      | .inr (l, h, _) => if lng then some (some (wNewU w)) else if l = h then (if inI l then some (some (w, aI l)) else none) else some (some (wNewI w l h none))
    else none
/-- the contents behind a store -/
def arSet (w : AW) (n : Nat) (b : AB) (lng : Bool) (i a : AV) : Option (Option (AW × AB)) :=
  match aBd (wE w) i with
  | none => none
  | some (lo, hi) =>
    if 0 ≤ lo && hi < (n : Int) then
      match b with
      | .inl l => match i with
        | .inl z => (match l[z.toNat]? with
          | some _ => some (some (w, .inl (l.set z.toNat a)))
          | none => none)
        | _ => some none
      | .inr (l, h, _) =>
        if lng then some (some ((w.1, w.2.1, wL w, wA w + 1, wX w), .inr (0, 0, wA w)))
        else match aBd (wE w) a with
          | none => none
          | some (al, ah) =>
            if l = h && inI l && al = l && ah = l then some (some (w, b)) else
            match i with
            | .inl z => if l = h && inI l && Nat.ble n 256 then some (some (w, .inl ((List.replicate n (aI l)).set z.toNat a))) else some (some ((w.1, w.2.1, wL w, wA w + 1, wX w), .inr (min l al, max h ah, wA w)))
            | _ => some (some ((w.1, w.2.1, wL w, wA w + 1, wX w), .inr (min l al, max h ah, wA w)))
    else none
def oLd (B : Nat → AC) (s : AS) (t : Nat) (ref : Bool) : AO :=
  match sSt s with
  | i :: a :: r => match aNm (wE (sW s)) i, a with
    | i, .inr (.inr (.inr (.inr (.inl (some id))))) =>
      if Nat.blt id (wH (sW s)).1 then
        match hGet B (wH (sW s)) id with
        | .inl (t', n, b) =>
          if (if ref then Nat.ble 3 t' else Nat.beq t' t) then
            match arGet (sW s) n b (Nat.beq t' 1) i with
            | some (some (w, x)) => if (if ref then aIsR x && (match b with | .inl _ => true | .inr _ => false) else if Nat.beq t' 1 then aIsL x else aIsI x) then oOne (sGoW s (sPc s + 1) (aNm (wE w) x :: r) w) else none
            | some none => oSpl s i
            | none => none
          else none
        | _ => none
      else none
    | _, _ => none
  | _ => none
def oSt (B : Nat → AC) (s : AS) (t : Nat) : AO :=
  match sSt s with
  | x :: i :: a :: r => match aNm (wE (sW s)) x, aNm (wE (sW s)) i, a with
    | x, i, .inr (.inr (.inr (.inr (.inl (some id))))) =>
      if Nat.blt id (wH (sW s)).1 then
        match hGet B (wH (sW s)) id with
        | .inl (t', n, b) =>
          if Nat.beq t' t && (if Nat.beq t 1 then aIsL x else aIsI x) then
            if (if Nat.beq t 2 then (match aBd (wE (sW s)) x with | some (l, h) => decide (0 ≤ l) && decide (h ≤ 1) | none => false) else true) then
              match arSet (sW s) n b (Nat.beq t 1) i x with
              | some (some (w, b')) => oOne (sGoW s (sPc s + 1) r (wHp w (hSet (wH w) id (.inl (t, n, b')))))
              | some none => oSpl s i
              | none => none
            else none
          else none
        | _ => none
      else none
    | _, _, _ => none
  | _ => none
