/-! The interpreter: fields, new things, calls, loops, the run -/
/-- a field's kind by its type: 0 int, 1 boolean, 2 long, 3 reference -/
def fK : FieldType → Nat
  | .int => 0
  | .boolean => 1
  | .long => 2
  | .object _ => 3
  | .array _ => 3
  | _ => 9
def nCl : Nat → String × Nat × u_T × (Nat → FieldType)
  | 0 => (RX0, 14, TX0, tyX0)
  | 1 => (RX1, 8, TX1, tyX1)
  | 2 => (RX2, 10, TX2, tyX2)
  | 3 => (RX3, 7, TX3, tyX3)
  | 4 => (RX4, 14, TX4, tyX4)
  | 5 => (RX5, 13, TX5, tyX5)
  | 6 => (RX6, 9, TX6, tyX6)
  | 7 => (RX7, 14, TX7, tyX7)
  | 8 => (RX8, 18, TX8, tyX8)
  | 9 => (RX9, 18, TX9, tyX9)
  | 10 => (RX10, 10, TX10, tyX10)
  | 11 => (RX11, 11, TX11, tyX11)
  | _ => (RX12, 83, TX12, tyX12)
def nKd (ci f : Nat) : Nat := fK ((nCl ci).2.2.2 f)
def dfV (k : Nat) : AV := if Nat.beq k 2 then aJ 0 else if Nat.beq k 3 then aR none else aI 0
def dfl (ci : Nat) : List AV := (List.range (nCl ci).2.1).map (fun f => dfV (nKd ci f))
/-- does the value fit the kind? -/
def fitK (E : AE) (k : Nat) (a : AV) : Bool :=
  match k with
  | 0 => aIsI a
  | 1 => aIsI a && (match aBd E a with | some (l, h) => decide (0 ≤ l) && decide (h ≤ 1) | none => false)
  | 2 => aIsL a
  | 3 => aIsR a
  | _ => false
/-- what is to be forgotten: kind (0 a local int, 1 a local long, 2 an array, 3 one place of an array, 4 an int field, 5 narrow a local's symbol), local, path, bounds -/
abbrev AHv : Type := Nat × Nat × List Nat × Int × Int
/-- hints for a loop: what is forgotten, the local that counts, up or down -/
abbrev ALh : Type := List AHv × Nat × Bool
/-- hints for a call: the ends: what is forgotten, and the end itself (0 nothing, 1 an int constant, 2 an int between, 3 an exception), two numbers -/
abbrev ASm : Type := List (List AHv × Nat × Int × Int)
/-- all that the interpreter knows of the program: base cells, code, methods, hints for loops, for calls, contracts, handlers of exceptions, the length of the script (the thing outside numbered 0) in the method that has it -/
abbrev ACx : Type := (Nat → AC) × (Nat → Nat → Option ARow) × (Nat → AM) × (Nat → Nat → Nat → Option ALh) × (Nat → Nat → Option ASm) × (Nat → List AV → AW → Option (List AR)) × (Nat → Nat → Nat → Option Nat) × (Nat → Nat)
abbrev xB (x : ACx) : Nat → AC := x.1
abbrev xCd (x : ACx) : Nat → Nat → Option ARow := x.2.1
abbrev xM (x : ACx) : Nat → AM := x.2.2.1
abbrev xLh (x : ACx) : Nat → Nat → Nat → Option ALh := x.2.2.2.1
abbrev xSm (x : ACx) : Nat → Nat → Option ASm := x.2.2.2.2.1
abbrev xCt (x : ACx) : Nat → List AV → AW → Option (List AR) := x.2.2.2.2.2.1
abbrev xEx (x : ACx) : Nat → Nat → Nat → Option Nat := x.2.2.2.2.2.2.1
abbrev xSc (x : ACx) : Nat → Nat := x.2.2.2.2.2.2.2
def oGet (x : ACx) (s : AS) (ci f : Nat) : AO :=
  match sSt s with
  | .inr (.inr (.inr (.inr (.inl (some id))))) :: r =>
    if Nat.blt id (wH (sW s)).1 then
      match hGet (xB x) (wH (sW s)) id with
      | .inr (c, fs) => if Nat.beq c ci then (match fs[f]? with | some a => oOne (sGo s (sPc s + 3) (aNm (wE (sW s)) a :: r)) | none => none) else none
      | _ => none
    else none
  | _ => none
def oPut (x : ACx) (s : AS) (ci f : Nat) : AO :=
  match sSt s with
  | a :: .inr (.inr (.inr (.inr (.inl (some id))))) :: r =>
    if Nat.blt id (wH (sW s)).1 && fitK (wE (sW s)) (nKd ci f) a then
      match hGet (xB x) (wH (sW s)) id with
      | .inr (c, fs) => if Nat.beq c ci && Nat.blt f fs.length && Nat.blt f (nCl ci).2.1 then oOne (sGoW s (sPc s + 3) r (wHp (sW s) (hSet (wH (sW s)) id (.inr (ci, fs.set f (aNm (wE (sW s)) a)))))) else none
      | _ => none
    else none
  | _ => none
def oNew (s : AS) (m : AM) (ci : Nat) : AO :=
  if Nat.ble (sC s + 1) (mCe m) && Nat.ble (sS s + (nCl ci).2.1) (mSl m) then
    some ([(sPc s + 3, sLv s, aR (some (wH (sW s)).1) :: sSt s, wHp (sW s) (hAdd (wH (sW s)) (.inr (ci, dfl ci))), sLp s, sC s + 1, sS s + (nCl ci).2.1)], [])
  else none
/-- new int[n] and the like: t 0 int, 1 long, 2 boolean -/
def oNwa (s : AS) (m : AM) (t : Nat) : AO :=
  match sSt s with
  | .inl z :: r =>
    if decide (0 ≤ z) && decide (z ≤ 100000) && Nat.ble (sC s + 1) (mCe m) && Nat.ble (sS s + z.toNat) (mSl m) then
      some ([(sPc s + 2, sLv s, aR (some (wH (sW s)).1) :: r, wHp (sW s) (hAdd (wH (sW s)) (.inl (t, z.toNat, if Nat.beq t 1 then .inl (List.replicate z.toNat (aJ 0)) else .inr (0, 0, wA (sW s))))) |> (fun w => (w.1, w.2.1, wL w, wA w + 1, wX w)), sLp s, sC s + 1, sS s + z.toNat)], [])
    else none
  | _ => none
def oNwq (s : AS) (m : AM) : AO :=
  match sSt s with
  | .inl z :: r =>
    if decide (0 ≤ z) && decide (z ≤ 100000) && Nat.ble (sC s + 1) (mCe m) && Nat.ble (sS s + z.toNat) (mSl m) then
      some ([(sPc s + 3, sLv s, aR (some (wH (sW s)).1) :: r, wHp (sW s) (hAdd (wH (sW s)) (.inl (5, z.toNat, .inl (List.replicate z.toNat (aR none))))), sLp s, sC s + 1, sS s + z.toNat)], [])
    else none
  | _ => none
def hAdds (h : AH) : List AC → AH
  | [] => h
  | c :: r => hAdds (hAdd h c) r
def oMn2 (s : AS) (m : AM) : AO :=
  match sSt s with
  | .inl b :: .inl a :: r =>
    if decide (0 ≤ a) && decide (a ≤ 1000) && decide (0 ≤ b) && decide (b ≤ 1000) && Nat.ble (sC s + (1 + a.toNat)) (mCe m) && Nat.ble (sS s + (a.toNat + a.toNat * b.toNat)) (mSl m) then
      let q := (wH (sW s)).1
      some ([(sPc s + 4, sLv s, aR (some q) :: r, ((sW s).1, hAdds (wH (sW s)) (.inl (3, a.toNat, .inl ((List.range a.toNat).map (fun i => aR (some (q + 1 + i))))) :: (List.range a.toNat).map (fun i => .inl (0, b.toNat, .inr (0, 0, wA (sW s) + i)))), wL (sW s), wA (sW s) + a.toNat, wX (sW s)), sLp s, sC s + 1 + a.toNat, sS s + a.toNat + a.toNat * b.toNat)], [])
    else none
  | _ => none
def oMn3 (s : AS) (m : AM) : AO :=
  match sSt s with
  | .inl c :: .inl b :: .inl a :: r =>
    if decide (0 ≤ a) && decide (a ≤ 1000) && decide (0 ≤ b) && decide (b ≤ 1000) && decide (0 ≤ c) && decide (c ≤ 1000) && Nat.ble (sC s + (1 + a.toNat * (1 + b.toNat))) (mCe m) && Nat.ble (sS s + (a.toNat + a.toNat * (b.toNat + b.toNat * c.toNat))) (mSl m) then
      let q := (wH (sW s)).1
      some ([(sPc s + 4, sLv s, aR (some q) :: r, ((sW s).1, hAdds (wH (sW s)) (.inl (4, a.toNat, .inl ((List.range a.toNat).map (fun i => aR (some (q + 1 + i * (1 + b.toNat)))))) :: (List.range (a.toNat * (1 + b.toNat))).map (fun j => if j % (1 + b.toNat) = 0 then .inl (3, b.toNat, .inl ((List.range b.toNat).map (fun i => aR (some (q + 1 + j + 1 + i))))) else .inl (0, c.toNat, .inr (0, 0, wA (sW s) + j)))), wL (sW s), wA (sW s) + a.toNat * (1 + b.toNat), wX (sW s)), sLp s, sC s + 1 + a.toNat * (1 + b.toNat), sS s + a.toNat + a.toNat * (b.toNat + b.toNat * c.toNat))], [])
    else none
  | _ => none
/-- arraycopy of ints whose places are known -/
def abL (n : Nat) : AB → Option (List AV)
  | .inl l => if Nat.beq l.length n then some l else none
  | .inr (l, h, _) => if l = h && inI l && Nat.ble n 1024 then some (List.replicate n (aI l)) else none
def oCpy (x : ACx) (s : AS) (m : AM) : AO :=
  match sSt s with
  | .inl n :: .inl dp :: .inr (.inr (.inr (.inr (.inl (some d))))) :: .inl sp :: .inr (.inr (.inr (.inr (.inl (some a))))) :: r =>
    if decide (0 ≤ n) && decide (0 ≤ dp) && decide (0 ≤ sp) && decide (n ≤ 1000) && decide (dp ≤ 1000) && decide (sp ≤ 1000) && Nat.blt d (wH (sW s)).1 && Nat.blt a (wH (sW s)).1 && Nat.ble 1 (mFr m) && Nat.ble ((r.map aCat).sum + 40) (mLo m) then
      match hGet (xB x) (wH (sW s)) a, hGet (xB x) (wH (sW s)) d with
      | .inl (0, n0, b0), .inl (0, n1, b1) =>
        if Nat.ble (sp.toNat + n.toNat) n0 && Nat.ble (dp.toNat + n.toNat) n1 then
          if Nat.beq n.toNat 0 then oOne (sGo s (sPc s + 3) r) else
          match abL n0 b0, abL n1 b1 with
          | some l0, some l1 => oOne (sGoW s (sPc s + 3) r (wHp (sW s) (hSet (wH (sW s)) d (.inl (0, n1, .inl (l1.take dp.toNat ++ ((l0.drop sp.toNat).take n.toNat ++ l1.drop (dp.toNat + n.toNat))))))))
          | _, _ => none
        else none
      | _, _ => none
    else none
  | _ => none
/-- Math.max, Math.min: a test, and the one or the other -/
def oMm (mx : Bool) (s : AS) (m : AM) : AO :=
  match sSt s with
  | y0 :: x0 :: r =>
    let x := aNm (wE (sW s)) x0
    let y := aNm (wE (sW s)) y0
    if aIsI x && aIsI y && Nat.ble 1 (mFr m) && Nat.ble ((r.map aCat).sum + 13) (mLo m) && Nat.ble (sC s) (mCe m) && Nat.ble (sS s) (mSl m) then
      match aBd (wE (sW s)) x, aBd (wE (sW s)) y with
      | some _, some _ =>
        let a : List AS := match rT (wE (sW s)) 2 (if mx then x else y) (if mx then y else x) with
          | some E => [sGoW s (sPc s + 3) (y :: r) (wEnv (sW s) E)]
          | none => []
        let b : List AS := match rF (wE (sW s)) 2 (if mx then x else y) (if mx then y else x) with
          | some E => [sGoW s (sPc s + 3) (x :: r) (wEnv (sW s) E)]
          | none => []
        some (a ++ b, [])
      | _, _ => none
    else none
  | _ => none
/-- where a path of fields leads -/
def pGo (x : ACx) (w : AW) : AV → List Nat → Option Nat
  | .inr (.inr (.inr (.inr (.inl (some id))))), [] => some id
  | .inr (.inr (.inr (.inr (.inl (some id))))), f :: r => match hGet (xB x) (wH w) id with
    | .inr (_, fs) => match fs[f]? with
      | some a => pGo x w a r
      | none => none
    | _ => none
  | _, _ => none
def hv1 (x : ACx) (l : List (Option AV)) (w : AW) (v : AHv) : Option (List (Option AV) × AW) :=
  match v with
  | (0, i, _, lo, hi) => if inI lo && inI hi && Nat.blt i l.length then (let q := wNewI w lo hi none; some (lSet l i q.2, q.1)) else none
  | (1, i, _, _, _) => if Nat.blt (i + 1) l.length then (let q := wNewU w; some (lSet l i q.2, q.1)) else none
  | (2, i, p, lo, hi) => match lGet l i with
    | some a => match pGo x w a p with
      | some id => if Nat.blt id (wH w).1 then (match hGet (xB x) (wH w) id with
        | .inl (t, n, _) => if Nat.ble t 2 && decide (lo ≤ hi) then some (l, (w.1, hSet (wH w) id (.inl (t, n, .inr (lo, hi, wA w))), wL w, wA w + 1, wX w)) else none
        | _ => none) else none
      | none => none
    | none => none
  | (3, i, p, lo, hi) => match lGet l i, p.getLast? with
    | some a, some j => match pGo x w a p.dropLast with
      | some id => if Nat.blt id (wH w).1 && inI lo && inI hi then (match hGet (xB x) (wH w) id with
        | .inl (0, n, b) => match abL n b with
          | some q => (let z := wNewI w lo hi none; some (l, wHp z.1 (hSet (wH w) id (.inl (0, n, .inl (q.set j z.2))))))
          | none => none
        | _ => none) else none
      | none => none
    | _, _ => none
  | (4, i, p, lo, hi) => match lGet l i, p.getLast? with
    | some a, some j => match pGo x w a p.dropLast with
      | some id => if Nat.blt id (wH w).1 && inI lo && inI hi then (match hGet (xB x) (wH w) id with
        | .inr (c, fs) => (let z := wNewI w lo hi none; some (l, wHp z.1 (hSet (wH w) id (.inr (c, fs.set j z.2)))))
        | _ => none) else none
      | none => none
    | _, _ => none
  | (5, i, _, lo, hi) => match lGet l i with
    | some (.inr (.inl k)) => some (l, wEnv w (eSet (wE w) k lo hi))
    | _ => none
  | _ => none
def hvs (x : ACx) (l : List (Option AV)) (w : AW) : List AHv → Option (List (Option AV) × AW)
  | [] => some (l, w)
  | v :: r => match hv1 x l w v with
    | some (l1, w1) => hvs x l1 w1 r
    | none => none
/-- a is one of those that b stands for; b's symbols from n on are free: which of them stands for what -/
def mtV (E F : AE) (n : Nat × Nat × Nat) (L : Nat) (a b : AV) : Option (List (Nat × AV)) :=
  match b with
  | .inr (.inl k) => if Nat.ble n.1 k then (match aBd E a, F[k]? with
      | some p, some e => if decide (e.1 ≤ p.1) && decide (p.2 ≤ e.2.1) then some [(2 * k, a)] else none
      | _, _ => none) else if decide (aNm E a = aNm E b) then some [] else none
  | .inr (.inr (.inr (.inl k))) => if Nat.ble n.2.1 k then (if aIsL a && Nat.blt k L then some [(2 * k + 1, a)] else none) else if decide (a = b) then some [] else none
  | .inl z => if decide (aNm E a = .inl z) then some [] else none
  | _ => if decide (a = b) then some [] else none
def mtL (E F : AE) (n : Nat × Nat × Nat) (L : Nat) : List AV → List AV → Option (List (Nat × AV))
  | [], [] => some []
  | a :: r, b :: q => match mtV E F n L a b, mtL E F n L r q with
    | some x, some y => some (x ++ y)
    | _, _ => none
  | _, _ => none
def inB (E : AE) (lo hi : Int) (a : AV) : Bool := match aBd E a with
  | some p => decide (lo ≤ p.1) && decide (p.2 ≤ hi)
  | none => false
/-- all of b's places are between -/
def btw (E : AE) (t m : Nat) (lo hi : Int) : AB → Bool
  | .inl q => Nat.beq t 1 || (Nat.ble t 2 && Nat.beq q.length m && q.all (inB E lo hi))
  | .inr e => Nat.beq t 1 || (Nat.ble t 2 && decide (lo ≤ e.1) && decide (e.2.1 ≤ hi))
def mtB (E F : AE) (n : Nat × Nat × Nat) (L A t m : Nat) (b c : AB) : Option (List (Nat × AV) × List (Nat × AB)) :=
  match c with
  | .inr e => if Nat.ble n.2.2 e.2.2 then (if Nat.blt e.2.2 A && btw E t m e.1 e.2.1 b then some ([], [(e.2.2, b)]) else none) else (match b with | .inr f => if Nat.beq f.2.2 e.2.2 && decide (f.1 = e.1) && decide (f.2.1 = e.2.1) then some ([], []) else none | .inl _ => none)
  | .inl q => match b with
    | .inl l => match mtL E F n L l q with
      | some P => some (P, [])
      | none => none
    | .inr e => if decide (e.1 = e.2.1) && inI e.1 && (Nat.beq t 0 || Nat.beq t 2) && Nat.beq q.length m then (match mtL E F n L (List.replicate m (aI e.1)) q with
      | some P => some (P, [])
      | none => none) else none
def mtC (E F : AE) (n : Nat × Nat × Nat) (L A : Nat) (c d : AC) : Option (List (Nat × AV) × List (Nat × AB)) :=
  match c, d with
  | .inr c, .inr d => if Nat.beq c.1 d.1 then (match mtL E F n L c.2 d.2 with
    | some P => some (P, [])
    | none => none) else none
  | .inl c, .inl d => if Nat.beq c.1 d.1 && Nat.beq c.2.1 d.2.1 then mtB E F n L A c.1 c.2.1 c.2.2 d.2.2 else none
  | _, _ => none
def mtH (x : ACx) (E F : AE) (n : Nat × Nat × Nat) (L A : Nat) (g : AH) : List (Nat × AC) → Option (List (Nat × AV) × List (Nat × AB))
  | [] => some ([], [])
  | q :: r => match mtC E F n L A q.2 (hGet (xB x) g q.1), mtH x E F n L A g r with
    | some a, some b => some (a.1 ++ b.1, a.2 ++ b.2)
    | _, _ => none
/-- old symbols are bound no wider than there -/
def leE : Nat → AE → AE → Bool
  | 0, _, _ => true
  | k + 1, a :: r, b :: q => decide (b.1 ≤ a.1) && decide (a.2.1 ≤ b.2.1) && Nat.beq a.2.2.1 b.2.2.1 && decide (a.2.2.2 = b.2.2.2) && leE k r q
  | _, _, _ => false
/-- new symbols are free -/
def leG : Nat → AE → Bool
  | _, [] => true
  | k, e :: r => Nat.beq e.2.2.1 k && decide (e.2.2.2 = 0) && decide (e.1 ≤ e.2.1) && inI e.1 && leG (k + 1) r
def nIn (k : Nat) : List Nat → Bool
  | [] => true
  | a :: r => !(Nat.beq a k) && nIn k r
def ndp : List Nat → Bool
  | [] => true
  | a :: r => nIn a r && ndp r
/-- the world w, with the places pl (theirs, ours), is one of those that u stands for -/
def mtA0 (x : ACx) (n : Nat × Nat × Nat) (w u : AW) (pl : List (AV × AV)) : Bool :=
  leE n.1 (wE w) (wE u) && leG n.1 ((wE u).drop n.1) && Nat.ble n.2.1 (wL w) && Nat.ble n.2.2 (wA w) && Nat.ble n.2.1 (wL u) && Nat.ble n.2.2 (wA u) && Nat.beq (wX w) (wX u) && Nat.beq (wH w).1 (wH u).1 &&
  (wH u).2.all (fun q => (wH w).2.any (fun p => Nat.beq p.1 q.1)) &&
  (match mtH x (wE w) (wE u) n (wL u) (wA u) (wH u) (wH w).2, mtL (wE w) (wE u) n (wL u) (pl.map Prod.fst) (pl.map Prod.snd) with
    | some a, some b => ndp ((a.1 ++ b).map Prod.fst) && ndp (a.2.map Prod.fst)
    | _, _ => false)
/-- cells that u names are named, as they are -/
def tch (B : Nat → AC) (g : List (Nat × AC)) : List (Nat × AC) → List (Nat × AC)
  | [] => g
  | q :: r => if g.any (fun p => Nat.beq p.1 q.1) then tch B g r else tch B ((q.1, B q.1) :: g) r
def mtA (x : ACx) (n : Nat × Nat × Nat) (w u : AW) (pl : List (AV × AV)) : Bool := mtA0 x n (wHp w ((wH w).1, tch (xB x) (wH w).2 (wH u).2)) u pl
def plO : List (Option AV) → List (Option AV) → Option (List (AV × AV))
  | [], [] => some []
  | _ :: r, none :: q => plO r q
  | some a :: r, some b :: q => match plO r q with
    | some l => some ((a, b) :: l)
    | none => none
  | _, _ => none
def mtS (x : ACx) (n : Nat × Nat × Nat) (w u : AW) (l l1 : List (Option AV)) : Bool := match plO l l1 with
  | some pl => mtA x n w u pl
  | none => false
/-- the count has moved on -/
def rkd (E : AE) (up : Bool) (a b : AV) : Bool :=
  match b with
  | .inr (.inl k) =>
    (match a with
      | .inr (.inl j) => (match E[j]? with | some e => Nat.beq e.2.2.1 k && decide (if up then 0 < e.2.2.2 else e.2.2.2 < 0) | none => false)
      | _ => false) ||
    (match aBd E a, aBd E b with
      | some (l, h), some (l', h') => decide (if up then h' < l else h < l')
      | _, _ => false)
  | _ => false
def lpAt (t : Nat) : List ALp → Option ALp
  | [] => none
  | p :: r => if Nat.beq p.1 t then some p else lpAt t r
def oGoto (x : ACx) (m c : Nat) (s : AS) (t : Nat) : AO :=
  if Nat.blt (sPc s) t then oOne (sGo s t (sSt s)) else
  let lp := (sLp s).filter (fun p => Nat.ble p.1 t)
  match xLh x c m t with
  | none => some ([(t, sLv s, sSt s, sW s, lp, sC s, sS s)], [])
  | some (hs, ct, up) =>
    match sSt s with
    | [] => match lpAt t lp with
      | some p =>
        if mtS x p.2.2.2 (sW s) p.2.2.1 (sLv s) p.2.1 && Nat.beq (sC s) 0 && Nat.beq (sS s) 0 then
          match lGet (sLv s) ct, lGet p.2.1 ct with
          | some a, some b => if rkd (wE (sW s)) up a b && (match b with | .inr (.inl k) => Nat.ble p.2.2.2.1 k | _ => false) then some ([], []) else none
          | _, _ => none
        else none
      | none =>
        let n := ((wE (sW s)).length, wL (sW s), wA (sW s))
        match hvs x (sLv s) (sW s) hs with
        | some (l1, w1) =>
          if mtS x n (sW s) w1 (sLv s) l1 && Nat.beq (sC s) 0 && Nat.beq (sS s) 0 then
            some ([(t, l1, [], w1, (t, l1, w1, n) :: lp, 0, 0)], [])
          else none
        | none => none
    | _ => none
def argsL (n : Nat) (as : List AV) : List (Option AV) :=
  let l := as.flatMap (fun a => if Nat.beq (aCat a) 2 then [some a, none] else [some a])
  l ++ List.replicate (n - l.length) none
/-- the ends of a call, taken together -/
def smEnd (x : ACx) (as : List AV) (w : AW) (p : List AHv × Nat × Int × Int) : Option AR :=
  match hvs x (as.map some) w p.1 with
  | some (_, w1) =>
    match p.2.1 with
    | 0 => some (.inl none, w1)
    | 1 => some (.inl (some (aI p.2.2.1)), w1)
    | 2 => if inI p.2.2.1 && inI p.2.2.2 then (let q := wNewI w1 p.2.2.1 p.2.2.2 none; some (.inl (some q.2), q.1)) else none
    | 3 => some (.inr p.2.2.1.toNat, w1)
    | _ => none
  | none => none
def leR (x : ACx) (n : Nat × Nat × Nat) (r q : AR) : Bool :=
  match r.1, q.1 with
    | .inl none, .inl none => mtA x n r.2 q.2 []
    | .inl (some a), .inl (some b) => mtA x n r.2 q.2 [(a, b)]
    | .inr a, .inr b => Nat.beq a b && mtA x n r.2 q.2 []
    | _, _ => false
def smAll (x : ACx) (as : List AV) (w : AW) : ASm → Option (List AR)
  | [] => some []
  | p :: r => match smEnd x as w p, smAll x as w r with
    | some a, some l => some (a :: l)
    | _, _ => none
def smTry (x : ACx) (as : List AV) (w : AW) (sm : ASm) (rs : List AR) : Option (List AR) :=
  match smAll x as w sm with
  | some ps => if rs.all (fun r => ps.any (fun q => leR x ((wE w).length, wL w, wA w) r q)) then some ps else none
  | none => none
def smMay (x : ACx) (as : List AV) (w : AW) (o : Option ASm) (rs : List AR) : Option (List AR) := match o with
  | none => some rs
  | some sm => smTry x as w sm rs
/-- no exception -/
def endV (r : AR) : Bool := match r.1 with
  | .inl _ => true
  | .inr _ => false
def oCont (hd : Nat → Option Nat) (s : AS) (r : List AV) (m : AM) (k : AM) : List AR → AO
  | [] => some ([], [])
  | (.inl v, w) :: q => match oCont hd s r m k q with
    | some (a, b) => some ((sPc s + 3, sLv s, v.toList ++ r, w, sLp s, sC s + mCe k, sS s + mSl k) :: a, b)
    | none => none
  | (.inr e, w) :: q => match oCont hd s r m k q with
    | some (a, b) => match hd e with
      | some h => some ((h, sLv s, [aX (wX w)], (wNewX w).1, sLp s, sC s + mCe k, sS s + mSl k) :: a, b)
      | none => if Nat.ble (sC s + mCe k) (mCe m) && Nat.ble (sS s + mSl k) (mSl m) then some (a, (.inr e, w) :: b) else none
    | none => none
/-- a call: kind 0 virtual, 1 static, 2 special, 3 special of a nest mate, 6 static with handlers of its own -/
def oCall (x : ACx) (call : Nat → Nat → List AV → AW → Option (List AR)) (mn : Nat) (s : AS) (cn kind : Nat) : AO :=
  let m := xM x mn
  let k := xM x cn
  if Nat.ble (mAr k) (sSt s).length && Nat.ble (((sSt s).drop (mAr k)).map aCat).sum 8 && Nat.ble (mFr k + 1) (mFr m) && Nat.ble (8 + (mNL k + 11) + mLo k) (mLo m) && Nat.ble (sC s + mCe k) (mCe m) && Nat.ble (sS s + mSl k) (mSl m) then
    let as := (((sSt s).take (mAr k)).reverse).map (aNm (wE (sW s)))
    let ok := match kind, as with
      | 0, .inr (.inr (.inr (.inr (.inl (some id))))) :: _ => Nat.blt id (wH (sW s)).1 && (match hGet (xB x) (wH (sW s)) id with | .inr (c, _) => Nat.beq c (mCl k) | _ => false)
      | 0, _ => false
      | 1, _ => true
      | _, .inr (.inr (.inr (.inr (.inl (some _))))) :: _ => true
      | _, _ => false
    if ok && Nat.ble (argsL 0 as).length (mNL k) then
      match call mn cn as (sW s) with
      | some rs => match smMay x as (sW s) (xSm x mn cn) rs with
        | some ps => if Nat.ble kind 1 || rs.all endV then oCont (xEx x mn (sPc s)) s ((sSt s).drop (mAr k)) m k ps else none
        | none => none
      | none => none
    else none
  else none
def oRet (s : AS) (m : AM) : AO :=
  if Nat.ble (sC s) (mCe m) && Nat.ble (sS s) (mSl m) then
    match mRt m, sSt s with
    | 0, [] => some ([], [(.inl none, sW s)])
    | 1, [a] => if aIsI a then some ([], [(.inl (some (aNm (wE (sW s)) a)), sW s)]) else none
    | 2, [a] => if fitK (wE (sW s)) 1 a then some ([], [(.inl (some (aNm (wE (sW s)) a)), sW s)]) else none
    | 3, [a] => if aIsL a then some ([], [(.inl (some a), sW s)]) else none
    | _, _ => none
  else none
def oSw (s : AS) (d lo hi : Int) (offs : Array Int) : AO :=
  match sSt s with
  | .inl z :: r => if inI z then (if z < lo || hi < z then oOne (sGo s ((sPc s : Int) + d).toNat r) else match offs[(z - lo).toNat]? with | some o => oOne (sGo s ((sPc s : Int) + o).toNat r) | none => none) else none
  | .inr (.inl k) :: r => match (wE (sW s))[k]? with
    | some b =>
      let ins := (List.range (hi - lo + 1).toNat).flatMap (fun (j : Nat) => if b.1 ≤ lo + (j : Int) && lo + (j : Int) ≤ b.2.1 then [sGoW s (sPc s) (aS k :: r) (wEnv (sW s) (eSet (wE (sW s)) k (lo + (j : Int)) (lo + (j : Int))))] else [])
      let a := if b.1 < lo then [sGoW s ((sPc s : Int) + d).toNat r (wEnv (sW s) (eSet (wE (sW s)) k b.1 (min b.2.1 (lo - 1))))] else []
      let c := if hi < b.2.1 then [sGoW s ((sPc s : Int) + d).toNat r (wEnv (sW s) (eSet (wE (sW s)) k (max b.1 (hi + 1)) b.2.1))] else []
      some (ins.map (fun t => sGoW t (sPc t) (aNm (wE (sW t)) (aS k) :: r) (sW t)) ++ (a ++ c), [])
    | none => none
  | _ => none
def oI (s : AS) (len : Nat) (w : Option (AW × AV)) (r : List AV) : AO := match w with
  | some (w, a) => oOne (sGoW s (sPc s + len) (a :: r) w)
  | none => none
def oBin (s : AS) (op : Nat) : AO := match sSt s with
  | y :: x :: r => oI s 1 (iop (sW s) op (aNm (wE (sW s)) x) (aNm (wE (sW s)) y)) r
  | _ => none
def oBil (s : AS) (op : Nat) : AO := match sSt s with
  | y :: x :: r => oI s 1 (lop (sW s) op x y) r
  | _ => none
def oPsh (s : AS) (len : Nat) (a : AV) : AO := oOne (sGo s (sPc s + len) (a :: sSt s))
def oLdv (s : AS) (len i : Nat) (p : AV → Bool) : AO := match lGet (sLv s) i with
  | some a => if p a then oOne (sGo s (sPc s + len) (aNm (wE (sW s)) a :: sSt s)) else none
  | none => none
def oStv (s : AS) (len i : Nat) (p : AV → Bool) : AO := match sSt s with
  | a :: r => if p a && Nat.blt (i + (if Nat.beq (aCat a) 2 then 1 else 0)) (sLv s).length then some ([(sPc s + len, lSet (sLv s) i a, r, sW s, sLp s, sC s, sS s)], []) else none
  | _ => none
def isRef0 : AV → Bool
  | .inr (.inr (.inr (.inr (.inl (some _))))) => true
  | .inr (.inr (.inr (.inr (.inr _)))) => true
  | _ => false
def tgt (s : AS) (o : Int) : Nat := ((sPc s : Int) + o).toNat
abbrev AF : Type := ACx → (Nat → Nat → List AV → AW → Option (List AR)) → Nat → Nat → AS → AO
def fPsh (len : Nat) (v : AV) : AF := fun _ _ _ _ s => oPsh s len v
def fLdv (len i : Nat) (p : AV → Bool) : AF := fun _ _ _ _ s => oLdv s len i p
def fStv (len i : Nat) (p : AV → Bool) : AF := fun _ _ _ _ s => oStv s len i p
def fInc (k : Nat) (n : Int) : AF := fun _ _ _ _ s => match lGet (sLv s) k with
  | some v => if inI n && aIsI v && Nat.blt k (sLv s).length then (match iop (sW s) 0 (aNm (wE (sW s)) v) (aI n) with | some (w, q) => some ([(sPc s + 3, lSet (sLv s) k q, sSt s, w, sLp s, sC s, sS s)], []) | none => none) else none
  | none => none
def fBin (op : Nat) : AF := fun _ _ _ _ s => oBin s op
def fBil (op : Nat) : AF := fun _ _ _ _ s => oBil s op
def fNeg : AF := fun _ _ _ _ s => match sSt s with
  | v :: r => oI s 1 (iop (sW s) 1 (aI 0) (aNm (wE (sW s)) v)) r
  | _ => none
def fLng : AF := fun _ _ _ _ s => match sSt s with
  | v :: r => oI s 1 (lop (sW s) 1 (aJ 0) v) r
  | _ => none
def fLsh (left : Bool) : AF := fun _ _ _ _ s => match sSt s with
  | k :: v :: r => oI s 1 (lSh (sW s) left v (aNm (wE (sW s)) k)) r
  | _ => none
def fLcm : AF := fun _ _ _ _ s => match sSt s with
  | k :: v :: r => oI s 1 (lCm (sW s) v k) r
  | _ => none
def fI2l : AF := fun _ _ _ _ s => match sSt s with
  | v :: r => match aNm (wE (sW s)) v with
    | .inl q => if inI q then oOne (sGo s (sPc s + 1) (aJ (q % 18446744073709551616).toNat :: r)) else none
    | .inr (.inl _) => oI s 1 (some (wNewU (sW s))) r
    | _ => none
  | _ => none
def fL2i : AF := fun _ _ _ _ s => match sSt s with
  | .inr (.inr (.inl n)) :: r => oOne (sGo s (sPc s + 1) (aI (zOf (n % 4294967296)) :: r))
  | .inr (.inr (.inr (.inl _))) :: r => oI s 1 (some (wTop (sW s))) r
  | _ => none
def fDup : AF := fun _ _ _ _ s => match sSt s with
  | v :: r => if Nat.beq (aCat v) 1 then oOne (sGo s (sPc s + 1) (v :: v :: r)) else none
  | _ => none
def fPop : AF := fun _ _ _ _ s => match sSt s with
  | v :: r => if Nat.beq (aCat v) 1 then oOne (sGo s (sPc s + 1) r) else none
  | _ => none
def fDup2 : AF := fun _ _ _ _ s => match sSt s with
  | v :: r => if Nat.beq (aCat v) 2 then oOne (sGo s (sPc s + 1) (v :: v :: r)) else (match r with | u :: q => if Nat.beq (aCat u) 1 then oOne (sGo s (sPc s + 1) (v :: u :: v :: u :: q)) else none | _ => none)
  | _ => none
def fIf (op : Nat) (o : Int) : AF := fun _ _ _ _ s => match sSt s with
  | v :: r => oBr s op (aNm (wE (sW s)) v) (aI 0) (tgt s o) (sPc s + 3) r
  | _ => none
/-- a test against 0 that takes a symbol apart: below, 0, above -/
def fIf3 (op : Nat) (o : Int) : AF := fun _ _ _ _ s => match sSt s with
  | .inr (.inl k) :: r => match (wE (sW s))[k]? with
    | some b => if Nat.ble op 1 then some ([sGoW s (if Nat.beq op 0 then tgt s o else sPc s + 3) r (wEnv (sW s) (eSet (wE (sW s)) k 0 0)), sGoW s (if Nat.beq op 0 then sPc s + 3 else tgt s o) r (wEnv (sW s) (eSet (wE (sW s)) k b.1 (-1))), sGoW s (if Nat.beq op 0 then sPc s + 3 else tgt s o) r (wEnv (sW s) (eSet (wE (sW s)) k 1 b.2.1))], []) else none
    | none => none
  | _ => none
def fIfs (op : Nat) (o : Int) : AF := fun x call mn c s => match sSt s with
  | .inr (.inl k) :: r => match (wE (sW s))[k]? with
    | some b => if decide (b.1 < 0) && decide (0 < b.2.1) then fIf3 op o x call mn c s else fIf op o x call mn c s
    | none => none
  | _ => fIf op o x call mn c s
def fIc (op : Nat) (o : Int) : AF := fun _ _ _ _ s => match sSt s with
  | v :: u :: r => oBr s op (aNm (wE (sW s)) u) (aNm (wE (sW s)) v) (tgt s o) (sPc s + 3) r
  | _ => none
def fGoto (o : Int) : AF := fun x _ mn c s => oGoto x mn c s (tgt s o)
def fSw (d lo hi : Int) (offs : Array Int) : AF := fun _ _ _ _ s => oSw s d lo hi offs
def fGet (a b : Nat) : AF := fun x _ _ _ s => oGet x s a b
def fPut (a b : Nat) : AF := fun x _ _ _ s => oPut x s a b
def fLd (t : Nat) (ref : Bool) : AF := fun x _ _ _ s => oLd (xB x) s t ref
/-- an int of an array, or of the script: its z-th is the int symbol z -/
def fLi : AF := fun x _ mn _ s => match sSt s with
  | i :: .inr (.inr (.inr (.inr (.inr 0)))) :: r => match aNm (wE (sW s)) i with
    | .inl z => if decide (0 ≤ z) && decide (z < (xSc x mn : Int)) then oOne (sGo s (sPc s + 1) (aNm (wE (sW s)) (aS z.toNat) :: r)) else none
    | _ => none
  | _ => oLd (xB x) s 0 false
def fSt (t : Nat) : AF := fun x _ _ _ s => oSt (xB x) s t
def fAst : AF := fun x _ _ _ s => match sSt s with
  | .inr (.inr (.inr (.inr (.inl (some v))))) :: .inl q :: .inr (.inr (.inr (.inr (.inl (some id))))) :: r =>
    if Nat.blt id (wH (sW s)).1 && Nat.blt v (wH (sW s)).1 then
      match hGet (xB x) (wH (sW s)) id, hGet (xB x) (wH (sW s)) v with
      | .inl (5, n, .inl l), .inr (0, _) => if decide (0 ≤ q) && decide (q < (n : Int)) && decide (q ≤ 1000) && Nat.beq l.length n then oOne (sGoW s (sPc s + 1) r (wHp (sW s) (hSet (wH (sW s)) id (.inl (5, n, .inl (l.set q.toNat (aR (some v)))))))) else none
      | _, _ => none
    else none
  | _ => none
def fLen : AF := fun x _ _ _ s => match sSt s with
  | .inr (.inr (.inr (.inr (.inl (some id))))) :: r => if Nat.blt id (wH (sW s)).1 then (match hGet (xB x) (wH (sW s)) id with | .inl (_, n, _) => if Nat.ble n 100000 then oOne (sGo s (sPc s + 1) (aI (n : Int) :: r)) else none | _ => none) else none
  | _ => none
/-- an array's length, or the script's -/
def fLn : AF := fun x call mn c s => match sSt s with
  | .inr (.inr (.inr (.inr (.inr 0)))) :: r => if Nat.ble 1 (xSc x mn) && Nat.ble (xSc x mn) 100000 then oOne (sGo s (sPc s + 1) (aI (xSc x mn : Int) :: r)) else none
  | _ => fLen x call mn c s
def fNew (a b : Nat) : AF := fun x _ mn _ s =>
  if Nat.beq b 0 then oNew s (xM x mn) a
  else if Nat.ble 6 (mFr (xM x mn)) && Nat.ble (((sSt s).map aCat).sum + 82) (mLo (xM x mn)) && Nat.ble (sC s + 1) (mCe (xM x mn)) && Nat.ble (sS s + 6) (mSl (xM x mn)) then some ([], [(.inr a, sW s)]) else none
def fNwa (a : Nat) : AF := fun x _ mn _ s => oNwa s (xM x mn) a
def fNwq : AF := fun x _ mn _ s => oNwq s (xM x mn)
def fMn (d : Nat) : AF := fun x _ mn _ s => match d with
  | 2 => oMn2 s (xM x mn)
  | 3 => oMn3 s (xM x mn)
  | _ => none
def fInv (a k : Nat) : AF := fun x call mn _ s => oCall x call mn s a k
def fInvS (a b : Nat) : AF := fun x call mn _ s => if Nat.beq b 5 then oCpy x s (xM x mn) else if Nat.beq b 6 then oCall x call mn s a 6 else if Nat.beq b 7 then oMm true s (xM x mn) else if Nat.beq b 8 then oMm false s (xM x mn) else oCall x call mn s a 1
def fInvI (a b : Nat) : AF := fun x call mn _ s =>
  if Nat.beq b 4 then (match sSt s with | .inr (.inr (.inr (.inr (.inl (some _))))) :: r => if Nat.ble 1 (mFr (xM x mn)) && Nat.ble ((r.map aCat).sum + 12) (mLo (xM x mn)) then oOne (sGo s (sPc s + 3) r) else none | _ => none)
  else if Nat.beq b 2 || Nat.beq b 3 then oCall x call mn s a b else none
def fRet (k : Nat) : AF := fun x _ mn _ s => match k with
  | 1 => if Nat.beq (mRt (xM x mn)) 1 || Nat.beq (mRt (xM x mn)) 2 then oRet s (xM x mn) else none
  | _ => if Nat.beq (mRt (xM x mn)) k then oRet s (xM x mn) else none
def fNo : AF := fun _ _ _ _ _ => none
/-- what a row does -/
def oF (i : Instr) (a b : Nat) (z : Int) : AF :=
  match i with
  | .iconst n => if inI n then fPsh 1 (aI n) else fNo
  | .bipush _ => fPsh 2 (aI z)
  | .sipush _ => fPsh 3 (aI z)
  | .ldc _ => fPsh 2 (aI z)
  | .ldc_w _ => fPsh 3 (aI z)
  | .ldc2_w _ => fPsh 3 (aJ a)
  | .lconst n => fPsh 1 (aJ (n : Nat))
  | .iload_n k => fLdv 1 k aIsI
  | .iload k => fLdv 2 k aIsI
  | .lload_n k => fLdv 1 k aIsL
  | .lload k => fLdv 2 k aIsL
  | .aload_n k => fLdv 1 k isRef0
  | .aload k => fLdv 2 k isRef0
  | .istore_n k => fStv 1 k aIsI
  | .istore k => fStv 2 k aIsI
  | .lstore_n k => fStv 1 k aIsL
  | .lstore k => fStv 2 k aIsL
  | .astore_n k => fStv 1 k isRef0
  | .astore k => fStv 2 k isRef0
  | .iinc k n => fInc k n
  | .iadd => fBin 0
  | .isub => fBin 1
  | .imul => fBin 2
  | .idiv => fBin 3
  | .irem => fBin 4
  | .iand => fBin 5
  | .ior => fBin 6
  | .ixor => fBin 7
  | .ishl => fBin 8
  | .ishr => fBin 9
  | .iushr => fBin 10
  | .ineg => fNeg
  | .ladd => fBil 0
  | .lsub => fBil 1
  | .land => fBil 2
  | .lor => fBil 3
  | .lxor => fBil 4
  | .lneg => fLng
  | .lshl => fLsh true
  | .lushr => fLsh false
  | .lcmp => fLcm
  | .i2l => fI2l
  | .l2i => fL2i
  | .dup => fDup
  | .pop => fPop
  | .dup2 => fDup2
  | .ifCond _ o => if z = 1 then fIfs a o else fIf a o
  | .if_icmp _ o => fIc a o
  | .goto o => fGoto o
  | .tableswitch d lo hi offs => fSw d lo hi offs
  | .getfield _ => fGet a b
  | .putfield _ => fPut a b
  | .iaload => fLi
  | .laload => fLd 1 false
  | .baload => fLd 2 false
  | .aaload => fLd 0 true
  | .iastore => fSt 0
  | .lastore => fSt 1
  | .bastore => fSt 2
  | .aastore => fAst
  | .arraylength => fLn
  | .new _ => fNew a b
  | .newarray _ => fNwa a
  | .anewarray _ => fNwq
  | .multianewarray _ d => fMn d
  | .invokevirtual _ => fInv a 0
  | .invokestatic _ => fInvS a b
  | .invokespecial _ => fInvI a b
  | .ireturn => fRet 1
  | .lreturn => fRet 3
  | .return_ => fRet 0
  | _ => fNo
/-- a row's doing -/
def rowF (r : ARow) : AF := oF r.1 r.2.2.1 r.2.2.2.1 r.2.2.2.2
/-- one step of method mn (called by c); cf: the rows' doings, by method and pc -/
def oStep (cf : Nat → Nat → Option AF) (x : ACx) (call : Nat → Nat → List AV → AW → Option (List AR)) (mn c : Nat) (s : AS) : AO :=
  match cf mn (sPc s) with
  | none => none
  | some f => f x call mn c s
/-- all ends of the states, one after another -/
noncomputable def oLoop (cf : Nat → Nat → Option AF) (x : ACx) (call : Nat → Nat → List AV → AW → Option (List AR)) (mn c : Nat) : Nat → List AS → List AR → Option (List AR) :=
  fun n => Nat.rec (motive := fun _ => List AS → List AR → Option (List AR)) (fun _ _ => none) (fun _ ih ws o => match ws with
    | [] => some o
    | s :: q => match oStep cf x call mn c s with
      | some (ss, rs) => ih (ss ++ q) (rs ++ o)
      | none => none) n
noncomputable def oRun (cf : Nat → Nat → Option AF) (x : ACx) (call : Nat → Nat → List AV → AW → Option (List AR)) (mn c : Nat) (n : Nat) (s : AS) : Option (List AR) := oLoop cf x call mn c n [s] []
/-- a method's ends: caller, method, arguments, world -/
noncomputable def oMeth (cf : Nat → Nat → Option AF) (x : ACx) : Nat → Nat → Nat → List AV → AW → Option (List AR) :=
  fun d => Nat.rec (motive := fun _ => Nat → Nat → List AV → AW → Option (List AR)) (fun _ _ _ _ => none) (fun _ ih c mn as w =>
    match xCt x mn as w with
    | some rs => some rs
    | none => oRun cf x ih mn c 1000000 (0, argsL (mNL (xM x mn)) as, [], w, [], 0, 0)) d
