/-! Texts on the tape, as functions: blanks, numbers, moves, a way -/
/-- from p on the first place that holds no blank -/
def skT (B : Nat → Int) (N : Int) : Nat → Int → Int
  | 0, p => p
  | f + 1, p => if p < N ∧ B p.toNat = 32 then skT B N f (p + 1) else p
def sk (B : Nat → Int) (N p : Int) : Int := skT B N (N - p).toNat p
theorem sk_blank {B : Nat → Int} {N p : Int} (h : p < N) (hb : B p.toNat = 32) : sk B N p = sk B N (p + 1) := by
  unfold sk
  have e : (N - p).toNat = (N - (p + 1)).toNat + 1 := by omega
  rw [e]
  show (if p < N ∧ B p.toNat = 32 then skT B N (N - (p + 1)).toNat (p + 1) else p) = _
  rw [if_pos ⟨h, hb⟩]
theorem sk_stop {B : Nat → Int} {N p : Int} (h : N ≤ p ∨ B p.toNat ≠ 32) : sk B N p = p := by
  unfold sk
  cases e : (N - p).toNat with
  | zero => rfl
  | succ f =>
    show (if p < N ∧ B p.toNat = 32 then skT B N f (p + 1) else p) = p
    rw [if_neg (fun q => h.elim (fun z => by omega) (fun z => z q.2))]
theorem sk_lo {B : Nat → Int} {N : Int} : ∀ (f : Nat) {p : Int}, (N - p).toNat ≤ f → p ≤ sk B N p
  | 0, p, h => by rw [sk_stop (Or.inl (by omega))]; exact Int.le_refl _
  | f + 1, p, h => by
    by_cases q : p < N ∧ B p.toNat = 32
    · rw [sk_blank q.1 q.2]
      have := sk_lo (B := B) (N := N) f (p := p + 1) (by omega)
      omega
    · rw [sk_stop (by
        by_cases z : p < N
        · exact Or.inr (fun w => q ⟨z, w⟩)
        · exact Or.inl (by omega))]
      exact Int.le_refl _
theorem sk_le {B : Nat → Int} {N p : Int} : p ≤ sk B N p := sk_lo _ (Nat.le_refl _)
/-- the number from p on: its value (100,000 at most), where it ends -/
def dgT (c : Int) : Prop := 48 ≤ c ∧ c ≤ 57
def cap (v : Int) : Int := if 100000 < v then 100000 else v
def nmT (B : Nat → Int) (N : Int) : Nat → Int → Int → Int × Int
  | 0, p, v => (v, p)
  | f + 1, p, v => if p < N ∧ 48 ≤ B p.toNat ∧ B p.toNat ≤ 57 then nmT B N f (p + 1) (cap (10 * v + B p.toNat - 48)) else (v, p)
def nmV (B : Nat → Int) (N p v : Int) : Int := (nmT B N (N - p).toNat p v).1
def nmE (B : Nat → Int) (N p v : Int) : Int := (nmT B N (N - p).toNat p v).2
theorem nmT_dig {B : Nat → Int} {N p v : Int} (h : p < N) (h1 : 48 ≤ B p.toNat) (h2 : B p.toNat ≤ 57) : nmT B N (N - p).toNat p v = nmT B N (N - (p + 1)).toNat (p + 1) (cap (10 * v + B p.toNat - 48)) := by
  have e : (N - p).toNat = (N - (p + 1)).toNat + 1 := by omega
  rw [e]
  show (if p < N ∧ 48 ≤ B p.toNat ∧ B p.toNat ≤ 57 then _ else _) = _
  rw [if_pos ⟨h, h1, h2⟩]
theorem nmV_dig {B : Nat → Int} {N p v : Int} (h : p < N) (h1 : 48 ≤ B p.toNat) (h2 : B p.toNat ≤ 57) : nmV B N p v = nmV B N (p + 1) (cap (10 * v + B p.toNat - 48)) := congrArg Prod.fst (nmT_dig h h1 h2)
theorem nmE_dig {B : Nat → Int} {N p v : Int} (h : p < N) (h1 : 48 ≤ B p.toNat) (h2 : B p.toNat ≤ 57) : nmE B N p v = nmE B N (p + 1) (cap (10 * v + B p.toNat - 48)) := congrArg Prod.snd (nmT_dig h h1 h2)
theorem nmT_stop {B : Nat → Int} {N p v : Int} (h : N ≤ p ∨ B p.toNat < 48 ∨ 57 < B p.toNat) : nmT B N (N - p).toNat p v = (v, p) := by
  cases e : (N - p).toNat with
  | zero => rfl
  | succ f =>
    show (if p < N ∧ 48 ≤ B p.toNat ∧ B p.toNat ≤ 57 then _ else _) = _
    rw [if_neg (by omega)]
theorem nmV_stop {B : Nat → Int} {N p v : Int} (h : N ≤ p ∨ B p.toNat < 48 ∨ 57 < B p.toNat) : nmV B N p v = v := congrArg Prod.fst (nmT_stop h)
theorem nmE_stop {B : Nat → Int} {N p v : Int} (h : N ≤ p ∨ B p.toNat < 48 ∨ 57 < B p.toNat) : nmE B N p v = p := congrArg Prod.snd (nmT_stop h)
theorem nmE_lo {B : Nat → Int} {N : Int} : ∀ (f : Nat) {p v : Int}, (N - p).toNat ≤ f → p ≤ nmE B N p v
  | 0, p, v, h => by rw [nmE_stop (Or.inl (by omega))]; exact Int.le_refl _
  | f + 1, p, v, h => by
    by_cases q : p < N ∧ 48 ≤ B p.toNat ∧ B p.toNat ≤ 57
    · rw [nmE_dig q.1 q.2.1 q.2.2]
      have := nmE_lo (B := B) (N := N) f (p := p + 1) (v := cap (10 * v + B p.toNat - 48)) (by omega)
      omega
    · rw [nmE_stop (by omega)]
      exact Int.le_refl _
theorem nmE_le {B : Nat → Int} {N p v : Int} : p ≤ nmE B N p v := nmE_lo _ (Nat.le_refl _)
/-- the direction of a letter; the cell beside another one -/
def dirT (c : Int) : Int := if c = 114 then 0 else if c = 108 then 1 else if c = 100 then 2 else if c = 117 then 3 else if c = 99 then 4 else if c = 115 then 5 else -1
def besT (x d : Int) : Int :=
  if d = 0 then (if x % 8 = 7 then -1 else x + 1)
  else if d = 1 then (if x % 8 = 0 then -1 else x - 1)
  else if d = 2 then (if x / 8 % 8 = 7 then -1 else x + 8)
  else if d = 3 then (if x / 8 % 8 = 0 then -1 else x - 8)
  else if d = 4 then (if x / 64 = 1 then -1 else x + 64)
  else (if x / 64 = 0 then -1 else x - 64)
/-- cells told so far: how many, which -/
abbrev WyA : Type := Int × (Nat → Int)
def isT (f : Nat → Int) (x : Int) : Nat → Bool
  | 0 => false
  | k + 1 => isT f x k || decide (f k = x)
theorem isT_t {f : Nat → Int} {x : Int} : ∀ {n : Nat}, isT f x n = true → ∃ k, k < n ∧ f k = x
  | 0, h => by cases h
  | n + 1, h => by
    rcases Bool.or_eq_true _ _ |>.mp h with q | q
    · obtain ⟨k, h1, h2⟩ := isT_t q
      exact ⟨k, by omega, h2⟩
    · exact ⟨n, by omega, of_decide_eq_true q⟩
theorem isT_of {f : Nat → Int} {x : Int} : ∀ {n k : Nat}, k < n → f k = x → isT f x n = true
  | 0, k, h, _ => absurd h (Nat.not_lt_zero _)
  | n + 1, k, h, e => by
    show (isT f x n || decide (f n = x)) = true
    by_cases q : k = n
    · rw [← q, e, decide_eq_true rfl, Bool.or_true]
    · rw [isT_of (n := n) (k := k) (by omega) e, Bool.true_or]
theorem isT_f {f : Nat → Int} {x : Int} {n : Nat} (h : ∀ k, k < n → f k ≠ x) : isT f x n = false := by
  cases e : isT f x n with
  | false => rfl
  | true => obtain ⟨k, h1, h2⟩ := isT_t e; exact absurd h2 (h k h1)
def extT (d : Int) (a : WyA) : Option WyA :=
  if besT (a.2 (a.1 - 1).toNat) d = -1 then none
  else if a.1 = 24 then none
  else if isT a.2 (besT (a.2 (a.1 - 1).toNat) d) a.1.toNat = true then none
  else some (a.1 + 1, fun k => if k = a.1.toNat then besT (a.2 (a.1 - 1).toNat) d else a.2 k)
def extN (d : Int) : Nat → WyA → Option WyA
  | 0, a => some a
  | t + 1, a => match extT d a with
    | none => none
    | some a' => extN d t a'
/-- a move at q: where it ends, what is told then -/
def mvT (B : Nat → Int) (N q : Int) (a : WyA) : Option (Int × WyA) :=
  if dirT (B q.toNat) = -1 then none
  else if dirT (B q.toNat) < 4 ∧ sk B N (q + 1) < N ∧ 48 ≤ B (sk B N (q + 1)).toNat ∧ B (sk B N (q + 1)).toNat ≤ 57 then
    (if nmV B N (sk B N (q + 1)) 0 < 1 ∨ 7 < nmV B N (sk B N (q + 1)) 0 then none
     else (extN (dirT (B q.toNat)) (nmV B N (sk B N (q + 1)) 0).toNat a).map (fun a' => (sk B N (nmE B N (sk B N (q + 1)) 0), a')))
  else (extN (dirT (B q.toNat)) 1 a).map (fun a' => (sk B N (q + 1), a'))
def wT (B : Nat → Int) (N : Int) : Nat → Int → WyA → Option WyA
  | 0, q, a => if N ≤ q then some a else none
  | f + 1, q, a => if N ≤ q then some a else match mvT B N q a with
    | none => none
    | some p => wT B N f p.1 p.2
/-- from q with a the way comes out as R -/
def WyI (B : Nat → Int) (N q : Int) (a : WyA) (R : Option WyA) : Prop := ∃ f : Nat, N - q ≤ (f : Int) ∧ wT B N f q a = R
theorem wi_0 {B : Nat → Int} {N q : Int} {a : WyA} (h : 0 ≤ q) (hN : 0 ≤ N) : WyI B N q a (wT B N N.toNat q a) := ⟨N.toNat, by omega, rfl⟩
theorem wi_end {B : Nat → Int} {N q : Int} {a : WyA} {R : Option WyA} (h : WyI B N q a R) (hq : N ≤ q) : R = some a := by
  obtain ⟨f, -, h⟩ := h
  cases f with
  | zero => rw [← h]; exact if_pos hq
  | succ f => rw [← h]; exact if_pos hq
theorem wi_none {B : Nat → Int} {N q : Int} {a : WyA} {R : Option WyA} (h : WyI B N q a R) (hq : q < N) (hm : mvT B N q a = none) : R = none := by
  obtain ⟨f, h0, h⟩ := h
  cases f with
  | zero => omega
  | succ f =>
    rw [← h]
    show (if N ≤ q then some a else match mvT B N q a with | none => none | some p => wT B N f p.1 p.2) = none
    rw [if_neg (by omega), hm]
theorem wi_step {B : Nat → Int} {N q q' : Int} {a a' : WyA} {R : Option WyA} (h : WyI B N q a R) (hq : q < N) (hm : mvT B N q a = some (q', a')) (hl : q < q') : WyI B N q' a' R := by
  obtain ⟨f, h0, h⟩ := h
  cases f with
  | zero => omega
  | succ f =>
    refine ⟨f, by omega, ?_⟩
    rw [← h]
    show _ = (if N ≤ q then some a else match mvT B N q a with | none => none | some p => wT B N f p.1 p.2)
    rw [if_neg (by omega), hm]
/-- the way that a text of N bytes tells -/
def parseT (B : Nat → Int) (N : Int) : Option WyA :=
  if sk B N 0 < N ∧ 48 ≤ B (sk B N 0).toNat ∧ B (sk B N 0).toNat ≤ 57 then
    (if 127 < nmV B N (sk B N 0) 0 then none
     else wT B N N.toNat (sk B N (nmE B N (sk B N 0) 0)) (1, fun _ => nmV B N (sk B N 0) 0))
  else none
/-- the ends of a move -/
theorem mv_dir {B : Nat → Int} {N q : Int} {a : WyA} (h : dirT (B q.toNat) = -1) : mvT B N q a = none := by unfold mvT; rw [if_pos h]
theorem mv_num {B : Nat → Int} {N q r : Int} {a : WyA} (h : dirT (B q.toNat) ≠ -1) (hr : r = sk B N (q + 1)) (h1 : dirT (B q.toNat) < 4) (h2 : r < N) (h3 : 48 ≤ B r.toNat) (h4 : B r.toNat ≤ 57) (h5 : nmV B N r 0 < 1 ∨ 7 < nmV B N r 0) : mvT B N q a = none := by
  subst hr
  unfold mvT; rw [if_neg h, if_pos ⟨h1, h2, h3, h4⟩, if_pos h5]
theorem mv_many {B : Nat → Int} {N q r : Int} {a : WyA} (h : dirT (B q.toNat) ≠ -1) (hr : r = sk B N (q + 1)) (h1 : dirT (B q.toNat) < 4) (h2 : r < N) (h3 : 48 ≤ B r.toNat) (h4 : B r.toNat ≤ 57) (h5 : 1 ≤ nmV B N r 0) (h6 : nmV B N r 0 ≤ 7) : mvT B N q a = (extN (dirT (B q.toNat)) (nmV B N r 0).toNat a).map (fun a' => (sk B N (nmE B N r 0), a')) := by
  subst hr
  unfold mvT; rw [if_neg h, if_pos ⟨h1, h2, h3, h4⟩, if_neg (by omega)]
theorem mv_one {B : Nat → Int} {N q r : Int} {a : WyA} (h : dirT (B q.toNat) ≠ -1) (hr : r = sk B N (q + 1)) (h1 : 4 ≤ dirT (B q.toNat) ∨ N ≤ r ∨ B r.toNat < 48 ∨ 57 < B r.toNat) : mvT B N q a = (extN (dirT (B q.toNat)) 1 a).map (fun a' => (r, a')) := by
  subst hr
  unfold mvT; rw [if_neg h, if_neg (by omega)]
/-- the sign of the text that was read last: where it begins is st, behind it a, its kind k, its value v -/
def TKN (B : Nat → Int) (N k st a v : Int) : Prop := (N ≤ st ∧ k = -1) ∨ (st < N ∧ 48 ≤ B st.toNat ∧ B st.toNat ≤ 57 ∧ k = -2 ∧ v = nmV B N st 0 ∧ a = nmE B N st 0) ∨ (st < N ∧ (B st.toNat < 48 ∨ 57 < B st.toNat) ∧ k = B st.toNat ∧ 0 ≤ k ∧ a = st + 1)
theorem tkn_num {B : Nat → Int} {N k st a v x Q : Int} (hx : x = Q) (hs : st = Q) (h : Q < N) (h1 : 48 ≤ B x.toNat) (h2 : B x.toNat ≤ 57) (hk : k = -2) (hv : v = nmV B N Q 0) (ha : a = nmE B N Q 0) : TKN B N k st a v := by
  subst hx hs
  exact Or.inr (Or.inl ⟨h, h1, h2, hk, hv, ha⟩)
theorem tkn_sig {B : Nat → Int} {N k st a v x Q : Int} (hx : x = Q) (hs : st = Q) (h : Q < N) (h1 : B x.toNat < 48 ∨ 57 < B x.toNat) (hk : k = B x.toNat) (h0 : 0 ≤ k) (ha : a = Q + 1) : TKN B N k st a v := by
  subst hx hs
  exact Or.inr (Or.inr ⟨h, h1, hk, h0, ha⟩)
theorem bes_of {x y e : Int} (h : ((y = 0 ∧ ((x % 8 = 7 ∧ e = -1) ∨ (¬ x % 8 = 7 ∧ e = x + 1))) ∨ (y = 1 ∧ ((x % 8 = 0 ∧ e = -1) ∨ (¬ x % 8 = 0 ∧ e = x - 1))) ∨ (y = 2 ∧ ((x / 8 % 8 = 7 ∧ e = -1) ∨ (¬ x / 8 % 8 = 7 ∧ e = x + 8))) ∨ (y = 3 ∧ ((x / 8 % 8 = 0 ∧ e = -1) ∨ (¬ x / 8 % 8 = 0 ∧ e = x - 8))) ∨ (y = 4 ∧ ((x / 64 = 1 ∧ e = -1) ∨ (¬ x / 64 = 1 ∧ e = x + 64))) ∨ (y = 5 ∧ ((x / 64 = 0 ∧ e = -1) ∨ (¬ x / 64 = 0 ∧ e = x - 64)))) ∧ -1 ≤ e ∧ e ≤ 127) : e = besT x y := by
  unfold besT
  rcases h.1 with ⟨h1, h2⟩ | ⟨h1, h2⟩ | ⟨h1, h2⟩ | ⟨h1, h2⟩ | ⟨h1, h2⟩ | ⟨h1, h2⟩
  · rw [if_pos h1]
    rcases h2 with ⟨p, q⟩ | ⟨p, q⟩
    · rw [if_pos p]; exact q
    · rw [if_neg p]; exact q
  · rw [if_neg (by omega), if_pos h1]
    rcases h2 with ⟨p, q⟩ | ⟨p, q⟩
    · rw [if_pos p]; exact q
    · rw [if_neg p]; exact q
  · rw [if_neg (by omega), if_neg (by omega), if_pos h1]
    rcases h2 with ⟨p, q⟩ | ⟨p, q⟩
    · rw [if_pos p]; exact q
    · rw [if_neg p]; exact q
  · rw [if_neg (by omega), if_neg (by omega), if_neg (by omega), if_pos h1]
    rcases h2 with ⟨p, q⟩ | ⟨p, q⟩
    · rw [if_pos p]; exact q
    · rw [if_neg p]; exact q
  · rw [if_neg (by omega), if_neg (by omega), if_neg (by omega), if_neg (by omega), if_pos h1]
    rcases h2 with ⟨p, q⟩ | ⟨p, q⟩
    · rw [if_pos p]; exact q
    · rw [if_neg p]; exact q
  · rw [if_neg (by omega), if_neg (by omega), if_neg (by omega), if_neg (by omega), if_neg (by omega)]
    rcases h2 with ⟨p, q⟩ | ⟨p, q⟩
    · rw [if_pos p]; exact q
    · rw [if_neg p]; exact q
/-- the array of cells ar, as many as the symbol tz says, is a -/
def AGx (ar tz : Nat) (a : WyA) (s : PS) : Prop := a.1 = iI s tz ∧ ∀ k : Nat, (k : Int) < a.1 → a.2 k = iC s ar k
theorem ag_sam {ar tz : Nat} {a : WyA} {s t : PS} (h : AGx ar tz a s) (h1 : SAM ar s t) (h2 : iI t tz = iI s tz) : AGx ar tz a t := ⟨h.1.trans h2.symm, fun k hk => (h.2 k hk).trans (h1 k).symm⟩
theorem ag_at {ar tz : Nat} {a : WyA} {s : PS} (h : AGx ar tz a s) {c : Int} (h0 : 0 ≤ c) (h1 : c < a.1) : iC s ar c.toNat = a.2 c.toNat := (h.2 _ (by omega)).symm
/-- one step more: what comes of it -/
def EXR (ar tz : Nat) (d : Int) (a : WyA) (t : PS) : Prop := ∃ a', extT d a = some a' ∧ AGx ar tz a' t ∧ a'.1 = a.1 + 1
theorem ext_no1 {d c nx : Int} {a : WyA} (hc : c = a.2 (a.1 - 1).toNat) (hn : nx = besT c d) (h : nx = -1) : extT d a = none := by
  unfold extT
  rw [← hc, ← hn, if_pos h]
theorem ext_no2 {d c nx : Int} {a : WyA} (hc : c = a.2 (a.1 - 1).toNat) (hn : nx = besT c d) (h : nx ≠ -1) (h2 : a.1 = 24) : extT d a = none := by
  unfold extT
  rw [← hc, ← hn, if_neg h, if_pos h2]
theorem ext_no3 {ar tz : Nat} {d c nx : Int} {a : WyA} {s : PS} (hc : c = a.2 (a.1 - 1).toNat) (hn : nx = besT c d) (h : nx ≠ -1) (h2 : a.1 ≠ 24) (hA : AGx ar tz a s) (hh : HAS ar (iI s tz) nx s) : extT d a = none := by
  unfold extT
  have e : isT a.2 nx a.1.toNat = true := by
    obtain ⟨j, h3, h4⟩ := hh
    have h5 : (j : Int) < a.1 := by rw [hA.1]; exact h3
    exact isT_of (k := j) (by omega) (by rw [hA.2 j h5]; exact h4)
  rw [← hc, ← hn, if_neg h, if_neg h2, if_pos e]
theorem ext_yes {ar tz : Nat} {d c nx : Int} {a : WyA} {s t : PS} (hc : c = a.2 (a.1 - 1).toNat) (hn : nx = besT c d) (h : nx ≠ -1) (h2 : a.1 ≠ 24) (h0 : 0 ≤ a.1) (hA : AGx ar tz a s) (hh : NHS ar (iI s tz) nx s) (hu : UPD ar (iI s tz) nx s t) (ht : iI t tz = iI s tz + 1) : EXR ar tz d a t := by
  have e : isT a.2 nx a.1.toNat = false := isT_f (fun k hk => by
    have h5 : (k : Int) < a.1 := by omega
    rw [hA.2 k h5]
    exact hh k (by rw [← hA.1]; exact h5))
  refine ⟨(a.1 + 1, fun k => if k = a.1.toNat then nx else a.2 k), ?_, ⟨by rw [ht, ← hA.1], fun k hk => ?_⟩, rfl⟩
  · unfold extT
    rw [← hc, ← hn, if_neg h, if_neg h2, e, if_neg (by decide)]
  · show (if k = a.1.toNat then nx else a.2 k) = _
    replace hk : (k : Int) < a.1 + 1 := hk
    by_cases q : k = a.1.toNat
    · rw [if_pos q, q, hA.1]; exact hu.1.symm
    · rw [if_neg q, hu.2 k (by rw [← hA.1]; exact q)]; exact hA.2 k (by omega)
/-- so many steps -/
theorem en_step {d : Int} {n : Nat} {a a' : WyA} (h : extT d a = some a') : extN d (n + 1) a = extN d n a' := by
  show (match extT d a with | none => none | some a' => extN d n a') = _
  rw [h]
theorem en_none {d : Int} {n : Nat} {a : WyA} (h : extT d a = none) : extN d (n + 1) a = none := by
  show (match extT d a with | none => none | some a' => extN d n a') = _
  rw [h]
/-- c of m steps are made; what all of them come to is R -/
def ENI (ar tz : Nat) (d m c : Int) (R : Option WyA) (t : PS) : Prop := ∃ a : WyA, extN d (m - c).toNat a = R ∧ AGx ar tz a t ∧ 1 ≤ a.1 ∧ a.1 ≤ 24
theorem eni_end {ar tz : Nat} {d m c : Int} {R : Option WyA} {t : PS} (h : ENI ar tz d m c R t) (hc : m ≤ c) : ∃ a, R = some a ∧ AGx ar tz a t ∧ 1 ≤ a.1 ∧ a.1 ≤ 24 := by
  obtain ⟨a, h1, h2, h3⟩ := h
  have e : (m - c).toNat = 0 := by omega
  rw [e] at h1
  exact ⟨a, h1.symm, h2, h3⟩
theorem tkn_end {B : Nat → Int} {N k st a v : Int} (h : TKN B N k st a v) (hk : k = -1) : N ≤ st := by
  rcases h with h | h | h <;> omega
theorem tkn_ne {B : Nat → Int} {N k st a v : Int} (h : TKN B N k st a v) (hk : k ≠ -1) : st < N := by
  rcases h with h | h | h <;> omega
theorem tkn_is {B : Nat → Int} {N k st a v : Int} (h : TKN B N k st a v) (hk : k = -2) : st < N ∧ 48 ≤ B st.toNat ∧ B st.toNat ≤ 57 ∧ v = nmV B N st 0 ∧ a = nmE B N st 0 := by
  rcases h with h | h | h
  · omega
  · exact ⟨h.1, h.2.1, h.2.2.1, h.2.2.2.2⟩
  · omega
theorem tkn_nn {B : Nat → Int} {N k st a v : Int} (h : TKN B N k st a v) (hk : k ≠ -2) : N ≤ st ∨ B st.toNat < 48 ∨ 57 < B st.toNat := by
  rcases h with h | h | h <;> omega
theorem dir_dig {c : Int} (h1 : 48 ≤ c) (h2 : c ≤ 57) : dirT c = -1 := by
  unfold dirT
  rw [if_neg (by omega), if_neg (by omega), if_neg (by omega), if_neg (by omega), if_neg (by omega), if_neg (by omega)]
theorem tkn_dir {B : Nat → Int} {N k st a v : Int} (h : TKN B N k st a v) (hk : k ≠ -1) : dirT k = dirT (B st.toNat) := by
  rcases h with h | h | h
  · omega
  · rw [dir_dig h.2.1 h.2.2.1, h.2.2.2.1]; rfl
  · rw [h.2.2.1]
theorem tkn_at {B : Nat → Int} {N k st a v : Int} (h : TKN B N k st a v) (hk : k ≠ -1) (hd : dirT k ≠ -1) : a = st + 1 := by
  rcases h with h | h | h
  · omega
  · exact absurd (by rw [h.2.2.2.1]; rfl) hd
  · exact h.2.2.2.2
theorem nmE_gt {B : Nat → Int} {N p v : Int} (h : p < N) (h1 : 48 ≤ B p.toNat) (h2 : B p.toNat ≤ 57) : p + 1 ≤ nmE B N p v := by
  rw [nmE_dig h h1 h2]; exact nmE_le
theorem sk_sk {B : Nat → Int} {N p : Int} : sk B N (sk B N p) = sk B N p := by
  have L : ∀ (f : Nat) {p : Int}, (N - p).toNat ≤ f → sk B N (sk B N p) = sk B N p := by
    intro f
    induction f with
    | zero => intro p h; rw [sk_stop (p := p) (Or.inl (by omega)), sk_stop (p := p) (Or.inl (by omega))]
    | succ f ih =>
      intro p h
      by_cases q : p < N ∧ B p.toNat = 32
      · rw [sk_blank q.1 q.2]; exact ih (by omega)
      · have e : sk B N p = p := sk_stop (by
          by_cases z : p < N
          · exact Or.inr (fun w => q ⟨z, w⟩)
          · exact Or.inl (by omega))
        rw [e, e]
  exact L _ (Nat.le_refl _)
theorem dir_of {c e : Int} (h : (c = 114 ∧ e = 0) ∨ (c = 108 ∧ e = 1) ∨ (c = 100 ∧ e = 2) ∨ (c = 117 ∧ e = 3) ∨ (c = 99 ∧ e = 4) ∨ (c = 115 ∧ e = 5) ∨ (c ≠ 114 ∧ c ≠ 108 ∧ c ≠ 100 ∧ c ≠ 117 ∧ c ≠ 99 ∧ c ≠ 115 ∧ e = -1)) : e = dirT c := by
  rcases h with ⟨h, z⟩ | ⟨h, z⟩ | ⟨h, z⟩ | ⟨h, z⟩ | ⟨h, z⟩ | ⟨h, z⟩ | ⟨h1, h2, h3, h4, h5, h6, z⟩
  · rw [h, z]; rfl
  · rw [h, z]; rfl
  · rw [h, z]; rfl
  · rw [h, z]; rfl
  · rw [h, z]; rfl
  · rw [h, z]; rfl
  · unfold dirT
    rw [if_neg h1, if_neg h2, if_neg h3, if_neg h4, if_neg h5, if_neg h6]; exact z
/-- the model's number at p: its value e, where it ends a; f0, f1 the fault ahead of it and behind it -/
def NUR (B : Nat → Int) (N p x y e f0 f1 a : Int) : Prop := e = nmV B N (sk B N p) 0 ∧ a = nmE B N (sk B N p) 0 ∧ ((f0 ≠ 0 ∧ f1 ≠ 0) ∨ (f0 = 0 ∧ f1 = 0 ∧ sk B N p < N ∧ 48 ≤ B (sk B N p).toNat ∧ B (sk B N p).toNat ≤ 57 ∧ x ≤ e ∧ e ≤ y) ∨ (f0 = 0 ∧ f1 ≠ 0 ∧ (N ≤ sk B N p ∨ B (sk B N p).toNat < 48 ∨ 57 < B (sk B N p).toNat ∨ e < x ∨ y < e)))
/-- whether a digit stands there -/
def NDG (B : Nat → Int) (N p f0 f1 : Int) : Prop := (f1 = f0 ∧ sk B N p < N ∧ 48 ≤ B (sk B N p).toNat ∧ B (sk B N p).toNat ≤ 57) ∨ (f1 ≠ 0 ∧ (N ≤ sk B N p ∨ B (sk B N p).toNat < 48 ∨ 57 < B (sk B N p).toNat))
theorem ndg_y {B : Nat → Int} {N p f0 f1 z : Int} (hz : z = sk B N p) (h : f1 = f0) (h1 : z < N) (h2 : 48 ≤ B z.toNat) (h3 : B z.toNat ≤ 57) : NDG B N p f0 f1 := by subst hz; exact Or.inl ⟨h, h1, h2, h3⟩
theorem ndg_n {B : Nat → Int} {N p f0 f1 z : Int} (hz : z = sk B N p) (h : f1 ≠ 0) (h1 : N ≤ z ∨ B z.toNat < 48 ∨ 57 < B z.toNat) : NDG B N p f0 f1 := by subst hz; exact Or.inr ⟨h, h1⟩
theorem nur_of {B : Nat → Int} {N p x y e f0 f1 f2 a : Int} (h : NDG B N p f0 f1) (he : e = nmV B N (sk B N p) 0) (ha : a = nmE B N (sk B N p) 0) (hf : (x ≤ e ∧ e ≤ y ∧ f2 = f1) ∨ ((e < x ∨ y < e) ∧ f2 ≠ 0)) : NUR B N p x y e f0 f2 a := by
  refine ⟨he, ha, ?_⟩
  rcases h with h | h
  · by_cases q : f0 = 0
    · rcases hf with hf | hf
      · exact Or.inr (Or.inl ⟨q, by omega, h.2.1, h.2.2.1, h.2.2.2, hf.1, hf.2.1⟩)
      · exact Or.inr (Or.inr ⟨q, hf.2, Or.inr (Or.inr (Or.inr hf.1))⟩)
    · exact Or.inl ⟨q, by omega⟩
  · by_cases q : f0 = 0
    · exact Or.inr (Or.inr ⟨q, by omega, by rcases h.2 with z | z | z; exact Or.inl z; exact Or.inr (Or.inl z); exact Or.inr (Or.inr (Or.inl z))⟩)
    · exact Or.inl ⟨q, by omega⟩
theorem nmV_lo {B : Nat → Int} {N : Int} : ∀ (f : Nat) {p v : Int}, (N - p).toNat ≤ f → 0 ≤ v → 0 ≤ nmV B N p v
  | 0, p, v, h, hv => by rw [nmV_stop (Or.inl (by omega))]; exact hv
  | f + 1, p, v, h, hv => by
    by_cases q : p < N ∧ 48 ≤ B p.toNat ∧ B p.toNat ≤ 57
    · rw [nmV_dig q.1 q.2.1 q.2.2]
      exact nmV_lo (B := B) (N := N) f (by omega) (by unfold cap; split <;> omega)
    · rw [nmV_stop (by omega)]; exact hv
theorem nmV_nn {B : Nat → Int} {N p : Int} : 0 ≤ nmV B N p 0 := nmV_lo _ (Nat.le_refl _) (Int.le_refl _)
/-- how many streams there are behind the reading of a text of w bytes: cs ahead of it, ct behind it -/
def STRx (B : Nat → Int) (w cs ct : Int) : Prop := (cs = 12 ∧ ct = 12) ∨ (cs ≤ 11 ∧ ((parseT B w = none ∧ ct = cs) ∨ ((∃ a, parseT B w = some a) ∧ ct = cs + 1)))
theorem str_eq {B : Nat → Int} {w c c1 c2 : Int} (h1 : STRx B w c c1) (h2 : STRx B w c c2) : c1 = c2 := by
  rcases h1 with h1 | ⟨h0, h1 | h1⟩
  · rcases h2 with h2 | h2 <;> omega
  · rcases h2 with h2 | ⟨h3, h2 | ⟨⟨a, h2⟩, h4⟩⟩
    · omega
    · omega
    · rw [h1.1] at h2; cases h2
  · obtain ⟨⟨a, h1⟩, h5⟩ := h1
    rcases h2 with h2 | ⟨h3, h2 | h2⟩
    · omega
    · rw [h1] at h2; cases h2.1
    · omega
/-- a byte of a number: by the class's shift -/
def byT (w sh : Int) : Int := ((((Int32.ofInt w).toUInt32 >>> ((Int32.ofInt sh).toUInt32 &&& Int32.toUInt32 31)).toInt32) &&& Int32.ofInt 255).toInt
def bt (x : Int32) (i : Nat) : Bool := x.toBitVec.getLsbD i
theorem b_ext {x y : Int32} (h : ∀ i, i < 32 → bt x i = bt y i) : x = y := Int32.toBitVec_inj.mp (BitVec.eq_of_getLsbD_eq (fun i hi => h i hi))
theorem b_and (x y : Int32) (i : Nat) : bt (x &&& y) i = (bt x i && bt y i) := by unfold bt; rw [Int32.toBitVec_and, BitVec.getLsbD_and]
theorem b_big {x : Int32} {i : Nat} (h : 32 ≤ i) : bt x i = false := BitVec.getLsbD_of_ge _ _ h
theorem b_255 (i : Nat) : bt 255 i = decide (i < 8) := by
  rcases Nat.lt_or_ge i 32 with h | h
  · exact (by decide +kernel : ∀ i, i < 32 → bt 255 i = decide (i < 8)) i h
  · rw [b_big h, decide_eq_false (by omega)]
theorem s_l : ∀ n, n < 32 → ((nI n &&& 31).toBitVec.smod 32).toNat = n := by decide +kernel
theorem s_u : ∀ n, n < 32 → (((nI n).toUInt32 &&& Int32.toUInt32 31).toBitVec % 32).toNat = n := by decide +kernel
theorem b_ushr (n : Nat) (hn : n < 32) (x : Int32) (i : Nat) : bt ((x.toUInt32 >>> ((nI n).toUInt32 &&& Int32.toUInt32 31)).toInt32) i = bt x (n + i) := by
  show (x.toUInt32 >>> ((nI n).toUInt32 &&& Int32.toUInt32 31)).toBitVec.getLsbD i = x.toUInt32.toBitVec.getLsbD (n + i)
  rw [UInt32.toBitVec_shiftRight]
  show (x.toUInt32.toBitVec >>> (((nI n).toUInt32 &&& Int32.toUInt32 31).toBitVec % 32).toNat).getLsbD i = _
  rw [s_u n hn, BitVec.getLsbD_ushiftRight]
theorem b_sshr (n : Nat) (hn : n < 32) (x : Int32) {i : Nat} (hi : i < 32) : bt (x >>> (nI n &&& 31)) i = if n + i < 32 then bt x (n + i) else bt x 31 := by
  unfold bt
  rw [Int32.toBitVec_shiftRight]
  show (x.toBitVec.sshiftRight ((nI n &&& 31).toBitVec.smod 32).toNat).getLsbD i = _
  rw [s_l n hn, BitVec.getLsbD_sshiftRight, BitVec.msb_eq_getLsbD_last]
  simp [hi]
theorem sh_eq {x : Int32} {n : Nat} (hn : n ≤ 24) : (x >>> (nI n &&& 31)) &&& Int32.ofInt 255 = ((x.toUInt32 >>> ((nI n).toUInt32 &&& Int32.toUInt32 31)).toInt32) &&& Int32.ofInt 255 := by
  have e : Int32.ofInt 255 = 255 := by decide
  rw [e]
  refine b_ext (fun i hi => ?_)
  rw [b_and, b_and, b_255]
  by_cases q : i < 8
  · rw [b_sshr n (by omega) x hi, b_ushr n (by omega), if_pos (by omega)]
  · rw [decide_eq_false q, Bool.and_false, Bool.and_false]
/-- the cells of ar from z0 to z1 are f's, the others as they were -/
def FDP (ar : Nat) (f : Int → Int) (z0 z1 : Int) (s t : PS) : Prop := ∀ j : Nat, iC t ar j = if z0 ≤ (j : Int) ∧ (j : Int) < z1 then f ((j : Int) - z0) else iC s ar j
theorem fdp_0 {ar : Nat} {f : Int → Int} {z : Int} {s : PS} : FDP ar f z z s s := fun j => by rw [if_neg (by omega)]
theorem fdp_up {ar : Nat} {f : Int → Int} {z0 z1 e : Int} {s t : PS} (h : FDP ar f z0 z1 s t) (h0 : 0 ≤ z1) (h1 : z0 ≤ z1) (hr : rng e) (he : e = f (z1 - z0)) : FDP ar f z0 (z1 + 1) s (uC t ar z1.toNat (Int32.ofInt e)) := fun j => by
  by_cases q : j = z1.toNat
  · rw [q, iC_u hr, if_pos (by omega), he]
    congr 1
    omega
  · rw [iC_n q, h j]
    by_cases z : z0 ≤ (j : Int) ∧ (j : Int) < z1
    · rw [if_pos z, if_pos (by omega)]
    · rw [if_neg z, if_neg (by omega)]
theorem fdp_sam {ar : Nat} {f : Int → Int} {z0 z1 : Int} {s t u : PS} (h : FDP ar f z0 z1 s t) (g : SAM ar t u) : FDP ar f z0 z1 s u := fun j => (g j).trans (h j)
theorem fdp_ts {ar : Nat} {f g : Int → Int} {z0 z1 z2 : Int} {s t u : PS} (h : FDP ar f z0 z1 s t) (k : FDP ar g z1 z2 t u) (h0 : z0 ≤ z1) (h1 : z1 ≤ z2) (hf : ∀ i, z1 - z0 ≤ i → i < z2 - z0 → g (i - (z1 - z0)) = f i) : FDP ar f z0 z2 s u := fun j => by
  rw [k j]
  by_cases q : z1 ≤ (j : Int) ∧ (j : Int) < z2
  · rw [if_pos q, if_pos (by omega), ← hf _ (by omega) (by omega)]
    congr 1
    omega
  · rw [if_neg q, h j]
    by_cases z : z0 ≤ (j : Int) ∧ (j : Int) < z1
    · rw [if_pos z, if_pos (by omega)]
    · rw [if_neg z, if_neg (by omega)]
theorem fdp_eq {ar : Nat} {f : Int → Int} {z0 z1 y0 y1 : Int} {s t : PS} (h : FDP ar f z0 z1 s t) (e0 : z0 = y0) (e1 : z1 = y1) : FDP ar f y0 y1 s t := by subst e0 e1; exact h
def selT (a b c d e k : Int) : Int := if k < 4 then a else if k < 8 then b else if k < 12 then c else if k < 16 then d else e
/-- the byte k of five numbers -/
def fvT (a b c d e k : Int) : Int := byT (selT a b c d e k) (24 - 8 * (k % 4))
theorem nmV_hi {B : Nat → Int} {N : Int} : ∀ (f : Nat) {p v : Int}, (N - p).toNat ≤ f → v ≤ 100000 → nmV B N p v ≤ 100000
  | 0, p, v, h, hv => by rw [nmV_stop (Or.inl (by omega))]; exact hv
  | f + 1, p, v, h, hv => by
    by_cases q : p < N ∧ 48 ≤ B p.toNat ∧ B p.toNat ≤ 57
    · rw [nmV_dig q.1 q.2.1 q.2.2]
      exact nmV_hi (B := B) (N := N) f (by omega) (by unfold cap; split <;> omega)
    · rw [nmV_stop (by omega)]; exact hv
theorem nmV_mx {B : Nat → Int} {N p : Int} : nmV B N p 0 ≤ 100000 := nmV_hi _ (Nat.le_refl _) (by decide)
theorem nur_v {B : Nat → Int} {N p x y e f a : Int} (h : NUR B N p x y e 0 f a) : (x ≤ e ∧ e ≤ y) ∨ f ≠ 0 := by
  rcases h.2.2 with z | z | z
  · exact absurd rfl z.1
  · exact Or.inl ⟨z.2.2.2.2.2.1, z.2.2.2.2.2.2⟩
  · exact Or.inr z.2.1
/-- the bytes of the class's tape are B; the text that is read has N of them, and no words -/
def BYA (B : Nat → Int) (s : PS) : Prop := ∀ i : Nat, i < 200 → iC s 0 i = B i
def BYB (B : Nat → Int) (N : Int) (s : PS) : Prop := (∀ i : Nat, i < 200 → iC s 0 i = B i) ∧ iI s 1 = N ∧ iI s 3 = 0
theorem BYA_fm {L M : List Nat} {s t : PS} {B : Nat → Int} (F : Fm L M s t) (h : 0 ∉ M) (r : BYA B s) : BYA B t := fun i hi => (fm_c F h).trans (r i hi)
theorem BYB_fm {L M : List Nat} {s t : PS} {B : Nat → Int} {N : Int} (F : Fm L M s t) (h : 1 ∉ L ∧ 3 ∉ L ∧ 0 ∉ M) (r : BYB B N s) : BYB B N t := ⟨fun i hi => (fm_c F h.2.2).trans (r.1 i hi), (fm_i F h.1).trans r.2.1, (fm_i F h.2.1).trans r.2.2⟩
/-- the same of the model's -/
def FDA (B : Nat → Int) (s : PS) : Prop := ∀ i : Nat, i < 200 → iC s 157 i = B i
def BYV (s : PS) (i : Nat) : Int := if iI s 81 = 0 then iC s 157 i else iC s 158 i
def FDB (B : Nat → Int) (N : Int) (s : PS) : Prop := (∀ i : Nat, (i : Int) < N → BYV s i = B i) ∧ iI s 75 = N ∧ 0 ≤ iI s 81
theorem fda_n {s : PS} {B : Nat → Int} {N : Int} (h : FDA B s) (hw : iI s 81 = 0) (hn : N ≤ 200) : ∀ i : Nat, (i : Int) < N → BYV s i = B i := fun i hi => (if_pos hw).trans (h i (by omega))
theorem FDA_fm {L M : List Nat} {s t : PS} {B : Nat → Int} (F : Fm L M s t) (h : 157 ∉ M) (r : FDA B s) : FDA B t := fun i hi => (fm_c F h).trans (r i hi)
theorem FDB_fm {L M : List Nat} {s t : PS} {B : Nat → Int} {N : Int} (F : Fm L M s t) (h : 75 ∉ L ∧ 81 ∉ L ∧ 157 ∉ M ∧ 158 ∉ M) (r : FDB B N s) : FDB B N t := ⟨fun i hi => by unfold BYV; rw [fm_i F h.2.1, fm_c F h.2.2.1, fm_c F h.2.2.2]; exact r.1 i hi, (fm_i F h.1).trans r.2.1, by rw [fm_i F h.2.1]; exact r.2.2⟩
/-- a move of the class's, made: where its text goes on, what is told then -/
def MVR (B : Nat → Int) (N q : Int) (a : WyA) (t : PS) : Prop := ∃ a', mvT B N q a = some (iI t 4, a') ∧ AGx 15 11 a' t ∧ (1 ≤ a'.1 ∧ a'.1 ≤ 24) ∧ q < iI t 4 ∧ TKN B N (iI t 5) (iI t 4) (iI t 2) (iI t 6)
def MVQ (B : Nat → Int) (N q : Int) (a : WyA) (g m c : Int) (t : PS) : Prop := ENI 15 11 g m c (extN g m.toNat a) t ∧ mvT B N q a = (extN g m.toNat a).map (fun a' => (iI t 4, a')) ∧ q < iI t 4 ∧ TKN B N (iI t 5) (iI t 4) (iI t 2) (iI t 6)
theorem mvq_0 {B : Nat → Int} {N q : Int} {a : WyA} {g m : Int} {t : PS} (hA : AGx 15 11 a t) (ha : 1 ≤ a.1 ∧ a.1 ≤ 24) (hm : mvT B N q a = (extN g m.toNat a).map (fun a' => (iI t 4, a'))) (hq : q < iI t 4) (hT : TKN B N (iI t 5) (iI t 4) (iI t 2) (iI t 6)) : MVQ B N q a g m 0 t := ⟨⟨a, by rw [show (m - 0).toNat = m.toNat by omega], hA, ha.1, ha.2⟩, hm, hq, hT⟩
theorem mvq_up {B : Nat → Int} {N q : Int} {a a1 : WyA} {g m c e : Int} {t u : PS} (h : MVQ B N q a g m c t) (h1 : extN g (m - c).toNat a1 = extN g m.toNat a) (ha : 1 ≤ a1.1 ∧ a1.1 ≤ 24) (hc : c < m) (he : (e = 0 ∧ EXR 15 11 g a1 u) ∨ (e ≠ 0 ∧ extT g a1 = none)) (h0 : e = 0) (hb : iI u 11 ≤ 24) (e1 : iI u 5 = iI t 5) (e2 : iI u 4 = iI t 4) (e3 : iI u 2 = iI t 2) (e4 : iI u 6 = iI t 6) : MVQ B N q a g m (c + 1) u := by
  rcases he with he | he
  · obtain ⟨-, a2, q1, q2, q3⟩ := he
    refine ⟨⟨a2, ?_, q2, by omega, by rw [q2.1]; exact hb⟩, ?_, ?_, ?_⟩
    · rw [← h1, show (m - c).toNat = (m - (c + 1)).toNat + 1 by omega, en_step q1]
    · rw [e2]; exact h.2.1
    · rw [e2]; exact h.2.2.1
    · rw [e1, e2, e3, e4]; exact h.2.2.2
  · exact absurd h0 he.1
theorem mvq_none {B : Nat → Int} {N q : Int} {a a1 : WyA} {g m c e : Int} {t u : PS} (h : MVQ B N q a g m c t) (h1 : extN g (m - c).toNat a1 = extN g m.toNat a) (hc : c < m) (he : (e = 0 ∧ EXR 15 11 g a1 u) ∨ (e ≠ 0 ∧ extT g a1 = none)) (h0 : e ≠ 0) : mvT B N q a = none := by
  rcases he with he | he
  · exact absurd he.1 h0
  · rw [h.2.1, ← h1, show (m - c).toNat = (m - (c + 1)).toNat + 1 by omega, en_none he.2]; rfl
theorem mvq_end {B : Nat → Int} {N q : Int} {a : WyA} {g m c : Int} {t : PS} (h : MVQ B N q a g m c t) (hc : m ≤ c) : MVR B N q a t := by
  obtain ⟨a1, h1, h2, h3⟩ := eni_end h.1 hc
  refine ⟨a1, ?_, h2, h3, h.2.2.1, h.2.2.2⟩
  rw [h.2.1, h1]; rfl
/-- the reading of a way by the class -/
def PAR (B : Nat → Int) (N : Int) (t : PS) : Prop := ∃ a, parseT B N = some a ∧ AGx 15 11 a t ∧ 1 ≤ a.1 ∧ a.1 ≤ 24
def WAQ (B : Nat → Int) (N : Int) (t : PS) : Prop := ∃ a, WyI B N (iI t 4) a (parseT B N) ∧ AGx 15 11 a t ∧ (1 ≤ a.1 ∧ a.1 ≤ 24) ∧ TKN B N (iI t 5) (iI t 4) (iI t 2) (iI t 6)
theorem pa_no1 {B : Nat → Int} {N k st a v : Int} (h : TKN B N k st a v) (hs : st = sk B N 0) (hk : k ≠ -2) : parseT B N = none := by
  unfold parseT
  rw [← hs, if_neg (fun q => by have := tkn_nn h hk; omega)]
theorem pa_no2 {B : Nat → Int} {N k st a v : Int} (h : TKN B N k st a v) (hs : st = sk B N 0) (hk : k = -2) (hv : 127 < v) : parseT B N = none := by
  have z := tkn_is h hk
  unfold parseT
  rw [← hs, if_pos ⟨z.1, z.2.1, z.2.2.1⟩, ← z.2.2.2.1, if_pos hv]
theorem pa_yes {B : Nat → Int} {N k st a v : Int} (h : TKN B N k st a v) (hs : st = sk B N 0) (hk : k = -2) (hv : v ≤ 127) : parseT B N = wT B N N.toNat (sk B N a) (1, fun _ => v) := by
  have z := tkn_is h hk
  unfold parseT
  rw [← hs, if_pos ⟨z.1, z.2.1, z.2.2.1⟩, ← z.2.2.2.1, ← z.2.2.2.2, if_neg (by omega)]
theorem ag_one {ar tz : Nat} {v : Int} {s t : PS} (h : UPD ar 0 v s t) (ht : iI t tz = 1) : AGx ar tz (1, fun _ => v) t := ⟨ht.symm, fun k hk => by
  have e : k = (0 : Int).toNat := by
    replace hk : (k : Int) < 1 := hk
    omega
  rw [e]; exact h.1.symm⟩
theorem waq_up {B : Nat → Int} {N e : Int} {a1 : WyA} {t u : PS} (w1 : WyI B N (iI t 4) a1 (parseT B N)) (hq : iI t 4 < N) (he : (e = 1 ∧ MVR B N (iI t 4) a1 u) ∨ (e = 0 ∧ mvT B N (iI t 4) a1 = none)) (h0 : e ≠ 0) : WAQ B N u := by
  rcases he with he | he
  · obtain ⟨-, a', q1, q2, q3, q4, q5⟩ := he
    exact ⟨a', wi_step w1 hq q1 q4, q2, q3, q5⟩
  · exact absurd he.1 h0
theorem waq_lt {B : Nat → Int} {N e : Int} {a1 : WyA} {t u : PS} (he : (e = 1 ∧ MVR B N (iI t 4) a1 u) ∨ (e = 0 ∧ mvT B N (iI t 4) a1 = none)) (h0 : e ≠ 0) : iI t 4 < iI u 4 := by
  rcases he with he | he
  · obtain ⟨-, a', q1, q2, q3, q4, q5⟩ := he
    exact q4
  · exact absurd he.1 h0
theorem waq_no {B : Nat → Int} {N e : Int} {a1 : WyA} {t u : PS} (w1 : WyI B N (iI t 4) a1 (parseT B N)) (hq : iI t 4 < N) (he : (e = 1 ∧ MVR B N (iI t 4) a1 u) ∨ (e = 0 ∧ mvT B N (iI t 4) a1 = none)) (h0 : e = 0) : parseT B N = none := by
  rcases he with he | he
  · omega
  · exact wi_none w1 hq he.2
theorem waq_end {B : Nat → Int} {N : Int} {t : PS} (h : WAQ B N t) (hq : N ≤ iI t 4) : PAR B N t := by
  obtain ⟨a, q1, q2, q3, q4⟩ := h
  exact ⟨a, wi_end q1 hq, q2, q3⟩
/-- a move of the model's -/
def MMR (B : Nat → Int) (N q : Int) (a : WyA) (t : PS) : Prop := ∃ a', mvT B N q a = some (sk B N (iI t 77), a') ∧ AGx 165 91 a' t ∧ (1 ≤ a'.1 ∧ a'.1 ≤ 24) ∧ q < iI t 77
def MMQ (B : Nat → Int) (N q : Int) (a : WyA) (g m c : Int) (t : PS) : Prop := (iI t 79 ≠ 0 ∧ mvT B N q a = none) ∨ (iI t 79 = 0 ∧ ENI 165 91 g m c (extN g m.toNat a) t ∧ mvT B N q a = (extN g m.toNat a).map (fun a' => (sk B N (iI t 77), a')) ∧ q < iI t 77)
theorem mmq_0 {B : Nat → Int} {N q : Int} {a : WyA} {g m : Int} {t : PS} (h0 : iI t 79 = 0) (hA : AGx 165 91 a t) (ha : 1 ≤ a.1 ∧ a.1 ≤ 24) (hm : mvT B N q a = (extN g m.toNat a).map (fun a' => (sk B N (iI t 77), a'))) (hq : q < iI t 77) : MMQ B N q a g m 0 t := Or.inr ⟨h0, ⟨a, by rw [show (m - 0).toNat = m.toNat by omega], hA, ha.1, ha.2⟩, hm, hq⟩
theorem mmq_in {B : Nat → Int} {N q : Int} {a : WyA} {g m c : Int} {t : PS} (h : MMQ B N q a g m c t) (h0 : iI t 79 = 0) : ENI 165 91 g m c (extN g m.toNat a) t ∧ mvT B N q a = (extN g m.toNat a).map (fun a' => (sk B N (iI t 77), a')) ∧ q < iI t 77 := by
  rcases h with h | h
  · exact absurd h0 h.1
  · exact h.2
theorem mmq_up {B : Nat → Int} {N q : Int} {a a1 : WyA} {g m c : Int} {t u : PS} (h : mvT B N q a = (extN g m.toNat a).map (fun a' => (sk B N (iI t 77), a')) ∧ q < iI t 77) (h1 : extN g (m - c).toNat a1 = extN g m.toNat a) (ha : 1 ≤ a1.1 ∧ a1.1 ≤ 24) (hc : c < m) (he : EXR 165 91 g a1 u) (hb : iI u 91 ≤ 24) (h0 : iI u 79 = 0) (e3 : iI u 77 = iI t 77) : MMQ B N q a g m (c + 1) u := by
  obtain ⟨a2, q1, q2, q3⟩ := he
  refine Or.inr ⟨h0, ⟨a2, ?_, q2, by omega, by rw [q2.1]; exact hb⟩, ?_, ?_⟩
  · rw [← h1, show (m - c).toNat = (m - (c + 1)).toNat + 1 by omega, en_step q1]
  · rw [e3]; exact h.1
  · rw [e3]; exact h.2
theorem mmq_no {B : Nat → Int} {N q : Int} {a a1 : WyA} {g m c : Int} {t : PS} (h : mvT B N q a = (extN g m.toNat a).map (fun a' => (sk B N (iI t 77), a')) ∧ q < iI t 77) (h1 : extN g (m - c).toNat a1 = extN g m.toNat a) (hc : c < m) (he : extT g a1 = none) : mvT B N q a = none := by
  rw [h.1, ← h1, show (m - c).toNat = (m - (c + 1)).toNat + 1 by omega, en_none he]; rfl
theorem mmq_end {B : Nat → Int} {N q : Int} {a : WyA} {g m c : Int} {t : PS} (h : MMQ B N q a g m c t) (hc : m ≤ c ∨ iI t 79 ≠ 0) : (iI t 79 = 0 ∧ MMR B N q a t) ∨ (iI t 79 ≠ 0 ∧ mvT B N q a = none) := by
  rcases h with h | h
  · exact Or.inr h
  · obtain ⟨h0, h1, h2, h3⟩ := h
    obtain ⟨a1, q1, q2, q3⟩ := eni_end h1 (hc.elim id (fun z => absurd h0 z))
    refine Or.inl ⟨h0, a1, ?_, q2, q3, h3⟩
    rw [h2, q1]; rfl
theorem mmq_lt {B : Nat → Int} {N q : Int} {a : WyA} {g m c : Int} {t : PS} (h : MMQ B N q a g m c t) : iI t 79 ≠ 0 ∨ q < iI t 77 := by
  rcases h with h | h
  · exact Or.inl h.1
  · exact Or.inr h.2.2.2
theorem sb_dir {g c : Int} (h : g = dirT c) (h1 : g ≠ -1) : dirT c ≠ -1 := by rw [← h]; exact h1
theorem ho_1 {ar : Nat} {n x e : Int} {s : PS} (h : (e = 1 ∧ HAS ar n x s) ∨ (e = 0 ∧ NHS ar n x s)) (he : e ≠ 0) : HAS ar n x s := by
  rcases h with h | h
  · exact h.2
  · exact absurd h.1 he
theorem ho_0 {ar : Nat} {n x e : Int} {s : PS} (h : (e = 1 ∧ HAS ar n x s) ∨ (e = 0 ∧ NHS ar n x s)) (he : e = 0) : NHS ar n x s := by
  rcases h with h | h
  · omega
  · exact h.2
/-- the reading of a way by the model -/
def WMQ (B : Nat → Int) (N : Int) (t : PS) : Prop := (iI t 79 ≠ 0 ∧ parseT B N = none) ∨ (iI t 79 = 0 ∧ ∃ a, WyI B N (iI t 77) a (parseT B N) ∧ AGx 165 91 a t ∧ (1 ≤ a.1 ∧ a.1 ≤ 24))
theorem wm_0 {B : Nat → Int} {N e f a : Int} {t : PS} (h : NUR B N 0 0 127 e 0 f a) (hf : iI t 79 = f) (ha : iI t 77 = sk B N a) (hN : 0 ≤ N) (hA : AGx 165 91 (1, fun _ => e) t) : WMQ B N t := by
  have n0 := nmV_nn (B := B) (N := N) (p := sk B N 0)
  have n1 := sk_le (B := B) (N := N) (p := 0)
  have n2 := nmE_le (B := B) (N := N) (p := sk B N 0) (v := 0)
  have n3 := sk_le (B := B) (N := N) (p := a)
  rcases h.2.2 with z | z | z
  · exact absurd rfl z.1
  · refine Or.inr ⟨by omega, (1, fun _ => e), ?_, hA, ⟨(show (1 : Int) ≤ 1 by decide), (show (1 : Int) ≤ 24 by decide)⟩⟩
    have ep : parseT B N = wT B N N.toNat (sk B N a) (1, fun _ => e) := by
      unfold parseT
      rw [if_pos ⟨z.2.2.1, z.2.2.2.1, z.2.2.2.2.1⟩, ← h.1, ← h.2.1, if_neg (by omega)]
    rw [ep, ha]
    exact wi_0 (by have := h.2.1; omega) hN
  · refine Or.inl ⟨by omega, ?_⟩
    have h1 := h.1
    unfold parseT
    by_cases q : sk B N 0 < N ∧ 48 ≤ B (sk B N 0).toNat ∧ B (sk B N 0).toNat ≤ 57
    · rw [if_pos q, ← h.1, if_pos (by omega)]
    · rw [if_neg q]
theorem wm_in {B : Nat → Int} {N : Int} {t : PS} (h : WMQ B N t) (h0 : iI t 79 = 0) : ∃ a, WyI B N (iI t 77) a (parseT B N) ∧ AGx 165 91 a t ∧ (1 ≤ a.1 ∧ a.1 ≤ 24) := by
  rcases h with h | h
  · exact absurd h0 h.1
  · exact h.2
theorem wm_up {B : Nat → Int} {N : Int} {a : WyA} {t u w : PS} (w1 : WyI B N (iI t 77) a (parseT B N)) (hq : iI t 77 < N) (he : (iI u 79 = 0 ∧ MMR B N (iI t 77) a u) ∨ (iI u 79 ≠ 0 ∧ mvT B N (iI t 77) a = none)) (hf : iI w 79 = iI u 79) (hat : iI w 77 = sk B N (iI u 77)) (hs : SAM 165 u w) (ht : iI w 91 = iI u 91) : WMQ B N w := by
  rcases he with ⟨h0, a', q1, q2, q3, q4⟩ | he
  · have n1 := sk_le (B := B) (N := N) (p := iI u 77)
    refine Or.inr ⟨by omega, a', ?_, ag_sam q2 hs ht, q3⟩
    rw [hat]
    exact wi_step w1 hq q1 (by omega)
  · exact Or.inl ⟨by omega, wi_none w1 hq he.2⟩
theorem wm_no {B : Nat → Int} {N : Int} {t : PS} (h : WMQ B N t) (h0 : iI t 79 ≠ 0) : parseT B N = none := by
  rcases h with h | h
  · exact h.2
  · exact absurd h.1 h0
theorem wm_end {B : Nat → Int} {N : Int} {t : PS} (h : WMQ B N t) (h0 : iI t 79 = 0) (hq : N ≤ iI t 77) : ∃ a, parseT B N = some a ∧ AGx 165 91 a t ∧ (1 ≤ a.1 ∧ a.1 ≤ 24) := by
  obtain ⟨a, q1, q2, q3⟩ := wm_in h h0
  exact ⟨a, wi_end q1 hq, q2, q3⟩
theorem ag_u1 {ar tz : Nat} {v : Int} {s : PS} (hv : rng v) (ht : iI s tz = 1) : AGx ar tz (1, fun _ => v) (uC s ar (0 : Int).toNat (Int32.ofInt v)) := ag_one (s := s) (upd_put sam_rf hv) ht
theorem par_y {B : Nat → Int} {N e : Int} {t : PS} (h : (e = 1 ∧ PAR B N t) ∨ (e = 0 ∧ parseT B N = none)) (he : e ≠ 0) : ∃ a, parseT B N = some a := by
  rcases h with ⟨-, a, h, -⟩ | h
  · exact ⟨a, h⟩
  · exact absurd h.1 he
theorem par_n {B : Nat → Int} {N e : Int} {t : PS} (h : (e = 1 ∧ PAR B N t) ∨ (e = 0 ∧ parseT B N = none)) (he : e = 0) : parseT B N = none := by
  rcases h with h | h
  · omega
  · exact h.2
theorem str_y {B : Nat → Int} {w cs ct : Int} (h : ∃ a, parseT B w = some a) (hc : (cs = 12 ∧ ct = 12) ∨ (cs ≤ 11 ∧ ct = cs + 1)) : STRx B w cs ct := by
  rcases hc with hc | hc
  · exact Or.inl hc
  · exact Or.inr ⟨hc.1, Or.inr ⟨h, hc.2⟩⟩
theorem str_n {B : Nat → Int} {w cs ct : Int} (h : parseT B w = none) (hc : ct = cs) (hb : cs ≤ 12) : STRx B w cs ct := by
  by_cases q : cs = 12
  · exact Or.inl ⟨q, by omega⟩
  · exact Or.inr ⟨by omega, Or.inl ⟨h, hc⟩⟩
section ZB
variable {k : kx_T} {mn pc : Nat} {dT : Nat → ClassId} {lv : List (Nat × Value)} {st : List Value} {ws : va_W} {ce sl a b a1 b1 a2 b2 : Nat} {z z2 : Int}
theorem z_byU (X : AX k mn dT) {w sh : Int} (h1 : cdA mn pc = some (.iushr, 1, a, b, z)) (h2 : cdA mn (pc + 1) = some (.sipush 255, 3, a1, b1, 255)) (h3 : cdA mn (pc + 4) = some (.iand, 1, a2, b2, z2)) (g : ∀ e : Int, e = byT w sh → 0 ≤ e → e ≤ 255 → WS k (pc + 5) lv (.int (Int32.ofInt e) :: st) ws ce sl) : WS k pc lv (.int (Int32.ofInt sh) :: .int (Int32.ofInt w) :: st) ws ce sl := by
  refine w_iushr X.1 (ax_d X h1) ?_
  refine z_sipush X h2 ?_
  refine w_iand (pc := pc + 4) X.1 (ax_d X h3) ?_
  have h9 := g (byT w sh) rfl (and_le _ (by decide) (by decide)).1 (and_le _ (by decide) (by decide)).2
  unfold byT at h9
  rwa [ofi_to] at h9
theorem z_byS (X : AX k mn dT) {w sh : Int} (hs : 0 ≤ sh ∧ sh ≤ 24) (h1 : cdA mn pc = some (.ishr, 1, a, b, z)) (h2 : cdA mn (pc + 1) = some (.sipush 255, 3, a1, b1, 255)) (h3 : cdA mn (pc + 4) = some (.iand, 1, a2, b2, z2)) (g : ∀ e : Int, e = byT w sh → 0 ≤ e → e ≤ 255 → WS k (pc + 5) lv (.int (Int32.ofInt e) :: st) ws ce sl) : WS k pc lv (.int (Int32.ofInt sh) :: .int (Int32.ofInt w) :: st) ws ce sl := by
  refine w_ishr X.1 (ax_d X h1) ?_
  refine z_sipush X h2 ?_
  refine w_iand (pc := pc + 4) X.1 (ax_d X h3) ?_
  have h9 := g (byT w sh) rfl (and_le _ (by decide) (by decide)).1 (and_le _ (by decide) (by decide)).2
  unfold byT at h9
  rw [ofi_to] at h9
  have e : (Int32.ofInt w >>> (Int32.ofInt sh &&& 31)) &&& Int32.ofInt 255 = ((Int32.ofInt w).toUInt32 >>> ((Int32.ofInt sh).toUInt32 &&& Int32.toUInt32 31)).toInt32 &&& Int32.ofInt 255 := by
    rw [on_of hs.1]; exact sh_eq (by omega)
  rw [e]; exact h9
end ZB
theorem fv_0 {a b c d e i : Int} (h1 : 0 ≤ i) (h2 : i < 4) : byT a (24 - 8 * (i - 0)) = fvT a b c d e i := by unfold fvT selT; rw [if_pos h2, show i % 4 = i - 0 by omega]
theorem fv_1 {a b c d e i : Int} (h1 : 4 ≤ i) (h2 : i < 8) : byT b (24 - 8 * (i - 4)) = fvT a b c d e i := by unfold fvT selT; rw [if_neg (by omega), if_pos h2, show i % 4 = i - 4 by omega]
theorem fv_2 {a b c d e i : Int} (h1 : 8 ≤ i) (h2 : i < 12) : byT c (24 - 8 * (i - 8)) = fvT a b c d e i := by unfold fvT selT; rw [if_neg (by omega), if_neg (by omega), if_pos h2, show i % 4 = i - 8 by omega]
theorem fv_3 {a b c d e i : Int} (h1 : 12 ≤ i) (h2 : i < 16) : byT d (24 - 8 * (i - 12)) = fvT a b c d e i := by unfold fvT selT; rw [if_neg (by omega), if_neg (by omega), if_neg (by omega), if_pos h2, show i % 4 = i - 12 by omega]
theorem fv_4 {a b c d e i : Int} (h1 : 16 ≤ i) (h2 : i < 20) : byT e (24 - 8 * (i - 16)) = fvT a b c d e i := by unfold fvT selT; rw [if_neg (by omega), if_neg (by omega), if_neg (by omega), if_neg (by omega), show i % 4 = i - 16 by omega]
/-- what is on the two tapes is the same -/
def FEQ (s : PS) : Prop := ∀ j : Nat, j < 200 → iC s 157 j = iC s 0 j
theorem feq_sam {s t : PS} (h : FEQ s) (h1 : SAM 157 s t) (h2 : SAM 0 s t) : FEQ t := fun j hj => by rw [h1, h2]; exact h j hj
theorem feq_up {f : Int → Int} {z0 z1 y0 y1 : Int} {s t u : PS} (h : FEQ s) (h1 : FDP 0 f z0 z1 s t) (h2 : SAM 157 s t) (h3 : FDP 157 f y0 y1 t u) (h4 : SAM 0 t u) (e0 : y0 = z0) (e1 : y1 = z1) : FEQ u := fun j hj => by
  subst e0 e1
  rw [h3 j, h4 j, h1 j, h2 j, h j hj]
theorem str_eq2 {B : Nat → Int} {w c d c1 d1 : Int} (h1 : STRx B w c c1) (h2 : STRx B w d d1) (e : c = d) : c1 = d1 := by subst e; exact str_eq h1 h2
theorem FEQ_fm {L M : List Nat} {s t : PS} (F : Fm L M s t) (h : 0 ∉ M ∧ 157 ∉ M) (r : FEQ s) : FEQ t := feq_sam r (sam_fm F h.2) (sam_fm F h.1)
section M87c
variable {l : Launch} {s0 : State} {D : va_G} {tys : List (ClassId × FieldType)} {a0 : Array Value} {A : Nat → Nat} {dT : Nat → ClassId} {s : PS}
set_option maxRecDepth 4000 in
theorem c10_kindOf2 (G : GX l s0 D tys a0 dT) (I : Bd s) {x : Int} (p0 : 0 ≤ x ∧ x ≤ 255) (p1 : iI s 3 = 0) : CT l s0 D A dT 130 (rmN 130) [.ref (A 1), .int (Int32.ofInt x)] s (fun o t => s = t ∧ ∃ e, o = .inl (some (.int (Int32.ofInt e))) ∧ rng e ∧ ((48 ≤ x ∧ x ≤ 57 ∧ e = -2) ∨ ((x < 48 ∨ 57 < x) ∧ e = x))) := by
  refine ct_ofX G (by decide) (Nat.le_of_ble_eq_true rfl) (fun k X E ET hRt hXt q => ?_)
  show WS k 0 [(0, .ref (A 1)), (1, .int (Int32.ofInt x))] [] _ 0 0
  have F : Fm [] [] s s := fm_rf _ _ s
  refine z_load_n X (x := x) (show cdA 130 0 = some (.iload_n 1, 1, 0, 0, 0) from rfl) (List.Mem.tail _ (List.Mem.head _)) ?_
  refine z_bipush X (show cdA 130 1 = some (.bipush 48, 2, 0, 0, 48) from rfl) ?_
  refine z_icmp_lt X (t := 15) (show cdA 130 3 = some (.if_icmp .lt 12, 3, 2, 0, 0) from rfl) (by decide) ⟨by first | exact oq_fa4e5087 p0.1 | omega, by first | exact oq_4567a937 p0.2 | omega⟩ (by decide) (fun g1 => ?_) (fun g1 => ?_)
  ·
    refine z_aload_n X (x := A 1) (show cdA 130 15 = some (.aload_n 0, 1, 0, 0, 0) from rfl) (List.Mem.head _) ?_
    refine z_getI X 1 (show cdA 130 16 = some (.getfield 32, 3, 10, 4, 0) from rfl) (by decide) rfl rfl ?_
    have b2 : (0 : Int) ≤ iI s 3 ∧ iI s 3 ≤ 1 := I.1 3
    have N3 : ∀ e4 : Int, ((((iI s 3) = 0) ∧ e4 = x) ∨ (((iI s 3) ≠ 0) ∧ (x < 97) ∧ e4 = x) ∨ (((iI s 3) ≠ 0) ∧ (97 ≤ x) ∧ (122 < x) ∧ e4 = x) ∨ (((iI s 3) ≠ 0) ∧ (97 ≤ x) ∧ (x ≤ 122) ∧ e4 = (-3))) → WS k 40 [(0, .ref (A 1)), (1, .int (Int32.ofInt x))] [.int (Int32.ofInt e4)] (Wd A dT s) 0 0 := by
      intro e4 he4
      exact w_iret X.1 q hRt rfl (ax_d X (show cdA 130 40 = some (.ireturn, 1, 0, 0, 0) from rfl)) (Nat.zero_le _) (Nat.zero_le _) ⟨_, rfl, rfl, e4, rfl, ⟨by first | exact oq_1ca04d49 he4 p0.1 | omega, by first | exact oq_6ba7703b he4 g1 | omega⟩, by first | exact oq_032c4c3f he4 g1 | omega⟩
    refine z_if_eq X (t := 39) (show cdA 130 19 = some (.ifCond .eq 20, 3, 0, 0, 0) from rfl) (by decide) (rng_to _) (fun g5 => ?_) (fun g5 => ?_)
    ·
      refine z_load_n X (x := x) (show cdA 130 39 = some (.iload_n 1, 1, 0, 0, 0) from rfl) (List.Mem.tail _ (List.Mem.head _)) ?_
      exact N3 _ (Or.inl ⟨g5, rfl⟩)
    ·
      refine z_load_n X (x := x) (show cdA 130 22 = some (.iload_n 1, 1, 0, 0, 0) from rfl) (List.Mem.tail _ (List.Mem.head _)) ?_
      refine z_bipush X (show cdA 130 23 = some (.bipush 97, 2, 0, 0, 97) from rfl) ?_
      refine z_icmp_lt X (t := 39) (show cdA 130 25 = some (.if_icmp .lt 14, 3, 2, 0, 0) from rfl) (by decide) ⟨by first | exact oq_fa4e5087 p0.1 | omega, by first | exact oq_a6687a98 g1 | omega⟩ (by decide) (fun g6 => ?_) (fun g6 => ?_)
      ·
        refine z_load_n X (x := x) (show cdA 130 39 = some (.iload_n 1, 1, 0, 0, 0) from rfl) (List.Mem.tail _ (List.Mem.head _)) ?_
        exact N3 _ (Or.inr (Or.inl ⟨g5, g6, rfl⟩))
      ·
        refine z_load_n X (x := x) (show cdA 130 28 = some (.iload_n 1, 1, 0, 0, 0) from rfl) (List.Mem.tail _ (List.Mem.head _)) ?_
        refine z_bipush X (show cdA 130 29 = some (.bipush 122, 2, 0, 0, 122) from rfl) ?_
        refine z_icmp_gt X (t := 39) (show cdA 130 31 = some (.if_icmp .gt 8, 3, 4, 0, 0) from rfl) (by decide) ⟨by first | exact oq_9ccaf4ac g6 | omega, by first | exact oq_a6687a98 g1 | omega⟩ (by decide) (fun g7 => ?_) (fun g7 => ?_)
        ·
          refine z_load_n X (x := x) (show cdA 130 39 = some (.iload_n 1, 1, 0, 0, 0) from rfl) (List.Mem.tail _ (List.Mem.head _)) ?_
          exact N3 _ (Or.inr (Or.inr (Or.inl ⟨g5, g6, g7, rfl⟩)))
        ·
          refine z_bipush X (show cdA 130 34 = some (.bipush (-3), 2, 0, 0, (-3)) from rfl) ?_
          refine z_goto X (t := 40) (show cdA 130 36 = some (.goto 4, 3, 0, 0, 0) from rfl) (by decide) ?_
          exact N3 _ (Or.inr (Or.inr (Or.inr (⟨g5, g6, g7, rfl⟩))))
  ·
    refine z_load_n X (x := x) (show cdA 130 6 = some (.iload_n 1, 1, 0, 0, 0) from rfl) (List.Mem.tail _ (List.Mem.head _)) ?_
    refine z_bipush X (show cdA 130 7 = some (.bipush 57, 2, 0, 0, 57) from rfl) ?_
    refine z_icmp_gt X (t := 15) (show cdA 130 9 = some (.if_icmp .gt 6, 3, 4, 0, 0) from rfl) (by decide) ⟨by first | exact oq_7e4cb212 g1 | omega, by first | exact oq_4567a937 p0.2 | omega⟩ (by decide) (fun g8 => ?_) (fun g8 => ?_)
    ·
      refine z_aload_n X (x := A 1) (show cdA 130 15 = some (.aload_n 0, 1, 0, 0, 0) from rfl) (List.Mem.head _) ?_
      refine z_getI X 1 (show cdA 130 16 = some (.getfield 32, 3, 10, 4, 0) from rfl) (by decide) rfl rfl ?_
      have b9 : (0 : Int) ≤ iI s 3 ∧ iI s 3 ≤ 1 := I.1 3
      have N10 : ∀ e11 : Int, ((((iI s 3) = 0) ∧ e11 = x) ∨ (((iI s 3) ≠ 0) ∧ (x < 97) ∧ e11 = x) ∨ (((iI s 3) ≠ 0) ∧ (97 ≤ x) ∧ (122 < x) ∧ e11 = x) ∨ (((iI s 3) ≠ 0) ∧ (97 ≤ x) ∧ (x ≤ 122) ∧ e11 = (-3))) → WS k 40 [(0, .ref (A 1)), (1, .int (Int32.ofInt x))] [.int (Int32.ofInt e11)] (Wd A dT s) 0 0 := by
        intro e11 he11
        exact w_iret X.1 q hRt rfl (ax_d X (show cdA 130 40 = some (.ireturn, 1, 0, 0, 0) from rfl)) (Nat.zero_le _) (Nat.zero_le _) ⟨_, rfl, rfl, e11, rfl, ⟨by first | exact oq_3fba5eee he11 g8 | omega, by first | exact oq_fc94949b he11 p0.2 | omega⟩, by first | exact oq_aa95b58b he11 b9.1 g8 p1 | omega⟩
      refine z_if_eq X (t := 39) (show cdA 130 19 = some (.ifCond .eq 20, 3, 0, 0, 0) from rfl) (by decide) (rng_to _) (fun g12 => ?_) (fun g12 => ?_)
      ·
        refine z_load_n X (x := x) (show cdA 130 39 = some (.iload_n 1, 1, 0, 0, 0) from rfl) (List.Mem.tail _ (List.Mem.head _)) ?_
        exact N10 _ (Or.inl ⟨g12, rfl⟩)
      ·
        refine z_load_n X (x := x) (show cdA 130 22 = some (.iload_n 1, 1, 0, 0, 0) from rfl) (List.Mem.tail _ (List.Mem.head _)) ?_
        refine z_bipush X (show cdA 130 23 = some (.bipush 97, 2, 0, 0, 97) from rfl) ?_
        refine z_icmp_lt X (t := 39) (show cdA 130 25 = some (.if_icmp .lt 14, 3, 2, 0, 0) from rfl) (by decide) ⟨by first | exact oq_eac89bd5 g8 | omega, by first | exact oq_4567a937 p0.2 | omega⟩ (by decide) (fun g13 => ?_) (fun g13 => ?_)
        ·
          refine z_load_n X (x := x) (show cdA 130 39 = some (.iload_n 1, 1, 0, 0, 0) from rfl) (List.Mem.tail _ (List.Mem.head _)) ?_
          exact N10 _ (Or.inr (Or.inl ⟨g12, g13, rfl⟩))
        ·
          refine z_load_n X (x := x) (show cdA 130 28 = some (.iload_n 1, 1, 0, 0, 0) from rfl) (List.Mem.tail _ (List.Mem.head _)) ?_
          refine z_bipush X (show cdA 130 29 = some (.bipush 122, 2, 0, 0, 122) from rfl) ?_
          refine z_icmp_gt X (t := 39) (show cdA 130 31 = some (.if_icmp .gt 8, 3, 4, 0, 0) from rfl) (by decide) ⟨by first | exact oq_9ccaf4ac g13 | omega, by first | exact oq_4567a937 p0.2 | omega⟩ (by decide) (fun g14 => ?_) (fun g14 => ?_)
          ·
            refine z_load_n X (x := x) (show cdA 130 39 = some (.iload_n 1, 1, 0, 0, 0) from rfl) (List.Mem.tail _ (List.Mem.head _)) ?_
            exact N10 _ (Or.inr (Or.inr (Or.inl ⟨g12, g13, g14, rfl⟩)))
          ·
            refine z_bipush X (show cdA 130 34 = some (.bipush (-3), 2, 0, 0, (-3)) from rfl) ?_
            refine z_goto X (t := 40) (show cdA 130 36 = some (.goto 4, 3, 0, 0, 0) from rfl) (by decide) ?_
            exact N10 _ (Or.inr (Or.inr (Or.inr (⟨g12, g13, g14, rfl⟩))))
    ·
      refine z_bipush X (show cdA 130 12 = some (.bipush (-2), 2, 0, 0, (-2)) from rfl) ?_
      exact w_iret X.1 q hRt rfl (ax_d X (show cdA 130 14 = some (.ireturn, 1, 0, 0, 0) from rfl)) (Nat.zero_le _) (Nat.zero_le _) ⟨_, rfl, rfl, (-2), rfl, (by decide), by first | exact Or.inl (And.intro (g1) (And.intro (g8) (by decide))) | omega⟩
set_option maxRecDepth 4000 in
theorem c10_step2 (G : GX l s0 D tys a0 dT) {B : Nat → Int} {N : Int} (I : Bd s) (jBYB : BYB B N s) (p0 : iI s 2 ≤ iI s 1) : CT l s0 D A dT 129 (rmN 129) [.ref (A 1)] s (fun o t => Bd t ∧ Fm [2, 4, 6, 5] [] s t ∧ BYB B N t ∧ o = .inl none ∧ (iI t 2 ≤ iI t 1 ∧ iI t 4 ≤ iI t 2 ∧ iI t 4 = sk B N (iI s 2) ∧ TKN B N (iI t 5) (iI t 4) (iI t 2) (iI t 6))) := by
  refine ct_ofX G (by decide) (Nat.le_of_ble_eq_true rfl) (fun k X E ET hRt hXt q => ?_)
  show WS k 0 [(0, .ref (A 1))] [] _ 0 0
  have F : Fm [2, 4, 6, 5] [] s s := fm_rf _ _ s
  have hN := jBYB.2.1
  have hW := jBYB.2.2
  have b1 : (0 : Int) ≤ iI s 2 ∧ iI s 2 ≤ 200 := I.1 2
  have b2 : (0 : Int) ≤ iI s 1 ∧ iI s 1 ≤ 200 := I.1 1
  have b3 : (0 : Int) ≤ iI s 4 ∧ iI s 4 ≤ 200 := I.1 4
  have b4 : ((-3) : Int) ≤ iI s 5 ∧ iI s 5 ≤ 255 := I.1 5
  have b5 : (0 : Int) ≤ iI s 6 ∧ iI s 6 ≤ 100000 := I.1 6
  have b6 : (0 : Int) ≤ iI s 3 ∧ iI s 3 ≤ 1 := I.1 3
  have L0 : ∀ (n : Nat) (t : PS), Bd t → Fm [2, 4, 6, 5] [] s t → BYB B N t → (sk B N (iI t 2) = sk B N (iI s 2)) → (iI t 2 ≤ iI t 1) → (iI t 1 - iI t 2 : Int).toNat < n → (∀ (t' : PS), Bd t' → Fm [2, 4, 6, 5] [] s t' → BYB B N t' → (sk B N (iI s 2) = iI t' 2) → (iI t' 2 ≤ iI t' 1) → WS k 38 [(0, .ref (A 1))] [] (Wd A dT t') 0 0) → WS k 0 [(0, .ref (A 1))] [] (Wd A dT t) 0 0 := by
    intro n
    induction n with
    | zero =>
      intro t  I F jjBYB hq hi hm kx
      exact absurd hm (Nat.not_lt_zero _)
    | succ n ih =>
      intro t  I F jjBYB hq hi hm kx
      have b1001 : (0 : Int) ≤ iI t 2 ∧ iI t 2 ≤ 200 := I.1 2
      have b1002 : (0 : Int) ≤ iI t 1 ∧ iI t 1 ≤ 200 := I.1 1
      have b1003 : (0 : Int) ≤ iI t 4 ∧ iI t 4 ≤ 200 := I.1 4
      have b1004 : ((-3) : Int) ≤ iI t 5 ∧ iI t 5 ≤ 255 := I.1 5
      have b1005 : (0 : Int) ≤ iI t 6 ∧ iI t 6 ≤ 100000 := I.1 6
      have b1006 : (0 : Int) ≤ iI t 3 ∧ iI t 3 ≤ 1 := I.1 3
      have hN := jjBYB.2.1
      have hW := jjBYB.2.2
      refine z_aload_n X (x := A 1) (show cdA 129 0 = some (.aload_n 0, 1, 0, 0, 0) from rfl) (List.Mem.head _) ?_
      refine z_getI X 1 (show cdA 129 1 = some (.getfield 29, 3, 10, 3, 0) from rfl) (by decide) rfl rfl ?_
      have b1007 : (0 : Int) ≤ iI t 2 ∧ iI t 2 ≤ 200 := I.1 2
      refine z_aload_n X (x := A 1) (show cdA 129 4 = some (.aload_n 0, 1, 0, 0, 0) from rfl) (List.Mem.head _) ?_
      refine z_getI X 1 (show cdA 129 5 = some (.getfield 26, 3, 10, 2, 0) from rfl) (by decide) rfl rfl ?_
      have b1008 : (0 : Int) ≤ iI t 1 ∧ iI t 1 ≤ 200 := I.1 1
      refine z_icmp_ge X (t := 38) (show cdA 129 8 = some (.if_icmp .ge 30, 3, 3, 0, 0) from rfl) (by decide) (rng_to _) (rng_to _) (fun g1009 => ?_) (fun g1009 => ?_)
      ·
        refine WS_lv (lv := [(0, .ref (A 1))]) (List.forall_mem_cons.mpr ⟨(List.Mem.head _), (fun q h => absurd h List.not_mem_nil)⟩) ?_
        exact kx _  I F jjBYB (hq.symm.trans (sk_stop (by omega))) (by first | exact hi | omega)
      ·
        refine z_aload_n X (x := A 1) (show cdA 129 11 = some (.aload_n 0, 1, 0, 0, 0) from rfl) (List.Mem.head _) ?_
        refine s_getR X 1 (show cdA 129 12 = some (.getfield 11, 3, 10, 0, 0) from rfl) (by decide) rfl rfl ?_
        refine z_aload_n X (x := A 1) (show cdA 129 15 = some (.aload_n 0, 1, 0, 0, 0) from rfl) (List.Mem.head _) ?_
        refine z_getI X 1 (show cdA 129 16 = some (.getfield 29, 3, 10, 3, 0) from rfl) (by decide) rfl rfl ?_
        have b1010 : (0 : Int) ≤ iI t 2 ∧ iI t 2 ≤ 200 := I.1 2
        refine z_ald X 2 (show cdA 129 19 = some (.iaload, 1, 0, 0, 0) from rfl) (by decide) rfl (by first | exact b1010.1 | omega) (show (iI t 2) < 200 by first | exact oq_6fca3d72 g1009 b1008.2 | omega) (by decide) ?_
        have b1011 : (0 : Int) ≤ iC t 0 ((iI t 2)).toNat ∧ iC t 0 ((iI t 2)).toNat ≤ 255 := I.2 0 _ (show ((iI t 2)).toNat < 200 by first | exact oq_b70289d5 g1009 b1008.2 | omega)
        have fb1012 : iC t 0 ((iI t 2)).toNat = B ((iI t 2)).toNat := jjBYB.1 _ (by omega)
        refine z_bipush X (show cdA 129 20 = some (.bipush 32, 2, 0, 0, 32) from rfl) ?_
        refine z_icmp_ne X (t := 38) (show cdA 129 22 = some (.if_icmp .ne 16, 3, 1, 0, 0) from rfl) (by decide) (rng_to _) (by decide) (fun g1013 => ?_) (fun g1013 => ?_)
        ·
          refine WS_lv (lv := [(0, .ref (A 1))]) (List.forall_mem_cons.mpr ⟨(List.Mem.head _), (fun q h => absurd h List.not_mem_nil)⟩) ?_
          exact kx _  I F jjBYB (hq.symm.trans (sk_stop (by omega))) (by first | exact hi | omega)
        ·
          refine z_aload_n X (x := A 1) (show cdA 129 25 = some (.aload_n 0, 1, 0, 0, 0) from rfl) (List.Mem.head _) ?_
          refine w_dup X.1 (ax_d X (show cdA 129 26 = some (.dup, 1, 0, 0, 0) from rfl)) rfl ?_
          refine z_getI X 1 (show cdA 129 27 = some (.getfield 29, 3, 10, 3, 0) from rfl) (by decide) rfl rfl ?_
          have b1014 : (0 : Int) ≤ iI t 2 ∧ iI t 2 ≤ 200 := I.1 2
          refine z_const X (show cdA 129 30 = some (.iconst 1, 1, 0, 0, 0) from rfl) ?_
          refine z_add X (show cdA 129 31 = some (.iadd, 1, 0, 0, 0) from rfl) ?_
          refine s_putI X 1 (show cdA 129 32 = some (.putfield 29, 3, 10, 3, 0) from rfl) (by decide) rfl rfl (by decide) rfl rfl rfl ?_
          obtain ⟨s1015, hs1015⟩ : ∃ x0, x0 = uI t 2 (Int32.ofInt ((iI t 2) + 1)) := ⟨_, rfl⟩
          rw [← hs1015]
          have Is1015 : Bd s1015 := by rw [hs1015]; exact bd_I I (show (0 : Int) ≤ ((iI t 2) + 1) ∧ ((iI t 2) + 1) ≤ 200 by first | exact ⟨oq_54f49eb5 b1014.1, oq_228270fa g1009 b1008.2⟩ | omega) ⟨by first | exact oq_74de1e16 b1014.1 | omega, by first | exact oq_bb8d498d b1014.2 | omega⟩
          have Fs1015 := fm_I (x := Int32.ofInt ((iI t 2) + 1)) F (show 2 ∈ _ by decide)
          rw [← hs1015] at Fs1015
          have vs1015 : iI s1015 2 = ((iI t 2) + 1) := by rw [hs1015]; exact iI_u ⟨by first | exact oq_74de1e16 b1014.1 | omega, by first | exact oq_bb8d498d b1014.2 | omega⟩
          have ws1015_1 : iI s1015 1 = iI t 1 := by rw [hs1015]; rfl
          have ws1015_4 : iI s1015 4 = iI t 4 := by rw [hs1015]; rfl
          have ws1015_5 : iI s1015 5 = iI t 5 := by rw [hs1015]; rfl
          have ws1015_6 : iI s1015 6 = iI t 6 := by rw [hs1015]; rfl
          have ws1015_3 : iI s1015 3 = iI t 3 := by rw [hs1015]; rfl
          have fs1015 : Fm [2] [] t s1015 := by rw [hs1015]; exact fm_I (fm_rf _ _ _) (show 2 ∈ _ by decide)
          have JBYB_s1015 : BYB B N s1015 := BYB_fm fs1015 (by decide) jjBYB
          refine z_goto X (t := 0) (show cdA 129 35 = some (.goto (-35), 3, 0, 0, 0) from rfl) (by decide) ?_
          refine WS_lv (lv := [(0, .ref (A 1))]) (List.forall_mem_cons.mpr ⟨(List.Mem.head _), (fun q h => absurd h List.not_mem_nil)⟩) ?_
          exact ih _  Is1015 Fs1015 JBYB_s1015 (by rw [vs1015, ← sk_blank (by omega) (by omega)]; exact hq) (by first | exact oq_61bfd4fa ws1015_1 vs1015 g1009 | omega) (by first | exact qk_me hm (oq_bf2569a2 ws1015_1 vs1015) (oq_901836cd g1009) | omega) kx
  have L92 : ∀ (n : Nat) (t : PS), Bd t → Fm [2, 4, 6, 5] [] s t → BYB B N t → (nmV B N (iI t 2) (iI t 6) = nmV B N (sk B N (iI s 2)) 0 ∧ nmE B N (iI t 2) (iI t 6) = nmE B N (sk B N (iI s 2)) 0) → (iI t 2 ≤ iI t 1 ∧ iI t 4 ≤ iI t 2 ∧ iI t 4 = sk B N (iI s 2) ∧ iI t 5 = -2) → (iI t 1 - iI t 2 : Int).toNat < n → (∀ (t' : PS), Bd t' → Fm [2, 4, 6, 5] [] s t' → BYB B N t' → (iI t' 6 = nmV B N (sk B N (iI s 2)) 0 ∧ iI t' 2 = nmE B N (sk B N (iI s 2)) 0) → (iI t' 2 ≤ iI t' 1 ∧ iI t' 4 ≤ iI t' 2 ∧ iI t' 4 = sk B N (iI s 2) ∧ iI t' 5 = -2) → WS k 232 [(0, .ref (A 1))] [] (Wd A dT t') 0 0) → WS k 92 [(0, .ref (A 1))] [] (Wd A dT t) 0 0 := by
    intro n
    induction n with
    | zero =>
      intro t  I F jjBYB hq hi hm kx
      exact absurd hm (Nat.not_lt_zero _)
    | succ n ih =>
      intro t  I F jjBYB hq hi hm kx
      have b2001 : (0 : Int) ≤ iI t 2 ∧ iI t 2 ≤ 200 := I.1 2
      have b2002 : (0 : Int) ≤ iI t 1 ∧ iI t 1 ≤ 200 := I.1 1
      have b2003 : (0 : Int) ≤ iI t 4 ∧ iI t 4 ≤ 200 := I.1 4
      have b2004 : ((-3) : Int) ≤ iI t 5 ∧ iI t 5 ≤ 255 := I.1 5
      have b2005 : (0 : Int) ≤ iI t 6 ∧ iI t 6 ≤ 100000 := I.1 6
      have b2006 : (0 : Int) ≤ iI t 3 ∧ iI t 3 ≤ 1 := I.1 3
      have hN := jjBYB.2.1
      have hW := jjBYB.2.2
      refine z_aload_n X (x := A 1) (show cdA 129 92 = some (.aload_n 0, 1, 0, 0, 0) from rfl) (List.Mem.head _) ?_
      refine z_getI X 1 (show cdA 129 93 = some (.getfield 29, 3, 10, 3, 0) from rfl) (by decide) rfl rfl ?_
      have b2007 : (0 : Int) ≤ iI t 2 ∧ iI t 2 ≤ 200 := I.1 2
      refine z_aload_n X (x := A 1) (show cdA 129 96 = some (.aload_n 0, 1, 0, 0, 0) from rfl) (List.Mem.head _) ?_
      refine z_getI X 1 (show cdA 129 97 = some (.getfield 26, 3, 10, 2, 0) from rfl) (by decide) rfl rfl ?_
      have b2008 : (0 : Int) ≤ iI t 1 ∧ iI t 1 ≤ 200 := I.1 1
      refine z_icmp_ge X (t := 232) (show cdA 129 100 = some (.if_icmp .ge 132, 3, 3, 0, 0) from rfl) (by decide) (rng_to _) (rng_to _) (fun g2009 => ?_) (fun g2009 => ?_)
      ·
        refine WS_lv (lv := [(0, .ref (A 1))]) (List.forall_mem_cons.mpr ⟨(List.Mem.head _), (fun q h => absurd h List.not_mem_nil)⟩) ?_
        exact kx _  I F jjBYB ⟨(nmV_stop (by omega)).symm.trans hq.1, (nmE_stop (by omega)).symm.trans hq.2⟩ (by first | exact ⟨hi.1, hi.2.1, hi.2.2.1, hi.2.2.2⟩ | omega)
      ·
        refine z_aload_n X (x := A 1) (show cdA 129 103 = some (.aload_n 0, 1, 0, 0, 0) from rfl) (List.Mem.head _) ?_
        refine z_aload_n X (x := A 1) (show cdA 129 104 = some (.aload_n 0, 1, 0, 0, 0) from rfl) (List.Mem.head _) ?_
        refine s_getR X 1 (show cdA 129 105 = some (.getfield 11, 3, 10, 0, 0) from rfl) (by decide) rfl rfl ?_
        refine z_aload_n X (x := A 1) (show cdA 129 108 = some (.aload_n 0, 1, 0, 0, 0) from rfl) (List.Mem.head _) ?_
        refine z_getI X 1 (show cdA 129 109 = some (.getfield 29, 3, 10, 3, 0) from rfl) (by decide) rfl rfl ?_
        have b2010 : (0 : Int) ≤ iI t 2 ∧ iI t 2 ≤ 200 := I.1 2
        refine z_ald X 2 (show cdA 129 112 = some (.iaload, 1, 0, 0, 0) from rfl) (by decide) rfl (by first | exact b2010.1 | omega) (show (iI t 2) < 200 by first | exact oq_6fca3d72 g2009 b2008.2 | omega) (by decide) ?_
        have b2011 : (0 : Int) ≤ iC t 0 ((iI t 2)).toNat ∧ iC t 0 ((iI t 2)).toNat ≤ 255 := I.2 0 _ (show ((iI t 2)).toNat < 200 by first | exact oq_b70289d5 g2009 b2008.2 | omega)
        have fb2012 : iC t 0 ((iI t 2)).toNat = B ((iI t 2)).toNat := jjBYB.1 _ (by omega)
        refine z_callV X 1 (rm := rmN 130) (As := [.int (Int32.ofInt (iC t 0 ((iI t 2)).toNat))]) (st := []) (show cdA 129 113 = some (.invokevirtual 48, 3, 130, 0, 0) from rfl) rfl (by decide) rfl (by rw [E.1, E.2.1, E.2.2.1]; exact c10_kindOf2 G I (by first | exact ⟨b2011.1, b2011.2⟩ | omega) (by omega)) ⟨by rw [E.2.2.2]; exact (show (rmN 130).frames + 1 ≤ (rmN 129).frames by decide), by rw [E.2.2.2]; exact (show 8 + (mNL (miB 130) + 11) + (rmN 130).locals ≤ (rmN 129).locals by decide), by rw [E.2.2.2]; exact (show 0 + (rmN 130).cells ≤ (rmN 129).cells by decide), by rw [E.2.2.2]; exact (show 0 + (rmN 130).slots ≤ (rmN 129).slots by decide)⟩ (Nat.le_of_ble_eq_true rfl) (fun vv s2013 hq => ?_) (fun ee s2013 hq => ?_)
        rotate_left
        · obtain ⟨rfl, e2014, hv, hrs2013, hps2013⟩ := hq; cases hv
        obtain ⟨rfl, e2014, hv, hrs2013, hps2013⟩ := hq
        cases hv
        show WS k 116 [(0, .ref (A 1))] [.int (Int32.ofInt e2014)] (Wd A dT t) 0 0
        refine z_bipush X (show cdA 129 116 = some (.bipush (-2), 2, 0, 0, (-2)) from rfl) ?_
        refine z_icmp_ne X (t := 232) (show cdA 129 118 = some (.if_icmp .ne 114, 3, 1, 0, 0) from rfl) (by decide) hrs2013 (by decide) (fun g2015 => ?_) (fun g2015 => ?_)
        ·
          refine WS_lv (lv := [(0, .ref (A 1))]) (List.forall_mem_cons.mpr ⟨(List.Mem.head _), (fun q h => absurd h List.not_mem_nil)⟩) ?_
          exact kx _  I F jjBYB ⟨(nmV_stop (by omega)).symm.trans hq.1, (nmE_stop (by omega)).symm.trans hq.2⟩ (by first | exact ⟨hi.1, hi.2.1, hi.2.2.1, hi.2.2.2⟩ | omega)
        ·
          refine z_aload_n X (x := A 1) (show cdA 129 121 = some (.aload_n 0, 1, 0, 0, 0) from rfl) (List.Mem.head _) ?_
          refine z_ldc X (show cdA 129 122 = some (.ldc 55, 2, 0, 0, 100000) from rfl) ?_
          refine z_aload_n X (x := A 1) (show cdA 129 124 = some (.aload_n 0, 1, 0, 0, 0) from rfl) (List.Mem.head _) ?_
          refine z_getI X 1 (show cdA 129 125 = some (.getfield 45, 3, 10, 7, 0) from rfl) (by decide) rfl rfl ?_
          have b2016 : (0 : Int) ≤ iI t 6 ∧ iI t 6 ≤ 100000 := I.1 6
          refine z_bipush X (show cdA 129 128 = some (.bipush 10, 2, 0, 0, 10) from rfl) ?_
          refine z_mul X (show cdA 129 130 = some (.imul, 1, 0, 0, 0) from rfl) ?_
          refine z_aload_n X (x := A 1) (show cdA 129 131 = some (.aload_n 0, 1, 0, 0, 0) from rfl) (List.Mem.head _) ?_
          refine s_getR X 1 (show cdA 129 132 = some (.getfield 11, 3, 10, 0, 0) from rfl) (by decide) rfl rfl ?_
          refine z_aload_n X (x := A 1) (show cdA 129 135 = some (.aload_n 0, 1, 0, 0, 0) from rfl) (List.Mem.head _) ?_
          refine z_getI X 1 (show cdA 129 136 = some (.getfield 29, 3, 10, 3, 0) from rfl) (by decide) rfl rfl ?_
          have b2017 : (0 : Int) ≤ iI t 2 ∧ iI t 2 ≤ 200 := I.1 2
          refine z_ald X 2 (show cdA 129 139 = some (.iaload, 1, 0, 0, 0) from rfl) (by decide) rfl (by first | exact b2017.1 | omega) (show (iI t 2) < 200 by first | exact oq_6fca3d72 g2009 b2008.2 | omega) (by decide) ?_
          have b2018 : (0 : Int) ≤ iC t 0 ((iI t 2)).toNat ∧ iC t 0 ((iI t 2)).toNat ≤ 255 := I.2 0 _ (show ((iI t 2)).toNat < 200 by first | exact oq_b70289d5 g2009 b2008.2 | omega)
          have fb2019 : iC t 0 ((iI t 2)).toNat = B ((iI t 2)).toNat := jjBYB.1 _ (by omega)
          refine z_add X (show cdA 129 140 = some (.iadd, 1, 0, 0, 0) from rfl) ?_
          refine z_bipush X (show cdA 129 141 = some (.bipush 48, 2, 0, 0, 48) from rfl) ?_
          refine z_sub X (show cdA 129 143 = some (.isub, 1, 0, 0, 0) from rfl) ?_
          refine z_min X (show cdA 129 144 = some (.invokestatic 56, 3, 0, 8, 0) from rfl) (by decide) ⟨by first | exact oq_74ddc356 b2016.1 b2018.1 | omega, by first | exact oq_507881e8 b2016.2 b2018.2 | omega⟩ (by rw [E.2.2.2]; decide) (by rw [E.2.2.2]; exact Nat.le_of_ble_eq_true rfl) (Nat.zero_le _) (Nat.zero_le _) (fun e2020 he2020 => ?_)
          refine s_putI X 1 (show cdA 129 147 = some (.putfield 45, 3, 10, 7, 0) from rfl) (by decide) rfl rfl (by decide) rfl rfl rfl ?_
          obtain ⟨s2021, hs2021⟩ : ∃ x0, x0 = uI t 6 (Int32.ofInt e2020) := ⟨_, rfl⟩
          rw [← hs2021]
          have Is2021 : Bd s2021 := by rw [hs2021]; exact bd_I I (show (0 : Int) ≤ e2020 ∧ e2020 ≤ 100000 by first | exact ⟨oq_ee7b0a30 he2020 b2018.1 b2016.1 g2015 hps2013, oq_111e13c5 he2020⟩ | omega) ⟨by first | exact oq_d5d8953a he2020 b2018.1 b2016.1 | omega, by first | exact oq_aae81add he2020 | omega⟩
          have Fs2021 := fm_I (x := Int32.ofInt e2020) F (show 6 ∈ _ by decide)
          rw [← hs2021] at Fs2021
          have vs2021 : iI s2021 6 = e2020 := by rw [hs2021]; exact iI_u ⟨by first | exact oq_d5d8953a he2020 b2018.1 b2016.1 | omega, by first | exact oq_aae81add he2020 | omega⟩
          have ws2021_2 : iI s2021 2 = iI t 2 := by rw [hs2021]; rfl
          have ws2021_1 : iI s2021 1 = iI t 1 := by rw [hs2021]; rfl
          have ws2021_4 : iI s2021 4 = iI t 4 := by rw [hs2021]; rfl
          have ws2021_5 : iI s2021 5 = iI t 5 := by rw [hs2021]; rfl
          have ws2021_3 : iI s2021 3 = iI t 3 := by rw [hs2021]; rfl
          have fs2021 : Fm [6] [] t s2021 := by rw [hs2021]; exact fm_I (fm_rf _ _ _) (show 6 ∈ _ by decide)
          have JBYB_s2021 : BYB B N s2021 := BYB_fm fs2021 (by decide) jjBYB
          refine z_aload_n X (x := A 1) (show cdA 129 150 = some (.aload_n 0, 1, 0, 0, 0) from rfl) (List.Mem.head _) ?_
          refine w_dup X.1 (ax_d X (show cdA 129 151 = some (.dup, 1, 0, 0, 0) from rfl)) rfl ?_
          refine z_getI X 1 (show cdA 129 152 = some (.getfield 29, 3, 10, 3, 0) from rfl) (by decide) rfl rfl ?_
          have b2022 : (0 : Int) ≤ iI s2021 2 ∧ iI s2021 2 ≤ 200 := Is2021.1 2
          refine z_const X (show cdA 129 155 = some (.iconst 1, 1, 0, 0, 0) from rfl) ?_
          refine z_add X (show cdA 129 156 = some (.iadd, 1, 0, 0, 0) from rfl) ?_
          refine s_putI X 1 (show cdA 129 157 = some (.putfield 29, 3, 10, 3, 0) from rfl) (by decide) rfl rfl (by decide) rfl rfl rfl ?_
          obtain ⟨s2023, hs2023⟩ : ∃ x0, x0 = uI s2021 2 (Int32.ofInt ((iI s2021 2) + 1)) := ⟨_, rfl⟩
          rw [← hs2023]
          have Is2023 : Bd s2023 := by rw [hs2023]; exact bd_I Is2021 (show (0 : Int) ≤ ((iI s2021 2) + 1) ∧ ((iI s2021 2) + 1) ≤ 200 by first | exact ⟨oq_54f49eb5 b2022.1, oq_ff985df0 ws2021_2 g2009 b2008.2⟩ | omega) ⟨by first | exact oq_74de1e16 b2022.1 | omega, by first | exact oq_bb8d498d b2022.2 | omega⟩
          have Fs2023 := fm_I (x := Int32.ofInt ((iI s2021 2) + 1)) Fs2021 (show 2 ∈ _ by decide)
          rw [← hs2023] at Fs2023
          have vs2023 : iI s2023 2 = ((iI s2021 2) + 1) := by rw [hs2023]; exact iI_u ⟨by first | exact oq_74de1e16 b2022.1 | omega, by first | exact oq_bb8d498d b2022.2 | omega⟩
          have ws2023_1 : iI s2023 1 = iI s2021 1 := by rw [hs2023]; rfl
          have ws2023_4 : iI s2023 4 = iI s2021 4 := by rw [hs2023]; rfl
          have ws2023_5 : iI s2023 5 = iI s2021 5 := by rw [hs2023]; rfl
          have ws2023_6 : iI s2023 6 = iI s2021 6 := by rw [hs2023]; rfl
          have ws2023_3 : iI s2023 3 = iI s2021 3 := by rw [hs2023]; rfl
          have fs2023 : Fm [2] [] s2021 s2023 := by rw [hs2023]; exact fm_I (fm_rf _ _ _) (show 2 ∈ _ by decide)
          have JBYB_s2023 : BYB B N s2023 := BYB_fm fs2023 (by decide) JBYB_s2021
          refine z_goto X (t := 92) (show cdA 129 160 = some (.goto (-68), 3, 0, 0, 0) from rfl) (by decide) ?_
          refine WS_lv (lv := [(0, .ref (A 1))]) (List.forall_mem_cons.mpr ⟨(List.Mem.head _), (fun q h => absurd h List.not_mem_nil)⟩) ?_
          exact ih _  Is2023 Fs2023 JBYB_s2023 (by rw [show iI s2023 2 = iI t 2 + 1 by omega, show iI s2023 6 = cap (10 * iI t 6 + B (iI t 2).toNat - 48) by unfold cap; split <;> omega, ← nmV_dig (by omega) (by omega) (by omega), ← nmE_dig (by omega) (by omega) (by omega)]; exact hq) (by first | exact ⟨oq_499a7076 ws2023_1 vs2023 ws2021_1 ws2021_2 g2009, oq_552af53c vs2023 ws2023_4 ws2021_4 ws2021_2 hi.2.1, oq_2e8e3af2 hi.2.2.1 ws2023_4 ws2021_4, oq_fd530c01 ws2023_5 ws2021_5 hi.2.2.2⟩ | omega) (by first | exact qk_me hm (oq_956b687f ws2023_1 vs2023 ws2021_1 ws2021_2) (oq_901836cd g2009) | omega) kx
  refine WS_lv (lv := [(0, .ref (A 1))]) (List.forall_mem_cons.mpr ⟨(List.Mem.head _), (fun q h => absurd h List.not_mem_nil)⟩) ?_
  refine L0 ((iI s 1 - iI s 2 : Int).toNat + 1) s  I F jBYB rfl (by first | exact p0 | omega) (Nat.lt_succ_self _) ?_
  intro s7  Is7 Fs7 JBYB_s7 Qs7 hs7
  have b8 : (0 : Int) ≤ iI s7 2 ∧ iI s7 2 ≤ 200 := Is7.1 2
  have b9 : (0 : Int) ≤ iI s7 1 ∧ iI s7 1 ≤ 200 := Is7.1 1
  have b10 : (0 : Int) ≤ iI s7 4 ∧ iI s7 4 ≤ 200 := Is7.1 4
  have b11 : ((-3) : Int) ≤ iI s7 5 ∧ iI s7 5 ≤ 255 := Is7.1 5
  have b12 : (0 : Int) ≤ iI s7 6 ∧ iI s7 6 ≤ 100000 := Is7.1 6
  have b13 : (0 : Int) ≤ iI s7 3 ∧ iI s7 3 ≤ 1 := Is7.1 3
  have hNs7 := JBYB_s7.2.1
  have hWs7 := JBYB_s7.2.2
  refine z_aload_n X (x := A 1) (show cdA 129 38 = some (.aload_n 0, 1, 0, 0, 0) from rfl) (List.Mem.head _) ?_
  refine z_aload_n X (x := A 1) (show cdA 129 39 = some (.aload_n 0, 1, 0, 0, 0) from rfl) (List.Mem.head _) ?_
  refine z_getI X 1 (show cdA 129 40 = some (.getfield 29, 3, 10, 3, 0) from rfl) (by decide) rfl rfl ?_
  have b14 : (0 : Int) ≤ iI s7 2 ∧ iI s7 2 ≤ 200 := Is7.1 2
  refine s_putI X 1 (show cdA 129 43 = some (.putfield 42, 3, 10, 5, 0) from rfl) (by decide) rfl rfl (by decide) rfl rfl rfl ?_
  obtain ⟨s15, hs15⟩ : ∃ x0, x0 = uI s7 4 (Int32.ofInt (iI s7 2)) := ⟨_, rfl⟩
  rw [← hs15]
  have Is15 : Bd s15 := by rw [hs15]; exact bd_I Is7 (show (0 : Int) ≤ (iI s7 2) ∧ (iI s7 2) ≤ 200 by first | exact ⟨b14.1, b14.2⟩ | omega) (rng_to _)
  have Fs15 := fm_I (x := Int32.ofInt (iI s7 2)) Fs7 (show 4 ∈ _ by decide)
  rw [← hs15] at Fs15
  have vs15 : iI s15 4 = (iI s7 2) := by rw [hs15]; exact iI_u (rng_to _)
  have ws15_2 : iI s15 2 = iI s7 2 := by rw [hs15]; rfl
  have ws15_1 : iI s15 1 = iI s7 1 := by rw [hs15]; rfl
  have ws15_5 : iI s15 5 = iI s7 5 := by rw [hs15]; rfl
  have ws15_6 : iI s15 6 = iI s7 6 := by rw [hs15]; rfl
  have ws15_3 : iI s15 3 = iI s7 3 := by rw [hs15]; rfl
  have fs15 : Fm [4] [] s7 s15 := by rw [hs15]; exact fm_I (fm_rf _ _ _) (show 4 ∈ _ by decide)
  have JBYB_s15 : BYB B N s15 := BYB_fm fs15 (by decide) JBYB_s7
  refine z_aload_n X (x := A 1) (show cdA 129 46 = some (.aload_n 0, 1, 0, 0, 0) from rfl) (List.Mem.head _) ?_
  refine z_const X (show cdA 129 47 = some (.iconst 0, 1, 0, 0, 0) from rfl) ?_
  refine s_putI X 1 (show cdA 129 48 = some (.putfield 45, 3, 10, 7, 0) from rfl) (by decide) rfl rfl (by decide) rfl rfl rfl ?_
  obtain ⟨s16, hs16⟩ : ∃ x0, x0 = uI s15 6 (Int32.ofInt 0) := ⟨_, rfl⟩
  rw [← hs16]
  have Is16 : Bd s16 := by rw [hs16]; exact bd_I Is15 (show (0 : Int) ≤ 0 ∧ 0 ≤ 100000 by first | exact ⟨by decide, by decide⟩ | omega) (by decide)
  have Fs16 := fm_I (x := Int32.ofInt 0) Fs15 (show 6 ∈ _ by decide)
  rw [← hs16] at Fs16
  have vs16 : iI s16 6 = 0 := by rw [hs16]; exact iI_u (by decide)
  have ws16_2 : iI s16 2 = iI s15 2 := by rw [hs16]; rfl
  have ws16_1 : iI s16 1 = iI s15 1 := by rw [hs16]; rfl
  have ws16_4 : iI s16 4 = iI s15 4 := by rw [hs16]; rfl
  have ws16_5 : iI s16 5 = iI s15 5 := by rw [hs16]; rfl
  have ws16_3 : iI s16 3 = iI s15 3 := by rw [hs16]; rfl
  have fs16 : Fm [6] [] s15 s16 := by rw [hs16]; exact fm_I (fm_rf _ _ _) (show 6 ∈ _ by decide)
  have JBYB_s16 : BYB B N s16 := BYB_fm fs16 (by decide) JBYB_s15
  refine z_aload_n X (x := A 1) (show cdA 129 51 = some (.aload_n 0, 1, 0, 0, 0) from rfl) (List.Mem.head _) ?_
  refine z_aload_n X (x := A 1) (show cdA 129 52 = some (.aload_n 0, 1, 0, 0, 0) from rfl) (List.Mem.head _) ?_
  refine z_getI X 1 (show cdA 129 53 = some (.getfield 29, 3, 10, 3, 0) from rfl) (by decide) rfl rfl ?_
  have b17 : (0 : Int) ≤ iI s16 2 ∧ iI s16 2 ≤ 200 := Is16.1 2
  refine z_aload_n X (x := A 1) (show cdA 129 56 = some (.aload_n 0, 1, 0, 0, 0) from rfl) (List.Mem.head _) ?_
  refine z_getI X 1 (show cdA 129 57 = some (.getfield 26, 3, 10, 2, 0) from rfl) (by decide) rfl rfl ?_
  have b18 : (0 : Int) ≤ iI s16 1 ∧ iI s16 1 ≤ 200 := Is16.1 1
  refine z_icmp_ge X (t := 79) (show cdA 129 60 = some (.if_icmp .ge 19, 3, 3, 0, 0) from rfl) (by decide) (rng_to _) (rng_to _) (fun g19 => ?_) (fun g19 => ?_)
  ·
    refine z_const X (show cdA 129 79 = some (.iconst (-1), 1, 0, 0, 0) from rfl) ?_
    refine s_putI X 1 (show cdA 129 80 = some (.putfield 52, 3, 10, 6, 0) from rfl) (by decide) rfl rfl (by decide) rfl rfl rfl ?_
    obtain ⟨s20, hs20⟩ : ∃ x0, x0 = uI s16 5 (Int32.ofInt (-1)) := ⟨_, rfl⟩
    rw [← hs20]
    have Is20 : Bd s20 := by rw [hs20]; exact bd_I Is16 (show ((-3) : Int) ≤ (-1) ∧ (-1) ≤ 255 by first | exact ⟨by decide, by decide⟩ | omega) (by decide)
    have Fs20 := fm_I (x := Int32.ofInt (-1)) Fs16 (show 5 ∈ _ by decide)
    rw [← hs20] at Fs20
    have vs20 : iI s20 5 = (-1) := by rw [hs20]; exact iI_u (by decide)
    have ws20_2 : iI s20 2 = iI s16 2 := by rw [hs20]; rfl
    have ws20_1 : iI s20 1 = iI s16 1 := by rw [hs20]; rfl
    have ws20_4 : iI s20 4 = iI s16 4 := by rw [hs20]; rfl
    have ws20_6 : iI s20 6 = iI s16 6 := by rw [hs20]; rfl
    have ws20_3 : iI s20 3 = iI s16 3 := by rw [hs20]; rfl
    have fs20 : Fm [5] [] s16 s20 := by rw [hs20]; exact fm_I (fm_rf _ _ _) (show 5 ∈ _ by decide)
    have JBYB_s20 : BYB B N s20 := BYB_fm fs20 (by decide) JBYB_s16
    refine z_aload_n X (x := A 1) (show cdA 129 83 = some (.aload_n 0, 1, 0, 0, 0) from rfl) (List.Mem.head _) ?_
    refine z_getI X 1 (show cdA 129 84 = some (.getfield 52, 3, 10, 6, 0) from rfl) (by decide) rfl rfl ?_
    have b21 : ((-3) : Int) ≤ iI s20 5 ∧ iI s20 5 ≤ 255 := Is20.1 5
    refine z_bipush X (show cdA 129 87 = some (.bipush (-2), 2, 0, 0, (-2)) from rfl) ?_
    refine z_icmp_ne X (t := 163) (show cdA 129 89 = some (.if_icmp .ne 74, 3, 1, 0, 0) from rfl) (by decide) (rng_to _) (by decide) (fun g22 => ?_) (fun g22 => ?_)
    ·
      refine z_aload_n X (x := A 1) (show cdA 129 163 = some (.aload_n 0, 1, 0, 0, 0) from rfl) (List.Mem.head _) ?_
      refine z_getI X 1 (show cdA 129 164 = some (.getfield 52, 3, 10, 6, 0) from rfl) (by decide) rfl rfl ?_
      have b23 : ((-3) : Int) ≤ iI s20 5 ∧ iI s20 5 ≤ 255 := Is20.1 5
      refine z_bipush X (show cdA 129 167 = some (.bipush (-3), 2, 0, 0, (-3)) from rfl) ?_
      refine z_icmp_ne X (t := 214) (show cdA 129 169 = some (.if_icmp .ne 45, 3, 1, 0, 0) from rfl) (by decide) (rng_to _) (by decide) (fun g24 => ?_) (fun g24 => ?_)
      ·
        refine z_aload_n X (x := A 1) (show cdA 129 214 = some (.aload_n 0, 1, 0, 0, 0) from rfl) (List.Mem.head _) ?_
        refine z_getI X 1 (show cdA 129 215 = some (.getfield 52, 3, 10, 6, 0) from rfl) (by decide) rfl rfl ?_
        have b25 : ((-3) : Int) ≤ iI s20 5 ∧ iI s20 5 ≤ 255 := Is20.1 5
        refine z_const X (show cdA 129 218 = some (.iconst (-1), 1, 0, 0, 0) from rfl) ?_
        refine z_icmp_eq X (t := 232) (show cdA 129 219 = some (.if_icmp .eq 13, 3, 0, 0, 0) from rfl) (by decide) (rng_to _) (by decide) (fun g26 => ?_) (fun g26 => ?_)
        ·
          exact w_vret X.1 q hRt (ax_d X (show cdA 129 232 = some (.return_, 1, 0, 0, 0) from rfl)) (Nat.zero_le _) (Nat.zero_le _) ⟨_, rfl, Is20, Fs20, JBYB_s20, rfl, ⟨by first | exact oq_72ebe5a4 ws20_1 ws20_2 ws16_1 ws16_2 ws15_1 ws15_2 hs7 | omega, by first | exact oq_75f1f811 ws20_4 ws20_2 ws16_4 ws16_2 ws15_2 vs15 | omega, by omega, by first | exact Or.inl ⟨by omega, by omega⟩ | exact tkn_sig (x := 0) (Q := sk B N (iI s 2)) (by omega) (by omega) (by omega) (by omega) (by omega) (by omega) (by omega)⟩⟩
        ·
          refine z_aload_n X (x := A 1) (show cdA 129 222 = some (.aload_n 0, 1, 0, 0, 0) from rfl) (List.Mem.head _) ?_
          refine w_dup X.1 (ax_d X (show cdA 129 223 = some (.dup, 1, 0, 0, 0) from rfl)) rfl ?_
          refine z_getI X 1 (show cdA 129 224 = some (.getfield 29, 3, 10, 3, 0) from rfl) (by decide) rfl rfl ?_
          have b27 : (0 : Int) ≤ iI s20 2 ∧ iI s20 2 ≤ 200 := Is20.1 2
          refine z_const X (show cdA 129 227 = some (.iconst 1, 1, 0, 0, 0) from rfl) ?_
          refine z_add X (show cdA 129 228 = some (.iadd, 1, 0, 0, 0) from rfl) ?_
          refine s_putI X 1 (show cdA 129 229 = some (.putfield 29, 3, 10, 3, 0) from rfl) (by decide) rfl rfl (by decide) rfl rfl rfl ?_
          obtain ⟨s28, hs28⟩ : ∃ x0, x0 = uI s20 2 (Int32.ofInt ((iI s20 2) + 1)) := ⟨_, rfl⟩
          rw [← hs28]
          have Is28 : Bd s28 := by rw [hs28]; exact bd_I Is20 (show (0 : Int) ≤ ((iI s20 2) + 1) ∧ ((iI s20 2) + 1) ≤ 200 by first | exact ⟨oq_54f49eb5 b27.1, oq_3239b5cf g26 vs20⟩ | omega) ⟨by first | exact oq_74de1e16 b27.1 | omega, by first | exact oq_bb8d498d b27.2 | omega⟩
          have Fs28 := fm_I (x := Int32.ofInt ((iI s20 2) + 1)) Fs20 (show 2 ∈ _ by decide)
          rw [← hs28] at Fs28
          have vs28 : iI s28 2 = ((iI s20 2) + 1) := by rw [hs28]; exact iI_u ⟨by first | exact oq_74de1e16 b27.1 | omega, by first | exact oq_bb8d498d b27.2 | omega⟩
          have ws28_1 : iI s28 1 = iI s20 1 := by rw [hs28]; rfl
          have ws28_4 : iI s28 4 = iI s20 4 := by rw [hs28]; rfl
          have ws28_5 : iI s28 5 = iI s20 5 := by rw [hs28]; rfl
          have ws28_6 : iI s28 6 = iI s20 6 := by rw [hs28]; rfl
          have ws28_3 : iI s28 3 = iI s20 3 := by rw [hs28]; rfl
          have fs28 : Fm [2] [] s20 s28 := by rw [hs28]; exact fm_I (fm_rf _ _ _) (show 2 ∈ _ by decide)
          have JBYB_s28 : BYB B N s28 := BYB_fm fs28 (by decide) JBYB_s20
          exact w_vret X.1 q hRt (ax_d X (show cdA 129 232 = some (.return_, 1, 0, 0, 0) from rfl)) (Nat.zero_le _) (Nat.zero_le _) ⟨_, rfl, Is28, Fs28, JBYB_s28, rfl, ⟨by first | exact oq_92cb535d g26 vs20 | omega, by first | exact oq_92f9996c ws28_4 vs28 ws20_4 ws20_2 ws16_4 ws16_2 ws15_2 vs15 | omega, by first | exact oq_0f6bfda4 g26 vs20 | omega, by first | exact Or.inl ⟨by omega, by omega⟩ | exact tkn_sig (x := 0) (Q := sk B N (iI s 2)) (by omega) (by omega) (by omega) (by omega) (by omega) (by omega) (by omega)⟩⟩
      ·
        exfalso
        omega
    ·
      refine WS_lv (lv := [(0, .ref (A 1))]) (List.forall_mem_cons.mpr ⟨(List.Mem.head _), (fun q h => absurd h List.not_mem_nil)⟩) ?_
      refine L92 ((iI s20 1 - iI s20 2 : Int).toNat + 1) s20  Is20 Fs20 JBYB_s20 (by rw [show iI s20 2 = sk B N (iI s 2) by omega, show iI s20 6 = 0 by omega]; exact ⟨rfl, rfl⟩) (by first | exact ⟨oq_d948e2ba g22 vs20, oq_d948e2ba g22 vs20, oq_a80f34c2 g22 vs20, g22⟩ | omega) (Nat.lt_succ_self _) ?_
      intro s29  Is29 Fs29 JBYB_s29 Qs29 hs29
      have b30 : (0 : Int) ≤ iI s29 2 ∧ iI s29 2 ≤ 200 := Is29.1 2
      have b31 : (0 : Int) ≤ iI s29 1 ∧ iI s29 1 ≤ 200 := Is29.1 1
      have b32 : (0 : Int) ≤ iI s29 4 ∧ iI s29 4 ≤ 200 := Is29.1 4
      have b33 : ((-3) : Int) ≤ iI s29 5 ∧ iI s29 5 ≤ 255 := Is29.1 5
      have b34 : (0 : Int) ≤ iI s29 6 ∧ iI s29 6 ≤ 100000 := Is29.1 6
      have b35 : (0 : Int) ≤ iI s29 3 ∧ iI s29 3 ≤ 1 := Is29.1 3
      have hNs29 := JBYB_s29.2.1
      have hWs29 := JBYB_s29.2.2
      exact w_vret X.1 q hRt (ax_d X (show cdA 129 232 = some (.return_, 1, 0, 0, 0) from rfl)) (Nat.zero_le _) (Nat.zero_le _) ⟨_, rfl, Is29, Fs29, JBYB_s29, rfl, ⟨by first | exact hs29.1 | omega, by first | exact hs29.2.1 | omega, by first | exact hs29.2.2.1 | omega, tkn_num (x := 0) (Q := sk B N (iI s 2)) (by omega) (by omega) (by omega) (by omega) (by omega) (by omega) (by omega) (by omega)⟩⟩
  ·
    refine z_aload_n X (x := A 1) (show cdA 129 63 = some (.aload_n 0, 1, 0, 0, 0) from rfl) (List.Mem.head _) ?_
    refine z_aload_n X (x := A 1) (show cdA 129 64 = some (.aload_n 0, 1, 0, 0, 0) from rfl) (List.Mem.head _) ?_
    refine s_getR X 1 (show cdA 129 65 = some (.getfield 11, 3, 10, 0, 0) from rfl) (by decide) rfl rfl ?_
    refine z_aload_n X (x := A 1) (show cdA 129 68 = some (.aload_n 0, 1, 0, 0, 0) from rfl) (List.Mem.head _) ?_
    refine z_getI X 1 (show cdA 129 69 = some (.getfield 29, 3, 10, 3, 0) from rfl) (by decide) rfl rfl ?_
    have b36 : (0 : Int) ≤ iI s16 2 ∧ iI s16 2 ≤ 200 := Is16.1 2
    refine z_ald X 2 (show cdA 129 72 = some (.iaload, 1, 0, 0, 0) from rfl) (by decide) rfl (by first | exact b36.1 | omega) (show (iI s16 2) < 200 by first | exact oq_6fca3d72 g19 b18.2 | omega) (by decide) ?_
    have b37 : (0 : Int) ≤ iC s16 0 ((iI s16 2)).toNat ∧ iC s16 0 ((iI s16 2)).toNat ≤ 255 := Is16.2 0 _ (show ((iI s16 2)).toNat < 200 by first | exact oq_b70289d5 g19 b18.2 | omega)
    have fb38 : iC s16 0 ((iI s16 2)).toNat = B ((iI s16 2)).toNat := JBYB_s16.1 _ (by omega)
    refine z_callV X 1 (rm := rmN 130) (As := [.int (Int32.ofInt (iC s16 0 ((iI s16 2)).toNat))]) (st := [.ref (A 1)]) (show cdA 129 73 = some (.invokevirtual 48, 3, 130, 0, 0) from rfl) rfl (by decide) rfl (by rw [E.1, E.2.1, E.2.2.1]; exact c10_kindOf2 G Is16 (by first | exact ⟨b37.1, b37.2⟩ | omega) (by omega)) ⟨by rw [E.2.2.2]; exact (show (rmN 130).frames + 1 ≤ (rmN 129).frames by decide), by rw [E.2.2.2]; exact (show 8 + (mNL (miB 130) + 11) + (rmN 130).locals ≤ (rmN 129).locals by decide), by rw [E.2.2.2]; exact (show 0 + (rmN 130).cells ≤ (rmN 129).cells by decide), by rw [E.2.2.2]; exact (show 0 + (rmN 130).slots ≤ (rmN 129).slots by decide)⟩ (Nat.le_of_ble_eq_true rfl) (fun vv s39 hq => ?_) (fun ee s39 hq => ?_)
    rotate_left
    · obtain ⟨rfl, e40, hv, hrs39, hps39⟩ := hq; cases hv
    obtain ⟨rfl, e40, hv, hrs39, hps39⟩ := hq
    cases hv
    show WS k 76 [(0, .ref (A 1))] [.int (Int32.ofInt e40), .ref (A 1)] (Wd A dT s16) 0 0
    refine z_goto X (t := 80) (show cdA 129 76 = some (.goto 4, 3, 0, 0, 0) from rfl) (by decide) ?_
    refine s_putI X 1 (show cdA 129 80 = some (.putfield 52, 3, 10, 6, 0) from rfl) (by decide) rfl rfl (by decide) rfl rfl rfl ?_
    obtain ⟨s41, hs41⟩ : ∃ x0, x0 = uI s16 5 (Int32.ofInt e40) := ⟨_, rfl⟩
    rw [← hs41]
    have Is41 : Bd s41 := by rw [hs41]; exact bd_I Is16 (show ((-3) : Int) ≤ e40 ∧ e40 ≤ 255 by first | exact ⟨oq_6517d9a9 hps39 b37.1, oq_19f43bdc hps39 b37.2⟩ | omega) hrs39
    have Fs41 := fm_I (x := Int32.ofInt e40) Fs16 (show 5 ∈ _ by decide)
    rw [← hs41] at Fs41
    have vs41 : iI s41 5 = e40 := by rw [hs41]; exact iI_u hrs39
    have ws41_2 : iI s41 2 = iI s16 2 := by rw [hs41]; rfl
    have ws41_1 : iI s41 1 = iI s16 1 := by rw [hs41]; rfl
    have ws41_4 : iI s41 4 = iI s16 4 := by rw [hs41]; rfl
    have ws41_6 : iI s41 6 = iI s16 6 := by rw [hs41]; rfl
    have ws41_3 : iI s41 3 = iI s16 3 := by rw [hs41]; rfl
    have fs41 : Fm [5] [] s16 s41 := by rw [hs41]; exact fm_I (fm_rf _ _ _) (show 5 ∈ _ by decide)
    have JBYB_s41 : BYB B N s41 := BYB_fm fs41 (by decide) JBYB_s16
    refine z_aload_n X (x := A 1) (show cdA 129 83 = some (.aload_n 0, 1, 0, 0, 0) from rfl) (List.Mem.head _) ?_
    refine z_getI X 1 (show cdA 129 84 = some (.getfield 52, 3, 10, 6, 0) from rfl) (by decide) rfl rfl ?_
    have b42 : ((-3) : Int) ≤ iI s41 5 ∧ iI s41 5 ≤ 255 := Is41.1 5
    refine z_bipush X (show cdA 129 87 = some (.bipush (-2), 2, 0, 0, (-2)) from rfl) ?_
    refine z_icmp_ne X (t := 163) (show cdA 129 89 = some (.if_icmp .ne 74, 3, 1, 0, 0) from rfl) (by decide) (rng_to _) (by decide) (fun g43 => ?_) (fun g43 => ?_)
    ·
      refine z_aload_n X (x := A 1) (show cdA 129 163 = some (.aload_n 0, 1, 0, 0, 0) from rfl) (List.Mem.head _) ?_
      refine z_getI X 1 (show cdA 129 164 = some (.getfield 52, 3, 10, 6, 0) from rfl) (by decide) rfl rfl ?_
      have b44 : ((-3) : Int) ≤ iI s41 5 ∧ iI s41 5 ≤ 255 := Is41.1 5
      refine z_bipush X (show cdA 129 167 = some (.bipush (-3), 2, 0, 0, (-3)) from rfl) ?_
      refine z_icmp_ne X (t := 214) (show cdA 129 169 = some (.if_icmp .ne 45, 3, 1, 0, 0) from rfl) (by decide) (rng_to _) (by decide) (fun g45 => ?_) (fun g45 => ?_)
      ·
        refine z_aload_n X (x := A 1) (show cdA 129 214 = some (.aload_n 0, 1, 0, 0, 0) from rfl) (List.Mem.head _) ?_
        refine z_getI X 1 (show cdA 129 215 = some (.getfield 52, 3, 10, 6, 0) from rfl) (by decide) rfl rfl ?_
        have b46 : ((-3) : Int) ≤ iI s41 5 ∧ iI s41 5 ≤ 255 := Is41.1 5
        refine z_const X (show cdA 129 218 = some (.iconst (-1), 1, 0, 0, 0) from rfl) ?_
        refine z_icmp_eq X (t := 232) (show cdA 129 219 = some (.if_icmp .eq 13, 3, 0, 0, 0) from rfl) (by decide) (rng_to _) (by decide) (fun g47 => ?_) (fun g47 => ?_)
        ·
          exact w_vret X.1 q hRt (ax_d X (show cdA 129 232 = some (.return_, 1, 0, 0, 0) from rfl)) (Nat.zero_le _) (Nat.zero_le _) ⟨_, rfl, Is41, Fs41, JBYB_s41, rfl, ⟨by first | exact oq_51a58521 ws41_1 ws41_2 g19 | omega, by first | exact oq_75f1f811 ws41_4 ws41_2 ws16_4 ws16_2 ws15_2 vs15 | omega, by first | exact oq_9a9364db g47 vs41 hps39 b37.1 | omega, by first | exact Or.inl ⟨by omega, by omega⟩ | exact tkn_sig (x := ((iI s16 2))) (Q := sk B N (iI s 2)) (by omega) (by omega) (by omega) (by omega) (by omega) (by omega) (by omega)⟩⟩
        ·
          refine z_aload_n X (x := A 1) (show cdA 129 222 = some (.aload_n 0, 1, 0, 0, 0) from rfl) (List.Mem.head _) ?_
          refine w_dup X.1 (ax_d X (show cdA 129 223 = some (.dup, 1, 0, 0, 0) from rfl)) rfl ?_
          refine z_getI X 1 (show cdA 129 224 = some (.getfield 29, 3, 10, 3, 0) from rfl) (by decide) rfl rfl ?_
          have b48 : (0 : Int) ≤ iI s41 2 ∧ iI s41 2 ≤ 200 := Is41.1 2
          refine z_const X (show cdA 129 227 = some (.iconst 1, 1, 0, 0, 0) from rfl) ?_
          refine z_add X (show cdA 129 228 = some (.iadd, 1, 0, 0, 0) from rfl) ?_
          refine s_putI X 1 (show cdA 129 229 = some (.putfield 29, 3, 10, 3, 0) from rfl) (by decide) rfl rfl (by decide) rfl rfl rfl ?_
          obtain ⟨s49, hs49⟩ : ∃ x0, x0 = uI s41 2 (Int32.ofInt ((iI s41 2) + 1)) := ⟨_, rfl⟩
          rw [← hs49]
          have Is49 : Bd s49 := by rw [hs49]; exact bd_I Is41 (show (0 : Int) ≤ ((iI s41 2) + 1) ∧ ((iI s41 2) + 1) ≤ 200 by first | exact ⟨oq_54f49eb5 b48.1, oq_ff985df0 ws41_2 g19 b18.2⟩ | omega) ⟨by first | exact oq_74de1e16 b48.1 | omega, by first | exact oq_bb8d498d b48.2 | omega⟩
          have Fs49 := fm_I (x := Int32.ofInt ((iI s41 2) + 1)) Fs41 (show 2 ∈ _ by decide)
          rw [← hs49] at Fs49
          have vs49 : iI s49 2 = ((iI s41 2) + 1) := by rw [hs49]; exact iI_u ⟨by first | exact oq_74de1e16 b48.1 | omega, by first | exact oq_bb8d498d b48.2 | omega⟩
          have ws49_1 : iI s49 1 = iI s41 1 := by rw [hs49]; rfl
          have ws49_4 : iI s49 4 = iI s41 4 := by rw [hs49]; rfl
          have ws49_5 : iI s49 5 = iI s41 5 := by rw [hs49]; rfl
          have ws49_6 : iI s49 6 = iI s41 6 := by rw [hs49]; rfl
          have ws49_3 : iI s49 3 = iI s41 3 := by rw [hs49]; rfl
          have fs49 : Fm [2] [] s41 s49 := by rw [hs49]; exact fm_I (fm_rf _ _ _) (show 2 ∈ _ by decide)
          have JBYB_s49 : BYB B N s49 := BYB_fm fs49 (by decide) JBYB_s41
          exact w_vret X.1 q hRt (ax_d X (show cdA 129 232 = some (.return_, 1, 0, 0, 0) from rfl)) (Nat.zero_le _) (Nat.zero_le _) ⟨_, rfl, Is49, Fs49, JBYB_s49, rfl, ⟨by first | exact oq_499a7076 ws49_1 vs49 ws41_1 ws41_2 g19 | omega, by first | exact oq_92f9996c ws49_4 vs49 ws41_4 ws41_2 ws16_4 ws16_2 ws15_2 vs15 | omega, by omega, by first | exact Or.inl ⟨by omega, by omega⟩ | exact tkn_sig (x := ((iI s16 2))) (Q := sk B N (iI s 2)) (by omega) (by omega) (by omega) (by omega) (by omega) (by omega) (by omega)⟩⟩
      ·
        exfalso
        omega
    ·
      refine WS_lv (lv := [(0, .ref (A 1))]) (List.forall_mem_cons.mpr ⟨(List.Mem.head _), (fun q h => absurd h List.not_mem_nil)⟩) ?_
      refine L92 ((iI s41 1 - iI s41 2 : Int).toNat + 1) s41  Is41 Fs41 JBYB_s41 (by rw [show iI s41 2 = sk B N (iI s 2) by omega, show iI s41 6 = 0 by omega]; exact ⟨rfl, rfl⟩) (by first | exact ⟨oq_51a58521 ws41_1 ws41_2 g19, oq_75f1f811 ws41_4 ws41_2 ws16_4 ws16_2 ws15_2 vs15, by omega, g43⟩ | omega) (Nat.lt_succ_self _) ?_
      intro s50  Is50 Fs50 JBYB_s50 Qs50 hs50
      have b51 : (0 : Int) ≤ iI s50 2 ∧ iI s50 2 ≤ 200 := Is50.1 2
      have b52 : (0 : Int) ≤ iI s50 1 ∧ iI s50 1 ≤ 200 := Is50.1 1
      have b53 : (0 : Int) ≤ iI s50 4 ∧ iI s50 4 ≤ 200 := Is50.1 4
      have b54 : ((-3) : Int) ≤ iI s50 5 ∧ iI s50 5 ≤ 255 := Is50.1 5
      have b55 : (0 : Int) ≤ iI s50 6 ∧ iI s50 6 ≤ 100000 := Is50.1 6
      have b56 : (0 : Int) ≤ iI s50 3 ∧ iI s50 3 ≤ 1 := Is50.1 3
      have hNs50 := JBYB_s50.2.1
      have hWs50 := JBYB_s50.2.2
      exact w_vret X.1 q hRt (ax_d X (show cdA 129 232 = some (.return_, 1, 0, 0, 0) from rfl)) (Nat.zero_le _) (Nat.zero_le _) ⟨_, rfl, Is50, Fs50, JBYB_s50, rfl, ⟨by first | exact hs50.1 | omega, by first | exact hs50.2.1 | omega, by first | exact hs50.2.2.1 | omega, tkn_num (x := ((iI s16 2))) (Q := sk B N (iI s 2)) (by omega) (by omega) (by omega) (by omega) (by omega) (by omega) (by omega) (by omega)⟩⟩
set_option maxRecDepth 4000 in
theorem c10_open2 (G : GX l s0 D tys a0 dT) {B : Nat → Int} (I : Bd s) (jBYA : BYA B s) {x y : Int} (p0 : 0 ≤ x ∧ x ≤ 200) (p1 : y = 0) : CT l s0 D A dT 128 (rmN 128) [.ref (A 1), .int (Int32.ofInt x), .int (Int32.ofInt y)] s (fun o t => Bd t ∧ Fm [2, 4, 6, 5, 1, 3, 0, 7, 8] [] s t ∧ BYB B x t ∧ o = .inl none ∧ (iI t 0 = 0 ∧ iI t 2 ≤ iI t 1 ∧ iI t 4 ≤ iI t 2 ∧ iI t 4 = sk B x 0 ∧ TKN B x (iI t 5) (iI t 4) (iI t 2) (iI t 6))) := by
  refine ct_ofX G (by decide) (Nat.le_of_ble_eq_true rfl) (fun k X E ET hRt hXt q => ?_)
  show WS k 0 [(0, .ref (A 1)), (1, .int (Int32.ofInt x)), (2, .int (Int32.ofInt y))] [] _ 0 0
  have F : Fm [2, 4, 6, 5, 1, 3, 0, 7, 8] [] s s := fm_rf _ _ s
  have b1 : (0 : Int) ≤ iI s 0 ∧ iI s 0 ≤ 200 := I.1 0
  have b2 : (0 : Int) ≤ iI s 2 ∧ iI s 2 ≤ 200 := I.1 2
  have b3 : (0 : Int) ≤ iI s 1 ∧ iI s 1 ≤ 200 := I.1 1
  have b4 : (0 : Int) ≤ iI s 4 ∧ iI s 4 ≤ 200 := I.1 4
  have b5 : (0 : Int) ≤ iI s 3 ∧ iI s 3 ≤ 1 := I.1 3
  refine z_aload_n X (x := A 1) (show cdA 128 0 = some (.aload_n 0, 1, 0, 0, 0) from rfl) (List.Mem.head _) ?_
  refine z_load_n X (x := x) (show cdA 128 1 = some (.iload_n 1, 1, 0, 0, 0) from rfl) (List.Mem.tail _ (List.Mem.head _)) ?_
  refine s_putI X 1 (show cdA 128 2 = some (.putfield 26, 3, 10, 2, 0) from rfl) (by decide) rfl rfl (by decide) rfl rfl rfl ?_
  obtain ⟨s6, hs6⟩ : ∃ x0, x0 = uI s 1 (Int32.ofInt x) := ⟨_, rfl⟩
  rw [← hs6]
  have Is6 : Bd s6 := by rw [hs6]; exact bd_I I (show (0 : Int) ≤ x ∧ x ≤ 200 by first | exact ⟨p0.1, p0.2⟩ | omega) ⟨by first | exact oq_fa4e5087 p0.1 | omega, by first | exact oq_52af2b96 p0.2 | omega⟩
  have Fs6 := fm_I (x := Int32.ofInt x) F (show 1 ∈ _ by decide)
  rw [← hs6] at Fs6
  have vs6 : iI s6 1 = x := by rw [hs6]; exact iI_u ⟨by first | exact oq_fa4e5087 p0.1 | omega, by first | exact oq_52af2b96 p0.2 | omega⟩
  have ws6_0 : iI s6 0 = iI s 0 := by rw [hs6]; rfl
  have ws6_2 : iI s6 2 = iI s 2 := by rw [hs6]; rfl
  have ws6_4 : iI s6 4 = iI s 4 := by rw [hs6]; rfl
  have ws6_3 : iI s6 3 = iI s 3 := by rw [hs6]; rfl
  have fs6 : Fm [1] [] s s6 := by rw [hs6]; exact fm_I (fm_rf _ _ _) (show 1 ∈ _ by decide)
  have JBYA_s6 : BYA B s6 := BYA_fm fs6 (by decide) jBYA
  refine z_aload_n X (x := A 1) (show cdA 128 5 = some (.aload_n 0, 1, 0, 0, 0) from rfl) (List.Mem.head _) ?_
  refine z_const X (show cdA 128 6 = some (.iconst 0, 1, 0, 0, 0) from rfl) ?_
  refine s_putI X 1 (show cdA 128 7 = some (.putfield 29, 3, 10, 3, 0) from rfl) (by decide) rfl rfl (by decide) rfl rfl rfl ?_
  obtain ⟨s7, hs7⟩ : ∃ x0, x0 = uI s6 2 (Int32.ofInt 0) := ⟨_, rfl⟩
  rw [← hs7]
  have Is7 : Bd s7 := by rw [hs7]; exact bd_I Is6 (show (0 : Int) ≤ 0 ∧ 0 ≤ 200 by first | exact ⟨by decide, by decide⟩ | omega) (by decide)
  have Fs7 := fm_I (x := Int32.ofInt 0) Fs6 (show 2 ∈ _ by decide)
  rw [← hs7] at Fs7
  have vs7 : iI s7 2 = 0 := by rw [hs7]; exact iI_u (by decide)
  have ws7_0 : iI s7 0 = iI s6 0 := by rw [hs7]; rfl
  have ws7_1 : iI s7 1 = iI s6 1 := by rw [hs7]; rfl
  have ws7_4 : iI s7 4 = iI s6 4 := by rw [hs7]; rfl
  have ws7_3 : iI s7 3 = iI s6 3 := by rw [hs7]; rfl
  have fs7 : Fm [2] [] s6 s7 := by rw [hs7]; exact fm_I (fm_rf _ _ _) (show 2 ∈ _ by decide)
  have JBYA_s7 : BYA B s7 := BYA_fm fs7 (by decide) JBYA_s6
  refine z_aload_n X (x := A 1) (show cdA 128 10 = some (.aload_n 0, 1, 0, 0, 0) from rfl) (List.Mem.head _) ?_
  refine z_load_n X (x := y) (show cdA 128 11 = some (.iload_n 2, 1, 0, 0, 0) from rfl) (List.Mem.tail _ (List.Mem.tail _ (List.Mem.head _))) ?_
  refine s_putI X 1 (show cdA 128 12 = some (.putfield 32, 3, 10, 4, 0) from rfl) (by decide) rfl rfl (by decide) (nar_ret (by omega)) (fit_z (by omega)) rfl ?_
  obtain ⟨s8, hs8⟩ : ∃ x0, x0 = uI s7 3 (Int32.ofInt y) := ⟨_, rfl⟩
  rw [← hs8]
  have Is8 : Bd s8 := by rw [hs8]; exact bd_I Is7 (show (0 : Int) ≤ y ∧ y ≤ 1 by first | exact ⟨oq_0b35aa92 p1, oq_3a3d6173 p1⟩ | omega) ⟨by first | exact oq_6ab4c69f p1 | omega, by first | exact oq_3b8a080c p1 | omega⟩
  have Fs8 := fm_I (x := Int32.ofInt y) Fs7 (show 3 ∈ _ by decide)
  rw [← hs8] at Fs8
  have vs8 : iI s8 3 = y := by rw [hs8]; exact iI_u ⟨by first | exact oq_6ab4c69f p1 | omega, by first | exact oq_3b8a080c p1 | omega⟩
  have ws8_0 : iI s8 0 = iI s7 0 := by rw [hs8]; rfl
  have ws8_2 : iI s8 2 = iI s7 2 := by rw [hs8]; rfl
  have ws8_1 : iI s8 1 = iI s7 1 := by rw [hs8]; rfl
  have ws8_4 : iI s8 4 = iI s7 4 := by rw [hs8]; rfl
  have fs8 : Fm [3] [] s7 s8 := by rw [hs8]; exact fm_I (fm_rf _ _ _) (show 3 ∈ _ by decide)
  have JBYA_s8 : BYA B s8 := BYA_fm fs8 (by decide) JBYA_s7
  refine z_aload_n X (x := A 1) (show cdA 128 15 = some (.aload_n 0, 1, 0, 0, 0) from rfl) (List.Mem.head _) ?_
  refine z_const X (show cdA 128 16 = some (.iconst 0, 1, 0, 0, 0) from rfl) ?_
  refine s_putI X 1 (show cdA 128 17 = some (.putfield 19, 3, 10, 1, 0) from rfl) (by decide) rfl rfl (by decide) rfl rfl rfl ?_
  obtain ⟨s9, hs9⟩ : ∃ x0, x0 = uI s8 0 (Int32.ofInt 0) := ⟨_, rfl⟩
  rw [← hs9]
  have Is9 : Bd s9 := by rw [hs9]; exact bd_I Is8 (show (0 : Int) ≤ 0 ∧ 0 ≤ 200 by first | exact ⟨by decide, by decide⟩ | omega) (by decide)
  have Fs9 := fm_I (x := Int32.ofInt 0) Fs8 (show 0 ∈ _ by decide)
  rw [← hs9] at Fs9
  have vs9 : iI s9 0 = 0 := by rw [hs9]; exact iI_u (by decide)
  have ws9_2 : iI s9 2 = iI s8 2 := by rw [hs9]; rfl
  have ws9_1 : iI s9 1 = iI s8 1 := by rw [hs9]; rfl
  have ws9_4 : iI s9 4 = iI s8 4 := by rw [hs9]; rfl
  have ws9_3 : iI s9 3 = iI s8 3 := by rw [hs9]; rfl
  have fs9 : Fm [0] [] s8 s9 := by rw [hs9]; exact fm_I (fm_rf _ _ _) (show 0 ∈ _ by decide)
  have JBYA_s9 : BYA B s9 := BYA_fm fs9 (by decide) JBYA_s8
  refine z_aload_n X (x := A 1) (show cdA 128 20 = some (.aload_n 0, 1, 0, 0, 0) from rfl) (List.Mem.head _) ?_
  refine z_const X (show cdA 128 21 = some (.iconst 0, 1, 0, 0, 0) from rfl) ?_
  refine s_putI X 1 (show cdA 128 22 = some (.putfield 36, 3, 10, 8, 0) from rfl) (by decide) rfl rfl (by decide) rfl rfl rfl ?_
  obtain ⟨s10, hs10⟩ : ∃ x0, x0 = uI s9 7 (Int32.ofInt 0) := ⟨_, rfl⟩
  rw [← hs10]
  have Is10 : Bd s10 := by rw [hs10]; exact bd_I Is9 (show (0 : Int) ≤ 0 ∧ 0 ≤ 9 by first | exact ⟨by decide, by decide⟩ | omega) (by decide)
  have Fs10 := fm_I (x := Int32.ofInt 0) Fs9 (show 7 ∈ _ by decide)
  rw [← hs10] at Fs10
  have vs10 : iI s10 7 = 0 := by rw [hs10]; exact iI_u (by decide)
  have ws10_0 : iI s10 0 = iI s9 0 := by rw [hs10]; rfl
  have ws10_2 : iI s10 2 = iI s9 2 := by rw [hs10]; rfl
  have ws10_1 : iI s10 1 = iI s9 1 := by rw [hs10]; rfl
  have ws10_4 : iI s10 4 = iI s9 4 := by rw [hs10]; rfl
  have ws10_3 : iI s10 3 = iI s9 3 := by rw [hs10]; rfl
  have fs10 : Fm [7] [] s9 s10 := by rw [hs10]; exact fm_I (fm_rf _ _ _) (show 7 ∈ _ by decide)
  have JBYA_s10 : BYA B s10 := BYA_fm fs10 (by decide) JBYA_s9
  refine z_aload_n X (x := A 1) (show cdA 128 25 = some (.aload_n 0, 1, 0, 0, 0) from rfl) (List.Mem.head _) ?_
  refine z_const X (show cdA 128 26 = some (.iconst (-1), 1, 0, 0, 0) from rfl) ?_
  refine s_putI X 1 (show cdA 128 27 = some (.putfield 15, 3, 10, 9, 0) from rfl) (by decide) rfl rfl (by decide) rfl rfl rfl ?_
  obtain ⟨s11, hs11⟩ : ∃ x0, x0 = uI s10 8 (Int32.ofInt (-1)) := ⟨_, rfl⟩
  rw [← hs11]
  have Is11 : Bd s11 := by rw [hs11]; exact bd_I Is10 (show ((-1) : Int) ≤ (-1) ∧ (-1) ≤ 200 by first | exact ⟨by decide, by decide⟩ | omega) (by decide)
  have Fs11 := fm_I (x := Int32.ofInt (-1)) Fs10 (show 8 ∈ _ by decide)
  rw [← hs11] at Fs11
  have vs11 : iI s11 8 = (-1) := by rw [hs11]; exact iI_u (by decide)
  have ws11_0 : iI s11 0 = iI s10 0 := by rw [hs11]; rfl
  have ws11_2 : iI s11 2 = iI s10 2 := by rw [hs11]; rfl
  have ws11_1 : iI s11 1 = iI s10 1 := by rw [hs11]; rfl
  have ws11_4 : iI s11 4 = iI s10 4 := by rw [hs11]; rfl
  have ws11_3 : iI s11 3 = iI s10 3 := by rw [hs11]; rfl
  have fs11 : Fm [8] [] s10 s11 := by rw [hs11]; exact fm_I (fm_rf _ _ _) (show 8 ∈ _ by decide)
  have JBYA_s11 : BYA B s11 := BYA_fm fs11 (by decide) JBYA_s10
  refine z_aload_n X (x := A 1) (show cdA 128 30 = some (.aload_n 0, 1, 0, 0, 0) from rfl) (List.Mem.head _) ?_
  have JBs11 : BYB B x s11 := ⟨JBYA_s11, by omega, by omega⟩
  refine z_callV X 1 (rm := rmN 129) (As := []) (st := []) (show cdA 128 31 = some (.invokevirtual 39, 3, 129, 0, 0) from rfl) rfl (by decide) rfl (by rw [E.1, E.2.1, E.2.2.1]; exact c10_step2 G Is11 JBs11 (by first | exact oq_c5d7b2c9 ws11_1 ws11_2 ws10_1 ws10_2 ws9_1 ws9_2 ws8_1 ws8_2 ws7_1 vs7 vs6 p0.1 | omega)) ⟨by rw [E.2.2.2]; exact (show (rmN 129).frames + 1 ≤ (rmN 128).frames by decide), by rw [E.2.2.2]; exact (show 8 + (mNL (miB 129) + 11) + (rmN 129).locals ≤ (rmN 128).locals by decide), by rw [E.2.2.2]; exact (show 0 + (rmN 129).cells ≤ (rmN 128).cells by decide), by rw [E.2.2.2]; exact (show 0 + (rmN 129).slots ≤ (rmN 128).slots by decide)⟩ (Nat.le_of_ble_eq_true rfl) (fun vv s12 hq => ?_) (fun ee s12 hq => ?_)
  rotate_left
  · obtain ⟨Is12, Fs12, JBYB_s12, hv, hps12⟩ := hq; cases hv
  obtain ⟨Is12, Fs12, JBYB_s12, hv, hps12⟩ := hq
  cases hv
  have Gs12 := fm_ts Fs11 Fs12 (by decide) (by decide)
  have JBYA_s12 : BYA B s12 := BYA_fm Fs12 (by decide) JBYA_s11
  have JBYB_s12 : BYB B x s12 := BYB_fm Fs12 (by decide) JBs11
  have ws12_0 : iI s12 0 = iI s11 0 := fm_i Fs12 (by decide)
  have b14 : (0 : Int) ≤ iI s12 2 ∧ iI s12 2 ≤ 200 := Is12.1 2
  have ws12_1 : iI s12 1 = iI s11 1 := fm_i Fs12 (by decide)
  have b15 : (0 : Int) ≤ iI s12 4 ∧ iI s12 4 ≤ 200 := Is12.1 4
  have ws12_3 : iI s12 3 = iI s11 3 := fm_i Fs12 (by decide)
  show WS k 34 [(0, .ref (A 1)), (1, .int (Int32.ofInt x)), (2, .int (Int32.ofInt y))] [] (Wd A dT s12) 0 0
  exact w_vret X.1 q hRt (ax_d X (show cdA 128 34 = some (.return_, 1, 0, 0, 0) from rfl)) (Nat.zero_le _) (Nat.zero_le _) ⟨_, rfl, Is12, Gs12, JBYB_s12, rfl, ⟨by first | exact oq_264718cb ws12_0 ws11_0 ws10_0 vs9 | omega, by first | exact hps12.1 | omega, by first | exact hps12.2.1 | omega, by rw [hps12.2.2.1, show iI s11 2 = 0 by omega], hps12.2.2.2⟩⟩
set_option maxRecDepth 4000 in
theorem c9_stepFrom2 (G : GX l s0 D tys a0 dT) (I : Bd s) {x y : Int} (p0 : 0 ≤ x ∧ x ≤ 127) (p1 : 0 ≤ y ∧ y ≤ 5) : CT l s0 D A dT 100 (rmN 100) [.int (Int32.ofInt x), .int (Int32.ofInt y)] s (fun o t => s = t ∧ ∃ e, o = .inl (some (.int (Int32.ofInt e))) ∧ rng e ∧ (e = besT x y ∧ -1 ≤ e ∧ e ≤ 127)) := by
  refine ct_ofX G (by decide) (Nat.le_of_ble_eq_true rfl) (fun k X E ET hRt hXt q => ?_)
  show WS k 0 [(0, .int (Int32.ofInt x)), (1, .int (Int32.ofInt y))] [] _ 0 0
  have F : Fm [] [] s s := fm_rf _ _ s
  refine z_load_n X (x := y) (show cdA 100 0 = some (.iload_n 1, 1, 0, 0, 0) from rfl) (List.Mem.tail _ (List.Mem.head _)) ?_
  rcases (show y = 0 ∨ y = 1 ∨ y = 2 ∨ y = 3 ∨ y = 4 ∨ y = 5 by omega) with gs | gs | gs | gs | gs | gs
  ·
    rw [gs]
    refine w_tabIn X.1 (dflt := 135) (lo := 0) (hi := 5) (offs := #[39, 56, 71, 89, 105, 120]) (len := 39) (off := 39) (t := 40) (ax_d X (show cdA 100 1 = some (.tableswitch 135 0 5 #[39, 56, 71, 89, 105, 120], 39, 0, 0, 0) from rfl)) (by decide) (by decide) (by decide) (by decide) ?_
    refine z_load_n X (x := x) (show cdA 100 40 = some (.iload_n 0, 1, 0, 0, 0) from rfl) (List.Mem.head _) ?_
    refine z_bipush X (show cdA 100 41 = some (.bipush 7, 2, 0, 0, 7) from rfl) ?_
    refine z_and7 X (show cdA 100 43 = some (.iand, 1, 0, 0, 0) from rfl) (by omega) ?_
    refine z_bipush X (show cdA 100 44 = some (.bipush 7, 2, 0, 0, 7) from rfl) ?_
    have N1 : ∀ e2 : Int, (((7 ≤ (x % 8)) ∧ e2 = (-1)) ∨ (((x % 8) < 7) ∧ e2 = (x + 1))) → WS k 56 [(0, .int (Int32.ofInt x)), (1, .int (Int32.ofInt 0))] [.int (Int32.ofInt e2)] (Wd A dT s) 0 0 := by
      intro e2 he2
      exact w_iret X.1 q hRt rfl (ax_d X (show cdA 100 56 = some (.ireturn, 1, 0, 0, 0) from rfl)) (Nat.zero_le _) (Nat.zero_le _) ⟨_, rfl, rfl, e2, rfl, ⟨by first | exact oq_3ac7fb06 he2 p0.1 | omega, by first | exact oq_df418479 he2 p0.2 | omega⟩, ⟨bes_of ⟨Or.inl ⟨gs, by omega⟩, by omega, by omega⟩, by first | exact oq_8655ee20 he2 p0.1 | omega, by omega⟩⟩
    refine z_icmp_ge X (t := 55) (show cdA 100 46 = some (.if_icmp .ge 9, 3, 3, 0, 0) from rfl) (by decide) ⟨by first | exact oq_e86162eb | omega, by first | exact oq_70086759 | omega⟩ (by decide) (fun g3 => ?_) (fun g3 => ?_)
    ·
      refine z_const X (show cdA 100 55 = some (.iconst (-1), 1, 0, 0, 0) from rfl) ?_
      exact N1 _ (Or.inl ⟨g3, rfl⟩)
    ·
      refine z_load_n X (x := x) (show cdA 100 49 = some (.iload_n 0, 1, 0, 0, 0) from rfl) (List.Mem.head _) ?_
      refine z_const X (show cdA 100 50 = some (.iconst 1, 1, 0, 0, 0) from rfl) ?_
      refine z_add X (show cdA 100 51 = some (.iadd, 1, 0, 0, 0) from rfl) ?_
      refine z_goto X (t := 56) (show cdA 100 52 = some (.goto 4, 3, 0, 0, 0) from rfl) (by decide) ?_
      exact N1 _ (Or.inr (⟨g3, rfl⟩))
  ·
    rw [gs]
    refine w_tabIn X.1 (dflt := 135) (lo := 0) (hi := 5) (offs := #[39, 56, 71, 89, 105, 120]) (len := 39) (off := 56) (t := 57) (ax_d X (show cdA 100 1 = some (.tableswitch 135 0 5 #[39, 56, 71, 89, 105, 120], 39, 0, 0, 0) from rfl)) (by decide) (by decide) (by decide) (by decide) ?_
    refine z_load_n X (x := x) (show cdA 100 57 = some (.iload_n 0, 1, 0, 0, 0) from rfl) (List.Mem.head _) ?_
    refine z_bipush X (show cdA 100 58 = some (.bipush 7, 2, 0, 0, 7) from rfl) ?_
    refine z_and7 X (show cdA 100 60 = some (.iand, 1, 0, 0, 0) from rfl) (by omega) ?_
    have N4 : ∀ e5 : Int, ((((x % 8) ≤ 0) ∧ e5 = (-1)) ∨ ((0 < (x % 8)) ∧ e5 = (x - 1))) → WS k 71 [(0, .int (Int32.ofInt x)), (1, .int (Int32.ofInt 1))] [.int (Int32.ofInt e5)] (Wd A dT s) 0 0 := by
      intro e5 he5
      exact w_iret X.1 q hRt rfl (ax_d X (show cdA 100 71 = some (.ireturn, 1, 0, 0, 0) from rfl)) (Nat.zero_le _) (Nat.zero_le _) ⟨_, rfl, rfl, e5, rfl, ⟨by first | exact oq_b7fd8e5d he5 p0.1 | omega, by first | exact oq_9d1ba81c he5 p0.2 | omega⟩, ⟨bes_of ⟨Or.inr (Or.inl ⟨gs, by omega⟩), by omega, by omega⟩, by first | exact oq_7e4871f0 he5 p0.1 | omega, by first | exact oq_16d44b6a he5 p0.2 | omega⟩⟩
    refine z_if_le X (t := 70) (show cdA 100 61 = some (.ifCond .le 9, 3, 5, 0, 0) from rfl) (by decide) ⟨by first | exact oq_e86162eb | omega, by first | exact oq_70086759 | omega⟩ (fun g6 => ?_) (fun g6 => ?_)
    ·
      refine z_const X (show cdA 100 70 = some (.iconst (-1), 1, 0, 0, 0) from rfl) ?_
      exact N4 _ (Or.inl ⟨g6, rfl⟩)
    ·
      refine z_load_n X (x := x) (show cdA 100 64 = some (.iload_n 0, 1, 0, 0, 0) from rfl) (List.Mem.head _) ?_
      refine z_const X (show cdA 100 65 = some (.iconst 1, 1, 0, 0, 0) from rfl) ?_
      refine z_sub X (show cdA 100 66 = some (.isub, 1, 0, 0, 0) from rfl) ?_
      refine z_goto X (t := 71) (show cdA 100 67 = some (.goto 4, 3, 0, 0, 0) from rfl) (by decide) ?_
      exact N4 _ (Or.inr (⟨g6, rfl⟩))
  ·
    rw [gs]
    refine w_tabIn X.1 (dflt := 135) (lo := 0) (hi := 5) (offs := #[39, 56, 71, 89, 105, 120]) (len := 39) (off := 71) (t := 72) (ax_d X (show cdA 100 1 = some (.tableswitch 135 0 5 #[39, 56, 71, 89, 105, 120], 39, 0, 0, 0) from rfl)) (by decide) (by decide) (by decide) (by decide) ?_
    refine z_load_n X (x := x) (show cdA 100 72 = some (.iload_n 0, 1, 0, 0, 0) from rfl) (List.Mem.head _) ?_
    refine z_bipush X (show cdA 100 73 = some (.bipush 56, 2, 0, 0, 56) from rfl) ?_
    refine z_and56 X (show cdA 100 75 = some (.iand, 1, 0, 0, 0) from rfl) (by omega) ?_
    refine z_bipush X (show cdA 100 76 = some (.bipush 56, 2, 0, 0, 56) from rfl) ?_
    have N7 : ∀ e8 : Int, (((56 ≤ (x / 8 % 8 * 8)) ∧ e8 = (-1)) ∨ (((x / 8 % 8 * 8) < 56) ∧ e8 = (x + 8))) → WS k 89 [(0, .int (Int32.ofInt x)), (1, .int (Int32.ofInt 2))] [.int (Int32.ofInt e8)] (Wd A dT s) 0 0 := by
      intro e8 he8
      exact w_iret X.1 q hRt rfl (ax_d X (show cdA 100 89 = some (.ireturn, 1, 0, 0, 0) from rfl)) (Nat.zero_le _) (Nat.zero_le _) ⟨_, rfl, rfl, e8, rfl, ⟨by first | exact oq_7a2b650a he8 p0.1 | omega, by first | exact oq_f231750c he8 p0.2 | omega⟩, ⟨bes_of ⟨Or.inr (Or.inr (Or.inl ⟨gs, by omega⟩)), by omega, by omega⟩, by first | exact oq_ad1df6ed he8 p0.1 | omega, by omega⟩⟩
    refine z_icmp_ge X (t := 88) (show cdA 100 78 = some (.if_icmp .ge 10, 3, 3, 0, 0) from rfl) (by decide) ⟨by first | exact oq_96d4763a | omega, by first | exact oq_4d664977 | omega⟩ (by decide) (fun g9 => ?_) (fun g9 => ?_)
    ·
      refine z_const X (show cdA 100 88 = some (.iconst (-1), 1, 0, 0, 0) from rfl) ?_
      exact N7 _ (Or.inl ⟨g9, rfl⟩)
    ·
      refine z_load_n X (x := x) (show cdA 100 81 = some (.iload_n 0, 1, 0, 0, 0) from rfl) (List.Mem.head _) ?_
      refine z_bipush X (show cdA 100 82 = some (.bipush 8, 2, 0, 0, 8) from rfl) ?_
      refine z_add X (show cdA 100 84 = some (.iadd, 1, 0, 0, 0) from rfl) ?_
      refine z_goto X (t := 89) (show cdA 100 85 = some (.goto 4, 3, 0, 0, 0) from rfl) (by decide) ?_
      exact N7 _ (Or.inr (⟨g9, rfl⟩))
  ·
    rw [gs]
    refine w_tabIn X.1 (dflt := 135) (lo := 0) (hi := 5) (offs := #[39, 56, 71, 89, 105, 120]) (len := 39) (off := 89) (t := 90) (ax_d X (show cdA 100 1 = some (.tableswitch 135 0 5 #[39, 56, 71, 89, 105, 120], 39, 0, 0, 0) from rfl)) (by decide) (by decide) (by decide) (by decide) ?_
    refine z_load_n X (x := x) (show cdA 100 90 = some (.iload_n 0, 1, 0, 0, 0) from rfl) (List.Mem.head _) ?_
    refine z_bipush X (show cdA 100 91 = some (.bipush 56, 2, 0, 0, 56) from rfl) ?_
    refine z_and56 X (show cdA 100 93 = some (.iand, 1, 0, 0, 0) from rfl) (by omega) ?_
    have N10 : ∀ e11 : Int, ((((x / 8 % 8 * 8) ≤ 0) ∧ e11 = (-1)) ∨ ((0 < (x / 8 % 8 * 8)) ∧ e11 = (x - 8))) → WS k 105 [(0, .int (Int32.ofInt x)), (1, .int (Int32.ofInt 3))] [.int (Int32.ofInt e11)] (Wd A dT s) 0 0 := by
      intro e11 he11
      exact w_iret X.1 q hRt rfl (ax_d X (show cdA 100 105 = some (.ireturn, 1, 0, 0, 0) from rfl)) (Nat.zero_le _) (Nat.zero_le _) ⟨_, rfl, rfl, e11, rfl, ⟨by first | exact oq_2d0dfc68 he11 p0.1 | omega, by first | exact oq_83fab6db he11 p0.2 | omega⟩, ⟨bes_of ⟨Or.inr (Or.inr (Or.inr (Or.inl ⟨gs, by omega⟩))), by omega, by omega⟩, by omega, by first | exact oq_057900c8 he11 p0.2 | omega⟩⟩
    refine z_if_le X (t := 104) (show cdA 100 94 = some (.ifCond .le 10, 3, 5, 0, 0) from rfl) (by decide) ⟨by first | exact oq_96d4763a | omega, by first | exact oq_4d664977 | omega⟩ (fun g12 => ?_) (fun g12 => ?_)
    ·
      refine z_const X (show cdA 100 104 = some (.iconst (-1), 1, 0, 0, 0) from rfl) ?_
      exact N10 _ (Or.inl ⟨g12, rfl⟩)
    ·
      refine z_load_n X (x := x) (show cdA 100 97 = some (.iload_n 0, 1, 0, 0, 0) from rfl) (List.Mem.head _) ?_
      refine z_bipush X (show cdA 100 98 = some (.bipush 8, 2, 0, 0, 8) from rfl) ?_
      refine z_sub X (show cdA 100 100 = some (.isub, 1, 0, 0, 0) from rfl) ?_
      refine z_goto X (t := 105) (show cdA 100 101 = some (.goto 4, 3, 0, 0, 0) from rfl) (by decide) ?_
      exact N10 _ (Or.inr (⟨g12, rfl⟩))
  ·
    rw [gs]
    refine w_tabIn X.1 (dflt := 135) (lo := 0) (hi := 5) (offs := #[39, 56, 71, 89, 105, 120]) (len := 39) (off := 105) (t := 106) (ax_d X (show cdA 100 1 = some (.tableswitch 135 0 5 #[39, 56, 71, 89, 105, 120], 39, 0, 0, 0) from rfl)) (by decide) (by decide) (by decide) (by decide) ?_
    refine z_load_n X (x := x) (show cdA 100 106 = some (.iload_n 0, 1, 0, 0, 0) from rfl) (List.Mem.head _) ?_
    refine z_bipush X (show cdA 100 107 = some (.bipush 64, 2, 0, 0, 64) from rfl) ?_
    have N13 : ∀ e14 : Int, (((64 ≤ x) ∧ e14 = (-1)) ∨ ((x < 64) ∧ e14 = (x + 64))) → WS k 120 [(0, .int (Int32.ofInt x)), (1, .int (Int32.ofInt 4))] [.int (Int32.ofInt e14)] (Wd A dT s) 0 0 := by
      intro e14 he14
      exact w_iret X.1 q hRt rfl (ax_d X (show cdA 100 120 = some (.ireturn, 1, 0, 0, 0) from rfl)) (Nat.zero_le _) (Nat.zero_le _) ⟨_, rfl, rfl, e14, rfl, ⟨by first | exact oq_59c92683 he14 p0.1 | omega, by first | exact oq_f358200e he14 | omega⟩, ⟨bes_of ⟨Or.inr (Or.inr (Or.inr (Or.inr (Or.inl ⟨gs, by omega⟩)))), by omega, by omega⟩, by first | exact oq_201a3ceb he14 p0.1 | omega, by first | exact oq_3594ddd9 he14 | omega⟩⟩
    refine z_icmp_ge X (t := 119) (show cdA 100 109 = some (.if_icmp .ge 10, 3, 3, 0, 0) from rfl) (by decide) ⟨by first | exact oq_fa4e5087 p0.1 | omega, by first | exact oq_07d346ce p0.2 | omega⟩ (by decide) (fun g15 => ?_) (fun g15 => ?_)
    ·
      refine z_const X (show cdA 100 119 = some (.iconst (-1), 1, 0, 0, 0) from rfl) ?_
      exact N13 _ (Or.inl ⟨g15, rfl⟩)
    ·
      refine z_load_n X (x := x) (show cdA 100 112 = some (.iload_n 0, 1, 0, 0, 0) from rfl) (List.Mem.head _) ?_
      refine z_bipush X (show cdA 100 113 = some (.bipush 64, 2, 0, 0, 64) from rfl) ?_
      refine z_add X (show cdA 100 115 = some (.iadd, 1, 0, 0, 0) from rfl) ?_
      refine z_goto X (t := 120) (show cdA 100 116 = some (.goto 4, 3, 0, 0, 0) from rfl) (by decide) ?_
      exact N13 _ (Or.inr (⟨g15, rfl⟩))
  ·
    rw [gs]
    refine w_tabIn X.1 (dflt := 135) (lo := 0) (hi := 5) (offs := #[39, 56, 71, 89, 105, 120]) (len := 39) (off := 120) (t := 121) (ax_d X (show cdA 100 1 = some (.tableswitch 135 0 5 #[39, 56, 71, 89, 105, 120], 39, 0, 0, 0) from rfl)) (by decide) (by decide) (by decide) (by decide) ?_
    refine z_load_n X (x := x) (show cdA 100 121 = some (.iload_n 0, 1, 0, 0, 0) from rfl) (List.Mem.head _) ?_
    refine z_bipush X (show cdA 100 122 = some (.bipush 64, 2, 0, 0, 64) from rfl) ?_
    have N16 : ∀ e17 : Int, (((x < 64) ∧ e17 = (-1)) ∨ ((64 ≤ x) ∧ e17 = (x - 64))) → WS k 135 [(0, .int (Int32.ofInt x)), (1, .int (Int32.ofInt 5))] [.int (Int32.ofInt e17)] (Wd A dT s) 0 0 := by
      intro e17 he17
      exact w_iret X.1 q hRt rfl (ax_d X (show cdA 100 135 = some (.ireturn, 1, 0, 0, 0) from rfl)) (Nat.zero_le _) (Nat.zero_le _) ⟨_, rfl, rfl, e17, rfl, ⟨by first | exact oq_241d06ca he17 | omega, by first | exact oq_b2c34735 he17 p0.2 | omega⟩, ⟨bes_of ⟨Or.inr (Or.inr (Or.inr (Or.inr (Or.inr (⟨gs, by omega⟩))))), by omega, by omega⟩, by first | exact oq_91d95e88 he17 | omega, by first | exact oq_444e6966 he17 p0.2 | omega⟩⟩
    refine z_icmp_lt X (t := 134) (show cdA 100 124 = some (.if_icmp .lt 10, 3, 2, 0, 0) from rfl) (by decide) ⟨by first | exact oq_fa4e5087 p0.1 | omega, by first | exact oq_07d346ce p0.2 | omega⟩ (by decide) (fun g18 => ?_) (fun g18 => ?_)
    ·
      refine z_const X (show cdA 100 134 = some (.iconst (-1), 1, 0, 0, 0) from rfl) ?_
      exact N16 _ (Or.inl ⟨g18, rfl⟩)
    ·
      refine z_load_n X (x := x) (show cdA 100 127 = some (.iload_n 0, 1, 0, 0, 0) from rfl) (List.Mem.head _) ?_
      refine z_bipush X (show cdA 100 128 = some (.bipush 64, 2, 0, 0, 64) from rfl) ?_
      refine z_sub X (show cdA 100 130 = some (.isub, 1, 0, 0, 0) from rfl) ?_
      refine z_goto X (t := 135) (show cdA 100 131 = some (.goto 4, 3, 0, 0, 0) from rfl) (by decide) ?_
      exact N16 _ (Or.inr (⟨g18, rfl⟩))
set_option maxRecDepth 4000 in
theorem c9_goOf2 (G : GX l s0 D tys a0 dT) (I : Bd s) {x : Int} (p0 : -3 ≤ x ∧ x ≤ 255) : CT l s0 D A dT 101 (rmN 101) [.int (Int32.ofInt x)] s (fun o t => s = t ∧ ∃ e, o = .inl (some (.int (Int32.ofInt e))) ∧ rng e ∧ (e = dirT x ∧ -1 ≤ e ∧ e ≤ 5)) := by
  refine ct_ofX G (by decide) (Nat.le_of_ble_eq_true rfl) (fun k X E ET hRt hXt q => ?_)
  show WS k 0 [(0, .int (Int32.ofInt x))] [] _ 0 0
  have F : Fm [] [] s s := fm_rf _ _ s
  refine z_load_n X (x := x) (show cdA 101 0 = some (.iload_n 0, 1, 0, 0, 0) from rfl) (List.Mem.head _) ?_
  rcases (show x = 99 ∨ x = 100 ∨ x = 101 ∨ x = 102 ∨ x = 103 ∨ x = 104 ∨ x = 105 ∨ x = 106 ∨ x = 107 ∨ x = 108 ∨ x = 109 ∨ x = 110 ∨ x = 111 ∨ x = 112 ∨ x = 113 ∨ x = 114 ∨ x = 115 ∨ x = 116 ∨ x = 117 ∨ (x < 99 ∨ 117 < x) by omega) with gs | gs | gs | gs | gs | gs | gs | gs | gs | gs | gs | gs | gs | gs | gs | gs | gs | gs | gs | gs
  ·
    rw [gs]
    refine w_tabIn X.1 (dflt := 103) (lo := 99) (hi := 117) (offs := #[99, 95, 103, 103, 103, 103, 103, 103, 103, 93, 103, 103, 103, 103, 103, 91, 101, 103, 97]) (len := 91) (off := 99) (t := 100) (ax_d X (show cdA 101 1 = some (.tableswitch 103 99 117 #[99, 95, 103, 103, 103, 103, 103, 103, 103, 93, 103, 103, 103, 103, 103, 91, 101, 103, 97], 91, 0, 0, 0) from rfl)) (by decide) (by decide) (by decide) (by decide) ?_
    refine z_const X (show cdA 101 100 = some (.iconst 4, 1, 0, 0, 0) from rfl) ?_
    exact w_iret X.1 q hRt rfl (ax_d X (show cdA 101 101 = some (.ireturn, 1, 0, 0, 0) from rfl)) (Nat.zero_le _) (Nat.zero_le _) ⟨_, rfl, rfl, 4, rfl, (by decide), ⟨by rw [gs]; rfl, by decide, by decide⟩⟩
  ·
    rw [gs]
    refine w_tabIn X.1 (dflt := 103) (lo := 99) (hi := 117) (offs := #[99, 95, 103, 103, 103, 103, 103, 103, 103, 93, 103, 103, 103, 103, 103, 91, 101, 103, 97]) (len := 91) (off := 95) (t := 96) (ax_d X (show cdA 101 1 = some (.tableswitch 103 99 117 #[99, 95, 103, 103, 103, 103, 103, 103, 103, 93, 103, 103, 103, 103, 103, 91, 101, 103, 97], 91, 0, 0, 0) from rfl)) (by decide) (by decide) (by decide) (by decide) ?_
    refine z_const X (show cdA 101 96 = some (.iconst 2, 1, 0, 0, 0) from rfl) ?_
    exact w_iret X.1 q hRt rfl (ax_d X (show cdA 101 97 = some (.ireturn, 1, 0, 0, 0) from rfl)) (Nat.zero_le _) (Nat.zero_le _) ⟨_, rfl, rfl, 2, rfl, (by decide), ⟨by rw [gs]; rfl, by decide, by decide⟩⟩
  ·
    rw [gs]
    refine w_tabIn X.1 (dflt := 103) (lo := 99) (hi := 117) (offs := #[99, 95, 103, 103, 103, 103, 103, 103, 103, 93, 103, 103, 103, 103, 103, 91, 101, 103, 97]) (len := 91) (off := 103) (t := 104) (ax_d X (show cdA 101 1 = some (.tableswitch 103 99 117 #[99, 95, 103, 103, 103, 103, 103, 103, 103, 93, 103, 103, 103, 103, 103, 91, 101, 103, 97], 91, 0, 0, 0) from rfl)) (by decide) (by decide) (by decide) (by decide) ?_
    refine z_const X (show cdA 101 104 = some (.iconst (-1), 1, 0, 0, 0) from rfl) ?_
    exact w_iret X.1 q hRt rfl (ax_d X (show cdA 101 105 = some (.ireturn, 1, 0, 0, 0) from rfl)) (Nat.zero_le _) (Nat.zero_le _) ⟨_, rfl, rfl, (-1), rfl, (by decide), ⟨by rw [gs]; rfl, by decide, by decide⟩⟩
  ·
    rw [gs]
    refine w_tabIn X.1 (dflt := 103) (lo := 99) (hi := 117) (offs := #[99, 95, 103, 103, 103, 103, 103, 103, 103, 93, 103, 103, 103, 103, 103, 91, 101, 103, 97]) (len := 91) (off := 103) (t := 104) (ax_d X (show cdA 101 1 = some (.tableswitch 103 99 117 #[99, 95, 103, 103, 103, 103, 103, 103, 103, 93, 103, 103, 103, 103, 103, 91, 101, 103, 97], 91, 0, 0, 0) from rfl)) (by decide) (by decide) (by decide) (by decide) ?_
    refine z_const X (show cdA 101 104 = some (.iconst (-1), 1, 0, 0, 0) from rfl) ?_
    exact w_iret X.1 q hRt rfl (ax_d X (show cdA 101 105 = some (.ireturn, 1, 0, 0, 0) from rfl)) (Nat.zero_le _) (Nat.zero_le _) ⟨_, rfl, rfl, (-1), rfl, (by decide), ⟨by rw [gs]; rfl, by decide, by decide⟩⟩
  ·
    rw [gs]
    refine w_tabIn X.1 (dflt := 103) (lo := 99) (hi := 117) (offs := #[99, 95, 103, 103, 103, 103, 103, 103, 103, 93, 103, 103, 103, 103, 103, 91, 101, 103, 97]) (len := 91) (off := 103) (t := 104) (ax_d X (show cdA 101 1 = some (.tableswitch 103 99 117 #[99, 95, 103, 103, 103, 103, 103, 103, 103, 93, 103, 103, 103, 103, 103, 91, 101, 103, 97], 91, 0, 0, 0) from rfl)) (by decide) (by decide) (by decide) (by decide) ?_
    refine z_const X (show cdA 101 104 = some (.iconst (-1), 1, 0, 0, 0) from rfl) ?_
    exact w_iret X.1 q hRt rfl (ax_d X (show cdA 101 105 = some (.ireturn, 1, 0, 0, 0) from rfl)) (Nat.zero_le _) (Nat.zero_le _) ⟨_, rfl, rfl, (-1), rfl, (by decide), ⟨by rw [gs]; rfl, by decide, by decide⟩⟩
  ·
    rw [gs]
    refine w_tabIn X.1 (dflt := 103) (lo := 99) (hi := 117) (offs := #[99, 95, 103, 103, 103, 103, 103, 103, 103, 93, 103, 103, 103, 103, 103, 91, 101, 103, 97]) (len := 91) (off := 103) (t := 104) (ax_d X (show cdA 101 1 = some (.tableswitch 103 99 117 #[99, 95, 103, 103, 103, 103, 103, 103, 103, 93, 103, 103, 103, 103, 103, 91, 101, 103, 97], 91, 0, 0, 0) from rfl)) (by decide) (by decide) (by decide) (by decide) ?_
    refine z_const X (show cdA 101 104 = some (.iconst (-1), 1, 0, 0, 0) from rfl) ?_
    exact w_iret X.1 q hRt rfl (ax_d X (show cdA 101 105 = some (.ireturn, 1, 0, 0, 0) from rfl)) (Nat.zero_le _) (Nat.zero_le _) ⟨_, rfl, rfl, (-1), rfl, (by decide), ⟨by rw [gs]; rfl, by decide, by decide⟩⟩
  ·
    rw [gs]
    refine w_tabIn X.1 (dflt := 103) (lo := 99) (hi := 117) (offs := #[99, 95, 103, 103, 103, 103, 103, 103, 103, 93, 103, 103, 103, 103, 103, 91, 101, 103, 97]) (len := 91) (off := 103) (t := 104) (ax_d X (show cdA 101 1 = some (.tableswitch 103 99 117 #[99, 95, 103, 103, 103, 103, 103, 103, 103, 93, 103, 103, 103, 103, 103, 91, 101, 103, 97], 91, 0, 0, 0) from rfl)) (by decide) (by decide) (by decide) (by decide) ?_
    refine z_const X (show cdA 101 104 = some (.iconst (-1), 1, 0, 0, 0) from rfl) ?_
    exact w_iret X.1 q hRt rfl (ax_d X (show cdA 101 105 = some (.ireturn, 1, 0, 0, 0) from rfl)) (Nat.zero_le _) (Nat.zero_le _) ⟨_, rfl, rfl, (-1), rfl, (by decide), ⟨by rw [gs]; rfl, by decide, by decide⟩⟩
  ·
    rw [gs]
    refine w_tabIn X.1 (dflt := 103) (lo := 99) (hi := 117) (offs := #[99, 95, 103, 103, 103, 103, 103, 103, 103, 93, 103, 103, 103, 103, 103, 91, 101, 103, 97]) (len := 91) (off := 103) (t := 104) (ax_d X (show cdA 101 1 = some (.tableswitch 103 99 117 #[99, 95, 103, 103, 103, 103, 103, 103, 103, 93, 103, 103, 103, 103, 103, 91, 101, 103, 97], 91, 0, 0, 0) from rfl)) (by decide) (by decide) (by decide) (by decide) ?_
    refine z_const X (show cdA 101 104 = some (.iconst (-1), 1, 0, 0, 0) from rfl) ?_
    exact w_iret X.1 q hRt rfl (ax_d X (show cdA 101 105 = some (.ireturn, 1, 0, 0, 0) from rfl)) (Nat.zero_le _) (Nat.zero_le _) ⟨_, rfl, rfl, (-1), rfl, (by decide), ⟨by rw [gs]; rfl, by decide, by decide⟩⟩
  ·
    rw [gs]
    refine w_tabIn X.1 (dflt := 103) (lo := 99) (hi := 117) (offs := #[99, 95, 103, 103, 103, 103, 103, 103, 103, 93, 103, 103, 103, 103, 103, 91, 101, 103, 97]) (len := 91) (off := 103) (t := 104) (ax_d X (show cdA 101 1 = some (.tableswitch 103 99 117 #[99, 95, 103, 103, 103, 103, 103, 103, 103, 93, 103, 103, 103, 103, 103, 91, 101, 103, 97], 91, 0, 0, 0) from rfl)) (by decide) (by decide) (by decide) (by decide) ?_
    refine z_const X (show cdA 101 104 = some (.iconst (-1), 1, 0, 0, 0) from rfl) ?_
    exact w_iret X.1 q hRt rfl (ax_d X (show cdA 101 105 = some (.ireturn, 1, 0, 0, 0) from rfl)) (Nat.zero_le _) (Nat.zero_le _) ⟨_, rfl, rfl, (-1), rfl, (by decide), ⟨by rw [gs]; rfl, by decide, by decide⟩⟩
  ·
    rw [gs]
    refine w_tabIn X.1 (dflt := 103) (lo := 99) (hi := 117) (offs := #[99, 95, 103, 103, 103, 103, 103, 103, 103, 93, 103, 103, 103, 103, 103, 91, 101, 103, 97]) (len := 91) (off := 93) (t := 94) (ax_d X (show cdA 101 1 = some (.tableswitch 103 99 117 #[99, 95, 103, 103, 103, 103, 103, 103, 103, 93, 103, 103, 103, 103, 103, 91, 101, 103, 97], 91, 0, 0, 0) from rfl)) (by decide) (by decide) (by decide) (by decide) ?_
    refine z_const X (show cdA 101 94 = some (.iconst 1, 1, 0, 0, 0) from rfl) ?_
    exact w_iret X.1 q hRt rfl (ax_d X (show cdA 101 95 = some (.ireturn, 1, 0, 0, 0) from rfl)) (Nat.zero_le _) (Nat.zero_le _) ⟨_, rfl, rfl, 1, rfl, (by decide), ⟨by rw [gs]; rfl, by decide, by decide⟩⟩
  ·
    rw [gs]
    refine w_tabIn X.1 (dflt := 103) (lo := 99) (hi := 117) (offs := #[99, 95, 103, 103, 103, 103, 103, 103, 103, 93, 103, 103, 103, 103, 103, 91, 101, 103, 97]) (len := 91) (off := 103) (t := 104) (ax_d X (show cdA 101 1 = some (.tableswitch 103 99 117 #[99, 95, 103, 103, 103, 103, 103, 103, 103, 93, 103, 103, 103, 103, 103, 91, 101, 103, 97], 91, 0, 0, 0) from rfl)) (by decide) (by decide) (by decide) (by decide) ?_
    refine z_const X (show cdA 101 104 = some (.iconst (-1), 1, 0, 0, 0) from rfl) ?_
    exact w_iret X.1 q hRt rfl (ax_d X (show cdA 101 105 = some (.ireturn, 1, 0, 0, 0) from rfl)) (Nat.zero_le _) (Nat.zero_le _) ⟨_, rfl, rfl, (-1), rfl, (by decide), ⟨by rw [gs]; rfl, by decide, by decide⟩⟩
  ·
    rw [gs]
    refine w_tabIn X.1 (dflt := 103) (lo := 99) (hi := 117) (offs := #[99, 95, 103, 103, 103, 103, 103, 103, 103, 93, 103, 103, 103, 103, 103, 91, 101, 103, 97]) (len := 91) (off := 103) (t := 104) (ax_d X (show cdA 101 1 = some (.tableswitch 103 99 117 #[99, 95, 103, 103, 103, 103, 103, 103, 103, 93, 103, 103, 103, 103, 103, 91, 101, 103, 97], 91, 0, 0, 0) from rfl)) (by decide) (by decide) (by decide) (by decide) ?_
    refine z_const X (show cdA 101 104 = some (.iconst (-1), 1, 0, 0, 0) from rfl) ?_
    exact w_iret X.1 q hRt rfl (ax_d X (show cdA 101 105 = some (.ireturn, 1, 0, 0, 0) from rfl)) (Nat.zero_le _) (Nat.zero_le _) ⟨_, rfl, rfl, (-1), rfl, (by decide), ⟨by rw [gs]; rfl, by decide, by decide⟩⟩
  ·
    rw [gs]
    refine w_tabIn X.1 (dflt := 103) (lo := 99) (hi := 117) (offs := #[99, 95, 103, 103, 103, 103, 103, 103, 103, 93, 103, 103, 103, 103, 103, 91, 101, 103, 97]) (len := 91) (off := 103) (t := 104) (ax_d X (show cdA 101 1 = some (.tableswitch 103 99 117 #[99, 95, 103, 103, 103, 103, 103, 103, 103, 93, 103, 103, 103, 103, 103, 91, 101, 103, 97], 91, 0, 0, 0) from rfl)) (by decide) (by decide) (by decide) (by decide) ?_
    refine z_const X (show cdA 101 104 = some (.iconst (-1), 1, 0, 0, 0) from rfl) ?_
    exact w_iret X.1 q hRt rfl (ax_d X (show cdA 101 105 = some (.ireturn, 1, 0, 0, 0) from rfl)) (Nat.zero_le _) (Nat.zero_le _) ⟨_, rfl, rfl, (-1), rfl, (by decide), ⟨by rw [gs]; rfl, by decide, by decide⟩⟩
  ·
    rw [gs]
    refine w_tabIn X.1 (dflt := 103) (lo := 99) (hi := 117) (offs := #[99, 95, 103, 103, 103, 103, 103, 103, 103, 93, 103, 103, 103, 103, 103, 91, 101, 103, 97]) (len := 91) (off := 103) (t := 104) (ax_d X (show cdA 101 1 = some (.tableswitch 103 99 117 #[99, 95, 103, 103, 103, 103, 103, 103, 103, 93, 103, 103, 103, 103, 103, 91, 101, 103, 97], 91, 0, 0, 0) from rfl)) (by decide) (by decide) (by decide) (by decide) ?_
    refine z_const X (show cdA 101 104 = some (.iconst (-1), 1, 0, 0, 0) from rfl) ?_
    exact w_iret X.1 q hRt rfl (ax_d X (show cdA 101 105 = some (.ireturn, 1, 0, 0, 0) from rfl)) (Nat.zero_le _) (Nat.zero_le _) ⟨_, rfl, rfl, (-1), rfl, (by decide), ⟨by rw [gs]; rfl, by decide, by decide⟩⟩
  ·
    rw [gs]
    refine w_tabIn X.1 (dflt := 103) (lo := 99) (hi := 117) (offs := #[99, 95, 103, 103, 103, 103, 103, 103, 103, 93, 103, 103, 103, 103, 103, 91, 101, 103, 97]) (len := 91) (off := 103) (t := 104) (ax_d X (show cdA 101 1 = some (.tableswitch 103 99 117 #[99, 95, 103, 103, 103, 103, 103, 103, 103, 93, 103, 103, 103, 103, 103, 91, 101, 103, 97], 91, 0, 0, 0) from rfl)) (by decide) (by decide) (by decide) (by decide) ?_
    refine z_const X (show cdA 101 104 = some (.iconst (-1), 1, 0, 0, 0) from rfl) ?_
    exact w_iret X.1 q hRt rfl (ax_d X (show cdA 101 105 = some (.ireturn, 1, 0, 0, 0) from rfl)) (Nat.zero_le _) (Nat.zero_le _) ⟨_, rfl, rfl, (-1), rfl, (by decide), ⟨by rw [gs]; rfl, by decide, by decide⟩⟩
  ·
    rw [gs]
    refine w_tabIn X.1 (dflt := 103) (lo := 99) (hi := 117) (offs := #[99, 95, 103, 103, 103, 103, 103, 103, 103, 93, 103, 103, 103, 103, 103, 91, 101, 103, 97]) (len := 91) (off := 91) (t := 92) (ax_d X (show cdA 101 1 = some (.tableswitch 103 99 117 #[99, 95, 103, 103, 103, 103, 103, 103, 103, 93, 103, 103, 103, 103, 103, 91, 101, 103, 97], 91, 0, 0, 0) from rfl)) (by decide) (by decide) (by decide) (by decide) ?_
    refine z_const X (show cdA 101 92 = some (.iconst 0, 1, 0, 0, 0) from rfl) ?_
    exact w_iret X.1 q hRt rfl (ax_d X (show cdA 101 93 = some (.ireturn, 1, 0, 0, 0) from rfl)) (Nat.zero_le _) (Nat.zero_le _) ⟨_, rfl, rfl, 0, rfl, (by decide), ⟨by rw [gs]; rfl, by decide, by decide⟩⟩
  ·
    rw [gs]
    refine w_tabIn X.1 (dflt := 103) (lo := 99) (hi := 117) (offs := #[99, 95, 103, 103, 103, 103, 103, 103, 103, 93, 103, 103, 103, 103, 103, 91, 101, 103, 97]) (len := 91) (off := 101) (t := 102) (ax_d X (show cdA 101 1 = some (.tableswitch 103 99 117 #[99, 95, 103, 103, 103, 103, 103, 103, 103, 93, 103, 103, 103, 103, 103, 91, 101, 103, 97], 91, 0, 0, 0) from rfl)) (by decide) (by decide) (by decide) (by decide) ?_
    refine z_const X (show cdA 101 102 = some (.iconst 5, 1, 0, 0, 0) from rfl) ?_
    exact w_iret X.1 q hRt rfl (ax_d X (show cdA 101 103 = some (.ireturn, 1, 0, 0, 0) from rfl)) (Nat.zero_le _) (Nat.zero_le _) ⟨_, rfl, rfl, 5, rfl, (by decide), ⟨by rw [gs]; rfl, by decide, by decide⟩⟩
  ·
    rw [gs]
    refine w_tabIn X.1 (dflt := 103) (lo := 99) (hi := 117) (offs := #[99, 95, 103, 103, 103, 103, 103, 103, 103, 93, 103, 103, 103, 103, 103, 91, 101, 103, 97]) (len := 91) (off := 103) (t := 104) (ax_d X (show cdA 101 1 = some (.tableswitch 103 99 117 #[99, 95, 103, 103, 103, 103, 103, 103, 103, 93, 103, 103, 103, 103, 103, 91, 101, 103, 97], 91, 0, 0, 0) from rfl)) (by decide) (by decide) (by decide) (by decide) ?_
    refine z_const X (show cdA 101 104 = some (.iconst (-1), 1, 0, 0, 0) from rfl) ?_
    exact w_iret X.1 q hRt rfl (ax_d X (show cdA 101 105 = some (.ireturn, 1, 0, 0, 0) from rfl)) (Nat.zero_le _) (Nat.zero_le _) ⟨_, rfl, rfl, (-1), rfl, (by decide), ⟨by rw [gs]; rfl, by decide, by decide⟩⟩
  ·
    rw [gs]
    refine w_tabIn X.1 (dflt := 103) (lo := 99) (hi := 117) (offs := #[99, 95, 103, 103, 103, 103, 103, 103, 103, 93, 103, 103, 103, 103, 103, 91, 101, 103, 97]) (len := 91) (off := 97) (t := 98) (ax_d X (show cdA 101 1 = some (.tableswitch 103 99 117 #[99, 95, 103, 103, 103, 103, 103, 103, 103, 93, 103, 103, 103, 103, 103, 91, 101, 103, 97], 91, 0, 0, 0) from rfl)) (by decide) (by decide) (by decide) (by decide) ?_
    refine z_const X (show cdA 101 98 = some (.iconst 3, 1, 0, 0, 0) from rfl) ?_
    exact w_iret X.1 q hRt rfl (ax_d X (show cdA 101 99 = some (.ireturn, 1, 0, 0, 0) from rfl)) (Nat.zero_le _) (Nat.zero_le _) ⟨_, rfl, rfl, 3, rfl, (by decide), ⟨by rw [gs]; rfl, by decide, by decide⟩⟩
  ·
    refine w_tabOut X.1 (dflt := 103) (lo := 99) (hi := 117) (offs := #[99, 95, 103, 103, 103, 103, 103, 103, 103, 93, 103, 103, 103, 103, 103, 91, 101, 103, 97]) (len := 91) (t := 104) (ax_d X (show cdA 101 1 = some (.tableswitch 103 99 117 #[99, 95, 103, 103, 103, 103, 103, 103, 103, 93, 103, 103, 103, 103, 103, 91, 101, 103, 97], 91, 0, 0, 0) from rfl)) (by rw [zi ⟨by omega, by omega⟩]; omega) (by decide) ?_
    refine z_const X (show cdA 101 104 = some (.iconst (-1), 1, 0, 0, 0) from rfl) ?_
    exact w_iret X.1 q hRt rfl (ax_d X (show cdA 101 105 = some (.ireturn, 1, 0, 0, 0) from rfl)) (Nat.zero_le _) (Nat.zero_le _) ⟨_, rfl, rfl, (-1), rfl, (by decide), ⟨by unfold dirT; rw [if_neg (by omega), if_neg (by omega), if_neg (by omega), if_neg (by omega), if_neg (by omega), if_neg (by omega)], by decide, by decide⟩⟩
set_option maxRecDepth 4000 in
theorem c9_lengthen2 (G : GX l s0 D tys a0 dT) {a : WyA} (hA : AGx 15 11 a s) (ha : 1 ≤ a.1 ∧ a.1 ≤ 24) (I : Bd s) {x : Int} (p0 : 0 ≤ x ∧ x ≤ 5) : CT l s0 D A dT 105 (rmN 105) [.ref (A 3), .int (Int32.ofInt x)] s (fun o t => Bd t ∧ Fm [11] [15] s t ∧ ∃ e, o = .inl (some (.int (Int32.ofInt e))) ∧ rng e ∧ (0 ≤ e ∧ e ≤ 4 ∧ ((e = 0 ∧ EXR 15 11 x a t) ∨ (e ≠ 0 ∧ extT x a = none)))) := by
  refine ct_ofX G (by decide) (Nat.le_of_ble_eq_true rfl) (fun k X E ET hRt hXt q => ?_)
  show WS k 0 [(0, .ref (A 3)), (1, .int (Int32.ofInt x))] [] _ 0 0
  have F : Fm [11] [15] s s := fm_rf _ _ s
  have aw0_15 : SAM 15 s s := sam_rf
  have hA1 := hA.1
  have b1 : (0 : Int) ≤ iI s 11 ∧ iI s 11 ≤ 24 := I.1 11
  have L47 : ∀ (n : Nat) (t : PS) (xv nx c : Int), Bd t → Fm [11] [15] s t → (SAM 15 s t ∧ NHS 15 c nx s) → (xv = x ∧ (0 ≤ nx ∧ nx ≤ 127) ∧ 0 ≤ c ∧ c ≤ 24 ∧ iI t 11 ≤ 23 ∧ iI t 11 = iI s 11 ∧ nx = besT (iC s 15 (iI s 11 - 1).toNat) x) → (24 - c : Int).toNat < n → (∀ (t' : PS) (c' : Int), Bd t' → Fm [11] [15] s t' → (SAM 15 s t' ∧ NHS 15 c' nx s) → (xv = x ∧ (0 ≤ nx ∧ nx ≤ 127) ∧ 0 ≤ c' ∧ c' ≤ 24 ∧ iI t' 11 ≤ 23 ∧ iI t' 11 = iI s 11 ∧ nx = besT (iC s 15 (iI s 11 - 1).toNat) x ∧ iI t' 11 ≤ c') → WS k 73 [(0, .ref (A 3)), (1, .int (Int32.ofInt xv)), (2, .int (Int32.ofInt nx)), (3, .int (Int32.ofInt c'))] [] (Wd A dT t') 0 0) → WS k 47 [(0, .ref (A 3)), (1, .int (Int32.ofInt xv)), (2, .int (Int32.ofInt nx)), (3, .int (Int32.ofInt c))] [] (Wd A dT t) 0 0 := by
    intro n
    induction n with
    | zero =>
      intro t xv nx c I F hq hi hm kx
      exact absurd hm (Nat.not_lt_zero _)
    | succ n ih =>
      intro t xv nx c I F hq hi hm kx
      have b1001 : (0 : Int) ≤ iI t 11 ∧ iI t 11 ≤ 24 := I.1 11
      have hA1 := hA.1
      have hcc : iC s 15 (iI s 11 - 1).toNat = a.2 (a.1 - 1).toNat := by rw [hA1]; exact ag_at hA (by omega) (by omega)
      have hnn : nx = besT (iC s 15 (iI s 11 - 1).toNat) x := by omega
      refine z_load_n X (x := c) (show cdA 105 47 = some (.iload_n 3, 1, 0, 0, 0) from rfl) (List.Mem.tail _ (List.Mem.tail _ (List.Mem.tail _ (List.Mem.head _)))) ?_
      refine z_aload_n X (x := A 3) (show cdA 105 48 = some (.aload_n 0, 1, 0, 0, 0) from rfl) (List.Mem.head _) ?_
      refine z_getI X 3 (show cdA 105 49 = some (.getfield 58, 3, 9, 17, 0) from rfl) (by decide) rfl rfl ?_
      have b1002 : (0 : Int) ≤ iI t 11 ∧ iI t 11 ≤ 24 := I.1 11
      refine z_icmp_ge X (t := 73) (show cdA 105 52 = some (.if_icmp .ge 21, 3, 3, 0, 0) from rfl) (by decide) ⟨by first | exact oq_fa4e5087 hi.2.2.1 | omega, by first | exact oq_5bcd337f hi.2.2.2.1 | omega⟩ (rng_to _) (fun g1003 => ?_) (fun g1003 => ?_)
      ·
        refine WS_lv (lv := [(0, .ref (A 3)), (1, .int (Int32.ofInt xv)), (2, .int (Int32.ofInt nx)), (3, .int (Int32.ofInt c))]) (List.forall_mem_cons.mpr ⟨(List.Mem.head _), (List.forall_mem_cons.mpr ⟨(List.Mem.tail _ (List.Mem.head _)), (List.forall_mem_cons.mpr ⟨(List.Mem.tail _ (List.Mem.tail _ (List.Mem.head _))), (List.forall_mem_cons.mpr ⟨(List.Mem.tail _ (List.Mem.tail _ (List.Mem.tail _ (List.Mem.head _)))), (fun q h => absurd h List.not_mem_nil)⟩)⟩)⟩)⟩) ?_
        exact kx _ c I F ⟨hq.1, hq.2⟩ (by first | exact ⟨hi.1, And.intro (hi.2.1.1) (hi.2.1.2), hi.2.2.1, hi.2.2.2.1, hi.2.2.2.2.1, hi.2.2.2.2.2.1, hnn, g1003⟩ | omega)
      ·
        refine z_aload_n X (x := A 3) (show cdA 105 55 = some (.aload_n 0, 1, 0, 0, 0) from rfl) (List.Mem.head _) ?_
        refine s_getR X 3 (show cdA 105 56 = some (.getfield 55, 3, 9, 16, 0) from rfl) (by decide) rfl rfl ?_
        refine z_load_n X (x := c) (show cdA 105 59 = some (.iload_n 3, 1, 0, 0, 0) from rfl) (List.Mem.tail _ (List.Mem.tail _ (List.Mem.tail _ (List.Mem.head _)))) ?_
        refine z_ald X 18 (show cdA 105 60 = some (.iaload, 1, 0, 0, 0) from rfl) (by decide) rfl (by first | exact hi.2.2.1 | omega) (show c < 24 by first | exact oq_8ff7beb9 g1003 b1002.2 | omega) (by decide) ?_
        have b1004 : (0 : Int) ≤ iC t 15 (c).toNat ∧ iC t 15 (c).toNat ≤ 127 := I.2 15 _ (show (c).toNat < 24 by first | exact oq_9e668fc9 g1003 b1002.2 | omega)
        have ar1005 : iC t 15 (c).toNat = iC s 15 (c).toNat := hq.1 _
        refine z_load_n X (x := nx) (show cdA 105 61 = some (.iload_n 2, 1, 0, 0, 0) from rfl) (List.Mem.tail _ (List.Mem.tail _ (List.Mem.head _))) ?_
        refine z_icmp_ne X (t := 67) (show cdA 105 62 = some (.if_icmp .ne 5, 3, 1, 0, 0) from rfl) (by decide) (rng_to _) ⟨by first | exact oq_fa4e5087 hi.2.1.1 | omega, by first | exact oq_07d346ce hi.2.1.2 | omega⟩ (fun g1006 => ?_) (fun g1006 => ?_)
        ·
          refine z_inc X (x := c) (lv' := [(3, .int (Int32.ofInt (c + 1))), (0, .ref (A 3)), (1, .int (Int32.ofInt xv)), (2, .int (Int32.ofInt nx))]) (show cdA 105 67 = some (.iinc 3 1, 3, 0, 0, 0) from rfl) (by decide) (List.Mem.tail _ (List.Mem.tail _ (List.Mem.tail _ (List.Mem.head _)))) (fun _ h => h) ?_
          refine z_goto X (t := 47) (show cdA 105 70 = some (.goto (-23), 3, 0, 0, 0) from rfl) (by decide) ?_
          refine WS_lv (lv := [(0, .ref (A 3)), (1, .int (Int32.ofInt xv)), (2, .int (Int32.ofInt nx)), (3, .int (Int32.ofInt (c + 1)))]) (List.forall_mem_cons.mpr ⟨(List.Mem.tail _ (List.Mem.head _)), (List.forall_mem_cons.mpr ⟨(List.Mem.tail _ (List.Mem.tail _ (List.Mem.head _))), (List.forall_mem_cons.mpr ⟨(List.Mem.tail _ (List.Mem.tail _ (List.Mem.tail _ (List.Mem.head _)))), (List.forall_mem_cons.mpr ⟨(List.Mem.head _), (fun q h => absurd h List.not_mem_nil)⟩)⟩)⟩)⟩) ?_
          exact ih _ xv nx (c + 1) I F ⟨hq.1, nhs_up hq.2 (by omega) (by omega)⟩ (by first | exact ⟨hi.1, And.intro (hi.2.1.1) (hi.2.1.2), oq_54f49eb5 hi.2.2.1, oq_41473be0 g1003 b1002.2, hi.2.2.2.2.1, hi.2.2.2.2.2.1, hnn⟩ | omega) (by first | exact qk_me hm (by decide) (oq_9dea93e6 g1003 b1002.2) | omega) kx
        ·
          refine z_const X (show cdA 105 65 = some (.iconst 4, 1, 0, 0, 0) from rfl) ?_
          exact w_iret X.1 q hRt rfl (ax_d X (show cdA 105 66 = some (.ireturn, 1, 0, 0, 0) from rfl)) (Nat.zero_le _) (Nat.zero_le _) ⟨_, rfl, I, F, 4, rfl, (by decide), ⟨by decide, by decide, Or.inr ⟨by first | exact oq_a62814c4 | omega, ext_no3 hcc hnn (by omega) (by omega) hA (hs_of c (by omega) (by omega) (by omega))⟩⟩⟩
  refine z_aload_n X (x := A 3) (show cdA 105 0 = some (.aload_n 0, 1, 0, 0, 0) from rfl) (List.Mem.head _) ?_
  refine z_getI X 3 (show cdA 105 1 = some (.getfield 58, 3, 9, 17, 0) from rfl) (by decide) rfl rfl ?_
  have b2 : (0 : Int) ≤ iI s 11 ∧ iI s 11 ≤ 24 := I.1 11
  refine z_if_le X (t := 25) (show cdA 105 4 = some (.ifCond .le 21, 3, 5, 0, 0) from rfl) (by decide) (rng_to _) (fun g3 => ?_) (fun g3 => ?_)
  ·
    refine z_const X (show cdA 105 25 = some (.iconst (-1), 1, 0, 0, 0) from rfl) ?_
    exfalso
    omega
  ·
    refine z_aload_n X (x := A 3) (show cdA 105 7 = some (.aload_n 0, 1, 0, 0, 0) from rfl) (List.Mem.head _) ?_
    refine s_getR X 3 (show cdA 105 8 = some (.getfield 55, 3, 9, 16, 0) from rfl) (by decide) rfl rfl ?_
    refine z_aload_n X (x := A 3) (show cdA 105 11 = some (.aload_n 0, 1, 0, 0, 0) from rfl) (List.Mem.head _) ?_
    refine z_getI X 3 (show cdA 105 12 = some (.getfield 58, 3, 9, 17, 0) from rfl) (by decide) rfl rfl ?_
    have b4 : (0 : Int) ≤ iI s 11 ∧ iI s 11 ≤ 24 := I.1 11
    refine z_const X (show cdA 105 15 = some (.iconst 1, 1, 0, 0, 0) from rfl) ?_
    refine z_sub X (show cdA 105 16 = some (.isub, 1, 0, 0, 0) from rfl) ?_
    refine z_ald X 18 (show cdA 105 17 = some (.iaload, 1, 0, 0, 0) from rfl) (by decide) rfl (by first | exact oq_a4f22177 g3 | omega) (show ((iI s 11) - 1) < 24 by first | exact oq_19cb6f5b b4.2 | omega) (by decide) ?_
    have b5 : (0 : Int) ≤ iC s 15 (((iI s 11) - 1)).toNat ∧ iC s 15 (((iI s 11) - 1)).toNat ≤ 127 := I.2 15 _ (show (((iI s 11) - 1)).toNat < 24 by first | exact oq_f976b25c b4.2 | omega)
    have ar6 : iC s 15 (((iI s 11) - 1)).toNat = iC s 15 (((iI s 11) - 1)).toNat := aw0_15 _
    refine z_load_n X (x := x) (show cdA 105 18 = some (.iload_n 1, 1, 0, 0, 0) from rfl) (List.Mem.tail _ (List.Mem.head _)) ?_
    refine z_callS X (rm := rmN 100) (As := [.int (Int32.ofInt (iC s 15 (((iI s 11) - 1)).toNat)), .int (Int32.ofInt x)]) (st := []) (show cdA 105 19 = some (.invokestatic 95, 3, 100, 1, 0) from rfl) rfl (by rw [E.1, E.2.1, E.2.2.1]; exact c9_stepFrom2 G I (by first | exact ⟨b5.1, b5.2⟩ | omega) (by first | exact ⟨p0.1, p0.2⟩ | omega)) ⟨by rw [E.2.2.2]; exact (show (rmN 100).frames + 1 ≤ (rmN 105).frames by decide), by rw [E.2.2.2]; exact (show 8 + (mNL (miB 100) + 11) + (rmN 100).locals ≤ (rmN 105).locals by decide), by rw [E.2.2.2]; exact (show 0 + (rmN 100).cells ≤ (rmN 105).cells by decide), by rw [E.2.2.2]; exact (show 0 + (rmN 100).slots ≤ (rmN 105).slots by decide)⟩ (Nat.le_of_ble_eq_true rfl) (fun vv s7 hq => ?_) (fun ee s7 hq => ?_)
    rotate_left
    · obtain ⟨rfl, e8, hv, hrs7, hps7⟩ := hq; cases hv
    obtain ⟨rfl, e8, hv, hrs7, hps7⟩ := hq
    cases hv
    show WS k 22 [(0, .ref (A 3)), (1, .int (Int32.ofInt x))] [.int (Int32.ofInt e8)] (Wd A dT s) 0 0
    refine z_goto X (t := 26) (show cdA 105 22 = some (.goto 4, 3, 0, 0, 0) from rfl) (by decide) ?_
    have hcc : iC s 15 (iI s 11 - 1).toNat = a.2 (a.1 - 1).toNat := by rw [hA1]; exact ag_at hA (by omega) (by omega)
    have hnn : e8 = besT (iC s 15 (iI s 11 - 1).toNat) x := hps7.1
    refine z_store_n X (lv' := [(2, .int (Int32.ofInt e8)), (0, .ref (A 3)), (1, .int (Int32.ofInt x))]) (show cdA 105 26 = some (.istore_n 2, 1, 0, 0, 0) from rfl) (by decide) (fun _ h => h) ?_
    refine z_load_n X (x := e8) (show cdA 105 27 = some (.iload_n 2, 1, 0, 0, 0) from rfl) (List.Mem.head _) ?_
    refine z_const X (show cdA 105 28 = some (.iconst (-1), 1, 0, 0, 0) from rfl) ?_
    refine z_icmp_ne X (t := 34) (show cdA 105 29 = some (.if_icmp .ne 5, 3, 1, 0, 0) from rfl) (by decide) hrs7 (by decide) (fun g9 => ?_) (fun g9 => ?_)
    ·
      refine z_aload_n X (x := A 3) (show cdA 105 34 = some (.aload_n 0, 1, 0, 0, 0) from rfl) (List.Mem.tail _ (List.Mem.head _)) ?_
      refine z_getI X 3 (show cdA 105 35 = some (.getfield 58, 3, 9, 17, 0) from rfl) (by decide) rfl rfl ?_
      have b10 : (0 : Int) ≤ iI s 11 ∧ iI s 11 ≤ 24 := I.1 11
      refine z_bipush X (show cdA 105 38 = some (.bipush 24, 2, 0, 0, 24) from rfl) ?_
      refine z_icmp_lt X (t := 45) (show cdA 105 40 = some (.if_icmp .lt 5, 3, 2, 0, 0) from rfl) (by decide) (rng_to _) (by decide) (fun g11 => ?_) (fun g11 => ?_)
      ·
        refine z_const X (show cdA 105 45 = some (.iconst 0, 1, 0, 0, 0) from rfl) ?_
        refine z_store_n X (lv' := [(3, .int (Int32.ofInt 0)), (2, .int (Int32.ofInt e8)), (0, .ref (A 3)), (1, .int (Int32.ofInt x))]) (show cdA 105 46 = some (.istore_n 3, 1, 0, 0, 0) from rfl) (by decide) (fun _ h => h) ?_
        refine WS_lv (lv := [(0, .ref (A 3)), (1, .int (Int32.ofInt x)), (2, .int (Int32.ofInt e8)), (3, .int (Int32.ofInt 0))]) (List.forall_mem_cons.mpr ⟨(List.Mem.tail _ (List.Mem.tail _ (List.Mem.head _))), (List.forall_mem_cons.mpr ⟨(List.Mem.tail _ (List.Mem.tail _ (List.Mem.tail _ (List.Mem.head _)))), (List.forall_mem_cons.mpr ⟨(List.Mem.tail _ (List.Mem.head _)), (List.forall_mem_cons.mpr ⟨(List.Mem.head _), (fun q h => absurd h List.not_mem_nil)⟩)⟩)⟩)⟩) ?_
        refine L47 ((24 - 0 : Int).toNat + 1) s x e8 0 I F ⟨aw0_15, nhs_0⟩ (by first | exact ⟨by decide, oq_63f8c182 g9 hps7.2.2 hps7.2.1, by decide, by decide, oq_c69fe266 g11, by decide, hnn⟩ | omega) (Nat.lt_succ_self _) ?_
        intro s12 x13 Is12 Fs12 Qs12 hs12
        have b14 : (0 : Int) ≤ iI s12 11 ∧ iI s12 11 ≤ 24 := Is12.1 11
        refine z_aload_n X (x := A 3) (show cdA 105 73 = some (.aload_n 0, 1, 0, 0, 0) from rfl) (List.Mem.head _) ?_
        refine s_getR X 3 (show cdA 105 74 = some (.getfield 55, 3, 9, 16, 0) from rfl) (by decide) rfl rfl ?_
        refine z_aload_n X (x := A 3) (show cdA 105 77 = some (.aload_n 0, 1, 0, 0, 0) from rfl) (List.Mem.head _) ?_
        refine z_getI X 3 (show cdA 105 78 = some (.getfield 58, 3, 9, 17, 0) from rfl) (by decide) rfl rfl ?_
        have b15 : (0 : Int) ≤ iI s12 11 ∧ iI s12 11 ≤ 24 := Is12.1 11
        refine z_load_n X (x := e8) (show cdA 105 81 = some (.iload_n 2, 1, 0, 0, 0) from rfl) (List.Mem.tail _ (List.Mem.tail _ (List.Mem.head _))) ?_
        refine z_ast X 18 (show cdA 105 82 = some (.iastore, 1, 0, 0, 0) from rfl) (by decide) rfl (by first | exact b15.1 | omega) (show (iI s12 11) < 24 by first | exact oq_7fdb8aa6 hs12.2.2.2.2.1 | omega) (by decide) ?_
        obtain ⟨s16, hs16⟩ : ∃ x0, x0 = uC s12 15 ((iI s12 11)).toNat (Int32.ofInt e8) := ⟨_, rfl⟩
        rw [← hs16]
        have Is16 : Bd s16 := by rw [hs16]; exact bd_C Is12 (show (0 : Int) ≤ e8 ∧ e8 ≤ 127 by first | exact ⟨hs12.2.1.1, hs12.2.1.2⟩ | omega) hrs7
        have Fs16 := fm_C (i := ((iI s12 11)).toNat) (x := Int32.ofInt e8) Fs12 (show 15 ∈ _ by decide)
        rw [← hs16] at Fs16
        have ws16_11 : iI s16 11 = iI s12 11 := by rw [hs16]; rfl
        have aws16_15 : UPD 15 ((iI s12 11)) e8 s s16 := by rw [hs16]; exact upd_put Qs12.1 hrs7
        refine z_aload_n X (x := A 3) (show cdA 105 83 = some (.aload_n 0, 1, 0, 0, 0) from rfl) (List.Mem.head _) ?_
        refine w_dup X.1 (ax_d X (show cdA 105 84 = some (.dup, 1, 0, 0, 0) from rfl)) rfl ?_
        refine z_getI X 3 (show cdA 105 85 = some (.getfield 58, 3, 9, 17, 0) from rfl) (by decide) rfl rfl ?_
        have b17 : (0 : Int) ≤ iI s16 11 ∧ iI s16 11 ≤ 24 := Is16.1 11
        refine z_const X (show cdA 105 88 = some (.iconst 1, 1, 0, 0, 0) from rfl) ?_
        refine z_add X (show cdA 105 89 = some (.iadd, 1, 0, 0, 0) from rfl) ?_
        refine s_putI X 3 (show cdA 105 90 = some (.putfield 58, 3, 9, 17, 0) from rfl) (by decide) rfl rfl (by decide) rfl rfl rfl ?_
        obtain ⟨s18, hs18⟩ : ∃ x0, x0 = uI s16 11 (Int32.ofInt ((iI s16 11) + 1)) := ⟨_, rfl⟩
        rw [← hs18]
        have Is18 : Bd s18 := by rw [hs18]; exact bd_I Is16 (show (0 : Int) ≤ ((iI s16 11) + 1) ∧ ((iI s16 11) + 1) ≤ 24 by first | exact ⟨oq_54f49eb5 b17.1, oq_c4e726c7 ws16_11 hs12.2.2.2.2.1⟩ | omega) ⟨by first | exact oq_74de1e16 b17.1 | omega, by first | exact oq_3a454424 b17.2 | omega⟩
        have Fs18 := fm_I (x := Int32.ofInt ((iI s16 11) + 1)) Fs16 (show 11 ∈ _ by decide)
        rw [← hs18] at Fs18
        have vs18 : iI s18 11 = ((iI s16 11) + 1) := by rw [hs18]; exact iI_u ⟨by first | exact oq_74de1e16 b17.1 | omega, by first | exact oq_3a454424 b17.2 | omega⟩
        have aws18_15 : UPD 15 ((iI s12 11)) e8 s s18 := by rw [hs18]; exact aws16_15
        refine z_const X (show cdA 105 93 = some (.iconst 0, 1, 0, 0, 0) from rfl) ?_
        exact w_iret X.1 q hRt rfl (ax_d X (show cdA 105 94 = some (.ireturn, 1, 0, 0, 0) from rfl)) (Nat.zero_le _) (Nat.zero_le _) ⟨_, rfl, Is18, Fs18, 0, rfl, (by decide), ⟨by decide, by decide, Or.inl ⟨by decide, ext_yes hcc hnn (by omega) (by omega) (by omega) hA (nhs_le (Qs12.2) (by omega)) (upd_ix aws18_15 (by omega)) (by omega)⟩⟩⟩
      ·
        refine z_const X (show cdA 105 43 = some (.iconst 4, 1, 0, 0, 0) from rfl) ?_
        exact w_iret X.1 q hRt rfl (ax_d X (show cdA 105 44 = some (.ireturn, 1, 0, 0, 0) from rfl)) (Nat.zero_le _) (Nat.zero_le _) ⟨_, rfl, I, F, 4, rfl, (by decide), ⟨by decide, by decide, Or.inr ⟨by first | exact oq_a62814c4 | omega, ext_no2 hcc hnn (by omega) (by omega)⟩⟩⟩
    ·
      refine z_const X (show cdA 105 32 = some (.iconst 3, 1, 0, 0, 0) from rfl) ?_
      exact w_iret X.1 q hRt rfl (ax_d X (show cdA 105 33 = some (.ireturn, 1, 0, 0, 0) from rfl)) (Nat.zero_le _) (Nat.zero_le _) ⟨_, rfl, I, F, 3, rfl, (by decide), ⟨by decide, by decide, Or.inr ⟨by first | exact oq_56c7e517 | omega, ext_no1 hcc hnn (by omega)⟩⟩⟩
set_option maxRecDepth 4000 in
theorem c9_readMove2 (G : GX l s0 D tys a0 dT) {B : Nat → Int} {N : Int} {a : WyA} (hA : AGx 15 11 a s) (ha : 1 ≤ a.1 ∧ a.1 ≤ 24) (hT : TKN B N (iI s 5) (iI s 4) (iI s 2) (iI s 6)) (I : Bd s) (jBYB : BYB B N s) (p0 : iI s 2 ≤ iI s 1) (p1 : iI s 4 ≤ iI s 2) (p2 : iI s 5 ≠ -1) : CT l s0 D A dT 104 (rmN 104) [.ref (A 3), .ref (A 1)] s (fun o t => Bd t ∧ Fm [11, 2, 4, 6, 5, 7, 8] [15] s t ∧ BYB B N t ∧ ∃ e, o = .inl (some (.int (Int32.ofInt e))) ∧ rng e ∧ ((e = 0 ∨ e = 1) ∧ iI t 2 ≤ iI t 1 ∧ iI t 4 ≤ iI t 2 ∧ ((e = 1 ∧ MVR B N (iI s 4) a t) ∨ (e = 0 ∧ mvT B N (iI s 4) a = none)))) := by
  refine ct_ofX G (by decide) (Nat.le_of_ble_eq_true rfl) (fun k X E ET hRt hXt q => ?_)
  show WS k 0 [(0, .ref (A 3)), (1, .ref (A 1))] [] _ 0 0
  have F : Fm [11, 2, 4, 6, 5, 7, 8] [15] s s := fm_rf _ _ s
  have aw0_15 : SAM 15 s s := sam_rf
  have hD := tkn_dir hT p2
  have hS := tkn_ne hT p2
  have b1 : (0 : Int) ≤ iI s 11 ∧ iI s 11 ≤ 24 := I.1 11
  have b2 : (0 : Int) ≤ iI s 2 ∧ iI s 2 ≤ 200 := I.1 2
  have b3 : (0 : Int) ≤ iI s 1 ∧ iI s 1 ≤ 200 := I.1 1
  have b4 : (0 : Int) ≤ iI s 4 ∧ iI s 4 ≤ 200 := I.1 4
  have b5 : ((-3) : Int) ≤ iI s 5 ∧ iI s 5 ≤ 255 := I.1 5
  have b6 : (0 : Int) ≤ iI s 6 ∧ iI s 6 ≤ 100000 := I.1 6
  have L77 : ∀ (n : Nat) (t : PS) (go plc tms c : Int), Bd t → Fm [11, 2, 4, 6, 5, 7, 8] [15] s t → BYB B N t → (MVQ B N (iI s 4) a go tms c t) → ((0 ≤ go ∧ go ≤ 5) ∧ (0 ≤ plc ∧ plc ≤ 200) ∧ (1 ≤ tms ∧ tms ≤ 7) ∧ 0 ≤ c ∧ c ≤ 7 ∧ iI t 2 ≤ iI t 1 ∧ iI t 4 ≤ iI t 2) → (7 - c : Int).toNat < n → (∀ (t' : PS) (c' : Int), Bd t' → Fm [11, 2, 4, 6, 5, 7, 8] [15] s t' → BYB B N t' → (MVQ B N (iI s 4) a go tms c' t') → (tms ≤ c' ∧ iI t' 2 ≤ iI t' 1 ∧ iI t' 4 ≤ iI t' 2) → WS k 110 [(0, .ref (A 3)), (1, .ref (A 1)), (2, .int (Int32.ofInt go)), (3, .int (Int32.ofInt plc)), (4, .int (Int32.ofInt tms)), (5, .int (Int32.ofInt c'))] [] (Wd A dT t') 0 0) → WS k 77 [(0, .ref (A 3)), (1, .ref (A 1)), (2, .int (Int32.ofInt go)), (3, .int (Int32.ofInt plc)), (4, .int (Int32.ofInt tms)), (5, .int (Int32.ofInt c))] [] (Wd A dT t) 0 0 := by
    intro n
    induction n with
    | zero =>
      intro t go plc tms c I F jjBYB hq hi hm kx
      exact absurd hm (Nat.not_lt_zero _)
    | succ n ih =>
      intro t go plc tms c I F jjBYB hq hi hm kx
      have b1001 : (0 : Int) ≤ iI t 11 ∧ iI t 11 ≤ 24 := I.1 11
      have b1002 : (0 : Int) ≤ iI t 2 ∧ iI t 2 ≤ 200 := I.1 2
      have b1003 : (0 : Int) ≤ iI t 1 ∧ iI t 1 ≤ 200 := I.1 1
      have b1004 : (0 : Int) ≤ iI t 4 ∧ iI t 4 ≤ 200 := I.1 4
      have b1005 : ((-3) : Int) ≤ iI t 5 ∧ iI t 5 ≤ 255 := I.1 5
      have b1006 : (0 : Int) ≤ iI t 6 ∧ iI t 6 ≤ 100000 := I.1 6
      refine z_load X (x := c) (show cdA 104 77 = some (.iload 5, 2, 0, 0, 0) from rfl) (List.Mem.tail _ (List.Mem.tail _ (List.Mem.tail _ (List.Mem.tail _ (List.Mem.tail _ (List.Mem.head _)))))) ?_
      refine z_load X (x := tms) (show cdA 104 79 = some (.iload 4, 2, 0, 0, 0) from rfl) (List.Mem.tail _ (List.Mem.tail _ (List.Mem.tail _ (List.Mem.tail _ (List.Mem.head _))))) ?_
      refine z_icmp_ge X (t := 110) (show cdA 104 81 = some (.if_icmp .ge 29, 3, 3, 0, 0) from rfl) (by decide) ⟨by first | exact oq_fa4e5087 hi.2.2.2.1 | omega, by first | exact oq_0e78ca7d hi.2.2.2.2.1 | omega⟩ ⟨by first | exact oq_9462313e hi.2.2.1.1 | omega, by first | exact oq_0e78ca7d hi.2.2.1.2 | omega⟩ (fun g1007 => ?_) (fun g1007 => ?_)
      ·
        refine WS_lv (lv := [(0, .ref (A 3)), (1, .ref (A 1)), (2, .int (Int32.ofInt go)), (3, .int (Int32.ofInt plc)), (4, .int (Int32.ofInt tms)), (5, .int (Int32.ofInt c))]) (List.forall_mem_cons.mpr ⟨(List.Mem.head _), (List.forall_mem_cons.mpr ⟨(List.Mem.tail _ (List.Mem.head _)), (List.forall_mem_cons.mpr ⟨(List.Mem.tail _ (List.Mem.tail _ (List.Mem.head _))), (List.forall_mem_cons.mpr ⟨(List.Mem.tail _ (List.Mem.tail _ (List.Mem.tail _ (List.Mem.head _)))), (List.forall_mem_cons.mpr ⟨(List.Mem.tail _ (List.Mem.tail _ (List.Mem.tail _ (List.Mem.tail _ (List.Mem.head _))))), (List.forall_mem_cons.mpr ⟨(List.Mem.tail _ (List.Mem.tail _ (List.Mem.tail _ (List.Mem.tail _ (List.Mem.tail _ (List.Mem.head _)))))), (fun q h => absurd h List.not_mem_nil)⟩)⟩)⟩)⟩)⟩)⟩) ?_
        exact kx _ c I F jjBYB hq (by first | exact ⟨g1007, hi.2.2.2.2.2.1, hi.2.2.2.2.2.2⟩ | omega)
      ·
        obtain ⟨a1, m1, m2, m3⟩ := hq.1
        refine z_aload_n X (x := A 3) (show cdA 104 84 = some (.aload_n 0, 1, 0, 0, 0) from rfl) (List.Mem.head _) ?_
        refine z_load_n X (x := go) (show cdA 104 85 = some (.iload_n 2, 1, 0, 0, 0) from rfl) (List.Mem.tail _ (List.Mem.tail _ (List.Mem.head _))) ?_
        refine z_callV X 3 (rm := rmN 105) (As := [.int (Int32.ofInt go)]) (st := []) (show cdA 104 86 = some (.invokevirtual 88, 3, 105, 0, 0) from rfl) rfl (by decide) rfl (by rw [E.1, E.2.1, E.2.2.1]; exact c9_lengthen2 G m2 m3 I (by first | exact ⟨hi.1.1, hi.1.2⟩ | omega)) ⟨by rw [E.2.2.2]; exact (show (rmN 105).frames + 1 ≤ (rmN 104).frames by decide), by rw [E.2.2.2]; exact (show 8 + (mNL (miB 105) + 11) + (rmN 105).locals ≤ (rmN 104).locals by decide), by rw [E.2.2.2]; exact (show 0 + (rmN 105).cells ≤ (rmN 104).cells by decide), by rw [E.2.2.2]; exact (show 0 + (rmN 105).slots ≤ (rmN 104).slots by decide)⟩ (Nat.le_of_ble_eq_true rfl) (fun vv s1008 hq => ?_) (fun ee s1008 hq => ?_)
        rotate_left
        · obtain ⟨Is1008, Fs1008, e1009, hv, hrs1008, hps1008⟩ := hq; cases hv
        obtain ⟨Is1008, Fs1008, e1009, hv, hrs1008, hps1008⟩ := hq
        cases hv
        have Gs1008 := fm_ts F Fs1008 (by decide) (by decide)
        have JBYB_s1008 : BYB B N s1008 := BYB_fm Fs1008 (by decide) jjBYB
        have b1010 : (0 : Int) ≤ iI s1008 11 ∧ iI s1008 11 ≤ 24 := Is1008.1 11
        have ws1008_2 : iI s1008 2 = iI t 2 := fm_i Fs1008 (by decide)
        have ws1008_1 : iI s1008 1 = iI t 1 := fm_i Fs1008 (by decide)
        have ws1008_4 : iI s1008 4 = iI t 4 := fm_i Fs1008 (by decide)
        have ws1008_5 : iI s1008 5 = iI t 5 := fm_i Fs1008 (by decide)
        have ws1008_6 : iI s1008 6 = iI t 6 := fm_i Fs1008 (by decide)
        show WS k 89 [(0, .ref (A 3)), (1, .ref (A 1)), (2, .int (Int32.ofInt go)), (3, .int (Int32.ofInt plc)), (4, .int (Int32.ofInt tms)), (5, .int (Int32.ofInt c))] [.int (Int32.ofInt e1009)] (Wd A dT s1008) 0 0
        refine z_store X (lv' := [(6, .int (Int32.ofInt e1009)), (0, .ref (A 3)), (1, .ref (A 1)), (2, .int (Int32.ofInt go)), (3, .int (Int32.ofInt plc)), (4, .int (Int32.ofInt tms)), (5, .int (Int32.ofInt c))]) (show cdA 104 89 = some (.istore 6, 2, 0, 0, 0) from rfl) (by decide) (fun _ h => h) ?_
        refine z_load X (x := e1009) (show cdA 104 91 = some (.iload 6, 2, 0, 0, 0) from rfl) (List.Mem.head _) ?_
        refine z_if_eq X (t := 104) (show cdA 104 93 = some (.ifCond .eq 11, 3, 0, 0, 0) from rfl) (by decide) hrs1008 (fun g1011 => ?_) (fun g1011 => ?_)
        ·
          refine z_inc X (x := c) (lv' := [(5, .int (Int32.ofInt (c + 1))), (6, .int (Int32.ofInt e1009)), (0, .ref (A 3)), (1, .ref (A 1)), (2, .int (Int32.ofInt go)), (3, .int (Int32.ofInt plc)), (4, .int (Int32.ofInt tms))]) (show cdA 104 104 = some (.iinc 5 1, 3, 0, 0, 0) from rfl) (by decide) (List.Mem.tail _ (List.Mem.tail _ (List.Mem.tail _ (List.Mem.tail _ (List.Mem.tail _ (List.Mem.tail _ (List.Mem.head _))))))) (fun _ h => h) ?_
          refine z_goto X (t := 77) (show cdA 104 107 = some (.goto (-30), 3, 0, 0, 0) from rfl) (by decide) ?_
          refine WS_lv (lv := [(0, .ref (A 3)), (1, .ref (A 1)), (2, .int (Int32.ofInt go)), (3, .int (Int32.ofInt plc)), (4, .int (Int32.ofInt tms)), (5, .int (Int32.ofInt (c + 1)))]) (List.forall_mem_cons.mpr ⟨(List.Mem.tail _ (List.Mem.tail _ (List.Mem.head _))), (List.forall_mem_cons.mpr ⟨(List.Mem.tail _ (List.Mem.tail _ (List.Mem.tail _ (List.Mem.head _)))), (List.forall_mem_cons.mpr ⟨(List.Mem.tail _ (List.Mem.tail _ (List.Mem.tail _ (List.Mem.tail _ (List.Mem.head _))))), (List.forall_mem_cons.mpr ⟨(List.Mem.tail _ (List.Mem.tail _ (List.Mem.tail _ (List.Mem.tail _ (List.Mem.tail _ (List.Mem.head _)))))), (List.forall_mem_cons.mpr ⟨(List.Mem.tail _ (List.Mem.tail _ (List.Mem.tail _ (List.Mem.tail _ (List.Mem.tail _ (List.Mem.tail _ (List.Mem.head _))))))), (List.forall_mem_cons.mpr ⟨(List.Mem.head _), (fun q h => absurd h List.not_mem_nil)⟩)⟩)⟩)⟩)⟩)⟩) ?_
          exact ih _ go plc tms (c + 1) Is1008 Gs1008 JBYB_s1008 (mvq_up hq m1 m3 (by omega) hps1008.2.2 (by omega) (by omega) (by omega) (by omega) (by omega) (by omega)) (by first | exact ⟨And.intro (hi.1.1) (hi.1.2), And.intro (hi.2.1.1) (hi.2.1.2), And.intro (hi.2.2.1.1) (hi.2.2.1.2), oq_54f49eb5 hi.2.2.2.1, oq_cff692f0 g1007 hi.2.2.1.2, oq_e7b9ecab ws1008_1 ws1008_2 hi.2.2.2.2.2.1, oq_e7b9ecab ws1008_2 ws1008_4 hi.2.2.2.2.2.2⟩ | omega) (by first | exact qk_me hm (by decide) (oq_20b7067c g1007 hi.2.2.1.2) | omega) kx
        ·
          refine z_aload_n X (x := A 1) (show cdA 104 96 = some (.aload_n 1, 1, 0, 0, 0) from rfl) (List.Mem.tail _ (List.Mem.tail _ (List.Mem.head _))) ?_
          refine z_load X (x := e1009) (show cdA 104 97 = some (.iload 6, 2, 0, 0, 0) from rfl) (List.Mem.head _) ?_
          refine z_load_n X (x := plc) (show cdA 104 99 = some (.iload_n 3, 1, 0, 0, 0) from rfl) (List.Mem.tail _ (List.Mem.tail _ (List.Mem.tail _ (List.Mem.tail _ (List.Mem.head _))))) ?_
          refine z_callV X 1 (rm := rmN 133) (As := [.int (Int32.ofInt e1009), .int (Int32.ofInt plc)]) (st := []) (show cdA 104 100 = some (.invokevirtual 91, 3, 133, 0, 0) from rfl) rfl (by decide) rfl (by rw [E.1, E.2.1, E.2.2.1]; exact c10_refuseAt_1 G Is1008 (by first | exact ⟨oq_e4db2d1b g1011 hps1008.1, hps1008.2.1⟩ | omega) (by first | exact ⟨hi.2.1.1, hi.2.1.2⟩ | omega)) ⟨by rw [E.2.2.2]; exact (show (rmN 133).frames + 1 ≤ (rmN 104).frames by decide), by rw [E.2.2.2]; exact (show 8 + (mNL (miB 133) + 11) + (rmN 133).locals ≤ (rmN 104).locals by decide), by rw [E.2.2.2]; exact (show 0 + (rmN 133).cells ≤ (rmN 104).cells by decide), by rw [E.2.2.2]; exact (show 0 + (rmN 133).slots ≤ (rmN 104).slots by decide)⟩ (Nat.le_of_ble_eq_true rfl) (fun vv s1012 hq => ?_) (fun ee s1012 hq => ?_)
          rotate_left
          · obtain ⟨Is1012, Fs1012, e1013, hv, hrs1012, hps1012⟩ := hq; cases hv
          obtain ⟨Is1012, Fs1012, e1013, hv, hrs1012, hps1012⟩ := hq
          cases hv
          have Gs1012 := fm_ts Gs1008 Fs1012 (by decide) (by decide)
          have JBYB_s1012 : BYB B N s1012 := BYB_fm Fs1012 (by decide) JBYB_s1008
          have ws1012_11 : iI s1012 11 = iI s1008 11 := fm_i Fs1012 (by decide)
          have ws1012_2 : iI s1012 2 = iI s1008 2 := fm_i Fs1012 (by decide)
          have ws1012_1 : iI s1012 1 = iI s1008 1 := fm_i Fs1012 (by decide)
          have ws1012_4 : iI s1012 4 = iI s1008 4 := fm_i Fs1012 (by decide)
          have ws1012_5 : iI s1012 5 = iI s1008 5 := fm_i Fs1012 (by decide)
          have ws1012_6 : iI s1012 6 = iI s1008 6 := fm_i Fs1012 (by decide)
          show WS k 103 [(6, .int (Int32.ofInt e1009)), (0, .ref (A 3)), (1, .ref (A 1)), (2, .int (Int32.ofInt go)), (3, .int (Int32.ofInt plc)), (4, .int (Int32.ofInt tms)), (5, .int (Int32.ofInt c))] [.int (Int32.ofInt e1013)] (Wd A dT s1012) 0 0
          exact w_iret X.1 q hRt (nar_ret (by first | exact Or.inl (hps1012) | omega)) (ax_d X (show cdA 104 103 = some (.ireturn, 1, 0, 0, 0) from rfl)) (Nat.zero_le _) (Nat.zero_le _) ⟨_, rfl, Is1012, Gs1012, JBYB_s1012, e1013, rfl, hrs1012, ⟨by first | exact Or.inl (hps1012) | omega, by first | exact oq_4407eb3c ws1012_1 ws1012_2 ws1008_1 ws1008_2 hi.2.2.2.2.2.1 | omega, by first | exact oq_4407eb3c ws1012_2 ws1012_4 ws1008_2 ws1008_4 hi.2.2.2.2.2.2 | omega, Or.inr ⟨by first | exact hps1012 | omega, mvq_none hq m1 (by omega) hps1008.2.2 (by omega)⟩⟩⟩
  refine z_aload_n X (x := A 1) (show cdA 104 0 = some (.aload_n 1, 1, 0, 0, 0) from rfl) (List.Mem.tail _ (List.Mem.head _)) ?_
  refine z_getI X 1 (show cdA 104 1 = some (.getfield 62, 3, 10, 6, 0) from rfl) (by decide) rfl rfl ?_
  have b7 : ((-3) : Int) ≤ iI s 5 ∧ iI s 5 ≤ 255 := I.1 5
  refine z_callS X (rm := rmN 101) (As := [.int (Int32.ofInt (iI s 5))]) (st := []) (show cdA 104 4 = some (.invokestatic 81, 3, 101, 1, 0) from rfl) rfl (by rw [E.1, E.2.1, E.2.2.1]; exact c9_goOf2 G I (by first | exact ⟨b7.1, b7.2⟩ | omega)) ⟨by rw [E.2.2.2]; exact (show (rmN 101).frames + 1 ≤ (rmN 104).frames by decide), by rw [E.2.2.2]; exact (show 8 + (mNL (miB 101) + 11) + (rmN 101).locals ≤ (rmN 104).locals by decide), by rw [E.2.2.2]; exact (show 0 + (rmN 101).cells ≤ (rmN 104).cells by decide), by rw [E.2.2.2]; exact (show 0 + (rmN 101).slots ≤ (rmN 104).slots by decide)⟩ (Nat.le_of_ble_eq_true rfl) (fun vv s8 hq => ?_) (fun ee s8 hq => ?_)
  rotate_left
  · obtain ⟨rfl, e9, hv, hrs8, hps8⟩ := hq; cases hv
  obtain ⟨rfl, e9, hv, hrs8, hps8⟩ := hq
  cases hv
  show WS k 7 [(0, .ref (A 3)), (1, .ref (A 1))] [.int (Int32.ofInt e9)] (Wd A dT s) 0 0
  refine z_store_n X (lv' := [(2, .int (Int32.ofInt e9)), (0, .ref (A 3)), (1, .ref (A 1))]) (show cdA 104 7 = some (.istore_n 2, 1, 0, 0, 0) from rfl) (by decide) (fun _ h => h) ?_
  refine z_aload_n X (x := A 1) (show cdA 104 8 = some (.aload_n 1, 1, 0, 0, 0) from rfl) (List.Mem.tail _ (List.Mem.tail _ (List.Mem.head _))) ?_
  refine z_getI X 1 (show cdA 104 9 = some (.getfield 85, 3, 10, 5, 0) from rfl) (by decide) rfl rfl ?_
  have b10 : (0 : Int) ≤ iI s 4 ∧ iI s 4 ≤ 200 := I.1 4
  refine z_store_n X (lv' := [(3, .int (Int32.ofInt (iI s 4))), (2, .int (Int32.ofInt e9)), (0, .ref (A 3)), (1, .ref (A 1))]) (show cdA 104 12 = some (.istore_n 3, 1, 0, 0, 0) from rfl) (by decide) (fun _ h => h) ?_
  refine z_load_n X (x := e9) (show cdA 104 13 = some (.iload_n 2, 1, 0, 0, 0) from rfl) (List.Mem.tail _ (List.Mem.head _)) ?_
  refine z_const X (show cdA 104 14 = some (.iconst (-1), 1, 0, 0, 0) from rfl) ?_
  refine z_icmp_ne X (t := 24) (show cdA 104 15 = some (.if_icmp .ne 9, 3, 1, 0, 0) from rfl) (by decide) hrs8 (by decide) (fun g11 => ?_) (fun g11 => ?_)
  ·
    have hAt : iI s 2 = iI s 4 + 1 := tkn_at hT p2 (by omega)
    refine z_aload_n X (x := A 1) (show cdA 104 24 = some (.aload_n 1, 1, 0, 0, 0) from rfl) (List.Mem.tail _ (List.Mem.tail _ (List.Mem.tail _ (List.Mem.head _)))) ?_
    refine z_callV X 1 (rm := rmN 129) (As := []) (st := []) (show cdA 104 25 = some (.invokevirtual 74, 3, 129, 0, 0) from rfl) rfl (by decide) rfl (by rw [E.1, E.2.1, E.2.2.1]; exact c10_step2 G I jBYB (by first | exact p0 | omega)) ⟨by rw [E.2.2.2]; exact (show (rmN 129).frames + 1 ≤ (rmN 104).frames by decide), by rw [E.2.2.2]; exact (show 8 + (mNL (miB 129) + 11) + (rmN 129).locals ≤ (rmN 104).locals by decide), by rw [E.2.2.2]; exact (show 0 + (rmN 129).cells ≤ (rmN 104).cells by decide), by rw [E.2.2.2]; exact (show 0 + (rmN 129).slots ≤ (rmN 104).slots by decide)⟩ (Nat.le_of_ble_eq_true rfl) (fun vv s12 hq => ?_) (fun ee s12 hq => ?_)
    rotate_left
    · obtain ⟨Is12, Fs12, JBYB_s12, hv, hps12⟩ := hq; cases hv
    obtain ⟨Is12, Fs12, JBYB_s12, hv, hps12⟩ := hq
    cases hv
    have Gs12 := fm_ts F Fs12 (by decide) (by decide)
    have JBYB_s12 : BYB B N s12 := BYB_fm Fs12 (by decide) jBYB
    have ws12_11 : iI s12 11 = iI s 11 := fm_i Fs12 (by decide)
    have b14 : (0 : Int) ≤ iI s12 2 ∧ iI s12 2 ≤ 200 := Is12.1 2
    have ws12_1 : iI s12 1 = iI s 1 := fm_i Fs12 (by decide)
    have b15 : (0 : Int) ≤ iI s12 4 ∧ iI s12 4 ≤ 200 := Is12.1 4
    have b16 : ((-3) : Int) ≤ iI s12 5 ∧ iI s12 5 ≤ 255 := Is12.1 5
    have b17 : (0 : Int) ≤ iI s12 6 ∧ iI s12 6 ≤ 100000 := Is12.1 6
    have aws12_15 : SAM 15 s s12 := sam_ts aw0_15 (sam_fm Fs12 (by decide))
    show WS k 28 [(3, .int (Int32.ofInt (iI s 4))), (2, .int (Int32.ofInt e9)), (0, .ref (A 3)), (1, .ref (A 1))] [] (Wd A dT s12) 0 0
    have hr1 : iI s12 4 = sk B N (iI s 4 + 1) := by rw [hps12.2.2.1, hAt]
    have hl1 := sk_le (B := B) (N := N) (p := iI s 4 + 1)
    refine z_const X (show cdA 104 28 = some (.iconst 1, 1, 0, 0, 0) from rfl) ?_
    refine z_store X (lv' := [(4, .int (Int32.ofInt 1)), (3, .int (Int32.ofInt (iI s 4))), (2, .int (Int32.ofInt e9)), (0, .ref (A 3)), (1, .ref (A 1))]) (show cdA 104 29 = some (.istore 4, 2, 0, 0, 0) from rfl) (by decide) (fun _ h => h) ?_
    refine z_load_n X (x := e9) (show cdA 104 31 = some (.iload_n 2, 1, 0, 0, 0) from rfl) (List.Mem.tail _ (List.Mem.tail _ (List.Mem.head _))) ?_
    refine z_const X (show cdA 104 32 = some (.iconst 4, 1, 0, 0, 0) from rfl) ?_
    refine z_icmp_ge X (t := 74) (show cdA 104 33 = some (.if_icmp .ge 41, 3, 3, 0, 0) from rfl) (by decide) hrs8 (by decide) (fun g18 => ?_) (fun g18 => ?_)
    ·
      refine z_const X (show cdA 104 74 = some (.iconst 0, 1, 0, 0, 0) from rfl) ?_
      refine z_store X (lv' := [(5, .int (Int32.ofInt 0)), (4, .int (Int32.ofInt 1)), (3, .int (Int32.ofInt (iI s 4))), (2, .int (Int32.ofInt e9)), (0, .ref (A 3)), (1, .ref (A 1))]) (show cdA 104 75 = some (.istore 5, 2, 0, 0, 0) from rfl) (by decide) (fun _ h => h) ?_
      refine WS_lv (lv := [(0, .ref (A 3)), (1, .ref (A 1)), (2, .int (Int32.ofInt e9)), (3, .int (Int32.ofInt (iI s 4))), (4, .int (Int32.ofInt 1)), (5, .int (Int32.ofInt 0))]) (List.forall_mem_cons.mpr ⟨(List.Mem.tail _ (List.Mem.tail _ (List.Mem.tail _ (List.Mem.tail _ (List.Mem.head _))))), (List.forall_mem_cons.mpr ⟨(List.Mem.tail _ (List.Mem.tail _ (List.Mem.tail _ (List.Mem.tail _ (List.Mem.tail _ (List.Mem.head _)))))), (List.forall_mem_cons.mpr ⟨(List.Mem.tail _ (List.Mem.tail _ (List.Mem.tail _ (List.Mem.head _)))), (List.forall_mem_cons.mpr ⟨(List.Mem.tail _ (List.Mem.tail _ (List.Mem.head _))), (List.forall_mem_cons.mpr ⟨(List.Mem.tail _ (List.Mem.head _)), (List.forall_mem_cons.mpr ⟨(List.Mem.head _), (fun q h => absurd h List.not_mem_nil)⟩)⟩)⟩)⟩)⟩)⟩) ?_
      refine L77 ((7 - 0 : Int).toNat + 1) s12 e9 (iI s 4) 1 0 Is12 Gs12 JBYB_s12 (mvq_0 (ag_sam hA aws12_15 (by omega)) ha (by rw [show e9 = dirT (B (iI s 4).toNat) by omega]; exact (mv_one (r := iI s12 4) (by omega) hr1 (by first | exact Or.inl (by omega) | exact Or.inr (tkn_nn hps12.2.2.2 (by omega))))) (by omega) hps12.2.2.2) (by first | exact ⟨And.intro (oq_26933c77 g18) (hps8.2.2), And.intro (b10.1) (b10.2), And.intro (by decide) (by decide), by decide, by decide, hps12.1, hps12.2.1⟩ | omega) (Nat.lt_succ_self _) ?_
      intro s19 x20 Is19 Fs19 JBYB_s19 Qs19 hs19
      have b21 : (0 : Int) ≤ iI s19 11 ∧ iI s19 11 ≤ 24 := Is19.1 11
      have b22 : (0 : Int) ≤ iI s19 2 ∧ iI s19 2 ≤ 200 := Is19.1 2
      have b23 : (0 : Int) ≤ iI s19 1 ∧ iI s19 1 ≤ 200 := Is19.1 1
      have b24 : (0 : Int) ≤ iI s19 4 ∧ iI s19 4 ≤ 200 := Is19.1 4
      have b25 : ((-3) : Int) ≤ iI s19 5 ∧ iI s19 5 ≤ 255 := Is19.1 5
      have b26 : (0 : Int) ≤ iI s19 6 ∧ iI s19 6 ≤ 100000 := Is19.1 6
      refine z_const X (show cdA 104 110 = some (.iconst 1, 1, 0, 0, 0) from rfl) ?_
      exact w_iret X.1 q hRt (nar_ret (by first | exact Or.inr (by decide) | omega)) (ax_d X (show cdA 104 111 = some (.ireturn, 1, 0, 0, 0) from rfl)) (Nat.zero_le _) (Nat.zero_le _) ⟨_, rfl, Is19, Fs19, JBYB_s19, 1, rfl, (by decide), ⟨by first | exact Or.inr (by decide) | omega, by first | exact hs19.2.1 | omega, by first | exact hs19.2.2 | omega, Or.inl ⟨by decide, mvq_end Qs19 (by omega)⟩⟩⟩
    ·
      refine z_aload_n X (x := A 1) (show cdA 104 36 = some (.aload_n 1, 1, 0, 0, 0) from rfl) (List.Mem.tail _ (List.Mem.tail _ (List.Mem.tail _ (List.Mem.tail _ (List.Mem.head _))))) ?_
      refine z_getI X 1 (show cdA 104 37 = some (.getfield 62, 3, 10, 6, 0) from rfl) (by decide) rfl rfl ?_
      have b27 : ((-3) : Int) ≤ iI s12 5 ∧ iI s12 5 ≤ 255 := Is12.1 5
      refine z_bipush X (show cdA 104 40 = some (.bipush (-2), 2, 0, 0, (-2)) from rfl) ?_
      refine z_icmp_ne X (t := 74) (show cdA 104 42 = some (.if_icmp .ne 32, 3, 1, 0, 0) from rfl) (by decide) (rng_to _) (by decide) (fun g28 => ?_) (fun g28 => ?_)
      ·
        refine z_const X (show cdA 104 74 = some (.iconst 0, 1, 0, 0, 0) from rfl) ?_
        refine z_store X (lv' := [(5, .int (Int32.ofInt 0)), (4, .int (Int32.ofInt 1)), (3, .int (Int32.ofInt (iI s 4))), (2, .int (Int32.ofInt e9)), (0, .ref (A 3)), (1, .ref (A 1))]) (show cdA 104 75 = some (.istore 5, 2, 0, 0, 0) from rfl) (by decide) (fun _ h => h) ?_
        refine WS_lv (lv := [(0, .ref (A 3)), (1, .ref (A 1)), (2, .int (Int32.ofInt e9)), (3, .int (Int32.ofInt (iI s 4))), (4, .int (Int32.ofInt 1)), (5, .int (Int32.ofInt 0))]) (List.forall_mem_cons.mpr ⟨(List.Mem.tail _ (List.Mem.tail _ (List.Mem.tail _ (List.Mem.tail _ (List.Mem.head _))))), (List.forall_mem_cons.mpr ⟨(List.Mem.tail _ (List.Mem.tail _ (List.Mem.tail _ (List.Mem.tail _ (List.Mem.tail _ (List.Mem.head _)))))), (List.forall_mem_cons.mpr ⟨(List.Mem.tail _ (List.Mem.tail _ (List.Mem.tail _ (List.Mem.head _)))), (List.forall_mem_cons.mpr ⟨(List.Mem.tail _ (List.Mem.tail _ (List.Mem.head _))), (List.forall_mem_cons.mpr ⟨(List.Mem.tail _ (List.Mem.head _)), (List.forall_mem_cons.mpr ⟨(List.Mem.head _), (fun q h => absurd h List.not_mem_nil)⟩)⟩)⟩)⟩)⟩)⟩) ?_
        refine L77 ((7 - 0 : Int).toNat + 1) s12 e9 (iI s 4) 1 0 Is12 Gs12 JBYB_s12 (mvq_0 (ag_sam hA aws12_15 (by omega)) ha (by rw [show e9 = dirT (B (iI s 4).toNat) by omega]; exact (mv_one (r := iI s12 4) (by omega) hr1 (by first | exact Or.inl (by omega) | exact Or.inr (tkn_nn hps12.2.2.2 (by omega))))) (by omega) hps12.2.2.2) (by first | exact ⟨oq_752b3116 g18 g11 hps8.2.1, And.intro (b10.1) (b10.2), And.intro (by decide) (by decide), by decide, by decide, hps12.1, hps12.2.1⟩ | omega) (Nat.lt_succ_self _) ?_
        intro s29 x30 Is29 Fs29 JBYB_s29 Qs29 hs29
        have b31 : (0 : Int) ≤ iI s29 11 ∧ iI s29 11 ≤ 24 := Is29.1 11
        have b32 : (0 : Int) ≤ iI s29 2 ∧ iI s29 2 ≤ 200 := Is29.1 2
        have b33 : (0 : Int) ≤ iI s29 1 ∧ iI s29 1 ≤ 200 := Is29.1 1
        have b34 : (0 : Int) ≤ iI s29 4 ∧ iI s29 4 ≤ 200 := Is29.1 4
        have b35 : ((-3) : Int) ≤ iI s29 5 ∧ iI s29 5 ≤ 255 := Is29.1 5
        have b36 : (0 : Int) ≤ iI s29 6 ∧ iI s29 6 ≤ 100000 := Is29.1 6
        refine z_const X (show cdA 104 110 = some (.iconst 1, 1, 0, 0, 0) from rfl) ?_
        exact w_iret X.1 q hRt (nar_ret (by first | exact Or.inr (by decide) | omega)) (ax_d X (show cdA 104 111 = some (.ireturn, 1, 0, 0, 0) from rfl)) (Nat.zero_le _) (Nat.zero_le _) ⟨_, rfl, Is29, Fs29, JBYB_s29, 1, rfl, (by decide), ⟨by first | exact Or.inr (by decide) | omega, by first | exact hs29.2.1 | omega, by first | exact hs29.2.2 | omega, Or.inl ⟨by decide, mvq_end Qs29 (by omega)⟩⟩⟩
      ·
        have hz := tkn_is hps12.2.2.2 (by omega)
        refine z_aload_n X (x := A 1) (show cdA 104 45 = some (.aload_n 1, 1, 0, 0, 0) from rfl) (List.Mem.tail _ (List.Mem.tail _ (List.Mem.tail _ (List.Mem.tail _ (List.Mem.head _))))) ?_
        refine z_getI X 1 (show cdA 104 46 = some (.getfield 71, 3, 10, 7, 0) from rfl) (by decide) rfl rfl ?_
        have b37 : (0 : Int) ≤ iI s12 6 ∧ iI s12 6 ≤ 100000 := Is12.1 6
        refine z_store X (lv' := [(4, .int (Int32.ofInt (iI s12 6))), (3, .int (Int32.ofInt (iI s 4))), (2, .int (Int32.ofInt e9)), (0, .ref (A 3)), (1, .ref (A 1))]) (show cdA 104 49 = some (.istore 4, 2, 0, 0, 0) from rfl) (by decide) (fun _ h => h) ?_
        refine z_load X (x := (iI s12 6)) (show cdA 104 51 = some (.iload 4, 2, 0, 0, 0) from rfl) (List.Mem.head _) ?_
        refine z_const X (show cdA 104 53 = some (.iconst 1, 1, 0, 0, 0) from rfl) ?_
        refine z_icmp_lt X (t := 64) (show cdA 104 54 = some (.if_icmp .lt 10, 3, 2, 0, 0) from rfl) (by decide) (rng_to _) (by decide) (fun g38 => ?_) (fun g38 => ?_)
        ·
          refine z_aload_n X (x := A 1) (show cdA 104 64 = some (.aload_n 1, 1, 0, 0, 0) from rfl) (List.Mem.tail _ (List.Mem.tail _ (List.Mem.tail _ (List.Mem.tail _ (List.Mem.head _))))) ?_
          refine z_const X (show cdA 104 65 = some (.iconst 2, 1, 0, 0, 0) from rfl) ?_
          refine z_callV X 1 (rm := rmN 132) (As := [.int (Int32.ofInt 2)]) (st := []) (show cdA 104 66 = some (.invokevirtual 67, 3, 132, 0, 0) from rfl) rfl (by decide) rfl (by rw [E.1, E.2.1, E.2.2.1]; exact c10_refuse_1 G Is12 (by first | exact ⟨by decide, by decide⟩ | omega)) ⟨by rw [E.2.2.2]; exact (show (rmN 132).frames + 1 ≤ (rmN 104).frames by decide), by rw [E.2.2.2]; exact (show 8 + (mNL (miB 132) + 11) + (rmN 132).locals ≤ (rmN 104).locals by decide), by rw [E.2.2.2]; exact (show 0 + (rmN 132).cells ≤ (rmN 104).cells by decide), by rw [E.2.2.2]; exact (show 0 + (rmN 132).slots ≤ (rmN 104).slots by decide)⟩ (Nat.le_of_ble_eq_true rfl) (fun vv s39 hq => ?_) (fun ee s39 hq => ?_)
          rotate_left
          · obtain ⟨Is39, Fs39, e40, hv, hrs39, hps39⟩ := hq; cases hv
          obtain ⟨Is39, Fs39, e40, hv, hrs39, hps39⟩ := hq
          cases hv
          have Gs39 := fm_ts Gs12 Fs39 (by decide) (by decide)
          have JBYB_s39 : BYB B N s39 := BYB_fm Fs39 (by decide) JBYB_s12
          have ws39_11 : iI s39 11 = iI s12 11 := fm_i Fs39 (by decide)
          have ws39_2 : iI s39 2 = iI s12 2 := fm_i Fs39 (by decide)
          have ws39_1 : iI s39 1 = iI s12 1 := fm_i Fs39 (by decide)
          have ws39_4 : iI s39 4 = iI s12 4 := fm_i Fs39 (by decide)
          have ws39_5 : iI s39 5 = iI s12 5 := fm_i Fs39 (by decide)
          have ws39_6 : iI s39 6 = iI s12 6 := fm_i Fs39 (by decide)
          have aws39_15 : SAM 15 s s39 := sam_ts aws12_15 (sam_fm Fs39 (by decide))
          show WS k 69 [(4, .int (Int32.ofInt (iI s12 6))), (3, .int (Int32.ofInt (iI s 4))), (2, .int (Int32.ofInt e9)), (0, .ref (A 3)), (1, .ref (A 1))] [.int (Int32.ofInt e40)] (Wd A dT s39) 0 0
          exact w_iret X.1 q hRt (nar_ret (by first | exact Or.inl (hps39) | omega)) (ax_d X (show cdA 104 69 = some (.ireturn, 1, 0, 0, 0) from rfl)) (Nat.zero_le _) (Nat.zero_le _) ⟨_, rfl, Is39, Gs39, JBYB_s39, e40, rfl, hrs39, ⟨by first | exact Or.inl (hps39) | omega, by first | exact oq_e7b9ecab ws39_1 ws39_2 hps12.1 | omega, by first | exact oq_e7b9ecab ws39_2 ws39_4 hps12.2.1 | omega, Or.inr ⟨by first | exact hps39 | omega, mv_num (r := iI s12 4) (by omega) hr1 (by omega) (by omega) (by omega) (by omega) (by omega)⟩⟩⟩
        ·
          refine z_load X (x := (iI s12 6)) (show cdA 104 57 = some (.iload 4, 2, 0, 0, 0) from rfl) (List.Mem.head _) ?_
          refine z_bipush X (show cdA 104 59 = some (.bipush 7, 2, 0, 0, 7) from rfl) ?_
          refine z_icmp_le X (t := 70) (show cdA 104 61 = some (.if_icmp .le 9, 3, 5, 0, 0) from rfl) (by decide) (rng_to _) (by decide) (fun g41 => ?_) (fun g41 => ?_)
          ·
            refine z_aload_n X (x := A 1) (show cdA 104 70 = some (.aload_n 1, 1, 0, 0, 0) from rfl) (List.Mem.tail _ (List.Mem.tail _ (List.Mem.tail _ (List.Mem.tail _ (List.Mem.head _))))) ?_
            refine z_callV X 1 (rm := rmN 129) (As := []) (st := []) (show cdA 104 71 = some (.invokevirtual 74, 3, 129, 0, 0) from rfl) rfl (by decide) rfl (by rw [E.1, E.2.1, E.2.2.1]; exact c10_step2 G Is12 JBYB_s12 (by first | exact hps12.1 | omega)) ⟨by rw [E.2.2.2]; exact (show (rmN 129).frames + 1 ≤ (rmN 104).frames by decide), by rw [E.2.2.2]; exact (show 8 + (mNL (miB 129) + 11) + (rmN 129).locals ≤ (rmN 104).locals by decide), by rw [E.2.2.2]; exact (show 0 + (rmN 129).cells ≤ (rmN 104).cells by decide), by rw [E.2.2.2]; exact (show 0 + (rmN 129).slots ≤ (rmN 104).slots by decide)⟩ (Nat.le_of_ble_eq_true rfl) (fun vv s42 hq => ?_) (fun ee s42 hq => ?_)
            rotate_left
            · obtain ⟨Is42, Fs42, JBYB_s42, hv, hps42⟩ := hq; cases hv
            obtain ⟨Is42, Fs42, JBYB_s42, hv, hps42⟩ := hq
            cases hv
            have Gs42 := fm_ts Gs12 Fs42 (by decide) (by decide)
            have JBYB_s42 : BYB B N s42 := BYB_fm Fs42 (by decide) JBYB_s12
            have ws42_11 : iI s42 11 = iI s12 11 := fm_i Fs42 (by decide)
            have b44 : (0 : Int) ≤ iI s42 2 ∧ iI s42 2 ≤ 200 := Is42.1 2
            have ws42_1 : iI s42 1 = iI s12 1 := fm_i Fs42 (by decide)
            have b45 : (0 : Int) ≤ iI s42 4 ∧ iI s42 4 ≤ 200 := Is42.1 4
            have b46 : ((-3) : Int) ≤ iI s42 5 ∧ iI s42 5 ≤ 255 := Is42.1 5
            have b47 : (0 : Int) ≤ iI s42 6 ∧ iI s42 6 ≤ 100000 := Is42.1 6
            have aws42_15 : SAM 15 s s42 := sam_ts aws12_15 (sam_fm Fs42 (by decide))
            show WS k 74 [(4, .int (Int32.ofInt (iI s12 6))), (3, .int (Int32.ofInt (iI s 4))), (2, .int (Int32.ofInt e9)), (0, .ref (A 3)), (1, .ref (A 1))] [] (Wd A dT s42) 0 0
            refine z_const X (show cdA 104 74 = some (.iconst 0, 1, 0, 0, 0) from rfl) ?_
            refine z_store X (lv' := [(5, .int (Int32.ofInt 0)), (4, .int (Int32.ofInt (iI s12 6))), (3, .int (Int32.ofInt (iI s 4))), (2, .int (Int32.ofInt e9)), (0, .ref (A 3)), (1, .ref (A 1))]) (show cdA 104 75 = some (.istore 5, 2, 0, 0, 0) from rfl) (by decide) (fun _ h => h) ?_
            refine WS_lv (lv := [(0, .ref (A 3)), (1, .ref (A 1)), (2, .int (Int32.ofInt e9)), (3, .int (Int32.ofInt (iI s 4))), (4, .int (Int32.ofInt (iI s12 6))), (5, .int (Int32.ofInt 0))]) (List.forall_mem_cons.mpr ⟨(List.Mem.tail _ (List.Mem.tail _ (List.Mem.tail _ (List.Mem.tail _ (List.Mem.head _))))), (List.forall_mem_cons.mpr ⟨(List.Mem.tail _ (List.Mem.tail _ (List.Mem.tail _ (List.Mem.tail _ (List.Mem.tail _ (List.Mem.head _)))))), (List.forall_mem_cons.mpr ⟨(List.Mem.tail _ (List.Mem.tail _ (List.Mem.tail _ (List.Mem.head _)))), (List.forall_mem_cons.mpr ⟨(List.Mem.tail _ (List.Mem.tail _ (List.Mem.head _))), (List.forall_mem_cons.mpr ⟨(List.Mem.tail _ (List.Mem.head _)), (List.forall_mem_cons.mpr ⟨(List.Mem.head _), (fun q h => absurd h List.not_mem_nil)⟩)⟩)⟩)⟩)⟩)⟩) ?_
            refine L77 ((7 - 0 : Int).toNat + 1) s42 e9 (iI s 4) (iI s12 6) 0 Is42 Gs42 JBYB_s42 (mvq_0 (ag_sam hA aws42_15 (by omega)) ha (by rw [show e9 = dirT (B (iI s 4).toNat) by omega, show (iI s12 6) = nmV B N (iI s12 4) 0 by omega, hps42.2.2.1, show iI s12 2 = nmE B N (iI s12 4) 0 by omega]; exact mv_many (r := iI s12 4) (by omega) hr1 (by omega) (by omega) (by omega) (by omega) (by omega) (by omega)) (by have hl2 := sk_le (B := B) (N := N) (p := iI s12 2); have hl3 := nmE_le (B := B) (N := N) (p := iI s12 4) (v := 0); omega) hps42.2.2.2) (by first | exact ⟨oq_752b3116 g18 g11 hps8.2.1, And.intro (b10.1) (b10.2), And.intro (g38) (g41), by decide, by decide, hps42.1, hps42.2.1⟩ | omega) (Nat.lt_succ_self _) ?_
            intro s48 x49 Is48 Fs48 JBYB_s48 Qs48 hs48
            have b50 : (0 : Int) ≤ iI s48 11 ∧ iI s48 11 ≤ 24 := Is48.1 11
            have b51 : (0 : Int) ≤ iI s48 2 ∧ iI s48 2 ≤ 200 := Is48.1 2
            have b52 : (0 : Int) ≤ iI s48 1 ∧ iI s48 1 ≤ 200 := Is48.1 1
            have b53 : (0 : Int) ≤ iI s48 4 ∧ iI s48 4 ≤ 200 := Is48.1 4
            have b54 : ((-3) : Int) ≤ iI s48 5 ∧ iI s48 5 ≤ 255 := Is48.1 5
            have b55 : (0 : Int) ≤ iI s48 6 ∧ iI s48 6 ≤ 100000 := Is48.1 6
            refine z_const X (show cdA 104 110 = some (.iconst 1, 1, 0, 0, 0) from rfl) ?_
            exact w_iret X.1 q hRt (nar_ret (by first | exact Or.inr (by decide) | omega)) (ax_d X (show cdA 104 111 = some (.ireturn, 1, 0, 0, 0) from rfl)) (Nat.zero_le _) (Nat.zero_le _) ⟨_, rfl, Is48, Fs48, JBYB_s48, 1, rfl, (by decide), ⟨by first | exact Or.inr (by decide) | omega, by first | exact hs48.2.1 | omega, by first | exact hs48.2.2 | omega, Or.inl ⟨by decide, mvq_end Qs48 (by omega)⟩⟩⟩
          ·
            refine z_aload_n X (x := A 1) (show cdA 104 64 = some (.aload_n 1, 1, 0, 0, 0) from rfl) (List.Mem.tail _ (List.Mem.tail _ (List.Mem.tail _ (List.Mem.tail _ (List.Mem.head _))))) ?_
            refine z_const X (show cdA 104 65 = some (.iconst 2, 1, 0, 0, 0) from rfl) ?_
            refine z_callV X 1 (rm := rmN 132) (As := [.int (Int32.ofInt 2)]) (st := []) (show cdA 104 66 = some (.invokevirtual 67, 3, 132, 0, 0) from rfl) rfl (by decide) rfl (by rw [E.1, E.2.1, E.2.2.1]; exact c10_refuse_1 G Is12 (by first | exact ⟨by decide, by decide⟩ | omega)) ⟨by rw [E.2.2.2]; exact (show (rmN 132).frames + 1 ≤ (rmN 104).frames by decide), by rw [E.2.2.2]; exact (show 8 + (mNL (miB 132) + 11) + (rmN 132).locals ≤ (rmN 104).locals by decide), by rw [E.2.2.2]; exact (show 0 + (rmN 132).cells ≤ (rmN 104).cells by decide), by rw [E.2.2.2]; exact (show 0 + (rmN 132).slots ≤ (rmN 104).slots by decide)⟩ (Nat.le_of_ble_eq_true rfl) (fun vv s56 hq => ?_) (fun ee s56 hq => ?_)
            rotate_left
            · obtain ⟨Is56, Fs56, e57, hv, hrs56, hps56⟩ := hq; cases hv
            obtain ⟨Is56, Fs56, e57, hv, hrs56, hps56⟩ := hq
            cases hv
            have Gs56 := fm_ts Gs12 Fs56 (by decide) (by decide)
            have JBYB_s56 : BYB B N s56 := BYB_fm Fs56 (by decide) JBYB_s12
            have ws56_11 : iI s56 11 = iI s12 11 := fm_i Fs56 (by decide)
            have ws56_2 : iI s56 2 = iI s12 2 := fm_i Fs56 (by decide)
            have ws56_1 : iI s56 1 = iI s12 1 := fm_i Fs56 (by decide)
            have ws56_4 : iI s56 4 = iI s12 4 := fm_i Fs56 (by decide)
            have ws56_5 : iI s56 5 = iI s12 5 := fm_i Fs56 (by decide)
            have ws56_6 : iI s56 6 = iI s12 6 := fm_i Fs56 (by decide)
            have aws56_15 : SAM 15 s s56 := sam_ts aws12_15 (sam_fm Fs56 (by decide))
            show WS k 69 [(4, .int (Int32.ofInt (iI s12 6))), (3, .int (Int32.ofInt (iI s 4))), (2, .int (Int32.ofInt e9)), (0, .ref (A 3)), (1, .ref (A 1))] [.int (Int32.ofInt e57)] (Wd A dT s56) 0 0
            exact w_iret X.1 q hRt (nar_ret (by first | exact Or.inl (hps56) | omega)) (ax_d X (show cdA 104 69 = some (.ireturn, 1, 0, 0, 0) from rfl)) (Nat.zero_le _) (Nat.zero_le _) ⟨_, rfl, Is56, Gs56, JBYB_s56, e57, rfl, hrs56, ⟨by first | exact Or.inl (hps56) | omega, by first | exact oq_e7b9ecab ws56_1 ws56_2 hps12.1 | omega, by first | exact oq_e7b9ecab ws56_2 ws56_4 hps12.2.1 | omega, Or.inr ⟨by first | exact hps56 | omega, mv_num (r := iI s12 4) (by omega) hr1 (by omega) (by omega) (by omega) (by omega) (by omega)⟩⟩⟩
  ·
    refine z_aload_n X (x := A 1) (show cdA 104 18 = some (.aload_n 1, 1, 0, 0, 0) from rfl) (List.Mem.tail _ (List.Mem.tail _ (List.Mem.tail _ (List.Mem.head _)))) ?_
    refine z_const X (show cdA 104 19 = some (.iconst 1, 1, 0, 0, 0) from rfl) ?_
    refine z_callV X 1 (rm := rmN 132) (As := [.int (Int32.ofInt 1)]) (st := []) (show cdA 104 20 = some (.invokevirtual 67, 3, 132, 0, 0) from rfl) rfl (by decide) rfl (by rw [E.1, E.2.1, E.2.2.1]; exact c10_refuse_1 G I (by first | exact ⟨by decide, by decide⟩ | omega)) ⟨by rw [E.2.2.2]; exact (show (rmN 132).frames + 1 ≤ (rmN 104).frames by decide), by rw [E.2.2.2]; exact (show 8 + (mNL (miB 132) + 11) + (rmN 132).locals ≤ (rmN 104).locals by decide), by rw [E.2.2.2]; exact (show 0 + (rmN 132).cells ≤ (rmN 104).cells by decide), by rw [E.2.2.2]; exact (show 0 + (rmN 132).slots ≤ (rmN 104).slots by decide)⟩ (Nat.le_of_ble_eq_true rfl) (fun vv s58 hq => ?_) (fun ee s58 hq => ?_)
    rotate_left
    · obtain ⟨Is58, Fs58, e59, hv, hrs58, hps58⟩ := hq; cases hv
    obtain ⟨Is58, Fs58, e59, hv, hrs58, hps58⟩ := hq
    cases hv
    have Gs58 := fm_ts F Fs58 (by decide) (by decide)
    have JBYB_s58 : BYB B N s58 := BYB_fm Fs58 (by decide) jBYB
    have ws58_11 : iI s58 11 = iI s 11 := fm_i Fs58 (by decide)
    have ws58_2 : iI s58 2 = iI s 2 := fm_i Fs58 (by decide)
    have ws58_1 : iI s58 1 = iI s 1 := fm_i Fs58 (by decide)
    have ws58_4 : iI s58 4 = iI s 4 := fm_i Fs58 (by decide)
    have ws58_5 : iI s58 5 = iI s 5 := fm_i Fs58 (by decide)
    have ws58_6 : iI s58 6 = iI s 6 := fm_i Fs58 (by decide)
    have aws58_15 : SAM 15 s s58 := sam_ts aw0_15 (sam_fm Fs58 (by decide))
    show WS k 23 [(3, .int (Int32.ofInt (iI s 4))), (2, .int (Int32.ofInt e9)), (0, .ref (A 3)), (1, .ref (A 1))] [.int (Int32.ofInt e59)] (Wd A dT s58) 0 0
    exact w_iret X.1 q hRt (nar_ret (by first | exact Or.inl (hps58) | omega)) (ax_d X (show cdA 104 23 = some (.ireturn, 1, 0, 0, 0) from rfl)) (Nat.zero_le _) (Nat.zero_le _) ⟨_, rfl, Is58, Gs58, JBYB_s58, e59, rfl, hrs58, ⟨by first | exact Or.inl (hps58) | omega, by first | exact oq_e7b9ecab ws58_1 ws58_2 p0 | omega, by first | exact oq_e7b9ecab ws58_2 ws58_4 p1 | omega, Or.inr ⟨by first | exact hps58 | omega, mv_dir (by omega)⟩⟩⟩
set_option maxRecDepth 4000 in
theorem c9_readWay2 (G : GX l s0 D tys a0 dT) {B : Nat → Int} {N : Int} (hT : TKN B N (iI s 5) (iI s 4) (iI s 2) (iI s 6)) (hQ : iI s 4 = sk B N 0) (I : Bd s) (jBYB : BYB B N s) (p0 : iI s 2 ≤ iI s 1) (p1 : iI s 4 ≤ iI s 2) (p2 : N ≤ 100) : CT l s0 D A dT 103 (rmN 103) [.ref (A 3), .ref (A 1)] s (fun o t => Bd t ∧ Fm [11, 2, 4, 6, 5, 7, 8] [15] s t ∧ BYB B N t ∧ ∃ e, o = .inl (some (.int (Int32.ofInt e))) ∧ rng e ∧ ((e = 0 ∨ e = 1) ∧ iI t 2 ≤ iI t 1 ∧ iI t 4 ≤ iI t 2 ∧ ((e = 1 ∧ PAR B N t) ∨ (e = 0 ∧ parseT B N = none)))) := by
  refine ct_ofX G (by decide) (Nat.le_of_ble_eq_true rfl) (fun k X E ET hRt hXt q => ?_)
  show WS k 0 [(0, .ref (A 3)), (1, .ref (A 1))] [] _ 0 0
  have F : Fm [11, 2, 4, 6, 5, 7, 8] [15] s s := fm_rf _ _ s
  have aw0_15 : SAM 15 s s := sam_rf
  have hN := jBYB.2.1
  have b1 : (0 : Int) ≤ iI s 11 ∧ iI s 11 ≤ 24 := I.1 11
  have b2 : (0 : Int) ≤ iI s 2 ∧ iI s 2 ≤ 200 := I.1 2
  have b3 : (0 : Int) ≤ iI s 1 ∧ iI s 1 ≤ 200 := I.1 1
  have b4 : (0 : Int) ≤ iI s 4 ∧ iI s 4 ≤ 200 := I.1 4
  have b5 : ((-3) : Int) ≤ iI s 5 ∧ iI s 5 ≤ 255 := I.1 5
  have b6 : (0 : Int) ≤ iI s 6 ∧ iI s 6 ≤ 100000 := I.1 6
  have L57 : ∀ (n : Nat) (t : PS) (c : Int), Bd t → Fm [11, 2, 4, 6, 5, 7, 8] [15] s t → BYB B N t → (WAQ B N t) → (0 ≤ c ∧ c ≤ 100 ∧ c + 1 ≤ iI t 4 ∧ iI t 2 ≤ iI t 1 ∧ iI t 4 ≤ iI t 2) → (100 - c : Int).toNat < n → (∀ (t' : PS) (c' : Int), Bd t' → Fm [11, 2, 4, 6, 5, 7, 8] [15] s t' → BYB B N t' → (WAQ B N t') → (N ≤ iI t' 4 ∧ iI t' 2 ≤ iI t' 1 ∧ iI t' 4 ≤ iI t' 2) → WS k 87 [(0, .ref (A 3)), (1, .ref (A 1)), (2, .int (Int32.ofInt c'))] [] (Wd A dT t') 0 0) → WS k 57 [(0, .ref (A 3)), (1, .ref (A 1)), (2, .int (Int32.ofInt c))] [] (Wd A dT t) 0 0 := by
    intro n
    induction n with
    | zero =>
      intro t c I F jjBYB hq hi hm kx
      exact absurd hm (Nat.not_lt_zero _)
    | succ n ih =>
      intro t c I F jjBYB hq hi hm kx
      have b1001 : (0 : Int) ≤ iI t 11 ∧ iI t 11 ≤ 24 := I.1 11
      have b1002 : (0 : Int) ≤ iI t 2 ∧ iI t 2 ≤ 200 := I.1 2
      have b1003 : (0 : Int) ≤ iI t 1 ∧ iI t 1 ≤ 200 := I.1 1
      have b1004 : (0 : Int) ≤ iI t 4 ∧ iI t 4 ≤ 200 := I.1 4
      have b1005 : ((-3) : Int) ≤ iI t 5 ∧ iI t 5 ≤ 255 := I.1 5
      have b1006 : (0 : Int) ≤ iI t 6 ∧ iI t 6 ≤ 100000 := I.1 6
      have hN := jjBYB.2.1
      refine z_load_n X (x := c) (show cdA 103 57 = some (.iload_n 2, 1, 0, 0, 0) from rfl) (List.Mem.tail _ (List.Mem.tail _ (List.Mem.head _))) ?_
      refine z_bipush X (show cdA 103 58 = some (.bipush 100, 2, 0, 0, 100) from rfl) ?_
      refine z_icmp_ge X (t := 87) (show cdA 103 60 = some (.if_icmp .ge 27, 3, 3, 0, 0) from rfl) (by decide) ⟨by first | exact oq_fa4e5087 hi.1 | omega, by first | exact oq_f0661bc9 hi.2.1 | omega⟩ (by decide) (fun g1007 => ?_) (fun g1007 => ?_)
      ·
        refine WS_lv (lv := [(0, .ref (A 3)), (1, .ref (A 1)), (2, .int (Int32.ofInt c))]) (List.forall_mem_cons.mpr ⟨(List.Mem.head _), (List.forall_mem_cons.mpr ⟨(List.Mem.tail _ (List.Mem.head _)), (List.forall_mem_cons.mpr ⟨(List.Mem.tail _ (List.Mem.tail _ (List.Mem.head _))), (fun q h => absurd h List.not_mem_nil)⟩)⟩)⟩) ?_
        have hz9 : N ≤ iI t 4 := by first | omega | (obtain ⟨a9, z1, z2, z3, z4⟩ := hq; exact tkn_end z4 (by omega))
        exact kx _ c I F jjBYB hq (by first | exact ⟨hz9, hi.2.2.2.1, hi.2.2.2.2⟩ | omega)
      ·
        refine z_aload_n X (x := A 1) (show cdA 103 63 = some (.aload_n 1, 1, 0, 0, 0) from rfl) (List.Mem.tail _ (List.Mem.head _)) ?_
        refine z_getI X 1 (show cdA 103 64 = some (.getfield 62, 3, 10, 6, 0) from rfl) (by decide) rfl rfl ?_
        have b1008 : ((-3) : Int) ≤ iI t 5 ∧ iI t 5 ≤ 255 := I.1 5
        refine z_const X (show cdA 103 67 = some (.iconst (-1), 1, 0, 0, 0) from rfl) ?_
        refine z_icmp_eq X (t := 87) (show cdA 103 68 = some (.if_icmp .eq 19, 3, 0, 0, 0) from rfl) (by decide) (rng_to _) (by decide) (fun g1009 => ?_) (fun g1009 => ?_)
        ·
          refine WS_lv (lv := [(0, .ref (A 3)), (1, .ref (A 1)), (2, .int (Int32.ofInt c))]) (List.forall_mem_cons.mpr ⟨(List.Mem.head _), (List.forall_mem_cons.mpr ⟨(List.Mem.tail _ (List.Mem.head _)), (List.forall_mem_cons.mpr ⟨(List.Mem.tail _ (List.Mem.tail _ (List.Mem.head _))), (fun q h => absurd h List.not_mem_nil)⟩)⟩)⟩) ?_
          have hz9 : N ≤ iI t 4 := by first | omega | (obtain ⟨a9, z1, z2, z3, z4⟩ := hq; exact tkn_end z4 (by omega))
          exact kx _ c I F jjBYB hq (by first | exact ⟨hz9, hi.2.2.2.1, hi.2.2.2.2⟩ | omega)
        ·
          obtain ⟨a1, w1, w2, w3, w4⟩ := hq
          have hS := tkn_ne w4 (by omega)
          refine z_aload_n X (x := A 3) (show cdA 103 71 = some (.aload_n 0, 1, 0, 0, 0) from rfl) (List.Mem.head _) ?_
          refine z_aload_n X (x := A 1) (show cdA 103 72 = some (.aload_n 1, 1, 0, 0, 0) from rfl) (List.Mem.tail _ (List.Mem.head _)) ?_
          refine z_callV X 3 (rm := rmN 104) (As := [.ref (A 1)]) (st := []) (show cdA 103 73 = some (.invokevirtual 77, 3, 104, 0, 0) from rfl) rfl (by decide) rfl (by rw [E.1, E.2.1, E.2.2.1]; exact c9_readMove2 G w2 w3 w4 I jjBYB (by first | exact hi.2.2.2.1 | omega) (by first | exact hi.2.2.2.2 | omega) (by first | exact g1009 | omega)) ⟨by rw [E.2.2.2]; exact (show (rmN 104).frames + 1 ≤ (rmN 103).frames by decide), by rw [E.2.2.2]; exact (show 8 + (mNL (miB 104) + 11) + (rmN 104).locals ≤ (rmN 103).locals by decide), by rw [E.2.2.2]; exact (show 0 + (rmN 104).cells ≤ (rmN 103).cells by decide), by rw [E.2.2.2]; exact (show 0 + (rmN 104).slots ≤ (rmN 103).slots by decide)⟩ (Nat.le_of_ble_eq_true rfl) (fun vv s1010 hq => ?_) (fun ee s1010 hq => ?_)
          rotate_left
          · obtain ⟨Is1010, Fs1010, JBYB_s1010, e1011, hv, hrs1010, hps1010⟩ := hq; cases hv
          obtain ⟨Is1010, Fs1010, JBYB_s1010, e1011, hv, hrs1010, hps1010⟩ := hq
          cases hv
          have Gs1010 := fm_ts F Fs1010 (by decide) (by decide)
          have JBYB_s1010 : BYB B N s1010 := BYB_fm Fs1010 (by decide) jjBYB
          have b1012 : (0 : Int) ≤ iI s1010 11 ∧ iI s1010 11 ≤ 24 := Is1010.1 11
          have b1013 : (0 : Int) ≤ iI s1010 2 ∧ iI s1010 2 ≤ 200 := Is1010.1 2
          have ws1010_1 : iI s1010 1 = iI t 1 := fm_i Fs1010 (by decide)
          have b1014 : (0 : Int) ≤ iI s1010 4 ∧ iI s1010 4 ≤ 200 := Is1010.1 4
          have b1015 : ((-3) : Int) ≤ iI s1010 5 ∧ iI s1010 5 ≤ 255 := Is1010.1 5
          have b1016 : (0 : Int) ≤ iI s1010 6 ∧ iI s1010 6 ≤ 100000 := Is1010.1 6
          show WS k 76 [(0, .ref (A 3)), (1, .ref (A 1)), (2, .int (Int32.ofInt c))] [.int (Int32.ofInt e1011)] (Wd A dT s1010) 0 0
          have hbo := hps1010.2.2.2
          refine z_if_ne X (t := 81) (show cdA 103 76 = some (.ifCond .ne 5, 3, 1, 0, 0) from rfl) (by decide) hrs1010 (fun g1017 => ?_) (fun g1017 => ?_)
          ·
            have hlt := waq_lt hps1010.2.2.2 (by omega)
            refine z_inc X (x := c) (lv' := [(2, .int (Int32.ofInt (c + 1))), (0, .ref (A 3)), (1, .ref (A 1))]) (show cdA 103 81 = some (.iinc 2 1, 3, 0, 0, 0) from rfl) (by decide) (List.Mem.tail _ (List.Mem.tail _ (List.Mem.head _))) (fun _ h => h) ?_
            refine z_goto X (t := 57) (show cdA 103 84 = some (.goto (-27), 3, 0, 0, 0) from rfl) (by decide) ?_
            refine WS_lv (lv := [(0, .ref (A 3)), (1, .ref (A 1)), (2, .int (Int32.ofInt (c + 1)))]) (List.forall_mem_cons.mpr ⟨(List.Mem.tail _ (List.Mem.head _)), (List.forall_mem_cons.mpr ⟨(List.Mem.tail _ (List.Mem.tail _ (List.Mem.head _))), (List.forall_mem_cons.mpr ⟨(List.Mem.head _), (fun q h => absurd h List.not_mem_nil)⟩)⟩)⟩) ?_
            exact ih _ (c + 1) Is1010 Gs1010 JBYB_s1010 (waq_up w1 (by omega) hps1010.2.2.2 (by omega)) (by first | exact ⟨oq_54f49eb5 hi.1, oq_16ea9949 g1007, by omega, hps1010.2.1, hps1010.2.2.1⟩ | omega) (by first | exact qk_me hm (by decide) (oq_ed5c4e18 g1007) | omega) kx
          ·
            refine z_const X (show cdA 103 79 = some (.iconst 0, 1, 0, 0, 0) from rfl) ?_
            exact w_iret X.1 q hRt (nar_ret (by first | exact Or.inl (by decide) | omega)) (ax_d X (show cdA 103 80 = some (.ireturn, 1, 0, 0, 0) from rfl)) (Nat.zero_le _) (Nat.zero_le _) ⟨_, rfl, Is1010, Gs1010, JBYB_s1010, 0, rfl, (by decide), ⟨by first | exact Or.inl (by decide) | omega, by first | exact hps1010.2.1 | omega, by first | exact hps1010.2.2.1 | omega, Or.inr ⟨by decide, waq_no w1 (by omega) hps1010.2.2.2 (by omega)⟩⟩⟩
  refine z_aload_n X (x := A 3) (show cdA 103 0 = some (.aload_n 0, 1, 0, 0, 0) from rfl) (List.Mem.head _) ?_
  refine z_const X (show cdA 103 1 = some (.iconst 0, 1, 0, 0, 0) from rfl) ?_
  refine s_putI X 3 (show cdA 103 2 = some (.putfield 58, 3, 9, 17, 0) from rfl) (by decide) rfl rfl (by decide) rfl rfl rfl ?_
  obtain ⟨s7, hs7⟩ : ∃ x0, x0 = uI s 11 (Int32.ofInt 0) := ⟨_, rfl⟩
  rw [← hs7]
  have Is7 : Bd s7 := by rw [hs7]; exact bd_I I (show (0 : Int) ≤ 0 ∧ 0 ≤ 24 by first | exact ⟨by decide, by decide⟩ | omega) (by decide)
  have Fs7 := fm_I (x := Int32.ofInt 0) F (show 11 ∈ _ by decide)
  rw [← hs7] at Fs7
  have vs7 : iI s7 11 = 0 := by rw [hs7]; exact iI_u (by decide)
  have ws7_2 : iI s7 2 = iI s 2 := by rw [hs7]; rfl
  have ws7_1 : iI s7 1 = iI s 1 := by rw [hs7]; rfl
  have ws7_4 : iI s7 4 = iI s 4 := by rw [hs7]; rfl
  have ws7_5 : iI s7 5 = iI s 5 := by rw [hs7]; rfl
  have ws7_6 : iI s7 6 = iI s 6 := by rw [hs7]; rfl
  have aws7_15 : SAM 15 s s7 := by rw [hs7]; exact aw0_15
  have fs7 : Fm [11] [] s s7 := by rw [hs7]; exact fm_I (fm_rf _ _ _) (show 11 ∈ _ by decide)
  have JBYB_s7 : BYB B N s7 := BYB_fm fs7 (by decide) jBYB
  refine z_aload_n X (x := A 1) (show cdA 103 5 = some (.aload_n 1, 1, 0, 0, 0) from rfl) (List.Mem.tail _ (List.Mem.head _)) ?_
  refine z_getI X 1 (show cdA 103 6 = some (.getfield 62, 3, 10, 6, 0) from rfl) (by decide) rfl rfl ?_
  have b8 : ((-3) : Int) ≤ iI s7 5 ∧ iI s7 5 ≤ 255 := Is7.1 5
  refine z_bipush X (show cdA 103 9 = some (.bipush (-2), 2, 0, 0, (-2)) from rfl) ?_
  refine z_icmp_eq X (t := 20) (show cdA 103 11 = some (.if_icmp .eq 9, 3, 0, 0, 0) from rfl) (by decide) (rng_to _) (by decide) (fun g9 => ?_) (fun g9 => ?_)
  ·
    refine z_aload_n X (x := A 1) (show cdA 103 20 = some (.aload_n 1, 1, 0, 0, 0) from rfl) (List.Mem.tail _ (List.Mem.head _)) ?_
    refine z_getI X 1 (show cdA 103 21 = some (.getfield 71, 3, 10, 7, 0) from rfl) (by decide) rfl rfl ?_
    have b10 : (0 : Int) ≤ iI s7 6 ∧ iI s7 6 ≤ 100000 := Is7.1 6
    refine z_sipush X (show cdA 103 24 = some (.sipush 128, 3, 0, 0, 128) from rfl) ?_
    refine z_icmp_lt X (t := 36) (show cdA 103 27 = some (.if_icmp .lt 9, 3, 2, 0, 0) from rfl) (by decide) (rng_to _) (by decide) (fun g11 => ?_) (fun g11 => ?_)
    ·
      refine z_aload_n X (x := A 3) (show cdA 103 36 = some (.aload_n 0, 1, 0, 0, 0) from rfl) (List.Mem.head _) ?_
      refine s_getR X 3 (show cdA 103 37 = some (.getfield 55, 3, 9, 16, 0) from rfl) (by decide) rfl rfl ?_
      refine z_const X (show cdA 103 40 = some (.iconst 0, 1, 0, 0, 0) from rfl) ?_
      refine z_aload_n X (x := A 1) (show cdA 103 41 = some (.aload_n 1, 1, 0, 0, 0) from rfl) (List.Mem.tail _ (List.Mem.head _)) ?_
      refine z_getI X 1 (show cdA 103 42 = some (.getfield 71, 3, 10, 7, 0) from rfl) (by decide) rfl rfl ?_
      have b12 : (0 : Int) ≤ iI s7 6 ∧ iI s7 6 ≤ 100000 := Is7.1 6
      refine z_ast X 18 (show cdA 103 45 = some (.iastore, 1, 0, 0, 0) from rfl) (by decide) rfl (by decide) (show 0 < 24 by decide) (by decide) ?_
      obtain ⟨s13, hs13⟩ : ∃ x0, x0 = uC s7 15 (0 : Int).toNat (Int32.ofInt (iI s7 6)) := ⟨_, rfl⟩
      rw [← hs13]
      have Is13 : Bd s13 := by rw [hs13]; exact bd_C Is7 (show (0 : Int) ≤ (iI s7 6) ∧ (iI s7 6) ≤ 127 by first | exact ⟨b12.1, oq_04367f15 g11⟩ | omega) (rng_to _)
      have Fs13 := fm_C (i := (0 : Int).toNat) (x := Int32.ofInt (iI s7 6)) Fs7 (show 15 ∈ _ by decide)
      rw [← hs13] at Fs13
      have ws13_11 : iI s13 11 = iI s7 11 := by rw [hs13]; rfl
      have ws13_2 : iI s13 2 = iI s7 2 := by rw [hs13]; rfl
      have ws13_1 : iI s13 1 = iI s7 1 := by rw [hs13]; rfl
      have ws13_4 : iI s13 4 = iI s7 4 := by rw [hs13]; rfl
      have ws13_5 : iI s13 5 = iI s7 5 := by rw [hs13]; rfl
      have ws13_6 : iI s13 6 = iI s7 6 := by rw [hs13]; rfl
      have aws13_15 : UPD 15 (0 : Int) (iI s7 6) s s13 := by rw [hs13]; exact upd_put aws7_15 (rng_to _)
      have fs13 : Fm [] [15] s7 s13 := by rw [hs13]; exact fm_C (fm_rf _ _ _) (show 15 ∈ _ by decide)
      have JBYB_s13 : BYB B N s13 := BYB_fm fs13 (by decide) JBYB_s7
      refine z_aload_n X (x := A 3) (show cdA 103 46 = some (.aload_n 0, 1, 0, 0, 0) from rfl) (List.Mem.head _) ?_
      refine z_const X (show cdA 103 47 = some (.iconst 1, 1, 0, 0, 0) from rfl) ?_
      refine s_putI X 3 (show cdA 103 48 = some (.putfield 58, 3, 9, 17, 0) from rfl) (by decide) rfl rfl (by decide) rfl rfl rfl ?_
      obtain ⟨s14, hs14⟩ : ∃ x0, x0 = uI s13 11 (Int32.ofInt 1) := ⟨_, rfl⟩
      rw [← hs14]
      have Is14 : Bd s14 := by rw [hs14]; exact bd_I Is13 (show (0 : Int) ≤ 1 ∧ 1 ≤ 24 by first | exact ⟨by decide, by decide⟩ | omega) (by decide)
      have Fs14 := fm_I (x := Int32.ofInt 1) Fs13 (show 11 ∈ _ by decide)
      rw [← hs14] at Fs14
      have vs14 : iI s14 11 = 1 := by rw [hs14]; exact iI_u (by decide)
      have ws14_2 : iI s14 2 = iI s13 2 := by rw [hs14]; rfl
      have ws14_1 : iI s14 1 = iI s13 1 := by rw [hs14]; rfl
      have ws14_4 : iI s14 4 = iI s13 4 := by rw [hs14]; rfl
      have ws14_5 : iI s14 5 = iI s13 5 := by rw [hs14]; rfl
      have ws14_6 : iI s14 6 = iI s13 6 := by rw [hs14]; rfl
      have aws14_15 : UPD 15 (0 : Int) (iI s7 6) s s14 := by rw [hs14]; exact aws13_15
      have fs14 : Fm [11] [] s13 s14 := by rw [hs14]; exact fm_I (fm_rf _ _ _) (show 11 ∈ _ by decide)
      have JBYB_s14 : BYB B N s14 := BYB_fm fs14 (by decide) JBYB_s13
      refine z_aload_n X (x := A 1) (show cdA 103 51 = some (.aload_n 1, 1, 0, 0, 0) from rfl) (List.Mem.tail _ (List.Mem.head _)) ?_
      refine z_callV X 1 (rm := rmN 129) (As := []) (st := []) (show cdA 103 52 = some (.invokevirtual 74, 3, 129, 0, 0) from rfl) rfl (by decide) rfl (by rw [E.1, E.2.1, E.2.2.1]; exact c10_step2 G Is14 JBYB_s14 (by first | exact oq_72ebe5a4 ws14_1 ws14_2 ws13_1 ws13_2 ws7_1 ws7_2 p0 | omega)) ⟨by rw [E.2.2.2]; exact (show (rmN 129).frames + 1 ≤ (rmN 103).frames by decide), by rw [E.2.2.2]; exact (show 8 + (mNL (miB 129) + 11) + (rmN 129).locals ≤ (rmN 103).locals by decide), by rw [E.2.2.2]; exact (show 0 + (rmN 129).cells ≤ (rmN 103).cells by decide), by rw [E.2.2.2]; exact (show 0 + (rmN 129).slots ≤ (rmN 103).slots by decide)⟩ (Nat.le_of_ble_eq_true rfl) (fun vv s15 hq => ?_) (fun ee s15 hq => ?_)
      rotate_left
      · obtain ⟨Is15, Fs15, JBYB_s15, hv, hps15⟩ := hq; cases hv
      obtain ⟨Is15, Fs15, JBYB_s15, hv, hps15⟩ := hq
      cases hv
      have Gs15 := fm_ts Fs14 Fs15 (by decide) (by decide)
      have JBYB_s15 : BYB B N s15 := BYB_fm Fs15 (by decide) JBYB_s14
      have ws15_11 : iI s15 11 = iI s14 11 := fm_i Fs15 (by decide)
      have b17 : (0 : Int) ≤ iI s15 2 ∧ iI s15 2 ≤ 200 := Is15.1 2
      have ws15_1 : iI s15 1 = iI s14 1 := fm_i Fs15 (by decide)
      have b18 : (0 : Int) ≤ iI s15 4 ∧ iI s15 4 ≤ 200 := Is15.1 4
      have b19 : ((-3) : Int) ≤ iI s15 5 ∧ iI s15 5 ≤ 255 := Is15.1 5
      have b20 : (0 : Int) ≤ iI s15 6 ∧ iI s15 6 ≤ 100000 := Is15.1 6
      have aws15_15 : UPD 15 (0 : Int) (iI s7 6) s s15 := upd_ts aws14_15 (sam_fm Fs15 (by decide))
      show WS k 55 [(0, .ref (A 3)), (1, .ref (A 1))] [] (Wd A dT s15) 0 0
      have hy := tkn_is hT (by omega)
      have hl1 := nmE_gt (v := 0) hy.1 hy.2.1 hy.2.2.1
      have hl4 := sk_le (B := B) (N := N) (p := iI s 2)
      have hl2 := sk_le (B := B) (N := N) (p := iI s14 2)
      have hl3 := sk_le (B := B) (N := N) (p := 0)
      refine z_const X (show cdA 103 55 = some (.iconst 0, 1, 0, 0, 0) from rfl) ?_
      refine z_store_n X (lv' := [(2, .int (Int32.ofInt 0)), (0, .ref (A 3)), (1, .ref (A 1))]) (show cdA 103 56 = some (.istore_n 2, 1, 0, 0, 0) from rfl) (by decide) (fun _ h => h) ?_
      refine WS_lv (lv := [(0, .ref (A 3)), (1, .ref (A 1)), (2, .int (Int32.ofInt 0))]) (List.forall_mem_cons.mpr ⟨(List.Mem.tail _ (List.Mem.head _)), (List.forall_mem_cons.mpr ⟨(List.Mem.tail _ (List.Mem.tail _ (List.Mem.head _))), (List.forall_mem_cons.mpr ⟨(List.Mem.head _), (fun q h => absurd h List.not_mem_nil)⟩)⟩)⟩) ?_
      refine L57 ((100 - 0 : Int).toNat + 1) s15 0 Is15 Gs15 JBYB_s15 ⟨(1, fun _ => (iI s7 6)), by rw [pa_yes hT hQ (by omega) (by omega), hps15.2.2.1, show iI s14 2 = iI s 2 by omega, show (iI s7 6) = iI s 6 by omega]; exact wi_0 (by omega) (by omega), ag_one aws15_15 (by omega), ⟨(show (1 : Int) ≤ 1 by decide), (show (1 : Int) ≤ 24 by decide)⟩, hps15.2.2.2⟩ (by first | exact ⟨by decide, by decide, by omega, hps15.1, hps15.2.1⟩ | omega) (Nat.lt_succ_self _) ?_
      intro s21 x22 Is21 Fs21 JBYB_s21 Qs21 hs21
      have b23 : (0 : Int) ≤ iI s21 11 ∧ iI s21 11 ≤ 24 := Is21.1 11
      have b24 : (0 : Int) ≤ iI s21 2 ∧ iI s21 2 ≤ 200 := Is21.1 2
      have b25 : (0 : Int) ≤ iI s21 1 ∧ iI s21 1 ≤ 200 := Is21.1 1
      have b26 : (0 : Int) ≤ iI s21 4 ∧ iI s21 4 ≤ 200 := Is21.1 4
      have b27 : ((-3) : Int) ≤ iI s21 5 ∧ iI s21 5 ≤ 255 := Is21.1 5
      have b28 : (0 : Int) ≤ iI s21 6 ∧ iI s21 6 ≤ 100000 := Is21.1 6
      have hNs21 := JBYB_s21.2.1
      refine z_const X (show cdA 103 87 = some (.iconst 1, 1, 0, 0, 0) from rfl) ?_
      exact w_iret X.1 q hRt (nar_ret (by first | exact Or.inr (by decide) | omega)) (ax_d X (show cdA 103 88 = some (.ireturn, 1, 0, 0, 0) from rfl)) (Nat.zero_le _) (Nat.zero_le _) ⟨_, rfl, Is21, Fs21, JBYB_s21, 1, rfl, (by decide), ⟨by first | exact Or.inr (by decide) | omega, by first | exact hs21.2.1 | omega, by first | exact hs21.2.2 | omega, Or.inl ⟨by decide, waq_end Qs21 (by omega)⟩⟩⟩
    ·
      refine z_aload_n X (x := A 1) (show cdA 103 30 = some (.aload_n 1, 1, 0, 0, 0) from rfl) (List.Mem.tail _ (List.Mem.head _)) ?_
      refine z_const X (show cdA 103 31 = some (.iconst 2, 1, 0, 0, 0) from rfl) ?_
      refine z_callV X 1 (rm := rmN 132) (As := [.int (Int32.ofInt 2)]) (st := []) (show cdA 103 32 = some (.invokevirtual 67, 3, 132, 0, 0) from rfl) rfl (by decide) rfl (by rw [E.1, E.2.1, E.2.2.1]; exact c10_refuse_1 G Is7 (by first | exact ⟨by decide, by decide⟩ | omega)) ⟨by rw [E.2.2.2]; exact (show (rmN 132).frames + 1 ≤ (rmN 103).frames by decide), by rw [E.2.2.2]; exact (show 8 + (mNL (miB 132) + 11) + (rmN 132).locals ≤ (rmN 103).locals by decide), by rw [E.2.2.2]; exact (show 0 + (rmN 132).cells ≤ (rmN 103).cells by decide), by rw [E.2.2.2]; exact (show 0 + (rmN 132).slots ≤ (rmN 103).slots by decide)⟩ (Nat.le_of_ble_eq_true rfl) (fun vv s29 hq => ?_) (fun ee s29 hq => ?_)
      rotate_left
      · obtain ⟨Is29, Fs29, e30, hv, hrs29, hps29⟩ := hq; cases hv
      obtain ⟨Is29, Fs29, e30, hv, hrs29, hps29⟩ := hq
      cases hv
      have Gs29 := fm_ts Fs7 Fs29 (by decide) (by decide)
      have JBYB_s29 : BYB B N s29 := BYB_fm Fs29 (by decide) JBYB_s7
      have ws29_11 : iI s29 11 = iI s7 11 := fm_i Fs29 (by decide)
      have ws29_2 : iI s29 2 = iI s7 2 := fm_i Fs29 (by decide)
      have ws29_1 : iI s29 1 = iI s7 1 := fm_i Fs29 (by decide)
      have ws29_4 : iI s29 4 = iI s7 4 := fm_i Fs29 (by decide)
      have ws29_5 : iI s29 5 = iI s7 5 := fm_i Fs29 (by decide)
      have ws29_6 : iI s29 6 = iI s7 6 := fm_i Fs29 (by decide)
      have aws29_15 : SAM 15 s s29 := sam_ts aws7_15 (sam_fm Fs29 (by decide))
      show WS k 35 [(0, .ref (A 3)), (1, .ref (A 1))] [.int (Int32.ofInt e30)] (Wd A dT s29) 0 0
      exact w_iret X.1 q hRt (nar_ret (by first | exact Or.inl (hps29) | omega)) (ax_d X (show cdA 103 35 = some (.ireturn, 1, 0, 0, 0) from rfl)) (Nat.zero_le _) (Nat.zero_le _) ⟨_, rfl, Is29, Gs29, JBYB_s29, e30, rfl, hrs29, ⟨by first | exact Or.inl (hps29) | omega, by first | exact oq_4407eb3c ws29_1 ws29_2 ws7_1 ws7_2 p0 | omega, by first | exact oq_4407eb3c ws29_2 ws29_4 ws7_2 ws7_4 p1 | omega, Or.inr ⟨by first | exact hps29 | omega, pa_no2 hT hQ (by omega) (by omega)⟩⟩⟩
  ·
    refine z_aload_n X (x := A 1) (show cdA 103 14 = some (.aload_n 1, 1, 0, 0, 0) from rfl) (List.Mem.tail _ (List.Mem.head _)) ?_
    refine z_const X (show cdA 103 15 = some (.iconst 1, 1, 0, 0, 0) from rfl) ?_
    refine z_callV X 1 (rm := rmN 132) (As := [.int (Int32.ofInt 1)]) (st := []) (show cdA 103 16 = some (.invokevirtual 67, 3, 132, 0, 0) from rfl) rfl (by decide) rfl (by rw [E.1, E.2.1, E.2.2.1]; exact c10_refuse_1 G Is7 (by first | exact ⟨by decide, by decide⟩ | omega)) ⟨by rw [E.2.2.2]; exact (show (rmN 132).frames + 1 ≤ (rmN 103).frames by decide), by rw [E.2.2.2]; exact (show 8 + (mNL (miB 132) + 11) + (rmN 132).locals ≤ (rmN 103).locals by decide), by rw [E.2.2.2]; exact (show 0 + (rmN 132).cells ≤ (rmN 103).cells by decide), by rw [E.2.2.2]; exact (show 0 + (rmN 132).slots ≤ (rmN 103).slots by decide)⟩ (Nat.le_of_ble_eq_true rfl) (fun vv s31 hq => ?_) (fun ee s31 hq => ?_)
    rotate_left
    · obtain ⟨Is31, Fs31, e32, hv, hrs31, hps31⟩ := hq; cases hv
    obtain ⟨Is31, Fs31, e32, hv, hrs31, hps31⟩ := hq
    cases hv
    have Gs31 := fm_ts Fs7 Fs31 (by decide) (by decide)
    have JBYB_s31 : BYB B N s31 := BYB_fm Fs31 (by decide) JBYB_s7
    have ws31_11 : iI s31 11 = iI s7 11 := fm_i Fs31 (by decide)
    have ws31_2 : iI s31 2 = iI s7 2 := fm_i Fs31 (by decide)
    have ws31_1 : iI s31 1 = iI s7 1 := fm_i Fs31 (by decide)
    have ws31_4 : iI s31 4 = iI s7 4 := fm_i Fs31 (by decide)
    have ws31_5 : iI s31 5 = iI s7 5 := fm_i Fs31 (by decide)
    have ws31_6 : iI s31 6 = iI s7 6 := fm_i Fs31 (by decide)
    have aws31_15 : SAM 15 s s31 := sam_ts aws7_15 (sam_fm Fs31 (by decide))
    show WS k 19 [(0, .ref (A 3)), (1, .ref (A 1))] [.int (Int32.ofInt e32)] (Wd A dT s31) 0 0
    exact w_iret X.1 q hRt (nar_ret (by first | exact Or.inl (hps31) | omega)) (ax_d X (show cdA 103 19 = some (.ireturn, 1, 0, 0, 0) from rfl)) (Nat.zero_le _) (Nat.zero_le _) ⟨_, rfl, Is31, Gs31, JBYB_s31, e32, rfl, hrs31, ⟨by first | exact Or.inl (hps31) | omega, by first | exact oq_4407eb3c ws31_1 ws31_2 ws7_1 ws7_2 p0 | omega, by first | exact oq_4407eb3c ws31_2 ws31_4 ws7_2 ws7_4 p1 | omega, Or.inr ⟨by first | exact hps31 | omega, pa_no1 hT hQ (by omega)⟩⟩⟩
set_option maxRecDepth 4000 in
theorem k_byteAt2 (G : GX l s0 D tys a0 dT) {B : Nat → Int} {N : Int} (I : Bd s) (jFDB : FDB B N s) {x : Int} (p0 : 0 ≤ x ∧ x ≤ 2147483647) : CT l s0 D A dT 192 (rmN 192) [.ref (A 179), .int (Int32.ofInt x)] s (fun o t => s = t ∧ ∃ e, o = .inl (some (.int (Int32.ofInt e))) ∧ rng e ∧ ((N ≤ x ∧ e = -1) ∨ (x < N ∧ e = B x.toNat ∧ 0 ≤ e ∧ e ≤ 255))) := by
  refine ct_of G (by decide) (Nat.le_of_ble_eq_true rfl) (fun k X E hRt hXt q => ?_)
  show WS k 0 [(0, .ref (A 179)), (1, .int (Int32.ofInt x))] [] _ 0 0
  have F : Fm [] [] s s := fm_rf _ _ s
  have hN := jFDB.2.1
  have hW := jFDB.2.2
  have hb0 : (0 : Int) ≤ iI s 75 ∧ iI s 75 ≤ 200 := I.1 75
  have hf0 : N ≤ x ∨ iI s 81 ≠ 0 ∨ iC s 157 (x).toNat = B x.toNat := (Int.lt_or_le x N).elim (fun hx => (Classical.em (iI s 81 = 0)).elim (fun w => Or.inr (Or.inr ((show BYV s x.toNat = iC s 157 (x).toNat from if_pos w).symm.trans (jFDB.1 _ (by omega))))) (fun w => Or.inr (Or.inl w))) Or.inl
  have hf1 : N ≤ x ∨ iI s 81 = 0 ∨ iC s 158 (x).toNat = B x.toNat := (Int.lt_or_le x N).elim (fun hx => (Classical.em (iI s 81 = 0)).elim (fun w => Or.inr (Or.inl w)) (fun w => Or.inr (Or.inr ((show BYV s x.toNat = iC s 158 (x).toNat from if_neg w).symm.trans (jFDB.1 _ (by omega)))))) Or.inl
  have b1 : (0 : Int) ≤ iI s 75 ∧ iI s 75 ≤ 200 := I.1 75
  refine z_load_n X (x := x) (show cdA 192 0 = some (.iload_n 1, 1, 0, 0, 0) from rfl) (List.Mem.tail _ (List.Mem.head _)) ?_
  refine z_aload_n X (x := A 179) (show cdA 192 1 = some (.aload_n 0, 1, 0, 0, 0) from rfl) (List.Mem.head _) ?_
  refine z_getI X 179 (show cdA 192 2 = some (.getfield 178, 3, 12, 2, 0) from rfl) (by decide) rfl rfl ?_
  have b2 : (0 : Int) ≤ iI s 75 ∧ iI s 75 ≤ 200 := I.1 75
  have N3 : ∀ e4 : Int, (((x < (iI s 75)) ∧ ((0 : Int) ≤ iI s 81 ∧ iI s 81 ≤ 1) ∧ ((iI s 81) ≠ 0) ∧ ((0 : Int) ≤ iC s 158 (x).toNat ∧ iC s 158 (x).toNat ≤ 255) ∧ e4 = (iC s 158 (x).toNat)) ∨ ((x < (iI s 75)) ∧ ((0 : Int) ≤ iI s 81 ∧ iI s 81 ≤ 1) ∧ ((iI s 81) = 0) ∧ ((0 : Int) ≤ iC s 157 (x).toNat ∧ iC s 157 (x).toNat ≤ 255) ∧ e4 = (iC s 157 (x).toNat)) ∨ (((iI s 75) ≤ x) ∧ e4 = (-1))) → WS k 34 [(0, .ref (A 179)), (1, .int (Int32.ofInt x))] [.int (Int32.ofInt e4)] (Wd A dT s) 0 0 := by
    intro e4 he4
    exact w_iret X.1 q hRt rfl (ax_d X (show cdA 192 34 = some (.ireturn, 1, 0, 0, 0) from rfl)) (Nat.zero_le _) (Nat.zero_le _) ⟨_, rfl, rfl, e4, rfl, ⟨by first | exact oq_e9a2ed3a he4 | omega, by first | exact oq_bae66a67 he4 | omega⟩, by omega⟩
  refine z_icmp_lt X (t := 12) (show cdA 192 5 = some (.if_icmp .lt 7, 3, 2, 0, 0) from rfl) (by decide) ⟨by first | exact oq_fa4e5087 p0.1 | omega, by first | exact p0.2 | omega⟩ (rng_to _) (fun g5 => ?_) (fun g5 => ?_)
  ·
    refine z_aload_n X (x := A 179) (show cdA 192 12 = some (.aload_n 0, 1, 0, 0, 0) from rfl) (List.Mem.head _) ?_
    refine z_getI X 179 (show cdA 192 13 = some (.getfield 181, 3, 12, 8, 0) from rfl) (by decide) rfl rfl ?_
    have b6 : (0 : Int) ≤ iI s 81 ∧ iI s 81 ≤ 1 := I.1 81
    refine z_if_ne X (t := 28) (show cdA 192 16 = some (.ifCond .ne 12, 3, 1, 0, 0) from rfl) (by decide) (rng_to _) (fun g7 => ?_) (fun g7 => ?_)
    ·
      refine z_aload_n X (x := A 179) (show cdA 192 28 = some (.aload_n 0, 1, 0, 0, 0) from rfl) (List.Mem.head _) ?_
      refine s_getR X 179 (show cdA 192 29 = some (.getfield 17, 3, 12, 10, 0) from rfl) (by decide) rfl rfl ?_
      refine z_load_n X (x := x) (show cdA 192 32 = some (.iload_n 1, 1, 0, 0, 0) from rfl) (List.Mem.tail _ (List.Mem.head _)) ?_
      refine z_ald X 181 (show cdA 192 33 = some (.iaload, 1, 0, 0, 0) from rfl) (by decide) rfl (by first | exact p0.1 | omega) (show x < 200 by first | exact oq_6fca3d72 g5 b2.2 | omega) (by decide) ?_
      have b8 : (0 : Int) ≤ iC s 158 (x).toNat ∧ iC s 158 (x).toNat ≤ 255 := I.2 158 _ (show (x).toNat < 200 by first | exact oq_b70289d5 g5 b2.2 | omega)
      exact N3 _ (Or.inl ⟨g5, b6, g7, b8, rfl⟩)
    ·
      refine z_aload_n X (x := A 179) (show cdA 192 19 = some (.aload_n 0, 1, 0, 0, 0) from rfl) (List.Mem.head _) ?_
      refine s_getR X 179 (show cdA 192 20 = some (.getfield 13, 3, 12, 9, 0) from rfl) (by decide) rfl rfl ?_
      refine z_load_n X (x := x) (show cdA 192 23 = some (.iload_n 1, 1, 0, 0, 0) from rfl) (List.Mem.tail _ (List.Mem.head _)) ?_
      refine z_ald X 180 (show cdA 192 24 = some (.iaload, 1, 0, 0, 0) from rfl) (by decide) rfl (by first | exact p0.1 | omega) (show x < 200 by first | exact oq_6fca3d72 g5 b2.2 | omega) (by decide) ?_
      have b9 : (0 : Int) ≤ iC s 157 (x).toNat ∧ iC s 157 (x).toNat ≤ 255 := I.2 157 _ (show (x).toNat < 200 by first | exact oq_b70289d5 g5 b2.2 | omega)
      refine z_goto X (t := 34) (show cdA 192 25 = some (.goto 9, 3, 0, 0, 0) from rfl) (by decide) ?_
      exact N3 _ (Or.inr (Or.inl ⟨g5, b6, g7, b9, rfl⟩))
  ·
    refine z_const X (show cdA 192 8 = some (.iconst (-1), 1, 0, 0, 0) from rfl) ?_
    refine z_goto X (t := 34) (show cdA 192 9 = some (.goto 25, 3, 0, 0, 0) from rfl) (by decide) ?_
    exact N3 _ (Or.inr (Or.inr (⟨g5, rfl⟩)))
set_option maxRecDepth 4000 in
theorem k_isDigit2 (G : GX l s0 D tys a0 dT) (I : Bd s) {x : Int} (p0 : rng x) : CT l s0 D A dT 195 (rmN 195) [.int (Int32.ofInt x)] s (fun o t => s = t ∧ ∃ e, o = .inl (some (.int (Int32.ofInt e))) ∧ rng e ∧ ((e = 1 ∧ 48 ≤ x ∧ x ≤ 57) ∨ (e = 0 ∧ (x < 48 ∨ 57 < x)))) := by
  refine ct_of G (by decide) (Nat.le_of_ble_eq_true rfl) (fun k X E hRt hXt q => ?_)
  show WS k 0 [(0, .int (Int32.ofInt x))] [] _ 0 0
  have F : Fm [] [] s s := fm_rf _ _ s
  refine z_load_n X (x := x) (show cdA 195 0 = some (.iload_n 0, 1, 0, 0, 0) from rfl) (List.Mem.head _) ?_
  refine z_bipush X (show cdA 195 1 = some (.bipush 48, 2, 0, 0, 48) from rfl) ?_
  have N1 : ∀ e2 : Int, (((x < 48) ∧ e2 = 0) ∨ ((48 ≤ x) ∧ (57 < x) ∧ e2 = 0) ∨ ((48 ≤ x) ∧ (x ≤ 57) ∧ e2 = 1)) → WS k 17 [(0, .int (Int32.ofInt x))] [.int (Int32.ofInt e2)] (Wd A dT s) 0 0 := by
    intro e2 he2
    have re2 : 0 ≤ e2 ∧ e2 ≤ 1 := by omega
    exact w_iret X.1 q hRt (nar_ret (by first | exact oq_31e518ae re2.2 re2.1 | omega)) (ax_d X (show cdA 195 17 = some (.ireturn, 1, 0, 0, 0) from rfl)) (Nat.zero_le _) (Nat.zero_le _) ⟨_, rfl, rfl, e2, rfl, ⟨by first | exact oq_fa4e5087 re2.1 | omega, by first | exact oq_22e1e6b0 re2.2 | omega⟩, by first | exact oq_08c8a296 re2.2 re2.1 he2 | omega⟩
  refine z_icmp_lt X (t := 16) (show cdA 195 3 = some (.if_icmp .lt 13, 3, 2, 0, 0) from rfl) (by decide) ⟨by first | exact p0.1 | omega, by first | exact p0.2 | omega⟩ (by decide) (fun g3 => ?_) (fun g3 => ?_)
  ·
    refine z_const X (show cdA 195 16 = some (.iconst 0, 1, 0, 0, 0) from rfl) ?_
    exact N1 _ (Or.inl ⟨g3, rfl⟩)
  ·
    refine z_load_n X (x := x) (show cdA 195 6 = some (.iload_n 0, 1, 0, 0, 0) from rfl) (List.Mem.head _) ?_
    refine z_bipush X (show cdA 195 7 = some (.bipush 57, 2, 0, 0, 57) from rfl) ?_
    refine z_icmp_gt X (t := 16) (show cdA 195 9 = some (.if_icmp .gt 7, 3, 4, 0, 0) from rfl) (by decide) ⟨by first | exact p0.1 | omega, by first | exact p0.2 | omega⟩ (by decide) (fun g4 => ?_) (fun g4 => ?_)
    ·
      refine z_const X (show cdA 195 16 = some (.iconst 0, 1, 0, 0, 0) from rfl) ?_
      exact N1 _ (Or.inr (Or.inl ⟨g3, g4, rfl⟩))
    ·
      refine z_const X (show cdA 195 12 = some (.iconst 1, 1, 0, 0, 0) from rfl) ?_
      refine z_goto X (t := 17) (show cdA 195 13 = some (.goto 4, 3, 0, 0, 0) from rfl) (by decide) ?_
      exact N1 _ (Or.inr (Or.inr (⟨g3, g4, rfl⟩)))
set_option maxRecDepth 4000 in
theorem k_blanks2 (G : GX l s0 D tys a0 dT) {B : Nat → Int} {N : Int} (I : Bd s) (jFDB : FDB B N s) (p0 : iI s 77 ≤ 390) : CT l s0 D A dT 193 (rmN 193) [.ref (A 179)] s (fun o t => Bd t ∧ Fm [77] [] s t ∧ FDB B N t ∧ o = .inl none ∧ (iI t 77 = sk B N (iI s 77) ∧ iI s 77 ≤ iI t 77 ∧ (iI t 77 = iI s 77 ∨ iI t 77 ≤ N))) := by
  refine ct_of G (by decide) (Nat.le_of_ble_eq_true rfl) (fun k X E hRt hXt q => ?_)
  show WS k 0 [(0, .ref (A 179))] [] _ 0 0
  have F : Fm [77] [] s s := fm_rf _ _ s
  have hN := jFDB.2.1
  have hW := jFDB.2.2
  have b1 : (0 : Int) ≤ iI s 77 ∧ iI s 77 ≤ 400 := I.1 77
  have b2 : (0 : Int) ≤ iI s 75 ∧ iI s 75 ≤ 200 := I.1 75
  have L0 : ∀ (n : Nat) (t : PS), Bd t → Fm [77] [] s t → FDB B N t → (sk B N (iI t 77) = sk B N (iI s 77)) → (iI s 77 ≤ iI t 77 ∧ (iI t 77 = iI s 77 ∨ iI t 77 ≤ N)) → (N - iI t 77 : Int).toNat < n → (∀ (t' : PS), Bd t' → Fm [77] [] s t' → FDB B N t' → (sk B N (iI s 77) = iI t' 77) → (iI s 77 ≤ iI t' 77 ∧ (iI t' 77 = iI s 77 ∨ iI t' 77 ≤ N)) → WS k 26 [(0, .ref (A 179))] [] (Wd A dT t') 0 0) → WS k 0 [(0, .ref (A 179))] [] (Wd A dT t) 0 0 := by
    intro n
    induction n with
    | zero =>
      intro t  I F jjFDB hq hi hm kx
      exact absurd hm (Nat.not_lt_zero _)
    | succ n ih =>
      intro t  I F jjFDB hq hi hm kx
      have b1001 : (0 : Int) ≤ iI t 77 ∧ iI t 77 ≤ 400 := I.1 77
      have b1002 : (0 : Int) ≤ iI t 75 ∧ iI t 75 ≤ 200 := I.1 75
      have hN := jjFDB.2.1
      have hW := jjFDB.2.2
      refine z_aload_n X (x := A 179) (show cdA 193 0 = some (.aload_n 0, 1, 0, 0, 0) from rfl) (List.Mem.head _) ?_
      refine z_aload_n X (x := A 179) (show cdA 193 1 = some (.aload_n 0, 1, 0, 0, 0) from rfl) (List.Mem.head _) ?_
      refine z_getI X 179 (show cdA 193 2 = some (.getfield 184, 3, 12, 4, 0) from rfl) (by decide) rfl rfl ?_
      have b1003 : (0 : Int) ≤ iI t 77 ∧ iI t 77 ≤ 400 := I.1 77
      refine z_callV X 179 (rm := rmN 192) (As := [.int (Int32.ofInt (iI t 77))]) (st := []) (show cdA 193 5 = some (.invokevirtual 187, 3, 192, 0, 0) from rfl) rfl (by decide) rfl (by rw [E.1, E.2.1, E.2.2.1]; exact k_byteAt2 G I jjFDB (by first | exact ⟨b1003.1, oq_5a8480eb b1003.2⟩ | omega)) ⟨by rw [E.2.2.2]; exact (show (rmN 192).frames + 1 ≤ (rmN 193).frames by decide), by rw [E.2.2.2]; exact (show 8 + (mNL (miB 192) + 11) + (rmN 192).locals ≤ (rmN 193).locals by decide), by rw [E.2.2.2]; exact (show 0 + (rmN 192).cells ≤ (rmN 193).cells by decide), by rw [E.2.2.2]; exact (show 0 + (rmN 192).slots ≤ (rmN 193).slots by decide)⟩ (Nat.le_of_ble_eq_true rfl) (fun vv s1004 hq => ?_) (fun ee s1004 hq => ?_)
      rotate_left
      · obtain ⟨rfl, e1005, hv, hrs1004, hps1004⟩ := hq; cases hv
      obtain ⟨rfl, e1005, hv, hrs1004, hps1004⟩ := hq
      cases hv
      show WS k 8 [(0, .ref (A 179))] [.int (Int32.ofInt e1005)] (Wd A dT t) 0 0
      refine z_bipush X (show cdA 193 8 = some (.bipush 32, 2, 0, 0, 32) from rfl) ?_
      refine z_icmp_ne X (t := 26) (show cdA 193 10 = some (.if_icmp .ne 16, 3, 1, 0, 0) from rfl) (by decide) hrs1004 (by decide) (fun g1006 => ?_) (fun g1006 => ?_)
      ·
        refine WS_lv (lv := [(0, .ref (A 179))]) (List.forall_mem_cons.mpr ⟨(List.Mem.head _), (fun q h => absurd h List.not_mem_nil)⟩) ?_
        exact kx _  I F jjFDB (hq.symm.trans (sk_stop (by omega))) (by first | exact ⟨hi.1, hi.2⟩ | omega)
      ·
        refine z_aload_n X (x := A 179) (show cdA 193 13 = some (.aload_n 0, 1, 0, 0, 0) from rfl) (List.Mem.head _) ?_
        refine w_dup X.1 (ax_d X (show cdA 193 14 = some (.dup, 1, 0, 0, 0) from rfl)) rfl ?_
        refine z_getI X 179 (show cdA 193 15 = some (.getfield 184, 3, 12, 4, 0) from rfl) (by decide) rfl rfl ?_
        have b1007 : (0 : Int) ≤ iI t 77 ∧ iI t 77 ≤ 400 := I.1 77
        refine z_const X (show cdA 193 18 = some (.iconst 1, 1, 0, 0, 0) from rfl) ?_
        refine z_add X (show cdA 193 19 = some (.iadd, 1, 0, 0, 0) from rfl) ?_
        refine s_putI X 179 (show cdA 193 20 = some (.putfield 184, 3, 12, 4, 0) from rfl) (by decide) rfl rfl (by decide) rfl rfl rfl ?_
        obtain ⟨s1008, hs1008⟩ : ∃ x0, x0 = uI t 77 (Int32.ofInt ((iI t 77) + 1)) := ⟨_, rfl⟩
        rw [← hs1008]
        have Is1008 : Bd s1008 := by rw [hs1008]; exact bd_I I (show (0 : Int) ≤ ((iI t 77) + 1) ∧ ((iI t 77) + 1) ≤ 400 by first | exact ⟨oq_54f49eb5 b1007.1, by omega⟩ | omega) ⟨by first | exact oq_74de1e16 b1007.1 | omega, by first | exact oq_964ce197 b1007.2 | omega⟩
        have Fs1008 := fm_I (x := Int32.ofInt ((iI t 77) + 1)) F (show 77 ∈ _ by decide)
        rw [← hs1008] at Fs1008
        have vs1008 : iI s1008 77 = ((iI t 77) + 1) := by rw [hs1008]; exact iI_u ⟨by first | exact oq_74de1e16 b1007.1 | omega, by first | exact oq_964ce197 b1007.2 | omega⟩
        have ws1008_75 : iI s1008 75 = iI t 75 := by rw [hs1008]; rfl
        have fs1008 : Fm [77] [] t s1008 := by rw [hs1008]; exact fm_I (fm_rf _ _ _) (show 77 ∈ _ by decide)
        have JFDB_s1008 : FDB B N s1008 := FDB_fm fs1008 (by decide) jjFDB
        refine z_goto X (t := 0) (show cdA 193 23 = some (.goto (-23), 3, 0, 0, 0) from rfl) (by decide) ?_
        refine WS_lv (lv := [(0, .ref (A 179))]) (List.forall_mem_cons.mpr ⟨(List.Mem.head _), (fun q h => absurd h List.not_mem_nil)⟩) ?_
        exact ih _  Is1008 Fs1008 JFDB_s1008 (by rw [vs1008, ← sk_blank (by omega) (by omega)]; exact hq) (by first | exact ⟨oq_d12e8ac3 vs1008 hi.1, oq_5492ee3c vs1008 g1006 hps1004⟩ | omega) (by first | exact qk_me hm (oq_563dee29 vs1008) (oq_6cc4defc g1006 hps1004) | omega) kx
  refine WS_lv (lv := [(0, .ref (A 179))]) (List.forall_mem_cons.mpr ⟨(List.Mem.head _), (fun q h => absurd h List.not_mem_nil)⟩) ?_
  refine L0 ((N - iI s 77 : Int).toNat + 1) s  I F jFDB rfl (by first | exact ⟨by decide, Or.inl (by decide)⟩ | omega) (Nat.lt_succ_self _) ?_
  intro s3  Is3 Fs3 JFDB_s3 Qs3 hs3
  have b4 : (0 : Int) ≤ iI s3 77 ∧ iI s3 77 ≤ 400 := Is3.1 77
  have b5 : (0 : Int) ≤ iI s3 75 ∧ iI s3 75 ≤ 200 := Is3.1 75
  have hNs3 := JFDB_s3.2.1
  have hWs3 := JFDB_s3.2.2
  exact w_vret X.1 q hRt (ax_d X (show cdA 193 26 = some (.return_, 1, 0, 0, 0) from rfl)) (Nat.zero_le _) (Nat.zero_le _) ⟨_, rfl, Is3, Fs3, JFDB_s3, rfl, by first | exact ⟨by omega, hs3.1, hs3.2⟩ | omega⟩
set_option maxRecDepth 4000 in
theorem k_wrong2 (G : GX l s0 D tys a0 dT) (I : Bd s) {x y : Int} (p0 : 1 ≤ x ∧ x ≤ 9) (p1 : -1 ≤ y ∧ y ≤ 400) : CT l s0 D A dT 194 (rmN 194) [.ref (A 179), .int (Int32.ofInt x), .int (Int32.ofInt y)] s (fun o t => Bd t ∧ Fm [79, 80] [] s t ∧ o = .inl none ∧ (iI t 79 ≠ 0)) := by
  refine ct_of G (by decide) (Nat.le_of_ble_eq_true rfl) (fun k X E hRt hXt q => ?_)
  show WS k 0 [(0, .ref (A 179)), (1, .int (Int32.ofInt x)), (2, .int (Int32.ofInt y))] [] _ 0 0
  have F : Fm [79, 80] [] s s := fm_rf _ _ s
  have b1 : (0 : Int) ≤ iI s 79 ∧ iI s 79 ≤ 9 := I.1 79
  refine z_aload_n X (x := A 179) (show cdA 194 0 = some (.aload_n 0, 1, 0, 0, 0) from rfl) (List.Mem.head _) ?_
  refine z_getI X 179 (show cdA 194 1 = some (.getfield 191, 3, 12, 6, 0) from rfl) (by decide) rfl rfl ?_
  have b2 : (0 : Int) ≤ iI s 79 ∧ iI s 79 ≤ 9 := I.1 79
  refine z_if_ne X (t := 17) (show cdA 194 4 = some (.ifCond .ne 13, 3, 1, 0, 0) from rfl) (by decide) (rng_to _) (fun g3 => ?_) (fun g3 => ?_)
  ·
    exact w_vret X.1 q hRt (ax_d X (show cdA 194 17 = some (.return_, 1, 0, 0, 0) from rfl)) (Nat.zero_le _) (Nat.zero_le _) ⟨_, rfl, I, F, rfl, by first | exact g3 | omega⟩
  ·
    refine z_aload_n X (x := A 179) (show cdA 194 7 = some (.aload_n 0, 1, 0, 0, 0) from rfl) (List.Mem.head _) ?_
    refine z_load_n X (x := x) (show cdA 194 8 = some (.iload_n 1, 1, 0, 0, 0) from rfl) (List.Mem.tail _ (List.Mem.head _)) ?_
    refine s_putI X 179 (show cdA 194 9 = some (.putfield 191, 3, 12, 6, 0) from rfl) (by decide) rfl rfl (by decide) rfl rfl rfl ?_
    obtain ⟨s4, hs4⟩ : ∃ x0, x0 = uI s 79 (Int32.ofInt x) := ⟨_, rfl⟩
    rw [← hs4]
    have Is4 : Bd s4 := by rw [hs4]; exact bd_I I (show (0 : Int) ≤ x ∧ x ≤ 9 by first | exact ⟨oq_2a6e3b50 p0.1, p0.2⟩ | omega) ⟨by first | exact oq_9462313e p0.1 | omega, by first | exact oq_f7e7bb0e p0.2 | omega⟩
    have Fs4 := fm_I (x := Int32.ofInt x) F (show 79 ∈ _ by decide)
    rw [← hs4] at Fs4
    have vs4 : iI s4 79 = x := by rw [hs4]; exact iI_u ⟨by first | exact oq_9462313e p0.1 | omega, by first | exact oq_f7e7bb0e p0.2 | omega⟩
    refine z_aload_n X (x := A 179) (show cdA 194 12 = some (.aload_n 0, 1, 0, 0, 0) from rfl) (List.Mem.head _) ?_
    refine z_load_n X (x := y) (show cdA 194 13 = some (.iload_n 2, 1, 0, 0, 0) from rfl) (List.Mem.tail _ (List.Mem.tail _ (List.Mem.head _))) ?_
    refine s_putI X 179 (show cdA 194 14 = some (.putfield 194, 3, 12, 7, 0) from rfl) (by decide) rfl rfl (by decide) rfl rfl rfl ?_
    obtain ⟨s5, hs5⟩ : ∃ x0, x0 = uI s4 80 (Int32.ofInt y) := ⟨_, rfl⟩
    rw [← hs5]
    have Is5 : Bd s5 := by rw [hs5]; exact bd_I Is4 (show ((-1) : Int) ≤ y ∧ y ≤ 400 by first | exact ⟨p1.1, p1.2⟩ | omega) ⟨by first | exact oq_97ee2c2a p1.1 | omega, by first | exact oq_5a8480eb p1.2 | omega⟩
    have Fs5 := fm_I (x := Int32.ofInt y) Fs4 (show 80 ∈ _ by decide)
    rw [← hs5] at Fs5
    have vs5 : iI s5 80 = y := by rw [hs5]; exact iI_u ⟨by first | exact oq_97ee2c2a p1.1 | omega, by first | exact oq_5a8480eb p1.2 | omega⟩
    have ws5_79 : iI s5 79 = iI s4 79 := by rw [hs5]; rfl
    exact w_vret X.1 q hRt (ax_d X (show cdA 194 17 = some (.return_, 1, 0, 0, 0) from rfl)) (Nat.zero_le _) (Nat.zero_le _) ⟨_, rfl, Is5, Fs5, rfl, by first | exact oq_ed8779e6 ws5_79 vs4 p0.1 | omega⟩
set_option maxRecDepth 4000 in
theorem k_beginText2 (G : GX l s0 D tys a0 dT) (I : Bd s) {x : Int} (p0 : 0 ≤ x ∧ x ≤ 200) : CT l s0 D A dT 197 (rmN 197) [.ref (A 179), .int (Int32.ofInt x)] s (fun o t => Bd t ∧ Fm [81, 75, 77, 78, 79, 80] [] s t ∧ o = .inl none ∧ (iI t 75 = x ∧ iI t 77 = 0 ∧ iI t 78 = 0 ∧ iI t 79 = 0 ∧ iI t 81 = 0)) := by
  refine ct_of G (by decide) (Nat.le_of_ble_eq_true rfl) (fun k X E hRt hXt q => ?_)
  show WS k 0 [(0, .ref (A 179)), (1, .int (Int32.ofInt x))] [] _ 0 0
  have F : Fm [81, 75, 77, 78, 79, 80] [] s s := fm_rf _ _ s
  have b1 : (0 : Int) ≤ iI s 75 ∧ iI s 75 ≤ 200 := I.1 75
  have b2 : (0 : Int) ≤ iI s 77 ∧ iI s 77 ≤ 400 := I.1 77
  have b3 : (0 : Int) ≤ iI s 78 ∧ iI s 78 ≤ 8 := I.1 78
  have b4 : (0 : Int) ≤ iI s 79 ∧ iI s 79 ≤ 9 := I.1 79
  have b5 : (0 : Int) ≤ iI s 81 ∧ iI s 81 ≤ 1 := I.1 81
  refine z_aload_n X (x := A 179) (show cdA 197 0 = some (.aload_n 0, 1, 0, 0, 0) from rfl) (List.Mem.head _) ?_
  refine z_const X (show cdA 197 1 = some (.iconst 0, 1, 0, 0, 0) from rfl) ?_
  refine s_putI X 179 (show cdA 197 2 = some (.putfield 181, 3, 12, 8, 0) from rfl) (by decide) rfl rfl (by decide) rfl rfl rfl ?_
  obtain ⟨s6, hs6⟩ : ∃ x0, x0 = uI s 81 (Int32.ofInt 0) := ⟨_, rfl⟩
  rw [← hs6]
  have Is6 : Bd s6 := by rw [hs6]; exact bd_I I (show (0 : Int) ≤ 0 ∧ 0 ≤ 1 by first | exact ⟨by decide, by decide⟩ | omega) (by decide)
  have Fs6 := fm_I (x := Int32.ofInt 0) F (show 81 ∈ _ by decide)
  rw [← hs6] at Fs6
  have vs6 : iI s6 81 = 0 := by rw [hs6]; exact iI_u (by decide)
  have ws6_75 : iI s6 75 = iI s 75 := by rw [hs6]; rfl
  have ws6_77 : iI s6 77 = iI s 77 := by rw [hs6]; rfl
  have ws6_78 : iI s6 78 = iI s 78 := by rw [hs6]; rfl
  have ws6_79 : iI s6 79 = iI s 79 := by rw [hs6]; rfl
  refine z_aload_n X (x := A 179) (show cdA 197 5 = some (.aload_n 0, 1, 0, 0, 0) from rfl) (List.Mem.head _) ?_
  refine z_load_n X (x := x) (show cdA 197 6 = some (.iload_n 1, 1, 0, 0, 0) from rfl) (List.Mem.tail _ (List.Mem.head _)) ?_
  refine s_putI X 179 (show cdA 197 7 = some (.putfield 178, 3, 12, 2, 0) from rfl) (by decide) rfl rfl (by decide) rfl rfl rfl ?_
  obtain ⟨s7, hs7⟩ : ∃ x0, x0 = uI s6 75 (Int32.ofInt x) := ⟨_, rfl⟩
  rw [← hs7]
  have Is7 : Bd s7 := by rw [hs7]; exact bd_I Is6 (show (0 : Int) ≤ x ∧ x ≤ 200 by first | exact ⟨p0.1, p0.2⟩ | omega) ⟨by first | exact oq_fa4e5087 p0.1 | omega, by first | exact oq_52af2b96 p0.2 | omega⟩
  have Fs7 := fm_I (x := Int32.ofInt x) Fs6 (show 75 ∈ _ by decide)
  rw [← hs7] at Fs7
  have vs7 : iI s7 75 = x := by rw [hs7]; exact iI_u ⟨by first | exact oq_fa4e5087 p0.1 | omega, by first | exact oq_52af2b96 p0.2 | omega⟩
  have ws7_77 : iI s7 77 = iI s6 77 := by rw [hs7]; rfl
  have ws7_78 : iI s7 78 = iI s6 78 := by rw [hs7]; rfl
  have ws7_79 : iI s7 79 = iI s6 79 := by rw [hs7]; rfl
  have ws7_81 : iI s7 81 = iI s6 81 := by rw [hs7]; rfl
  refine z_aload_n X (x := A 179) (show cdA 197 10 = some (.aload_n 0, 1, 0, 0, 0) from rfl) (List.Mem.head _) ?_
  refine z_const X (show cdA 197 11 = some (.iconst 0, 1, 0, 0, 0) from rfl) ?_
  refine s_putI X 179 (show cdA 197 12 = some (.putfield 184, 3, 12, 4, 0) from rfl) (by decide) rfl rfl (by decide) rfl rfl rfl ?_
  obtain ⟨s8, hs8⟩ : ∃ x0, x0 = uI s7 77 (Int32.ofInt 0) := ⟨_, rfl⟩
  rw [← hs8]
  have Is8 : Bd s8 := by rw [hs8]; exact bd_I Is7 (show (0 : Int) ≤ 0 ∧ 0 ≤ 400 by first | exact ⟨by decide, by decide⟩ | omega) (by decide)
  have Fs8 := fm_I (x := Int32.ofInt 0) Fs7 (show 77 ∈ _ by decide)
  rw [← hs8] at Fs8
  have vs8 : iI s8 77 = 0 := by rw [hs8]; exact iI_u (by decide)
  have ws8_75 : iI s8 75 = iI s7 75 := by rw [hs8]; rfl
  have ws8_78 : iI s8 78 = iI s7 78 := by rw [hs8]; rfl
  have ws8_79 : iI s8 79 = iI s7 79 := by rw [hs8]; rfl
  have ws8_81 : iI s8 81 = iI s7 81 := by rw [hs8]; rfl
  refine z_aload_n X (x := A 179) (show cdA 197 15 = some (.aload_n 0, 1, 0, 0, 0) from rfl) (List.Mem.head _) ?_
  refine z_const X (show cdA 197 16 = some (.iconst 0, 1, 0, 0, 0) from rfl) ?_
  refine s_putI X 179 (show cdA 197 17 = some (.putfield 213, 3, 12, 5, 0) from rfl) (by decide) rfl rfl (by decide) rfl rfl rfl ?_
  obtain ⟨s9, hs9⟩ : ∃ x0, x0 = uI s8 78 (Int32.ofInt 0) := ⟨_, rfl⟩
  rw [← hs9]
  have Is9 : Bd s9 := by rw [hs9]; exact bd_I Is8 (show (0 : Int) ≤ 0 ∧ 0 ≤ 8 by first | exact ⟨by decide, by decide⟩ | omega) (by decide)
  have Fs9 := fm_I (x := Int32.ofInt 0) Fs8 (show 78 ∈ _ by decide)
  rw [← hs9] at Fs9
  have vs9 : iI s9 78 = 0 := by rw [hs9]; exact iI_u (by decide)
  have ws9_75 : iI s9 75 = iI s8 75 := by rw [hs9]; rfl
  have ws9_77 : iI s9 77 = iI s8 77 := by rw [hs9]; rfl
  have ws9_79 : iI s9 79 = iI s8 79 := by rw [hs9]; rfl
  have ws9_81 : iI s9 81 = iI s8 81 := by rw [hs9]; rfl
  refine z_aload_n X (x := A 179) (show cdA 197 20 = some (.aload_n 0, 1, 0, 0, 0) from rfl) (List.Mem.head _) ?_
  refine z_const X (show cdA 197 21 = some (.iconst 0, 1, 0, 0, 0) from rfl) ?_
  refine s_putI X 179 (show cdA 197 22 = some (.putfield 191, 3, 12, 6, 0) from rfl) (by decide) rfl rfl (by decide) rfl rfl rfl ?_
  obtain ⟨s10, hs10⟩ : ∃ x0, x0 = uI s9 79 (Int32.ofInt 0) := ⟨_, rfl⟩
  rw [← hs10]
  have Is10 : Bd s10 := by rw [hs10]; exact bd_I Is9 (show (0 : Int) ≤ 0 ∧ 0 ≤ 9 by first | exact ⟨by decide, by decide⟩ | omega) (by decide)
  have Fs10 := fm_I (x := Int32.ofInt 0) Fs9 (show 79 ∈ _ by decide)
  rw [← hs10] at Fs10
  have vs10 : iI s10 79 = 0 := by rw [hs10]; exact iI_u (by decide)
  have ws10_75 : iI s10 75 = iI s9 75 := by rw [hs10]; rfl
  have ws10_77 : iI s10 77 = iI s9 77 := by rw [hs10]; rfl
  have ws10_78 : iI s10 78 = iI s9 78 := by rw [hs10]; rfl
  have ws10_81 : iI s10 81 = iI s9 81 := by rw [hs10]; rfl
  refine z_aload_n X (x := A 179) (show cdA 197 25 = some (.aload_n 0, 1, 0, 0, 0) from rfl) (List.Mem.head _) ?_
  refine z_const X (show cdA 197 26 = some (.iconst (-1), 1, 0, 0, 0) from rfl) ?_
  refine s_putI X 179 (show cdA 197 27 = some (.putfield 194, 3, 12, 7, 0) from rfl) (by decide) rfl rfl (by decide) rfl rfl rfl ?_
  obtain ⟨s11, hs11⟩ : ∃ x0, x0 = uI s10 80 (Int32.ofInt (-1)) := ⟨_, rfl⟩
  rw [← hs11]
  have Is11 : Bd s11 := by rw [hs11]; exact bd_I Is10 (show ((-1) : Int) ≤ (-1) ∧ (-1) ≤ 400 by first | exact ⟨by decide, by decide⟩ | omega) (by decide)
  have Fs11 := fm_I (x := Int32.ofInt (-1)) Fs10 (show 80 ∈ _ by decide)
  rw [← hs11] at Fs11
  have vs11 : iI s11 80 = (-1) := by rw [hs11]; exact iI_u (by decide)
  have ws11_75 : iI s11 75 = iI s10 75 := by rw [hs11]; rfl
  have ws11_77 : iI s11 77 = iI s10 77 := by rw [hs11]; rfl
  have ws11_78 : iI s11 78 = iI s10 78 := by rw [hs11]; rfl
  have ws11_79 : iI s11 79 = iI s10 79 := by rw [hs11]; rfl
  have ws11_81 : iI s11 81 = iI s10 81 := by rw [hs11]; rfl
  exact w_vret X.1 q hRt (ax_d X (show cdA 197 30 = some (.return_, 1, 0, 0, 0) from rfl)) (Nat.zero_le _) (Nat.zero_le _) ⟨_, rfl, Is11, Fs11, rfl, by first | exact ⟨oq_d5af8cc9 ws11_75 vs7 ws10_75 ws8_75 ws9_75, oq_264718cb ws11_77 ws10_77 ws9_77 vs8, oq_cd9cbf39 ws11_78 ws10_78 vs9, oq_e5e5d3d6 ws11_79 vs10, oq_d9a35dd1 ws11_81 ws10_81 ws9_81 ws8_81 ws7_81 vs6⟩ | omega⟩
set_option maxRecDepth 4000 in
theorem k_number2 (G : GX l s0 D tys a0 dT) {B : Nat → Int} {N : Int} (I : Bd s) (jFDB : FDB B N s) {x y : Int} (p0 : rng x) (p1 : rng y) (p2 : iI s 77 ≤ 390) : CT l s0 D A dT 196 (rmN 196) [.ref (A 179), .int (Int32.ofInt x), .int (Int32.ofInt y)] s (fun o t => Bd t ∧ Fm [77, 79, 80] [] s t ∧ FDB B N t ∧ ∃ e, o = .inl (some (.int (Int32.ofInt e))) ∧ rng e ∧ (NUR B N (iI s 77) x y e (iI s 79) (iI t 79) (iI t 77) ∧ iI s 77 ≤ iI t 77 ∧ (iI t 77 = iI s 77 ∨ iI t 77 ≤ N))) := by
  refine ct_of G (by decide) (Nat.le_of_ble_eq_true rfl) (fun k X E hRt hXt q => ?_)
  show WS k 0 [(0, .ref (A 179)), (1, .int (Int32.ofInt x)), (2, .int (Int32.ofInt y))] [] _ 0 0
  have F : Fm [77, 79, 80] [] s s := fm_rf _ _ s
  have hN := jFDB.2.1
  have hW := jFDB.2.2
  have b1 : (0 : Int) ≤ iI s 77 ∧ iI s 77 ≤ 400 := I.1 77
  have b2 : (0 : Int) ≤ iI s 75 ∧ iI s 75 ≤ 200 := I.1 75
  have b3 : (0 : Int) ≤ iI s 79 ∧ iI s 79 ≤ 9 := I.1 79
  have L35 : ∀ (n : Nat) (t : PS) (xv yv bv vv : Int), Bd t → Fm [77, 79, 80] [] s t → FDB B N t → (nmV B N (iI t 77) vv = nmV B N (sk B N (iI s 77)) 0 ∧ nmE B N (iI t 77) vv = nmE B N (sk B N (iI s 77)) 0 ∧ NDG B N (iI s 77) (iI s 79) (iI t 79)) → (iI s 77 ≤ iI t 77 ∧ (iI t 77 = iI s 77 ∨ iI t 77 ≤ N) ∧ xv = x ∧ yv = y ∧ (0 ≤ bv ∧ bv ≤ 400) ∧ 0 ≤ vv ∧ vv ≤ 100000) → (N - iI t 77 : Int).toNat < n → (∀ (t' : PS) (vv' : Int), Bd t' → Fm [77, 79, 80] [] s t' → FDB B N t' → (vv' = nmV B N (sk B N (iI s 77)) 0 ∧ iI t' 77 = nmE B N (sk B N (iI s 77)) 0 ∧ NDG B N (iI s 77) (iI s 79) (iI t' 79)) → (iI s 77 ≤ iI t' 77 ∧ (iI t' 77 = iI s 77 ∨ iI t' 77 ≤ N) ∧ xv = x ∧ yv = y ∧ (0 ≤ bv ∧ bv ≤ 400) ∧ 0 ≤ vv' ∧ vv' ≤ 100000) → WS k 97 [(0, .ref (A 179)), (1, .int (Int32.ofInt xv)), (2, .int (Int32.ofInt yv)), (3, .int (Int32.ofInt bv)), (4, .int (Int32.ofInt vv'))] [] (Wd A dT t') 0 0) → WS k 35 [(0, .ref (A 179)), (1, .int (Int32.ofInt xv)), (2, .int (Int32.ofInt yv)), (3, .int (Int32.ofInt bv)), (4, .int (Int32.ofInt vv))] [] (Wd A dT t) 0 0 := by
    intro n
    induction n with
    | zero =>
      intro t xv yv bv vv I F jjFDB hq hi hm kx
      exact absurd hm (Nat.not_lt_zero _)
    | succ n ih =>
      intro t xv yv bv vv I F jjFDB hq hi hm kx
      have b1001 : (0 : Int) ≤ iI t 77 ∧ iI t 77 ≤ 400 := I.1 77
      have b1002 : (0 : Int) ≤ iI t 75 ∧ iI t 75 ≤ 200 := I.1 75
      have b1003 : (0 : Int) ≤ iI t 79 ∧ iI t 79 ≤ 9 := I.1 79
      have hN := jjFDB.2.1
      have hW := jjFDB.2.2
      refine z_aload_n X (x := A 179) (show cdA 196 35 = some (.aload_n 0, 1, 0, 0, 0) from rfl) (List.Mem.head _) ?_
      refine z_aload_n X (x := A 179) (show cdA 196 36 = some (.aload_n 0, 1, 0, 0, 0) from rfl) (List.Mem.head _) ?_
      refine z_getI X 179 (show cdA 196 37 = some (.getfield 184, 3, 12, 4, 0) from rfl) (by decide) rfl rfl ?_
      have b1004 : (0 : Int) ≤ iI t 77 ∧ iI t 77 ≤ 400 := I.1 77
      refine z_callV X 179 (rm := rmN 192) (As := [.int (Int32.ofInt (iI t 77))]) (st := []) (show cdA 196 40 = some (.invokevirtual 187, 3, 192, 0, 0) from rfl) rfl (by decide) rfl (by rw [E.1, E.2.1, E.2.2.1]; exact k_byteAt2 G I jjFDB (by first | exact ⟨b1004.1, oq_5a8480eb b1004.2⟩ | omega)) ⟨by rw [E.2.2.2]; exact (show (rmN 192).frames + 1 ≤ (rmN 196).frames by decide), by rw [E.2.2.2]; exact (show 8 + (mNL (miB 192) + 11) + (rmN 192).locals ≤ (rmN 196).locals by decide), by rw [E.2.2.2]; exact (show 0 + (rmN 192).cells ≤ (rmN 196).cells by decide), by rw [E.2.2.2]; exact (show 0 + (rmN 192).slots ≤ (rmN 196).slots by decide)⟩ (Nat.le_of_ble_eq_true rfl) (fun vv s1005 hq => ?_) (fun ee s1005 hq => ?_)
      rotate_left
      · obtain ⟨rfl, e1006, hv, hrs1005, hps1005⟩ := hq; cases hv
      obtain ⟨rfl, e1006, hv, hrs1005, hps1005⟩ := hq
      cases hv
      show WS k 43 [(0, .ref (A 179)), (1, .int (Int32.ofInt xv)), (2, .int (Int32.ofInt yv)), (3, .int (Int32.ofInt bv)), (4, .int (Int32.ofInt vv))] [.int (Int32.ofInt e1006)] (Wd A dT t) 0 0
      refine z_callS X (rm := rmN 195) (As := [.int (Int32.ofInt e1006)]) (st := []) (show cdA 196 43 = some (.invokestatic 200, 3, 195, 1, 0) from rfl) rfl (by rw [E.1, E.2.1, E.2.2.1]; exact k_isDigit2 G I (by first | exact ⟨oq_1b38bc36 hps1005, oq_eabbb498 hps1005⟩ | omega)) ⟨by rw [E.2.2.2]; exact (show (rmN 195).frames + 1 ≤ (rmN 196).frames by decide), by rw [E.2.2.2]; exact (show 8 + (mNL (miB 195) + 11) + (rmN 195).locals ≤ (rmN 196).locals by decide), by rw [E.2.2.2]; exact (show 0 + (rmN 195).cells ≤ (rmN 196).cells by decide), by rw [E.2.2.2]; exact (show 0 + (rmN 195).slots ≤ (rmN 196).slots by decide)⟩ (Nat.le_of_ble_eq_true rfl) (fun vv s1007 hq => ?_) (fun ee s1007 hq => ?_)
      rotate_left
      · obtain ⟨rfl, e1008, hv, hrs1007, hps1007⟩ := hq; cases hv
      obtain ⟨rfl, e1008, hv, hrs1007, hps1007⟩ := hq
      cases hv
      show WS k 46 [(0, .ref (A 179)), (1, .int (Int32.ofInt xv)), (2, .int (Int32.ofInt yv)), (3, .int (Int32.ofInt bv)), (4, .int (Int32.ofInt vv))] [.int (Int32.ofInt e1008)] (Wd A dT t) 0 0
      refine z_if_eq X (t := 97) (show cdA 196 46 = some (.ifCond .eq 51, 3, 0, 0, 0) from rfl) (by decide) hrs1007 (fun g1009 => ?_) (fun g1009 => ?_)
      ·
        refine WS_lv (lv := [(0, .ref (A 179)), (1, .int (Int32.ofInt xv)), (2, .int (Int32.ofInt yv)), (3, .int (Int32.ofInt bv)), (4, .int (Int32.ofInt vv))]) (List.forall_mem_cons.mpr ⟨(List.Mem.head _), (List.forall_mem_cons.mpr ⟨(List.Mem.tail _ (List.Mem.head _)), (List.forall_mem_cons.mpr ⟨(List.Mem.tail _ (List.Mem.tail _ (List.Mem.head _))), (List.forall_mem_cons.mpr ⟨(List.Mem.tail _ (List.Mem.tail _ (List.Mem.tail _ (List.Mem.head _)))), (List.forall_mem_cons.mpr ⟨(List.Mem.tail _ (List.Mem.tail _ (List.Mem.tail _ (List.Mem.tail _ (List.Mem.head _))))), (fun q h => absurd h List.not_mem_nil)⟩)⟩)⟩)⟩)⟩) ?_
        exact kx _ vv I F jjFDB ⟨(nmV_stop (by omega)).symm.trans hq.1, (nmE_stop (by omega)).symm.trans hq.2.1, hq.2.2⟩ (by first | exact ⟨hi.1, hi.2.1, hi.2.2.1, hi.2.2.2.1, And.intro (hi.2.2.2.2.1.1) (hi.2.2.2.2.1.2), hi.2.2.2.2.2.1, hi.2.2.2.2.2.2⟩ | omega)
      ·
        refine z_bipush X (show cdA 196 49 = some (.bipush 10, 2, 0, 0, 10) from rfl) ?_
        refine z_load X (x := vv) (show cdA 196 51 = some (.iload 4, 2, 0, 0, 0) from rfl) (List.Mem.tail _ (List.Mem.tail _ (List.Mem.tail _ (List.Mem.tail _ (List.Mem.head _))))) ?_
        refine z_mul X (show cdA 196 53 = some (.imul, 1, 0, 0, 0) from rfl) ?_
        refine z_aload_n X (x := A 179) (show cdA 196 54 = some (.aload_n 0, 1, 0, 0, 0) from rfl) (List.Mem.head _) ?_
        refine z_aload_n X (x := A 179) (show cdA 196 55 = some (.aload_n 0, 1, 0, 0, 0) from rfl) (List.Mem.head _) ?_
        refine z_getI X 179 (show cdA 196 56 = some (.getfield 184, 3, 12, 4, 0) from rfl) (by decide) rfl rfl ?_
        have b1010 : (0 : Int) ≤ iI t 77 ∧ iI t 77 ≤ 400 := I.1 77
        refine z_callV X 179 (rm := rmN 192) (As := [.int (Int32.ofInt (iI t 77))]) (st := [.int (Int32.ofInt (10 * vv))]) (show cdA 196 59 = some (.invokevirtual 187, 3, 192, 0, 0) from rfl) rfl (by decide) rfl (by rw [E.1, E.2.1, E.2.2.1]; exact k_byteAt2 G I jjFDB (by first | exact ⟨b1010.1, oq_5a8480eb b1010.2⟩ | omega)) ⟨by rw [E.2.2.2]; exact (show (rmN 192).frames + 1 ≤ (rmN 196).frames by decide), by rw [E.2.2.2]; exact (show 8 + (mNL (miB 192) + 11) + (rmN 192).locals ≤ (rmN 196).locals by decide), by rw [E.2.2.2]; exact (show 0 + (rmN 192).cells ≤ (rmN 196).cells by decide), by rw [E.2.2.2]; exact (show 0 + (rmN 192).slots ≤ (rmN 196).slots by decide)⟩ (Nat.le_of_ble_eq_true rfl) (fun vv s1011 hq => ?_) (fun ee s1011 hq => ?_)
        rotate_left
        · obtain ⟨rfl, e1012, hv, hrs1011, hps1011⟩ := hq; cases hv
        obtain ⟨rfl, e1012, hv, hrs1011, hps1011⟩ := hq
        cases hv
        show WS k 62 [(0, .ref (A 179)), (1, .int (Int32.ofInt xv)), (2, .int (Int32.ofInt yv)), (3, .int (Int32.ofInt bv)), (4, .int (Int32.ofInt vv))] [.int (Int32.ofInt e1012), .int (Int32.ofInt (10 * vv))] (Wd A dT t) 0 0
        refine z_add X (show cdA 196 62 = some (.iadd, 1, 0, 0, 0) from rfl) ?_
        refine z_bipush X (show cdA 196 63 = some (.bipush 48, 2, 0, 0, 48) from rfl) ?_
        refine z_sub X (show cdA 196 65 = some (.isub, 1, 0, 0, 0) from rfl) ?_
        refine z_store X (lv' := [(4, .int (Int32.ofInt (((10 * vv) + e1012) - 48))), (0, .ref (A 179)), (1, .int (Int32.ofInt xv)), (2, .int (Int32.ofInt yv)), (3, .int (Int32.ofInt bv))]) (show cdA 196 66 = some (.istore 4, 2, 0, 0, 0) from rfl) (by decide) (fun _ h => h) ?_
        refine z_load X (x := (((10 * vv) + e1012) - 48)) (show cdA 196 68 = some (.iload 4, 2, 0, 0, 0) from rfl) (List.Mem.head _) ?_
        refine z_ldc X (show cdA 196 70 = some (.ldc 208, 2, 0, 0, 100000) from rfl) ?_
        refine z_icmp_le X (t := 80) (show cdA 196 72 = some (.if_icmp .le 8, 3, 5, 0, 0) from rfl) (by decide) ⟨by first | exact oq_f9117428 hps1011 hi.2.2.2.2.2.1 | omega, by first | exact oq_84138788 hps1011 hi.2.2.2.2.2.2 | omega⟩ (by decide) (fun g1013 => ?_) (fun g1013 => ?_)
        ·
          refine z_load X (x := (((10 * vv) + e1012) - 48)) (show cdA 196 80 = some (.iload 4, 2, 0, 0, 0) from rfl) (List.Mem.head _) ?_
          refine z_store X (lv' := [(4, .int (Int32.ofInt (((10 * vv) + e1012) - 48))), (0, .ref (A 179)), (1, .int (Int32.ofInt xv)), (2, .int (Int32.ofInt yv)), (3, .int (Int32.ofInt bv))]) (show cdA 196 82 = some (.istore 4, 2, 0, 0, 0) from rfl) (by decide) (fun _ h => h) ?_
          refine z_aload_n X (x := A 179) (show cdA 196 84 = some (.aload_n 0, 1, 0, 0, 0) from rfl) (List.Mem.tail _ (List.Mem.head _)) ?_
          refine w_dup X.1 (ax_d X (show cdA 196 85 = some (.dup, 1, 0, 0, 0) from rfl)) rfl ?_
          refine z_getI X 179 (show cdA 196 86 = some (.getfield 184, 3, 12, 4, 0) from rfl) (by decide) rfl rfl ?_
          have b1014 : (0 : Int) ≤ iI t 77 ∧ iI t 77 ≤ 400 := I.1 77
          refine z_const X (show cdA 196 89 = some (.iconst 1, 1, 0, 0, 0) from rfl) ?_
          refine z_add X (show cdA 196 90 = some (.iadd, 1, 0, 0, 0) from rfl) ?_
          refine s_putI X 179 (show cdA 196 91 = some (.putfield 184, 3, 12, 4, 0) from rfl) (by decide) rfl rfl (by decide) rfl rfl rfl ?_
          obtain ⟨s1015, hs1015⟩ : ∃ x0, x0 = uI t 77 (Int32.ofInt ((iI t 77) + 1)) := ⟨_, rfl⟩
          rw [← hs1015]
          have Is1015 : Bd s1015 := by rw [hs1015]; exact bd_I I (show (0 : Int) ≤ ((iI t 77) + 1) ∧ ((iI t 77) + 1) ≤ 400 by first | exact ⟨oq_54f49eb5 b1014.1, by omega⟩ | omega) ⟨by first | exact oq_74de1e16 b1014.1 | omega, by first | exact oq_964ce197 b1014.2 | omega⟩
          have Fs1015 := fm_I (x := Int32.ofInt ((iI t 77) + 1)) F (show 77 ∈ _ by decide)
          rw [← hs1015] at Fs1015
          have vs1015 : iI s1015 77 = ((iI t 77) + 1) := by rw [hs1015]; exact iI_u ⟨by first | exact oq_74de1e16 b1014.1 | omega, by first | exact oq_964ce197 b1014.2 | omega⟩
          have ws1015_75 : iI s1015 75 = iI t 75 := by rw [hs1015]; rfl
          have ws1015_79 : iI s1015 79 = iI t 79 := by rw [hs1015]; rfl
          have fs1015 : Fm [77] [] t s1015 := by rw [hs1015]; exact fm_I (fm_rf _ _ _) (show 77 ∈ _ by decide)
          have JFDB_s1015 : FDB B N s1015 := FDB_fm fs1015 (by decide) jjFDB
          refine z_goto X (t := 35) (show cdA 196 94 = some (.goto (-59), 3, 0, 0, 0) from rfl) (by decide) ?_
          refine WS_lv (lv := [(0, .ref (A 179)), (1, .int (Int32.ofInt xv)), (2, .int (Int32.ofInt yv)), (3, .int (Int32.ofInt bv)), (4, .int (Int32.ofInt (((10 * vv) + e1012) - 48)))]) (List.forall_mem_cons.mpr ⟨(List.Mem.tail _ (List.Mem.head _)), (List.forall_mem_cons.mpr ⟨(List.Mem.tail _ (List.Mem.tail _ (List.Mem.head _))), (List.forall_mem_cons.mpr ⟨(List.Mem.tail _ (List.Mem.tail _ (List.Mem.tail _ (List.Mem.head _)))), (List.forall_mem_cons.mpr ⟨(List.Mem.tail _ (List.Mem.tail _ (List.Mem.tail _ (List.Mem.tail _ (List.Mem.head _))))), (List.forall_mem_cons.mpr ⟨(List.Mem.head _), (fun q h => absurd h List.not_mem_nil)⟩)⟩)⟩)⟩)⟩) ?_
          exact ih _ xv yv bv (((10 * vv) + e1012) - 48) Is1015 Fs1015 JFDB_s1015 ⟨by rw [show iI s1015 77 = iI t 77 + 1 by omega, show (((10 * vv) + e1012) - 48) = cap (10 * vv + B (iI t 77).toNat - 48) by unfold cap; split <;> omega, ← nmV_dig (by omega) (by omega) (by omega)]; exact hq.1, by rw [show iI s1015 77 = iI t 77 + 1 by omega, show (((10 * vv) + e1012) - 48) = cap (10 * vv + B (iI t 77).toNat - 48) by unfold cap; split <;> omega, ← nmE_dig (by omega) (by omega) (by omega)]; exact hq.2.1, by rw [show iI s1015 79 = iI t 79 by omega]; exact hq.2.2⟩ (by first | exact ⟨oq_d12e8ac3 vs1015 hi.1, oq_644c4c0f vs1015 hps1011 g1009 hps1007 hps1005, hi.2.2.1, hi.2.2.2.1, And.intro (hi.2.2.2.2.1.1) (hi.2.2.2.2.1.2), oq_e46695f2 hps1011 g1009 hps1007 hps1005 hi.2.2.2.2.2.1, g1013⟩ | omega) (by first | exact qk_me hm (oq_563dee29 vs1015) (oq_780de08e hps1011 g1009 hps1007 hps1005) | omega) kx
        ·
          refine z_ldc X (show cdA 196 75 = some (.ldc 208, 2, 0, 0, 100000) from rfl) ?_
          refine z_goto X (t := 82) (show cdA 196 77 = some (.goto 5, 3, 0, 0, 0) from rfl) (by decide) ?_
          refine z_store X (lv' := [(4, .int (Int32.ofInt 100000)), (0, .ref (A 179)), (1, .int (Int32.ofInt xv)), (2, .int (Int32.ofInt yv)), (3, .int (Int32.ofInt bv))]) (show cdA 196 82 = some (.istore 4, 2, 0, 0, 0) from rfl) (by decide) (fun _ h => h) ?_
          refine z_aload_n X (x := A 179) (show cdA 196 84 = some (.aload_n 0, 1, 0, 0, 0) from rfl) (List.Mem.tail _ (List.Mem.head _)) ?_
          refine w_dup X.1 (ax_d X (show cdA 196 85 = some (.dup, 1, 0, 0, 0) from rfl)) rfl ?_
          refine z_getI X 179 (show cdA 196 86 = some (.getfield 184, 3, 12, 4, 0) from rfl) (by decide) rfl rfl ?_
          have b1016 : (0 : Int) ≤ iI t 77 ∧ iI t 77 ≤ 400 := I.1 77
          refine z_const X (show cdA 196 89 = some (.iconst 1, 1, 0, 0, 0) from rfl) ?_
          refine z_add X (show cdA 196 90 = some (.iadd, 1, 0, 0, 0) from rfl) ?_
          refine s_putI X 179 (show cdA 196 91 = some (.putfield 184, 3, 12, 4, 0) from rfl) (by decide) rfl rfl (by decide) rfl rfl rfl ?_
          obtain ⟨s1017, hs1017⟩ : ∃ x0, x0 = uI t 77 (Int32.ofInt ((iI t 77) + 1)) := ⟨_, rfl⟩
          rw [← hs1017]
          have Is1017 : Bd s1017 := by rw [hs1017]; exact bd_I I (show (0 : Int) ≤ ((iI t 77) + 1) ∧ ((iI t 77) + 1) ≤ 400 by first | exact ⟨oq_54f49eb5 b1016.1, by omega⟩ | omega) ⟨by first | exact oq_74de1e16 b1016.1 | omega, by first | exact oq_964ce197 b1016.2 | omega⟩
          have Fs1017 := fm_I (x := Int32.ofInt ((iI t 77) + 1)) F (show 77 ∈ _ by decide)
          rw [← hs1017] at Fs1017
          have vs1017 : iI s1017 77 = ((iI t 77) + 1) := by rw [hs1017]; exact iI_u ⟨by first | exact oq_74de1e16 b1016.1 | omega, by first | exact oq_964ce197 b1016.2 | omega⟩
          have ws1017_75 : iI s1017 75 = iI t 75 := by rw [hs1017]; rfl
          have ws1017_79 : iI s1017 79 = iI t 79 := by rw [hs1017]; rfl
          have fs1017 : Fm [77] [] t s1017 := by rw [hs1017]; exact fm_I (fm_rf _ _ _) (show 77 ∈ _ by decide)
          have JFDB_s1017 : FDB B N s1017 := FDB_fm fs1017 (by decide) jjFDB
          refine z_goto X (t := 35) (show cdA 196 94 = some (.goto (-59), 3, 0, 0, 0) from rfl) (by decide) ?_
          refine WS_lv (lv := [(0, .ref (A 179)), (1, .int (Int32.ofInt xv)), (2, .int (Int32.ofInt yv)), (3, .int (Int32.ofInt bv)), (4, .int (Int32.ofInt 100000))]) (List.forall_mem_cons.mpr ⟨(List.Mem.tail _ (List.Mem.head _)), (List.forall_mem_cons.mpr ⟨(List.Mem.tail _ (List.Mem.tail _ (List.Mem.head _))), (List.forall_mem_cons.mpr ⟨(List.Mem.tail _ (List.Mem.tail _ (List.Mem.tail _ (List.Mem.head _)))), (List.forall_mem_cons.mpr ⟨(List.Mem.tail _ (List.Mem.tail _ (List.Mem.tail _ (List.Mem.tail _ (List.Mem.head _))))), (List.forall_mem_cons.mpr ⟨(List.Mem.head _), (fun q h => absurd h List.not_mem_nil)⟩)⟩)⟩)⟩)⟩) ?_
          exact ih _ xv yv bv 100000 Is1017 Fs1017 JFDB_s1017 ⟨by rw [show iI s1017 77 = iI t 77 + 1 by omega, show 100000 = cap (10 * vv + B (iI t 77).toNat - 48) by unfold cap; split <;> omega, ← nmV_dig (by omega) (by omega) (by omega)]; exact hq.1, by rw [show iI s1017 77 = iI t 77 + 1 by omega, show 100000 = cap (10 * vv + B (iI t 77).toNat - 48) by unfold cap; split <;> omega, ← nmE_dig (by omega) (by omega) (by omega)]; exact hq.2.1, by rw [show iI s1017 79 = iI t 79 by omega]; exact hq.2.2⟩ (by first | exact ⟨oq_d12e8ac3 vs1017 hi.1, oq_644c4c0f vs1017 hps1011 g1009 hps1007 hps1005, hi.2.2.1, hi.2.2.2.1, And.intro (hi.2.2.2.2.1.1) (hi.2.2.2.2.1.2), by decide, by decide⟩ | omega) (by first | exact qk_me hm (oq_563dee29 vs1017) (oq_780de08e hps1011 g1009 hps1007 hps1005) | omega) kx
  refine z_aload_n X (x := A 179) (show cdA 196 0 = some (.aload_n 0, 1, 0, 0, 0) from rfl) (List.Mem.head _) ?_
  refine z_callV X 179 (rm := rmN 193) (As := []) (st := []) (show cdA 196 1 = some (.invokevirtual 197, 3, 193, 0, 0) from rfl) rfl (by decide) rfl (by rw [E.1, E.2.1, E.2.2.1]; exact k_blanks2 G I jFDB (by first | exact p2 | omega)) ⟨by rw [E.2.2.2]; exact (show (rmN 193).frames + 1 ≤ (rmN 196).frames by decide), by rw [E.2.2.2]; exact (show 8 + (mNL (miB 193) + 11) + (rmN 193).locals ≤ (rmN 196).locals by decide), by rw [E.2.2.2]; exact (show 0 + (rmN 193).cells ≤ (rmN 196).cells by decide), by rw [E.2.2.2]; exact (show 0 + (rmN 193).slots ≤ (rmN 196).slots by decide)⟩ (Nat.le_of_ble_eq_true rfl) (fun vv s4 hq => ?_) (fun ee s4 hq => ?_)
  rotate_left
  · obtain ⟨Is4, Fs4, JFDB_s4, hv, hps4⟩ := hq; cases hv
  obtain ⟨Is4, Fs4, JFDB_s4, hv, hps4⟩ := hq
  cases hv
  have Gs4 := fm_ts F Fs4 (by decide) (by decide)
  have JFDB_s4 : FDB B N s4 := FDB_fm Fs4 (by decide) jFDB
  have b6 : (0 : Int) ≤ iI s4 77 ∧ iI s4 77 ≤ 400 := Is4.1 77
  have ws4_75 : iI s4 75 = iI s 75 := fm_i Fs4 (by decide)
  have ws4_79 : iI s4 79 = iI s 79 := fm_i Fs4 (by decide)
  show WS k 4 [(0, .ref (A 179)), (1, .int (Int32.ofInt x)), (2, .int (Int32.ofInt y))] [] (Wd A dT s4) 0 0
  refine z_aload_n X (x := A 179) (show cdA 196 4 = some (.aload_n 0, 1, 0, 0, 0) from rfl) (List.Mem.head _) ?_
  refine z_getI X 179 (show cdA 196 5 = some (.getfield 184, 3, 12, 4, 0) from rfl) (by decide) rfl rfl ?_
  have b7 : (0 : Int) ≤ iI s4 77 ∧ iI s4 77 ≤ 400 := Is4.1 77
  refine z_store_n X (lv' := [(3, .int (Int32.ofInt (iI s4 77))), (0, .ref (A 179)), (1, .int (Int32.ofInt x)), (2, .int (Int32.ofInt y))]) (show cdA 196 8 = some (.istore_n 3, 1, 0, 0, 0) from rfl) (by decide) (fun _ h => h) ?_
  refine z_const X (show cdA 196 9 = some (.iconst 0, 1, 0, 0, 0) from rfl) ?_
  refine z_store X (lv' := [(4, .int (Int32.ofInt 0)), (3, .int (Int32.ofInt (iI s4 77))), (0, .ref (A 179)), (1, .int (Int32.ofInt x)), (2, .int (Int32.ofInt y))]) (show cdA 196 10 = some (.istore 4, 2, 0, 0, 0) from rfl) (by decide) (fun _ h => h) ?_
  refine z_aload_n X (x := A 179) (show cdA 196 12 = some (.aload_n 0, 1, 0, 0, 0) from rfl) (List.Mem.tail _ (List.Mem.tail _ (List.Mem.head _))) ?_
  refine z_aload_n X (x := A 179) (show cdA 196 13 = some (.aload_n 0, 1, 0, 0, 0) from rfl) (List.Mem.tail _ (List.Mem.tail _ (List.Mem.head _))) ?_
  refine z_getI X 179 (show cdA 196 14 = some (.getfield 184, 3, 12, 4, 0) from rfl) (by decide) rfl rfl ?_
  have b8 : (0 : Int) ≤ iI s4 77 ∧ iI s4 77 ≤ 400 := Is4.1 77
  refine z_callV X 179 (rm := rmN 192) (As := [.int (Int32.ofInt (iI s4 77))]) (st := []) (show cdA 196 17 = some (.invokevirtual 187, 3, 192, 0, 0) from rfl) rfl (by decide) rfl (by rw [E.1, E.2.1, E.2.2.1]; exact k_byteAt2 G Is4 JFDB_s4 (by first | exact ⟨b8.1, oq_5a8480eb b8.2⟩ | omega)) ⟨by rw [E.2.2.2]; exact (show (rmN 192).frames + 1 ≤ (rmN 196).frames by decide), by rw [E.2.2.2]; exact (show 8 + (mNL (miB 192) + 11) + (rmN 192).locals ≤ (rmN 196).locals by decide), by rw [E.2.2.2]; exact (show 0 + (rmN 192).cells ≤ (rmN 196).cells by decide), by rw [E.2.2.2]; exact (show 0 + (rmN 192).slots ≤ (rmN 196).slots by decide)⟩ (Nat.le_of_ble_eq_true rfl) (fun vv s9 hq => ?_) (fun ee s9 hq => ?_)
  rotate_left
  · obtain ⟨rfl, e10, hv, hrs9, hps9⟩ := hq; cases hv
  obtain ⟨rfl, e10, hv, hrs9, hps9⟩ := hq
  cases hv
  show WS k 20 [(4, .int (Int32.ofInt 0)), (3, .int (Int32.ofInt (iI s4 77))), (0, .ref (A 179)), (1, .int (Int32.ofInt x)), (2, .int (Int32.ofInt y))] [.int (Int32.ofInt e10)] (Wd A dT s4) 0 0
  refine z_callS X (rm := rmN 195) (As := [.int (Int32.ofInt e10)]) (st := []) (show cdA 196 20 = some (.invokestatic 200, 3, 195, 1, 0) from rfl) rfl (by rw [E.1, E.2.1, E.2.2.1]; exact k_isDigit2 G Is4 (by first | exact ⟨oq_1b38bc36 hps9, oq_eabbb498 hps9⟩ | omega)) ⟨by rw [E.2.2.2]; exact (show (rmN 195).frames + 1 ≤ (rmN 196).frames by decide), by rw [E.2.2.2]; exact (show 8 + (mNL (miB 195) + 11) + (rmN 195).locals ≤ (rmN 196).locals by decide), by rw [E.2.2.2]; exact (show 0 + (rmN 195).cells ≤ (rmN 196).cells by decide), by rw [E.2.2.2]; exact (show 0 + (rmN 195).slots ≤ (rmN 196).slots by decide)⟩ (Nat.le_of_ble_eq_true rfl) (fun vv s11 hq => ?_) (fun ee s11 hq => ?_)
  rotate_left
  · obtain ⟨rfl, e12, hv, hrs11, hps11⟩ := hq; cases hv
  obtain ⟨rfl, e12, hv, hrs11, hps11⟩ := hq
  cases hv
  show WS k 23 [(4, .int (Int32.ofInt 0)), (3, .int (Int32.ofInt (iI s4 77))), (0, .ref (A 179)), (1, .int (Int32.ofInt x)), (2, .int (Int32.ofInt y))] [.int (Int32.ofInt e12)] (Wd A dT s4) 0 0
  refine z_if_ne X (t := 35) (show cdA 196 23 = some (.ifCond .ne 12, 3, 1, 0, 0) from rfl) (by decide) hrs11 (fun g13 => ?_) (fun g13 => ?_)
  ·
    refine WS_lv (lv := [(0, .ref (A 179)), (1, .int (Int32.ofInt x)), (2, .int (Int32.ofInt y)), (3, .int (Int32.ofInt (iI s4 77))), (4, .int (Int32.ofInt 0))]) (List.forall_mem_cons.mpr ⟨(List.Mem.tail _ (List.Mem.tail _ (List.Mem.head _))), (List.forall_mem_cons.mpr ⟨(List.Mem.tail _ (List.Mem.tail _ (List.Mem.tail _ (List.Mem.head _)))), (List.forall_mem_cons.mpr ⟨(List.Mem.tail _ (List.Mem.tail _ (List.Mem.tail _ (List.Mem.tail _ (List.Mem.head _))))), (List.forall_mem_cons.mpr ⟨(List.Mem.tail _ (List.Mem.head _)), (List.forall_mem_cons.mpr ⟨(List.Mem.head _), (fun q h => absurd h List.not_mem_nil)⟩)⟩)⟩)⟩)⟩) ?_
    refine L35 ((N - iI s4 77 : Int).toNat + 1) s4 x y (iI s4 77) 0 Is4 Gs4 JFDB_s4 ⟨by rw [show iI s4 77 = sk B N (iI s 77) by omega], by rw [show iI s4 77 = sk B N (iI s 77) by omega], (by first | exact ndg_y (z := (iI s4 77)) (by omega) (by omega) (by omega) (by omega) (by omega) | exact ndg_n (z := (iI s4 77)) (by omega) (by omega) (by omega))⟩ (by first | exact ⟨hps4.2.1, hps4.2.2, by decide, by decide, And.intro (b8.1) (b8.2), by decide, by decide⟩ | omega) (Nat.lt_succ_self _) ?_
    intro s14 x15 Is14 Fs14 JFDB_s14 Qs14 hs14
    have b16 : (0 : Int) ≤ iI s14 77 ∧ iI s14 77 ≤ 400 := Is14.1 77
    have b17 : (0 : Int) ≤ iI s14 75 ∧ iI s14 75 ≤ 200 := Is14.1 75
    have b18 : (0 : Int) ≤ iI s14 79 ∧ iI s14 79 ≤ 9 := Is14.1 79
    have hNs14 := JFDB_s14.2.1
    have hWs14 := JFDB_s14.2.2
    refine z_load X (x := x15) (show cdA 196 97 = some (.iload 4, 2, 0, 0, 0) from rfl) (List.Mem.tail _ (List.Mem.tail _ (List.Mem.tail _ (List.Mem.tail _ (List.Mem.head _))))) ?_
    refine z_load_n X (x := x) (show cdA 196 99 = some (.iload_n 1, 1, 0, 0, 0) from rfl) (List.Mem.tail _ (List.Mem.head _)) ?_
    refine z_load_n X (x := y) (show cdA 196 100 = some (.iload_n 2, 1, 0, 0, 0) from rfl) (List.Mem.tail _ (List.Mem.tail _ (List.Mem.head _))) ?_
    refine z_callS X (rm := rmN 188) (As := [.int (Int32.ofInt x15), .int (Int32.ofInt x), .int (Int32.ofInt y)]) (st := []) (show cdA 196 101 = some (.invokestatic 209, 3, 188, 1, 0) from rfl) rfl (by rw [E.1, E.2.1, E.2.2.1]; exact k_in2 G Is14 (by first | exact ⟨oq_fa4e5087 hs14.2.2.2.2.2.1, oq_25953902 hs14.2.2.2.2.2.2⟩ | omega) (by first | exact ⟨p0.1, p0.2⟩ | omega) (by first | exact ⟨p1.1, p1.2⟩ | omega)) ⟨by rw [E.2.2.2]; exact (show (rmN 188).frames + 1 ≤ (rmN 196).frames by decide), by rw [E.2.2.2]; exact (show 8 + (mNL (miB 188) + 11) + (rmN 188).locals ≤ (rmN 196).locals by decide), by rw [E.2.2.2]; exact (show 0 + (rmN 188).cells ≤ (rmN 196).cells by decide), by rw [E.2.2.2]; exact (show 0 + (rmN 188).slots ≤ (rmN 196).slots by decide)⟩ (Nat.le_of_ble_eq_true rfl) (fun vv s19 hq => ?_) (fun ee s19 hq => ?_)
    rotate_left
    · obtain ⟨rfl, e20, hv, hrs19, hps19⟩ := hq; cases hv
    obtain ⟨rfl, e20, hv, hrs19, hps19⟩ := hq
    cases hv
    show WS k 104 [(0, .ref (A 179)), (1, .int (Int32.ofInt x)), (2, .int (Int32.ofInt y)), (3, .int (Int32.ofInt (iI s4 77))), (4, .int (Int32.ofInt x15))] [.int (Int32.ofInt e20)] (Wd A dT s14) 0 0
    refine z_if_ne X (t := 113) (show cdA 196 104 = some (.ifCond .ne 9, 3, 1, 0, 0) from rfl) (by decide) hrs19 (fun g21 => ?_) (fun g21 => ?_)
    ·
      refine z_load X (x := x15) (show cdA 196 113 = some (.iload 4, 2, 0, 0, 0) from rfl) (List.Mem.tail _ (List.Mem.tail _ (List.Mem.tail _ (List.Mem.tail _ (List.Mem.head _))))) ?_
      exact w_iret X.1 q hRt rfl (ax_d X (show cdA 196 115 = some (.ireturn, 1, 0, 0, 0) from rfl)) (Nat.zero_le _) (Nat.zero_le _) ⟨_, rfl, Is14, Fs14, JFDB_s14, x15, rfl, ⟨by first | exact oq_fa4e5087 hs14.2.2.2.2.2.1 | omega, by first | exact oq_25953902 hs14.2.2.2.2.2.2 | omega⟩, ⟨nur_of Qs14.2.2 (by omega) (by omega) (by first | exact Or.inl ⟨by omega, by omega, by omega⟩ | exact Or.inr ⟨by omega, by omega⟩), by first | exact hs14.1 | omega, by first | exact hs14.2.1 | omega⟩⟩
    ·
      refine z_aload_n X (x := A 179) (show cdA 196 107 = some (.aload_n 0, 1, 0, 0, 0) from rfl) (List.Mem.head _) ?_
      refine z_const X (show cdA 196 108 = some (.iconst 2, 1, 0, 0, 0) from rfl) ?_
      refine z_load_n X (x := (iI s4 77)) (show cdA 196 109 = some (.iload_n 3, 1, 0, 0, 0) from rfl) (List.Mem.tail _ (List.Mem.tail _ (List.Mem.tail _ (List.Mem.head _)))) ?_
      refine z_callV X 179 (rm := rmN 194) (As := [.int (Int32.ofInt 2), .int (Int32.ofInt (iI s4 77))]) (st := []) (show cdA 196 110 = some (.invokevirtual 204, 3, 194, 0, 0) from rfl) rfl (by decide) rfl (by rw [E.1, E.2.1, E.2.2.1]; exact k_wrong2 G Is14 (by first | exact ⟨by decide, by decide⟩ | omega) (by first | exact ⟨oq_ca54ea22 hs14.2.2.2.2.1.1, hs14.2.2.2.2.1.2⟩ | omega)) ⟨by rw [E.2.2.2]; exact (show (rmN 194).frames + 1 ≤ (rmN 196).frames by decide), by rw [E.2.2.2]; exact (show 8 + (mNL (miB 194) + 11) + (rmN 194).locals ≤ (rmN 196).locals by decide), by rw [E.2.2.2]; exact (show 0 + (rmN 194).cells ≤ (rmN 196).cells by decide), by rw [E.2.2.2]; exact (show 0 + (rmN 194).slots ≤ (rmN 196).slots by decide)⟩ (Nat.le_of_ble_eq_true rfl) (fun vv s22 hq => ?_) (fun ee s22 hq => ?_)
      rotate_left
      · obtain ⟨Is22, Fs22, hv, hps22⟩ := hq; cases hv
      obtain ⟨Is22, Fs22, hv, hps22⟩ := hq
      cases hv
      have Gs22 := fm_ts Fs14 Fs22 (by decide) (by decide)
      have JFDB_s22 : FDB B N s22 := FDB_fm Fs22 (by decide) JFDB_s14
      have ws22_77 : iI s22 77 = iI s14 77 := fm_i Fs22 (by decide)
      have ws22_75 : iI s22 75 = iI s14 75 := fm_i Fs22 (by decide)
      have b24 : (0 : Int) ≤ iI s22 79 ∧ iI s22 79 ≤ 9 := Is22.1 79
      show WS k 113 [(0, .ref (A 179)), (1, .int (Int32.ofInt x)), (2, .int (Int32.ofInt y)), (3, .int (Int32.ofInt (iI s4 77))), (4, .int (Int32.ofInt x15))] [] (Wd A dT s22) 0 0
      refine z_load X (x := x15) (show cdA 196 113 = some (.iload 4, 2, 0, 0, 0) from rfl) (List.Mem.tail _ (List.Mem.tail _ (List.Mem.tail _ (List.Mem.tail _ (List.Mem.head _))))) ?_
      exact w_iret X.1 q hRt rfl (ax_d X (show cdA 196 115 = some (.ireturn, 1, 0, 0, 0) from rfl)) (Nat.zero_le _) (Nat.zero_le _) ⟨_, rfl, Is22, Gs22, JFDB_s22, x15, rfl, ⟨by first | exact oq_fa4e5087 hs14.2.2.2.2.2.1 | omega, by first | exact oq_25953902 hs14.2.2.2.2.2.2 | omega⟩, ⟨nur_of Qs14.2.2 (by omega) (by omega) (by first | exact Or.inl ⟨by omega, by omega, by omega⟩ | exact Or.inr ⟨by omega, by omega⟩), by first | exact oq_9272904e ws22_77 hs14.1 | omega, by first | exact oq_26db8f44 ws22_77 hs14.2.1 g13 hps11 hps9 hps4.2.1 | omega⟩⟩
  ·
    refine z_aload_n X (x := A 179) (show cdA 196 26 = some (.aload_n 0, 1, 0, 0, 0) from rfl) (List.Mem.tail _ (List.Mem.tail _ (List.Mem.head _))) ?_
    refine z_const X (show cdA 196 27 = some (.iconst 1, 1, 0, 0, 0) from rfl) ?_
    refine z_aload_n X (x := A 179) (show cdA 196 28 = some (.aload_n 0, 1, 0, 0, 0) from rfl) (List.Mem.tail _ (List.Mem.tail _ (List.Mem.head _))) ?_
    refine z_getI X 179 (show cdA 196 29 = some (.getfield 184, 3, 12, 4, 0) from rfl) (by decide) rfl rfl ?_
    have b25 : (0 : Int) ≤ iI s4 77 ∧ iI s4 77 ≤ 400 := Is4.1 77
    refine z_callV X 179 (rm := rmN 194) (As := [.int (Int32.ofInt 1), .int (Int32.ofInt (iI s4 77))]) (st := []) (show cdA 196 32 = some (.invokevirtual 204, 3, 194, 0, 0) from rfl) rfl (by decide) rfl (by rw [E.1, E.2.1, E.2.2.1]; exact k_wrong2 G Is4 (by first | exact ⟨by decide, by decide⟩ | omega) (by first | exact ⟨oq_ca54ea22 b25.1, b25.2⟩ | omega)) ⟨by rw [E.2.2.2]; exact (show (rmN 194).frames + 1 ≤ (rmN 196).frames by decide), by rw [E.2.2.2]; exact (show 8 + (mNL (miB 194) + 11) + (rmN 194).locals ≤ (rmN 196).locals by decide), by rw [E.2.2.2]; exact (show 0 + (rmN 194).cells ≤ (rmN 196).cells by decide), by rw [E.2.2.2]; exact (show 0 + (rmN 194).slots ≤ (rmN 196).slots by decide)⟩ (Nat.le_of_ble_eq_true rfl) (fun vv s26 hq => ?_) (fun ee s26 hq => ?_)
    rotate_left
    · obtain ⟨Is26, Fs26, hv, hps26⟩ := hq; cases hv
    obtain ⟨Is26, Fs26, hv, hps26⟩ := hq
    cases hv
    have Gs26 := fm_ts Gs4 Fs26 (by decide) (by decide)
    have JFDB_s26 : FDB B N s26 := FDB_fm Fs26 (by decide) JFDB_s4
    have ws26_77 : iI s26 77 = iI s4 77 := fm_i Fs26 (by decide)
    have ws26_75 : iI s26 75 = iI s4 75 := fm_i Fs26 (by decide)
    have b28 : (0 : Int) ≤ iI s26 79 ∧ iI s26 79 ≤ 9 := Is26.1 79
    show WS k 35 [(4, .int (Int32.ofInt 0)), (3, .int (Int32.ofInt (iI s4 77))), (0, .ref (A 179)), (1, .int (Int32.ofInt x)), (2, .int (Int32.ofInt y))] [] (Wd A dT s26) 0 0
    refine WS_lv (lv := [(0, .ref (A 179)), (1, .int (Int32.ofInt x)), (2, .int (Int32.ofInt y)), (3, .int (Int32.ofInt (iI s4 77))), (4, .int (Int32.ofInt 0))]) (List.forall_mem_cons.mpr ⟨(List.Mem.tail _ (List.Mem.tail _ (List.Mem.head _))), (List.forall_mem_cons.mpr ⟨(List.Mem.tail _ (List.Mem.tail _ (List.Mem.tail _ (List.Mem.head _)))), (List.forall_mem_cons.mpr ⟨(List.Mem.tail _ (List.Mem.tail _ (List.Mem.tail _ (List.Mem.tail _ (List.Mem.head _))))), (List.forall_mem_cons.mpr ⟨(List.Mem.tail _ (List.Mem.head _)), (List.forall_mem_cons.mpr ⟨(List.Mem.head _), (fun q h => absurd h List.not_mem_nil)⟩)⟩)⟩)⟩)⟩) ?_
    refine L35 ((N - iI s26 77 : Int).toNat + 1) s26 x y (iI s4 77) 0 Is26 Gs26 JFDB_s26 ⟨by rw [show iI s26 77 = sk B N (iI s 77) by omega], by rw [show iI s26 77 = sk B N (iI s 77) by omega], (by first | exact ndg_y (z := (iI s4 77)) (by omega) (by omega) (by omega) (by omega) (by omega) | exact ndg_n (z := (iI s4 77)) (by omega) (by omega) (by omega))⟩ (by first | exact ⟨oq_9272904e ws26_77 hps4.2.1, oq_8dc46605 ws26_77 hps4.2.2 hps4.2.1, by decide, by decide, And.intro (b25.1) (b25.2), by decide, by decide⟩ | omega) (Nat.lt_succ_self _) ?_
    intro s29 x30 Is29 Fs29 JFDB_s29 Qs29 hs29
    have b31 : (0 : Int) ≤ iI s29 77 ∧ iI s29 77 ≤ 400 := Is29.1 77
    have b32 : (0 : Int) ≤ iI s29 75 ∧ iI s29 75 ≤ 200 := Is29.1 75
    have b33 : (0 : Int) ≤ iI s29 79 ∧ iI s29 79 ≤ 9 := Is29.1 79
    have hNs29 := JFDB_s29.2.1
    have hWs29 := JFDB_s29.2.2
    refine z_load X (x := x30) (show cdA 196 97 = some (.iload 4, 2, 0, 0, 0) from rfl) (List.Mem.tail _ (List.Mem.tail _ (List.Mem.tail _ (List.Mem.tail _ (List.Mem.head _))))) ?_
    refine z_load_n X (x := x) (show cdA 196 99 = some (.iload_n 1, 1, 0, 0, 0) from rfl) (List.Mem.tail _ (List.Mem.head _)) ?_
    refine z_load_n X (x := y) (show cdA 196 100 = some (.iload_n 2, 1, 0, 0, 0) from rfl) (List.Mem.tail _ (List.Mem.tail _ (List.Mem.head _))) ?_
    refine z_callS X (rm := rmN 188) (As := [.int (Int32.ofInt x30), .int (Int32.ofInt x), .int (Int32.ofInt y)]) (st := []) (show cdA 196 101 = some (.invokestatic 209, 3, 188, 1, 0) from rfl) rfl (by rw [E.1, E.2.1, E.2.2.1]; exact k_in2 G Is29 (by first | exact ⟨oq_fa4e5087 hs29.2.2.2.2.2.1, oq_25953902 hs29.2.2.2.2.2.2⟩ | omega) (by first | exact ⟨p0.1, p0.2⟩ | omega) (by first | exact ⟨p1.1, p1.2⟩ | omega)) ⟨by rw [E.2.2.2]; exact (show (rmN 188).frames + 1 ≤ (rmN 196).frames by decide), by rw [E.2.2.2]; exact (show 8 + (mNL (miB 188) + 11) + (rmN 188).locals ≤ (rmN 196).locals by decide), by rw [E.2.2.2]; exact (show 0 + (rmN 188).cells ≤ (rmN 196).cells by decide), by rw [E.2.2.2]; exact (show 0 + (rmN 188).slots ≤ (rmN 196).slots by decide)⟩ (Nat.le_of_ble_eq_true rfl) (fun vv s34 hq => ?_) (fun ee s34 hq => ?_)
    rotate_left
    · obtain ⟨rfl, e35, hv, hrs34, hps34⟩ := hq; cases hv
    obtain ⟨rfl, e35, hv, hrs34, hps34⟩ := hq
    cases hv
    show WS k 104 [(0, .ref (A 179)), (1, .int (Int32.ofInt x)), (2, .int (Int32.ofInt y)), (3, .int (Int32.ofInt (iI s4 77))), (4, .int (Int32.ofInt x30))] [.int (Int32.ofInt e35)] (Wd A dT s29) 0 0
    refine z_if_ne X (t := 113) (show cdA 196 104 = some (.ifCond .ne 9, 3, 1, 0, 0) from rfl) (by decide) hrs34 (fun g36 => ?_) (fun g36 => ?_)
    ·
      refine z_load X (x := x30) (show cdA 196 113 = some (.iload 4, 2, 0, 0, 0) from rfl) (List.Mem.tail _ (List.Mem.tail _ (List.Mem.tail _ (List.Mem.tail _ (List.Mem.head _))))) ?_
      exact w_iret X.1 q hRt rfl (ax_d X (show cdA 196 115 = some (.ireturn, 1, 0, 0, 0) from rfl)) (Nat.zero_le _) (Nat.zero_le _) ⟨_, rfl, Is29, Fs29, JFDB_s29, x30, rfl, ⟨by first | exact oq_fa4e5087 hs29.2.2.2.2.2.1 | omega, by first | exact oq_25953902 hs29.2.2.2.2.2.2 | omega⟩, ⟨nur_of Qs29.2.2 (by omega) (by omega) (by first | exact Or.inl ⟨by omega, by omega, by omega⟩ | exact Or.inr ⟨by omega, by omega⟩), by first | exact hs29.1 | omega, by first | exact hs29.2.1 | omega⟩⟩
    ·
      refine z_aload_n X (x := A 179) (show cdA 196 107 = some (.aload_n 0, 1, 0, 0, 0) from rfl) (List.Mem.head _) ?_
      refine z_const X (show cdA 196 108 = some (.iconst 2, 1, 0, 0, 0) from rfl) ?_
      refine z_load_n X (x := (iI s4 77)) (show cdA 196 109 = some (.iload_n 3, 1, 0, 0, 0) from rfl) (List.Mem.tail _ (List.Mem.tail _ (List.Mem.tail _ (List.Mem.head _)))) ?_
      refine z_callV X 179 (rm := rmN 194) (As := [.int (Int32.ofInt 2), .int (Int32.ofInt (iI s4 77))]) (st := []) (show cdA 196 110 = some (.invokevirtual 204, 3, 194, 0, 0) from rfl) rfl (by decide) rfl (by rw [E.1, E.2.1, E.2.2.1]; exact k_wrong2 G Is29 (by first | exact ⟨by decide, by decide⟩ | omega) (by first | exact ⟨oq_ca54ea22 hs29.2.2.2.2.1.1, hs29.2.2.2.2.1.2⟩ | omega)) ⟨by rw [E.2.2.2]; exact (show (rmN 194).frames + 1 ≤ (rmN 196).frames by decide), by rw [E.2.2.2]; exact (show 8 + (mNL (miB 194) + 11) + (rmN 194).locals ≤ (rmN 196).locals by decide), by rw [E.2.2.2]; exact (show 0 + (rmN 194).cells ≤ (rmN 196).cells by decide), by rw [E.2.2.2]; exact (show 0 + (rmN 194).slots ≤ (rmN 196).slots by decide)⟩ (Nat.le_of_ble_eq_true rfl) (fun vv s37 hq => ?_) (fun ee s37 hq => ?_)
      rotate_left
      · obtain ⟨Is37, Fs37, hv, hps37⟩ := hq; cases hv
      obtain ⟨Is37, Fs37, hv, hps37⟩ := hq
      cases hv
      have Gs37 := fm_ts Fs29 Fs37 (by decide) (by decide)
      have JFDB_s37 : FDB B N s37 := FDB_fm Fs37 (by decide) JFDB_s29
      have ws37_77 : iI s37 77 = iI s29 77 := fm_i Fs37 (by decide)
      have ws37_75 : iI s37 75 = iI s29 75 := fm_i Fs37 (by decide)
      have b39 : (0 : Int) ≤ iI s37 79 ∧ iI s37 79 ≤ 9 := Is37.1 79
      show WS k 113 [(0, .ref (A 179)), (1, .int (Int32.ofInt x)), (2, .int (Int32.ofInt y)), (3, .int (Int32.ofInt (iI s4 77))), (4, .int (Int32.ofInt x30))] [] (Wd A dT s37) 0 0
      refine z_load X (x := x30) (show cdA 196 113 = some (.iload 4, 2, 0, 0, 0) from rfl) (List.Mem.tail _ (List.Mem.tail _ (List.Mem.tail _ (List.Mem.tail _ (List.Mem.head _))))) ?_
      exact w_iret X.1 q hRt rfl (ax_d X (show cdA 196 115 = some (.ireturn, 1, 0, 0, 0) from rfl)) (Nat.zero_le _) (Nat.zero_le _) ⟨_, rfl, Is37, Gs37, JFDB_s37, x30, rfl, ⟨by first | exact oq_fa4e5087 hs29.2.2.2.2.2.1 | omega, by first | exact oq_25953902 hs29.2.2.2.2.2.2 | omega⟩, ⟨nur_of Qs29.2.2 (by omega) (by omega) (by first | exact Or.inl ⟨by omega, by omega, by omega⟩ | exact Or.inr ⟨by omega, by omega⟩), by first | exact oq_9272904e ws37_77 hs29.1 | omega, by first | exact oq_8dc46605 ws37_77 hs29.2.1 hs29.1 | omega⟩⟩
set_option maxRecDepth 4000 in
theorem k_isTold2 (G : GX l s0 D tys a0 dT) (I : Bd s) {x : Int} (p0 : rng x) : CT l s0 D A dT 198 (rmN 198) [.ref (A 179), .int (Int32.ofInt x)] s (fun o t => Bd t ∧ Fm [] [] s t ∧ ∃ e, o = .inl (some (.int (Int32.ofInt e))) ∧ rng e ∧ ((e = 1 ∧ HAS 165 (iI s 91) x s) ∨ (e = 0 ∧ NHS 165 (iI s 91) x s))) := by
  refine ct_of G (by decide) (Nat.le_of_ble_eq_true rfl) (fun k X E hRt hXt q => ?_)
  show WS k 0 [(0, .ref (A 179)), (1, .int (Int32.ofInt x))] [] _ 0 0
  have F : Fm [] [] s s := fm_rf _ _ s
  have aw0_165 : SAM 165 s s := sam_rf
  have b1 : (0 : Int) ≤ iI s 91 ∧ iI s 91 ≤ 24 := I.1 91
  have L2 : ∀ (n : Nat) (t : PS) (x1 c : Int), Bd t → Fm [] [] s t → (NHS 165 c x1 s) → (x1 = x ∧ rng x1 ∧ 0 ≤ c ∧ c ≤ 24 ∧ iI t 91 = iI s 91) → (24 - c : Int).toNat < n → (∀ (t' : PS) (c' : Int), Bd t' → Fm [] [] s t' → (NHS 165 c' x1 s) → (iI s 91 ≤ c') → WS k 28 [(0, .ref (A 179)), (1, .int (Int32.ofInt x1)), (2, .int (Int32.ofInt c'))] [] (Wd A dT t') 0 0) → WS k 2 [(0, .ref (A 179)), (1, .int (Int32.ofInt x1)), (2, .int (Int32.ofInt c))] [] (Wd A dT t) 0 0 := by
    intro n
    induction n with
    | zero =>
      intro t x1 c I F hq hi hm kx
      exact absurd hm (Nat.not_lt_zero _)
    | succ n ih =>
      intro t x1 c I F hq hi hm kx
      have b1001 : (0 : Int) ≤ iI t 91 ∧ iI t 91 ≤ 24 := I.1 91
      refine z_load_n X (x := c) (show cdA 198 2 = some (.iload_n 2, 1, 0, 0, 0) from rfl) (List.Mem.tail _ (List.Mem.tail _ (List.Mem.head _))) ?_
      refine z_aload_n X (x := A 179) (show cdA 198 3 = some (.aload_n 0, 1, 0, 0, 0) from rfl) (List.Mem.head _) ?_
      refine z_getI X 179 (show cdA 198 4 = some (.getfield 216, 3, 12, 27, 0) from rfl) (by decide) rfl rfl ?_
      have b1002 : (0 : Int) ≤ iI t 91 ∧ iI t 91 ≤ 24 := I.1 91
      refine z_icmp_ge X (t := 28) (show cdA 198 7 = some (.if_icmp .ge 21, 3, 3, 0, 0) from rfl) (by decide) ⟨by first | exact oq_fa4e5087 hi.2.2.1 | omega, by first | exact oq_5bcd337f hi.2.2.2.1 | omega⟩ (rng_to _) (fun g1003 => ?_) (fun g1003 => ?_)
      ·
        refine WS_lv (lv := [(0, .ref (A 179)), (1, .int (Int32.ofInt x1)), (2, .int (Int32.ofInt c))]) (List.forall_mem_cons.mpr ⟨(List.Mem.head _), (List.forall_mem_cons.mpr ⟨(List.Mem.tail _ (List.Mem.head _)), (List.forall_mem_cons.mpr ⟨(List.Mem.tail _ (List.Mem.tail _ (List.Mem.head _))), (fun q h => absurd h List.not_mem_nil)⟩)⟩)⟩) ?_
        exact kx _ c I F hq (by first | exact oq_acf76229 g1003 hi.2.2.2.2 | omega)
      ·
        refine z_aload_n X (x := A 179) (show cdA 198 10 = some (.aload_n 0, 1, 0, 0, 0) from rfl) (List.Mem.head _) ?_
        refine s_getR X 179 (show cdA 198 11 = some (.getfield 44, 3, 12, 26, 0) from rfl) (by decide) rfl rfl ?_
        refine z_load_n X (x := c) (show cdA 198 14 = some (.iload_n 2, 1, 0, 0, 0) from rfl) (List.Mem.tail _ (List.Mem.tail _ (List.Mem.head _))) ?_
        refine z_ald X 188 (show cdA 198 15 = some (.iaload, 1, 0, 0, 0) from rfl) (by decide) rfl (by first | exact hi.2.2.1 | omega) (show c < 24 by first | exact oq_8ff7beb9 g1003 b1002.2 | omega) (by decide) ?_
        have b1004 : ((-2147483648) : Int) ≤ iC t 165 (c).toNat ∧ iC t 165 (c).toNat ≤ 2147483647 := I.2 165 _ (show (c).toNat < 24 by first | exact oq_9e668fc9 g1003 b1002.2 | omega)
        have ar1005 : iC t 165 (c).toNat = iC s 165 (c).toNat := (sam_fm F (by decide)) _
        refine z_load_n X (x := x1) (show cdA 198 16 = some (.iload_n 1, 1, 0, 0, 0) from rfl) (List.Mem.tail _ (List.Mem.head _)) ?_
        refine z_icmp_ne X (t := 22) (show cdA 198 17 = some (.if_icmp .ne 5, 3, 1, 0, 0) from rfl) (by decide) (rng_to _) ⟨by first | exact hi.2.1.1 | omega, by first | exact hi.2.1.2 | omega⟩ (fun g1006 => ?_) (fun g1006 => ?_)
        ·
          refine z_inc X (x := c) (lv' := [(2, .int (Int32.ofInt (c + 1))), (0, .ref (A 179)), (1, .int (Int32.ofInt x1))]) (show cdA 198 22 = some (.iinc 2 1, 3, 0, 0, 0) from rfl) (by decide) (List.Mem.tail _ (List.Mem.tail _ (List.Mem.head _))) (fun _ h => h) ?_
          refine z_goto X (t := 2) (show cdA 198 25 = some (.goto (-23), 3, 0, 0, 0) from rfl) (by decide) ?_
          refine WS_lv (lv := [(0, .ref (A 179)), (1, .int (Int32.ofInt x1)), (2, .int (Int32.ofInt (c + 1)))]) (List.forall_mem_cons.mpr ⟨(List.Mem.tail _ (List.Mem.head _)), (List.forall_mem_cons.mpr ⟨(List.Mem.tail _ (List.Mem.tail _ (List.Mem.head _))), (List.forall_mem_cons.mpr ⟨(List.Mem.head _), (fun q h => absurd h List.not_mem_nil)⟩)⟩)⟩) ?_
          exact ih _ x1 (c + 1) I F (nhs_up hq (by omega) (by omega)) (by first | exact ⟨hi.1, And.intro (hi.2.1.1) (hi.2.1.2), oq_54f49eb5 hi.2.2.1, oq_41473be0 g1003 b1002.2, hi.2.2.2.2⟩ | omega) (by first | exact qk_me hm (by decide) (oq_9dea93e6 g1003 b1002.2) | omega) kx
        ·
          refine z_const X (show cdA 198 20 = some (.iconst 1, 1, 0, 0, 0) from rfl) ?_
          exact w_iret X.1 q hRt (nar_ret (by first | exact Or.inr (by decide) | omega)) (ax_d X (show cdA 198 21 = some (.ireturn, 1, 0, 0, 0) from rfl)) (Nat.zero_le _) (Nat.zero_le _) ⟨_, rfl, I, F, 1, rfl, (by decide), Or.inl ⟨by decide, hs_of c (by omega) (by omega) (by omega)⟩⟩
  refine z_const X (show cdA 198 0 = some (.iconst 0, 1, 0, 0, 0) from rfl) ?_
  refine z_store_n X (lv' := [(2, .int (Int32.ofInt 0)), (0, .ref (A 179)), (1, .int (Int32.ofInt x))]) (show cdA 198 1 = some (.istore_n 2, 1, 0, 0, 0) from rfl) (by decide) (fun _ h => h) ?_
  refine WS_lv (lv := [(0, .ref (A 179)), (1, .int (Int32.ofInt x)), (2, .int (Int32.ofInt 0))]) (List.forall_mem_cons.mpr ⟨(List.Mem.tail _ (List.Mem.head _)), (List.forall_mem_cons.mpr ⟨(List.Mem.tail _ (List.Mem.tail _ (List.Mem.head _))), (List.forall_mem_cons.mpr ⟨(List.Mem.head _), (fun q h => absurd h List.not_mem_nil)⟩)⟩)⟩) ?_
  refine L2 ((24 - 0 : Int).toNat + 1) s x 0 I F nhs_0 (by first | exact ⟨by decide, And.intro (p0.1) (p0.2), by decide, by decide, by decide⟩ | omega) (Nat.lt_succ_self _) ?_
  intro s2 x3 Is2 Fs2 Qs2 hs2
  have b4 : (0 : Int) ≤ iI s2 91 ∧ iI s2 91 ≤ 24 := Is2.1 91
  refine z_const X (show cdA 198 28 = some (.iconst 0, 1, 0, 0, 0) from rfl) ?_
  exact w_iret X.1 q hRt (nar_ret (by first | exact Or.inl (by decide) | omega)) (ax_d X (show cdA 198 29 = some (.ireturn, 1, 0, 0, 0) from rfl)) (Nat.zero_le _) (Nat.zero_le _) ⟨_, rfl, Is2, Fs2, 0, rfl, (by decide), Or.inr ⟨by decide, nhs_le Qs2 (by omega)⟩⟩
set_option maxRecDepth 4000 in
theorem k_beside2 (G : GX l s0 D tys a0 dT) (I : Bd s) {x y : Int} (p0 : 0 ≤ x ∧ x ≤ 127) (p1 : 0 ≤ y ∧ y ≤ 5) : CT l s0 D A dT 190 (rmN 190) [.int (Int32.ofInt x), .int (Int32.ofInt y)] s (fun o t => s = t ∧ ∃ e, o = .inl (some (.int (Int32.ofInt e))) ∧ rng e ∧ (e = besT x y ∧ -1 ≤ e ∧ e ≤ 127)) := by
  refine ct_of G (by decide) (Nat.le_of_ble_eq_true rfl) (fun k X E hRt hXt q => ?_)
  show WS k 0 [(0, .int (Int32.ofInt x)), (1, .int (Int32.ofInt y))] [] _ 0 0
  have F : Fm [] [] s s := fm_rf _ _ s
  refine z_load_n X (x := x) (show cdA 190 0 = some (.iload_n 0, 1, 0, 0, 0) from rfl) (List.Mem.head _) ?_
  refine z_bipush X (show cdA 190 1 = some (.bipush 8, 2, 0, 0, 8) from rfl) ?_
  refine z_mod X (show cdA 190 3 = some (.irem, 1, 0, 0, 0) from rfl) (by first | exact p0.1 | omega) ⟨by first | exact oq_fa4e5087 p0.1 | omega, by first | exact oq_07d346ce p0.2 | omega⟩ (by decide) (by decide) ?_
  refine z_store_n X (lv' := [(2, .int (Int32.ofInt (x % 8))), (0, .int (Int32.ofInt x)), (1, .int (Int32.ofInt y))]) (show cdA 190 4 = some (.istore_n 2, 1, 0, 0, 0) from rfl) (by decide) (fun _ h => h) ?_
  refine z_load_n X (x := x) (show cdA 190 5 = some (.iload_n 0, 1, 0, 0, 0) from rfl) (List.Mem.tail _ (List.Mem.head _)) ?_
  refine z_bipush X (show cdA 190 6 = some (.bipush 8, 2, 0, 0, 8) from rfl) ?_
  refine z_quot X (show cdA 190 8 = some (.idiv, 1, 0, 0, 0) from rfl) (by first | exact p0.1 | omega) ⟨by first | exact oq_fa4e5087 p0.1 | omega, by first | exact oq_07d346ce p0.2 | omega⟩ (by decide) (by decide) ?_
  refine z_bipush X (show cdA 190 9 = some (.bipush 8, 2, 0, 0, 8) from rfl) ?_
  refine z_mod X (show cdA 190 11 = some (.irem, 1, 0, 0, 0) from rfl) (by first | exact oq_064ec12a p0.1 | omega) ⟨by first | exact oq_e9761868 p0.1 | omega, by first | exact oq_9e7a8b87 p0.2 | omega⟩ (by decide) (by decide) ?_
  refine z_store_n X (lv' := [(3, .int (Int32.ofInt ((x / 8) % 8))), (2, .int (Int32.ofInt (x % 8))), (0, .int (Int32.ofInt x)), (1, .int (Int32.ofInt y))]) (show cdA 190 12 = some (.istore_n 3, 1, 0, 0, 0) from rfl) (by decide) (fun _ h => h) ?_
  refine z_load_n X (x := x) (show cdA 190 13 = some (.iload_n 0, 1, 0, 0, 0) from rfl) (List.Mem.tail _ (List.Mem.tail _ (List.Mem.head _))) ?_
  refine z_bipush X (show cdA 190 14 = some (.bipush 64, 2, 0, 0, 64) from rfl) ?_
  refine z_quot X (show cdA 190 16 = some (.idiv, 1, 0, 0, 0) from rfl) (by first | exact p0.1 | omega) ⟨by first | exact oq_fa4e5087 p0.1 | omega, by first | exact oq_07d346ce p0.2 | omega⟩ (by decide) (by decide) ?_
  refine z_store X (lv' := [(4, .int (Int32.ofInt (x / 64))), (3, .int (Int32.ofInt ((x / 8) % 8))), (2, .int (Int32.ofInt (x % 8))), (0, .int (Int32.ofInt x)), (1, .int (Int32.ofInt y))]) (show cdA 190 17 = some (.istore 4, 2, 0, 0, 0) from rfl) (by decide) (fun _ h => h) ?_
  refine z_load_n X (x := y) (show cdA 190 19 = some (.iload_n 1, 1, 0, 0, 0) from rfl) (List.Mem.tail _ (List.Mem.tail _ (List.Mem.tail _ (List.Mem.tail _ (List.Mem.head _))))) ?_
  rcases (show y = 0 ∨ y = 1 ∨ y = 2 ∨ y = 3 ∨ y = 4 ∨ y = 5 by omega) with gs | gs | gs | gs | gs | gs
  ·
    rw [gs]
    refine w_tabIn X.1 (dflt := 105) (lo := 0) (hi := 4) (offs := #[36, 50, 62, 77, 90]) (len := 36) (off := 36) (t := 56) (ax_d X (show cdA 190 20 = some (.tableswitch 105 0 4 #[36, 50, 62, 77, 90], 36, 0, 0, 0) from rfl)) (by decide) (by decide) (by decide) (by decide) ?_
    refine z_load_n X (x := (x % 8)) (show cdA 190 56 = some (.iload_n 2, 1, 0, 0, 0) from rfl) (List.Mem.tail _ (List.Mem.tail _ (List.Mem.head _))) ?_
    refine z_bipush X (show cdA 190 57 = some (.bipush 7, 2, 0, 0, 7) from rfl) ?_
    have N1 : ∀ e2 : Int, ((((x % 8) ≠ 7) ∧ e2 = (x + 1)) ∨ (((x % 8) = 7) ∧ e2 = (-1))) → WS k 69 [(4, .int (Int32.ofInt (x / 64))), (3, .int (Int32.ofInt ((x / 8) % 8))), (2, .int (Int32.ofInt (x % 8))), (0, .int (Int32.ofInt x)), (1, .int (Int32.ofInt 0))] [.int (Int32.ofInt e2)] (Wd A dT s) 0 0 := by
      intro e2 he2
      exact w_iret X.1 q hRt rfl (ax_d X (show cdA 190 69 = some (.ireturn, 1, 0, 0, 0) from rfl)) (Nat.zero_le _) (Nat.zero_le _) ⟨_, rfl, rfl, e2, rfl, ⟨by first | exact oq_65317318 he2 p0.1 | omega, by first | exact oq_2ebfdaed he2 p0.2 | omega⟩, ⟨bes_of ⟨Or.inl ⟨gs, by omega⟩, by omega, by omega⟩, by first | exact oq_bb285237 he2 p0.1 | omega, by omega⟩⟩
    refine z_icmp_ne X (t := 66) (show cdA 190 59 = some (.if_icmp .ne 7, 3, 1, 0, 0) from rfl) (by decide) ⟨by first | exact oq_e86162eb | omega, by first | exact oq_70086759 | omega⟩ (by decide) (fun g3 => ?_) (fun g3 => ?_)
    ·
      refine z_load_n X (x := x) (show cdA 190 66 = some (.iload_n 0, 1, 0, 0, 0) from rfl) (List.Mem.tail _ (List.Mem.tail _ (List.Mem.tail _ (List.Mem.head _)))) ?_
      refine z_const X (show cdA 190 67 = some (.iconst 1, 1, 0, 0, 0) from rfl) ?_
      refine z_add X (show cdA 190 68 = some (.iadd, 1, 0, 0, 0) from rfl) ?_
      exact N1 _ (Or.inl ⟨g3, rfl⟩)
    ·
      refine z_const X (show cdA 190 62 = some (.iconst (-1), 1, 0, 0, 0) from rfl) ?_
      refine z_goto X (t := 69) (show cdA 190 63 = some (.goto 6, 3, 0, 0, 0) from rfl) (by decide) ?_
      exact N1 _ (Or.inr (⟨g3, rfl⟩))
  ·
    rw [gs]
    refine w_tabIn X.1 (dflt := 105) (lo := 0) (hi := 4) (offs := #[36, 50, 62, 77, 90]) (len := 36) (off := 50) (t := 70) (ax_d X (show cdA 190 20 = some (.tableswitch 105 0 4 #[36, 50, 62, 77, 90], 36, 0, 0, 0) from rfl)) (by decide) (by decide) (by decide) (by decide) ?_
    refine z_load_n X (x := (x % 8)) (show cdA 190 70 = some (.iload_n 2, 1, 0, 0, 0) from rfl) (List.Mem.tail _ (List.Mem.tail _ (List.Mem.head _))) ?_
    have N4 : ∀ e5 : Int, ((((x % 8) ≠ 0) ∧ e5 = (x - 1)) ∨ (((x % 8) = 0) ∧ e5 = (-1))) → WS k 81 [(4, .int (Int32.ofInt (x / 64))), (3, .int (Int32.ofInt ((x / 8) % 8))), (2, .int (Int32.ofInt (x % 8))), (0, .int (Int32.ofInt x)), (1, .int (Int32.ofInt 1))] [.int (Int32.ofInt e5)] (Wd A dT s) 0 0 := by
      intro e5 he5
      exact w_iret X.1 q hRt rfl (ax_d X (show cdA 190 81 = some (.ireturn, 1, 0, 0, 0) from rfl)) (Nat.zero_le _) (Nat.zero_le _) ⟨_, rfl, rfl, e5, rfl, ⟨by first | exact oq_df67f89d he5 p0.1 | omega, by first | exact oq_7f998bdb he5 p0.2 | omega⟩, ⟨bes_of ⟨Or.inr (Or.inl ⟨gs, by omega⟩), by omega, by omega⟩, by first | exact oq_53d086ff he5 p0.1 | omega, by first | exact oq_162ebe1b he5 p0.2 | omega⟩⟩
    refine z_if_ne X (t := 78) (show cdA 190 71 = some (.ifCond .ne 7, 3, 1, 0, 0) from rfl) (by decide) ⟨by first | exact oq_e86162eb | omega, by first | exact oq_70086759 | omega⟩ (fun g6 => ?_) (fun g6 => ?_)
    ·
      refine z_load_n X (x := x) (show cdA 190 78 = some (.iload_n 0, 1, 0, 0, 0) from rfl) (List.Mem.tail _ (List.Mem.tail _ (List.Mem.tail _ (List.Mem.head _)))) ?_
      refine z_const X (show cdA 190 79 = some (.iconst 1, 1, 0, 0, 0) from rfl) ?_
      refine z_sub X (show cdA 190 80 = some (.isub, 1, 0, 0, 0) from rfl) ?_
      exact N4 _ (Or.inl ⟨g6, rfl⟩)
    ·
      refine z_const X (show cdA 190 74 = some (.iconst (-1), 1, 0, 0, 0) from rfl) ?_
      refine z_goto X (t := 81) (show cdA 190 75 = some (.goto 6, 3, 0, 0, 0) from rfl) (by decide) ?_
      exact N4 _ (Or.inr (⟨g6, rfl⟩))
  ·
    rw [gs]
    refine w_tabIn X.1 (dflt := 105) (lo := 0) (hi := 4) (offs := #[36, 50, 62, 77, 90]) (len := 36) (off := 62) (t := 82) (ax_d X (show cdA 190 20 = some (.tableswitch 105 0 4 #[36, 50, 62, 77, 90], 36, 0, 0, 0) from rfl)) (by decide) (by decide) (by decide) (by decide) ?_
    refine z_load_n X (x := ((x / 8) % 8)) (show cdA 190 82 = some (.iload_n 3, 1, 0, 0, 0) from rfl) (List.Mem.tail _ (List.Mem.head _)) ?_
    refine z_bipush X (show cdA 190 83 = some (.bipush 7, 2, 0, 0, 7) from rfl) ?_
    have N7 : ∀ e8 : Int, (((((x / 8) % 8) ≠ 7) ∧ e8 = (x + 8)) ∨ ((((x / 8) % 8) = 7) ∧ e8 = (-1))) → WS k 96 [(4, .int (Int32.ofInt (x / 64))), (3, .int (Int32.ofInt ((x / 8) % 8))), (2, .int (Int32.ofInt (x % 8))), (0, .int (Int32.ofInt x)), (1, .int (Int32.ofInt 2))] [.int (Int32.ofInt e8)] (Wd A dT s) 0 0 := by
      intro e8 he8
      exact w_iret X.1 q hRt rfl (ax_d X (show cdA 190 96 = some (.ireturn, 1, 0, 0, 0) from rfl)) (Nat.zero_le _) (Nat.zero_le _) ⟨_, rfl, rfl, e8, rfl, ⟨by first | exact oq_3827edd4 he8 p0.1 | omega, by first | exact oq_5c62bb30 he8 p0.2 | omega⟩, ⟨bes_of ⟨Or.inr (Or.inr (Or.inl ⟨gs, by omega⟩)), by omega, by omega⟩, by first | exact oq_595830be he8 p0.1 | omega, by omega⟩⟩
    refine z_icmp_ne X (t := 92) (show cdA 190 85 = some (.if_icmp .ne 7, 3, 1, 0, 0) from rfl) (by decide) ⟨by first | exact oq_452e8fda | omega, by first | exact oq_267eaf70 | omega⟩ (by decide) (fun g9 => ?_) (fun g9 => ?_)
    ·
      refine z_load_n X (x := x) (show cdA 190 92 = some (.iload_n 0, 1, 0, 0, 0) from rfl) (List.Mem.tail _ (List.Mem.tail _ (List.Mem.tail _ (List.Mem.head _)))) ?_
      refine z_bipush X (show cdA 190 93 = some (.bipush 8, 2, 0, 0, 8) from rfl) ?_
      refine z_add X (show cdA 190 95 = some (.iadd, 1, 0, 0, 0) from rfl) ?_
      exact N7 _ (Or.inl ⟨g9, rfl⟩)
    ·
      refine z_const X (show cdA 190 88 = some (.iconst (-1), 1, 0, 0, 0) from rfl) ?_
      refine z_goto X (t := 96) (show cdA 190 89 = some (.goto 7, 3, 0, 0, 0) from rfl) (by decide) ?_
      exact N7 _ (Or.inr (⟨g9, rfl⟩))
  ·
    rw [gs]
    refine w_tabIn X.1 (dflt := 105) (lo := 0) (hi := 4) (offs := #[36, 50, 62, 77, 90]) (len := 36) (off := 77) (t := 97) (ax_d X (show cdA 190 20 = some (.tableswitch 105 0 4 #[36, 50, 62, 77, 90], 36, 0, 0, 0) from rfl)) (by decide) (by decide) (by decide) (by decide) ?_
    refine z_load_n X (x := ((x / 8) % 8)) (show cdA 190 97 = some (.iload_n 3, 1, 0, 0, 0) from rfl) (List.Mem.tail _ (List.Mem.head _)) ?_
    have N10 : ∀ e11 : Int, (((((x / 8) % 8) ≠ 0) ∧ e11 = (x - 8)) ∨ ((((x / 8) % 8) = 0) ∧ e11 = (-1))) → WS k 109 [(4, .int (Int32.ofInt (x / 64))), (3, .int (Int32.ofInt ((x / 8) % 8))), (2, .int (Int32.ofInt (x % 8))), (0, .int (Int32.ofInt x)), (1, .int (Int32.ofInt 3))] [.int (Int32.ofInt e11)] (Wd A dT s) 0 0 := by
      intro e11 he11
      exact w_iret X.1 q hRt rfl (ax_d X (show cdA 190 109 = some (.ireturn, 1, 0, 0, 0) from rfl)) (Nat.zero_le _) (Nat.zero_le _) ⟨_, rfl, rfl, e11, rfl, ⟨by first | exact oq_53853fa1 he11 p0.1 | omega, by first | exact oq_82f5c072 he11 p0.2 | omega⟩, ⟨bes_of ⟨Or.inr (Or.inr (Or.inr (Or.inl ⟨gs, by omega⟩))), by omega, by omega⟩, by omega, by first | exact oq_c6958ea2 he11 p0.2 | omega⟩⟩
    refine z_if_ne X (t := 105) (show cdA 190 98 = some (.ifCond .ne 7, 3, 1, 0, 0) from rfl) (by decide) ⟨by first | exact oq_452e8fda | omega, by first | exact oq_267eaf70 | omega⟩ (fun g12 => ?_) (fun g12 => ?_)
    ·
      refine z_load_n X (x := x) (show cdA 190 105 = some (.iload_n 0, 1, 0, 0, 0) from rfl) (List.Mem.tail _ (List.Mem.tail _ (List.Mem.tail _ (List.Mem.head _)))) ?_
      refine z_bipush X (show cdA 190 106 = some (.bipush 8, 2, 0, 0, 8) from rfl) ?_
      refine z_sub X (show cdA 190 108 = some (.isub, 1, 0, 0, 0) from rfl) ?_
      exact N10 _ (Or.inl ⟨g12, rfl⟩)
    ·
      refine z_const X (show cdA 190 101 = some (.iconst (-1), 1, 0, 0, 0) from rfl) ?_
      refine z_goto X (t := 109) (show cdA 190 102 = some (.goto 7, 3, 0, 0, 0) from rfl) (by decide) ?_
      exact N10 _ (Or.inr (⟨g12, rfl⟩))
  ·
    rw [gs]
    refine w_tabIn X.1 (dflt := 105) (lo := 0) (hi := 4) (offs := #[36, 50, 62, 77, 90]) (len := 36) (off := 90) (t := 110) (ax_d X (show cdA 190 20 = some (.tableswitch 105 0 4 #[36, 50, 62, 77, 90], 36, 0, 0, 0) from rfl)) (by decide) (by decide) (by decide) (by decide) ?_
    refine z_load X (x := (x / 64)) (show cdA 190 110 = some (.iload 4, 2, 0, 0, 0) from rfl) (List.Mem.head _) ?_
    refine z_const X (show cdA 190 112 = some (.iconst 1, 1, 0, 0, 0) from rfl) ?_
    have N13 : ∀ e14 : Int, ((((x / 64) ≠ 1) ∧ e14 = (x + 64)) ∨ (((x / 64) = 1) ∧ e14 = (-1))) → WS k 124 [(4, .int (Int32.ofInt (x / 64))), (3, .int (Int32.ofInt ((x / 8) % 8))), (2, .int (Int32.ofInt (x % 8))), (0, .int (Int32.ofInt x)), (1, .int (Int32.ofInt 4))] [.int (Int32.ofInt e14)] (Wd A dT s) 0 0 := by
      intro e14 he14
      exact w_iret X.1 q hRt rfl (ax_d X (show cdA 190 124 = some (.ireturn, 1, 0, 0, 0) from rfl)) (Nat.zero_le _) (Nat.zero_le _) ⟨_, rfl, rfl, e14, rfl, ⟨by first | exact oq_dec29307 he14 p0.1 | omega, by first | exact oq_dc234b30 he14 p0.2 | omega⟩, ⟨bes_of ⟨Or.inr (Or.inr (Or.inr (Or.inr (Or.inl ⟨gs, by omega⟩)))), by omega, by omega⟩, by first | exact oq_ef6a2c96 he14 p0.1 | omega, by first | exact oq_3dcb4c51 he14 p0.2 | omega⟩⟩
    refine z_icmp_ne X (t := 120) (show cdA 190 113 = some (.if_icmp .ne 7, 3, 1, 0, 0) from rfl) (by decide) ⟨by first | exact oq_e5b8e207 p0.1 | omega, by first | exact oq_874c0b28 p0.2 | omega⟩ (by decide) (fun g15 => ?_) (fun g15 => ?_)
    ·
      refine z_load_n X (x := x) (show cdA 190 120 = some (.iload_n 0, 1, 0, 0, 0) from rfl) (List.Mem.tail _ (List.Mem.tail _ (List.Mem.tail _ (List.Mem.head _)))) ?_
      refine z_bipush X (show cdA 190 121 = some (.bipush 64, 2, 0, 0, 64) from rfl) ?_
      refine z_add X (show cdA 190 123 = some (.iadd, 1, 0, 0, 0) from rfl) ?_
      exact N13 _ (Or.inl ⟨g15, rfl⟩)
    ·
      refine z_const X (show cdA 190 116 = some (.iconst (-1), 1, 0, 0, 0) from rfl) ?_
      refine z_goto X (t := 124) (show cdA 190 117 = some (.goto 7, 3, 0, 0, 0) from rfl) (by decide) ?_
      exact N13 _ (Or.inr (⟨g15, rfl⟩))
  ·
    rw [gs]
    refine w_tabOut X.1 (dflt := 105) (lo := 0) (hi := 4) (offs := #[36, 50, 62, 77, 90]) (len := 36) (t := 125) (ax_d X (show cdA 190 20 = some (.tableswitch 105 0 4 #[36, 50, 62, 77, 90], 36, 0, 0, 0) from rfl)) (by decide) (by decide) ?_
    refine z_load X (x := (x / 64)) (show cdA 190 125 = some (.iload 4, 2, 0, 0, 0) from rfl) (List.Mem.head _) ?_
    have N16 : ∀ e17 : Int, ((((x / 64) ≠ 0) ∧ e17 = (x - 64)) ∨ (((x / 64) = 0) ∧ e17 = (-1))) → WS k 138 [(4, .int (Int32.ofInt (x / 64))), (3, .int (Int32.ofInt ((x / 8) % 8))), (2, .int (Int32.ofInt (x % 8))), (0, .int (Int32.ofInt x)), (1, .int (Int32.ofInt 5))] [.int (Int32.ofInt e17)] (Wd A dT s) 0 0 := by
      intro e17 he17
      exact w_iret X.1 q hRt rfl (ax_d X (show cdA 190 138 = some (.ireturn, 1, 0, 0, 0) from rfl)) (Nat.zero_le _) (Nat.zero_le _) ⟨_, rfl, rfl, e17, rfl, ⟨by first | exact oq_4c7d79ae he17 p0.1 | omega, by first | exact oq_47817d89 he17 p0.2 | omega⟩, ⟨bes_of ⟨Or.inr (Or.inr (Or.inr (Or.inr (Or.inr (⟨gs, by omega⟩))))), by omega, by omega⟩, by first | exact oq_7252d58d he17 p0.1 | omega, by first | exact oq_3527817e he17 p0.2 | omega⟩⟩
    refine z_if_ne X (t := 134) (show cdA 190 127 = some (.ifCond .ne 7, 3, 1, 0, 0) from rfl) (by decide) ⟨by first | exact oq_e5b8e207 p0.1 | omega, by first | exact oq_874c0b28 p0.2 | omega⟩ (fun g18 => ?_) (fun g18 => ?_)
    ·
      refine z_load_n X (x := x) (show cdA 190 134 = some (.iload_n 0, 1, 0, 0, 0) from rfl) (List.Mem.tail _ (List.Mem.tail _ (List.Mem.tail _ (List.Mem.head _)))) ?_
      refine z_bipush X (show cdA 190 135 = some (.bipush 64, 2, 0, 0, 64) from rfl) ?_
      refine z_sub X (show cdA 190 137 = some (.isub, 1, 0, 0, 0) from rfl) ?_
      exact N16 _ (Or.inl ⟨g18, rfl⟩)
    ·
      refine z_const X (show cdA 190 130 = some (.iconst (-1), 1, 0, 0, 0) from rfl) ?_
      refine z_goto X (t := 138) (show cdA 190 131 = some (.goto 7, 3, 0, 0, 0) from rfl) (by decide) ?_
      exact N16 _ (Or.inr (⟨g18, rfl⟩))
set_option maxRecDepth 4000 in
theorem k_move2 (G : GX l s0 D tys a0 dT) {B : Nat → Int} {N : Int} {a : WyA} (hA : AGx 165 91 a s) (ha : 1 ≤ a.1 ∧ a.1 ≤ 24) (I : Bd s) (jTD : TD s) (jFDB : FDB B N s) (p0 : iI s 77 ≤ 380) (p1 : iI s 77 < N) (p2 : iI s 79 = 0) : CT l s0 D A dT 199 (rmN 199) [.ref (A 179)] s (fun o t => Bd t ∧ Fm [77, 79, 80, 91] [165] s t ∧ TD t ∧ FDB B N t ∧ o = .inl none ∧ (iI s 77 ≤ iI t 77 ∧ (iI t 77 ≤ iI s 77 + 1 ∨ iI t 77 ≤ N) ∧ 1 ≤ iI t 91 ∧ (iI t 79 ≠ 0 ∨ iI s 77 < iI t 77) ∧ ((iI t 79 = 0 ∧ MMR B N (iI s 77) a t) ∨ (iI t 79 ≠ 0 ∧ mvT B N (iI s 77) a = none)))) := by
  refine ct_of G (by decide) (Nat.le_of_ble_eq_true rfl) (fun k X E hRt hXt q => ?_)
  show WS k 0 [(0, .ref (A 179))] [] _ 0 0
  have F : Fm [77, 79, 80, 91] [165] s s := fm_rf _ _ s
  have aw0_165 : SAM 165 s s := sam_rf
  have hN := jFDB.2.1
  have hW := jFDB.2.2
  have hA0 := hA.1
  have b1 : (0 : Int) ≤ iI s 77 ∧ iI s 77 ≤ 400 := I.1 77
  have b2 : (0 : Int) ≤ iI s 75 ∧ iI s 75 ≤ 200 := I.1 75
  have b3 : (0 : Int) ≤ iI s 79 ∧ iI s 79 ≤ 9 := I.1 79
  have b4 : (0 : Int) ≤ iI s 91 ∧ iI s 91 ≤ 24 := I.1 91
  have L140 : ∀ (n : Nat) (t : PS) (lt stp tm kk : Int), Bd t → Fm [77, 79, 80, 91] [165] s t → TD t → FDB B N t → (MMQ B N (iI s 77) a stp tm kk t) → ((0 ≤ lt ∧ lt ≤ 400) ∧ (0 ≤ stp ∧ stp ≤ 5) ∧ 0 ≤ tm ∧ tm ≤ 100000 ∧ 0 ≤ kk ∧ kk ≤ 100000 ∧ 1 ≤ iI t 91 ∧ iI s 77 ≤ iI t 77 ∧ (iI t 77 ≤ iI s 77 + 1 ∨ iI t 77 ≤ N)) → (tm - kk : Int).toNat < n → (∀ (t' : PS) (kk' : Int), Bd t' → Fm [77, 79, 80, 91] [165] s t' → TD t' → FDB B N t' → (MMQ B N (iI s 77) a stp tm kk' t') → ((tm ≤ kk' ∨ iI t' 79 ≠ 0) ∧ 1 ≤ iI t' 91 ∧ iI s 77 ≤ iI t' 77 ∧ (iI t' 77 ≤ iI s 77 + 1 ∨ iI t' 77 ≤ N)) → WS k 245 [(0, .ref (A 179)), (1, .int (Int32.ofInt lt)), (3, .int (Int32.ofInt stp)), (4, .int (Int32.ofInt tm)), (5, .int (Int32.ofInt kk'))] [] (Wd A dT t') 0 0) → WS k 140 [(0, .ref (A 179)), (1, .int (Int32.ofInt lt)), (3, .int (Int32.ofInt stp)), (4, .int (Int32.ofInt tm)), (5, .int (Int32.ofInt kk))] [] (Wd A dT t) 0 0 := by
    intro n
    induction n with
    | zero =>
      intro t lt stp tm kk I F jjTD jjFDB hq hi hm kx
      exact absurd hm (Nat.not_lt_zero _)
    | succ n ih =>
      intro t lt stp tm kk I F jjTD jjFDB hq hi hm kx
      have b1001 : (0 : Int) ≤ iI t 77 ∧ iI t 77 ≤ 400 := I.1 77
      have b1002 : (0 : Int) ≤ iI t 75 ∧ iI t 75 ≤ 200 := I.1 75
      have b1003 : (0 : Int) ≤ iI t 79 ∧ iI t 79 ≤ 9 := I.1 79
      have b1004 : (0 : Int) ≤ iI t 91 ∧ iI t 91 ≤ 24 := I.1 91
      have hN := jjFDB.2.1
      have hW := jjFDB.2.2
      refine z_load X (x := kk) (show cdA 199 140 = some (.iload 5, 2, 0, 0, 0) from rfl) (List.Mem.tail _ (List.Mem.tail _ (List.Mem.tail _ (List.Mem.tail _ (List.Mem.head _))))) ?_
      refine z_load X (x := tm) (show cdA 199 142 = some (.iload 4, 2, 0, 0, 0) from rfl) (List.Mem.tail _ (List.Mem.tail _ (List.Mem.tail _ (List.Mem.head _)))) ?_
      refine z_icmp_ge X (t := 245) (show cdA 199 144 = some (.if_icmp .ge 101, 3, 3, 0, 0) from rfl) (by decide) ⟨by first | exact oq_fa4e5087 hi.2.2.2.2.1 | omega, by first | exact oq_25953902 hi.2.2.2.2.2.1 | omega⟩ ⟨by first | exact oq_fa4e5087 hi.2.2.1 | omega, by first | exact oq_25953902 hi.2.2.2.1 | omega⟩ (fun g1005 => ?_) (fun g1005 => ?_)
      ·
        refine WS_lv (lv := [(0, .ref (A 179)), (1, .int (Int32.ofInt lt)), (3, .int (Int32.ofInt stp)), (4, .int (Int32.ofInt tm)), (5, .int (Int32.ofInt kk))]) (List.forall_mem_cons.mpr ⟨(List.Mem.head _), (List.forall_mem_cons.mpr ⟨(List.Mem.tail _ (List.Mem.head _)), (List.forall_mem_cons.mpr ⟨(List.Mem.tail _ (List.Mem.tail _ (List.Mem.head _))), (List.forall_mem_cons.mpr ⟨(List.Mem.tail _ (List.Mem.tail _ (List.Mem.tail _ (List.Mem.head _)))), (List.forall_mem_cons.mpr ⟨(List.Mem.tail _ (List.Mem.tail _ (List.Mem.tail _ (List.Mem.tail _ (List.Mem.head _))))), (fun q h => absurd h List.not_mem_nil)⟩)⟩)⟩)⟩)⟩) ?_
        exact kx _ kk I F jjTD jjFDB hq (by first | exact ⟨Or.inl (g1005), hi.2.2.2.2.2.2.1, hi.2.2.2.2.2.2.2.1, hi.2.2.2.2.2.2.2.2⟩ | omega)
      ·
        refine z_aload_n X (x := A 179) (show cdA 199 147 = some (.aload_n 0, 1, 0, 0, 0) from rfl) (List.Mem.head _) ?_
        refine z_getI X 179 (show cdA 199 148 = some (.getfield 191, 3, 12, 6, 0) from rfl) (by decide) rfl rfl ?_
        have b1006 : (0 : Int) ≤ iI t 79 ∧ iI t 79 ≤ 9 := I.1 79
        refine z_if_ne X (t := 245) (show cdA 199 151 = some (.ifCond .ne 94, 3, 1, 0, 0) from rfl) (by decide) (rng_to _) (fun g1007 => ?_) (fun g1007 => ?_)
        ·
          refine WS_lv (lv := [(0, .ref (A 179)), (1, .int (Int32.ofInt lt)), (3, .int (Int32.ofInt stp)), (4, .int (Int32.ofInt tm)), (5, .int (Int32.ofInt kk))]) (List.forall_mem_cons.mpr ⟨(List.Mem.head _), (List.forall_mem_cons.mpr ⟨(List.Mem.tail _ (List.Mem.head _)), (List.forall_mem_cons.mpr ⟨(List.Mem.tail _ (List.Mem.tail _ (List.Mem.head _))), (List.forall_mem_cons.mpr ⟨(List.Mem.tail _ (List.Mem.tail _ (List.Mem.tail _ (List.Mem.head _)))), (List.forall_mem_cons.mpr ⟨(List.Mem.tail _ (List.Mem.tail _ (List.Mem.tail _ (List.Mem.tail _ (List.Mem.head _))))), (fun q h => absurd h List.not_mem_nil)⟩)⟩)⟩)⟩)⟩) ?_
          exact kx _ kk I F jjTD jjFDB hq (by first | exact ⟨Or.inr (g1007), hi.2.2.2.2.2.2.1, hi.2.2.2.2.2.2.2.1, hi.2.2.2.2.2.2.2.2⟩ | omega)
        ·
          obtain ⟨⟨a1, m1, m2, m3⟩, mh⟩ := mmq_in hq (by omega)
          have hA1 := m2.1
          refine z_aload_n X (x := A 179) (show cdA 199 154 = some (.aload_n 0, 1, 0, 0, 0) from rfl) (List.Mem.head _) ?_
          refine s_getR X 179 (show cdA 199 155 = some (.getfield 44, 3, 12, 26, 0) from rfl) (by decide) rfl rfl ?_
          refine z_aload_n X (x := A 179) (show cdA 199 158 = some (.aload_n 0, 1, 0, 0, 0) from rfl) (List.Mem.head _) ?_
          refine z_getI X 179 (show cdA 199 159 = some (.getfield 216, 3, 12, 27, 0) from rfl) (by decide) rfl rfl ?_
          have b1008 : (0 : Int) ≤ iI t 91 ∧ iI t 91 ≤ 24 := I.1 91
          refine z_const X (show cdA 199 162 = some (.iconst 1, 1, 0, 0, 0) from rfl) ?_
          refine z_sub X (show cdA 199 163 = some (.isub, 1, 0, 0, 0) from rfl) ?_
          have hT1009 := jjTD (((iI t 91) - 1) : Int).toNat (by omega)
          refine z_ald X 188 (show cdA 199 164 = some (.iaload, 1, 0, 0, 0) from rfl) (by decide) rfl (by first | exact oq_02aa5459 hi.2.2.2.2.2.2.1 | omega) (show ((iI t 91) - 1) < 24 by first | exact oq_19cb6f5b b1008.2 | omega) (by decide) ?_
          have b1010 : ((-2147483648) : Int) ≤ iC t 165 (((iI t 91) - 1)).toNat ∧ iC t 165 (((iI t 91) - 1)).toNat ≤ 2147483647 := I.2 165 _ (show (((iI t 91) - 1)).toNat < 24 by first | exact oq_f976b25c b1008.2 | omega)
          have ar1011 : iC t 165 (((iI t 91) - 1)).toNat = iC t 165 (((iI t 91) - 1)).toNat := (sam_rf (a := 165) (s := t)) _
          refine z_load_n X (x := stp) (show cdA 199 165 = some (.iload_n 3, 1, 0, 0, 0) from rfl) (List.Mem.tail _ (List.Mem.tail _ (List.Mem.head _))) ?_
          refine z_callS X (rm := rmN 190) (As := [.int (Int32.ofInt (iC t 165 (((iI t 91) - 1)).toNat)), .int (Int32.ofInt stp)]) (st := []) (show cdA 199 166 = some (.invokestatic 223, 3, 190, 1, 0) from rfl) rfl (by rw [E.1, E.2.1, E.2.2.1]; exact k_beside2 G I (by omega) (by first | exact ⟨hi.2.1.1, hi.2.1.2⟩ | omega)) ⟨by rw [E.2.2.2]; exact (show (rmN 190).frames + 1 ≤ (rmN 199).frames by decide), by rw [E.2.2.2]; exact (show 8 + (mNL (miB 190) + 11) + (rmN 190).locals ≤ (rmN 199).locals by decide), by rw [E.2.2.2]; exact (show 0 + (rmN 190).cells ≤ (rmN 199).cells by decide), by rw [E.2.2.2]; exact (show 0 + (rmN 190).slots ≤ (rmN 199).slots by decide)⟩ (Nat.le_of_ble_eq_true rfl) (fun vv s1012 hq => ?_) (fun ee s1012 hq => ?_)
          rotate_left
          · obtain ⟨rfl, e1013, hv, hrs1012, hps1012⟩ := hq; cases hv
          obtain ⟨rfl, e1013, hv, hrs1012, hps1012⟩ := hq
          cases hv
          show WS k 169 [(0, .ref (A 179)), (1, .int (Int32.ofInt lt)), (3, .int (Int32.ofInt stp)), (4, .int (Int32.ofInt tm)), (5, .int (Int32.ofInt kk))] [.int (Int32.ofInt e1013)] (Wd A dT t) 0 0
          have hcc : iC t 165 (iI t 91 - 1).toNat = a1.2 (a1.1 - 1).toNat := by rw [hA1]; exact ag_at m2 (by omega) (by omega)
          have hnn : e1013 = besT (iC t 165 (iI t 91 - 1).toNat) stp := hps1012.1
          refine z_store X (lv' := [(6, .int (Int32.ofInt e1013)), (0, .ref (A 179)), (1, .int (Int32.ofInt lt)), (3, .int (Int32.ofInt stp)), (4, .int (Int32.ofInt tm)), (5, .int (Int32.ofInt kk))]) (show cdA 199 169 = some (.istore 6, 2, 0, 0, 0) from rfl) (by decide) (fun _ h => h) ?_
          refine z_load X (x := e1013) (show cdA 199 171 = some (.iload 6, 2, 0, 0, 0) from rfl) (List.Mem.head _) ?_
          refine z_const X (show cdA 199 173 = some (.iconst (-1), 1, 0, 0, 0) from rfl) ?_
          refine z_icmp_ne X (t := 186) (show cdA 199 174 = some (.if_icmp .ne 12, 3, 1, 0, 0) from rfl) (by decide) hrs1012 (by decide) (fun g1014 => ?_) (fun g1014 => ?_)
          ·
            refine z_aload_n X (x := A 179) (show cdA 199 186 = some (.aload_n 0, 1, 0, 0, 0) from rfl) (List.Mem.tail _ (List.Mem.head _)) ?_
            refine z_getI X 179 (show cdA 199 187 = some (.getfield 216, 3, 12, 27, 0) from rfl) (by decide) rfl rfl ?_
            have b1015 : (0 : Int) ≤ iI t 91 ∧ iI t 91 ≤ 24 := I.1 91
            refine z_bipush X (show cdA 199 190 = some (.bipush 24, 2, 0, 0, 24) from rfl) ?_
            refine z_icmp_eq X (t := 204) (show cdA 199 192 = some (.if_icmp .eq 12, 3, 0, 0, 0) from rfl) (by decide) (rng_to _) (by decide) (fun g1016 => ?_) (fun g1016 => ?_)
            ·
              refine z_aload_n X (x := A 179) (show cdA 199 204 = some (.aload_n 0, 1, 0, 0, 0) from rfl) (List.Mem.tail _ (List.Mem.head _)) ?_
              refine z_const X (show cdA 199 205 = some (.iconst 4, 1, 0, 0, 0) from rfl) ?_
              refine z_load_n X (x := lt) (show cdA 199 206 = some (.iload_n 1, 1, 0, 0, 0) from rfl) (List.Mem.tail _ (List.Mem.tail _ (List.Mem.head _))) ?_
              refine z_callV X 179 (rm := rmN 194) (As := [.int (Int32.ofInt 4), .int (Int32.ofInt lt)]) (st := []) (show cdA 199 207 = some (.invokevirtual 204, 3, 194, 0, 0) from rfl) rfl (by decide) rfl (by rw [E.1, E.2.1, E.2.2.1]; exact k_wrong2 G I (by first | exact ⟨by decide, by decide⟩ | omega) (by first | exact ⟨oq_ca54ea22 hi.1.1, hi.1.2⟩ | omega)) ⟨by rw [E.2.2.2]; exact (show (rmN 194).frames + 1 ≤ (rmN 199).frames by decide), by rw [E.2.2.2]; exact (show 8 + (mNL (miB 194) + 11) + (rmN 194).locals ≤ (rmN 199).locals by decide), by rw [E.2.2.2]; exact (show 0 + (rmN 194).cells ≤ (rmN 199).cells by decide), by rw [E.2.2.2]; exact (show 0 + (rmN 194).slots ≤ (rmN 199).slots by decide)⟩ (Nat.le_of_ble_eq_true rfl) (fun vv s1017 hq => ?_) (fun ee s1017 hq => ?_)
              rotate_left
              · obtain ⟨Is1017, Fs1017, hv, hps1017⟩ := hq; cases hv
              obtain ⟨Is1017, Fs1017, hv, hps1017⟩ := hq
              cases hv
              have Gs1017 := fm_ts F Fs1017 (by decide) (by decide)
              have JTD_s1017 : TD s1017 := TD_fm Fs1017 (by decide) jjTD
              have JFDB_s1017 : FDB B N s1017 := FDB_fm Fs1017 (by decide) jjFDB
              have ws1017_77 : iI s1017 77 = iI t 77 := fm_i Fs1017 (by decide)
              have ws1017_75 : iI s1017 75 = iI t 75 := fm_i Fs1017 (by decide)
              have b1019 : (0 : Int) ≤ iI s1017 79 ∧ iI s1017 79 ≤ 9 := Is1017.1 79
              have ws1017_91 : iI s1017 91 = iI t 91 := fm_i Fs1017 (by decide)
              have aws1017_165 : SAM 165 t s1017 := sam_ts (sam_rf (a := 165) (s := t)) (sam_fm Fs1017 (by decide))
              show WS k 210 [(6, .int (Int32.ofInt e1013)), (0, .ref (A 179)), (1, .int (Int32.ofInt lt)), (3, .int (Int32.ofInt stp)), (4, .int (Int32.ofInt tm)), (5, .int (Int32.ofInt kk))] [] (Wd A dT s1017) 0 0
              refine z_aload_n X (x := A 179) (show cdA 199 210 = some (.aload_n 0, 1, 0, 0, 0) from rfl) (List.Mem.tail _ (List.Mem.head _)) ?_
              refine z_getI X 179 (show cdA 199 211 = some (.getfield 191, 3, 12, 6, 0) from rfl) (by decide) rfl rfl ?_
              have b1020 : (0 : Int) ≤ iI s1017 79 ∧ iI s1017 79 ≤ 9 := Is1017.1 79
              refine z_if_eq X (t := 218) (show cdA 199 214 = some (.ifCond .eq 4, 3, 0, 0, 0) from rfl) (by decide) (rng_to _) (fun g1021 => ?_) (fun g1021 => ?_)
              ·
                exfalso
                omega
              ·
                exact w_vret X.1 q hRt (ax_d X (show cdA 199 217 = some (.return_, 1, 0, 0, 0) from rfl)) (Nat.zero_le _) (Nat.zero_le _) ⟨_, rfl, Is1017, Gs1017, JTD_s1017, JFDB_s1017, rfl, ⟨by first | exact oq_9272904e ws1017_77 hi.2.2.2.2.2.2.2.1 | omega, by first | exact oq_5338757c ws1017_77 hi.2.2.2.2.2.2.2.2 | omega, by first | exact oq_238e3abb ws1017_91 g1016 | omega, Or.inl (by first | exact g1021 | omega), Or.inr ⟨by first | exact g1021 | omega, mmq_no mh m1 (by omega) (ext_no2 hcc hnn (by omega) (by omega))⟩⟩⟩
            ·
              refine z_aload_n X (x := A 179) (show cdA 199 195 = some (.aload_n 0, 1, 0, 0, 0) from rfl) (List.Mem.tail _ (List.Mem.head _)) ?_
              refine z_load X (x := e1013) (show cdA 199 196 = some (.iload 6, 2, 0, 0, 0) from rfl) (List.Mem.head _) ?_
              refine z_callV X 179 (rm := rmN 198) (As := [.int (Int32.ofInt e1013)]) (st := []) (show cdA 199 198 = some (.invokevirtual 226, 3, 198, 0, 0) from rfl) rfl (by decide) rfl (by rw [E.1, E.2.1, E.2.2.1]; exact k_isTold2 G I (by first | exact ⟨oq_97ee2c2a hps1012.2.1, oq_07d346ce hps1012.2.2⟩ | omega)) ⟨by rw [E.2.2.2]; exact (show (rmN 198).frames + 1 ≤ (rmN 199).frames by decide), by rw [E.2.2.2]; exact (show 8 + (mNL (miB 198) + 11) + (rmN 198).locals ≤ (rmN 199).locals by decide), by rw [E.2.2.2]; exact (show 0 + (rmN 198).cells ≤ (rmN 199).cells by decide), by rw [E.2.2.2]; exact (show 0 + (rmN 198).slots ≤ (rmN 199).slots by decide)⟩ (Nat.le_of_ble_eq_true rfl) (fun vv s1022 hq => ?_) (fun ee s1022 hq => ?_)
              rotate_left
              · obtain ⟨Is1022, Fs1022, e1023, hv, hrs1022, hps1022⟩ := hq; cases hv
              obtain ⟨Is1022, Fs1022, e1023, hv, hrs1022, hps1022⟩ := hq
              cases hv
              have Gs1022 := fm_ts F Fs1022 (by decide) (by decide)
              have JTD_s1022 : TD s1022 := TD_fm Fs1022 (by decide) jjTD
              have JFDB_s1022 : FDB B N s1022 := FDB_fm Fs1022 (by decide) jjFDB
              have ws1022_77 : iI s1022 77 = iI t 77 := fm_i Fs1022 (by decide)
              have ws1022_75 : iI s1022 75 = iI t 75 := fm_i Fs1022 (by decide)
              have ws1022_79 : iI s1022 79 = iI t 79 := fm_i Fs1022 (by decide)
              have ws1022_91 : iI s1022 91 = iI t 91 := fm_i Fs1022 (by decide)
              have aws1022_165 : SAM 165 t s1022 := sam_ts (sam_rf (a := 165) (s := t)) (sam_fm Fs1022 (by decide))
              show WS k 201 [(6, .int (Int32.ofInt e1013)), (0, .ref (A 179)), (1, .int (Int32.ofInt lt)), (3, .int (Int32.ofInt stp)), (4, .int (Int32.ofInt tm)), (5, .int (Int32.ofInt kk))] [.int (Int32.ofInt e1023)] (Wd A dT s1022) 0 0
              refine z_if_eq X (t := 210) (show cdA 199 201 = some (.ifCond .eq 9, 3, 0, 0, 0) from rfl) (by decide) hrs1022 (fun g1024 => ?_) (fun g1024 => ?_)
              ·
                refine z_aload_n X (x := A 179) (show cdA 199 210 = some (.aload_n 0, 1, 0, 0, 0) from rfl) (List.Mem.tail _ (List.Mem.head _)) ?_
                refine z_getI X 179 (show cdA 199 211 = some (.getfield 191, 3, 12, 6, 0) from rfl) (by decide) rfl rfl ?_
                have b1025 : (0 : Int) ≤ iI s1022 79 ∧ iI s1022 79 ≤ 9 := Is1022.1 79
                refine z_if_eq X (t := 218) (show cdA 199 214 = some (.ifCond .eq 4, 3, 0, 0, 0) from rfl) (by decide) (rng_to _) (fun g1026 => ?_) (fun g1026 => ?_)
                ·
                  refine z_aload_n X (x := A 179) (show cdA 199 218 = some (.aload_n 0, 1, 0, 0, 0) from rfl) (List.Mem.tail _ (List.Mem.head _)) ?_
                  refine s_getR X 179 (show cdA 199 219 = some (.getfield 44, 3, 12, 26, 0) from rfl) (by decide) rfl rfl ?_
                  refine z_aload_n X (x := A 179) (show cdA 199 222 = some (.aload_n 0, 1, 0, 0, 0) from rfl) (List.Mem.tail _ (List.Mem.head _)) ?_
                  refine z_getI X 179 (show cdA 199 223 = some (.getfield 216, 3, 12, 27, 0) from rfl) (by decide) rfl rfl ?_
                  have b1027 : (0 : Int) ≤ iI s1022 91 ∧ iI s1022 91 ≤ 24 := Is1022.1 91
                  refine z_load X (x := e1013) (show cdA 199 226 = some (.iload 6, 2, 0, 0, 0) from rfl) (List.Mem.head _) ?_
                  refine z_ast X 188 (show cdA 199 228 = some (.iastore, 1, 0, 0, 0) from rfl) (by decide) rfl (by first | exact b1027.1 | omega) (show (iI s1022 91) < 24 by first | exact oq_f7e8fb92 ws1022_91 g1016 b1015.2 | omega) (by decide) ?_
                  obtain ⟨s1028, hs1028⟩ : ∃ x0, x0 = uC s1022 165 ((iI s1022 91)).toNat (Int32.ofInt e1013) := ⟨_, rfl⟩
                  rw [← hs1028]
                  have Is1028 : Bd s1028 := by rw [hs1028]; exact bd_C Is1022 (show ((-2147483648) : Int) ≤ e1013 ∧ e1013 ≤ 2147483647 by first | exact ⟨oq_97ee2c2a hps1012.2.1, oq_07d346ce hps1012.2.2⟩ | omega) hrs1012
                  have Fs1028 := fm_C (i := ((iI s1022 91)).toNat) (x := Int32.ofInt e1013) Gs1022 (show 165 ∈ _ by decide)
                  rw [← hs1028] at Fs1028
                  have ws1028_77 : iI s1028 77 = iI s1022 77 := by rw [hs1028]; rfl
                  have ws1028_75 : iI s1028 75 = iI s1022 75 := by rw [hs1028]; rfl
                  have ws1028_79 : iI s1028 79 = iI s1022 79 := by rw [hs1028]; rfl
                  have ws1028_91 : iI s1028 91 = iI s1022 91 := by rw [hs1028]; rfl
                  have aws1028_165 : UPD 165 ((iI s1022 91)) e1013 t s1028 := by rw [hs1028]; exact upd_put aws1022_165 hrs1012
                  have fs1028 : Fm [] [165] s1022 s1028 := by rw [hs1028]; exact fm_C (fm_rf _ _ _) (show 165 ∈ _ by decide)
                  have JFDB_s1028 : FDB B N s1028 := FDB_fm fs1028 (by decide) JFDB_s1022
                  refine z_aload_n X (x := A 179) (show cdA 199 229 = some (.aload_n 0, 1, 0, 0, 0) from rfl) (List.Mem.tail _ (List.Mem.head _)) ?_
                  refine w_dup X.1 (ax_d X (show cdA 199 230 = some (.dup, 1, 0, 0, 0) from rfl)) rfl ?_
                  refine z_getI X 179 (show cdA 199 231 = some (.getfield 216, 3, 12, 27, 0) from rfl) (by decide) rfl rfl ?_
                  have b1029 : (0 : Int) ≤ iI s1028 91 ∧ iI s1028 91 ≤ 24 := Is1028.1 91
                  refine z_const X (show cdA 199 234 = some (.iconst 1, 1, 0, 0, 0) from rfl) ?_
                  refine z_add X (show cdA 199 235 = some (.iadd, 1, 0, 0, 0) from rfl) ?_
                  refine s_putI X 179 (show cdA 199 236 = some (.putfield 216, 3, 12, 27, 0) from rfl) (by decide) rfl rfl (by decide) rfl rfl rfl ?_
                  obtain ⟨s1030, hs1030⟩ : ∃ x0, x0 = uI s1028 91 (Int32.ofInt ((iI s1028 91) + 1)) := ⟨_, rfl⟩
                  rw [← hs1030]
                  have Is1030 : Bd s1030 := by rw [hs1030]; exact bd_I Is1028 (show (0 : Int) ≤ ((iI s1028 91) + 1) ∧ ((iI s1028 91) + 1) ≤ 24 by first | exact ⟨oq_54f49eb5 b1029.1, oq_6a454d4a ws1028_91 ws1022_91 g1016 b1015.2⟩ | omega) ⟨by first | exact oq_74de1e16 b1029.1 | omega, by first | exact oq_3a454424 b1029.2 | omega⟩
                  have Fs1030 := fm_I (x := Int32.ofInt ((iI s1028 91) + 1)) Fs1028 (show 91 ∈ _ by decide)
                  rw [← hs1030] at Fs1030
                  have vs1030 : iI s1030 91 = ((iI s1028 91) + 1) := by rw [hs1030]; exact iI_u ⟨by first | exact oq_74de1e16 b1029.1 | omega, by first | exact oq_3a454424 b1029.2 | omega⟩
                  have ws1030_77 : iI s1030 77 = iI s1028 77 := by rw [hs1030]; rfl
                  have ws1030_75 : iI s1030 75 = iI s1028 75 := by rw [hs1030]; rfl
                  have ws1030_79 : iI s1030 79 = iI s1028 79 := by rw [hs1030]; rfl
                  have aws1030_165 : UPD 165 ((iI s1022 91)) e1013 t s1030 := by rw [hs1030]; exact aws1028_165
                  have fs1030 : Fm [91] [] s1028 s1030 := by rw [hs1030]; exact fm_I (fm_rf _ _ _) (show 91 ∈ _ by decide)
                  have JFDB_s1030 : FDB B N s1030 := FDB_fm fs1030 (by decide) JFDB_s1028
                  have JTD_s1030 : TD s1030 := by
                    rw [hs1030, ws1028_91, hs1028]
                    exact TD_up JTD_s1022 rfl (by omega) (by omega)
                  refine z_inc X (x := kk) (lv' := [(5, .int (Int32.ofInt (kk + 1))), (6, .int (Int32.ofInt e1013)), (0, .ref (A 179)), (1, .int (Int32.ofInt lt)), (3, .int (Int32.ofInt stp)), (4, .int (Int32.ofInt tm))]) (show cdA 199 239 = some (.iinc 5 1, 3, 0, 0, 0) from rfl) (by decide) (List.Mem.tail _ (List.Mem.tail _ (List.Mem.tail _ (List.Mem.tail _ (List.Mem.tail _ (List.Mem.head _)))))) (fun _ h => h) ?_
                  refine z_goto X (t := 140) (show cdA 199 242 = some (.goto (-102), 3, 0, 0, 0) from rfl) (by decide) ?_
                  refine WS_lv (lv := [(0, .ref (A 179)), (1, .int (Int32.ofInt lt)), (3, .int (Int32.ofInt stp)), (4, .int (Int32.ofInt tm)), (5, .int (Int32.ofInt (kk + 1)))]) (List.forall_mem_cons.mpr ⟨(List.Mem.tail _ (List.Mem.tail _ (List.Mem.head _))), (List.forall_mem_cons.mpr ⟨(List.Mem.tail _ (List.Mem.tail _ (List.Mem.tail _ (List.Mem.head _)))), (List.forall_mem_cons.mpr ⟨(List.Mem.tail _ (List.Mem.tail _ (List.Mem.tail _ (List.Mem.tail _ (List.Mem.head _))))), (List.forall_mem_cons.mpr ⟨(List.Mem.tail _ (List.Mem.tail _ (List.Mem.tail _ (List.Mem.tail _ (List.Mem.tail _ (List.Mem.head _)))))), (List.forall_mem_cons.mpr ⟨(List.Mem.head _), (fun q h => absurd h List.not_mem_nil)⟩)⟩)⟩)⟩)⟩) ?_
                  exact ih _ lt stp tm (kk + 1) Is1030 Fs1030 JTD_s1030 JFDB_s1030 (mmq_up mh m1 m3 (by omega) (ext_yes hcc hnn (by omega) (by omega) (by omega) m2 (ho_0 hps1022 (by omega)) (upd_ix aws1030_165 (by omega)) (by omega)) (by omega) (by omega) (by omega)) (by first | exact ⟨And.intro (hi.1.1) (hi.1.2), And.intro (hi.2.1.1) (hi.2.1.2), hi.2.2.1, hi.2.2.2.1, oq_54f49eb5 hi.2.2.2.2.1, oq_52ebc553 g1005 hi.2.2.2.1, oq_23ac7970 vs1030 b1029.1, oq_47978b2f ws1030_77 ws1028_77 ws1022_77 hi.2.2.2.2.2.2.2.1, oq_25e396f8 ws1030_77 ws1028_77 ws1022_77 hi.2.2.2.2.2.2.2.2⟩ | omega) (by first | exact qk_me hm (by decide) (oq_901836cd g1005) | omega) kx
                ·
                  exfalso
                  omega
              ·
                refine z_aload_n X (x := A 179) (show cdA 199 204 = some (.aload_n 0, 1, 0, 0, 0) from rfl) (List.Mem.tail _ (List.Mem.head _)) ?_
                refine z_const X (show cdA 199 205 = some (.iconst 4, 1, 0, 0, 0) from rfl) ?_
                refine z_load_n X (x := lt) (show cdA 199 206 = some (.iload_n 1, 1, 0, 0, 0) from rfl) (List.Mem.tail _ (List.Mem.tail _ (List.Mem.head _))) ?_
                refine z_callV X 179 (rm := rmN 194) (As := [.int (Int32.ofInt 4), .int (Int32.ofInt lt)]) (st := []) (show cdA 199 207 = some (.invokevirtual 204, 3, 194, 0, 0) from rfl) rfl (by decide) rfl (by rw [E.1, E.2.1, E.2.2.1]; exact k_wrong2 G Is1022 (by first | exact ⟨by decide, by decide⟩ | omega) (by first | exact ⟨oq_ca54ea22 hi.1.1, hi.1.2⟩ | omega)) ⟨by rw [E.2.2.2]; exact (show (rmN 194).frames + 1 ≤ (rmN 199).frames by decide), by rw [E.2.2.2]; exact (show 8 + (mNL (miB 194) + 11) + (rmN 194).locals ≤ (rmN 199).locals by decide), by rw [E.2.2.2]; exact (show 0 + (rmN 194).cells ≤ (rmN 199).cells by decide), by rw [E.2.2.2]; exact (show 0 + (rmN 194).slots ≤ (rmN 199).slots by decide)⟩ (Nat.le_of_ble_eq_true rfl) (fun vv s1031 hq => ?_) (fun ee s1031 hq => ?_)
                rotate_left
                · obtain ⟨Is1031, Fs1031, hv, hps1031⟩ := hq; cases hv
                obtain ⟨Is1031, Fs1031, hv, hps1031⟩ := hq
                cases hv
                have Gs1031 := fm_ts Gs1022 Fs1031 (by decide) (by decide)
                have JTD_s1031 : TD s1031 := TD_fm Fs1031 (by decide) JTD_s1022
                have JFDB_s1031 : FDB B N s1031 := FDB_fm Fs1031 (by decide) JFDB_s1022
                have ws1031_77 : iI s1031 77 = iI s1022 77 := fm_i Fs1031 (by decide)
                have ws1031_75 : iI s1031 75 = iI s1022 75 := fm_i Fs1031 (by decide)
                have b1033 : (0 : Int) ≤ iI s1031 79 ∧ iI s1031 79 ≤ 9 := Is1031.1 79
                have ws1031_91 : iI s1031 91 = iI s1022 91 := fm_i Fs1031 (by decide)
                have aws1031_165 : SAM 165 t s1031 := sam_ts aws1022_165 (sam_fm Fs1031 (by decide))
                show WS k 210 [(6, .int (Int32.ofInt e1013)), (0, .ref (A 179)), (1, .int (Int32.ofInt lt)), (3, .int (Int32.ofInt stp)), (4, .int (Int32.ofInt tm)), (5, .int (Int32.ofInt kk))] [] (Wd A dT s1031) 0 0
                refine z_aload_n X (x := A 179) (show cdA 199 210 = some (.aload_n 0, 1, 0, 0, 0) from rfl) (List.Mem.tail _ (List.Mem.head _)) ?_
                refine z_getI X 179 (show cdA 199 211 = some (.getfield 191, 3, 12, 6, 0) from rfl) (by decide) rfl rfl ?_
                have b1034 : (0 : Int) ≤ iI s1031 79 ∧ iI s1031 79 ≤ 9 := Is1031.1 79
                refine z_if_eq X (t := 218) (show cdA 199 214 = some (.ifCond .eq 4, 3, 0, 0, 0) from rfl) (by decide) (rng_to _) (fun g1035 => ?_) (fun g1035 => ?_)
                ·
                  exfalso
                  omega
                ·
                  exact w_vret X.1 q hRt (ax_d X (show cdA 199 217 = some (.return_, 1, 0, 0, 0) from rfl)) (Nat.zero_le _) (Nat.zero_le _) ⟨_, rfl, Is1031, Gs1031, JTD_s1031, JFDB_s1031, rfl, ⟨by first | exact oq_2954f754 ws1031_77 ws1022_77 hi.2.2.2.2.2.2.2.1 | omega, by first | exact oq_3a225677 ws1031_77 ws1022_77 hi.2.2.2.2.2.2.2.2 | omega, by first | exact oq_48a46d4a ws1031_91 ws1022_91 hi.2.2.2.2.2.2.1 | omega, Or.inl (by first | exact g1035 | omega), Or.inr ⟨by first | exact g1035 | omega, mmq_no mh m1 (by omega) (ext_no3 hcc hnn (by omega) (by omega) m2 (ho_1 hps1022 (by omega)))⟩⟩⟩
          ·
            refine z_aload_n X (x := A 179) (show cdA 199 177 = some (.aload_n 0, 1, 0, 0, 0) from rfl) (List.Mem.tail _ (List.Mem.head _)) ?_
            refine z_const X (show cdA 199 178 = some (.iconst 3, 1, 0, 0, 0) from rfl) ?_
            refine z_load_n X (x := lt) (show cdA 199 179 = some (.iload_n 1, 1, 0, 0, 0) from rfl) (List.Mem.tail _ (List.Mem.tail _ (List.Mem.head _))) ?_
            refine z_callV X 179 (rm := rmN 194) (As := [.int (Int32.ofInt 3), .int (Int32.ofInt lt)]) (st := []) (show cdA 199 180 = some (.invokevirtual 204, 3, 194, 0, 0) from rfl) rfl (by decide) rfl (by rw [E.1, E.2.1, E.2.2.1]; exact k_wrong2 G I (by first | exact ⟨by decide, by decide⟩ | omega) (by first | exact ⟨oq_ca54ea22 hi.1.1, hi.1.2⟩ | omega)) ⟨by rw [E.2.2.2]; exact (show (rmN 194).frames + 1 ≤ (rmN 199).frames by decide), by rw [E.2.2.2]; exact (show 8 + (mNL (miB 194) + 11) + (rmN 194).locals ≤ (rmN 199).locals by decide), by rw [E.2.2.2]; exact (show 0 + (rmN 194).cells ≤ (rmN 199).cells by decide), by rw [E.2.2.2]; exact (show 0 + (rmN 194).slots ≤ (rmN 199).slots by decide)⟩ (Nat.le_of_ble_eq_true rfl) (fun vv s1036 hq => ?_) (fun ee s1036 hq => ?_)
            rotate_left
            · obtain ⟨Is1036, Fs1036, hv, hps1036⟩ := hq; cases hv
            obtain ⟨Is1036, Fs1036, hv, hps1036⟩ := hq
            cases hv
            have Gs1036 := fm_ts F Fs1036 (by decide) (by decide)
            have JTD_s1036 : TD s1036 := TD_fm Fs1036 (by decide) jjTD
            have JFDB_s1036 : FDB B N s1036 := FDB_fm Fs1036 (by decide) jjFDB
            have ws1036_77 : iI s1036 77 = iI t 77 := fm_i Fs1036 (by decide)
            have ws1036_75 : iI s1036 75 = iI t 75 := fm_i Fs1036 (by decide)
            have b1038 : (0 : Int) ≤ iI s1036 79 ∧ iI s1036 79 ≤ 9 := Is1036.1 79
            have ws1036_91 : iI s1036 91 = iI t 91 := fm_i Fs1036 (by decide)
            have aws1036_165 : SAM 165 t s1036 := sam_ts (sam_rf (a := 165) (s := t)) (sam_fm Fs1036 (by decide))
            show WS k 183 [(6, .int (Int32.ofInt e1013)), (0, .ref (A 179)), (1, .int (Int32.ofInt lt)), (3, .int (Int32.ofInt stp)), (4, .int (Int32.ofInt tm)), (5, .int (Int32.ofInt kk))] [] (Wd A dT s1036) 0 0
            refine z_goto X (t := 210) (show cdA 199 183 = some (.goto 27, 3, 0, 0, 0) from rfl) (by decide) ?_
            refine z_aload_n X (x := A 179) (show cdA 199 210 = some (.aload_n 0, 1, 0, 0, 0) from rfl) (List.Mem.tail _ (List.Mem.head _)) ?_
            refine z_getI X 179 (show cdA 199 211 = some (.getfield 191, 3, 12, 6, 0) from rfl) (by decide) rfl rfl ?_
            have b1039 : (0 : Int) ≤ iI s1036 79 ∧ iI s1036 79 ≤ 9 := Is1036.1 79
            refine z_if_eq X (t := 218) (show cdA 199 214 = some (.ifCond .eq 4, 3, 0, 0, 0) from rfl) (by decide) (rng_to _) (fun g1040 => ?_) (fun g1040 => ?_)
            ·
              exfalso
              omega
            ·
              exact w_vret X.1 q hRt (ax_d X (show cdA 199 217 = some (.return_, 1, 0, 0, 0) from rfl)) (Nat.zero_le _) (Nat.zero_le _) ⟨_, rfl, Is1036, Gs1036, JTD_s1036, JFDB_s1036, rfl, ⟨by first | exact oq_9272904e ws1036_77 hi.2.2.2.2.2.2.2.1 | omega, by first | exact oq_5338757c ws1036_77 hi.2.2.2.2.2.2.2.2 | omega, by first | exact oq_fed65c02 ws1036_91 hi.2.2.2.2.2.2.1 | omega, Or.inl (by first | exact g1040 | omega), Or.inr ⟨by first | exact g1040 | omega, mmq_no mh m1 (by omega) (ext_no1 hcc hnn (by omega))⟩⟩⟩
  refine z_aload_n X (x := A 179) (show cdA 199 0 = some (.aload_n 0, 1, 0, 0, 0) from rfl) (List.Mem.head _) ?_
  refine z_getI X 179 (show cdA 199 1 = some (.getfield 184, 3, 12, 4, 0) from rfl) (by decide) rfl rfl ?_
  have b5 : (0 : Int) ≤ iI s 77 ∧ iI s 77 ≤ 400 := I.1 77
  refine z_store_n X (lv' := [(1, .int (Int32.ofInt (iI s 77))), (0, .ref (A 179))]) (show cdA 199 4 = some (.istore_n 1, 1, 0, 0, 0) from rfl) (by decide) (fun _ h => h) ?_
  refine z_aload_n X (x := A 179) (show cdA 199 5 = some (.aload_n 0, 1, 0, 0, 0) from rfl) (List.Mem.tail _ (List.Mem.head _)) ?_
  refine z_aload_n X (x := A 179) (show cdA 199 6 = some (.aload_n 0, 1, 0, 0, 0) from rfl) (List.Mem.tail _ (List.Mem.head _)) ?_
  refine z_getI X 179 (show cdA 199 7 = some (.getfield 184, 3, 12, 4, 0) from rfl) (by decide) rfl rfl ?_
  have b6 : (0 : Int) ≤ iI s 77 ∧ iI s 77 ≤ 400 := I.1 77
  refine z_callV X 179 (rm := rmN 192) (As := [.int (Int32.ofInt (iI s 77))]) (st := []) (show cdA 199 10 = some (.invokevirtual 187, 3, 192, 0, 0) from rfl) rfl (by decide) rfl (by rw [E.1, E.2.1, E.2.2.1]; exact k_byteAt2 G I jFDB (by first | exact ⟨b6.1, oq_5a8480eb b6.2⟩ | omega)) ⟨by rw [E.2.2.2]; exact (show (rmN 192).frames + 1 ≤ (rmN 199).frames by decide), by rw [E.2.2.2]; exact (show 8 + (mNL (miB 192) + 11) + (rmN 192).locals ≤ (rmN 199).locals by decide), by rw [E.2.2.2]; exact (show 0 + (rmN 192).cells ≤ (rmN 199).cells by decide), by rw [E.2.2.2]; exact (show 0 + (rmN 192).slots ≤ (rmN 199).slots by decide)⟩ (Nat.le_of_ble_eq_true rfl) (fun vv s7 hq => ?_) (fun ee s7 hq => ?_)
  rotate_left
  · obtain ⟨rfl, e8, hv, hrs7, hps7⟩ := hq; cases hv
  obtain ⟨rfl, e8, hv, hrs7, hps7⟩ := hq
  cases hv
  show WS k 13 [(1, .int (Int32.ofInt (iI s 77))), (0, .ref (A 179))] [.int (Int32.ofInt e8)] (Wd A dT s) 0 0
  have hcb : e8 = B (iI s 77).toNat := by omega
  refine z_store_n X (lv' := [(2, .int (Int32.ofInt e8)), (1, .int (Int32.ofInt (iI s 77))), (0, .ref (A 179))]) (show cdA 199 13 = some (.istore_n 2, 1, 0, 0, 0) from rfl) (by decide) (fun _ h => h) ?_
  refine z_load_n X (x := e8) (show cdA 199 14 = some (.iload_n 2, 1, 0, 0, 0) from rfl) (List.Mem.head _) ?_
  refine z_bipush X (show cdA 199 15 = some (.bipush 114, 2, 0, 0, 114) from rfl) ?_
  have N9 : ∀ e10 : Int, (((e8 ≠ 114) ∧ (e8 ≠ 108) ∧ (e8 ≠ 100) ∧ (e8 ≠ 117) ∧ (e8 ≠ 99) ∧ (e8 ≠ 115) ∧ e10 = (-1)) ∨ ((e8 ≠ 114) ∧ (e8 ≠ 108) ∧ (e8 ≠ 100) ∧ (e8 ≠ 117) ∧ (e8 ≠ 99) ∧ (e8 = 115) ∧ e10 = 5) ∨ ((e8 ≠ 114) ∧ (e8 ≠ 108) ∧ (e8 ≠ 100) ∧ (e8 ≠ 117) ∧ (e8 = 99) ∧ e10 = 4) ∨ ((e8 ≠ 114) ∧ (e8 ≠ 108) ∧ (e8 ≠ 100) ∧ (e8 = 117) ∧ e10 = 3) ∨ ((e8 ≠ 114) ∧ (e8 ≠ 108) ∧ (e8 = 100) ∧ e10 = 2) ∨ ((e8 ≠ 114) ∧ (e8 = 108) ∧ e10 = 1) ∨ ((e8 = 114) ∧ e10 = 0)) → WS k 75 [(2, .int (Int32.ofInt e8)), (1, .int (Int32.ofInt (iI s 77))), (0, .ref (A 179))] [.int (Int32.ofInt e10)] (Wd A dT s) 0 0 := by
    intro e10 he10
    have re10 : (-1) ≤ e10 ∧ e10 ≤ 5 := by omega
    have hd : e10 = dirT e8 := dir_of (by omega)
    clear he10
    refine z_store_n X (lv' := [(3, .int (Int32.ofInt e10)), (2, .int (Int32.ofInt e8)), (1, .int (Int32.ofInt (iI s 77))), (0, .ref (A 179))]) (show cdA 199 75 = some (.istore_n 3, 1, 0, 0, 0) from rfl) (by decide) (fun _ h => h) ?_
    refine z_load_n X (x := e10) (show cdA 199 76 = some (.iload_n 3, 1, 0, 0, 0) from rfl) (List.Mem.head _) ?_
    refine z_const X (show cdA 199 77 = some (.iconst (-1), 1, 0, 0, 0) from rfl) ?_
    refine z_icmp_ne X (t := 91) (show cdA 199 78 = some (.if_icmp .ne 13, 3, 1, 0, 0) from rfl) (by decide) ⟨by first | exact oq_97ee2c2a re10.1 | omega, by first | exact oq_a3dd55e5 re10.2 | omega⟩ (by decide) (fun g11 => ?_) (fun g11 => ?_)
    ·
      have hdy : dirT (B (iI s 77).toNat) = e10 := by rw [← hcb]; omega
      refine z_aload_n X (x := A 179) (show cdA 199 91 = some (.aload_n 0, 1, 0, 0, 0) from rfl) (List.Mem.tail _ (List.Mem.tail _ (List.Mem.tail _ (List.Mem.head _)))) ?_
      refine w_dup X.1 (ax_d X (show cdA 199 92 = some (.dup, 1, 0, 0, 0) from rfl)) rfl ?_
      refine z_getI X 179 (show cdA 199 93 = some (.getfield 184, 3, 12, 4, 0) from rfl) (by decide) rfl rfl ?_
      have b12 : (0 : Int) ≤ iI s 77 ∧ iI s 77 ≤ 400 := I.1 77
      refine z_const X (show cdA 199 96 = some (.iconst 1, 1, 0, 0, 0) from rfl) ?_
      refine z_add X (show cdA 199 97 = some (.iadd, 1, 0, 0, 0) from rfl) ?_
      refine s_putI X 179 (show cdA 199 98 = some (.putfield 184, 3, 12, 4, 0) from rfl) (by decide) rfl rfl (by decide) rfl rfl rfl ?_
      obtain ⟨s13, hs13⟩ : ∃ x0, x0 = uI s 77 (Int32.ofInt ((iI s 77) + 1)) := ⟨_, rfl⟩
      rw [← hs13]
      have Is13 : Bd s13 := by rw [hs13]; exact bd_I I (show (0 : Int) ≤ ((iI s 77) + 1) ∧ ((iI s 77) + 1) ≤ 400 by first | exact ⟨oq_54f49eb5 b12.1, oq_19ab3065 p0⟩ | omega) ⟨by first | exact oq_74de1e16 b12.1 | omega, by first | exact oq_964ce197 b12.2 | omega⟩
      have Fs13 := fm_I (x := Int32.ofInt ((iI s 77) + 1)) F (show 77 ∈ _ by decide)
      rw [← hs13] at Fs13
      have vs13 : iI s13 77 = ((iI s 77) + 1) := by rw [hs13]; exact iI_u ⟨by first | exact oq_74de1e16 b12.1 | omega, by first | exact oq_964ce197 b12.2 | omega⟩
      have ws13_75 : iI s13 75 = iI s 75 := by rw [hs13]; rfl
      have ws13_79 : iI s13 79 = iI s 79 := by rw [hs13]; rfl
      have ws13_91 : iI s13 91 = iI s 91 := by rw [hs13]; rfl
      have aws13_165 : SAM 165 s s13 := by rw [hs13]; exact aw0_165
      have fs13 : Fm [77] [] s s13 := by rw [hs13]; exact fm_I (fm_rf _ _ _) (show 77 ∈ _ by decide)
      have JTD_s13 : TD s13 := TD_fm fs13 (by decide) jTD
      have JFDB_s13 : FDB B N s13 := FDB_fm fs13 (by decide) jFDB
      refine z_aload_n X (x := A 179) (show cdA 199 101 = some (.aload_n 0, 1, 0, 0, 0) from rfl) (List.Mem.tail _ (List.Mem.tail _ (List.Mem.tail _ (List.Mem.head _)))) ?_
      refine z_callV X 179 (rm := rmN 193) (As := []) (st := []) (show cdA 199 102 = some (.invokevirtual 197, 3, 193, 0, 0) from rfl) rfl (by decide) rfl (by rw [E.1, E.2.1, E.2.2.1]; exact k_blanks2 G Is13 JFDB_s13 (by first | exact oq_d73dfa11 vs13 p0 | omega)) ⟨by rw [E.2.2.2]; exact (show (rmN 193).frames + 1 ≤ (rmN 199).frames by decide), by rw [E.2.2.2]; exact (show 8 + (mNL (miB 193) + 11) + (rmN 193).locals ≤ (rmN 199).locals by decide), by rw [E.2.2.2]; exact (show 0 + (rmN 193).cells ≤ (rmN 199).cells by decide), by rw [E.2.2.2]; exact (show 0 + (rmN 193).slots ≤ (rmN 199).slots by decide)⟩ (Nat.le_of_ble_eq_true rfl) (fun vv s14 hq => ?_) (fun ee s14 hq => ?_)
      rotate_left
      · obtain ⟨Is14, Fs14, JFDB_s14, hv, hps14⟩ := hq; cases hv
      obtain ⟨Is14, Fs14, JFDB_s14, hv, hps14⟩ := hq
      cases hv
      have Gs14 := fm_ts Fs13 Fs14 (by decide) (by decide)
      have JTD_s14 : TD s14 := TD_fm Fs14 (by decide) JTD_s13
      have JFDB_s14 : FDB B N s14 := FDB_fm Fs14 (by decide) JFDB_s13
      have b16 : (0 : Int) ≤ iI s14 77 ∧ iI s14 77 ≤ 400 := Is14.1 77
      have ws14_75 : iI s14 75 = iI s13 75 := fm_i Fs14 (by decide)
      have ws14_79 : iI s14 79 = iI s13 79 := fm_i Fs14 (by decide)
      have ws14_91 : iI s14 91 = iI s13 91 := fm_i Fs14 (by decide)
      have aws14_165 : SAM 165 s s14 := sam_ts aws13_165 (sam_fm Fs14 (by decide))
      show WS k 105 [(3, .int (Int32.ofInt e10)), (2, .int (Int32.ofInt e8)), (1, .int (Int32.ofInt (iI s 77))), (0, .ref (A 179))] [] (Wd A dT s14) 0 0
      have hr1 : iI s14 77 = sk B N (iI s 77 + 1) := by rw [hps14.1, show iI s13 77 = iI s 77 + 1 by omega]
      have hl1 := sk_le (B := B) (N := N) (p := iI s 77 + 1)
      have hss : sk B N (iI s14 77) = iI s14 77 := by rw [hr1]; exact sk_sk
      refine z_load_n X (x := e10) (show cdA 199 105 = some (.iload_n 3, 1, 0, 0, 0) from rfl) (List.Mem.head _) ?_
      refine z_const X (show cdA 199 106 = some (.iconst 4, 1, 0, 0, 0) from rfl) ?_
      refine z_icmp_ge X (t := 134) (show cdA 199 107 = some (.if_icmp .ge 27, 3, 3, 0, 0) from rfl) (by decide) ⟨by first | exact oq_97ee2c2a re10.1 | omega, by first | exact oq_a3dd55e5 re10.2 | omega⟩ (by decide) (fun g17 => ?_) (fun g17 => ?_)
      ·
        refine z_const X (show cdA 199 134 = some (.iconst 1, 1, 0, 0, 0) from rfl) ?_
        refine z_store X (lv' := [(4, .int (Int32.ofInt 1)), (3, .int (Int32.ofInt e10)), (2, .int (Int32.ofInt e8)), (1, .int (Int32.ofInt (iI s 77))), (0, .ref (A 179))]) (show cdA 199 135 = some (.istore 4, 2, 0, 0, 0) from rfl) (by decide) (fun _ h => h) ?_
        refine z_const X (show cdA 199 137 = some (.iconst 0, 1, 0, 0, 0) from rfl) ?_
        refine z_store X (lv' := [(5, .int (Int32.ofInt 0)), (4, .int (Int32.ofInt 1)), (3, .int (Int32.ofInt e10)), (2, .int (Int32.ofInt e8)), (1, .int (Int32.ofInt (iI s 77))), (0, .ref (A 179))]) (show cdA 199 138 = some (.istore 5, 2, 0, 0, 0) from rfl) (by decide) (fun _ h => h) ?_
        refine WS_lv (lv := [(0, .ref (A 179)), (1, .int (Int32.ofInt (iI s 77))), (3, .int (Int32.ofInt e10)), (4, .int (Int32.ofInt 1)), (5, .int (Int32.ofInt 0))]) (List.forall_mem_cons.mpr ⟨(List.Mem.tail _ (List.Mem.tail _ (List.Mem.tail _ (List.Mem.tail _ (List.Mem.tail _ (List.Mem.head _)))))), (List.forall_mem_cons.mpr ⟨(List.Mem.tail _ (List.Mem.tail _ (List.Mem.tail _ (List.Mem.tail _ (List.Mem.head _))))), (List.forall_mem_cons.mpr ⟨(List.Mem.tail _ (List.Mem.tail _ (List.Mem.head _))), (List.forall_mem_cons.mpr ⟨(List.Mem.tail _ (List.Mem.head _)), (List.forall_mem_cons.mpr ⟨(List.Mem.head _), (fun q h => absurd h List.not_mem_nil)⟩)⟩)⟩)⟩)⟩) ?_
        refine L140 ((1 - 0 : Int).toNat + 1) s14 (iI s 77) e10 1 0 Is14 Gs14 JTD_s14 JFDB_s14 (mmq_0 (by omega) (ag_sam hA aws14_165 (by omega)) ha (by rw [show e10 = dirT (B (iI s 77).toNat) by omega, show sk B N (iI s14 77) = iI s14 77 by omega]; exact mv_one (r := iI s14 77) (by omega) hr1 (by omega)) (by omega)) (by first | exact ⟨And.intro (b12.1) (b12.2), And.intro (oq_26933c77 g17) (re10.2), by decide, by decide, by decide, by decide, by omega, oq_00e34026 hps14.2.1 vs13, oq_eb11129c hps14.2.2 vs13⟩ | omega) (Nat.lt_succ_self _) ?_
        intro s18 x19 Is18 Fs18 JTD_s18 JFDB_s18 Qs18 hs18
        have b20 : (0 : Int) ≤ iI s18 77 ∧ iI s18 77 ≤ 400 := Is18.1 77
        have b21 : (0 : Int) ≤ iI s18 75 ∧ iI s18 75 ≤ 200 := Is18.1 75
        have b22 : (0 : Int) ≤ iI s18 79 ∧ iI s18 79 ≤ 9 := Is18.1 79
        have b23 : (0 : Int) ≤ iI s18 91 ∧ iI s18 91 ≤ 24 := Is18.1 91
        have hNs18 := JFDB_s18.2.1
        have hWs18 := JFDB_s18.2.2
        exact w_vret X.1 q hRt (ax_d X (show cdA 199 245 = some (.return_, 1, 0, 0, 0) from rfl)) (Nat.zero_le _) (Nat.zero_le _) ⟨_, rfl, Is18, Fs18, JTD_s18, JFDB_s18, rfl, ⟨by first | exact hs18.2.2.1 | omega, by first | exact hs18.2.2.2 | omega, by first | exact hs18.2.1 | omega, mmq_lt Qs18, mmq_end Qs18 (by omega)⟩⟩
      ·
        refine z_aload_n X (x := A 179) (show cdA 199 110 = some (.aload_n 0, 1, 0, 0, 0) from rfl) (List.Mem.tail _ (List.Mem.tail _ (List.Mem.tail _ (List.Mem.head _)))) ?_
        refine z_aload_n X (x := A 179) (show cdA 199 111 = some (.aload_n 0, 1, 0, 0, 0) from rfl) (List.Mem.tail _ (List.Mem.tail _ (List.Mem.tail _ (List.Mem.head _)))) ?_
        refine z_getI X 179 (show cdA 199 112 = some (.getfield 184, 3, 12, 4, 0) from rfl) (by decide) rfl rfl ?_
        have b24 : (0 : Int) ≤ iI s14 77 ∧ iI s14 77 ≤ 400 := Is14.1 77
        refine z_callV X 179 (rm := rmN 192) (As := [.int (Int32.ofInt (iI s14 77))]) (st := []) (show cdA 199 115 = some (.invokevirtual 187, 3, 192, 0, 0) from rfl) rfl (by decide) rfl (by rw [E.1, E.2.1, E.2.2.1]; exact k_byteAt2 G Is14 JFDB_s14 (by first | exact ⟨b24.1, oq_5a8480eb b24.2⟩ | omega)) ⟨by rw [E.2.2.2]; exact (show (rmN 192).frames + 1 ≤ (rmN 199).frames by decide), by rw [E.2.2.2]; exact (show 8 + (mNL (miB 192) + 11) + (rmN 192).locals ≤ (rmN 199).locals by decide), by rw [E.2.2.2]; exact (show 0 + (rmN 192).cells ≤ (rmN 199).cells by decide), by rw [E.2.2.2]; exact (show 0 + (rmN 192).slots ≤ (rmN 199).slots by decide)⟩ (Nat.le_of_ble_eq_true rfl) (fun vv s25 hq => ?_) (fun ee s25 hq => ?_)
        rotate_left
        · obtain ⟨rfl, e26, hv, hrs25, hps25⟩ := hq; cases hv
        obtain ⟨rfl, e26, hv, hrs25, hps25⟩ := hq
        cases hv
        show WS k 118 [(3, .int (Int32.ofInt e10)), (2, .int (Int32.ofInt e8)), (1, .int (Int32.ofInt (iI s 77))), (0, .ref (A 179))] [.int (Int32.ofInt e26)] (Wd A dT s14) 0 0
        refine z_callS X (rm := rmN 195) (As := [.int (Int32.ofInt e26)]) (st := []) (show cdA 199 118 = some (.invokestatic 200, 3, 195, 1, 0) from rfl) rfl (by rw [E.1, E.2.1, E.2.2.1]; exact k_isDigit2 G Is14 (by first | exact ⟨oq_1b38bc36 hps25, oq_eabbb498 hps25⟩ | omega)) ⟨by rw [E.2.2.2]; exact (show (rmN 195).frames + 1 ≤ (rmN 199).frames by decide), by rw [E.2.2.2]; exact (show 8 + (mNL (miB 195) + 11) + (rmN 195).locals ≤ (rmN 199).locals by decide), by rw [E.2.2.2]; exact (show 0 + (rmN 195).cells ≤ (rmN 199).cells by decide), by rw [E.2.2.2]; exact (show 0 + (rmN 195).slots ≤ (rmN 199).slots by decide)⟩ (Nat.le_of_ble_eq_true rfl) (fun vv s27 hq => ?_) (fun ee s27 hq => ?_)
        rotate_left
        · obtain ⟨rfl, e28, hv, hrs27, hps27⟩ := hq; cases hv
        obtain ⟨rfl, e28, hv, hrs27, hps27⟩ := hq
        cases hv
        show WS k 121 [(3, .int (Int32.ofInt e10)), (2, .int (Int32.ofInt e8)), (1, .int (Int32.ofInt (iI s 77))), (0, .ref (A 179))] [.int (Int32.ofInt e28)] (Wd A dT s14) 0 0
        refine z_if_eq X (t := 134) (show cdA 199 121 = some (.ifCond .eq 13, 3, 0, 0, 0) from rfl) (by decide) hrs27 (fun g29 => ?_) (fun g29 => ?_)
        ·
          refine z_const X (show cdA 199 134 = some (.iconst 1, 1, 0, 0, 0) from rfl) ?_
          refine z_store X (lv' := [(4, .int (Int32.ofInt 1)), (3, .int (Int32.ofInt e10)), (2, .int (Int32.ofInt e8)), (1, .int (Int32.ofInt (iI s 77))), (0, .ref (A 179))]) (show cdA 199 135 = some (.istore 4, 2, 0, 0, 0) from rfl) (by decide) (fun _ h => h) ?_
          refine z_const X (show cdA 199 137 = some (.iconst 0, 1, 0, 0, 0) from rfl) ?_
          refine z_store X (lv' := [(5, .int (Int32.ofInt 0)), (4, .int (Int32.ofInt 1)), (3, .int (Int32.ofInt e10)), (2, .int (Int32.ofInt e8)), (1, .int (Int32.ofInt (iI s 77))), (0, .ref (A 179))]) (show cdA 199 138 = some (.istore 5, 2, 0, 0, 0) from rfl) (by decide) (fun _ h => h) ?_
          refine WS_lv (lv := [(0, .ref (A 179)), (1, .int (Int32.ofInt (iI s 77))), (3, .int (Int32.ofInt e10)), (4, .int (Int32.ofInt 1)), (5, .int (Int32.ofInt 0))]) (List.forall_mem_cons.mpr ⟨(List.Mem.tail _ (List.Mem.tail _ (List.Mem.tail _ (List.Mem.tail _ (List.Mem.tail _ (List.Mem.head _)))))), (List.forall_mem_cons.mpr ⟨(List.Mem.tail _ (List.Mem.tail _ (List.Mem.tail _ (List.Mem.tail _ (List.Mem.head _))))), (List.forall_mem_cons.mpr ⟨(List.Mem.tail _ (List.Mem.tail _ (List.Mem.head _))), (List.forall_mem_cons.mpr ⟨(List.Mem.tail _ (List.Mem.head _)), (List.forall_mem_cons.mpr ⟨(List.Mem.head _), (fun q h => absurd h List.not_mem_nil)⟩)⟩)⟩)⟩)⟩) ?_
          refine L140 ((1 - 0 : Int).toNat + 1) s14 (iI s 77) e10 1 0 Is14 Gs14 JTD_s14 JFDB_s14 (mmq_0 (by omega) (ag_sam hA aws14_165 (by omega)) ha (by rw [show e10 = dirT (B (iI s 77).toNat) by omega, show sk B N (iI s14 77) = iI s14 77 by omega]; exact mv_one (r := iI s14 77) (by omega) hr1 (by omega)) (by omega)) (by first | exact ⟨And.intro (b12.1) (b12.2), oq_752b3116 g17 g11 re10.1, by decide, by decide, by decide, by decide, by omega, oq_00e34026 hps14.2.1 vs13, oq_eb11129c hps14.2.2 vs13⟩ | omega) (Nat.lt_succ_self _) ?_
          intro s30 x31 Is30 Fs30 JTD_s30 JFDB_s30 Qs30 hs30
          have b32 : (0 : Int) ≤ iI s30 77 ∧ iI s30 77 ≤ 400 := Is30.1 77
          have b33 : (0 : Int) ≤ iI s30 75 ∧ iI s30 75 ≤ 200 := Is30.1 75
          have b34 : (0 : Int) ≤ iI s30 79 ∧ iI s30 79 ≤ 9 := Is30.1 79
          have b35 : (0 : Int) ≤ iI s30 91 ∧ iI s30 91 ≤ 24 := Is30.1 91
          have hNs30 := JFDB_s30.2.1
          have hWs30 := JFDB_s30.2.2
          exact w_vret X.1 q hRt (ax_d X (show cdA 199 245 = some (.return_, 1, 0, 0, 0) from rfl)) (Nat.zero_le _) (Nat.zero_le _) ⟨_, rfl, Is30, Fs30, JTD_s30, JFDB_s30, rfl, ⟨by first | exact hs30.2.2.1 | omega, by first | exact hs30.2.2.2 | omega, by first | exact hs30.2.1 | omega, mmq_lt Qs30, mmq_end Qs30 (by omega)⟩⟩
        ·
          refine z_aload_n X (x := A 179) (show cdA 199 124 = some (.aload_n 0, 1, 0, 0, 0) from rfl) (List.Mem.tail _ (List.Mem.tail _ (List.Mem.tail _ (List.Mem.head _)))) ?_
          refine z_const X (show cdA 199 125 = some (.iconst 1, 1, 0, 0, 0) from rfl) ?_
          refine z_bipush X (show cdA 199 126 = some (.bipush 7, 2, 0, 0, 7) from rfl) ?_
          refine z_callV X 179 (rm := rmN 196) (As := [.int (Int32.ofInt 1), .int (Int32.ofInt 7)]) (st := []) (show cdA 199 128 = some (.invokevirtual 219, 3, 196, 0, 0) from rfl) rfl (by decide) rfl (by rw [E.1, E.2.1, E.2.2.1]; exact k_number2 G Is14 JFDB_s14 (by first | exact ⟨by decide, by decide⟩ | omega) (by first | exact ⟨by decide, by decide⟩ | omega) (by omega)) ⟨by rw [E.2.2.2]; exact (show (rmN 196).frames + 1 ≤ (rmN 199).frames by decide), by rw [E.2.2.2]; exact (show 8 + (mNL (miB 196) + 11) + (rmN 196).locals ≤ (rmN 199).locals by decide), by rw [E.2.2.2]; exact (show 0 + (rmN 196).cells ≤ (rmN 199).cells by decide), by rw [E.2.2.2]; exact (show 0 + (rmN 196).slots ≤ (rmN 199).slots by decide)⟩ (Nat.le_of_ble_eq_true rfl) (fun vv s36 hq => ?_) (fun ee s36 hq => ?_)
          rotate_left
          · obtain ⟨Is36, Fs36, JFDB_s36, e37, hv, hrs36, hps36⟩ := hq; cases hv
          obtain ⟨Is36, Fs36, JFDB_s36, e37, hv, hrs36, hps36⟩ := hq
          cases hv
          have Gs36 := fm_ts Gs14 Fs36 (by decide) (by decide)
          have JTD_s36 : TD s36 := TD_fm Fs36 (by decide) JTD_s14
          have JFDB_s36 : FDB B N s36 := FDB_fm Fs36 (by decide) JFDB_s14
          have b38 : (0 : Int) ≤ iI s36 77 ∧ iI s36 77 ≤ 400 := Is36.1 77
          have ws36_75 : iI s36 75 = iI s14 75 := fm_i Fs36 (by decide)
          have b39 : (0 : Int) ≤ iI s36 79 ∧ iI s36 79 ≤ 9 := Is36.1 79
          have ws36_91 : iI s36 91 = iI s14 91 := fm_i Fs36 (by decide)
          have aws36_165 : SAM 165 s s36 := sam_ts aws14_165 (sam_fm Fs36 (by decide))
          show WS k 131 [(3, .int (Int32.ofInt e10)), (2, .int (Int32.ofInt e8)), (1, .int (Int32.ofInt (iI s 77))), (0, .ref (A 179))] [.int (Int32.ofInt e37)] (Wd A dT s36) 0 0
          have hnu := hps36.1
          unfold NUR at hnu
          rw [hss] at hnu
          have hl3 := nmE_le (B := B) (N := N) (p := iI s14 77) (v := 0)
          have hv0 := nmV_nn (B := B) (N := N) (p := iI s14 77)
          have hv1 := nmV_mx (B := B) (N := N) (p := iI s14 77)
          refine z_goto X (t := 135) (show cdA 199 131 = some (.goto 4, 3, 0, 0, 0) from rfl) (by decide) ?_
          refine z_store X (lv' := [(4, .int (Int32.ofInt e37)), (3, .int (Int32.ofInt e10)), (2, .int (Int32.ofInt e8)), (1, .int (Int32.ofInt (iI s 77))), (0, .ref (A 179))]) (show cdA 199 135 = some (.istore 4, 2, 0, 0, 0) from rfl) (by decide) (fun _ h => h) ?_
          refine z_const X (show cdA 199 137 = some (.iconst 0, 1, 0, 0, 0) from rfl) ?_
          refine z_store X (lv' := [(5, .int (Int32.ofInt 0)), (4, .int (Int32.ofInt e37)), (3, .int (Int32.ofInt e10)), (2, .int (Int32.ofInt e8)), (1, .int (Int32.ofInt (iI s 77))), (0, .ref (A 179))]) (show cdA 199 138 = some (.istore 5, 2, 0, 0, 0) from rfl) (by decide) (fun _ h => h) ?_
          refine WS_lv (lv := [(0, .ref (A 179)), (1, .int (Int32.ofInt (iI s 77))), (3, .int (Int32.ofInt e10)), (4, .int (Int32.ofInt e37)), (5, .int (Int32.ofInt 0))]) (List.forall_mem_cons.mpr ⟨(List.Mem.tail _ (List.Mem.tail _ (List.Mem.tail _ (List.Mem.tail _ (List.Mem.tail _ (List.Mem.head _)))))), (List.forall_mem_cons.mpr ⟨(List.Mem.tail _ (List.Mem.tail _ (List.Mem.tail _ (List.Mem.tail _ (List.Mem.head _))))), (List.forall_mem_cons.mpr ⟨(List.Mem.tail _ (List.Mem.tail _ (List.Mem.head _))), (List.forall_mem_cons.mpr ⟨(List.Mem.tail _ (List.Mem.head _)), (List.forall_mem_cons.mpr ⟨(List.Mem.head _), (fun q h => absurd h List.not_mem_nil)⟩)⟩)⟩)⟩)⟩) ?_
          refine L140 ((e37 - 0 : Int).toNat + 1) s36 (iI s 77) e10 e37 0 Is36 Gs36 JTD_s36 JFDB_s36 (by rcases hnu.2.2 with z | z | z; exact absurd (by omega) z.1; exact mmq_0 (by omega) (ag_sam hA aws36_165 (by omega)) ha (by rw [show e10 = dirT (B (iI s 77).toNat) by omega, show e37 = nmV B N (iI s14 77) 0 from hnu.1, show iI s36 77 = nmE B N (iI s14 77) 0 from hnu.2.1]; exact mv_many (r := iI s14 77) (by omega) hr1 (by omega) (by omega) (by omega) (by omega) (by omega) (by omega)) (by omega); exact Or.inl ⟨z.2.1, mv_num (r := iI s14 77) (by omega) hr1 (by omega) (by omega) (by omega) (by omega) (by omega)⟩) (by omega) (Nat.lt_succ_self _) ?_
          intro s40 x41 Is40 Fs40 JTD_s40 JFDB_s40 Qs40 hs40
          have b42 : (0 : Int) ≤ iI s40 77 ∧ iI s40 77 ≤ 400 := Is40.1 77
          have b43 : (0 : Int) ≤ iI s40 75 ∧ iI s40 75 ≤ 200 := Is40.1 75
          have b44 : (0 : Int) ≤ iI s40 79 ∧ iI s40 79 ≤ 9 := Is40.1 79
          have b45 : (0 : Int) ≤ iI s40 91 ∧ iI s40 91 ≤ 24 := Is40.1 91
          have hNs40 := JFDB_s40.2.1
          have hWs40 := JFDB_s40.2.2
          exact w_vret X.1 q hRt (ax_d X (show cdA 199 245 = some (.return_, 1, 0, 0, 0) from rfl)) (Nat.zero_le _) (Nat.zero_le _) ⟨_, rfl, Is40, Fs40, JTD_s40, JFDB_s40, rfl, ⟨by first | exact hs40.2.2.1 | omega, by first | exact hs40.2.2.2 | omega, by first | exact hs40.2.1 | omega, mmq_lt Qs40, mmq_end Qs40 (by omega)⟩⟩
    ·
      have hdn : dirT (B (iI s 77).toNat) = -1 := by rw [← hcb]; omega
      refine z_aload_n X (x := A 179) (show cdA 199 81 = some (.aload_n 0, 1, 0, 0, 0) from rfl) (List.Mem.tail _ (List.Mem.tail _ (List.Mem.tail _ (List.Mem.head _)))) ?_
      refine z_const X (show cdA 199 82 = some (.iconst 1, 1, 0, 0, 0) from rfl) ?_
      refine z_aload_n X (x := A 179) (show cdA 199 83 = some (.aload_n 0, 1, 0, 0, 0) from rfl) (List.Mem.tail _ (List.Mem.tail _ (List.Mem.tail _ (List.Mem.head _)))) ?_
      refine z_getI X 179 (show cdA 199 84 = some (.getfield 184, 3, 12, 4, 0) from rfl) (by decide) rfl rfl ?_
      have b46 : (0 : Int) ≤ iI s 77 ∧ iI s 77 ≤ 400 := I.1 77
      refine z_callV X 179 (rm := rmN 194) (As := [.int (Int32.ofInt 1), .int (Int32.ofInt (iI s 77))]) (st := []) (show cdA 199 87 = some (.invokevirtual 204, 3, 194, 0, 0) from rfl) rfl (by decide) rfl (by rw [E.1, E.2.1, E.2.2.1]; exact k_wrong2 G I (by first | exact ⟨by decide, by decide⟩ | omega) (by first | exact ⟨oq_ca54ea22 b46.1, b46.2⟩ | omega)) ⟨by rw [E.2.2.2]; exact (show (rmN 194).frames + 1 ≤ (rmN 199).frames by decide), by rw [E.2.2.2]; exact (show 8 + (mNL (miB 194) + 11) + (rmN 194).locals ≤ (rmN 199).locals by decide), by rw [E.2.2.2]; exact (show 0 + (rmN 194).cells ≤ (rmN 199).cells by decide), by rw [E.2.2.2]; exact (show 0 + (rmN 194).slots ≤ (rmN 199).slots by decide)⟩ (Nat.le_of_ble_eq_true rfl) (fun vv s47 hq => ?_) (fun ee s47 hq => ?_)
      rotate_left
      · obtain ⟨Is47, Fs47, hv, hps47⟩ := hq; cases hv
      obtain ⟨Is47, Fs47, hv, hps47⟩ := hq
      cases hv
      have Gs47 := fm_ts F Fs47 (by decide) (by decide)
      have JTD_s47 : TD s47 := TD_fm Fs47 (by decide) jTD
      have JFDB_s47 : FDB B N s47 := FDB_fm Fs47 (by decide) jFDB
      have ws47_77 : iI s47 77 = iI s 77 := fm_i Fs47 (by decide)
      have ws47_75 : iI s47 75 = iI s 75 := fm_i Fs47 (by decide)
      have b49 : (0 : Int) ≤ iI s47 79 ∧ iI s47 79 ≤ 9 := Is47.1 79
      have ws47_91 : iI s47 91 = iI s 91 := fm_i Fs47 (by decide)
      have aws47_165 : SAM 165 s s47 := sam_ts aw0_165 (sam_fm Fs47 (by decide))
      show WS k 90 [(3, .int (Int32.ofInt e10)), (2, .int (Int32.ofInt e8)), (1, .int (Int32.ofInt (iI s 77))), (0, .ref (A 179))] [] (Wd A dT s47) 0 0
      exact w_vret X.1 q hRt (ax_d X (show cdA 199 90 = some (.return_, 1, 0, 0, 0) from rfl)) (Nat.zero_le _) (Nat.zero_le _) ⟨_, rfl, Is47, Gs47, JTD_s47, JFDB_s47, rfl, ⟨by first | exact oq_fa711800 ws47_77 | omega, by first | exact Or.inl (oq_2dcd477e ws47_77) | omega, by omega, Or.inl (by first | exact hps47 | omega), Or.inr ⟨by first | exact hps47 | omega, mv_dir hdn⟩⟩⟩
  refine z_icmp_ne X (t := 24) (show cdA 199 17 = some (.if_icmp .ne 7, 3, 1, 0, 0) from rfl) (by decide) hrs7 (by decide) (fun g50 => ?_) (fun g50 => ?_)
  ·
    refine z_load_n X (x := e8) (show cdA 199 24 = some (.iload_n 2, 1, 0, 0, 0) from rfl) (List.Mem.head _) ?_
    refine z_bipush X (show cdA 199 25 = some (.bipush 108, 2, 0, 0, 108) from rfl) ?_
    refine z_icmp_ne X (t := 34) (show cdA 199 27 = some (.if_icmp .ne 7, 3, 1, 0, 0) from rfl) (by decide) hrs7 (by decide) (fun g51 => ?_) (fun g51 => ?_)
    ·
      refine z_load_n X (x := e8) (show cdA 199 34 = some (.iload_n 2, 1, 0, 0, 0) from rfl) (List.Mem.head _) ?_
      refine z_bipush X (show cdA 199 35 = some (.bipush 100, 2, 0, 0, 100) from rfl) ?_
      refine z_icmp_ne X (t := 44) (show cdA 199 37 = some (.if_icmp .ne 7, 3, 1, 0, 0) from rfl) (by decide) hrs7 (by decide) (fun g52 => ?_) (fun g52 => ?_)
      ·
        refine z_load_n X (x := e8) (show cdA 199 44 = some (.iload_n 2, 1, 0, 0, 0) from rfl) (List.Mem.head _) ?_
        refine z_bipush X (show cdA 199 45 = some (.bipush 117, 2, 0, 0, 117) from rfl) ?_
        refine z_icmp_ne X (t := 54) (show cdA 199 47 = some (.if_icmp .ne 7, 3, 1, 0, 0) from rfl) (by decide) hrs7 (by decide) (fun g53 => ?_) (fun g53 => ?_)
        ·
          refine z_load_n X (x := e8) (show cdA 199 54 = some (.iload_n 2, 1, 0, 0, 0) from rfl) (List.Mem.head _) ?_
          refine z_bipush X (show cdA 199 55 = some (.bipush 99, 2, 0, 0, 99) from rfl) ?_
          refine z_icmp_ne X (t := 64) (show cdA 199 57 = some (.if_icmp .ne 7, 3, 1, 0, 0) from rfl) (by decide) hrs7 (by decide) (fun g54 => ?_) (fun g54 => ?_)
          ·
            refine z_load_n X (x := e8) (show cdA 199 64 = some (.iload_n 2, 1, 0, 0, 0) from rfl) (List.Mem.head _) ?_
            refine z_bipush X (show cdA 199 65 = some (.bipush 115, 2, 0, 0, 115) from rfl) ?_
            refine z_icmp_ne X (t := 74) (show cdA 199 67 = some (.if_icmp .ne 7, 3, 1, 0, 0) from rfl) (by decide) hrs7 (by decide) (fun g55 => ?_) (fun g55 => ?_)
            ·
              refine z_const X (show cdA 199 74 = some (.iconst (-1), 1, 0, 0, 0) from rfl) ?_
              exact N9 _ (Or.inl ⟨g50, g51, g52, g53, g54, g55, rfl⟩)
            ·
              refine z_const X (show cdA 199 70 = some (.iconst 5, 1, 0, 0, 0) from rfl) ?_
              refine z_goto X (t := 75) (show cdA 199 71 = some (.goto 4, 3, 0, 0, 0) from rfl) (by decide) ?_
              exact N9 _ (Or.inr (Or.inl ⟨g50, g51, g52, g53, g54, g55, rfl⟩))
          ·
            refine z_const X (show cdA 199 60 = some (.iconst 4, 1, 0, 0, 0) from rfl) ?_
            refine z_goto X (t := 75) (show cdA 199 61 = some (.goto 14, 3, 0, 0, 0) from rfl) (by decide) ?_
            exact N9 _ (Or.inr (Or.inr (Or.inl ⟨g50, g51, g52, g53, g54, rfl⟩)))
        ·
          refine z_const X (show cdA 199 50 = some (.iconst 3, 1, 0, 0, 0) from rfl) ?_
          refine z_goto X (t := 75) (show cdA 199 51 = some (.goto 24, 3, 0, 0, 0) from rfl) (by decide) ?_
          exact N9 _ (Or.inr (Or.inr (Or.inr (Or.inl ⟨g50, g51, g52, g53, rfl⟩))))
      ·
        refine z_const X (show cdA 199 40 = some (.iconst 2, 1, 0, 0, 0) from rfl) ?_
        refine z_goto X (t := 75) (show cdA 199 41 = some (.goto 34, 3, 0, 0, 0) from rfl) (by decide) ?_
        exact N9 _ (Or.inr (Or.inr (Or.inr (Or.inr (Or.inl ⟨g50, g51, g52, rfl⟩)))))
    ·
      refine z_const X (show cdA 199 30 = some (.iconst 1, 1, 0, 0, 0) from rfl) ?_
      refine z_goto X (t := 75) (show cdA 199 31 = some (.goto 44, 3, 0, 0, 0) from rfl) (by decide) ?_
      exact N9 _ (Or.inr (Or.inr (Or.inr (Or.inr (Or.inr (Or.inl ⟨g50, g51, rfl⟩))))))
  ·
    refine z_const X (show cdA 199 20 = some (.iconst 0, 1, 0, 0, 0) from rfl) ?_
    refine z_goto X (t := 75) (show cdA 199 21 = some (.goto 54, 3, 0, 0, 0) from rfl) (by decide) ?_
    exact N9 _ (Or.inr (Or.inr (Or.inr (Or.inr (Or.inr (Or.inr (⟨g50, rfl⟩)))))))
set_option maxRecDepth 4000 in
theorem k_stream2 (G : GX l s0 D tys a0 dT) {B : Nat → Int} (I : Bd s) (jRLx : RLx s) (jFDA : FDA B s) {x : Int} (p0 : rng x) : CT l s0 D A dT 200 (rmN 200) [.ref (A 179), .int (Int32.ofInt x)] s (fun o t => Bd t ∧ Fm [73, 74, 76, 90, 91, 77, 75, 78, 79, 80, 81] [165, 162, 166, 167, 168, 169, 170, 171, 172, 173, 174, 175, 176, 177, 178, 179, 180, 181, 182, 183, 184, 185, 186, 187, 188, 189] s t ∧ RLx t ∧ FDA B t ∧ ∃ e, o = .inl (some (.int (Int32.ofInt e))) ∧ rng e ∧ (((0 ≤ x ∧ x ≤ iI s 74 ∧ x ≤ 100 ∧ iI t 74 = 0 ∧ iI t 73 = 0) ∧ STRx B x (iI s 90) (iI t 90)) ∨ ((x < 0 ∨ iI s 74 < x ∨ 100 < x) ∧ iI t 74 = iI s 74 ∧ iI t 73 = 1 ∧ iI t 90 = iI s 90))) := by
  refine ct_of G (by decide) (Nat.le_of_ble_eq_true rfl) (fun k X E hRt hXt q => ?_)
  show WS k 0 [(0, .ref (A 179)), (1, .int (Int32.ofInt x))] [] _ 0 0
  have F : Fm [73, 74, 76, 90, 91, 77, 75, 78, 79, 80, 81] [165, 162, 166, 167, 168, 169, 170, 171, 172, 173, 174, 175, 176, 177, 178, 179, 180, 181, 182, 183, 184, 185, 186, 187, 188, 189] s s := fm_rf _ _ s
  have b1 : (0 : Int) ≤ iI s 73 ∧ iI s 73 ≤ 3 := I.1 73
  have b2 : (0 : Int) ≤ iI s 74 ∧ iI s 74 ≤ 200 := I.1 74
  have b3 : (0 : Int) ≤ iI s 77 ∧ iI s 77 ≤ 400 := I.1 77
  have b4 : (0 : Int) ≤ iI s 75 ∧ iI s 75 ≤ 200 := I.1 75
  have b5 : (0 : Int) ≤ iI s 79 ∧ iI s 79 ≤ 9 := I.1 79
  have b6 : (0 : Int) ≤ iI s 78 ∧ iI s 78 ≤ 8 := I.1 78
  have b7 : (0 : Int) ≤ iI s 90 ∧ iI s 90 ≤ 12 := I.1 90
  have b8 : (0 : Int) ≤ iI s 91 ∧ iI s 91 ≤ 24 := I.1 91
  have b9 : (0 : Int) ≤ iI s 81 ∧ iI s 81 ≤ 1 := I.1 81
  have L94 : ∀ (n : Nat) (t : PS) (xv : Int), Bd t → Fm [73, 74, 76, 90, 91, 77, 75, 78, 79, 80, 81] [165, 162, 166, 167, 168, 169, 170, 171, 172, 173, 174, 175, 176, 177, 178, 179, 180, 181, 182, 183, 184, 185, 186, 187, 188, 189] s t → RLx t → FDA B t → (TDF t ∧ WMQ B x t) → ((0 ≤ x ∧ x ≤ iI s 74 ∧ x ≤ 100) ∧ iI t 74 = 0 ∧ iI t 75 = x ∧ iI t 77 ≤ 203 ∧ (iI t 79 = 0 → iI t 77 ≤ iI t 75 + 1) ∧ 1 ≤ iI t 91 ∧ iI t 90 = iI s 90 ∧ iI s 90 ≤ 11 ∧ iI t 81 = 0 ∧ iI t 73 = 0) → (400 - iI t 77 + (9 - iI t 79) : Int).toNat < n → (∀ (t' : PS), Bd t' → Fm [73, 74, 76, 90, 91, 77, 75, 78, 79, 80, 81] [165, 162, 166, 167, 168, 169, 170, 171, 172, 173, 174, 175, 176, 177, 178, 179, 180, 181, 182, 183, 184, 185, 186, 187, 188, 189] s t' → RLx t' → FDA B t' → (TDF t' ∧ WMQ B x t') → ((0 ≤ x ∧ x ≤ iI s 74 ∧ x ≤ 100) ∧ iI t' 74 = 0 ∧ iI t' 75 = x ∧ iI t' 77 ≤ 203 ∧ (iI t' 79 = 0 → iI t' 77 ≤ iI t' 75 + 1) ∧ 1 ≤ iI t' 91 ∧ iI t' 90 = iI s 90 ∧ iI s 90 ≤ 11 ∧ iI t' 81 = 0 ∧ iI t' 73 = 0 ∧ (iI t' 79 ≠ 0 ∨ x ≤ iI t' 77)) → WS k 123 [(0, .ref (A 179)), (1, .int (Int32.ofInt xv))] [] (Wd A dT t') 0 0) → WS k 94 [(0, .ref (A 179)), (1, .int (Int32.ofInt xv))] [] (Wd A dT t) 0 0 := by
    intro n
    induction n with
    | zero =>
      intro t xv I F jjRLx jjFDA hq hi hm kx
      exact absurd hm (Nat.not_lt_zero _)
    | succ n ih =>
      intro t xv I F jjRLx jjFDA hq hi hm kx
      have b1001 : (0 : Int) ≤ iI t 73 ∧ iI t 73 ≤ 3 := I.1 73
      have b1002 : (0 : Int) ≤ iI t 74 ∧ iI t 74 ≤ 200 := I.1 74
      have b1003 : (0 : Int) ≤ iI t 77 ∧ iI t 77 ≤ 400 := I.1 77
      have b1004 : (0 : Int) ≤ iI t 75 ∧ iI t 75 ≤ 200 := I.1 75
      have b1005 : (0 : Int) ≤ iI t 79 ∧ iI t 79 ≤ 9 := I.1 79
      have b1006 : (0 : Int) ≤ iI t 78 ∧ iI t 78 ≤ 8 := I.1 78
      have b1007 : (0 : Int) ≤ iI t 90 ∧ iI t 90 ≤ 12 := I.1 90
      have b1008 : (0 : Int) ≤ iI t 91 ∧ iI t 91 ≤ 24 := I.1 91
      have b1009 : (0 : Int) ≤ iI t 81 ∧ iI t 81 ≤ 1 := I.1 81
      refine z_aload_n X (x := A 179) (show cdA 200 94 = some (.aload_n 0, 1, 0, 0, 0) from rfl) (List.Mem.head _) ?_
      refine z_getI X 179 (show cdA 200 95 = some (.getfield 191, 3, 12, 6, 0) from rfl) (by decide) rfl rfl ?_
      have b1010 : (0 : Int) ≤ iI t 79 ∧ iI t 79 ≤ 9 := I.1 79
      refine z_if_ne X (t := 123) (show cdA 200 98 = some (.ifCond .ne 25, 3, 1, 0, 0) from rfl) (by decide) (rng_to _) (fun g1011 => ?_) (fun g1011 => ?_)
      ·
        refine WS_lv (lv := [(0, .ref (A 179)), (1, .int (Int32.ofInt xv))]) (List.forall_mem_cons.mpr ⟨(List.Mem.head _), (List.forall_mem_cons.mpr ⟨(List.Mem.tail _ (List.Mem.head _)), (fun q h => absurd h List.not_mem_nil)⟩)⟩) ?_
        exact kx _  I F jjRLx jjFDA hq (by first | exact ⟨And.intro (hi.1.1) (And.intro (hi.1.2.1) (hi.1.2.2)), hi.2.1, hi.2.2.1, hi.2.2.2.1, hi.2.2.2.2.1, hi.2.2.2.2.2.1, hi.2.2.2.2.2.2.1, hi.2.2.2.2.2.2.2.1, hi.2.2.2.2.2.2.2.2.1, hi.2.2.2.2.2.2.2.2.2, Or.inl (g1011)⟩ | omega)
      ·
        refine z_aload_n X (x := A 179) (show cdA 200 101 = some (.aload_n 0, 1, 0, 0, 0) from rfl) (List.Mem.head _) ?_
        refine z_getI X 179 (show cdA 200 102 = some (.getfield 184, 3, 12, 4, 0) from rfl) (by decide) rfl rfl ?_
        have b1012 : (0 : Int) ≤ iI t 77 ∧ iI t 77 ≤ 400 := I.1 77
        refine z_aload_n X (x := A 179) (show cdA 200 105 = some (.aload_n 0, 1, 0, 0, 0) from rfl) (List.Mem.head _) ?_
        refine z_getI X 179 (show cdA 200 106 = some (.getfield 178, 3, 12, 2, 0) from rfl) (by decide) rfl rfl ?_
        have b1013 : (0 : Int) ≤ iI t 75 ∧ iI t 75 ≤ 200 := I.1 75
        refine z_icmp_ge X (t := 123) (show cdA 200 109 = some (.if_icmp .ge 14, 3, 3, 0, 0) from rfl) (by decide) (rng_to _) (rng_to _) (fun g1014 => ?_) (fun g1014 => ?_)
        ·
          refine WS_lv (lv := [(0, .ref (A 179)), (1, .int (Int32.ofInt xv))]) (List.forall_mem_cons.mpr ⟨(List.Mem.head _), (List.forall_mem_cons.mpr ⟨(List.Mem.tail _ (List.Mem.head _)), (fun q h => absurd h List.not_mem_nil)⟩)⟩) ?_
          exact kx _  I F jjRLx jjFDA hq (by first | exact ⟨And.intro (hi.1.1) (And.intro (hi.1.2.1) (hi.1.2.2)), hi.2.1, hi.2.2.1, hi.2.2.2.1, hi.2.2.2.2.1, hi.2.2.2.2.2.1, hi.2.2.2.2.2.2.1, hi.2.2.2.2.2.2.2.1, hi.2.2.2.2.2.2.2.2.1, hi.2.2.2.2.2.2.2.2.2, Or.inr (oq_acf76229 g1014 hi.2.2.1)⟩ | omega)
        ·
          refine z_aload_n X (x := A 179) (show cdA 200 112 = some (.aload_n 0, 1, 0, 0, 0) from rfl) (List.Mem.head _) ?_
          have JTD_t : TD t := hq.1 (by omega)
          have JFt : FDB B x t := ⟨fda_n jjFDA (by omega) (by omega), by omega, by omega⟩
          obtain ⟨a1, w1, w2, w3⟩ := wm_in hq.2 (by omega)
          refine z_callV X 179 (rm := rmN 199) (As := []) (st := []) (show cdA 200 113 = some (.invokevirtual 240, 3, 199, 0, 0) from rfl) rfl (by decide) rfl (by rw [E.1, E.2.1, E.2.2.1]; exact k_move2 G w2 w3 I JTD_t JFt (by first | exact oq_c9c52c8f hi.2.2.2.1 | omega) (by omega) (by first | exact g1011 | omega)) ⟨by rw [E.2.2.2]; exact (show (rmN 199).frames + 1 ≤ (rmN 200).frames by decide), by rw [E.2.2.2]; exact (show 8 + (mNL (miB 199) + 11) + (rmN 199).locals ≤ (rmN 200).locals by decide), by rw [E.2.2.2]; exact (show 0 + (rmN 199).cells ≤ (rmN 200).cells by decide), by rw [E.2.2.2]; exact (show 0 + (rmN 199).slots ≤ (rmN 200).slots by decide)⟩ (Nat.le_of_ble_eq_true rfl) (fun vv s1015 hq => ?_) (fun ee s1015 hq => ?_)
          rotate_left
          · obtain ⟨Is1015, Fs1015, JTD_s1015, JFDB_s1015, hv, hps1015⟩ := hq; cases hv
          obtain ⟨Is1015, Fs1015, JTD_s1015, JFDB_s1015, hv, hps1015⟩ := hq
          cases hv
          have Gs1015 := fm_ts F Fs1015 (by decide) (by decide)
          have JRLx_s1015 : RLx s1015 := RLx_fm Fs1015 (by decide) jjRLx
          have JFDA_s1015 : FDA B s1015 := FDA_fm Fs1015 (by decide) jjFDA
          have JFDB_s1015 : FDB B x s1015 := FDB_fm Fs1015 (by decide) JFt
          have ws1015_73 : iI s1015 73 = iI t 73 := fm_i Fs1015 (by decide)
          have ws1015_74 : iI s1015 74 = iI t 74 := fm_i Fs1015 (by decide)
          have b1017 : (0 : Int) ≤ iI s1015 77 ∧ iI s1015 77 ≤ 400 := Is1015.1 77
          have ws1015_75 : iI s1015 75 = iI t 75 := fm_i Fs1015 (by decide)
          have b1018 : (0 : Int) ≤ iI s1015 79 ∧ iI s1015 79 ≤ 9 := Is1015.1 79
          have ws1015_78 : iI s1015 78 = iI t 78 := fm_i Fs1015 (by decide)
          have ws1015_90 : iI s1015 90 = iI t 90 := fm_i Fs1015 (by decide)
          have b1019 : (0 : Int) ≤ iI s1015 91 ∧ iI s1015 91 ≤ 24 := Is1015.1 91
          have ws1015_81 : iI s1015 81 = iI t 81 := fm_i Fs1015 (by decide)
          show WS k 116 [(0, .ref (A 179)), (1, .int (Int32.ofInt xv))] [] (Wd A dT s1015) 0 0
          refine z_aload_n X (x := A 179) (show cdA 200 116 = some (.aload_n 0, 1, 0, 0, 0) from rfl) (List.Mem.head _) ?_
          have JFs1015 : FDB B x s1015 := ⟨fda_n JFDA_s1015 (by omega) (by omega), by omega, by omega⟩
          refine z_callV X 179 (rm := rmN 193) (As := []) (st := []) (show cdA 200 117 = some (.invokevirtual 197, 3, 193, 0, 0) from rfl) rfl (by decide) rfl (by rw [E.1, E.2.1, E.2.2.1]; exact k_blanks2 G Is1015 JFs1015 (by omega)) ⟨by rw [E.2.2.2]; exact (show (rmN 193).frames + 1 ≤ (rmN 200).frames by decide), by rw [E.2.2.2]; exact (show 8 + (mNL (miB 193) + 11) + (rmN 193).locals ≤ (rmN 200).locals by decide), by rw [E.2.2.2]; exact (show 0 + (rmN 193).cells ≤ (rmN 200).cells by decide), by rw [E.2.2.2]; exact (show 0 + (rmN 193).slots ≤ (rmN 200).slots by decide)⟩ (Nat.le_of_ble_eq_true rfl) (fun vv s1020 hq => ?_) (fun ee s1020 hq => ?_)
          rotate_left
          · obtain ⟨Is1020, Fs1020, JFDB_s1020, hv, hps1020⟩ := hq; cases hv
          obtain ⟨Is1020, Fs1020, JFDB_s1020, hv, hps1020⟩ := hq
          cases hv
          have Gs1020 := fm_ts Gs1015 Fs1020 (by decide) (by decide)
          have JRLx_s1020 : RLx s1020 := RLx_fm Fs1020 (by decide) JRLx_s1015
          have JFDA_s1020 : FDA B s1020 := FDA_fm Fs1020 (by decide) JFDA_s1015
          have JTD_s1020 : TD s1020 := TD_fm Fs1020 (by decide) JTD_s1015
          have JFDB_s1020 : FDB B x s1020 := FDB_fm Fs1020 (by decide) JFs1015
          have ws1020_73 : iI s1020 73 = iI s1015 73 := fm_i Fs1020 (by decide)
          have ws1020_74 : iI s1020 74 = iI s1015 74 := fm_i Fs1020 (by decide)
          have b1022 : (0 : Int) ≤ iI s1020 77 ∧ iI s1020 77 ≤ 400 := Is1020.1 77
          have ws1020_75 : iI s1020 75 = iI s1015 75 := fm_i Fs1020 (by decide)
          have ws1020_79 : iI s1020 79 = iI s1015 79 := fm_i Fs1020 (by decide)
          have ws1020_78 : iI s1020 78 = iI s1015 78 := fm_i Fs1020 (by decide)
          have ws1020_90 : iI s1020 90 = iI s1015 90 := fm_i Fs1020 (by decide)
          have ws1020_91 : iI s1020 91 = iI s1015 91 := fm_i Fs1020 (by decide)
          have ws1020_81 : iI s1020 81 = iI s1015 81 := fm_i Fs1020 (by decide)
          show WS k 120 [(0, .ref (A 179)), (1, .int (Int32.ofInt xv))] [] (Wd A dT s1020) 0 0
          refine z_goto X (t := 94) (show cdA 200 120 = some (.goto (-26), 3, 0, 0, 0) from rfl) (by decide) ?_
          refine WS_lv (lv := [(0, .ref (A 179)), (1, .int (Int32.ofInt xv))]) (List.forall_mem_cons.mpr ⟨(List.Mem.head _), (List.forall_mem_cons.mpr ⟨(List.Mem.tail _ (List.Mem.head _)), (fun q h => absurd h List.not_mem_nil)⟩)⟩) ?_
          exact ih _ xv Is1020 Gs1020 JRLx_s1020 JFDA_s1020 ⟨fun _ => JTD_s1020, wm_up w1 (by omega) hps1015.2.2.2.2 (by omega) hps1020.1 (sam_fm Fs1020 (by decide)) (by omega)⟩ (by first | exact ⟨And.intro (hi.1.1) (And.intro (hi.1.2.1) (hi.1.2.2)), oq_7fe879e0 ws1020_74 ws1015_74 hi.2.1 b1002.1, oq_878618b1 ws1020_75 ws1015_75 hi.2.2.1, by omega, by omega, oq_fed65c02 ws1020_91 hps1015.2.2.1, oq_d0d2714e ws1020_90 hi.2.2.2.2.2.2.1 ws1015_90, hi.2.2.2.2.2.2.2.1, oq_7fe879e0 ws1020_81 ws1015_81 hi.2.2.2.2.2.2.2.2.1 b1009.1, oq_7fe879e0 ws1020_73 ws1015_73 hi.2.2.2.2.2.2.2.2.2 b1001.1⟩ | omega) (by first | exact qk_me hm (oq_849580a5 ws1020_79 hps1020.2.1 b1018.1 hps1015.2.2.2.1 hps1015.1 g1011) (oq_faaf1092 g1011 b1012.2) | omega) kx
  have L161 : ∀ (n : Nat) (t : PS) (xv c : Int), Bd t → Fm [73, 74, 76, 90, 91, 77, 75, 78, 79, 80, 81] [165, 162, 166, 167, 168, 169, 170, 171, 172, 173, 174, 175, 176, 177, 178, 179, 180, 181, 182, 183, 184, 185, 186, 187, 188, 189] s t → RLx t → FDA B t → (TD t ∧ RLx t ∧ ∀ i : Nat, i < 128 → (i : Int) < c → iC t (178 + (iI s 90 : Int).toNat) i < iC t 162 (iI s 90 : Int).toNat) → ((0 ≤ x ∧ x ≤ iI s 74 ∧ x ≤ 100) ∧ iI t 74 = 0 ∧ 1 ≤ iI t 91 ∧ iI t 90 = iI s 90 ∧ iI s 90 ≤ 11 ∧ 0 ≤ c ∧ c ≤ 128 ∧ iC t 162 (iI s 90 : Int).toNat = iI t 91 ∧ iI t 73 = 0) → (128 - c : Int).toNat < n → (∀ (t' : PS) (c' : Int), Bd t' → Fm [73, 74, 76, 90, 91, 77, 75, 78, 79, 80, 81] [165, 162, 166, 167, 168, 169, 170, 171, 172, 173, 174, 175, 176, 177, 178, 179, 180, 181, 182, 183, 184, 185, 186, 187, 188, 189] s t' → RLx t' → FDA B t' → (TD t' ∧ RLx t' ∧ ∀ i : Nat, i < 128 → (i : Int) < c' → iC t' (178 + (iI s 90 : Int).toNat) i < iC t' 162 (iI s 90 : Int).toNat) → ((0 ≤ x ∧ x ≤ iI s 74 ∧ x ≤ 100) ∧ iI t' 74 = 0 ∧ 1 ≤ iI t' 91 ∧ iI t' 90 = iI s 90 ∧ iI s 90 ≤ 11 ∧ c' = 128 ∧ iC t' 162 (iI s 90 : Int).toNat = iI t' 91 ∧ iI t' 73 = 0) → WS k 186 [(0, .ref (A 179)), (1, .int (Int32.ofInt xv)), (2, .int (Int32.ofInt c'))] [] (Wd A dT t') 0 0) → WS k 161 [(0, .ref (A 179)), (1, .int (Int32.ofInt xv)), (2, .int (Int32.ofInt c))] [] (Wd A dT t) 0 0 := by
    intro n
    induction n with
    | zero =>
      intro t xv c I F jjRLx jjFDA hq hi hm kx
      exact absurd hm (Nat.not_lt_zero _)
    | succ n ih =>
      intro t xv c I F jjRLx jjFDA hq hi hm kx
      have b2001 : (0 : Int) ≤ iI t 73 ∧ iI t 73 ≤ 3 := I.1 73
      have b2002 : (0 : Int) ≤ iI t 74 ∧ iI t 74 ≤ 200 := I.1 74
      have b2003 : (0 : Int) ≤ iI t 77 ∧ iI t 77 ≤ 400 := I.1 77
      have b2004 : (0 : Int) ≤ iI t 75 ∧ iI t 75 ≤ 200 := I.1 75
      have b2005 : (0 : Int) ≤ iI t 79 ∧ iI t 79 ≤ 9 := I.1 79
      have b2006 : (0 : Int) ≤ iI t 78 ∧ iI t 78 ≤ 8 := I.1 78
      have b2007 : (0 : Int) ≤ iI t 90 ∧ iI t 90 ≤ 12 := I.1 90
      have b2008 : (0 : Int) ≤ iI t 91 ∧ iI t 91 ≤ 24 := I.1 91
      have b2009 : (0 : Int) ≤ iI t 81 ∧ iI t 81 ≤ 1 := I.1 81
      refine z_load_n X (x := c) (show cdA 200 161 = some (.iload_n 2, 1, 0, 0, 0) from rfl) (List.Mem.tail _ (List.Mem.tail _ (List.Mem.head _))) ?_
      refine z_sipush X (show cdA 200 162 = some (.sipush 128, 3, 0, 0, 128) from rfl) ?_
      refine z_icmp_ge X (t := 186) (show cdA 200 165 = some (.if_icmp .ge 21, 3, 3, 0, 0) from rfl) (by decide) ⟨by first | exact oq_fa4e5087 hi.2.2.2.2.2.1 | omega, by first | exact oq_4ee82282 hi.2.2.2.2.2.2.1 | omega⟩ (by decide) (fun g2010 => ?_) (fun g2010 => ?_)
      ·
        refine WS_lv (lv := [(0, .ref (A 179)), (1, .int (Int32.ofInt xv)), (2, .int (Int32.ofInt c))]) (List.forall_mem_cons.mpr ⟨(List.Mem.head _), (List.forall_mem_cons.mpr ⟨(List.Mem.tail _ (List.Mem.head _)), (List.forall_mem_cons.mpr ⟨(List.Mem.tail _ (List.Mem.tail _ (List.Mem.head _))), (fun q h => absurd h List.not_mem_nil)⟩)⟩)⟩) ?_
        exact kx _ c I F jjRLx jjFDA hq (by first | exact ⟨And.intro (hi.1.1) (And.intro (hi.1.2.1) (hi.1.2.2)), hi.2.1, hi.2.2.1, hi.2.2.2.1, hi.2.2.2.2.1, oq_42fe298a hi.2.2.2.2.2.2.1 g2010, hi.2.2.2.2.2.2.2.1, hi.2.2.2.2.2.2.2.2⟩ | omega)
      ·
        refine z_aload_n X (x := A 179) (show cdA 200 168 = some (.aload_n 0, 1, 0, 0, 0) from rfl) (List.Mem.head _) ?_
        refine s_getR X 179 (show cdA 200 169 = some (.getfield 52, 3, 12, 29, 0) from rfl) (by decide) rfl rfl ?_
        refine z_aload_n X (x := A 179) (show cdA 200 172 = some (.aload_n 0, 1, 0, 0, 0) from rfl) (List.Mem.head _) ?_
        refine z_getI X 179 (show cdA 200 173 = some (.getfield 233, 3, 12, 22, 0) from rfl) (by decide) rfl rfl ?_
        have b2011 : (0 : Int) ≤ iI t 90 ∧ iI t 90 ≤ 12 := I.1 90
        refine z_aald X rw_202 (show cdA 200 176 = some (.aaload, 1, 0, 0, 0) from rfl) (by first | exact b2011.1 | omega) (show (iI t 90) < 12 by first | exact oq_210fcd76 hi.2.2.2.1 hi.2.2.2.2.1 | omega) (by decide) ?_
        refine z_load_n X (x := c) (show cdA 200 177 = some (.iload_n 2, 1, 0, 0, 0) from rfl) (List.Mem.tail _ (List.Mem.tail _ (List.Mem.head _))) ?_
        refine z_const X (show cdA 200 178 = some (.iconst (-1), 1, 0, 0, 0) from rfl) ?_
        refine z_ast2 X rw_202 (show cdA 200 179 = some (.iastore, 1, 0, 0, 0) from rfl) (show ((iI t 90) : Int).toNat < 12 by first | exact oq_cba5df33 hi.2.2.2.1 hi.2.2.2.2.1 | omega) (by first | exact hi.2.2.2.2.2.1 | omega) (show c < 128 by first | exact g2010 | omega) (by decide) ?_
        obtain ⟨s2012, hs2012⟩ : ∃ x0, x0 = uC t (178 + ((iI t 90) : Int).toNat) (c : Int).toNat (Int32.ofInt (-1)) := ⟨_, rfl⟩
        rw [← hs2012]
        have Is2012 : Bd s2012 := by rw [hs2012]; exact rw_st rw_202 I (show ((iI t 90) : Int).toNat < 12 by first | exact oq_cba5df33 hi.2.2.2.1 hi.2.2.2.2.1 | omega) (show ((-1) : Int) ≤ (-1) ∧ (-1) ≤ 23 by first | exact ⟨by decide, by decide⟩ | omega) (by decide)
        have Fs2012 := fm_C (i := (c : Int).toNat) (x := Int32.ofInt (-1)) F ((show ∀ j, j < 12 → 178 + j ∈ _ by decide) ((iI t 90) : Int).toNat (by first | exact oq_cba5df33 hi.2.2.2.1 hi.2.2.2.2.1 | omega))
        rw [← hs2012] at Fs2012
        have ws2012_73 : iI s2012 73 = iI t 73 := by rw [hs2012]; rfl
        have ws2012_74 : iI s2012 74 = iI t 74 := by rw [hs2012]; rfl
        have ws2012_77 : iI s2012 77 = iI t 77 := by rw [hs2012]; rfl
        have ws2012_75 : iI s2012 75 = iI t 75 := by rw [hs2012]; rfl
        have ws2012_79 : iI s2012 79 = iI t 79 := by rw [hs2012]; rfl
        have ws2012_78 : iI s2012 78 = iI t 78 := by rw [hs2012]; rfl
        have ws2012_90 : iI s2012 90 = iI t 90 := by rw [hs2012]; rfl
        have ws2012_91 : iI s2012 91 = iI t 91 := by rw [hs2012]; rfl
        have ws2012_81 : iI s2012 81 = iI t 81 := by rw [hs2012]; rfl
        have fs2012 : Fm [] [178, 179, 180, 181, 182, 183, 184, 185, 186, 187, 188, 189] t s2012 := by rw [hs2012]; exact fm_C (fm_rf _ _ _) ((show ∀ j, j < 12 → 178 + j ∈ _ by decide) ((iI t 90) : Int).toNat (by first | exact oq_cba5df33 hi.2.2.2.1 hi.2.2.2.2.1 | omega))
        have JFDA_s2012 : FDA B s2012 := FDA_fm fs2012 (by decide) jjFDA
        have JTD_s2012 : TD s2012 := TD_fm fs2012 (by decide) hq.1
        refine z_inc X (x := c) (lv' := [(2, .int (Int32.ofInt (c + 1))), (0, .ref (A 179)), (1, .int (Int32.ofInt xv))]) (show cdA 200 180 = some (.iinc 2 1, 3, 0, 0, 0) from rfl) (by decide) (List.Mem.tail _ (List.Mem.tail _ (List.Mem.head _))) (fun _ h => h) ?_
        refine z_goto X (t := 161) (show cdA 200 183 = some (.goto (-22), 3, 0, 0, 0) from rfl) (by decide) ?_
        refine WS_lv (lv := [(0, .ref (A 179)), (1, .int (Int32.ofInt xv)), (2, .int (Int32.ofInt (c + 1)))]) (List.forall_mem_cons.mpr ⟨(List.Mem.tail _ (List.Mem.head _)), (List.forall_mem_cons.mpr ⟨(List.Mem.tail _ (List.Mem.tail _ (List.Mem.head _))), (List.forall_mem_cons.mpr ⟨(List.Mem.head _), (fun q h => absurd h List.not_mem_nil)⟩)⟩)⟩) ?_
        have es_s2012 : iI t 90 = iI s 90 := by omega
        have vm_s2012 : iC s2012 162 (iI s 90 : Int).toNat = iC t 162 (iI s 90 : Int).toNat := by rw [hs2012, iC_a (by omega)]
        have hL2013 : TD s2012 ∧ RLx s2012 ∧ ∀ i : Nat, i < 128 → (i : Int) < (c + 1) → iC s2012 (178 + (iI s 90 : Int).toNat) i < iC s2012 162 (iI s 90 : Int).toNat := by
          refine ⟨JTD_s2012, by rw [hs2012, es_s2012]; exact RLx_l hq.2.1 (by omega), fun i hi h => ?_⟩
          rw [vm_s2012]
          by_cases e : i = (c : Int).toNat
          · rw [e, hs2012, es_s2012, iC_u ⟨by omega, by omega⟩]; omega
          · rw [hs2012, es_s2012, iC_n e]; exact hq.2.2 i hi (by omega)
        exact ih _ xv (c + 1) Is2012 Fs2012 hL2013.2.1 JFDA_s2012 hL2013 (by first | exact ⟨And.intro (hi.1.1) (And.intro (hi.1.2.1) (hi.1.2.2)), oq_333640b7 ws2012_74 hi.2.1 b2002.1, oq_fed65c02 ws2012_91 hi.2.2.1, oq_1aa5be9e ws2012_90 es_s2012, hi.2.2.2.2.1, oq_54f49eb5 hi.2.2.2.2.2.1, oq_d2afb425 g2010, oq_f5ee3737 ws2012_91 vm_s2012 hi.2.2.2.2.2.2.2.1, oq_333640b7 ws2012_73 hi.2.2.2.2.2.2.2.2 b2001.1⟩ | omega) (by first | exact qk_me hm (by decide) (oq_c268b7bd g2010) | omega) kx
  have L188 : ∀ (n : Nat) (t : PS) (xv c : Int), Bd t → Fm [73, 74, 76, 90, 91, 77, 75, 78, 79, 80, 81] [165, 162, 166, 167, 168, 169, 170, 171, 172, 173, 174, 175, 176, 177, 178, 179, 180, 181, 182, 183, 184, 185, 186, 187, 188, 189] s t → RLx t → FDA B t → (TD t ∧ RLx t ∧ ∀ i : Nat, i < 128 → (i : Int) < 128 → iC t (178 + (iI s 90 : Int).toNat) i < iC t 162 (iI s 90 : Int).toNat) → ((0 ≤ x ∧ x ≤ iI s 74 ∧ x ≤ 100) ∧ iI t 74 = 0 ∧ 1 ≤ iI t 91 ∧ iI t 90 = iI s 90 ∧ iI s 90 ≤ 11 ∧ 0 ≤ c ∧ c ≤ 24 ∧ iC t 162 (iI s 90 : Int).toNat = iI t 91 ∧ iI t 73 = 0) → (24 - c : Int).toNat < n → (∀ (t' : PS) (c' : Int), Bd t' → Fm [73, 74, 76, 90, 91, 77, 75, 78, 79, 80, 81] [165, 162, 166, 167, 168, 169, 170, 171, 172, 173, 174, 175, 176, 177, 178, 179, 180, 181, 182, 183, 184, 185, 186, 187, 188, 189] s t' → RLx t' → FDA B t' → (TD t' ∧ RLx t' ∧ ∀ i : Nat, i < 128 → (i : Int) < 128 → iC t' (178 + (iI s 90 : Int).toNat) i < iC t' 162 (iI s 90 : Int).toNat) → ((0 ≤ x ∧ x ≤ iI s 74 ∧ x ≤ 100) ∧ iI t' 74 = 0 ∧ 1 ≤ iI t' 91 ∧ iI t' 90 = iI s 90 ∧ iI s 90 ≤ 11 ∧ 0 ≤ c' ∧ c' ≤ 24 ∧ iC t' 162 (iI s 90 : Int).toNat = iI t' 91 ∧ iI t' 73 = 0) → WS k 236 [(0, .ref (A 179)), (1, .int (Int32.ofInt xv)), (2, .int (Int32.ofInt c'))] [] (Wd A dT t') 0 0) → WS k 188 [(0, .ref (A 179)), (1, .int (Int32.ofInt xv)), (2, .int (Int32.ofInt c))] [] (Wd A dT t) 0 0 := by
    intro n
    induction n with
    | zero =>
      intro t xv c I F jjRLx jjFDA hq hi hm kx
      exact absurd hm (Nat.not_lt_zero _)
    | succ n ih =>
      intro t xv c I F jjRLx jjFDA hq hi hm kx
      have b3001 : (0 : Int) ≤ iI t 73 ∧ iI t 73 ≤ 3 := I.1 73
      have b3002 : (0 : Int) ≤ iI t 74 ∧ iI t 74 ≤ 200 := I.1 74
      have b3003 : (0 : Int) ≤ iI t 77 ∧ iI t 77 ≤ 400 := I.1 77
      have b3004 : (0 : Int) ≤ iI t 75 ∧ iI t 75 ≤ 200 := I.1 75
      have b3005 : (0 : Int) ≤ iI t 79 ∧ iI t 79 ≤ 9 := I.1 79
      have b3006 : (0 : Int) ≤ iI t 78 ∧ iI t 78 ≤ 8 := I.1 78
      have b3007 : (0 : Int) ≤ iI t 90 ∧ iI t 90 ≤ 12 := I.1 90
      have b3008 : (0 : Int) ≤ iI t 91 ∧ iI t 91 ≤ 24 := I.1 91
      have b3009 : (0 : Int) ≤ iI t 81 ∧ iI t 81 ≤ 1 := I.1 81
      refine z_load_n X (x := c) (show cdA 200 188 = some (.iload_n 2, 1, 0, 0, 0) from rfl) (List.Mem.tail _ (List.Mem.tail _ (List.Mem.head _))) ?_
      refine z_aload_n X (x := A 179) (show cdA 200 189 = some (.aload_n 0, 1, 0, 0, 0) from rfl) (List.Mem.head _) ?_
      refine z_getI X 179 (show cdA 200 190 = some (.getfield 216, 3, 12, 27, 0) from rfl) (by decide) rfl rfl ?_
      have b3010 : (0 : Int) ≤ iI t 91 ∧ iI t 91 ≤ 24 := I.1 91
      refine z_icmp_ge X (t := 236) (show cdA 200 193 = some (.if_icmp .ge 43, 3, 3, 0, 0) from rfl) (by decide) ⟨by first | exact oq_fa4e5087 hi.2.2.2.2.2.1 | omega, by first | exact oq_5bcd337f hi.2.2.2.2.2.2.1 | omega⟩ (rng_to _) (fun g3011 => ?_) (fun g3011 => ?_)
      ·
        refine WS_lv (lv := [(0, .ref (A 179)), (1, .int (Int32.ofInt xv)), (2, .int (Int32.ofInt c))]) (List.forall_mem_cons.mpr ⟨(List.Mem.head _), (List.forall_mem_cons.mpr ⟨(List.Mem.tail _ (List.Mem.head _)), (List.forall_mem_cons.mpr ⟨(List.Mem.tail _ (List.Mem.tail _ (List.Mem.head _))), (fun q h => absurd h List.not_mem_nil)⟩)⟩)⟩) ?_
        exact kx _ c I F jjRLx jjFDA hq (by first | exact ⟨And.intro (hi.1.1) (And.intro (hi.1.2.1) (hi.1.2.2)), hi.2.1, hi.2.2.1, hi.2.2.2.1, hi.2.2.2.2.1, hi.2.2.2.2.2.1, hi.2.2.2.2.2.2.1, hi.2.2.2.2.2.2.2.1, hi.2.2.2.2.2.2.2.2⟩ | omega)
      ·
        refine z_aload_n X (x := A 179) (show cdA 200 196 = some (.aload_n 0, 1, 0, 0, 0) from rfl) (List.Mem.head _) ?_
        refine s_getR X 179 (show cdA 200 197 = some (.getfield 49, 3, 12, 28, 0) from rfl) (by decide) rfl rfl ?_
        refine z_aload_n X (x := A 179) (show cdA 200 200 = some (.aload_n 0, 1, 0, 0, 0) from rfl) (List.Mem.head _) ?_
        refine z_getI X 179 (show cdA 200 201 = some (.getfield 233, 3, 12, 22, 0) from rfl) (by decide) rfl rfl ?_
        have b3012 : (0 : Int) ≤ iI t 90 ∧ iI t 90 ≤ 12 := I.1 90
        refine z_aald X rw_189 (show cdA 200 204 = some (.aaload, 1, 0, 0, 0) from rfl) (by first | exact b3012.1 | omega) (show (iI t 90) < 12 by first | exact oq_210fcd76 hi.2.2.2.1 hi.2.2.2.2.1 | omega) (by decide) ?_
        refine z_load_n X (x := c) (show cdA 200 205 = some (.iload_n 2, 1, 0, 0, 0) from rfl) (List.Mem.tail _ (List.Mem.tail _ (List.Mem.head _))) ?_
        refine z_aload_n X (x := A 179) (show cdA 200 206 = some (.aload_n 0, 1, 0, 0, 0) from rfl) (List.Mem.head _) ?_
        refine s_getR X 179 (show cdA 200 207 = some (.getfield 44, 3, 12, 26, 0) from rfl) (by decide) rfl rfl ?_
        refine z_load_n X (x := c) (show cdA 200 210 = some (.iload_n 2, 1, 0, 0, 0) from rfl) (List.Mem.tail _ (List.Mem.tail _ (List.Mem.head _))) ?_
        have hT3013 := hq.1 (c : Int).toNat (by omega)
        refine z_ald X 188 (show cdA 200 211 = some (.iaload, 1, 0, 0, 0) from rfl) (by decide) rfl (by first | exact hi.2.2.2.2.2.1 | omega) (show c < 24 by first | exact oq_8ff7beb9 g3011 b3010.2 | omega) (by decide) ?_
        have b3014 : ((-2147483648) : Int) ≤ iC t 165 (c).toNat ∧ iC t 165 (c).toNat ≤ 2147483647 := I.2 165 _ (show (c).toNat < 24 by first | exact oq_9e668fc9 g3011 b3010.2 | omega)
        refine z_ast2 X rw_189 (show cdA 200 212 = some (.iastore, 1, 0, 0, 0) from rfl) (show ((iI t 90) : Int).toNat < 12 by first | exact oq_cba5df33 hi.2.2.2.1 hi.2.2.2.2.1 | omega) (by first | exact hi.2.2.2.2.2.1 | omega) (show c < 24 by first | exact oq_8ff7beb9 g3011 b3010.2 | omega) (by decide) ?_
        obtain ⟨s3015, hs3015⟩ : ∃ x0, x0 = uC t (166 + ((iI t 90) : Int).toNat) (c : Int).toNat (Int32.ofInt (iC t 165 (c).toNat)) := ⟨_, rfl⟩
        rw [← hs3015]
        have Is3015 : Bd s3015 := by rw [hs3015]; exact rw_st rw_189 I (show ((iI t 90) : Int).toNat < 12 by first | exact oq_cba5df33 hi.2.2.2.1 hi.2.2.2.2.1 | omega) (show (0 : Int) ≤ (iC t 165 (c).toNat) ∧ (iC t 165 (c).toNat) ≤ 127 by omega) (rng_to _)
        have Fs3015 := fm_C (i := (c : Int).toNat) (x := Int32.ofInt (iC t 165 (c).toNat)) F ((show ∀ j, j < 12 → 166 + j ∈ _ by decide) ((iI t 90) : Int).toNat (by first | exact oq_cba5df33 hi.2.2.2.1 hi.2.2.2.2.1 | omega))
        rw [← hs3015] at Fs3015
        have ws3015_73 : iI s3015 73 = iI t 73 := by rw [hs3015]; rfl
        have ws3015_74 : iI s3015 74 = iI t 74 := by rw [hs3015]; rfl
        have ws3015_77 : iI s3015 77 = iI t 77 := by rw [hs3015]; rfl
        have ws3015_75 : iI s3015 75 = iI t 75 := by rw [hs3015]; rfl
        have ws3015_79 : iI s3015 79 = iI t 79 := by rw [hs3015]; rfl
        have ws3015_78 : iI s3015 78 = iI t 78 := by rw [hs3015]; rfl
        have ws3015_90 : iI s3015 90 = iI t 90 := by rw [hs3015]; rfl
        have ws3015_91 : iI s3015 91 = iI t 91 := by rw [hs3015]; rfl
        have ws3015_81 : iI s3015 81 = iI t 81 := by rw [hs3015]; rfl
        have fs3015 : Fm [] [166, 167, 168, 169, 170, 171, 172, 173, 174, 175, 176, 177] t s3015 := by rw [hs3015]; exact fm_C (fm_rf _ _ _) ((show ∀ j, j < 12 → 166 + j ∈ _ by decide) ((iI t 90) : Int).toNat (by first | exact oq_cba5df33 hi.2.2.2.1 hi.2.2.2.2.1 | omega))
        have JRLx_s3015 : RLx s3015 := RLx_fm fs3015 (by decide) jjRLx
        have JFDA_s3015 : FDA B s3015 := FDA_fm fs3015 (by decide) jjFDA
        have JTD_s3015 : TD s3015 := TD_fm fs3015 (by decide) hq.1
        refine z_aload_n X (x := A 179) (show cdA 200 213 = some (.aload_n 0, 1, 0, 0, 0) from rfl) (List.Mem.head _) ?_
        refine s_getR X 179 (show cdA 200 214 = some (.getfield 52, 3, 12, 29, 0) from rfl) (by decide) rfl rfl ?_
        refine z_aload_n X (x := A 179) (show cdA 200 217 = some (.aload_n 0, 1, 0, 0, 0) from rfl) (List.Mem.head _) ?_
        refine z_getI X 179 (show cdA 200 218 = some (.getfield 233, 3, 12, 22, 0) from rfl) (by decide) rfl rfl ?_
        have b3016 : (0 : Int) ≤ iI s3015 90 ∧ iI s3015 90 ≤ 12 := Is3015.1 90
        refine z_aald X rw_202 (show cdA 200 221 = some (.aaload, 1, 0, 0, 0) from rfl) (by first | exact b3016.1 | omega) (show (iI s3015 90) < 12 by first | exact oq_e2284db0 ws3015_90 hi.2.2.2.1 hi.2.2.2.2.1 | omega) (by decide) ?_
        refine z_aload_n X (x := A 179) (show cdA 200 222 = some (.aload_n 0, 1, 0, 0, 0) from rfl) (List.Mem.head _) ?_
        refine s_getR X 179 (show cdA 200 223 = some (.getfield 44, 3, 12, 26, 0) from rfl) (by decide) rfl rfl ?_
        refine z_load_n X (x := c) (show cdA 200 226 = some (.iload_n 2, 1, 0, 0, 0) from rfl) (List.Mem.tail _ (List.Mem.tail _ (List.Mem.head _))) ?_
        have hT3017 := JTD_s3015 (c : Int).toNat (by omega)
        refine z_ald X 188 (show cdA 200 227 = some (.iaload, 1, 0, 0, 0) from rfl) (by decide) rfl (by first | exact hi.2.2.2.2.2.1 | omega) (show c < 24 by first | exact oq_8ff7beb9 g3011 b3010.2 | omega) (by decide) ?_
        have b3018 : ((-2147483648) : Int) ≤ iC s3015 165 (c).toNat ∧ iC s3015 165 (c).toNat ≤ 2147483647 := Is3015.2 165 _ (show (c).toNat < 24 by first | exact oq_9e668fc9 g3011 b3010.2 | omega)
        refine z_load_n X (x := c) (show cdA 200 228 = some (.iload_n 2, 1, 0, 0, 0) from rfl) (List.Mem.tail _ (List.Mem.tail _ (List.Mem.head _))) ?_
        refine z_ast2 X rw_202 (show cdA 200 229 = some (.iastore, 1, 0, 0, 0) from rfl) (show ((iI s3015 90) : Int).toNat < 12 by first | exact oq_29bc6d1f ws3015_90 hi.2.2.2.1 hi.2.2.2.2.1 | omega) (by omega) (show (iC s3015 165 (c).toNat) < 128 by omega) (by decide) ?_
        obtain ⟨s3019, hs3019⟩ : ∃ x0, x0 = uC s3015 (178 + ((iI s3015 90) : Int).toNat) ((iC s3015 165 (c).toNat) : Int).toNat (Int32.ofInt c) := ⟨_, rfl⟩
        rw [← hs3019]
        have Is3019 : Bd s3019 := by rw [hs3019]; exact rw_st rw_202 Is3015 (show ((iI s3015 90) : Int).toNat < 12 by first | exact oq_29bc6d1f ws3015_90 hi.2.2.2.1 hi.2.2.2.2.1 | omega) (show ((-1) : Int) ≤ c ∧ c ≤ 23 by first | exact ⟨oq_ca54ea22 hi.2.2.2.2.2.1, oq_10212474 g3011 b3010.2⟩ | omega) ⟨by first | exact oq_fa4e5087 hi.2.2.2.2.2.1 | omega, by first | exact oq_5bcd337f hi.2.2.2.2.2.2.1 | omega⟩
        have Fs3019 := fm_C (i := ((iC s3015 165 (c).toNat) : Int).toNat) (x := Int32.ofInt c) Fs3015 ((show ∀ j, j < 12 → 178 + j ∈ _ by decide) ((iI s3015 90) : Int).toNat (by first | exact oq_29bc6d1f ws3015_90 hi.2.2.2.1 hi.2.2.2.2.1 | omega))
        rw [← hs3019] at Fs3019
        have ws3019_73 : iI s3019 73 = iI s3015 73 := by rw [hs3019]; rfl
        have ws3019_74 : iI s3019 74 = iI s3015 74 := by rw [hs3019]; rfl
        have ws3019_77 : iI s3019 77 = iI s3015 77 := by rw [hs3019]; rfl
        have ws3019_75 : iI s3019 75 = iI s3015 75 := by rw [hs3019]; rfl
        have ws3019_79 : iI s3019 79 = iI s3015 79 := by rw [hs3019]; rfl
        have ws3019_78 : iI s3019 78 = iI s3015 78 := by rw [hs3019]; rfl
        have ws3019_90 : iI s3019 90 = iI s3015 90 := by rw [hs3019]; rfl
        have ws3019_91 : iI s3019 91 = iI s3015 91 := by rw [hs3019]; rfl
        have ws3019_81 : iI s3019 81 = iI s3015 81 := by rw [hs3019]; rfl
        have fs3019 : Fm [] [178, 179, 180, 181, 182, 183, 184, 185, 186, 187, 188, 189] s3015 s3019 := by rw [hs3019]; exact fm_C (fm_rf _ _ _) ((show ∀ j, j < 12 → 178 + j ∈ _ by decide) ((iI s3015 90) : Int).toNat (by first | exact oq_29bc6d1f ws3015_90 hi.2.2.2.1 hi.2.2.2.2.1 | omega))
        have JFDA_s3019 : FDA B s3019 := FDA_fm fs3019 (by decide) JFDA_s3015
        have JTD_s3019 : TD s3019 := TD_fm fs3019 (by decide) JTD_s3015
        refine z_inc X (x := c) (lv' := [(2, .int (Int32.ofInt (c + 1))), (0, .ref (A 179)), (1, .int (Int32.ofInt xv))]) (show cdA 200 230 = some (.iinc 2 1, 3, 0, 0, 0) from rfl) (by decide) (List.Mem.tail _ (List.Mem.tail _ (List.Mem.head _))) (fun _ h => h) ?_
        refine z_goto X (t := 188) (show cdA 200 233 = some (.goto (-45), 3, 0, 0, 0) from rfl) (by decide) ?_
        refine WS_lv (lv := [(0, .ref (A 179)), (1, .int (Int32.ofInt xv)), (2, .int (Int32.ofInt (c + 1)))]) (List.forall_mem_cons.mpr ⟨(List.Mem.tail _ (List.Mem.head _)), (List.forall_mem_cons.mpr ⟨(List.Mem.tail _ (List.Mem.tail _ (List.Mem.head _))), (List.forall_mem_cons.mpr ⟨(List.Mem.head _), (fun q h => absurd h List.not_mem_nil)⟩)⟩)⟩) ?_
        have es_s3019 : iI s3015 90 = iI s 90 := by omega
        have eo_s3019 : iI t 90 = iI s 90 := by omega
        have vm_s3019 : iC s3019 162 (iI s 90 : Int).toNat = iC t 162 (iI s 90 : Int).toNat := by rw [hs3019, iC_a (by omega), hs3015, iC_a (by omega)]
        have rl_s3019 : RLx s3015 := by rw [hs3015]; exact RLx_w hq.2.1 ⟨by omega, fun j hj => by omega⟩
        have hL3020 : TD s3019 ∧ RLx s3019 ∧ ∀ i : Nat, i < 128 → (i : Int) < 128 → iC s3019 (178 + (iI s 90 : Int).toNat) i < iC s3019 162 (iI s 90 : Int).toNat := by
          refine ⟨JTD_s3019, by rw [hs3019, es_s3019]; exact RLx_l rl_s3019 (by omega), fun i hi h => ?_⟩
          rw [vm_s3019]
          by_cases e : i = ((iC s3015 165 (c).toNat) : Int).toNat
          · rw [e, hs3019, es_s3019, iC_u ⟨by omega, by omega⟩]; omega
          · rw [hs3019, es_s3019, iC_n e, hs3015, iC_a (by omega)]; exact hq.2.2 i hi (by omega)
        exact ih _ xv (c + 1) Is3019 Fs3019 hL3020.2.1 JFDA_s3019 hL3020 (by first | exact ⟨And.intro (hi.1.1) (And.intro (hi.1.2.1) (hi.1.2.2)), oq_7fe879e0 ws3019_74 ws3015_74 hi.2.1 b3002.1, oq_48a46d4a ws3019_91 ws3015_91 hi.2.2.1, oq_1aa5be9e ws3019_90 es_s3019, hi.2.2.2.2.1, oq_54f49eb5 hi.2.2.2.2.2.1, oq_41473be0 g3011 b3010.2, oq_123e5d3a ws3019_91 vm_s3019 ws3015_91 hi.2.2.2.2.2.2.2.1, oq_7fe879e0 ws3019_73 ws3015_73 hi.2.2.2.2.2.2.2.2 b3001.1⟩ | omega) (by first | exact qk_me hm (by decide) (oq_9dea93e6 g3011 b3010.2) | omega) kx
  refine z_aload_n X (x := A 179) (show cdA 200 0 = some (.aload_n 0, 1, 0, 0, 0) from rfl) (List.Mem.head _) ?_
  refine z_const X (show cdA 200 1 = some (.iconst 0, 1, 0, 0, 0) from rfl) ?_
  refine s_putI X 179 (show cdA 200 2 = some (.putfield 172, 3, 12, 0, 0) from rfl) (by decide) rfl rfl (by decide) rfl rfl rfl ?_
  obtain ⟨s10, hs10⟩ : ∃ x0, x0 = uI s 73 (Int32.ofInt 0) := ⟨_, rfl⟩
  rw [← hs10]
  have Is10 : Bd s10 := by rw [hs10]; exact bd_I I (show (0 : Int) ≤ 0 ∧ 0 ≤ 3 by first | exact ⟨by decide, by decide⟩ | omega) (by decide)
  have Fs10 := fm_I (x := Int32.ofInt 0) F (show 73 ∈ _ by decide)
  rw [← hs10] at Fs10
  have vs10 : iI s10 73 = 0 := by rw [hs10]; exact iI_u (by decide)
  have ws10_74 : iI s10 74 = iI s 74 := by rw [hs10]; rfl
  have ws10_77 : iI s10 77 = iI s 77 := by rw [hs10]; rfl
  have ws10_75 : iI s10 75 = iI s 75 := by rw [hs10]; rfl
  have ws10_79 : iI s10 79 = iI s 79 := by rw [hs10]; rfl
  have ws10_78 : iI s10 78 = iI s 78 := by rw [hs10]; rfl
  have ws10_90 : iI s10 90 = iI s 90 := by rw [hs10]; rfl
  have ws10_91 : iI s10 91 = iI s 91 := by rw [hs10]; rfl
  have ws10_81 : iI s10 81 = iI s 81 := by rw [hs10]; rfl
  have fs10 : Fm [73] [] s s10 := by rw [hs10]; exact fm_I (fm_rf _ _ _) (show 73 ∈ _ by decide)
  have JRLx_s10 : RLx s10 := RLx_fm fs10 (by decide) jRLx
  have JFDA_s10 : FDA B s10 := FDA_fm fs10 (by decide) jFDA
  refine z_aload_n X (x := A 179) (show cdA 200 5 = some (.aload_n 0, 1, 0, 0, 0) from rfl) (List.Mem.head _) ?_
  refine z_load_n X (x := x) (show cdA 200 6 = some (.iload_n 1, 1, 0, 0, 0) from rfl) (List.Mem.tail _ (List.Mem.head _)) ?_
  refine z_const X (show cdA 200 7 = some (.iconst 0, 1, 0, 0, 0) from rfl) ?_
  refine z_aload_n X (x := A 179) (show cdA 200 8 = some (.aload_n 0, 1, 0, 0, 0) from rfl) (List.Mem.head _) ?_
  refine z_getI X 179 (show cdA 200 9 = some (.getfield 175, 3, 12, 1, 0) from rfl) (by decide) rfl rfl ?_
  have b11 : (0 : Int) ≤ iI s10 74 ∧ iI s10 74 ≤ 200 := Is10.1 74
  refine z_bipush X (show cdA 200 12 = some (.bipush 100, 2, 0, 0, 100) from rfl) ?_
  have N12 : ∀ e13 : Int, (((100 ≤ (iI s10 74)) ∧ e13 = 100) ∨ (((iI s10 74) < 100) ∧ ((0 : Int) ≤ iI s10 74 ∧ iI s10 74 ≤ 200) ∧ e13 = (iI s10 74))) → WS k 26 [(0, .ref (A 179)), (1, .int (Int32.ofInt x))] [.int (Int32.ofInt e13), .int (Int32.ofInt 0), .int (Int32.ofInt x), .ref (A 179)] (Wd A dT s10) 0 0 := by
    intro e13 he13
    refine z_callS X (rm := rmN 188) (As := [.int (Int32.ofInt x), .int (Int32.ofInt 0), .int (Int32.ofInt e13)]) (st := [.ref (A 179)]) (show cdA 200 26 = some (.invokestatic 209, 3, 188, 1, 0) from rfl) rfl (by rw [E.1, E.2.1, E.2.2.1]; exact k_in2 G Is10 (by first | exact ⟨p0.1, p0.2⟩ | omega) (by first | exact ⟨by decide, by decide⟩ | omega) (by first | exact ⟨oq_24bf7586 he13 b11.1, oq_1539ade6 he13⟩ | omega)) ⟨by rw [E.2.2.2]; exact (show (rmN 188).frames + 1 ≤ (rmN 200).frames by decide), by rw [E.2.2.2]; exact (show 8 + (mNL (miB 188) + 11) + (rmN 188).locals ≤ (rmN 200).locals by decide), by rw [E.2.2.2]; exact (show 0 + (rmN 188).cells ≤ (rmN 200).cells by decide), by rw [E.2.2.2]; exact (show 0 + (rmN 188).slots ≤ (rmN 200).slots by decide)⟩ (Nat.le_of_ble_eq_true rfl) (fun vv s14 hq => ?_) (fun ee s14 hq => ?_)
    rotate_left
    · obtain ⟨rfl, e15, hv, hrs14, hps14⟩ := hq; cases hv
    obtain ⟨rfl, e15, hv, hrs14, hps14⟩ := hq
    cases hv
    show WS k 29 [(0, .ref (A 179)), (1, .int (Int32.ofInt x))] [.int (Int32.ofInt e15), .ref (A 179)] (Wd A dT s10) 0 0
    have N16 : ∀ e17 : Int, (((e15 ≠ 0) ∧ e17 = 0) ∨ ((e15 = 0) ∧ e17 = 1)) → WS k 37 [(0, .ref (A 179)), (1, .int (Int32.ofInt x))] [.int (Int32.ofInt e17), .ref (A 179)] (Wd A dT s10) 0 0 := by
      intro e17 he17
      have re17 : 0 ≤ e17 ∧ e17 ≤ 1 := by omega
      refine z_const X (show cdA 200 37 = some (.iconst 1, 1, 0, 0, 0) from rfl) ?_
      refine z_callV X 179 (rm := rmN 187) (As := [.int (Int32.ofInt e17), .int (Int32.ofInt 1)]) (st := []) (show cdA 200 38 = some (.invokevirtual 229, 3, 187, 0, 0) from rfl) rfl (by decide) rfl (by rw [E.1, E.2.1, E.2.2.1]; exact k_bad2 G Is10 (by first | exact oq_31e518ae re17.2 re17.1 | omega) (by first | exact ⟨by decide, by decide⟩ | omega)) ⟨by rw [E.2.2.2]; exact (show (rmN 187).frames + 1 ≤ (rmN 200).frames by decide), by rw [E.2.2.2]; exact (show 8 + (mNL (miB 187) + 11) + (rmN 187).locals ≤ (rmN 200).locals by decide), by rw [E.2.2.2]; exact (show 0 + (rmN 187).cells ≤ (rmN 200).cells by decide), by rw [E.2.2.2]; exact (show 0 + (rmN 187).slots ≤ (rmN 200).slots by decide)⟩ (Nat.le_of_ble_eq_true rfl) (fun vv s18 hq => ?_) (fun ee s18 hq => ?_)
      rotate_left
      · obtain ⟨Is18, Fs18, e19, hv, hrs18, hps18⟩ := hq; cases hv
      obtain ⟨Is18, Fs18, e19, hv, hrs18, hps18⟩ := hq
      cases hv
      have Gs18 := fm_ts Fs10 Fs18 (by decide) (by decide)
      have JRLx_s18 : RLx s18 := RLx_fm Fs18 (by decide) JRLx_s10
      have JFDA_s18 : FDA B s18 := FDA_fm Fs18 (by decide) JFDA_s10
      have b20 : (0 : Int) ≤ iI s18 73 ∧ iI s18 73 ≤ 3 := Is18.1 73
      have ws18_74 : iI s18 74 = iI s10 74 := fm_i Fs18 (by decide)
      have ws18_77 : iI s18 77 = iI s10 77 := fm_i Fs18 (by decide)
      have ws18_75 : iI s18 75 = iI s10 75 := fm_i Fs18 (by decide)
      have ws18_79 : iI s18 79 = iI s10 79 := fm_i Fs18 (by decide)
      have ws18_78 : iI s18 78 = iI s10 78 := fm_i Fs18 (by decide)
      have ws18_90 : iI s18 90 = iI s10 90 := fm_i Fs18 (by decide)
      have ws18_91 : iI s18 91 = iI s10 91 := fm_i Fs18 (by decide)
      have ws18_81 : iI s18 81 = iI s10 81 := fm_i Fs18 (by decide)
      show WS k 41 [(0, .ref (A 179)), (1, .int (Int32.ofInt x))] [.int (Int32.ofInt e19)] (Wd A dT s18) 0 0
      refine z_if_eq X (t := 46) (show cdA 200 41 = some (.ifCond .eq 5, 3, 0, 0, 0) from rfl) (by decide) hrs18 (fun g21 => ?_) (fun g21 => ?_)
      ·
        refine z_aload_n X (x := A 179) (show cdA 200 46 = some (.aload_n 0, 1, 0, 0, 0) from rfl) (List.Mem.head _) ?_
        refine z_const X (show cdA 200 47 = some (.iconst 0, 1, 0, 0, 0) from rfl) ?_
        refine s_putI X 179 (show cdA 200 48 = some (.putfield 175, 3, 12, 1, 0) from rfl) (by decide) rfl rfl (by decide) rfl rfl rfl ?_
        obtain ⟨s22, hs22⟩ : ∃ x0, x0 = uI s18 74 (Int32.ofInt 0) := ⟨_, rfl⟩
        rw [← hs22]
        have Is22 : Bd s22 := by rw [hs22]; exact bd_I Is18 (show (0 : Int) ≤ 0 ∧ 0 ≤ 200 by first | exact ⟨by decide, by decide⟩ | omega) (by decide)
        have Fs22 := fm_I (x := Int32.ofInt 0) Gs18 (show 74 ∈ _ by decide)
        rw [← hs22] at Fs22
        have vs22 : iI s22 74 = 0 := by rw [hs22]; exact iI_u (by decide)
        have ws22_73 : iI s22 73 = iI s18 73 := by rw [hs22]; rfl
        have ws22_77 : iI s22 77 = iI s18 77 := by rw [hs22]; rfl
        have ws22_75 : iI s22 75 = iI s18 75 := by rw [hs22]; rfl
        have ws22_79 : iI s22 79 = iI s18 79 := by rw [hs22]; rfl
        have ws22_78 : iI s22 78 = iI s18 78 := by rw [hs22]; rfl
        have ws22_90 : iI s22 90 = iI s18 90 := by rw [hs22]; rfl
        have ws22_91 : iI s22 91 = iI s18 91 := by rw [hs22]; rfl
        have ws22_81 : iI s22 81 = iI s18 81 := by rw [hs22]; rfl
        have fs22 : Fm [74] [] s18 s22 := by rw [hs22]; exact fm_I (fm_rf _ _ _) (show 74 ∈ _ by decide)
        have JRLx_s22 : RLx s22 := RLx_fm fs22 (by decide) JRLx_s18
        have JFDA_s22 : FDA B s22 := FDA_fm fs22 (by decide) JFDA_s18
        refine z_aload_n X (x := A 179) (show cdA 200 51 = some (.aload_n 0, 1, 0, 0, 0) from rfl) (List.Mem.head _) ?_
        refine z_const X (show cdA 200 52 = some (.iconst (-1), 1, 0, 0, 0) from rfl) ?_
        refine s_putI X 179 (show cdA 200 53 = some (.putfield 9, 3, 12, 3, 0) from rfl) (by decide) rfl rfl (by decide) rfl rfl rfl ?_
        obtain ⟨s23, hs23⟩ : ∃ x0, x0 = uI s22 76 (Int32.ofInt (-1)) := ⟨_, rfl⟩
        rw [← hs23]
        have Is23 : Bd s23 := by rw [hs23]; exact bd_I Is22 (show ((-1) : Int) ≤ (-1) ∧ (-1) ≤ 400 by first | exact ⟨by decide, by decide⟩ | omega) (by decide)
        have Fs23 := fm_I (x := Int32.ofInt (-1)) Fs22 (show 76 ∈ _ by decide)
        rw [← hs23] at Fs23
        have vs23 : iI s23 76 = (-1) := by rw [hs23]; exact iI_u (by decide)
        have ws23_73 : iI s23 73 = iI s22 73 := by rw [hs23]; rfl
        have ws23_74 : iI s23 74 = iI s22 74 := by rw [hs23]; rfl
        have ws23_77 : iI s23 77 = iI s22 77 := by rw [hs23]; rfl
        have ws23_75 : iI s23 75 = iI s22 75 := by rw [hs23]; rfl
        have ws23_79 : iI s23 79 = iI s22 79 := by rw [hs23]; rfl
        have ws23_78 : iI s23 78 = iI s22 78 := by rw [hs23]; rfl
        have ws23_90 : iI s23 90 = iI s22 90 := by rw [hs23]; rfl
        have ws23_91 : iI s23 91 = iI s22 91 := by rw [hs23]; rfl
        have ws23_81 : iI s23 81 = iI s22 81 := by rw [hs23]; rfl
        have fs23 : Fm [76] [] s22 s23 := by rw [hs23]; exact fm_I (fm_rf _ _ _) (show 76 ∈ _ by decide)
        have JRLx_s23 : RLx s23 := RLx_fm fs23 (by decide) JRLx_s22
        have JFDA_s23 : FDA B s23 := FDA_fm fs23 (by decide) JFDA_s22
        refine z_aload_n X (x := A 179) (show cdA 200 56 = some (.aload_n 0, 1, 0, 0, 0) from rfl) (List.Mem.head _) ?_
        refine z_getI X 179 (show cdA 200 57 = some (.getfield 233, 3, 12, 22, 0) from rfl) (by decide) rfl rfl ?_
        have b24 : (0 : Int) ≤ iI s23 90 ∧ iI s23 90 ≤ 12 := Is23.1 90
        refine z_bipush X (show cdA 200 60 = some (.bipush 12, 2, 0, 0, 12) from rfl) ?_
        refine z_icmp_ne X (t := 67) (show cdA 200 62 = some (.if_icmp .ne 5, 3, 1, 0, 0) from rfl) (by decide) (rng_to _) (by decide) (fun g25 => ?_) (fun g25 => ?_)
        ·
          refine z_aload_n X (x := A 179) (show cdA 200 67 = some (.aload_n 0, 1, 0, 0, 0) from rfl) (List.Mem.head _) ?_
          refine z_load_n X (x := x) (show cdA 200 68 = some (.iload_n 1, 1, 0, 0, 0) from rfl) (List.Mem.tail _ (List.Mem.head _)) ?_
          refine z_callV X 179 (rm := rmN 197) (As := [.int (Int32.ofInt x)]) (st := []) (show cdA 200 69 = some (.invokevirtual 236, 3, 197, 0, 0) from rfl) rfl (by decide) rfl (by rw [E.1, E.2.1, E.2.2.1]; exact k_beginText2 G Is23 (by first | exact ⟨oq_17aafd1d g21 hps18 he17 hps14 vs10, oq_805e9ec4 g21 hps18 he17 hps14 he13 vs10⟩ | omega)) ⟨by rw [E.2.2.2]; exact (show (rmN 197).frames + 1 ≤ (rmN 200).frames by decide), by rw [E.2.2.2]; exact (show 8 + (mNL (miB 197) + 11) + (rmN 197).locals ≤ (rmN 200).locals by decide), by rw [E.2.2.2]; exact (show 0 + (rmN 197).cells ≤ (rmN 200).cells by decide), by rw [E.2.2.2]; exact (show 0 + (rmN 197).slots ≤ (rmN 200).slots by decide)⟩ (Nat.le_of_ble_eq_true rfl) (fun vv s26 hq => ?_) (fun ee s26 hq => ?_)
          rotate_left
          · obtain ⟨Is26, Fs26, hv, hps26⟩ := hq; cases hv
          obtain ⟨Is26, Fs26, hv, hps26⟩ := hq
          cases hv
          have Gs26 := fm_ts Fs23 Fs26 (by decide) (by decide)
          have JRLx_s26 : RLx s26 := RLx_fm Fs26 (by decide) JRLx_s23
          have JFDA_s26 : FDA B s26 := FDA_fm Fs26 (by decide) JFDA_s23
          have ws26_73 : iI s26 73 = iI s23 73 := fm_i Fs26 (by decide)
          have ws26_74 : iI s26 74 = iI s23 74 := fm_i Fs26 (by decide)
          have b28 : (0 : Int) ≤ iI s26 77 ∧ iI s26 77 ≤ 400 := Is26.1 77
          have b29 : (0 : Int) ≤ iI s26 75 ∧ iI s26 75 ≤ 200 := Is26.1 75
          have b30 : (0 : Int) ≤ iI s26 79 ∧ iI s26 79 ≤ 9 := Is26.1 79
          have b31 : (0 : Int) ≤ iI s26 78 ∧ iI s26 78 ≤ 8 := Is26.1 78
          have ws26_90 : iI s26 90 = iI s23 90 := fm_i Fs26 (by decide)
          have ws26_91 : iI s26 91 = iI s23 91 := fm_i Fs26 (by decide)
          have b32 : (0 : Int) ≤ iI s26 81 ∧ iI s26 81 ≤ 1 := Is26.1 81
          show WS k 72 [(0, .ref (A 179)), (1, .int (Int32.ofInt x))] [] (Wd A dT s26) 0 0
          refine z_aload_n X (x := A 179) (show cdA 200 72 = some (.aload_n 0, 1, 0, 0, 0) from rfl) (List.Mem.head _) ?_
          refine z_const X (show cdA 200 73 = some (.iconst 1, 1, 0, 0, 0) from rfl) ?_
          refine s_putI X 179 (show cdA 200 74 = some (.putfield 216, 3, 12, 27, 0) from rfl) (by decide) rfl rfl (by decide) rfl rfl rfl ?_
          obtain ⟨s33, hs33⟩ : ∃ x0, x0 = uI s26 91 (Int32.ofInt 1) := ⟨_, rfl⟩
          rw [← hs33]
          have Is33 : Bd s33 := by rw [hs33]; exact bd_I Is26 (show (0 : Int) ≤ 1 ∧ 1 ≤ 24 by first | exact ⟨by decide, by decide⟩ | omega) (by decide)
          have Fs33 := fm_I (x := Int32.ofInt 1) Gs26 (show 91 ∈ _ by decide)
          rw [← hs33] at Fs33
          have vs33 : iI s33 91 = 1 := by rw [hs33]; exact iI_u (by decide)
          have ws33_73 : iI s33 73 = iI s26 73 := by rw [hs33]; rfl
          have ws33_74 : iI s33 74 = iI s26 74 := by rw [hs33]; rfl
          have ws33_77 : iI s33 77 = iI s26 77 := by rw [hs33]; rfl
          have ws33_75 : iI s33 75 = iI s26 75 := by rw [hs33]; rfl
          have ws33_79 : iI s33 79 = iI s26 79 := by rw [hs33]; rfl
          have ws33_78 : iI s33 78 = iI s26 78 := by rw [hs33]; rfl
          have ws33_90 : iI s33 90 = iI s26 90 := by rw [hs33]; rfl
          have ws33_81 : iI s33 81 = iI s26 81 := by rw [hs33]; rfl
          have fs33 : Fm [91] [] s26 s33 := by rw [hs33]; exact fm_I (fm_rf _ _ _) (show 91 ∈ _ by decide)
          have JRLx_s33 : RLx s33 := RLx_fm fs33 (by decide) JRLx_s26
          have JFDA_s33 : FDA B s33 := FDA_fm fs33 (by decide) JFDA_s26
          refine z_aload_n X (x := A 179) (show cdA 200 77 = some (.aload_n 0, 1, 0, 0, 0) from rfl) (List.Mem.head _) ?_
          refine s_getR X 179 (show cdA 200 78 = some (.getfield 44, 3, 12, 26, 0) from rfl) (by decide) rfl rfl ?_
          refine z_const X (show cdA 200 81 = some (.iconst 0, 1, 0, 0, 0) from rfl) ?_
          refine z_aload_n X (x := A 179) (show cdA 200 82 = some (.aload_n 0, 1, 0, 0, 0) from rfl) (List.Mem.head _) ?_
          refine z_const X (show cdA 200 83 = some (.iconst 0, 1, 0, 0, 0) from rfl) ?_
          refine z_bipush X (show cdA 200 84 = some (.bipush 127, 2, 0, 0, 127) from rfl) ?_
          have JFs33 : FDB B x s33 := ⟨fda_n JFDA_s33 (by omega) (by omega), by omega, by omega⟩
          refine z_callV X 179 (rm := rmN 196) (As := [.int (Int32.ofInt 0), .int (Int32.ofInt 127)]) (st := [.int (Int32.ofInt 0), .ref (A 188)]) (show cdA 200 86 = some (.invokevirtual 219, 3, 196, 0, 0) from rfl) rfl (by decide) rfl (by rw [E.1, E.2.1, E.2.2.1]; exact k_number2 G Is33 JFs33 (by first | exact ⟨by decide, by decide⟩ | omega) (by first | exact ⟨by decide, by decide⟩ | omega) (by first | exact oq_c2d9d76f ws33_77 hps26.2.1 | omega)) ⟨by rw [E.2.2.2]; exact (show (rmN 196).frames + 1 ≤ (rmN 200).frames by decide), by rw [E.2.2.2]; exact (show 8 + (mNL (miB 196) + 11) + (rmN 196).locals ≤ (rmN 200).locals by decide), by rw [E.2.2.2]; exact (show 0 + (rmN 196).cells ≤ (rmN 200).cells by decide), by rw [E.2.2.2]; exact (show 0 + (rmN 196).slots ≤ (rmN 200).slots by decide)⟩ (Nat.le_of_ble_eq_true rfl) (fun vv s34 hq => ?_) (fun ee s34 hq => ?_)
          rotate_left
          · obtain ⟨Is34, Fs34, JFDB_s34, e35, hv, hrs34, hps34⟩ := hq; cases hv
          obtain ⟨Is34, Fs34, JFDB_s34, e35, hv, hrs34, hps34⟩ := hq
          cases hv
          have Gs34 := fm_ts Fs33 Fs34 (by decide) (by decide)
          have JRLx_s34 : RLx s34 := RLx_fm Fs34 (by decide) JRLx_s33
          have JFDA_s34 : FDA B s34 := FDA_fm Fs34 (by decide) JFDA_s33
          have JFDB_s34 : FDB B x s34 := FDB_fm Fs34 (by decide) JFs33
          have ws34_73 : iI s34 73 = iI s33 73 := fm_i Fs34 (by decide)
          have ws34_74 : iI s34 74 = iI s33 74 := fm_i Fs34 (by decide)
          have b36 : (0 : Int) ≤ iI s34 77 ∧ iI s34 77 ≤ 400 := Is34.1 77
          have ws34_75 : iI s34 75 = iI s33 75 := fm_i Fs34 (by decide)
          have b37 : (0 : Int) ≤ iI s34 79 ∧ iI s34 79 ≤ 9 := Is34.1 79
          have ws34_78 : iI s34 78 = iI s33 78 := fm_i Fs34 (by decide)
          have ws34_90 : iI s34 90 = iI s33 90 := fm_i Fs34 (by decide)
          have ws34_91 : iI s34 91 = iI s33 91 := fm_i Fs34 (by decide)
          have ws34_81 : iI s34 81 = iI s33 81 := fm_i Fs34 (by decide)
          show WS k 89 [(0, .ref (A 179)), (1, .int (Int32.ofInt x))] [.int (Int32.ofInt e35), .int (Int32.ofInt 0), .ref (A 188)] (Wd A dT s34) 0 0
          refine z_ast X 188 (show cdA 200 89 = some (.iastore, 1, 0, 0, 0) from rfl) (by decide) rfl (by decide) (show 0 < 24 by decide) (by decide) ?_
          obtain ⟨s38, hs38⟩ : ∃ x0, x0 = uC s34 165 (0 : Int).toNat (Int32.ofInt e35) := ⟨_, rfl⟩
          rw [← hs38]
          have Is38 : Bd s38 := by rw [hs38]; exact bd_C Is34 (show ((-2147483648) : Int) ≤ e35 ∧ e35 ≤ 2147483647 by omega) hrs34
          have Fs38 := fm_C (i := (0 : Int).toNat) (x := Int32.ofInt e35) Gs34 (show 165 ∈ _ by decide)
          rw [← hs38] at Fs38
          have ws38_73 : iI s38 73 = iI s34 73 := by rw [hs38]; rfl
          have ws38_74 : iI s38 74 = iI s34 74 := by rw [hs38]; rfl
          have ws38_77 : iI s38 77 = iI s34 77 := by rw [hs38]; rfl
          have ws38_75 : iI s38 75 = iI s34 75 := by rw [hs38]; rfl
          have ws38_79 : iI s38 79 = iI s34 79 := by rw [hs38]; rfl
          have ws38_78 : iI s38 78 = iI s34 78 := by rw [hs38]; rfl
          have ws38_90 : iI s38 90 = iI s34 90 := by rw [hs38]; rfl
          have ws38_91 : iI s38 91 = iI s34 91 := by rw [hs38]; rfl
          have ws38_81 : iI s38 81 = iI s34 81 := by rw [hs38]; rfl
          have fs38 : Fm [] [165] s34 s38 := by rw [hs38]; exact fm_C (fm_rf _ _ _) (show 165 ∈ _ by decide)
          have JRLx_s38 : RLx s38 := RLx_fm fs38 (by decide) JRLx_s34
          have JFDA_s38 : FDA B s38 := FDA_fm fs38 (by decide) JFDA_s34
          have JFDB_s38 : FDB B x s38 := FDB_fm fs38 (by decide) JFDB_s34
          refine z_aload_n X (x := A 179) (show cdA 200 90 = some (.aload_n 0, 1, 0, 0, 0) from rfl) (List.Mem.head _) ?_
          have JFs38 : FDB B x s38 := ⟨fda_n JFDA_s38 (by omega) (by omega), by omega, by omega⟩
          refine z_callV X 179 (rm := rmN 193) (As := []) (st := []) (show cdA 200 91 = some (.invokevirtual 197, 3, 193, 0, 0) from rfl) rfl (by decide) rfl (by rw [E.1, E.2.1, E.2.2.1]; exact k_blanks2 G Is38 JFs38 (by omega)) ⟨by rw [E.2.2.2]; exact (show (rmN 193).frames + 1 ≤ (rmN 200).frames by decide), by rw [E.2.2.2]; exact (show 8 + (mNL (miB 193) + 11) + (rmN 193).locals ≤ (rmN 200).locals by decide), by rw [E.2.2.2]; exact (show 0 + (rmN 193).cells ≤ (rmN 200).cells by decide), by rw [E.2.2.2]; exact (show 0 + (rmN 193).slots ≤ (rmN 200).slots by decide)⟩ (Nat.le_of_ble_eq_true rfl) (fun vv s39 hq => ?_) (fun ee s39 hq => ?_)
          rotate_left
          · obtain ⟨Is39, Fs39, JFDB_s39, hv, hps39⟩ := hq; cases hv
          obtain ⟨Is39, Fs39, JFDB_s39, hv, hps39⟩ := hq
          cases hv
          have Gs39 := fm_ts Fs38 Fs39 (by decide) (by decide)
          have JRLx_s39 : RLx s39 := RLx_fm Fs39 (by decide) JRLx_s38
          have JFDA_s39 : FDA B s39 := FDA_fm Fs39 (by decide) JFDA_s38
          have JFDB_s39 : FDB B x s39 := FDB_fm Fs39 (by decide) JFs38
          have ws39_73 : iI s39 73 = iI s38 73 := fm_i Fs39 (by decide)
          have ws39_74 : iI s39 74 = iI s38 74 := fm_i Fs39 (by decide)
          have b41 : (0 : Int) ≤ iI s39 77 ∧ iI s39 77 ≤ 400 := Is39.1 77
          have ws39_75 : iI s39 75 = iI s38 75 := fm_i Fs39 (by decide)
          have ws39_79 : iI s39 79 = iI s38 79 := fm_i Fs39 (by decide)
          have ws39_78 : iI s39 78 = iI s38 78 := fm_i Fs39 (by decide)
          have ws39_90 : iI s39 90 = iI s38 90 := fm_i Fs39 (by decide)
          have ws39_91 : iI s39 91 = iI s38 91 := fm_i Fs39 (by decide)
          have ws39_81 : iI s39 81 = iI s38 81 := fm_i Fs39 (by decide)
          show WS k 94 [(0, .ref (A 179)), (1, .int (Int32.ofInt x))] [] (Wd A dT s39) 0 0
          refine WS_lv (lv := [(0, .ref (A 179)), (1, .int (Int32.ofInt x))]) (List.forall_mem_cons.mpr ⟨(List.Mem.head _), (List.forall_mem_cons.mpr ⟨(List.Mem.tail _ (List.Mem.head _)), (fun q h => absurd h List.not_mem_nil)⟩)⟩) ?_
          have hnu : NUR B x 0 0 127 e35 0 (iI s34 79) (iI s34 77) := by
            have z := hps34.1
            rwa [show iI s33 77 = 0 by omega, show iI s33 79 = 0 by omega] at z
          have hnv := nur_v hnu
          have hD43 : TDF s39 := fun hz i hi => by
            have e0 : iI s39 91 = 1 := by omega
            have e1 : i = 0 := by omega
            subst e1
            rw [fm_c Fs39 (by decide), hs38]
            show 0 ≤ iC (uC s34 165 (0 : Int).toNat (Int32.ofInt e35)) 165 (0 : Int).toNat ∧ iC (uC s34 165 (0 : Int).toNat (Int32.ofInt e35)) 165 (0 : Int).toNat ≤ 127
            rw [iC_u ⟨by omega, by omega⟩]
            omega
          have hW44 : WMQ B x s39 := wm_0 hnu (by omega) (by rw [hps39.1, show iI s38 77 = iI s34 77 by omega]) (by omega) (ag_sam (s := s38) (by rw [hs38]; exact ag_u1 (by omega) (by omega)) (sam_fm Fs39 (by decide)) (by omega))
          refine L94 ((400 - iI s39 77 + (9 - iI s39 79) : Int).toNat + 1) s39 x Is39 Gs39 JRLx_s39 JFDA_s39 ⟨hD43, hW44⟩ (by first | exact ⟨oq_650b79d5 g21 hps18 he17 hps14 he13 ws10_74 vs10, oq_fe2501c1 ws39_74 ws38_74 ws34_74 ws33_74 ws26_74 ws23_74 vs22, oq_b4d295d9 ws39_75 hps26.1 ws38_75 ws34_75 ws33_75, by omega, by omega, oq_3a510cc0 ws39_91 ws38_91 ws34_91 vs33, oq_52ce8ea5 ws39_90 ws38_90 ws34_90 ws33_90 ws26_90 ws23_90 ws22_90 ws18_90 ws10_90, oq_5c6f094b g25 b24.2 ws23_90 ws22_90 ws18_90 ws10_90, oq_d0299403 ws39_81 ws38_81 ws34_81 ws33_81 hps26.2.2.2.2 b32.1, oq_6da3e861 ws39_73 ws38_73 ws34_73 ws33_73 ws26_73 ws23_73 ws22_73 g21 b20.1 hps18 vs10⟩ | omega) (Nat.lt_succ_self _) ?_
          intro s42  Is42 Fs42 JRLx_s42 JFDA_s42 Qs42 hs42
          have b45 : (0 : Int) ≤ iI s42 73 ∧ iI s42 73 ≤ 3 := Is42.1 73
          have b46 : (0 : Int) ≤ iI s42 74 ∧ iI s42 74 ≤ 200 := Is42.1 74
          have b47 : (0 : Int) ≤ iI s42 77 ∧ iI s42 77 ≤ 400 := Is42.1 77
          have b48 : (0 : Int) ≤ iI s42 75 ∧ iI s42 75 ≤ 200 := Is42.1 75
          have b49 : (0 : Int) ≤ iI s42 79 ∧ iI s42 79 ≤ 9 := Is42.1 79
          have b50 : (0 : Int) ≤ iI s42 78 ∧ iI s42 78 ≤ 8 := Is42.1 78
          have b51 : (0 : Int) ≤ iI s42 90 ∧ iI s42 90 ≤ 12 := Is42.1 90
          have b52 : (0 : Int) ≤ iI s42 91 ∧ iI s42 91 ≤ 24 := Is42.1 91
          have b53 : (0 : Int) ≤ iI s42 81 ∧ iI s42 81 ≤ 1 := Is42.1 81
          have hTDF : TDF s42 := Qs42.1
          refine z_aload_n X (x := A 179) (show cdA 200 123 = some (.aload_n 0, 1, 0, 0, 0) from rfl) (List.Mem.head _) ?_
          refine z_aload_n X (x := A 179) (show cdA 200 124 = some (.aload_n 0, 1, 0, 0, 0) from rfl) (List.Mem.head _) ?_
          refine z_getI X 179 (show cdA 200 125 = some (.getfield 194, 3, 12, 7, 0) from rfl) (by decide) rfl rfl ?_
          have b54 : ((-1) : Int) ≤ iI s42 80 ∧ iI s42 80 ≤ 400 := Is42.1 80
          refine s_putI X 179 (show cdA 200 128 = some (.putfield 9, 3, 12, 3, 0) from rfl) (by decide) rfl rfl (by decide) rfl rfl rfl ?_
          obtain ⟨s55, hs55⟩ : ∃ x0, x0 = uI s42 76 (Int32.ofInt (iI s42 80)) := ⟨_, rfl⟩
          rw [← hs55]
          have Is55 : Bd s55 := by rw [hs55]; exact bd_I Is42 (show ((-1) : Int) ≤ (iI s42 80) ∧ (iI s42 80) ≤ 400 by first | exact ⟨b54.1, b54.2⟩ | omega) (rng_to _)
          have Fs55 := fm_I (x := Int32.ofInt (iI s42 80)) Fs42 (show 76 ∈ _ by decide)
          rw [← hs55] at Fs55
          have vs55 : iI s55 76 = (iI s42 80) := by rw [hs55]; exact iI_u (rng_to _)
          have ws55_73 : iI s55 73 = iI s42 73 := by rw [hs55]; rfl
          have ws55_74 : iI s55 74 = iI s42 74 := by rw [hs55]; rfl
          have ws55_77 : iI s55 77 = iI s42 77 := by rw [hs55]; rfl
          have ws55_75 : iI s55 75 = iI s42 75 := by rw [hs55]; rfl
          have ws55_79 : iI s55 79 = iI s42 79 := by rw [hs55]; rfl
          have ws55_78 : iI s55 78 = iI s42 78 := by rw [hs55]; rfl
          have ws55_90 : iI s55 90 = iI s42 90 := by rw [hs55]; rfl
          have ws55_91 : iI s55 91 = iI s42 91 := by rw [hs55]; rfl
          have ws55_81 : iI s55 81 = iI s42 81 := by rw [hs55]; rfl
          have fs55 : Fm [76] [] s42 s55 := by rw [hs55]; exact fm_I (fm_rf _ _ _) (show 76 ∈ _ by decide)
          have JRLx_s55 : RLx s55 := RLx_fm fs55 (by decide) JRLx_s42
          have JFDA_s55 : FDA B s55 := FDA_fm fs55 (by decide) JFDA_s42
          have hTDF2 : TDF s55 := fun z => TD_fm fs55 (by decide) (hTDF (by omega))
          refine z_aload_n X (x := A 179) (show cdA 200 131 = some (.aload_n 0, 1, 0, 0, 0) from rfl) (List.Mem.head _) ?_
          refine z_getI X 179 (show cdA 200 132 = some (.getfield 191, 3, 12, 6, 0) from rfl) (by decide) rfl rfl ?_
          have b56 : (0 : Int) ≤ iI s55 79 ∧ iI s55 79 ≤ 9 := Is55.1 79
          refine z_if_eq X (t := 146) (show cdA 200 135 = some (.ifCond .eq 11, 3, 0, 0, 0) from rfl) (by decide) (rng_to _) (fun g57 => ?_) (fun g57 => ?_)
          ·
            have JTD_s55 : TD s55 := hTDF2 (by omega)
            have hyes : ∃ a, parseT B x = some a := by obtain ⟨a9, z9, -⟩ := wm_end Qs42.2 (by omega) (by omega); exact ⟨a9, z9⟩
            refine z_aload_n X (x := A 179) (show cdA 200 146 = some (.aload_n 0, 1, 0, 0, 0) from rfl) (List.Mem.head _) ?_
            refine s_getR X 179 (show cdA 200 147 = some (.getfield 35, 3, 12, 23, 0) from rfl) (by decide) rfl rfl ?_
            refine z_aload_n X (x := A 179) (show cdA 200 150 = some (.aload_n 0, 1, 0, 0, 0) from rfl) (List.Mem.head _) ?_
            refine z_getI X 179 (show cdA 200 151 = some (.getfield 233, 3, 12, 22, 0) from rfl) (by decide) rfl rfl ?_
            have b58 : (0 : Int) ≤ iI s55 90 ∧ iI s55 90 ≤ 12 := Is55.1 90
            refine z_aload_n X (x := A 179) (show cdA 200 154 = some (.aload_n 0, 1, 0, 0, 0) from rfl) (List.Mem.head _) ?_
            refine z_getI X 179 (show cdA 200 155 = some (.getfield 216, 3, 12, 27, 0) from rfl) (by decide) rfl rfl ?_
            have b59 : (0 : Int) ≤ iI s55 91 ∧ iI s55 91 ≤ 24 := Is55.1 91
            refine z_ast X 185 (show cdA 200 158 = some (.iastore, 1, 0, 0, 0) from rfl) (by decide) rfl (by first | exact b58.1 | omega) (show (iI s55 90) < 12 by first | exact oq_e2284db0 ws55_90 hs42.2.2.2.2.2.2.1 hs42.2.2.2.2.2.2.2.1 | omega) (by decide) ?_
            obtain ⟨s60, hs60⟩ : ∃ x0, x0 = uC s55 162 ((iI s55 90)).toNat (Int32.ofInt (iI s55 91)) := ⟨_, rfl⟩
            rw [← hs60]
            have Is60 : Bd s60 := by rw [hs60]; exact bd_C Is55 (show (0 : Int) ≤ (iI s55 91) ∧ (iI s55 91) ≤ 24 by first | exact ⟨b59.1, b59.2⟩ | omega) (rng_to _)
            have Fs60 := fm_C (i := ((iI s55 90)).toNat) (x := Int32.ofInt (iI s55 91)) Fs55 (show 162 ∈ _ by decide)
            rw [← hs60] at Fs60
            have ws60_73 : iI s60 73 = iI s55 73 := by rw [hs60]; rfl
            have ws60_74 : iI s60 74 = iI s55 74 := by rw [hs60]; rfl
            have ws60_77 : iI s60 77 = iI s55 77 := by rw [hs60]; rfl
            have ws60_75 : iI s60 75 = iI s55 75 := by rw [hs60]; rfl
            have ws60_79 : iI s60 79 = iI s55 79 := by rw [hs60]; rfl
            have ws60_78 : iI s60 78 = iI s55 78 := by rw [hs60]; rfl
            have ws60_90 : iI s60 90 = iI s55 90 := by rw [hs60]; rfl
            have ws60_91 : iI s60 91 = iI s55 91 := by rw [hs60]; rfl
            have ws60_81 : iI s60 81 = iI s55 81 := by rw [hs60]; rfl
            have fs60 : Fm [] [162] s55 s60 := by rw [hs60]; exact fm_C (fm_rf _ _ _) (show 162 ∈ _ by decide)
            have JFDA_s60 : FDA B s60 := FDA_fm fs60 (by decide) JFDA_s55
            have JTD_s60 : TD s60 := TD_fm fs60 (by decide) JTD_s55
            have es_s60 : iI s55 90 = iI s 90 := by omega
            have JRLx_s60 : RLx s60 := by rw [hs60]; exact RLx_m JRLx_s55 (by omega)
            have vm_s60 : iC s60 162 (iI s 90 : Int).toNat = iI s55 91 := by rw [hs60, es_s60, iC_u ⟨by omega, by omega⟩]
            refine z_const X (show cdA 200 159 = some (.iconst 0, 1, 0, 0, 0) from rfl) ?_
            refine z_store_n X (lv' := [(2, .int (Int32.ofInt 0)), (0, .ref (A 179)), (1, .int (Int32.ofInt x))]) (show cdA 200 160 = some (.istore_n 2, 1, 0, 0, 0) from rfl) (by decide) (fun _ h => h) ?_
            refine WS_lv (lv := [(0, .ref (A 179)), (1, .int (Int32.ofInt x)), (2, .int (Int32.ofInt 0))]) (List.forall_mem_cons.mpr ⟨(List.Mem.tail _ (List.Mem.head _)), (List.forall_mem_cons.mpr ⟨(List.Mem.tail _ (List.Mem.tail _ (List.Mem.head _))), (List.forall_mem_cons.mpr ⟨(List.Mem.head _), (fun q h => absurd h List.not_mem_nil)⟩)⟩)⟩) ?_
            refine L161 ((128 - 0 : Int).toNat + 1) s60 x 0 Is60 Fs60 JRLx_s60 JFDA_s60 ⟨JTD_s60, JRLx_s60, fun i _ h => absurd h (by omega)⟩ (by first | exact ⟨And.intro (hs42.1.1) (And.intro (hs42.1.2.1) (hs42.1.2.2)), oq_7fe879e0 ws60_74 ws55_74 hs42.2.1 b46.1, oq_48a46d4a ws60_91 ws55_91 hs42.2.2.2.2.2.1, oq_1aa5be9e ws60_90 es_s60, hs42.2.2.2.2.2.2.2.1, by decide, by decide, oq_f6b042d5 ws60_91 vm_s60, oq_7fe879e0 ws60_73 ws55_73 hs42.2.2.2.2.2.2.2.2.2.1 b45.1⟩ | omega) (Nat.lt_succ_self _) ?_
            intro s61 x62 Is61 Fs61 JRLx_s61 JFDA_s61 Qs61 hs61
            have b63 : (0 : Int) ≤ iI s61 73 ∧ iI s61 73 ≤ 3 := Is61.1 73
            have b64 : (0 : Int) ≤ iI s61 74 ∧ iI s61 74 ≤ 200 := Is61.1 74
            have b65 : (0 : Int) ≤ iI s61 77 ∧ iI s61 77 ≤ 400 := Is61.1 77
            have b66 : (0 : Int) ≤ iI s61 75 ∧ iI s61 75 ≤ 200 := Is61.1 75
            have b67 : (0 : Int) ≤ iI s61 79 ∧ iI s61 79 ≤ 9 := Is61.1 79
            have b68 : (0 : Int) ≤ iI s61 78 ∧ iI s61 78 ≤ 8 := Is61.1 78
            have b69 : (0 : Int) ≤ iI s61 90 ∧ iI s61 90 ≤ 12 := Is61.1 90
            have b70 : (0 : Int) ≤ iI s61 91 ∧ iI s61 91 ≤ 24 := Is61.1 91
            have b71 : (0 : Int) ≤ iI s61 81 ∧ iI s61 81 ≤ 1 := Is61.1 81
            refine z_const X (show cdA 200 186 = some (.iconst 0, 1, 0, 0, 0) from rfl) ?_
            refine z_store_n X (lv' := [(2, .int (Int32.ofInt 0)), (0, .ref (A 179)), (1, .int (Int32.ofInt x))]) (show cdA 200 187 = some (.istore_n 2, 1, 0, 0, 0) from rfl) (by decide) (fun _ h => h) ?_
            refine WS_lv (lv := [(0, .ref (A 179)), (1, .int (Int32.ofInt x)), (2, .int (Int32.ofInt 0))]) (List.forall_mem_cons.mpr ⟨(List.Mem.tail _ (List.Mem.head _)), (List.forall_mem_cons.mpr ⟨(List.Mem.tail _ (List.Mem.tail _ (List.Mem.head _))), (List.forall_mem_cons.mpr ⟨(List.Mem.head _), (fun q h => absurd h List.not_mem_nil)⟩)⟩)⟩) ?_
            refine L188 ((24 - 0 : Int).toNat + 1) s61 x 0 Is61 Fs61 JRLx_s61 JFDA_s61 ⟨Qs61.1, Qs61.2.1, fun i hi _ => Qs61.2.2 i hi (by omega)⟩ (by first | exact ⟨And.intro (hs61.1.1) (And.intro (hs61.1.2.1) (hs61.1.2.2)), hs61.2.1, hs61.2.2.1, hs61.2.2.2.1, hs61.2.2.2.2.1, by decide, by decide, hs61.2.2.2.2.2.2.1, hs61.2.2.2.2.2.2.2⟩ | omega) (Nat.lt_succ_self _) ?_
            intro s72 x73 Is72 Fs72 JRLx_s72 JFDA_s72 Qs72 hs72
            have b74 : (0 : Int) ≤ iI s72 73 ∧ iI s72 73 ≤ 3 := Is72.1 73
            have b75 : (0 : Int) ≤ iI s72 74 ∧ iI s72 74 ≤ 200 := Is72.1 74
            have b76 : (0 : Int) ≤ iI s72 77 ∧ iI s72 77 ≤ 400 := Is72.1 77
            have b77 : (0 : Int) ≤ iI s72 75 ∧ iI s72 75 ≤ 200 := Is72.1 75
            have b78 : (0 : Int) ≤ iI s72 79 ∧ iI s72 79 ≤ 9 := Is72.1 79
            have b79 : (0 : Int) ≤ iI s72 78 ∧ iI s72 78 ≤ 8 := Is72.1 78
            have b80 : (0 : Int) ≤ iI s72 90 ∧ iI s72 90 ≤ 12 := Is72.1 90
            have b81 : (0 : Int) ≤ iI s72 91 ∧ iI s72 91 ≤ 24 := Is72.1 91
            have b82 : (0 : Int) ≤ iI s72 81 ∧ iI s72 81 ≤ 1 := Is72.1 81
            refine z_aload_n X (x := A 179) (show cdA 200 236 = some (.aload_n 0, 1, 0, 0, 0) from rfl) (List.Mem.head _) ?_
            refine w_dup X.1 (ax_d X (show cdA 200 237 = some (.dup, 1, 0, 0, 0) from rfl)) rfl ?_
            refine z_getI X 179 (show cdA 200 238 = some (.getfield 233, 3, 12, 22, 0) from rfl) (by decide) rfl rfl ?_
            have b83 : (0 : Int) ≤ iI s72 90 ∧ iI s72 90 ≤ 12 := Is72.1 90
            refine z_const X (show cdA 200 241 = some (.iconst 1, 1, 0, 0, 0) from rfl) ?_
            refine z_add X (show cdA 200 242 = some (.iadd, 1, 0, 0, 0) from rfl) ?_
            refine s_putI X 179 (show cdA 200 243 = some (.putfield 233, 3, 12, 22, 0) from rfl) (by decide) rfl rfl (by decide) rfl rfl rfl ?_
            obtain ⟨s84, hs84⟩ : ∃ x0, x0 = uI s72 90 (Int32.ofInt ((iI s72 90) + 1)) := ⟨_, rfl⟩
            rw [← hs84]
            have Is84 : Bd s84 := by rw [hs84]; exact bd_I Is72 (show (0 : Int) ≤ ((iI s72 90) + 1) ∧ ((iI s72 90) + 1) ≤ 12 by first | exact ⟨oq_54f49eb5 b83.1, oq_6a44be7e hs72.2.2.2.1 hs72.2.2.2.2.1⟩ | omega) ⟨by first | exact oq_74de1e16 b83.1 | omega, by first | exact oq_76a8a5b7 b83.2 | omega⟩
            have Fs84 := fm_I (x := Int32.ofInt ((iI s72 90) + 1)) Fs72 (show 90 ∈ _ by decide)
            rw [← hs84] at Fs84
            have vs84 : iI s84 90 = ((iI s72 90) + 1) := by rw [hs84]; exact iI_u ⟨by first | exact oq_74de1e16 b83.1 | omega, by first | exact oq_76a8a5b7 b83.2 | omega⟩
            have ws84_73 : iI s84 73 = iI s72 73 := by rw [hs84]; rfl
            have ws84_74 : iI s84 74 = iI s72 74 := by rw [hs84]; rfl
            have ws84_77 : iI s84 77 = iI s72 77 := by rw [hs84]; rfl
            have ws84_75 : iI s84 75 = iI s72 75 := by rw [hs84]; rfl
            have ws84_79 : iI s84 79 = iI s72 79 := by rw [hs84]; rfl
            have ws84_78 : iI s84 78 = iI s72 78 := by rw [hs84]; rfl
            have ws84_91 : iI s84 91 = iI s72 91 := by rw [hs84]; rfl
            have ws84_81 : iI s84 81 = iI s72 81 := by rw [hs84]; rfl
            have fs84 : Fm [90] [] s72 s84 := by rw [hs84]; exact fm_I (fm_rf _ _ _) (show 90 ∈ _ by decide)
            have JFDA_s84 : FDA B s84 := FDA_fm fs84 (by decide) JFDA_s72
            have JTD_s84 : TD s84 := TD_fm fs84 (by decide) Qs72.1
            have JRLx_s84 : RLx s84 := by
              rw [hs84]
              exact RLx_up Qs72.2.1 rfl (by omega) (by rw [show iI s72 90 = iI s 90 by omega]; omega) (fun i hi => by rw [show iI s72 90 = iI s 90 by omega]; exact Qs72.2.2 i hi (by omega))
            refine z_aload_n X (x := A 179) (show cdA 200 246 = some (.aload_n 0, 1, 0, 0, 0) from rfl) (List.Mem.head _) ?_
            refine z_getI X 179 (show cdA 200 247 = some (.getfield 233, 3, 12, 22, 0) from rfl) (by decide) rfl rfl ?_
            have b85 : (0 : Int) ≤ iI s84 90 ∧ iI s84 90 ≤ 12 := Is84.1 90
            refine z_const X (show cdA 200 250 = some (.iconst 1, 1, 0, 0, 0) from rfl) ?_
            refine z_sub X (show cdA 200 251 = some (.isub, 1, 0, 0, 0) from rfl) ?_
            exact w_iret X.1 q hRt rfl (ax_d X (show cdA 200 252 = some (.ireturn, 1, 0, 0, 0) from rfl)) (Nat.zero_le _) (Nat.zero_le _) ⟨_, rfl, Is84, Fs84, JRLx_s84, JFDA_s84, ((iI s84 90) - 1), rfl, ⟨by first | exact oq_c1e961c7 b85.1 | omega, by first | exact oq_d526ebd3 b85.2 | omega⟩, Or.inl ⟨⟨by first | exact hs72.1.1 | omega, by first | exact hs72.1.2.1 | omega, by first | exact hs72.1.2.2 | omega, by first | exact oq_333640b7 ws84_74 hs72.2.1 b75.1 | omega, by first | exact oq_333640b7 ws84_73 hs72.2.2.2.2.2.2.2.2 b74.1 | omega⟩, Or.inr ⟨by omega, Or.inr ⟨hyes, by omega⟩⟩⟩⟩
          ·
            refine z_aload_n X (x := A 179) (show cdA 200 138 = some (.aload_n 0, 1, 0, 0, 0) from rfl) (List.Mem.head _) ?_
            refine z_getI X 179 (show cdA 200 139 = some (.getfield 191, 3, 12, 6, 0) from rfl) (by decide) rfl rfl ?_
            have b86 : (0 : Int) ≤ iI s55 79 ∧ iI s55 79 ≤ 9 := Is55.1 79
            refine z_bipush X (show cdA 200 142 = some (.bipush 10, 2, 0, 0, 10) from rfl) ?_
            refine z_sub X (show cdA 200 144 = some (.isub, 1, 0, 0, 0) from rfl) ?_
            exact w_iret X.1 q hRt rfl (ax_d X (show cdA 200 145 = some (.ireturn, 1, 0, 0, 0) from rfl)) (Nat.zero_le _) (Nat.zero_le _) ⟨_, rfl, Is55, Fs55, JRLx_s55, JFDA_s55, ((iI s55 79) - 10), rfl, ⟨by first | exact oq_d3c9ade5 b86.1 | omega, by first | exact oq_71609f9f b86.2 | omega⟩, Or.inl ⟨⟨by first | exact hs42.1.1 | omega, by first | exact hs42.1.2.1 | omega, by first | exact hs42.1.2.2 | omega, by first | exact oq_333640b7 ws55_74 hs42.2.1 b46.1 | omega, by first | exact oq_333640b7 ws55_73 hs42.2.2.2.2.2.2.2.2.2.1 b45.1 | omega⟩, Or.inr ⟨by omega, Or.inl ⟨wm_no Qs42.2 (by omega), by omega⟩⟩⟩⟩
        ·
          refine z_const X (show cdA 200 65 = some (.iconst (-1), 1, 0, 0, 0) from rfl) ?_
          exact w_iret X.1 q hRt rfl (ax_d X (show cdA 200 66 = some (.ireturn, 1, 0, 0, 0) from rfl)) (Nat.zero_le _) (Nat.zero_le _) ⟨_, rfl, Is23, Fs23, JRLx_s23, JFDA_s23, (-1), rfl, (by decide), by first | exact Or.inr ⟨by omega, by omega, by omega, by omega⟩ | exact Or.inl ⟨⟨by omega, by omega, by omega, by omega, by omega⟩, Or.inl ⟨by omega, by omega⟩⟩⟩
      ·
        refine z_const X (show cdA 200 44 = some (.iconst 0, 1, 0, 0, 0) from rfl) ?_
        exact w_iret X.1 q hRt rfl (ax_d X (show cdA 200 45 = some (.ireturn, 1, 0, 0, 0) from rfl)) (Nat.zero_le _) (Nat.zero_le _) ⟨_, rfl, Is18, Gs18, JRLx_s18, JFDA_s18, 0, rfl, (by decide), by first | exact Or.inr ⟨by omega, by omega, by omega, by omega⟩ | exact Or.inl ⟨⟨by omega, by omega, by omega, by omega, by omega⟩, Or.inl ⟨by omega, by omega⟩⟩⟩
    refine z_if_ne X (t := 36) (show cdA 200 29 = some (.ifCond .ne 7, 3, 1, 0, 0) from rfl) (by decide) hrs14 (fun g87 => ?_) (fun g87 => ?_)
    ·
      refine z_const X (show cdA 200 36 = some (.iconst 0, 1, 0, 0, 0) from rfl) ?_
      exact N16 _ (Or.inl ⟨g87, rfl⟩)
    ·
      refine z_const X (show cdA 200 32 = some (.iconst 1, 1, 0, 0, 0) from rfl) ?_
      refine z_goto X (t := 37) (show cdA 200 33 = some (.goto 4, 3, 0, 0, 0) from rfl) (by decide) ?_
      exact N16 _ (Or.inr (⟨g87, rfl⟩))
  refine z_icmp_ge X (t := 24) (show cdA 200 14 = some (.if_icmp .ge 10, 3, 3, 0, 0) from rfl) (by decide) (rng_to _) (by decide) (fun g88 => ?_) (fun g88 => ?_)
  ·
    refine z_bipush X (show cdA 200 24 = some (.bipush 100, 2, 0, 0, 100) from rfl) ?_
    exact N12 _ (Or.inl ⟨g88, rfl⟩)
  ·
    refine z_aload_n X (x := A 179) (show cdA 200 17 = some (.aload_n 0, 1, 0, 0, 0) from rfl) (List.Mem.head _) ?_
    refine z_getI X 179 (show cdA 200 18 = some (.getfield 175, 3, 12, 1, 0) from rfl) (by decide) rfl rfl ?_
    have b89 : (0 : Int) ≤ iI s10 74 ∧ iI s10 74 ≤ 200 := Is10.1 74
    refine z_goto X (t := 26) (show cdA 200 21 = some (.goto 5, 3, 0, 0, 0) from rfl) (by decide) ?_
    exact N12 _ (Or.inr (⟨g88, b89, rfl⟩))
set_option maxRecDepth 4000 in
theorem c9_addTrial2 (G : GX l s0 D tys a0 dT) (I : Bd s)  : CT l s0 D A dT 106 (rmN 106) [.ref (A 3)] s (fun o t => Bd t ∧ Fm [9, 10] [1, 2, 6, 1003, 1004, 1005, 1007] s t ∧ ∃ e, o = .inl (some (.int (Int32.ofInt e))) ∧ rng e ∧ ((iI s 9 = 12 ∧ iI t 9 = 12) ∨ (iI s 9 ≤ 11 ∧ iI t 9 = iI s 9 + 1))) := by
  refine ct_ofX G (by decide) (Nat.le_of_ble_eq_true rfl) (fun k X E ET hRt hXt q => ?_)
  show WS k 0 [(0, .ref (A 3))] [] _ 0 0
  have F : Fm [9, 10] [1, 2, 6, 1003, 1004, 1005, 1007] s s := fm_rf _ _ s
  have b1 : (0 : Int) ≤ iI s 9 ∧ iI s 9 ≤ 12 := I.1 9
  have b2 : (0 : Int) ≤ iI s 11 ∧ iI s 11 ≤ 24 := I.1 11
  refine z_aload_n X (x := A 3) (show cdA 106 0 = some (.aload_n 0, 1, 0, 0, 0) from rfl) (List.Mem.head _) ?_
  refine z_getI X 3 (show cdA 106 1 = some (.getfield 99, 3, 9, 0, 0) from rfl) (by decide) rfl rfl ?_
  have b3 : (0 : Int) ≤ iI s 9 ∧ iI s 9 ≤ 12 := I.1 9
  refine z_bipush X (show cdA 106 4 = some (.bipush 12, 2, 0, 0, 12) from rfl) ?_
  refine z_icmp_lt X (t := 11) (show cdA 106 6 = some (.if_icmp .lt 5, 3, 2, 0, 0) from rfl) (by decide) (rng_to _) (by decide) (fun g4 => ?_) (fun g4 => ?_)
  ·
    refine z_aload_n X (x := A 3) (show cdA 106 11 = some (.aload_n 0, 1, 0, 0, 0) from rfl) (List.Mem.head _) ?_
    refine z_aload_n X (x := A 3) (show cdA 106 12 = some (.aload_n 0, 1, 0, 0, 0) from rfl) (List.Mem.head _) ?_
    refine z_getI X 3 (show cdA 106 13 = some (.getfield 99, 3, 9, 0, 0) from rfl) (by decide) rfl rfl ?_
    have b5 : (0 : Int) ≤ iI s 9 ∧ iI s 9 ≤ 12 := I.1 9
    refine z_aload_n X (x := A 3) (show cdA 106 16 = some (.aload_n 0, 1, 0, 0, 0) from rfl) (List.Mem.head _) ?_
    refine s_getR X 3 (show cdA 106 17 = some (.getfield 55, 3, 9, 16, 0) from rfl) (by decide) rfl rfl ?_
    refine z_const X (show cdA 106 20 = some (.iconst 0, 1, 0, 0, 0) from rfl) ?_
    refine z_aload_n X (x := A 3) (show cdA 106 21 = some (.aload_n 0, 1, 0, 0, 0) from rfl) (List.Mem.head _) ?_
    refine z_getI X 3 (show cdA 106 22 = some (.getfield 58, 3, 9, 17, 0) from rfl) (by decide) rfl rfl ?_
    have b6 : (0 : Int) ≤ iI s 11 ∧ iI s 11 ≤ 24 := I.1 11
    refine z_callV X 3 (rm := rmN 107) (As := [.int (Int32.ofInt (iI s 9)), .ref (A 18), .int (Int32.ofInt 0), .int (Int32.ofInt (iI s 11))]) (st := []) (show cdA 106 25 = some (.invokevirtual 102, 3, 107, 0, 0) from rfl) rfl (by decide) rfl (by rw [E.1, E.2.1, E.2.2.1]; exact c9_setWay_3_18 G I (by first | exact ⟨b5.1, oq_a1a2e1c8 g4⟩ | omega) (by first | exact ⟨b6.1, b6.2⟩ | omega) (by first | exact ⟨by decide, oq_4854286b b6.2⟩ | omega)) ⟨by rw [E.2.2.2]; exact (show (rmN 107).frames + 1 ≤ (rmN 106).frames by decide), by rw [E.2.2.2]; exact (show 8 + (mNL (miB 107) + 11) + (rmN 107).locals ≤ (rmN 106).locals by decide), by rw [E.2.2.2]; exact (show 0 + (rmN 107).cells ≤ (rmN 106).cells by decide), by rw [E.2.2.2]; exact (show 0 + (rmN 107).slots ≤ (rmN 106).slots by decide)⟩ (Nat.le_of_ble_eq_true rfl) (fun vv s7 hq => ?_) (fun ee s7 hq => ?_)
    rotate_left
    · obtain ⟨Is7, Fs7, hv, hps7⟩ := hq; cases hv
    obtain ⟨Is7, Fs7, hv, hps7⟩ := hq
    cases hv
    have Gs7 := fm_ts F Fs7 (by decide) (by decide)
    have ws7_9 : iI s7 9 = iI s 9 := fm_i Fs7 (by decide)
    have ws7_11 : iI s7 11 = iI s 11 := fm_i Fs7 (by decide)
    show WS k 28 [(0, .ref (A 3))] [] (Wd A dT s7) 0 0
    refine z_aload_n X (x := A 3) (show cdA 106 28 = some (.aload_n 0, 1, 0, 0, 0) from rfl) (List.Mem.head _) ?_
    refine w_dup X.1 (ax_d X (show cdA 106 29 = some (.dup, 1, 0, 0, 0) from rfl)) rfl ?_
    refine z_getI X 3 (show cdA 106 30 = some (.getfield 99, 3, 9, 0, 0) from rfl) (by decide) rfl rfl ?_
    have b9 : (0 : Int) ≤ iI s7 9 ∧ iI s7 9 ≤ 12 := Is7.1 9
    refine z_const X (show cdA 106 33 = some (.iconst 1, 1, 0, 0, 0) from rfl) ?_
    refine z_add X (show cdA 106 34 = some (.iadd, 1, 0, 0, 0) from rfl) ?_
    refine s_putI X 3 (show cdA 106 35 = some (.putfield 99, 3, 9, 0, 0) from rfl) (by decide) rfl rfl (by decide) rfl rfl rfl ?_
    obtain ⟨s10, hs10⟩ : ∃ x0, x0 = uI s7 9 (Int32.ofInt ((iI s7 9) + 1)) := ⟨_, rfl⟩
    rw [← hs10]
    have Is10 : Bd s10 := by rw [hs10]; exact bd_I Is7 (show (0 : Int) ≤ ((iI s7 9) + 1) ∧ ((iI s7 9) + 1) ≤ 12 by first | exact ⟨oq_54f49eb5 b9.1, oq_3bc6d8e6 ws7_9 g4⟩ | omega) ⟨by first | exact oq_74de1e16 b9.1 | omega, by first | exact oq_76a8a5b7 b9.2 | omega⟩
    have Fs10 := fm_I (x := Int32.ofInt ((iI s7 9) + 1)) Gs7 (show 9 ∈ _ by decide)
    rw [← hs10] at Fs10
    have vs10 : iI s10 9 = ((iI s7 9) + 1) := by rw [hs10]; exact iI_u ⟨by first | exact oq_74de1e16 b9.1 | omega, by first | exact oq_76a8a5b7 b9.2 | omega⟩
    have ws10_11 : iI s10 11 = iI s7 11 := by rw [hs10]; rfl
    refine z_aload_n X (x := A 3) (show cdA 106 38 = some (.aload_n 0, 1, 0, 0, 0) from rfl) (List.Mem.head _) ?_
    refine z_callV X 3 (rm := rmN 110) (As := []) (st := []) (show cdA 106 39 = some (.invokevirtual 106, 3, 110, 0, 0) from rfl) rfl (by decide) rfl (by rw [E.1, E.2.1, E.2.2.1]; exact c9_pairUp_3 G Is10 ) ⟨by rw [E.2.2.2]; exact (show (rmN 110).frames + 1 ≤ (rmN 106).frames by decide), by rw [E.2.2.2]; exact (show 8 + (mNL (miB 110) + 11) + (rmN 110).locals ≤ (rmN 106).locals by decide), by rw [E.2.2.2]; exact (show 0 + (rmN 110).cells ≤ (rmN 106).cells by decide), by rw [E.2.2.2]; exact (show 0 + (rmN 110).slots ≤ (rmN 106).slots by decide)⟩ (Nat.le_of_ble_eq_true rfl) (fun vv s11 hq => ?_) (fun ee s11 hq => ?_)
    rotate_left
    · obtain ⟨Is11, Fs11, hv, hps11⟩ := hq; cases hv
    obtain ⟨Is11, Fs11, hv, hps11⟩ := hq
    cases hv
    have Gs11 := fm_ts Fs10 Fs11 (by decide) (by decide)
    have ws11_9 : iI s11 9 = iI s10 9 := fm_i Fs11 (by decide)
    have ws11_11 : iI s11 11 = iI s10 11 := fm_i Fs11 (by decide)
    show WS k 42 [(0, .ref (A 3))] [] (Wd A dT s11) 0 0
    refine z_aload_n X (x := A 3) (show cdA 106 42 = some (.aload_n 0, 1, 0, 0, 0) from rfl) (List.Mem.head _) ?_
    refine z_getI X 3 (show cdA 106 43 = some (.getfield 99, 3, 9, 0, 0) from rfl) (by decide) rfl rfl ?_
    have b13 : (0 : Int) ≤ iI s11 9 ∧ iI s11 9 ≤ 12 := Is11.1 9
    refine z_const X (show cdA 106 46 = some (.iconst 1, 1, 0, 0, 0) from rfl) ?_
    refine z_sub X (show cdA 106 47 = some (.isub, 1, 0, 0, 0) from rfl) ?_
    exact w_iret X.1 q hRt rfl (ax_d X (show cdA 106 48 = some (.ireturn, 1, 0, 0, 0) from rfl)) (Nat.zero_le _) (Nat.zero_le _) ⟨_, rfl, Is11, Gs11, ((iI s11 9) - 1), rfl, ⟨by first | exact oq_c1e961c7 b13.1 | omega, by first | exact oq_d526ebd3 b13.2 | omega⟩, by first | exact Or.inr (And.intro (oq_a1a2e1c8 g4) (oq_20fce6d9 ws11_9 vs10 ws7_9)) | omega⟩
  ·
    refine z_const X (show cdA 106 9 = some (.iconst (-1), 1, 0, 0, 0) from rfl) ?_
    exact w_iret X.1 q hRt rfl (ax_d X (show cdA 106 10 = some (.ireturn, 1, 0, 0, 0) from rfl)) (Nat.zero_le _) (Nat.zero_le _) ⟨_, rfl, I, F, (-1), rfl, (by decide), by first | exact Or.inl (And.intro (oq_8e7d85da b3.2 g4) (oq_8e7d85da b3.2 g4)) | omega⟩
set_option maxRecDepth 4000 in
theorem cs_stream2 (G : GX l s0 D tys a0 dT) {B : Nat → Int} (I : Bd s) (jBYA : BYA B s) {w : Int} (p0 : rng w) : CT l s0 D A dT 136 (rmN 136) [.ref (A 0), .int (Int32.ofInt w)] s (fun o t => Bd t ∧ Fm [11, 9, 10, 2, 4, 6, 5, 1, 3, 0, 7, 8] [15, 1, 2, 6, 1003, 1004, 1005, 1007] s t ∧ ((∃ e, o = .inl (some (.int (Int32.ofInt e))) ∧ rng e ∧ (iI t 0 = 0 ∧ 0 ≤ w ∧ w ≤ iI s 0 ∧ w ≤ 100 ∧ STRx B w (iI s 9) (iI t 9))) ∨ ∃ x : Nat, o = .inr (exN x) ∧ (x = 0 ∧ iI t 0 = iI s 0 ∧ (w < 0 ∨ iI s 0 < w ∨ 100 < w) ∧ iI t 9 = iI s 9))) := by
  refine ct_ofX G (by decide) (Nat.le_of_ble_eq_true rfl) (fun k X E ET hRt hXt q => ?_)
  show WS k 0 [(0, .ref (A 0)), (1, .int (Int32.ofInt w))] [] _ 0 0
  have F : Fm [11, 9, 10, 2, 4, 6, 5, 1, 3, 0, 7, 8] [15, 1, 2, 6, 1003, 1004, 1005, 1007] s s := fm_rf _ _ s
  have b1 : (0 : Int) ≤ iI s 0 ∧ iI s 0 ≤ 200 := I.1 0
  have b2 : (0 : Int) ≤ iI s 9 ∧ iI s 9 ≤ 12 := I.1 9
  have b3 : (0 : Int) ≤ iI s 11 ∧ iI s 11 ≤ 24 := I.1 11
  have b4 : (0 : Int) ≤ iI s 2 ∧ iI s 2 ≤ 200 := I.1 2
  have b5 : (0 : Int) ≤ iI s 1 ∧ iI s 1 ≤ 200 := I.1 1
  have b6 : (0 : Int) ≤ iI s 4 ∧ iI s 4 ≤ 200 := I.1 4
  refine z_load_n X (x := w) (show cdA 136 0 = some (.iload_n 1, 1, 0, 0, 0) from rfl) (List.Mem.tail _ (List.Mem.head _)) ?_
  refine z_if_lt X (t := 21) (show cdA 136 1 = some (.ifCond .lt 20, 3, 2, 0, 0) from rfl) (by decide) ⟨by first | exact p0.1 | omega, by first | exact p0.2 | omega⟩ (fun g7 => ?_) (fun g7 => ?_)
  ·
    exact z_throw G X E ET hXt q (st := []) (show cdA 136 21 = some (.new 108, 3, 0, 1, 0) from rfl) (by decide) (by decide) (Nat.le_of_ble_eq_true rfl) (show 0 + 1 ≤ 1 by omega) (show 0 + 6 ≤ 6 by omega) (show 0 + 1 ≤ 1 by omega) (show 0 + 6 ≤ 6 by omega) ⟨_, rfl, I, F, Or.inr ⟨0, rfl, by omega⟩⟩
  ·
    refine z_load_n X (x := w) (show cdA 136 4 = some (.iload_n 1, 1, 0, 0, 0) from rfl) (List.Mem.tail _ (List.Mem.head _)) ?_
    refine z_aload_n X (x := A 0) (show cdA 136 5 = some (.aload_n 0, 1, 0, 0, 0) from rfl) (List.Mem.head _) ?_
    refine s_getR X 0 (show cdA 136 6 = some (.getfield 10, 3, 11, 0, 0) from rfl) (by decide) rfl rfl ?_
    refine z_getI X 1 (show cdA 136 9 = some (.getfield 104, 3, 10, 1, 0) from rfl) (by decide) rfl rfl ?_
    have b8 : (0 : Int) ≤ iI s 0 ∧ iI s 0 ≤ 200 := I.1 0
    refine z_icmp_gt X (t := 21) (show cdA 136 12 = some (.if_icmp .gt 9, 3, 4, 0, 0) from rfl) (by decide) ⟨by first | exact p0.1 | omega, by first | exact p0.2 | omega⟩ (rng_to _) (fun g9 => ?_) (fun g9 => ?_)
    ·
      exact z_throw G X E ET hXt q (st := []) (show cdA 136 21 = some (.new 108, 3, 0, 1, 0) from rfl) (by decide) (by decide) (Nat.le_of_ble_eq_true rfl) (show 0 + 1 ≤ 1 by omega) (show 0 + 6 ≤ 6 by omega) (show 0 + 1 ≤ 1 by omega) (show 0 + 6 ≤ 6 by omega) ⟨_, rfl, I, F, Or.inr ⟨0, rfl, by omega⟩⟩
    ·
      refine z_load_n X (x := w) (show cdA 136 15 = some (.iload_n 1, 1, 0, 0, 0) from rfl) (List.Mem.tail _ (List.Mem.head _)) ?_
      refine z_bipush X (show cdA 136 16 = some (.bipush 100, 2, 0, 0, 100) from rfl) ?_
      refine z_icmp_le X (t := 31) (show cdA 136 18 = some (.if_icmp .le 13, 3, 5, 0, 0) from rfl) (by decide) ⟨by first | exact p0.1 | omega, by first | exact p0.2 | omega⟩ (by decide) (fun g10 => ?_) (fun g10 => ?_)
      ·
        refine z_aload_n X (x := A 0) (show cdA 136 31 = some (.aload_n 0, 1, 0, 0, 0) from rfl) (List.Mem.head _) ?_
        refine s_getR X 0 (show cdA 136 32 = some (.getfield 10, 3, 11, 0, 0) from rfl) (by decide) rfl rfl ?_
        refine z_load_n X (x := w) (show cdA 136 35 = some (.iload_n 1, 1, 0, 0, 0) from rfl) (List.Mem.tail _ (List.Mem.head _)) ?_
        refine z_const X (show cdA 136 36 = some (.iconst 0, 1, 0, 0, 0) from rfl) ?_
        refine z_callV X 1 (rm := rmN 128) (As := [.int (Int32.ofInt w), .int (Int32.ofInt 0)]) (st := []) (show cdA 136 37 = some (.invokevirtual 115, 3, 128, 0, 0) from rfl) rfl (by decide) rfl (by rw [E.1, E.2.1, E.2.2.1]; exact c10_open2 G I jBYA (by first | exact ⟨g7, oq_6ab87361 g10⟩ | omega) (by decide)) ⟨by rw [E.2.2.2]; exact (show (rmN 128).frames + 1 ≤ (rmN 136).frames by decide), by rw [E.2.2.2]; exact (show 8 + (mNL (miB 128) + 11) + (rmN 128).locals ≤ (rmN 136).locals by decide), by rw [E.2.2.2]; exact (show 0 + (rmN 128).cells ≤ (rmN 136).cells by decide), by rw [E.2.2.2]; exact (show 0 + (rmN 128).slots ≤ (rmN 136).slots by decide)⟩ (Nat.le_of_ble_eq_true rfl) (fun vv s11 hq => ?_) (fun ee s11 hq => ?_)
        rotate_left
        · obtain ⟨Is11, Fs11, JBYB_s11, hv, hps11⟩ := hq; cases hv
        obtain ⟨Is11, Fs11, JBYB_s11, hv, hps11⟩ := hq
        cases hv
        have Gs11 := fm_ts F Fs11 (by decide) (by decide)
        have JBYA_s11 : BYA B s11 := BYA_fm Fs11 (by decide) jBYA
        have b13 : (0 : Int) ≤ iI s11 0 ∧ iI s11 0 ≤ 200 := Is11.1 0
        have ws11_9 : iI s11 9 = iI s 9 := fm_i Fs11 (by decide)
        have ws11_11 : iI s11 11 = iI s 11 := fm_i Fs11 (by decide)
        have b14 : (0 : Int) ≤ iI s11 2 ∧ iI s11 2 ≤ 200 := Is11.1 2
        have b15 : (0 : Int) ≤ iI s11 1 ∧ iI s11 1 ≤ 200 := Is11.1 1
        have b16 : (0 : Int) ≤ iI s11 4 ∧ iI s11 4 ≤ 200 := Is11.1 4
        show WS k 40 [(0, .ref (A 0)), (1, .int (Int32.ofInt w))] [] (Wd A dT s11) 0 0
        refine z_aload_n X (x := A 0) (show cdA 136 40 = some (.aload_n 0, 1, 0, 0, 0) from rfl) (List.Mem.head _) ?_
        refine s_getR X 0 (show cdA 136 41 = some (.getfield 19, 3, 11, 1, 0) from rfl) (by decide) rfl rfl ?_
        refine z_aload_n X (x := A 0) (show cdA 136 44 = some (.aload_n 0, 1, 0, 0, 0) from rfl) (List.Mem.head _) ?_
        refine s_getR X 0 (show cdA 136 45 = some (.getfield 10, 3, 11, 0, 0) from rfl) (by decide) rfl rfl ?_
        refine z_callV X 3 (rm := rmN 103) (As := [.ref (A 1)]) (st := []) (show cdA 136 48 = some (.invokevirtual 119, 3, 103, 0, 0) from rfl) rfl (by decide) rfl (by rw [E.1, E.2.1, E.2.2.1]; exact c9_readWay2 G hps11.2.2.2.2 hps11.2.2.2.1 Is11 JBYB_s11 (by first | exact hps11.2.1 | omega) (by first | exact hps11.2.2.1 | omega) (by omega)) ⟨by rw [E.2.2.2]; exact (show (rmN 103).frames + 1 ≤ (rmN 136).frames by decide), by rw [E.2.2.2]; exact (show 8 + (mNL (miB 103) + 11) + (rmN 103).locals ≤ (rmN 136).locals by decide), by rw [E.2.2.2]; exact (show 0 + (rmN 103).cells ≤ (rmN 136).cells by decide), by rw [E.2.2.2]; exact (show 0 + (rmN 103).slots ≤ (rmN 136).slots by decide)⟩ (Nat.le_of_ble_eq_true rfl) (fun vv s17 hq => ?_) (fun ee s17 hq => ?_)
        rotate_left
        · obtain ⟨Is17, Fs17, JBYB_s17, e18, hv, hrs17, hps17⟩ := hq; cases hv
        obtain ⟨Is17, Fs17, JBYB_s17, e18, hv, hrs17, hps17⟩ := hq
        cases hv
        have Gs17 := fm_ts Gs11 Fs17 (by decide) (by decide)
        have JBYA_s17 : BYA B s17 := BYA_fm Fs17 (by decide) JBYA_s11
        have JBYB_s17 : BYB B w s17 := BYB_fm Fs17 (by decide) JBYB_s11
        have ws17_0 : iI s17 0 = iI s11 0 := fm_i Fs17 (by decide)
        have ws17_9 : iI s17 9 = iI s11 9 := fm_i Fs17 (by decide)
        have b19 : (0 : Int) ≤ iI s17 11 ∧ iI s17 11 ≤ 24 := Is17.1 11
        have b20 : (0 : Int) ≤ iI s17 2 ∧ iI s17 2 ≤ 200 := Is17.1 2
        have ws17_1 : iI s17 1 = iI s11 1 := fm_i Fs17 (by decide)
        have b21 : (0 : Int) ≤ iI s17 4 ∧ iI s17 4 ≤ 200 := Is17.1 4
        show WS k 51 [(0, .ref (A 0)), (1, .int (Int32.ofInt w))] [.int (Int32.ofInt e18)] (Wd A dT s17) 0 0
        refine z_if_ne X (t := 65) (show cdA 136 51 = some (.ifCond .ne 14, 3, 1, 0, 0) from rfl) (by decide) hrs17 (fun g22 => ?_) (fun g22 => ?_)
        ·
          refine z_aload_n X (x := A 0) (show cdA 136 65 = some (.aload_n 0, 1, 0, 0, 0) from rfl) (List.Mem.head _) ?_
          refine s_getR X 0 (show cdA 136 66 = some (.getfield 19, 3, 11, 1, 0) from rfl) (by decide) rfl rfl ?_
          refine z_callV X 3 (rm := rmN 106) (As := []) (st := []) (show cdA 136 69 = some (.invokevirtual 126, 3, 106, 0, 0) from rfl) rfl (by decide) rfl (by rw [E.1, E.2.1, E.2.2.1]; exact c9_addTrial2 G Is17 ) ⟨by rw [E.2.2.2]; exact (show (rmN 106).frames + 1 ≤ (rmN 136).frames by decide), by rw [E.2.2.2]; exact (show 8 + (mNL (miB 106) + 11) + (rmN 106).locals ≤ (rmN 136).locals by decide), by rw [E.2.2.2]; exact (show 0 + (rmN 106).cells ≤ (rmN 136).cells by decide), by rw [E.2.2.2]; exact (show 0 + (rmN 106).slots ≤ (rmN 136).slots by decide)⟩ (Nat.le_of_ble_eq_true rfl) (fun vv s23 hq => ?_) (fun ee s23 hq => ?_)
          rotate_left
          · obtain ⟨Is23, Fs23, e24, hv, hrs23, hps23⟩ := hq; cases hv
          obtain ⟨Is23, Fs23, e24, hv, hrs23, hps23⟩ := hq
          cases hv
          have Gs23 := fm_ts Gs17 Fs23 (by decide) (by decide)
          have JBYA_s23 : BYA B s23 := BYA_fm Fs23 (by decide) JBYA_s17
          have JBYB_s23 : BYB B w s23 := BYB_fm Fs23 (by decide) JBYB_s17
          have ws23_0 : iI s23 0 = iI s17 0 := fm_i Fs23 (by decide)
          have b25 : (0 : Int) ≤ iI s23 9 ∧ iI s23 9 ≤ 12 := Is23.1 9
          have ws23_11 : iI s23 11 = iI s17 11 := fm_i Fs23 (by decide)
          have ws23_2 : iI s23 2 = iI s17 2 := fm_i Fs23 (by decide)
          have ws23_1 : iI s23 1 = iI s17 1 := fm_i Fs23 (by decide)
          have ws23_4 : iI s23 4 = iI s17 4 := fm_i Fs23 (by decide)
          show WS k 72 [(0, .ref (A 0)), (1, .int (Int32.ofInt w))] [.int (Int32.ofInt e24)] (Wd A dT s23) 0 0
          exact w_iret X.1 q hRt rfl (ax_d X (show cdA 136 72 = some (.ireturn, 1, 0, 0, 0) from rfl)) (Nat.zero_le _) (Nat.zero_le _) ⟨_, rfl, Is23, Gs23, Or.inl ⟨e24, rfl, hrs23, ⟨by first | exact oq_7fe879e0 ws23_0 ws17_0 hps11.1 b13.1 | omega, by first | exact g7 | omega, by first | exact g9 | omega, by first | exact g10 | omega, str_y (par_y hps17.2.2.2 (by omega)) (by omega)⟩⟩⟩
        ·
          refine z_aload_n X (x := A 0) (show cdA 136 54 = some (.aload_n 0, 1, 0, 0, 0) from rfl) (List.Mem.head _) ?_
          refine s_getR X 0 (show cdA 136 55 = some (.getfield 10, 3, 11, 0, 0) from rfl) (by decide) rfl rfl ?_
          refine z_getI X 1 (show cdA 136 58 = some (.getfield 123, 3, 10, 8, 0) from rfl) (by decide) rfl rfl ?_
          have b26 : (0 : Int) ≤ iI s17 7 ∧ iI s17 7 ≤ 9 := Is17.1 7
          refine z_bipush X (show cdA 136 61 = some (.bipush 10, 2, 0, 0, 10) from rfl) ?_
          refine z_sub X (show cdA 136 63 = some (.isub, 1, 0, 0, 0) from rfl) ?_
          exact w_iret X.1 q hRt rfl (ax_d X (show cdA 136 64 = some (.ireturn, 1, 0, 0, 0) from rfl)) (Nat.zero_le _) (Nat.zero_le _) ⟨_, rfl, Is17, Gs17, Or.inl ⟨((iI s17 7) - 10), rfl, ⟨by first | exact oq_d3c9ade5 b26.1 | omega, by first | exact oq_71609f9f b26.2 | omega⟩, ⟨by first | exact oq_333640b7 ws17_0 hps11.1 b13.1 | omega, by first | exact g7 | omega, by first | exact g9 | omega, by first | exact g10 | omega, str_n (par_n hps17.2.2.2 (by omega)) (by omega) (by omega)⟩⟩⟩
      ·
        exact z_throw G X E ET hXt q (st := []) (show cdA 136 21 = some (.new 108, 3, 0, 1, 0) from rfl) (by decide) (by decide) (Nat.le_of_ble_eq_true rfl) (show 0 + 1 ≤ 1 by omega) (show 0 + 6 ≤ 6 by omega) (show 0 + 1 ≤ 1 by omega) (show 0 + 6 ≤ 6 by omega) ⟨_, rfl, I, F, Or.inr ⟨0, rfl, by omega⟩⟩
set_option maxRecDepth 4000 in
theorem c10_take2 (G : GX l s0 D tys a0 dT) (I : Bd s) {x : Int} (p0 : rng x) (p1 : iI s 0 ≤ 196) : CT l s0 D A dT 127 (rmN 127) [.ref (A 1), .int (Int32.ofInt x)] s (fun o t => Bd t ∧ Fm [0] [0] s t ∧ o = .inl none ∧ (iI t 0 = iI s 0 + 4 ∧ FDP 0 (fun i => byT x (24 - 8 * i)) (iI s 0) (iI t 0) s t)) := by
  refine ct_ofX G (by decide) (Nat.le_of_ble_eq_true rfl) (fun k X E ET hRt hXt q => ?_)
  show WS k 0 [(0, .ref (A 1)), (1, .int (Int32.ofInt x))] [] _ 0 0
  have F : Fm [0] [0] s s := fm_rf _ _ s
  have b1 : (0 : Int) ≤ iI s 0 ∧ iI s 0 ≤ 200 := I.1 0
  have L3 : ∀ (n : Nat) (t : PS) (xv c : Int), Bd t → Fm [0] [0] s t → (FDP 0 (fun i => byT x (24 - 8 * i)) (iI s 0) (iI t 0) s t) → (xv = x ∧ 0 ≤ iI t 0 - iI s 0 ∧ iI t 0 - iI s 0 ≤ 4 ∧ c = 24 - 8 * (iI t 0 - iI s 0)) → (c + 8 : Int).toNat < n → (∀ (t' : PS) (c' : Int), Bd t' → Fm [0] [0] s t' → (FDP 0 (fun i => byT x (24 - 8 * i)) (iI s 0) (iI t' 0) s t') → (iI t' 0 = iI s 0 + 4) → WS k 49 [(0, .ref (A 1)), (1, .int (Int32.ofInt xv)), (2, .int (Int32.ofInt c'))] [] (Wd A dT t') 0 0) → WS k 3 [(0, .ref (A 1)), (1, .int (Int32.ofInt xv)), (2, .int (Int32.ofInt c))] [] (Wd A dT t) 0 0 := by
    intro n
    induction n with
    | zero =>
      intro t xv c I F hq hi hm kx
      exact absurd hm (Nat.not_lt_zero _)
    | succ n ih =>
      intro t xv c I F hq hi hm kx
      have b1001 : (0 : Int) ≤ iI t 0 ∧ iI t 0 ≤ 200 := I.1 0
      refine z_load_n X (x := c) (show cdA 127 3 = some (.iload_n 2, 1, 0, 0, 0) from rfl) (List.Mem.tail _ (List.Mem.tail _ (List.Mem.head _))) ?_
      refine z_if_lt X (t := 49) (show cdA 127 4 = some (.ifCond .lt 45, 3, 2, 0, 0) from rfl) (by decide) ⟨by first | exact oq_f5cb42c4 hi.2.2.2 hi.2.2.1 | omega, by first | exact oq_d89f13d3 hi.2.2.2 hi.2.1 | omega⟩ (fun g1002 => ?_) (fun g1002 => ?_)
      ·
        refine WS_lv (lv := [(0, .ref (A 1)), (1, .int (Int32.ofInt xv)), (2, .int (Int32.ofInt c))]) (List.forall_mem_cons.mpr ⟨(List.Mem.head _), (List.forall_mem_cons.mpr ⟨(List.Mem.tail _ (List.Mem.head _)), (List.forall_mem_cons.mpr ⟨(List.Mem.tail _ (List.Mem.tail _ (List.Mem.head _))), (fun q h => absurd h List.not_mem_nil)⟩)⟩)⟩) ?_
        exact kx _ c I F hq (by first | exact oq_ea6689cf g1002 hi.2.2.2 hi.2.2.1 | omega)
      ·
        refine z_aload_n X (x := A 1) (show cdA 127 7 = some (.aload_n 0, 1, 0, 0, 0) from rfl) (List.Mem.head _) ?_
        refine z_getI X 1 (show cdA 127 8 = some (.getfield 19, 3, 10, 1, 0) from rfl) (by decide) rfl rfl ?_
        have b1003 : (0 : Int) ≤ iI t 0 ∧ iI t 0 ≤ 200 := I.1 0
        refine z_sipush X (show cdA 127 11 = some (.sipush 200, 3, 0, 0, 200) from rfl) ?_
        refine z_icmp_ge X (t := 49) (show cdA 127 14 = some (.if_icmp .ge 35, 3, 3, 0, 0) from rfl) (by decide) (rng_to _) (by decide) (fun g1004 => ?_) (fun g1004 => ?_)
        ·
          refine WS_lv (lv := [(0, .ref (A 1)), (1, .int (Int32.ofInt xv)), (2, .int (Int32.ofInt c))]) (List.forall_mem_cons.mpr ⟨(List.Mem.head _), (List.forall_mem_cons.mpr ⟨(List.Mem.tail _ (List.Mem.head _)), (List.forall_mem_cons.mpr ⟨(List.Mem.tail _ (List.Mem.tail _ (List.Mem.head _))), (fun q h => absurd h List.not_mem_nil)⟩)⟩)⟩) ?_
          exact kx _ c I F hq (by first | exact oq_4fc289d0 hi.2.2.1 p1 g1004 | omega)
        ·
          refine z_aload_n X (x := A 1) (show cdA 127 17 = some (.aload_n 0, 1, 0, 0, 0) from rfl) (List.Mem.head _) ?_
          refine s_getR X 1 (show cdA 127 18 = some (.getfield 11, 3, 10, 0, 0) from rfl) (by decide) rfl rfl ?_
          refine z_aload_n X (x := A 1) (show cdA 127 21 = some (.aload_n 0, 1, 0, 0, 0) from rfl) (List.Mem.head _) ?_
          refine z_getI X 1 (show cdA 127 22 = some (.getfield 19, 3, 10, 1, 0) from rfl) (by decide) rfl rfl ?_
          have b1005 : (0 : Int) ≤ iI t 0 ∧ iI t 0 ≤ 200 := I.1 0
          refine z_load_n X (x := xv) (show cdA 127 25 = some (.iload_n 1, 1, 0, 0, 0) from rfl) (List.Mem.tail _ (List.Mem.head _)) ?_
          refine z_load_n X (x := c) (show cdA 127 26 = some (.iload_n 2, 1, 0, 0, 0) from rfl) (List.Mem.tail _ (List.Mem.tail _ (List.Mem.head _))) ?_
          refine z_byU X (show cdA 127 27 = some (.iushr, 1, 0, 0, 0) from rfl) (show cdA 127 28 = some (.sipush 255, 3, 0, 0, 255) from rfl) (show cdA 127 31 = some (.iand, 1, 0, 0, 0) from rfl) (fun e1006 he1006 ie1006 je1006 => ?_)
          show WS k 32 [(0, .ref (A 1)), (1, .int (Int32.ofInt xv)), (2, .int (Int32.ofInt c))] [.int (Int32.ofInt e1006), .int (Int32.ofInt (iI t 0)), .ref (A 2)] (Wd A dT t) 0 0
          refine z_ast X 2 (show cdA 127 32 = some (.iastore, 1, 0, 0, 0) from rfl) (by decide) rfl (by first | exact b1005.1 | omega) (show (iI t 0) < 200 by first | exact g1004 | omega) (by decide) ?_
          obtain ⟨s1007, hs1007⟩ : ∃ x0, x0 = uC t 0 ((iI t 0)).toNat (Int32.ofInt e1006) := ⟨_, rfl⟩
          rw [← hs1007]
          have Is1007 : Bd s1007 := by rw [hs1007]; exact bd_C I (show (0 : Int) ≤ e1006 ∧ e1006 ≤ 255 by omega) ⟨by omega, by omega⟩
          have Fs1007 := fm_C (i := ((iI t 0)).toNat) (x := Int32.ofInt e1006) F (show 0 ∈ _ by decide)
          rw [← hs1007] at Fs1007
          have ws1007_0 : iI s1007 0 = iI t 0 := by rw [hs1007]; rfl
          refine z_aload_n X (x := A 1) (show cdA 127 33 = some (.aload_n 0, 1, 0, 0, 0) from rfl) (List.Mem.head _) ?_
          refine w_dup X.1 (ax_d X (show cdA 127 34 = some (.dup, 1, 0, 0, 0) from rfl)) rfl ?_
          refine z_getI X 1 (show cdA 127 35 = some (.getfield 19, 3, 10, 1, 0) from rfl) (by decide) rfl rfl ?_
          have b1008 : (0 : Int) ≤ iI s1007 0 ∧ iI s1007 0 ≤ 200 := Is1007.1 0
          refine z_const X (show cdA 127 38 = some (.iconst 1, 1, 0, 0, 0) from rfl) ?_
          refine z_add X (show cdA 127 39 = some (.iadd, 1, 0, 0, 0) from rfl) ?_
          refine s_putI X 1 (show cdA 127 40 = some (.putfield 19, 3, 10, 1, 0) from rfl) (by decide) rfl rfl (by decide) rfl rfl rfl ?_
          obtain ⟨s1009, hs1009⟩ : ∃ x0, x0 = uI s1007 0 (Int32.ofInt ((iI s1007 0) + 1)) := ⟨_, rfl⟩
          rw [← hs1009]
          have Is1009 : Bd s1009 := by rw [hs1009]; exact bd_I Is1007 (show (0 : Int) ≤ ((iI s1007 0) + 1) ∧ ((iI s1007 0) + 1) ≤ 200 by first | exact ⟨oq_54f49eb5 b1008.1, oq_c35a0598 ws1007_0 g1004⟩ | omega) ⟨by first | exact oq_74de1e16 b1008.1 | omega, by first | exact oq_bb8d498d b1008.2 | omega⟩
          have Fs1009 := fm_I (x := Int32.ofInt ((iI s1007 0) + 1)) Fs1007 (show 0 ∈ _ by decide)
          rw [← hs1009] at Fs1009
          have vs1009 : iI s1009 0 = ((iI s1007 0) + 1) := by rw [hs1009]; exact iI_u ⟨by first | exact oq_74de1e16 b1008.1 | omega, by first | exact oq_bb8d498d b1008.2 | omega⟩
          refine z_inc X (x := c) (lv' := [(2, .int (Int32.ofInt (c + (-8)))), (0, .ref (A 1)), (1, .int (Int32.ofInt xv))]) (show cdA 127 43 = some (.iinc 2 (-8), 3, 0, 0, 0) from rfl) (by decide) (List.Mem.tail _ (List.Mem.tail _ (List.Mem.head _))) (fun _ h => h) ?_
          refine z_goto X (t := 3) (show cdA 127 46 = some (.goto (-43), 3, 0, 0, 0) from rfl) (by decide) ?_
          refine WS_lv (lv := [(0, .ref (A 1)), (1, .int (Int32.ofInt xv)), (2, .int (Int32.ofInt (c + (-8))))]) (List.forall_mem_cons.mpr ⟨(List.Mem.tail _ (List.Mem.head _)), (List.forall_mem_cons.mpr ⟨(List.Mem.tail _ (List.Mem.tail _ (List.Mem.head _))), (List.forall_mem_cons.mpr ⟨(List.Mem.head _), (fun q h => absurd h List.not_mem_nil)⟩)⟩)⟩) ?_
          exact ih _ xv (c + (-8)) Is1009 Fs1009 (fdp_eq (fdp_sam (t := s1007) (by rw [hs1007]; exact fdp_up hq (by omega) (by omega) ⟨by omega, by omega⟩ (by show e1006 = byT x (24 - 8 * (iI t 0 - iI s 0)); rw [show 24 - 8 * (iI t 0 - iI s 0) = c by omega, show x = xv by omega]; exact he1006)) (by rw [hs1009]; exact sam_rf)) rfl (by omega)) (by first | exact ⟨hi.1, oq_8fa37b92 vs1009 ws1007_0 hi.2.1, oq_62cc9666 vs1009 ws1007_0 g1002 hi.2.2.2, oq_770cdc6a vs1009 hi.2.2.2 ws1007_0⟩ | omega) (by first | exact qk_me hm (by decide) (oq_8b83adc9 g1002) | omega) kx
  refine z_bipush X (show cdA 127 0 = some (.bipush 24, 2, 0, 0, 24) from rfl) ?_
  refine z_store_n X (lv' := [(2, .int (Int32.ofInt 24)), (0, .ref (A 1)), (1, .int (Int32.ofInt x))]) (show cdA 127 2 = some (.istore_n 2, 1, 0, 0, 0) from rfl) (by decide) (fun _ h => h) ?_
  refine WS_lv (lv := [(0, .ref (A 1)), (1, .int (Int32.ofInt x)), (2, .int (Int32.ofInt 24))]) (List.forall_mem_cons.mpr ⟨(List.Mem.tail _ (List.Mem.head _)), (List.forall_mem_cons.mpr ⟨(List.Mem.tail _ (List.Mem.tail _ (List.Mem.head _))), (List.forall_mem_cons.mpr ⟨(List.Mem.head _), (fun q h => absurd h List.not_mem_nil)⟩)⟩)⟩) ?_
  refine L3 ((24 + 8 : Int).toNat + 1) s x 24 I F fdp_0 (by first | exact ⟨by decide, by decide, by decide, by decide⟩ | omega) (Nat.lt_succ_self _) ?_
  intro s2 x3 Is2 Fs2 Qs2 hs2
  have b4 : (0 : Int) ≤ iI s2 0 ∧ iI s2 0 ≤ 200 := Is2.1 0
  exact w_vret X.1 q hRt (ax_d X (show cdA 127 49 = some (.return_, 1, 0, 0, 0) from rfl)) (Nat.zero_le _) (Nat.zero_le _) ⟨_, rfl, Is2, Fs2, rfl, ⟨by first | exact hs2 | omega, Qs2⟩⟩
set_option maxRecDepth 4000 in
theorem c10_takeAll2 (G : GX l s0 D tys a0 dT) (I : Bd s) {x1 x2 x3 x4 x5 : Int} (p0 : rng x1) (p1 : rng x2) (p2 : rng x3) (p3 : rng x4) (p4 : rng x5) : CT l s0 D A dT 126 (rmN 126) [.ref (A 1), .int (Int32.ofInt x1), .int (Int32.ofInt x2), .int (Int32.ofInt x3), .int (Int32.ofInt x4), .int (Int32.ofInt x5)] s (fun o t => Bd t ∧ Fm [0] [0] s t ∧ ∃ e, o = .inl (some (.int (Int32.ofInt e))) ∧ rng e ∧ ((iI s 0 ≤ 180 ∧ iI t 0 = iI s 0 + 20 ∧ e = iI t 0 ∧ FDP 0 (fvT x1 x2 x3 x4 x5) (iI s 0) (iI t 0) s t) ∨ (180 < iI s 0 ∧ iI t 0 = iI s 0 ∧ e = -1 ∧ SAM 0 s t))) := by
  refine ct_ofX G (by decide) (Nat.le_of_ble_eq_true rfl) (fun k X E ET hRt hXt q => ?_)
  show WS k 0 [(0, .ref (A 1)), (1, .int (Int32.ofInt x1)), (2, .int (Int32.ofInt x2)), (3, .int (Int32.ofInt x3)), (4, .int (Int32.ofInt x4)), (5, .int (Int32.ofInt x5))] [] _ 0 0
  have F : Fm [0] [0] s s := fm_rf _ _ s
  have fd00 : FDP 0 (fvT x1 x2 x3 x4 x5) (iI s 0) (iI s 0) s s := fdp_0
  have b1 : (0 : Int) ≤ iI s 0 ∧ iI s 0 ≤ 200 := I.1 0
  refine z_aload_n X (x := A 1) (show cdA 126 0 = some (.aload_n 0, 1, 0, 0, 0) from rfl) (List.Mem.head _) ?_
  refine z_getI X 1 (show cdA 126 1 = some (.getfield 19, 3, 10, 1, 0) from rfl) (by decide) rfl rfl ?_
  have b2 : (0 : Int) ≤ iI s 0 ∧ iI s 0 ≤ 200 := I.1 0
  refine z_bipush X (show cdA 126 4 = some (.bipush 20, 2, 0, 0, 20) from rfl) ?_
  refine z_add X (show cdA 126 6 = some (.iadd, 1, 0, 0, 0) from rfl) ?_
  refine z_sipush X (show cdA 126 7 = some (.sipush 200, 3, 0, 0, 200) from rfl) ?_
  refine z_icmp_le X (t := 15) (show cdA 126 10 = some (.if_icmp .le 5, 3, 5, 0, 0) from rfl) (by decide) ⟨by first | exact oq_0de1c162 b2.1 | omega, by first | exact oq_ed776728 b2.2 | omega⟩ (by decide) (fun g3 => ?_) (fun g3 => ?_)
  ·
    refine z_aload_n X (x := A 1) (show cdA 126 15 = some (.aload_n 0, 1, 0, 0, 0) from rfl) (List.Mem.head _) ?_
    refine z_load_n X (x := x1) (show cdA 126 16 = some (.iload_n 1, 1, 0, 0, 0) from rfl) (List.Mem.tail _ (List.Mem.head _)) ?_
    refine z_callV X 1 (rm := rmN 127) (As := [.int (Int32.ofInt x1)]) (st := []) (show cdA 126 17 = some (.invokevirtual 22, 3, 127, 0, 0) from rfl) rfl (by decide) rfl (by rw [E.1, E.2.1, E.2.2.1]; exact c10_take2 G I (by first | exact ⟨p0.1, p0.2⟩ | omega) (by first | exact oq_07cf5768 g3 | omega)) ⟨by rw [E.2.2.2]; exact (show (rmN 127).frames + 1 ≤ (rmN 126).frames by decide), by rw [E.2.2.2]; exact (show 8 + (mNL (miB 127) + 11) + (rmN 127).locals ≤ (rmN 126).locals by decide), by rw [E.2.2.2]; exact (show 0 + (rmN 127).cells ≤ (rmN 126).cells by decide), by rw [E.2.2.2]; exact (show 0 + (rmN 127).slots ≤ (rmN 126).slots by decide)⟩ (Nat.le_of_ble_eq_true rfl) (fun vv s4 hq => ?_) (fun ee s4 hq => ?_)
    rotate_left
    · obtain ⟨Is4, Fs4, hv, hps4⟩ := hq; cases hv
    obtain ⟨Is4, Fs4, hv, hps4⟩ := hq
    cases hv
    have Gs4 := fm_ts F Fs4 (by decide) (by decide)
    have b6 : (0 : Int) ≤ iI s4 0 ∧ iI s4 0 ≤ 200 := Is4.1 0
    have fds4 : FDP 0 (fvT x1 x2 x3 x4 x5) (iI s 0) (iI s4 0) s s4 := fdp_ts fd00 hps4.2 (by omega) (by omega) (fun i h1 h2 => by show byT x1 (24 - 8 * (i - (iI s 0 - iI s 0))) = _; rw [show iI s 0 - iI s 0 = 0 by omega]; exact fv_0 (by omega) (by omega))
    show WS k 20 [(0, .ref (A 1)), (1, .int (Int32.ofInt x1)), (2, .int (Int32.ofInt x2)), (3, .int (Int32.ofInt x3)), (4, .int (Int32.ofInt x4)), (5, .int (Int32.ofInt x5))] [] (Wd A dT s4) 0 0
    refine z_aload_n X (x := A 1) (show cdA 126 20 = some (.aload_n 0, 1, 0, 0, 0) from rfl) (List.Mem.head _) ?_
    refine z_load_n X (x := x2) (show cdA 126 21 = some (.iload_n 2, 1, 0, 0, 0) from rfl) (List.Mem.tail _ (List.Mem.tail _ (List.Mem.head _))) ?_
    refine z_callV X 1 (rm := rmN 127) (As := [.int (Int32.ofInt x2)]) (st := []) (show cdA 126 22 = some (.invokevirtual 22, 3, 127, 0, 0) from rfl) rfl (by decide) rfl (by rw [E.1, E.2.1, E.2.2.1]; exact c10_take2 G Is4 (by first | exact ⟨p1.1, p1.2⟩ | omega) (by omega)) ⟨by rw [E.2.2.2]; exact (show (rmN 127).frames + 1 ≤ (rmN 126).frames by decide), by rw [E.2.2.2]; exact (show 8 + (mNL (miB 127) + 11) + (rmN 127).locals ≤ (rmN 126).locals by decide), by rw [E.2.2.2]; exact (show 0 + (rmN 127).cells ≤ (rmN 126).cells by decide), by rw [E.2.2.2]; exact (show 0 + (rmN 127).slots ≤ (rmN 126).slots by decide)⟩ (Nat.le_of_ble_eq_true rfl) (fun vv s7 hq => ?_) (fun ee s7 hq => ?_)
    rotate_left
    · obtain ⟨Is7, Fs7, hv, hps7⟩ := hq; cases hv
    obtain ⟨Is7, Fs7, hv, hps7⟩ := hq
    cases hv
    have Gs7 := fm_ts Gs4 Fs7 (by decide) (by decide)
    have b9 : (0 : Int) ≤ iI s7 0 ∧ iI s7 0 ≤ 200 := Is7.1 0
    have fds7 : FDP 0 (fvT x1 x2 x3 x4 x5) (iI s 0) (iI s7 0) s s7 := fdp_ts fds4 hps7.2 (by omega) (by omega) (fun i h1 h2 => by show byT x2 (24 - 8 * (i - (iI s4 0 - iI s 0))) = _; rw [show iI s4 0 - iI s 0 = 4 by omega]; exact fv_1 (by omega) (by omega))
    show WS k 25 [(0, .ref (A 1)), (1, .int (Int32.ofInt x1)), (2, .int (Int32.ofInt x2)), (3, .int (Int32.ofInt x3)), (4, .int (Int32.ofInt x4)), (5, .int (Int32.ofInt x5))] [] (Wd A dT s7) 0 0
    refine z_aload_n X (x := A 1) (show cdA 126 25 = some (.aload_n 0, 1, 0, 0, 0) from rfl) (List.Mem.head _) ?_
    refine z_load_n X (x := x3) (show cdA 126 26 = some (.iload_n 3, 1, 0, 0, 0) from rfl) (List.Mem.tail _ (List.Mem.tail _ (List.Mem.tail _ (List.Mem.head _)))) ?_
    refine z_callV X 1 (rm := rmN 127) (As := [.int (Int32.ofInt x3)]) (st := []) (show cdA 126 27 = some (.invokevirtual 22, 3, 127, 0, 0) from rfl) rfl (by decide) rfl (by rw [E.1, E.2.1, E.2.2.1]; exact c10_take2 G Is7 (by first | exact ⟨p2.1, p2.2⟩ | omega) (by omega)) ⟨by rw [E.2.2.2]; exact (show (rmN 127).frames + 1 ≤ (rmN 126).frames by decide), by rw [E.2.2.2]; exact (show 8 + (mNL (miB 127) + 11) + (rmN 127).locals ≤ (rmN 126).locals by decide), by rw [E.2.2.2]; exact (show 0 + (rmN 127).cells ≤ (rmN 126).cells by decide), by rw [E.2.2.2]; exact (show 0 + (rmN 127).slots ≤ (rmN 126).slots by decide)⟩ (Nat.le_of_ble_eq_true rfl) (fun vv s10 hq => ?_) (fun ee s10 hq => ?_)
    rotate_left
    · obtain ⟨Is10, Fs10, hv, hps10⟩ := hq; cases hv
    obtain ⟨Is10, Fs10, hv, hps10⟩ := hq
    cases hv
    have Gs10 := fm_ts Gs7 Fs10 (by decide) (by decide)
    have b12 : (0 : Int) ≤ iI s10 0 ∧ iI s10 0 ≤ 200 := Is10.1 0
    have fds10 : FDP 0 (fvT x1 x2 x3 x4 x5) (iI s 0) (iI s10 0) s s10 := fdp_ts fds7 hps10.2 (by omega) (by omega) (fun i h1 h2 => by show byT x3 (24 - 8 * (i - (iI s7 0 - iI s 0))) = _; rw [show iI s7 0 - iI s 0 = 8 by omega]; exact fv_2 (by omega) (by omega))
    show WS k 30 [(0, .ref (A 1)), (1, .int (Int32.ofInt x1)), (2, .int (Int32.ofInt x2)), (3, .int (Int32.ofInt x3)), (4, .int (Int32.ofInt x4)), (5, .int (Int32.ofInt x5))] [] (Wd A dT s10) 0 0
    refine z_aload_n X (x := A 1) (show cdA 126 30 = some (.aload_n 0, 1, 0, 0, 0) from rfl) (List.Mem.head _) ?_
    refine z_load X (x := x4) (show cdA 126 31 = some (.iload 4, 2, 0, 0, 0) from rfl) (List.Mem.tail _ (List.Mem.tail _ (List.Mem.tail _ (List.Mem.tail _ (List.Mem.head _))))) ?_
    refine z_callV X 1 (rm := rmN 127) (As := [.int (Int32.ofInt x4)]) (st := []) (show cdA 126 33 = some (.invokevirtual 22, 3, 127, 0, 0) from rfl) rfl (by decide) rfl (by rw [E.1, E.2.1, E.2.2.1]; exact c10_take2 G Is10 (by first | exact ⟨p3.1, p3.2⟩ | omega) (by omega)) ⟨by rw [E.2.2.2]; exact (show (rmN 127).frames + 1 ≤ (rmN 126).frames by decide), by rw [E.2.2.2]; exact (show 8 + (mNL (miB 127) + 11) + (rmN 127).locals ≤ (rmN 126).locals by decide), by rw [E.2.2.2]; exact (show 0 + (rmN 127).cells ≤ (rmN 126).cells by decide), by rw [E.2.2.2]; exact (show 0 + (rmN 127).slots ≤ (rmN 126).slots by decide)⟩ (Nat.le_of_ble_eq_true rfl) (fun vv s13 hq => ?_) (fun ee s13 hq => ?_)
    rotate_left
    · obtain ⟨Is13, Fs13, hv, hps13⟩ := hq; cases hv
    obtain ⟨Is13, Fs13, hv, hps13⟩ := hq
    cases hv
    have Gs13 := fm_ts Gs10 Fs13 (by decide) (by decide)
    have b15 : (0 : Int) ≤ iI s13 0 ∧ iI s13 0 ≤ 200 := Is13.1 0
    have fds13 : FDP 0 (fvT x1 x2 x3 x4 x5) (iI s 0) (iI s13 0) s s13 := fdp_ts fds10 hps13.2 (by omega) (by omega) (fun i h1 h2 => by show byT x4 (24 - 8 * (i - (iI s10 0 - iI s 0))) = _; rw [show iI s10 0 - iI s 0 = 12 by omega]; exact fv_3 (by omega) (by omega))
    show WS k 36 [(0, .ref (A 1)), (1, .int (Int32.ofInt x1)), (2, .int (Int32.ofInt x2)), (3, .int (Int32.ofInt x3)), (4, .int (Int32.ofInt x4)), (5, .int (Int32.ofInt x5))] [] (Wd A dT s13) 0 0
    refine z_aload_n X (x := A 1) (show cdA 126 36 = some (.aload_n 0, 1, 0, 0, 0) from rfl) (List.Mem.head _) ?_
    refine z_load X (x := x5) (show cdA 126 37 = some (.iload 5, 2, 0, 0, 0) from rfl) (List.Mem.tail _ (List.Mem.tail _ (List.Mem.tail _ (List.Mem.tail _ (List.Mem.tail _ (List.Mem.head _)))))) ?_
    refine z_callV X 1 (rm := rmN 127) (As := [.int (Int32.ofInt x5)]) (st := []) (show cdA 126 39 = some (.invokevirtual 22, 3, 127, 0, 0) from rfl) rfl (by decide) rfl (by rw [E.1, E.2.1, E.2.2.1]; exact c10_take2 G Is13 (by first | exact ⟨p4.1, p4.2⟩ | omega) (by omega)) ⟨by rw [E.2.2.2]; exact (show (rmN 127).frames + 1 ≤ (rmN 126).frames by decide), by rw [E.2.2.2]; exact (show 8 + (mNL (miB 127) + 11) + (rmN 127).locals ≤ (rmN 126).locals by decide), by rw [E.2.2.2]; exact (show 0 + (rmN 127).cells ≤ (rmN 126).cells by decide), by rw [E.2.2.2]; exact (show 0 + (rmN 127).slots ≤ (rmN 126).slots by decide)⟩ (Nat.le_of_ble_eq_true rfl) (fun vv s16 hq => ?_) (fun ee s16 hq => ?_)
    rotate_left
    · obtain ⟨Is16, Fs16, hv, hps16⟩ := hq; cases hv
    obtain ⟨Is16, Fs16, hv, hps16⟩ := hq
    cases hv
    have Gs16 := fm_ts Gs13 Fs16 (by decide) (by decide)
    have b18 : (0 : Int) ≤ iI s16 0 ∧ iI s16 0 ≤ 200 := Is16.1 0
    have fds16 : FDP 0 (fvT x1 x2 x3 x4 x5) (iI s 0) (iI s16 0) s s16 := fdp_ts fds13 hps16.2 (by omega) (by omega) (fun i h1 h2 => by show byT x5 (24 - 8 * (i - (iI s13 0 - iI s 0))) = _; rw [show iI s13 0 - iI s 0 = 16 by omega]; exact fv_4 (by omega) (by omega))
    show WS k 42 [(0, .ref (A 1)), (1, .int (Int32.ofInt x1)), (2, .int (Int32.ofInt x2)), (3, .int (Int32.ofInt x3)), (4, .int (Int32.ofInt x4)), (5, .int (Int32.ofInt x5))] [] (Wd A dT s16) 0 0
    refine z_aload_n X (x := A 1) (show cdA 126 42 = some (.aload_n 0, 1, 0, 0, 0) from rfl) (List.Mem.head _) ?_
    refine z_getI X 1 (show cdA 126 43 = some (.getfield 19, 3, 10, 1, 0) from rfl) (by decide) rfl rfl ?_
    have b19 : (0 : Int) ≤ iI s16 0 ∧ iI s16 0 ≤ 200 := Is16.1 0
    exact w_iret X.1 q hRt rfl (ax_d X (show cdA 126 46 = some (.ireturn, 1, 0, 0, 0) from rfl)) (Nat.zero_le _) (Nat.zero_le _) ⟨_, rfl, Is16, Gs16, (iI s16 0), rfl, (rng_to _), Or.inl ⟨by first | exact oq_f65ea7aa g3 | omega, by omega, by omega, fds16⟩⟩
  ·
    refine z_const X (show cdA 126 13 = some (.iconst (-1), 1, 0, 0, 0) from rfl) ?_
    exact w_iret X.1 q hRt rfl (ax_d X (show cdA 126 14 = some (.ireturn, 1, 0, 0, 0) from rfl)) (Nat.zero_le _) (Nat.zero_le _) ⟨_, rfl, I, F, (-1), rfl, (by decide), Or.inr ⟨by first | exact oq_4a84d32d g3 | omega, by omega, by decide, sam_rf⟩⟩
set_option maxRecDepth 4000 in
theorem cs_feed2 (G : GX l s0 D tys a0 dT) (I : Bd s) {x1 x2 x3 x4 x5 : Int} (p0 : rng x1) (p1 : rng x2) (p2 : rng x3) (p3 : rng x4) (p4 : rng x5) : CT l s0 D A dT 135 (rmN 135) [.ref (A 0), .int (Int32.ofInt x1), .int (Int32.ofInt x2), .int (Int32.ofInt x3), .int (Int32.ofInt x4), .int (Int32.ofInt x5)] s (fun o t => Bd t ∧ Fm [0] [0] s t ∧ ∃ e, o = .inl (some (.int (Int32.ofInt e))) ∧ rng e ∧ ((iI s 0 ≤ 180 ∧ iI t 0 = iI s 0 + 20 ∧ e = iI t 0 ∧ FDP 0 (fvT x1 x2 x3 x4 x5) (iI s 0) (iI t 0) s t) ∨ (180 < iI s 0 ∧ iI t 0 = iI s 0 ∧ e = -1 ∧ SAM 0 s t))) := by
  refine ct_ofX G (by decide) (Nat.le_of_ble_eq_true rfl) (fun k X E ET hRt hXt q => ?_)
  show WS k 0 [(0, .ref (A 0)), (1, .int (Int32.ofInt x1)), (2, .int (Int32.ofInt x2)), (3, .int (Int32.ofInt x3)), (4, .int (Int32.ofInt x4)), (5, .int (Int32.ofInt x5))] [] _ 0 0
  have F : Fm [0] [0] s s := fm_rf _ _ s
  have b1 : (0 : Int) ≤ iI s 0 ∧ iI s 0 ≤ 200 := I.1 0
  refine z_aload_n X (x := A 0) (show cdA 135 0 = some (.aload_n 0, 1, 0, 0, 0) from rfl) (List.Mem.head _) ?_
  refine s_getR X 0 (show cdA 135 1 = some (.getfield 10, 3, 11, 0, 0) from rfl) (by decide) rfl rfl ?_
  refine z_load_n X (x := x1) (show cdA 135 4 = some (.iload_n 1, 1, 0, 0, 0) from rfl) (List.Mem.tail _ (List.Mem.head _)) ?_
  refine z_load_n X (x := x2) (show cdA 135 5 = some (.iload_n 2, 1, 0, 0, 0) from rfl) (List.Mem.tail _ (List.Mem.tail _ (List.Mem.head _))) ?_
  refine z_load_n X (x := x3) (show cdA 135 6 = some (.iload_n 3, 1, 0, 0, 0) from rfl) (List.Mem.tail _ (List.Mem.tail _ (List.Mem.tail _ (List.Mem.head _)))) ?_
  refine z_load X (x := x4) (show cdA 135 7 = some (.iload 4, 2, 0, 0, 0) from rfl) (List.Mem.tail _ (List.Mem.tail _ (List.Mem.tail _ (List.Mem.tail _ (List.Mem.head _))))) ?_
  refine z_load X (x := x5) (show cdA 135 9 = some (.iload 5, 2, 0, 0, 0) from rfl) (List.Mem.tail _ (List.Mem.tail _ (List.Mem.tail _ (List.Mem.tail _ (List.Mem.tail _ (List.Mem.head _)))))) ?_
  refine z_callV X 1 (rm := rmN 126) (As := [.int (Int32.ofInt x1), .int (Int32.ofInt x2), .int (Int32.ofInt x3), .int (Int32.ofInt x4), .int (Int32.ofInt x5)]) (st := []) (show cdA 135 11 = some (.invokevirtual 100, 3, 126, 0, 0) from rfl) rfl (by decide) rfl (by rw [E.1, E.2.1, E.2.2.1]; exact c10_takeAll2 G I (by first | exact ⟨p0.1, p0.2⟩ | omega) (by first | exact ⟨p1.1, p1.2⟩ | omega) (by first | exact ⟨p2.1, p2.2⟩ | omega) (by first | exact ⟨p3.1, p3.2⟩ | omega) (by first | exact ⟨p4.1, p4.2⟩ | omega)) ⟨by rw [E.2.2.2]; exact (show (rmN 126).frames + 1 ≤ (rmN 135).frames by decide), by rw [E.2.2.2]; exact (show 8 + (mNL (miB 126) + 11) + (rmN 126).locals ≤ (rmN 135).locals by decide), by rw [E.2.2.2]; exact (show 0 + (rmN 126).cells ≤ (rmN 135).cells by decide), by rw [E.2.2.2]; exact (show 0 + (rmN 126).slots ≤ (rmN 135).slots by decide)⟩ (Nat.le_of_ble_eq_true rfl) (fun vv s2 hq => ?_) (fun ee s2 hq => ?_)
  rotate_left
  · obtain ⟨Is2, Fs2, e3, hv, hrs2, hps2⟩ := hq; cases hv
  obtain ⟨Is2, Fs2, e3, hv, hrs2, hps2⟩ := hq
  cases hv
  have Gs2 := fm_ts F Fs2 (by decide) (by decide)
  have b4 : (0 : Int) ≤ iI s2 0 ∧ iI s2 0 ≤ 200 := Is2.1 0
  show WS k 14 [(0, .ref (A 0)), (1, .int (Int32.ofInt x1)), (2, .int (Int32.ofInt x2)), (3, .int (Int32.ofInt x3)), (4, .int (Int32.ofInt x4)), (5, .int (Int32.ofInt x5))] [.int (Int32.ofInt e3)] (Wd A dT s2) 0 0
  exact w_iret X.1 q hRt rfl (ax_d X (show cdA 135 14 = some (.ireturn, 1, 0, 0, 0) from rfl)) (Nat.zero_le _) (Nat.zero_le _) ⟨_, rfl, Is2, Gs2, e3, rfl, hrs2, hps2⟩
set_option maxRecDepth 4000 in
theorem k_feed2 (G : GX l s0 D tys a0 dT) (I : Bd s) {x1 x2 x3 x4 x5 : Int} (p0 : rng x1) (p1 : rng x2) (p2 : rng x3) (p3 : rng x4) (p4 : rng x5) : CT l s0 D A dT 191 (rmN 191) [.ref (A 179), .int (Int32.ofInt x1), .int (Int32.ofInt x2), .int (Int32.ofInt x3), .int (Int32.ofInt x4), .int (Int32.ofInt x5)] s (fun o t => Bd t ∧ Fm [73, 74] [157] s t ∧ ∃ e, o = .inl (some (.int (Int32.ofInt e))) ∧ rng e ∧ ((iI s 74 ≤ 180 ∧ iI t 74 = iI s 74 + 20 ∧ e = iI t 74 ∧ FDP 157 (fvT x1 x2 x3 x4 x5) (iI s 74) (iI t 74) s t) ∨ (180 < iI s 74 ∧ iI t 74 = iI s 74 ∧ e = -1 ∧ SAM 157 s t))) := by
  refine ct_of G (by decide) (Nat.le_of_ble_eq_true rfl) (fun k X E hRt hXt q => ?_)
  show WS k 0 [(0, .ref (A 179)), (1, .int (Int32.ofInt x1)), (2, .int (Int32.ofInt x2)), (3, .int (Int32.ofInt x3)), (4, .int (Int32.ofInt x4)), (5, .int (Int32.ofInt x5))] [] _ 0 0
  have F : Fm [73, 74] [157] s s := fm_rf _ _ s
  have aw0_157 : SAM 157 s s := sam_rf
  have b1 : (0 : Int) ≤ iI s 74 ∧ iI s 74 ≤ 200 := I.1 74
  have L23 : ∀ (n : Nat) (t : PS) (x1v x2v x3v x4v x5v c : Int), Bd t → Fm [73, 74] [157] s t → (FDP 157 (fvT x1 x2 x3 x4 x5) (iI s 74) (iI t 74) s t) → ((x1v = x1 ∧ x2v = x2 ∧ x3v = x3 ∧ x4v = x4 ∧ x5v = x5) ∧ 0 ≤ c ∧ c ≤ 20 ∧ iI t 74 = iI s 74 + c ∧ iI s 74 ≤ 180) → (20 - c : Int).toNat < n → (∀ (t' : PS) (c' : Int), Bd t' → Fm [73, 74] [157] s t' → (FDP 157 (fvT x1 x2 x3 x4 x5) (iI s 74) (iI t' 74) s t') → (iI t' 74 = iI s 74 + 20 ∧ iI s 74 ≤ 180) → WS k 120 [(0, .ref (A 179)), (1, .int (Int32.ofInt x1v)), (2, .int (Int32.ofInt x2v)), (3, .int (Int32.ofInt x3v)), (4, .int (Int32.ofInt x4v)), (5, .int (Int32.ofInt x5v)), (6, .int (Int32.ofInt c'))] [] (Wd A dT t') 0 0) → WS k 23 [(0, .ref (A 179)), (1, .int (Int32.ofInt x1v)), (2, .int (Int32.ofInt x2v)), (3, .int (Int32.ofInt x3v)), (4, .int (Int32.ofInt x4v)), (5, .int (Int32.ofInt x5v)), (6, .int (Int32.ofInt c))] [] (Wd A dT t) 0 0 := by
    intro n
    induction n with
    | zero =>
      intro t x1v x2v x3v x4v x5v c I F hq hi hm kx
      exact absurd hm (Nat.not_lt_zero _)
    | succ n ih =>
      intro t x1v x2v x3v x4v x5v c I F hq hi hm kx
      have b1001 : (0 : Int) ≤ iI t 74 ∧ iI t 74 ≤ 200 := I.1 74
      refine z_load X (x := c) (show cdA 191 23 = some (.iload 6, 2, 0, 0, 0) from rfl) (List.Mem.tail _ (List.Mem.tail _ (List.Mem.tail _ (List.Mem.tail _ (List.Mem.tail _ (List.Mem.tail _ (List.Mem.head _))))))) ?_
      refine z_bipush X (show cdA 191 25 = some (.bipush 20, 2, 0, 0, 20) from rfl) ?_
      refine z_icmp_ge X (t := 120) (show cdA 191 27 = some (.if_icmp .ge 93, 3, 3, 0, 0) from rfl) (by decide) ⟨by first | exact oq_fa4e5087 hi.2.1 | omega, by first | exact oq_d1028203 hi.2.2.1 | omega⟩ (by decide) (fun g1002 => ?_) (fun g1002 => ?_)
      ·
        refine WS_lv (lv := [(0, .ref (A 179)), (1, .int (Int32.ofInt x1v)), (2, .int (Int32.ofInt x2v)), (3, .int (Int32.ofInt x3v)), (4, .int (Int32.ofInt x4v)), (5, .int (Int32.ofInt x5v)), (6, .int (Int32.ofInt c))]) (List.forall_mem_cons.mpr ⟨(List.Mem.head _), (List.forall_mem_cons.mpr ⟨(List.Mem.tail _ (List.Mem.head _)), (List.forall_mem_cons.mpr ⟨(List.Mem.tail _ (List.Mem.tail _ (List.Mem.head _))), (List.forall_mem_cons.mpr ⟨(List.Mem.tail _ (List.Mem.tail _ (List.Mem.tail _ (List.Mem.head _)))), (List.forall_mem_cons.mpr ⟨(List.Mem.tail _ (List.Mem.tail _ (List.Mem.tail _ (List.Mem.tail _ (List.Mem.head _))))), (List.forall_mem_cons.mpr ⟨(List.Mem.tail _ (List.Mem.tail _ (List.Mem.tail _ (List.Mem.tail _ (List.Mem.tail _ (List.Mem.head _)))))), (List.forall_mem_cons.mpr ⟨(List.Mem.tail _ (List.Mem.tail _ (List.Mem.tail _ (List.Mem.tail _ (List.Mem.tail _ (List.Mem.tail _ (List.Mem.head _))))))), (fun q h => absurd h List.not_mem_nil)⟩)⟩)⟩)⟩)⟩)⟩)⟩) ?_
        exact kx _ c I F hq (by first | exact ⟨oq_17475ac8 hi.2.2.2.1 hi.2.2.1 g1002, hi.2.2.2.2⟩ | omega)
      ·
        refine z_load X (x := c) (show cdA 191 30 = some (.iload 6, 2, 0, 0, 0) from rfl) (List.Mem.tail _ (List.Mem.tail _ (List.Mem.tail _ (List.Mem.tail _ (List.Mem.tail _ (List.Mem.tail _ (List.Mem.head _))))))) ?_
        refine z_const X (show cdA 191 32 = some (.iconst 4, 1, 0, 0, 0) from rfl) ?_
        have N1003 : ∀ e1004 : Int, (((4 ≤ c) ∧ (8 ≤ c) ∧ (12 ≤ c) ∧ (16 ≤ c) ∧ e1004 = x5v) ∨ ((4 ≤ c) ∧ (8 ≤ c) ∧ (12 ≤ c) ∧ (c < 16) ∧ e1004 = x4v) ∨ ((4 ≤ c) ∧ (8 ≤ c) ∧ (c < 12) ∧ e1004 = x3v) ∨ ((4 ≤ c) ∧ (c < 8) ∧ e1004 = x2v) ∨ ((c < 4) ∧ e1004 = x1v)) → WS k 76 [(0, .ref (A 179)), (1, .int (Int32.ofInt x1v)), (2, .int (Int32.ofInt x2v)), (3, .int (Int32.ofInt x3v)), (4, .int (Int32.ofInt x4v)), (5, .int (Int32.ofInt x5v)), (6, .int (Int32.ofInt c))] [.int (Int32.ofInt e1004)] (Wd A dT t) 0 0 := by
          intro e1004 he1004
          refine z_store X (lv' := [(7, .int (Int32.ofInt e1004)), (0, .ref (A 179)), (1, .int (Int32.ofInt x1v)), (2, .int (Int32.ofInt x2v)), (3, .int (Int32.ofInt x3v)), (4, .int (Int32.ofInt x4v)), (5, .int (Int32.ofInt x5v)), (6, .int (Int32.ofInt c))]) (show cdA 191 76 = some (.istore 7, 2, 0, 0, 0) from rfl) (by decide) (fun _ h => h) ?_
          refine z_aload_n X (x := A 179) (show cdA 191 78 = some (.aload_n 0, 1, 0, 0, 0) from rfl) (List.Mem.tail _ (List.Mem.head _)) ?_
          refine s_getR X 179 (show cdA 191 79 = some (.getfield 13, 3, 12, 9, 0) from rfl) (by decide) rfl rfl ?_
          refine z_aload_n X (x := A 179) (show cdA 191 82 = some (.aload_n 0, 1, 0, 0, 0) from rfl) (List.Mem.tail _ (List.Mem.head _)) ?_
          refine z_getI X 179 (show cdA 191 83 = some (.getfield 175, 3, 12, 1, 0) from rfl) (by decide) rfl rfl ?_
          have b1005 : (0 : Int) ≤ iI t 74 ∧ iI t 74 ≤ 200 := I.1 74
          refine z_load X (x := e1004) (show cdA 191 86 = some (.iload 7, 2, 0, 0, 0) from rfl) (List.Mem.head _) ?_
          refine z_bipush X (show cdA 191 88 = some (.bipush 24, 2, 0, 0, 24) from rfl) ?_
          refine z_bipush X (show cdA 191 90 = some (.bipush 8, 2, 0, 0, 8) from rfl) ?_
          refine z_load X (x := c) (show cdA 191 92 = some (.iload 6, 2, 0, 0, 0) from rfl) (List.Mem.tail _ (List.Mem.tail _ (List.Mem.tail _ (List.Mem.tail _ (List.Mem.tail _ (List.Mem.tail _ (List.Mem.tail _ (List.Mem.head _)))))))) ?_
          refine z_const X (show cdA 191 94 = some (.iconst 4, 1, 0, 0, 0) from rfl) ?_
          refine z_mod X (show cdA 191 95 = some (.irem, 1, 0, 0, 0) from rfl) (by first | exact hi.2.1 | omega) ⟨by first | exact oq_fa4e5087 hi.2.1 | omega, by first | exact oq_c3313697 g1002 | omega⟩ (by decide) (by decide) ?_
          refine z_mul X (show cdA 191 96 = some (.imul, 1, 0, 0, 0) from rfl) ?_
          refine z_sub X (show cdA 191 97 = some (.isub, 1, 0, 0, 0) from rfl) ?_
          have hsel : e1004 = selT x1 x2 x3 x4 x5 c := by unfold selT; repeat' split; all_goals omega
          refine z_byS X (by omega) (show cdA 191 98 = some (.ishr, 1, 0, 0, 0) from rfl) (show cdA 191 99 = some (.sipush 255, 3, 0, 0, 255) from rfl) (show cdA 191 102 = some (.iand, 1, 0, 0, 0) from rfl) (fun e1006 he1006 ie1006 je1006 => ?_)
          show WS k 103 [(7, .int (Int32.ofInt e1004)), (0, .ref (A 179)), (1, .int (Int32.ofInt x1v)), (2, .int (Int32.ofInt x2v)), (3, .int (Int32.ofInt x3v)), (4, .int (Int32.ofInt x4v)), (5, .int (Int32.ofInt x5v)), (6, .int (Int32.ofInt c))] [.int (Int32.ofInt e1006), .int (Int32.ofInt (iI t 74)), .ref (A 180)] (Wd A dT t) 0 0
          refine z_ast X 180 (show cdA 191 103 = some (.iastore, 1, 0, 0, 0) from rfl) (by decide) rfl (by first | exact b1005.1 | omega) (show (iI t 74) < 200 by first | exact oq_ae322fb4 hi.2.2.2.1 hi.2.2.2.2 g1002 | omega) (by decide) ?_
          obtain ⟨s1007, hs1007⟩ : ∃ x0, x0 = uC t 157 ((iI t 74)).toNat (Int32.ofInt e1006) := ⟨_, rfl⟩
          rw [← hs1007]
          have Is1007 : Bd s1007 := by rw [hs1007]; exact bd_C I (show (0 : Int) ≤ e1006 ∧ e1006 ≤ 255 by omega) ⟨by omega, by omega⟩
          have Fs1007 := fm_C (i := ((iI t 74)).toNat) (x := Int32.ofInt e1006) F (show 157 ∈ _ by decide)
          rw [← hs1007] at Fs1007
          have ws1007_74 : iI s1007 74 = iI t 74 := by rw [hs1007]; rfl
          refine z_aload_n X (x := A 179) (show cdA 191 104 = some (.aload_n 0, 1, 0, 0, 0) from rfl) (List.Mem.tail _ (List.Mem.head _)) ?_
          refine w_dup X.1 (ax_d X (show cdA 191 105 = some (.dup, 1, 0, 0, 0) from rfl)) rfl ?_
          refine z_getI X 179 (show cdA 191 106 = some (.getfield 175, 3, 12, 1, 0) from rfl) (by decide) rfl rfl ?_
          have b1008 : (0 : Int) ≤ iI s1007 74 ∧ iI s1007 74 ≤ 200 := Is1007.1 74
          refine z_const X (show cdA 191 109 = some (.iconst 1, 1, 0, 0, 0) from rfl) ?_
          refine z_add X (show cdA 191 110 = some (.iadd, 1, 0, 0, 0) from rfl) ?_
          refine s_putI X 179 (show cdA 191 111 = some (.putfield 175, 3, 12, 1, 0) from rfl) (by decide) rfl rfl (by decide) rfl rfl rfl ?_
          obtain ⟨s1009, hs1009⟩ : ∃ x0, x0 = uI s1007 74 (Int32.ofInt ((iI s1007 74) + 1)) := ⟨_, rfl⟩
          rw [← hs1009]
          have Is1009 : Bd s1009 := by rw [hs1009]; exact bd_I Is1007 (show (0 : Int) ≤ ((iI s1007 74) + 1) ∧ ((iI s1007 74) + 1) ≤ 200 by first | exact ⟨oq_54f49eb5 b1008.1, oq_e59c0308 ws1007_74 hi.2.2.2.1 hi.2.2.2.2 g1002⟩ | omega) ⟨by first | exact oq_74de1e16 b1008.1 | omega, by first | exact oq_bb8d498d b1008.2 | omega⟩
          have Fs1009 := fm_I (x := Int32.ofInt ((iI s1007 74) + 1)) Fs1007 (show 74 ∈ _ by decide)
          rw [← hs1009] at Fs1009
          have vs1009 : iI s1009 74 = ((iI s1007 74) + 1) := by rw [hs1009]; exact iI_u ⟨by first | exact oq_74de1e16 b1008.1 | omega, by first | exact oq_bb8d498d b1008.2 | omega⟩
          refine z_inc X (x := c) (lv' := [(6, .int (Int32.ofInt (c + 1))), (7, .int (Int32.ofInt e1004)), (0, .ref (A 179)), (1, .int (Int32.ofInt x1v)), (2, .int (Int32.ofInt x2v)), (3, .int (Int32.ofInt x3v)), (4, .int (Int32.ofInt x4v)), (5, .int (Int32.ofInt x5v))]) (show cdA 191 114 = some (.iinc 6 1, 3, 0, 0, 0) from rfl) (by decide) (List.Mem.tail _ (List.Mem.tail _ (List.Mem.tail _ (List.Mem.tail _ (List.Mem.tail _ (List.Mem.tail _ (List.Mem.tail _ (List.Mem.head _)))))))) (fun _ h => h) ?_
          refine z_goto X (t := 23) (show cdA 191 117 = some (.goto (-94), 3, 0, 0, 0) from rfl) (by decide) ?_
          refine WS_lv (lv := [(0, .ref (A 179)), (1, .int (Int32.ofInt x1v)), (2, .int (Int32.ofInt x2v)), (3, .int (Int32.ofInt x3v)), (4, .int (Int32.ofInt x4v)), (5, .int (Int32.ofInt x5v)), (6, .int (Int32.ofInt (c + 1)))]) (List.forall_mem_cons.mpr ⟨(List.Mem.tail _ (List.Mem.tail _ (List.Mem.head _))), (List.forall_mem_cons.mpr ⟨(List.Mem.tail _ (List.Mem.tail _ (List.Mem.tail _ (List.Mem.head _)))), (List.forall_mem_cons.mpr ⟨(List.Mem.tail _ (List.Mem.tail _ (List.Mem.tail _ (List.Mem.tail _ (List.Mem.head _))))), (List.forall_mem_cons.mpr ⟨(List.Mem.tail _ (List.Mem.tail _ (List.Mem.tail _ (List.Mem.tail _ (List.Mem.tail _ (List.Mem.head _)))))), (List.forall_mem_cons.mpr ⟨(List.Mem.tail _ (List.Mem.tail _ (List.Mem.tail _ (List.Mem.tail _ (List.Mem.tail _ (List.Mem.tail _ (List.Mem.head _))))))), (List.forall_mem_cons.mpr ⟨(List.Mem.tail _ (List.Mem.tail _ (List.Mem.tail _ (List.Mem.tail _ (List.Mem.tail _ (List.Mem.tail _ (List.Mem.tail _ (List.Mem.head _)))))))), (List.forall_mem_cons.mpr ⟨(List.Mem.head _), (fun q h => absurd h List.not_mem_nil)⟩)⟩)⟩)⟩)⟩)⟩)⟩) ?_
          exact ih _ x1v x2v x3v x4v x5v (c + 1) Is1009 Fs1009 (fdp_eq (fdp_sam (t := s1007) (by rw [hs1007]; exact fdp_up hq (by omega) (by omega) ⟨by omega, by omega⟩ (by rw [he1006]; show byT e1004 (24 - (8 * (c % 4))) = byT (selT x1 x2 x3 x4 x5 (iI t 74 - iI s 74)) (24 - 8 * ((iI t 74 - iI s 74) % 4)); rw [show iI t 74 - iI s 74 = c by omega, ← hsel])) (by rw [hs1009]; exact sam_rf)) rfl (by omega)) (by first | exact ⟨And.intro (hi.1.1) (And.intro (hi.1.2.1) (And.intro (hi.1.2.2.1) (And.intro (hi.1.2.2.2.1) (hi.1.2.2.2.2)))), oq_54f49eb5 hi.2.1, oq_34835694 g1002, oq_cb7deedc vs1009 hi.2.2.2.1 ws1007_74, hi.2.2.2.2⟩ | omega) (by first | exact qk_me hm (by decide) (oq_53ce64b9 g1002) | omega) kx
        refine z_icmp_ge X (t := 40) (show cdA 191 33 = some (.if_icmp .ge 7, 3, 3, 0, 0) from rfl) (by decide) ⟨by first | exact oq_fa4e5087 hi.2.1 | omega, by first | exact oq_c3313697 g1002 | omega⟩ (by decide) (fun g1010 => ?_) (fun g1010 => ?_)
        ·
          refine z_load X (x := c) (show cdA 191 40 = some (.iload 6, 2, 0, 0, 0) from rfl) (List.Mem.tail _ (List.Mem.tail _ (List.Mem.tail _ (List.Mem.tail _ (List.Mem.tail _ (List.Mem.tail _ (List.Mem.head _))))))) ?_
          refine z_bipush X (show cdA 191 42 = some (.bipush 8, 2, 0, 0, 8) from rfl) ?_
          refine z_icmp_ge X (t := 51) (show cdA 191 44 = some (.if_icmp .ge 7, 3, 3, 0, 0) from rfl) (by decide) ⟨by first | exact oq_866185f5 g1010 | omega, by first | exact oq_c3313697 g1002 | omega⟩ (by decide) (fun g1011 => ?_) (fun g1011 => ?_)
          ·
            refine z_load X (x := c) (show cdA 191 51 = some (.iload 6, 2, 0, 0, 0) from rfl) (List.Mem.tail _ (List.Mem.tail _ (List.Mem.tail _ (List.Mem.tail _ (List.Mem.tail _ (List.Mem.tail _ (List.Mem.head _))))))) ?_
            refine z_bipush X (show cdA 191 53 = some (.bipush 12, 2, 0, 0, 12) from rfl) ?_
            refine z_icmp_ge X (t := 62) (show cdA 191 55 = some (.if_icmp .ge 7, 3, 3, 0, 0) from rfl) (by decide) ⟨by first | exact oq_ebc40354 g1011 | omega, by first | exact oq_c3313697 g1002 | omega⟩ (by decide) (fun g1012 => ?_) (fun g1012 => ?_)
            ·
              refine z_load X (x := c) (show cdA 191 62 = some (.iload 6, 2, 0, 0, 0) from rfl) (List.Mem.tail _ (List.Mem.tail _ (List.Mem.tail _ (List.Mem.tail _ (List.Mem.tail _ (List.Mem.tail _ (List.Mem.head _))))))) ?_
              refine z_bipush X (show cdA 191 64 = some (.bipush 16, 2, 0, 0, 16) from rfl) ?_
              refine z_icmp_ge X (t := 74) (show cdA 191 66 = some (.if_icmp .ge 8, 3, 3, 0, 0) from rfl) (by decide) ⟨by first | exact oq_f1d511b8 g1012 | omega, by first | exact oq_c3313697 g1002 | omega⟩ (by decide) (fun g1013 => ?_) (fun g1013 => ?_)
              ·
                refine z_load X (x := x5v) (show cdA 191 74 = some (.iload 5, 2, 0, 0, 0) from rfl) (List.Mem.tail _ (List.Mem.tail _ (List.Mem.tail _ (List.Mem.tail _ (List.Mem.tail _ (List.Mem.head _)))))) ?_
                exact N1003 _ (Or.inl ⟨g1010, g1011, g1012, g1013, rfl⟩)
              ·
                refine z_load X (x := x4v) (show cdA 191 69 = some (.iload 4, 2, 0, 0, 0) from rfl) (List.Mem.tail _ (List.Mem.tail _ (List.Mem.tail _ (List.Mem.tail _ (List.Mem.head _))))) ?_
                refine z_goto X (t := 76) (show cdA 191 71 = some (.goto 5, 3, 0, 0, 0) from rfl) (by decide) ?_
                exact N1003 _ (Or.inr (Or.inl ⟨g1010, g1011, g1012, g1013, rfl⟩))
            ·
              refine z_load_n X (x := x3v) (show cdA 191 58 = some (.iload_n 3, 1, 0, 0, 0) from rfl) (List.Mem.tail _ (List.Mem.tail _ (List.Mem.tail _ (List.Mem.head _)))) ?_
              refine z_goto X (t := 76) (show cdA 191 59 = some (.goto 17, 3, 0, 0, 0) from rfl) (by decide) ?_
              exact N1003 _ (Or.inr (Or.inr (Or.inl ⟨g1010, g1011, g1012, rfl⟩)))
          ·
            refine z_load_n X (x := x2v) (show cdA 191 47 = some (.iload_n 2, 1, 0, 0, 0) from rfl) (List.Mem.tail _ (List.Mem.tail _ (List.Mem.head _))) ?_
            refine z_goto X (t := 76) (show cdA 191 48 = some (.goto 28, 3, 0, 0, 0) from rfl) (by decide) ?_
            exact N1003 _ (Or.inr (Or.inr (Or.inr (Or.inl ⟨g1010, g1011, rfl⟩))))
        ·
          refine z_load_n X (x := x1v) (show cdA 191 36 = some (.iload_n 1, 1, 0, 0, 0) from rfl) (List.Mem.tail _ (List.Mem.head _)) ?_
          refine z_goto X (t := 76) (show cdA 191 37 = some (.goto 39, 3, 0, 0, 0) from rfl) (by decide) ?_
          exact N1003 _ (Or.inr (Or.inr (Or.inr (Or.inr (⟨g1010, rfl⟩)))))
  refine z_aload_n X (x := A 179) (show cdA 191 0 = some (.aload_n 0, 1, 0, 0, 0) from rfl) (List.Mem.head _) ?_
  refine z_const X (show cdA 191 1 = some (.iconst 0, 1, 0, 0, 0) from rfl) ?_
  refine s_putI X 179 (show cdA 191 2 = some (.putfield 172, 3, 12, 0, 0) from rfl) (by decide) rfl rfl (by decide) rfl rfl rfl ?_
  obtain ⟨s2, hs2⟩ : ∃ x0, x0 = uI s 73 (Int32.ofInt 0) := ⟨_, rfl⟩
  rw [← hs2]
  have Is2 : Bd s2 := by rw [hs2]; exact bd_I I (show (0 : Int) ≤ 0 ∧ 0 ≤ 3 by first | exact ⟨by decide, by decide⟩ | omega) (by decide)
  have Fs2 := fm_I (x := Int32.ofInt 0) F (show 73 ∈ _ by decide)
  rw [← hs2] at Fs2
  have vs2 : iI s2 73 = 0 := by rw [hs2]; exact iI_u (by decide)
  have ws2_74 : iI s2 74 = iI s 74 := by rw [hs2]; rfl
  have aws2_157 : SAM 157 s s2 := by rw [hs2]; exact aw0_157
  refine z_aload_n X (x := A 179) (show cdA 191 5 = some (.aload_n 0, 1, 0, 0, 0) from rfl) (List.Mem.head _) ?_
  refine z_getI X 179 (show cdA 191 6 = some (.getfield 175, 3, 12, 1, 0) from rfl) (by decide) rfl rfl ?_
  have b3 : (0 : Int) ≤ iI s2 74 ∧ iI s2 74 ≤ 200 := Is2.1 74
  refine z_bipush X (show cdA 191 9 = some (.bipush 20, 2, 0, 0, 20) from rfl) ?_
  refine z_add X (show cdA 191 11 = some (.iadd, 1, 0, 0, 0) from rfl) ?_
  refine z_sipush X (show cdA 191 12 = some (.sipush 200, 3, 0, 0, 200) from rfl) ?_
  refine z_icmp_le X (t := 20) (show cdA 191 15 = some (.if_icmp .le 5, 3, 5, 0, 0) from rfl) (by decide) ⟨by first | exact oq_0de1c162 b3.1 | omega, by first | exact oq_ed776728 b3.2 | omega⟩ (by decide) (fun g4 => ?_) (fun g4 => ?_)
  ·
    refine z_const X (show cdA 191 20 = some (.iconst 0, 1, 0, 0, 0) from rfl) ?_
    refine z_store X (lv' := [(6, .int (Int32.ofInt 0)), (0, .ref (A 179)), (1, .int (Int32.ofInt x1)), (2, .int (Int32.ofInt x2)), (3, .int (Int32.ofInt x3)), (4, .int (Int32.ofInt x4)), (5, .int (Int32.ofInt x5))]) (show cdA 191 21 = some (.istore 6, 2, 0, 0, 0) from rfl) (by decide) (fun _ h => h) ?_
    refine WS_lv (lv := [(0, .ref (A 179)), (1, .int (Int32.ofInt x1)), (2, .int (Int32.ofInt x2)), (3, .int (Int32.ofInt x3)), (4, .int (Int32.ofInt x4)), (5, .int (Int32.ofInt x5)), (6, .int (Int32.ofInt 0))]) (List.forall_mem_cons.mpr ⟨(List.Mem.tail _ (List.Mem.head _)), (List.forall_mem_cons.mpr ⟨(List.Mem.tail _ (List.Mem.tail _ (List.Mem.head _))), (List.forall_mem_cons.mpr ⟨(List.Mem.tail _ (List.Mem.tail _ (List.Mem.tail _ (List.Mem.head _)))), (List.forall_mem_cons.mpr ⟨(List.Mem.tail _ (List.Mem.tail _ (List.Mem.tail _ (List.Mem.tail _ (List.Mem.head _))))), (List.forall_mem_cons.mpr ⟨(List.Mem.tail _ (List.Mem.tail _ (List.Mem.tail _ (List.Mem.tail _ (List.Mem.tail _ (List.Mem.head _)))))), (List.forall_mem_cons.mpr ⟨(List.Mem.tail _ (List.Mem.tail _ (List.Mem.tail _ (List.Mem.tail _ (List.Mem.tail _ (List.Mem.tail _ (List.Mem.head _))))))), (List.forall_mem_cons.mpr ⟨(List.Mem.head _), (fun q h => absurd h List.not_mem_nil)⟩)⟩)⟩)⟩)⟩)⟩)⟩) ?_
    refine L23 ((20 - 0 : Int).toNat + 1) s2 x1 x2 x3 x4 x5 0 Is2 Fs2 (fdp_eq (fdp_sam (fdp_0 (z := iI s 74)) aws2_157) rfl (by omega)) (by first | exact ⟨And.intro (by decide) (And.intro (by decide) (And.intro (by decide) (And.intro (by decide) (by decide)))), by decide, by decide, oq_ec17a77e ws2_74, oq_2ec15ebf ws2_74 g4⟩ | omega) (Nat.lt_succ_self _) ?_
    intro s5 x6 Is5 Fs5 Qs5 hs5
    have b7 : (0 : Int) ≤ iI s5 74 ∧ iI s5 74 ≤ 200 := Is5.1 74
    refine z_aload_n X (x := A 179) (show cdA 191 120 = some (.aload_n 0, 1, 0, 0, 0) from rfl) (List.Mem.head _) ?_
    refine z_getI X 179 (show cdA 191 121 = some (.getfield 175, 3, 12, 1, 0) from rfl) (by decide) rfl rfl ?_
    have b8 : (0 : Int) ≤ iI s5 74 ∧ iI s5 74 ≤ 200 := Is5.1 74
    exact w_iret X.1 q hRt rfl (ax_d X (show cdA 191 124 = some (.ireturn, 1, 0, 0, 0) from rfl)) (Nat.zero_le _) (Nat.zero_le _) ⟨_, rfl, Is5, Fs5, (iI s5 74), rfl, (rng_to _), Or.inl ⟨by first | exact hs5.2 | omega, by first | exact hs5.1 | omega, by omega, fdp_eq (fdp_sam Qs5 sam_rf) (by omega) (by omega)⟩⟩
  ·
    refine z_const X (show cdA 191 18 = some (.iconst (-1), 1, 0, 0, 0) from rfl) ?_
    exact w_iret X.1 q hRt rfl (ax_d X (show cdA 191 19 = some (.ireturn, 1, 0, 0, 0) from rfl)) (Nat.zero_le _) (Nat.zero_le _) ⟨_, rfl, Is2, Fs2, (-1), rfl, (by decide), Or.inr ⟨by first | exact oq_dae52d74 ws2_74 g4 | omega, by first | exact ws2_74 | omega, by decide, aws2_157⟩⟩
set_option maxRecDepth 4000 in
theorem k_flow2 (G : GX l s0 D tys a0 dT) (I : Bd s) {x y z w : Int} (p0 : rng x) (p1 : rng y) (p2 : rng z) (p3 : rng w) : CT l s0 D A dT 218 (rmN 218) [.ref (A 179), .int (Int32.ofInt x), .int (Int32.ofInt y), .int (Int32.ofInt z), .int (Int32.ofInt w)] s (fun o t => Bd t ∧ Fm [73] [190, 191, 192, 193, 194, 195, 196, 197, 198, 199, 200, 201] s t ∧ o = .inl none ∧ ((0 ≤ x ∧ x < iI s 90 ∧ 0 ≤ y ∧ y ≤ 23 ∧ 0 ≤ z ∧ z ≤ 23 ∧ y ≤ z ∧ 0 ≤ w ∧ w ≤ 50 ∧ iI t 73 = 0) ∨ ((x < 0 ∨ iI s 90 ≤ x) ∧ iI t 73 = 1) ∨ (0 ≤ x ∧ x < iI s 90 ∧ (y < 0 ∨ 23 < y ∨ z < 0 ∨ 23 < z ∨ z < y ∨ w < 0 ∨ 50 < w) ∧ iI t 73 = 2))) := by
  refine ct_of G (by decide) (Nat.le_of_ble_eq_true rfl) (fun k X E hRt hXt q => ?_)
  show WS k 0 [(0, .ref (A 179)), (1, .int (Int32.ofInt x)), (2, .int (Int32.ofInt y)), (3, .int (Int32.ofInt z)), (4, .int (Int32.ofInt w))] [] _ 0 0
  have F : Fm [73] [190, 191, 192, 193, 194, 195, 196, 197, 198, 199, 200, 201] s s := fm_rf _ _ s
  have b1 : (0 : Int) ≤ iI s 73 ∧ iI s 73 ≤ 3 := I.1 73
  have b2 : (0 : Int) ≤ iI s 90 ∧ iI s 90 ≤ 12 := I.1 90
  have L85 : ∀ (n : Nat) (t : PS) (xv zv wv c : Int), Bd t → Fm [73] [190, 191, 192, 193, 194, 195, 196, 197, 198, 199, 200, 201] s t → ((0 ≤ xv ∧ xv ≤ 11) ∧ (0 ≤ zv ∧ zv ≤ 23) ∧ (0 ≤ wv ∧ wv ≤ 50) ∧ 0 ≤ c ∧ c ≤ 24 ∧ iI t 73 = 0) → (24 - c : Int).toNat < n → (∀ (t' : PS) (xv' zv' wv' c' : Int), Bd t' → Fm [73] [190, 191, 192, 193, 194, 195, 196, 197, 198, 199, 200, 201] s t' → ((0 ≤ xv' ∧ xv' ≤ 11) ∧ (0 ≤ zv' ∧ zv' ≤ 23) ∧ (0 ≤ wv' ∧ wv' ≤ 50) ∧ 0 ≤ c' ∧ c' ≤ 24 ∧ iI t' 73 = 0) → WS k 108 [(0, .ref (A 179)), (1, .int (Int32.ofInt xv')), (3, .int (Int32.ofInt zv')), (4, .int (Int32.ofInt wv')), (5, .int (Int32.ofInt c'))] [] (Wd A dT t') 0 0) → WS k 85 [(0, .ref (A 179)), (1, .int (Int32.ofInt xv)), (3, .int (Int32.ofInt zv)), (4, .int (Int32.ofInt wv)), (5, .int (Int32.ofInt c))] [] (Wd A dT t) 0 0 := by
    intro n
    induction n with
    | zero =>
      intro t xv zv wv c I F hi hm kx
      exact absurd hm (Nat.not_lt_zero _)
    | succ n ih =>
      intro t xv zv wv c I F hi hm kx
      have b1001 : (0 : Int) ≤ iI t 73 ∧ iI t 73 ≤ 3 := I.1 73
      have b1002 : (0 : Int) ≤ iI t 90 ∧ iI t 90 ≤ 12 := I.1 90
      refine z_load X (x := c) (show cdA 218 85 = some (.iload 5, 2, 0, 0, 0) from rfl) (List.Mem.tail _ (List.Mem.tail _ (List.Mem.tail _ (List.Mem.tail _ (List.Mem.head _))))) ?_
      refine z_load_n X (x := zv) (show cdA 218 87 = some (.iload_n 3, 1, 0, 0, 0) from rfl) (List.Mem.tail _ (List.Mem.tail _ (List.Mem.head _))) ?_
      refine z_icmp_gt X (t := 108) (show cdA 218 88 = some (.if_icmp .gt 20, 3, 4, 0, 0) from rfl) (by decide) ⟨by first | exact oq_fa4e5087 hi.2.2.2.1 | omega, by first | exact oq_5bcd337f hi.2.2.2.2.1 | omega⟩ ⟨by first | exact oq_fa4e5087 hi.2.1.1 | omega, by first | exact oq_1a42ef34 hi.2.1.2 | omega⟩ (fun g1003 => ?_) (fun g1003 => ?_)
      ·
        refine WS_lv (lv := [(0, .ref (A 179)), (1, .int (Int32.ofInt xv)), (3, .int (Int32.ofInt zv)), (4, .int (Int32.ofInt wv)), (5, .int (Int32.ofInt c))]) (List.forall_mem_cons.mpr ⟨(List.Mem.head _), (List.forall_mem_cons.mpr ⟨(List.Mem.tail _ (List.Mem.head _)), (List.forall_mem_cons.mpr ⟨(List.Mem.tail _ (List.Mem.tail _ (List.Mem.head _))), (List.forall_mem_cons.mpr ⟨(List.Mem.tail _ (List.Mem.tail _ (List.Mem.tail _ (List.Mem.head _)))), (List.forall_mem_cons.mpr ⟨(List.Mem.tail _ (List.Mem.tail _ (List.Mem.tail _ (List.Mem.tail _ (List.Mem.head _))))), (fun q h => absurd h List.not_mem_nil)⟩)⟩)⟩)⟩)⟩) ?_
        exact kx _ xv zv wv c I F (by first | exact ⟨And.intro (hi.1.1) (hi.1.2), And.intro (hi.2.1.1) (hi.2.1.2), And.intro (hi.2.2.1.1) (hi.2.2.1.2), hi.2.2.2.1, hi.2.2.2.2.1, hi.2.2.2.2.2⟩ | omega)
      ·
        refine z_aload_n X (x := A 179) (show cdA 218 91 = some (.aload_n 0, 1, 0, 0, 0) from rfl) (List.Mem.head _) ?_
        refine s_getR X 179 (show cdA 218 92 = some (.getfield 55, 3, 12, 30, 0) from rfl) (by decide) rfl rfl ?_
        refine z_load_n X (x := xv) (show cdA 218 95 = some (.iload_n 1, 1, 0, 0, 0) from rfl) (List.Mem.tail _ (List.Mem.head _)) ?_
        refine z_aald X rw_215 (show cdA 218 96 = some (.aaload, 1, 0, 0, 0) from rfl) (by first | exact hi.1.1 | omega) (show xv < 12 by first | exact oq_0ddfcfee hi.1.2 | omega) (by decide) ?_
        refine z_load X (x := c) (show cdA 218 97 = some (.iload 5, 2, 0, 0, 0) from rfl) (List.Mem.tail _ (List.Mem.tail _ (List.Mem.tail _ (List.Mem.tail _ (List.Mem.head _))))) ?_
        refine z_load X (x := wv) (show cdA 218 99 = some (.iload 4, 2, 0, 0, 0) from rfl) (List.Mem.tail _ (List.Mem.tail _ (List.Mem.tail _ (List.Mem.head _)))) ?_
        refine z_ast2 X rw_215 (show cdA 218 101 = some (.iastore, 1, 0, 0, 0) from rfl) (show (xv : Int).toNat < 12 by first | exact oq_9c5fa447 hi.1.2 | omega) (by first | exact hi.2.2.2.1 | omega) (show c < 24 by first | exact oq_c5e79f47 g1003 hi.2.1.2 | omega) (by decide) ?_
        obtain ⟨s1004, hs1004⟩ : ∃ x0, x0 = uC t (190 + (xv : Int).toNat) (c : Int).toNat (Int32.ofInt wv) := ⟨_, rfl⟩
        rw [← hs1004]
        have Is1004 : Bd s1004 := by rw [hs1004]; exact rw_st rw_215 I (show (xv : Int).toNat < 12 by first | exact oq_9c5fa447 hi.1.2 | omega) (show (0 : Int) ≤ wv ∧ wv ≤ 50 by first | exact ⟨hi.2.2.1.1, hi.2.2.1.2⟩ | omega) ⟨by first | exact oq_fa4e5087 hi.2.2.1.1 | omega, by first | exact oq_cbe526b3 hi.2.2.1.2 | omega⟩
        have Fs1004 := fm_C (i := (c : Int).toNat) (x := Int32.ofInt wv) F ((show ∀ j, j < 12 → 190 + j ∈ _ by decide) (xv : Int).toNat (by first | exact oq_9c5fa447 hi.1.2 | omega))
        rw [← hs1004] at Fs1004
        have ws1004_73 : iI s1004 73 = iI t 73 := by rw [hs1004]; rfl
        have ws1004_90 : iI s1004 90 = iI t 90 := by rw [hs1004]; rfl
        refine z_inc X (x := c) (lv' := [(5, .int (Int32.ofInt (c + 1))), (0, .ref (A 179)), (1, .int (Int32.ofInt xv)), (3, .int (Int32.ofInt zv)), (4, .int (Int32.ofInt wv))]) (show cdA 218 102 = some (.iinc 5 1, 3, 0, 0, 0) from rfl) (by decide) (List.Mem.tail _ (List.Mem.tail _ (List.Mem.tail _ (List.Mem.tail _ (List.Mem.head _))))) (fun _ h => h) ?_
        refine z_goto X (t := 85) (show cdA 218 105 = some (.goto (-20), 3, 0, 0, 0) from rfl) (by decide) ?_
        refine WS_lv (lv := [(0, .ref (A 179)), (1, .int (Int32.ofInt xv)), (3, .int (Int32.ofInt zv)), (4, .int (Int32.ofInt wv)), (5, .int (Int32.ofInt (c + 1)))]) (List.forall_mem_cons.mpr ⟨(List.Mem.tail _ (List.Mem.head _)), (List.forall_mem_cons.mpr ⟨(List.Mem.tail _ (List.Mem.tail _ (List.Mem.head _))), (List.forall_mem_cons.mpr ⟨(List.Mem.tail _ (List.Mem.tail _ (List.Mem.tail _ (List.Mem.head _)))), (List.forall_mem_cons.mpr ⟨(List.Mem.tail _ (List.Mem.tail _ (List.Mem.tail _ (List.Mem.tail _ (List.Mem.head _))))), (List.forall_mem_cons.mpr ⟨(List.Mem.head _), (fun q h => absurd h List.not_mem_nil)⟩)⟩)⟩)⟩)⟩) ?_
        exact ih _ xv zv wv (c + 1) Is1004 Fs1004 (by first | exact ⟨And.intro (hi.1.1) (hi.1.2), And.intro (hi.2.1.1) (hi.2.1.2), And.intro (hi.2.2.1.1) (hi.2.2.1.2), oq_54f49eb5 hi.2.2.2.1, oq_3f5436dc g1003 hi.2.1.2, oq_333640b7 ws1004_73 hi.2.2.2.2.2 b1001.1⟩ | omega) (by first | exact qk_me hm (by decide) (oq_416f5e90 g1003 hi.2.1.2) | omega) kx
  refine z_aload_n X (x := A 179) (show cdA 218 0 = some (.aload_n 0, 1, 0, 0, 0) from rfl) (List.Mem.head _) ?_
  refine z_const X (show cdA 218 1 = some (.iconst 0, 1, 0, 0, 0) from rfl) ?_
  refine s_putI X 179 (show cdA 218 2 = some (.putfield 172, 3, 12, 0, 0) from rfl) (by decide) rfl rfl (by decide) rfl rfl rfl ?_
  obtain ⟨s3, hs3⟩ : ∃ x0, x0 = uI s 73 (Int32.ofInt 0) := ⟨_, rfl⟩
  rw [← hs3]
  have Is3 : Bd s3 := by rw [hs3]; exact bd_I I (show (0 : Int) ≤ 0 ∧ 0 ≤ 3 by first | exact ⟨by decide, by decide⟩ | omega) (by decide)
  have Fs3 := fm_I (x := Int32.ofInt 0) F (show 73 ∈ _ by decide)
  rw [← hs3] at Fs3
  have vs3 : iI s3 73 = 0 := by rw [hs3]; exact iI_u (by decide)
  have ws3_90 : iI s3 90 = iI s 90 := by rw [hs3]; rfl
  refine z_aload_n X (x := A 179) (show cdA 218 5 = some (.aload_n 0, 1, 0, 0, 0) from rfl) (List.Mem.head _) ?_
  refine z_load_n X (x := x) (show cdA 218 6 = some (.iload_n 1, 1, 0, 0, 0) from rfl) (List.Mem.tail _ (List.Mem.head _)) ?_
  refine z_const X (show cdA 218 7 = some (.iconst 0, 1, 0, 0, 0) from rfl) ?_
  refine z_aload_n X (x := A 179) (show cdA 218 8 = some (.aload_n 0, 1, 0, 0, 0) from rfl) (List.Mem.head _) ?_
  refine z_getI X 179 (show cdA 218 9 = some (.getfield 233, 3, 12, 22, 0) from rfl) (by decide) rfl rfl ?_
  have b4 : (0 : Int) ≤ iI s3 90 ∧ iI s3 90 ≤ 12 := Is3.1 90
  refine z_const X (show cdA 218 12 = some (.iconst 1, 1, 0, 0, 0) from rfl) ?_
  refine z_sub X (show cdA 218 13 = some (.isub, 1, 0, 0, 0) from rfl) ?_
  refine z_callS X (rm := rmN 188) (As := [.int (Int32.ofInt x), .int (Int32.ofInt 0), .int (Int32.ofInt ((iI s3 90) - 1))]) (st := [.ref (A 179)]) (show cdA 218 14 = some (.invokestatic 209, 3, 188, 1, 0) from rfl) rfl (by rw [E.1, E.2.1, E.2.2.1]; exact k_in2 G Is3 (by first | exact ⟨p0.1, p0.2⟩ | omega) (by first | exact ⟨by decide, by decide⟩ | omega) (by first | exact ⟨oq_c1e961c7 b4.1, oq_d526ebd3 b4.2⟩ | omega)) ⟨by rw [E.2.2.2]; exact (show (rmN 188).frames + 1 ≤ (rmN 218).frames by decide), by rw [E.2.2.2]; exact (show 8 + (mNL (miB 188) + 11) + (rmN 188).locals ≤ (rmN 218).locals by decide), by rw [E.2.2.2]; exact (show 0 + (rmN 188).cells ≤ (rmN 218).cells by decide), by rw [E.2.2.2]; exact (show 0 + (rmN 188).slots ≤ (rmN 218).slots by decide)⟩ (Nat.le_of_ble_eq_true rfl) (fun vv s5 hq => ?_) (fun ee s5 hq => ?_)
  rotate_left
  · obtain ⟨rfl, e6, hv, hrs5, hps5⟩ := hq; cases hv
  obtain ⟨rfl, e6, hv, hrs5, hps5⟩ := hq
  cases hv
  show WS k 17 [(0, .ref (A 179)), (1, .int (Int32.ofInt x)), (2, .int (Int32.ofInt y)), (3, .int (Int32.ofInt z)), (4, .int (Int32.ofInt w))] [.int (Int32.ofInt e6), .ref (A 179)] (Wd A dT s3) 0 0
  have N7 : ∀ e8 : Int, (((e6 ≠ 0) ∧ e8 = 0) ∨ ((e6 = 0) ∧ e8 = 1)) → WS k 25 [(0, .ref (A 179)), (1, .int (Int32.ofInt x)), (2, .int (Int32.ofInt y)), (3, .int (Int32.ofInt z)), (4, .int (Int32.ofInt w))] [.int (Int32.ofInt e8), .ref (A 179)] (Wd A dT s3) 0 0 := by
    intro e8 he8
    have re8 : 0 ≤ e8 ∧ e8 ≤ 1 := by omega
    refine z_const X (show cdA 218 25 = some (.iconst 1, 1, 0, 0, 0) from rfl) ?_
    refine z_callV X 179 (rm := rmN 187) (As := [.int (Int32.ofInt e8), .int (Int32.ofInt 1)]) (st := []) (show cdA 218 26 = some (.invokevirtual 229, 3, 187, 0, 0) from rfl) rfl (by decide) rfl (by rw [E.1, E.2.1, E.2.2.1]; exact k_bad2 G Is3 (by first | exact oq_31e518ae re8.2 re8.1 | omega) (by first | exact ⟨by decide, by decide⟩ | omega)) ⟨by rw [E.2.2.2]; exact (show (rmN 187).frames + 1 ≤ (rmN 218).frames by decide), by rw [E.2.2.2]; exact (show 8 + (mNL (miB 187) + 11) + (rmN 187).locals ≤ (rmN 218).locals by decide), by rw [E.2.2.2]; exact (show 0 + (rmN 187).cells ≤ (rmN 218).cells by decide), by rw [E.2.2.2]; exact (show 0 + (rmN 187).slots ≤ (rmN 218).slots by decide)⟩ (Nat.le_of_ble_eq_true rfl) (fun vv s9 hq => ?_) (fun ee s9 hq => ?_)
    rotate_left
    · obtain ⟨Is9, Fs9, e10, hv, hrs9, hps9⟩ := hq; cases hv
    obtain ⟨Is9, Fs9, e10, hv, hrs9, hps9⟩ := hq
    cases hv
    have Gs9 := fm_ts Fs3 Fs9 (by decide) (by decide)
    have b11 : (0 : Int) ≤ iI s9 73 ∧ iI s9 73 ≤ 3 := Is9.1 73
    have ws9_90 : iI s9 90 = iI s3 90 := fm_i Fs9 (by decide)
    show WS k 29 [(0, .ref (A 179)), (1, .int (Int32.ofInt x)), (2, .int (Int32.ofInt y)), (3, .int (Int32.ofInt z)), (4, .int (Int32.ofInt w))] [.int (Int32.ofInt e10)] (Wd A dT s9) 0 0
    refine z_if_ne X (t := 81) (show cdA 218 29 = some (.ifCond .ne 52, 3, 1, 0, 0) from rfl) (by decide) hrs9 (fun g12 => ?_) (fun g12 => ?_)
    ·
      exact w_vret X.1 q hRt (ax_d X (show cdA 218 81 = some (.return_, 1, 0, 0, 0) from rfl)) (Nat.zero_le _) (Nat.zero_le _) ⟨_, rfl, Is9, Gs9, rfl, by first | exact oq_6b711952 g12 hps9 he8 hps5 ws3_90 vs3 | omega⟩
    ·
      refine z_aload_n X (x := A 179) (show cdA 218 32 = some (.aload_n 0, 1, 0, 0, 0) from rfl) (List.Mem.head _) ?_
      refine z_load_n X (x := y) (show cdA 218 33 = some (.iload_n 2, 1, 0, 0, 0) from rfl) (List.Mem.tail _ (List.Mem.tail _ (List.Mem.head _))) ?_
      refine z_const X (show cdA 218 34 = some (.iconst 0, 1, 0, 0, 0) from rfl) ?_
      refine z_bipush X (show cdA 218 35 = some (.bipush 23, 2, 0, 0, 23) from rfl) ?_
      refine z_callS X (rm := rmN 188) (As := [.int (Int32.ofInt y), .int (Int32.ofInt 0), .int (Int32.ofInt 23)]) (st := [.ref (A 179)]) (show cdA 218 37 = some (.invokestatic 209, 3, 188, 1, 0) from rfl) rfl (by rw [E.1, E.2.1, E.2.2.1]; exact k_in2 G Is9 (by first | exact ⟨p1.1, p1.2⟩ | omega) (by first | exact ⟨by decide, by decide⟩ | omega) (by first | exact ⟨by decide, by decide⟩ | omega)) ⟨by rw [E.2.2.2]; exact (show (rmN 188).frames + 1 ≤ (rmN 218).frames by decide), by rw [E.2.2.2]; exact (show 8 + (mNL (miB 188) + 11) + (rmN 188).locals ≤ (rmN 218).locals by decide), by rw [E.2.2.2]; exact (show 0 + (rmN 188).cells ≤ (rmN 218).cells by decide), by rw [E.2.2.2]; exact (show 0 + (rmN 188).slots ≤ (rmN 218).slots by decide)⟩ (Nat.le_of_ble_eq_true rfl) (fun vv s13 hq => ?_) (fun ee s13 hq => ?_)
      rotate_left
      · obtain ⟨rfl, e14, hv, hrs13, hps13⟩ := hq; cases hv
      obtain ⟨rfl, e14, hv, hrs13, hps13⟩ := hq
      cases hv
      show WS k 40 [(0, .ref (A 179)), (1, .int (Int32.ofInt x)), (2, .int (Int32.ofInt y)), (3, .int (Int32.ofInt z)), (4, .int (Int32.ofInt w))] [.int (Int32.ofInt e14), .ref (A 179)] (Wd A dT s9) 0 0
      refine z_if_eq X (t := 69) (show cdA 218 40 = some (.ifCond .eq 29, 3, 0, 0, 0) from rfl) (by decide) hrs13 (fun g15 => ?_) (fun g15 => ?_)
      ·
        refine z_const X (show cdA 218 69 = some (.iconst 1, 1, 0, 0, 0) from rfl) ?_
        refine z_goto X (t := 74) (show cdA 218 70 = some (.goto 4, 3, 0, 0, 0) from rfl) (by decide) ?_
        refine z_const X (show cdA 218 74 = some (.iconst 2, 1, 0, 0, 0) from rfl) ?_
        refine z_callV X 179 (rm := rmN 187) (As := [.int (Int32.ofInt 1), .int (Int32.ofInt 2)]) (st := []) (show cdA 218 75 = some (.invokevirtual 229, 3, 187, 0, 0) from rfl) rfl (by decide) rfl (by rw [E.1, E.2.1, E.2.2.1]; exact k_bad2 G Is9 (by first | exact Or.inr (by decide) | omega) (by first | exact ⟨by decide, by decide⟩ | omega)) ⟨by rw [E.2.2.2]; exact (show (rmN 187).frames + 1 ≤ (rmN 218).frames by decide), by rw [E.2.2.2]; exact (show 8 + (mNL (miB 187) + 11) + (rmN 187).locals ≤ (rmN 218).locals by decide), by rw [E.2.2.2]; exact (show 0 + (rmN 187).cells ≤ (rmN 218).cells by decide), by rw [E.2.2.2]; exact (show 0 + (rmN 187).slots ≤ (rmN 218).slots by decide)⟩ (Nat.le_of_ble_eq_true rfl) (fun vv s16 hq => ?_) (fun ee s16 hq => ?_)
        rotate_left
        · obtain ⟨Is16, Fs16, e17, hv, hrs16, hps16⟩ := hq; cases hv
        obtain ⟨Is16, Fs16, e17, hv, hrs16, hps16⟩ := hq
        cases hv
        have Gs16 := fm_ts Gs9 Fs16 (by decide) (by decide)
        have b18 : (0 : Int) ≤ iI s16 73 ∧ iI s16 73 ≤ 3 := Is16.1 73
        have ws16_90 : iI s16 90 = iI s9 90 := fm_i Fs16 (by decide)
        show WS k 78 [(0, .ref (A 179)), (1, .int (Int32.ofInt x)), (2, .int (Int32.ofInt y)), (3, .int (Int32.ofInt z)), (4, .int (Int32.ofInt w))] [.int (Int32.ofInt e17)] (Wd A dT s16) 0 0
        refine z_if_eq X (t := 82) (show cdA 218 78 = some (.ifCond .eq 4, 3, 0, 0, 0) from rfl) (by decide) hrs16 (fun g19 => ?_) (fun g19 => ?_)
        ·
          refine z_load_n X (x := y) (show cdA 218 82 = some (.iload_n 2, 1, 0, 0, 0) from rfl) (List.Mem.tail _ (List.Mem.tail _ (List.Mem.head _))) ?_
          refine z_store X (lv' := [(5, .int (Int32.ofInt y)), (0, .ref (A 179)), (1, .int (Int32.ofInt x)), (2, .int (Int32.ofInt y)), (3, .int (Int32.ofInt z)), (4, .int (Int32.ofInt w))]) (show cdA 218 83 = some (.istore 5, 2, 0, 0, 0) from rfl) (by decide) (fun _ h => h) ?_
          refine WS_lv (lv := [(0, .ref (A 179)), (1, .int (Int32.ofInt x)), (3, .int (Int32.ofInt z)), (4, .int (Int32.ofInt w)), (5, .int (Int32.ofInt y))]) (List.forall_mem_cons.mpr ⟨(List.Mem.tail _ (List.Mem.head _)), (List.forall_mem_cons.mpr ⟨(List.Mem.tail _ (List.Mem.tail _ (List.Mem.head _))), (List.forall_mem_cons.mpr ⟨(List.Mem.tail _ (List.Mem.tail _ (List.Mem.tail _ (List.Mem.tail _ (List.Mem.head _))))), (List.forall_mem_cons.mpr ⟨(List.Mem.tail _ (List.Mem.tail _ (List.Mem.tail _ (List.Mem.tail _ (List.Mem.tail _ (List.Mem.head _)))))), (List.forall_mem_cons.mpr ⟨(List.Mem.head _), (fun q h => absurd h List.not_mem_nil)⟩)⟩)⟩)⟩)⟩) ?_
          refine L85 ((24 - y : Int).toNat + 1) s16 x z w y Is16 Gs16 (by first | exact ⟨oq_076d59f2 g19 hps16 g12 b11.1 hps9 vs3, oq_351fca93 g19 hps16 g12 b11.1 hps9 vs3, oq_8e25c494 g19 hps16 g12 b11.1 hps9 vs3, oq_50a02c5b g19 hps16 g12 b11.1 hps9 vs3, oq_852de6cf g19 hps16 g12 b11.1 hps9 vs3, oq_0568af07 g19 b18.1 hps16 g12 hps9 vs3⟩ | omega) (Nat.lt_succ_self _) ?_
          intro s20 x21 x22 x23 x24 Is20 Fs20 hs20
          have b25 : (0 : Int) ≤ iI s20 73 ∧ iI s20 73 ≤ 3 := Is20.1 73
          have b26 : (0 : Int) ≤ iI s20 90 ∧ iI s20 90 ≤ 12 := Is20.1 90
          exact w_vret X.1 q hRt (ax_d X (show cdA 218 108 = some (.return_, 1, 0, 0, 0) from rfl)) (Nat.zero_le _) (Nat.zero_le _) ⟨_, rfl, Is20, Fs20, rfl, by first | exact oq_b8e479b6 g19 hps16 g12 b11.1 hps9 vs3 | omega⟩
        ·
          exact w_vret X.1 q hRt (ax_d X (show cdA 218 81 = some (.return_, 1, 0, 0, 0) from rfl)) (Nat.zero_le _) (Nat.zero_le _) ⟨_, rfl, Is16, Gs16, rfl, by first | exact oq_c499c9bf g19 hps16 g15 hps13 g12 b11.1 hps9 he8 hps5 ws3_90 vs3 | omega⟩
      ·
        refine z_load_n X (x := z) (show cdA 218 43 = some (.iload_n 3, 1, 0, 0, 0) from rfl) (List.Mem.tail _ (List.Mem.tail _ (List.Mem.tail _ (List.Mem.head _)))) ?_
        refine z_const X (show cdA 218 44 = some (.iconst 0, 1, 0, 0, 0) from rfl) ?_
        refine z_bipush X (show cdA 218 45 = some (.bipush 23, 2, 0, 0, 23) from rfl) ?_
        refine z_callS X (rm := rmN 188) (As := [.int (Int32.ofInt z), .int (Int32.ofInt 0), .int (Int32.ofInt 23)]) (st := [.ref (A 179)]) (show cdA 218 47 = some (.invokestatic 209, 3, 188, 1, 0) from rfl) rfl (by rw [E.1, E.2.1, E.2.2.1]; exact k_in2 G Is9 (by first | exact ⟨p2.1, p2.2⟩ | omega) (by first | exact ⟨by decide, by decide⟩ | omega) (by first | exact ⟨by decide, by decide⟩ | omega)) ⟨by rw [E.2.2.2]; exact (show (rmN 188).frames + 1 ≤ (rmN 218).frames by decide), by rw [E.2.2.2]; exact (show 8 + (mNL (miB 188) + 11) + (rmN 188).locals ≤ (rmN 218).locals by decide), by rw [E.2.2.2]; exact (show 0 + (rmN 188).cells ≤ (rmN 218).cells by decide), by rw [E.2.2.2]; exact (show 0 + (rmN 188).slots ≤ (rmN 218).slots by decide)⟩ (Nat.le_of_ble_eq_true rfl) (fun vv s27 hq => ?_) (fun ee s27 hq => ?_)
        rotate_left
        · obtain ⟨rfl, e28, hv, hrs27, hps27⟩ := hq; cases hv
        obtain ⟨rfl, e28, hv, hrs27, hps27⟩ := hq
        cases hv
        show WS k 50 [(0, .ref (A 179)), (1, .int (Int32.ofInt x)), (2, .int (Int32.ofInt y)), (3, .int (Int32.ofInt z)), (4, .int (Int32.ofInt w))] [.int (Int32.ofInt e28), .ref (A 179)] (Wd A dT s9) 0 0
        refine z_if_eq X (t := 69) (show cdA 218 50 = some (.ifCond .eq 19, 3, 0, 0, 0) from rfl) (by decide) hrs27 (fun g29 => ?_) (fun g29 => ?_)
        ·
          refine z_const X (show cdA 218 69 = some (.iconst 1, 1, 0, 0, 0) from rfl) ?_
          refine z_goto X (t := 74) (show cdA 218 70 = some (.goto 4, 3, 0, 0, 0) from rfl) (by decide) ?_
          refine z_const X (show cdA 218 74 = some (.iconst 2, 1, 0, 0, 0) from rfl) ?_
          refine z_callV X 179 (rm := rmN 187) (As := [.int (Int32.ofInt 1), .int (Int32.ofInt 2)]) (st := []) (show cdA 218 75 = some (.invokevirtual 229, 3, 187, 0, 0) from rfl) rfl (by decide) rfl (by rw [E.1, E.2.1, E.2.2.1]; exact k_bad2 G Is9 (by first | exact Or.inr (by decide) | omega) (by first | exact ⟨by decide, by decide⟩ | omega)) ⟨by rw [E.2.2.2]; exact (show (rmN 187).frames + 1 ≤ (rmN 218).frames by decide), by rw [E.2.2.2]; exact (show 8 + (mNL (miB 187) + 11) + (rmN 187).locals ≤ (rmN 218).locals by decide), by rw [E.2.2.2]; exact (show 0 + (rmN 187).cells ≤ (rmN 218).cells by decide), by rw [E.2.2.2]; exact (show 0 + (rmN 187).slots ≤ (rmN 218).slots by decide)⟩ (Nat.le_of_ble_eq_true rfl) (fun vv s30 hq => ?_) (fun ee s30 hq => ?_)
          rotate_left
          · obtain ⟨Is30, Fs30, e31, hv, hrs30, hps30⟩ := hq; cases hv
          obtain ⟨Is30, Fs30, e31, hv, hrs30, hps30⟩ := hq
          cases hv
          have Gs30 := fm_ts Gs9 Fs30 (by decide) (by decide)
          have b32 : (0 : Int) ≤ iI s30 73 ∧ iI s30 73 ≤ 3 := Is30.1 73
          have ws30_90 : iI s30 90 = iI s9 90 := fm_i Fs30 (by decide)
          show WS k 78 [(0, .ref (A 179)), (1, .int (Int32.ofInt x)), (2, .int (Int32.ofInt y)), (3, .int (Int32.ofInt z)), (4, .int (Int32.ofInt w))] [.int (Int32.ofInt e31)] (Wd A dT s30) 0 0
          refine z_if_eq X (t := 82) (show cdA 218 78 = some (.ifCond .eq 4, 3, 0, 0, 0) from rfl) (by decide) hrs30 (fun g33 => ?_) (fun g33 => ?_)
          ·
            refine z_load_n X (x := y) (show cdA 218 82 = some (.iload_n 2, 1, 0, 0, 0) from rfl) (List.Mem.tail _ (List.Mem.tail _ (List.Mem.head _))) ?_
            refine z_store X (lv' := [(5, .int (Int32.ofInt y)), (0, .ref (A 179)), (1, .int (Int32.ofInt x)), (2, .int (Int32.ofInt y)), (3, .int (Int32.ofInt z)), (4, .int (Int32.ofInt w))]) (show cdA 218 83 = some (.istore 5, 2, 0, 0, 0) from rfl) (by decide) (fun _ h => h) ?_
            refine WS_lv (lv := [(0, .ref (A 179)), (1, .int (Int32.ofInt x)), (3, .int (Int32.ofInt z)), (4, .int (Int32.ofInt w)), (5, .int (Int32.ofInt y))]) (List.forall_mem_cons.mpr ⟨(List.Mem.tail _ (List.Mem.head _)), (List.forall_mem_cons.mpr ⟨(List.Mem.tail _ (List.Mem.tail _ (List.Mem.head _))), (List.forall_mem_cons.mpr ⟨(List.Mem.tail _ (List.Mem.tail _ (List.Mem.tail _ (List.Mem.tail _ (List.Mem.head _))))), (List.forall_mem_cons.mpr ⟨(List.Mem.tail _ (List.Mem.tail _ (List.Mem.tail _ (List.Mem.tail _ (List.Mem.tail _ (List.Mem.head _)))))), (List.forall_mem_cons.mpr ⟨(List.Mem.head _), (fun q h => absurd h List.not_mem_nil)⟩)⟩)⟩)⟩)⟩) ?_
            refine L85 ((24 - y : Int).toNat + 1) s30 x z w y Is30 Gs30 (by first | exact ⟨oq_076d59f2 g33 hps30 g12 b11.1 hps9 vs3, oq_351fca93 g33 hps30 g12 b11.1 hps9 vs3, oq_8e25c494 g33 hps30 g12 b11.1 hps9 vs3, oq_0159bb48 g15 hps13, oq_f518633a g15 hps13, oq_0568af07 g33 b32.1 hps30 g12 hps9 vs3⟩ | omega) (Nat.lt_succ_self _) ?_
            intro s34 x35 x36 x37 x38 Is34 Fs34 hs34
            have b39 : (0 : Int) ≤ iI s34 73 ∧ iI s34 73 ≤ 3 := Is34.1 73
            have b40 : (0 : Int) ≤ iI s34 90 ∧ iI s34 90 ≤ 12 := Is34.1 90
            exact w_vret X.1 q hRt (ax_d X (show cdA 218 108 = some (.return_, 1, 0, 0, 0) from rfl)) (Nat.zero_le _) (Nat.zero_le _) ⟨_, rfl, Is34, Fs34, rfl, by first | exact oq_b8e479b6 g33 hps30 g12 b11.1 hps9 vs3 | omega⟩
          ·
            exact w_vret X.1 q hRt (ax_d X (show cdA 218 81 = some (.return_, 1, 0, 0, 0) from rfl)) (Nat.zero_le _) (Nat.zero_le _) ⟨_, rfl, Is30, Gs30, rfl, by omega⟩
        ·
          refine z_load_n X (x := y) (show cdA 218 53 = some (.iload_n 2, 1, 0, 0, 0) from rfl) (List.Mem.tail _ (List.Mem.tail _ (List.Mem.head _))) ?_
          refine z_load_n X (x := z) (show cdA 218 54 = some (.iload_n 3, 1, 0, 0, 0) from rfl) (List.Mem.tail _ (List.Mem.tail _ (List.Mem.tail _ (List.Mem.head _)))) ?_
          refine z_icmp_gt X (t := 69) (show cdA 218 55 = some (.if_icmp .gt 14, 3, 4, 0, 0) from rfl) (by decide) ⟨by first | exact p1.1 | omega, by first | exact p1.2 | omega⟩ ⟨by first | exact p2.1 | omega, by first | exact p2.2 | omega⟩ (fun g41 => ?_) (fun g41 => ?_)
          ·
            refine z_const X (show cdA 218 69 = some (.iconst 1, 1, 0, 0, 0) from rfl) ?_
            refine z_goto X (t := 74) (show cdA 218 70 = some (.goto 4, 3, 0, 0, 0) from rfl) (by decide) ?_
            refine z_const X (show cdA 218 74 = some (.iconst 2, 1, 0, 0, 0) from rfl) ?_
            refine z_callV X 179 (rm := rmN 187) (As := [.int (Int32.ofInt 1), .int (Int32.ofInt 2)]) (st := []) (show cdA 218 75 = some (.invokevirtual 229, 3, 187, 0, 0) from rfl) rfl (by decide) rfl (by rw [E.1, E.2.1, E.2.2.1]; exact k_bad2 G Is9 (by first | exact Or.inr (by decide) | omega) (by first | exact ⟨by decide, by decide⟩ | omega)) ⟨by rw [E.2.2.2]; exact (show (rmN 187).frames + 1 ≤ (rmN 218).frames by decide), by rw [E.2.2.2]; exact (show 8 + (mNL (miB 187) + 11) + (rmN 187).locals ≤ (rmN 218).locals by decide), by rw [E.2.2.2]; exact (show 0 + (rmN 187).cells ≤ (rmN 218).cells by decide), by rw [E.2.2.2]; exact (show 0 + (rmN 187).slots ≤ (rmN 218).slots by decide)⟩ (Nat.le_of_ble_eq_true rfl) (fun vv s42 hq => ?_) (fun ee s42 hq => ?_)
            rotate_left
            · obtain ⟨Is42, Fs42, e43, hv, hrs42, hps42⟩ := hq; cases hv
            obtain ⟨Is42, Fs42, e43, hv, hrs42, hps42⟩ := hq
            cases hv
            have Gs42 := fm_ts Gs9 Fs42 (by decide) (by decide)
            have b44 : (0 : Int) ≤ iI s42 73 ∧ iI s42 73 ≤ 3 := Is42.1 73
            have ws42_90 : iI s42 90 = iI s9 90 := fm_i Fs42 (by decide)
            show WS k 78 [(0, .ref (A 179)), (1, .int (Int32.ofInt x)), (2, .int (Int32.ofInt y)), (3, .int (Int32.ofInt z)), (4, .int (Int32.ofInt w))] [.int (Int32.ofInt e43)] (Wd A dT s42) 0 0
            refine z_if_eq X (t := 82) (show cdA 218 78 = some (.ifCond .eq 4, 3, 0, 0, 0) from rfl) (by decide) hrs42 (fun g45 => ?_) (fun g45 => ?_)
            ·
              refine z_load_n X (x := y) (show cdA 218 82 = some (.iload_n 2, 1, 0, 0, 0) from rfl) (List.Mem.tail _ (List.Mem.tail _ (List.Mem.head _))) ?_
              refine z_store X (lv' := [(5, .int (Int32.ofInt y)), (0, .ref (A 179)), (1, .int (Int32.ofInt x)), (2, .int (Int32.ofInt y)), (3, .int (Int32.ofInt z)), (4, .int (Int32.ofInt w))]) (show cdA 218 83 = some (.istore 5, 2, 0, 0, 0) from rfl) (by decide) (fun _ h => h) ?_
              refine WS_lv (lv := [(0, .ref (A 179)), (1, .int (Int32.ofInt x)), (3, .int (Int32.ofInt z)), (4, .int (Int32.ofInt w)), (5, .int (Int32.ofInt y))]) (List.forall_mem_cons.mpr ⟨(List.Mem.tail _ (List.Mem.head _)), (List.forall_mem_cons.mpr ⟨(List.Mem.tail _ (List.Mem.tail _ (List.Mem.head _))), (List.forall_mem_cons.mpr ⟨(List.Mem.tail _ (List.Mem.tail _ (List.Mem.tail _ (List.Mem.tail _ (List.Mem.head _))))), (List.forall_mem_cons.mpr ⟨(List.Mem.tail _ (List.Mem.tail _ (List.Mem.tail _ (List.Mem.tail _ (List.Mem.tail _ (List.Mem.head _)))))), (List.forall_mem_cons.mpr ⟨(List.Mem.head _), (fun q h => absurd h List.not_mem_nil)⟩)⟩)⟩)⟩)⟩) ?_
              refine L85 ((24 - y : Int).toNat + 1) s42 x z w y Is42 Gs42 (by first | exact ⟨oq_076d59f2 g45 hps42 g12 b11.1 hps9 vs3, oq_71c16c0e g41 g29 hps27 g15 hps13, oq_8e25c494 g45 hps42 g12 b11.1 hps9 vs3, oq_043ce32e g41 g29 hps27, oq_f518633a g15 hps13, oq_0568af07 g45 b44.1 hps42 g12 hps9 vs3⟩ | omega) (Nat.lt_succ_self _) ?_
              intro s46 x47 x48 x49 x50 Is46 Fs46 hs46
              have b51 : (0 : Int) ≤ iI s46 73 ∧ iI s46 73 ≤ 3 := Is46.1 73
              have b52 : (0 : Int) ≤ iI s46 90 ∧ iI s46 90 ≤ 12 := Is46.1 90
              exact w_vret X.1 q hRt (ax_d X (show cdA 218 108 = some (.return_, 1, 0, 0, 0) from rfl)) (Nat.zero_le _) (Nat.zero_le _) ⟨_, rfl, Is46, Fs46, rfl, by omega⟩
            ·
              exact w_vret X.1 q hRt (ax_d X (show cdA 218 81 = some (.return_, 1, 0, 0, 0) from rfl)) (Nat.zero_le _) (Nat.zero_le _) ⟨_, rfl, Is42, Gs42, rfl, by omega⟩
          ·
            refine z_load X (x := w) (show cdA 218 58 = some (.iload 4, 2, 0, 0, 0) from rfl) (List.Mem.tail _ (List.Mem.tail _ (List.Mem.tail _ (List.Mem.tail _ (List.Mem.head _))))) ?_
            refine z_const X (show cdA 218 60 = some (.iconst 0, 1, 0, 0, 0) from rfl) ?_
            refine z_bipush X (show cdA 218 61 = some (.bipush 50, 2, 0, 0, 50) from rfl) ?_
            refine z_callS X (rm := rmN 188) (As := [.int (Int32.ofInt w), .int (Int32.ofInt 0), .int (Int32.ofInt 50)]) (st := [.ref (A 179)]) (show cdA 218 63 = some (.invokestatic 209, 3, 188, 1, 0) from rfl) rfl (by rw [E.1, E.2.1, E.2.2.1]; exact k_in2 G Is9 (by first | exact ⟨p3.1, p3.2⟩ | omega) (by first | exact ⟨by decide, by decide⟩ | omega) (by first | exact ⟨by decide, by decide⟩ | omega)) ⟨by rw [E.2.2.2]; exact (show (rmN 188).frames + 1 ≤ (rmN 218).frames by decide), by rw [E.2.2.2]; exact (show 8 + (mNL (miB 188) + 11) + (rmN 188).locals ≤ (rmN 218).locals by decide), by rw [E.2.2.2]; exact (show 0 + (rmN 188).cells ≤ (rmN 218).cells by decide), by rw [E.2.2.2]; exact (show 0 + (rmN 188).slots ≤ (rmN 218).slots by decide)⟩ (Nat.le_of_ble_eq_true rfl) (fun vv s53 hq => ?_) (fun ee s53 hq => ?_)
            rotate_left
            · obtain ⟨rfl, e54, hv, hrs53, hps53⟩ := hq; cases hv
            obtain ⟨rfl, e54, hv, hrs53, hps53⟩ := hq
            cases hv
            show WS k 66 [(0, .ref (A 179)), (1, .int (Int32.ofInt x)), (2, .int (Int32.ofInt y)), (3, .int (Int32.ofInt z)), (4, .int (Int32.ofInt w))] [.int (Int32.ofInt e54), .ref (A 179)] (Wd A dT s9) 0 0
            have N55 : ∀ e56 : Int, (((e54 ≠ 0) ∧ e56 = 0) ∨ ((e54 = 0) ∧ e56 = 1)) → WS k 74 [(0, .ref (A 179)), (1, .int (Int32.ofInt x)), (2, .int (Int32.ofInt y)), (3, .int (Int32.ofInt z)), (4, .int (Int32.ofInt w))] [.int (Int32.ofInt e56), .ref (A 179)] (Wd A dT s9) 0 0 := by
              intro e56 he56
              have re56 : 0 ≤ e56 ∧ e56 ≤ 1 := by omega
              refine z_const X (show cdA 218 74 = some (.iconst 2, 1, 0, 0, 0) from rfl) ?_
              refine z_callV X 179 (rm := rmN 187) (As := [.int (Int32.ofInt e56), .int (Int32.ofInt 2)]) (st := []) (show cdA 218 75 = some (.invokevirtual 229, 3, 187, 0, 0) from rfl) rfl (by decide) rfl (by rw [E.1, E.2.1, E.2.2.1]; exact k_bad2 G Is9 (by first | exact oq_31e518ae re56.2 re56.1 | omega) (by first | exact ⟨by decide, by decide⟩ | omega)) ⟨by rw [E.2.2.2]; exact (show (rmN 187).frames + 1 ≤ (rmN 218).frames by decide), by rw [E.2.2.2]; exact (show 8 + (mNL (miB 187) + 11) + (rmN 187).locals ≤ (rmN 218).locals by decide), by rw [E.2.2.2]; exact (show 0 + (rmN 187).cells ≤ (rmN 218).cells by decide), by rw [E.2.2.2]; exact (show 0 + (rmN 187).slots ≤ (rmN 218).slots by decide)⟩ (Nat.le_of_ble_eq_true rfl) (fun vv s57 hq => ?_) (fun ee s57 hq => ?_)
              rotate_left
              · obtain ⟨Is57, Fs57, e58, hv, hrs57, hps57⟩ := hq; cases hv
              obtain ⟨Is57, Fs57, e58, hv, hrs57, hps57⟩ := hq
              cases hv
              have Gs57 := fm_ts Gs9 Fs57 (by decide) (by decide)
              have b59 : (0 : Int) ≤ iI s57 73 ∧ iI s57 73 ≤ 3 := Is57.1 73
              have ws57_90 : iI s57 90 = iI s9 90 := fm_i Fs57 (by decide)
              show WS k 78 [(0, .ref (A 179)), (1, .int (Int32.ofInt x)), (2, .int (Int32.ofInt y)), (3, .int (Int32.ofInt z)), (4, .int (Int32.ofInt w))] [.int (Int32.ofInt e58)] (Wd A dT s57) 0 0
              refine z_if_eq X (t := 82) (show cdA 218 78 = some (.ifCond .eq 4, 3, 0, 0, 0) from rfl) (by decide) hrs57 (fun g60 => ?_) (fun g60 => ?_)
              ·
                refine z_load_n X (x := y) (show cdA 218 82 = some (.iload_n 2, 1, 0, 0, 0) from rfl) (List.Mem.tail _ (List.Mem.tail _ (List.Mem.head _))) ?_
                refine z_store X (lv' := [(5, .int (Int32.ofInt y)), (0, .ref (A 179)), (1, .int (Int32.ofInt x)), (2, .int (Int32.ofInt y)), (3, .int (Int32.ofInt z)), (4, .int (Int32.ofInt w))]) (show cdA 218 83 = some (.istore 5, 2, 0, 0, 0) from rfl) (by decide) (fun _ h => h) ?_
                refine WS_lv (lv := [(0, .ref (A 179)), (1, .int (Int32.ofInt x)), (3, .int (Int32.ofInt z)), (4, .int (Int32.ofInt w)), (5, .int (Int32.ofInt y))]) (List.forall_mem_cons.mpr ⟨(List.Mem.tail _ (List.Mem.head _)), (List.forall_mem_cons.mpr ⟨(List.Mem.tail _ (List.Mem.tail _ (List.Mem.head _))), (List.forall_mem_cons.mpr ⟨(List.Mem.tail _ (List.Mem.tail _ (List.Mem.tail _ (List.Mem.tail _ (List.Mem.head _))))), (List.forall_mem_cons.mpr ⟨(List.Mem.tail _ (List.Mem.tail _ (List.Mem.tail _ (List.Mem.tail _ (List.Mem.tail _ (List.Mem.head _)))))), (List.forall_mem_cons.mpr ⟨(List.Mem.head _), (fun q h => absurd h List.not_mem_nil)⟩)⟩)⟩)⟩)⟩) ?_
                refine L85 ((24 - y : Int).toNat + 1) s57 x z w y Is57 Gs57 (by first | exact ⟨by omega, oq_e5a089c2 g29 hps27, by omega, oq_0159bb48 g15 hps13, oq_9dfdc7ac g41 g29 hps27, oq_ffc9de1e g60 b59.1 hps57 g12 hps9 vs3⟩ | omega) (Nat.lt_succ_self _) ?_
                intro s61 x62 x63 x64 x65 Is61 Fs61 hs61
                have b66 : (0 : Int) ≤ iI s61 73 ∧ iI s61 73 ≤ 3 := Is61.1 73
                have b67 : (0 : Int) ≤ iI s61 90 ∧ iI s61 90 ≤ 12 := Is61.1 90
                exact w_vret X.1 q hRt (ax_d X (show cdA 218 108 = some (.return_, 1, 0, 0, 0) from rfl)) (Nat.zero_le _) (Nat.zero_le _) ⟨_, rfl, Is61, Fs61, rfl, by omega⟩
              ·
                exact w_vret X.1 q hRt (ax_d X (show cdA 218 81 = some (.return_, 1, 0, 0, 0) from rfl)) (Nat.zero_le _) (Nat.zero_le _) ⟨_, rfl, Is57, Gs57, rfl, by omega⟩
            refine z_if_ne X (t := 73) (show cdA 218 66 = some (.ifCond .ne 7, 3, 1, 0, 0) from rfl) (by decide) hrs53 (fun g68 => ?_) (fun g68 => ?_)
            ·
              refine z_const X (show cdA 218 73 = some (.iconst 0, 1, 0, 0, 0) from rfl) ?_
              exact N55 _ (Or.inl ⟨g68, rfl⟩)
            ·
              refine z_const X (show cdA 218 69 = some (.iconst 1, 1, 0, 0, 0) from rfl) ?_
              refine z_goto X (t := 74) (show cdA 218 70 = some (.goto 4, 3, 0, 0, 0) from rfl) (by decide) ?_
              exact N55 _ (Or.inr (⟨g68, rfl⟩))
  refine z_if_ne X (t := 24) (show cdA 218 17 = some (.ifCond .ne 7, 3, 1, 0, 0) from rfl) (by decide) hrs5 (fun g69 => ?_) (fun g69 => ?_)
  ·
    refine z_const X (show cdA 218 24 = some (.iconst 0, 1, 0, 0, 0) from rfl) ?_
    exact N7 _ (Or.inl ⟨g69, rfl⟩)
  ·
    refine z_const X (show cdA 218 20 = some (.iconst 1, 1, 0, 0, 0) from rfl) ?_
    refine z_goto X (t := 25) (show cdA 218 21 = some (.goto 4, 3, 0, 0, 0) from rfl) (by decide) ?_
    exact N7 _ (Or.inr (⟨g69, rfl⟩))
set_option maxRecDepth 4000 in
theorem k_span2 (G : GX l s0 D tys a0 dT) (I : Bd s) {x y z : Int} (p0 : rng x) (p1 : rng y) (p2 : rng z) : CT l s0 D A dT 219 (rmN 219) [.ref (A 179), .int (Int32.ofInt x), .int (Int32.ofInt y), .int (Int32.ofInt z)] s (fun o t => Bd t ∧ Fm [73] [163, 164] s t ∧ o = .inl none ∧ ((0 ≤ x ∧ x < iI s 90 ∧ 0 ≤ y ∧ y ≤ 2 ∧ 0 ≤ z ∧ z ≤ 2 ∧ iI t 73 = 0) ∨ ((x < 0 ∨ iI s 90 ≤ x) ∧ iI t 73 = 1) ∨ (0 ≤ x ∧ x < iI s 90 ∧ (y < 0 ∨ 2 < y ∨ z < 0 ∨ 2 < z) ∧ iI t 73 = 2))) := by
  refine ct_of G (by decide) (Nat.le_of_ble_eq_true rfl) (fun k X E hRt hXt q => ?_)
  show WS k 0 [(0, .ref (A 179)), (1, .int (Int32.ofInt x)), (2, .int (Int32.ofInt y)), (3, .int (Int32.ofInt z))] [] _ 0 0
  have F : Fm [73] [163, 164] s s := fm_rf _ _ s
  have b1 : (0 : Int) ≤ iI s 73 ∧ iI s 73 ≤ 3 := I.1 73
  have b2 : (0 : Int) ≤ iI s 90 ∧ iI s 90 ≤ 12 := I.1 90
  refine z_aload_n X (x := A 179) (show cdA 219 0 = some (.aload_n 0, 1, 0, 0, 0) from rfl) (List.Mem.head _) ?_
  refine z_const X (show cdA 219 1 = some (.iconst 0, 1, 0, 0, 0) from rfl) ?_
  refine s_putI X 179 (show cdA 219 2 = some (.putfield 172, 3, 12, 0, 0) from rfl) (by decide) rfl rfl (by decide) rfl rfl rfl ?_
  obtain ⟨s3, hs3⟩ : ∃ x0, x0 = uI s 73 (Int32.ofInt 0) := ⟨_, rfl⟩
  rw [← hs3]
  have Is3 : Bd s3 := by rw [hs3]; exact bd_I I (show (0 : Int) ≤ 0 ∧ 0 ≤ 3 by first | exact ⟨by decide, by decide⟩ | omega) (by decide)
  have Fs3 := fm_I (x := Int32.ofInt 0) F (show 73 ∈ _ by decide)
  rw [← hs3] at Fs3
  have vs3 : iI s3 73 = 0 := by rw [hs3]; exact iI_u (by decide)
  have ws3_90 : iI s3 90 = iI s 90 := by rw [hs3]; rfl
  refine z_aload_n X (x := A 179) (show cdA 219 5 = some (.aload_n 0, 1, 0, 0, 0) from rfl) (List.Mem.head _) ?_
  refine z_load_n X (x := x) (show cdA 219 6 = some (.iload_n 1, 1, 0, 0, 0) from rfl) (List.Mem.tail _ (List.Mem.head _)) ?_
  refine z_const X (show cdA 219 7 = some (.iconst 0, 1, 0, 0, 0) from rfl) ?_
  refine z_aload_n X (x := A 179) (show cdA 219 8 = some (.aload_n 0, 1, 0, 0, 0) from rfl) (List.Mem.head _) ?_
  refine z_getI X 179 (show cdA 219 9 = some (.getfield 233, 3, 12, 22, 0) from rfl) (by decide) rfl rfl ?_
  have b4 : (0 : Int) ≤ iI s3 90 ∧ iI s3 90 ≤ 12 := Is3.1 90
  refine z_const X (show cdA 219 12 = some (.iconst 1, 1, 0, 0, 0) from rfl) ?_
  refine z_sub X (show cdA 219 13 = some (.isub, 1, 0, 0, 0) from rfl) ?_
  refine z_callS X (rm := rmN 188) (As := [.int (Int32.ofInt x), .int (Int32.ofInt 0), .int (Int32.ofInt ((iI s3 90) - 1))]) (st := [.ref (A 179)]) (show cdA 219 14 = some (.invokestatic 209, 3, 188, 1, 0) from rfl) rfl (by rw [E.1, E.2.1, E.2.2.1]; exact k_in2 G Is3 (by first | exact ⟨p0.1, p0.2⟩ | omega) (by first | exact ⟨by decide, by decide⟩ | omega) (by first | exact ⟨oq_c1e961c7 b4.1, oq_d526ebd3 b4.2⟩ | omega)) ⟨by rw [E.2.2.2]; exact (show (rmN 188).frames + 1 ≤ (rmN 219).frames by decide), by rw [E.2.2.2]; exact (show 8 + (mNL (miB 188) + 11) + (rmN 188).locals ≤ (rmN 219).locals by decide), by rw [E.2.2.2]; exact (show 0 + (rmN 188).cells ≤ (rmN 219).cells by decide), by rw [E.2.2.2]; exact (show 0 + (rmN 188).slots ≤ (rmN 219).slots by decide)⟩ (Nat.le_of_ble_eq_true rfl) (fun vv s5 hq => ?_) (fun ee s5 hq => ?_)
  rotate_left
  · obtain ⟨rfl, e6, hv, hrs5, hps5⟩ := hq; cases hv
  obtain ⟨rfl, e6, hv, hrs5, hps5⟩ := hq
  cases hv
  show WS k 17 [(0, .ref (A 179)), (1, .int (Int32.ofInt x)), (2, .int (Int32.ofInt y)), (3, .int (Int32.ofInt z))] [.int (Int32.ofInt e6), .ref (A 179)] (Wd A dT s3) 0 0
  have N7 : ∀ e8 : Int, (((e6 ≠ 0) ∧ e8 = 0) ∨ ((e6 = 0) ∧ e8 = 1)) → WS k 25 [(0, .ref (A 179)), (1, .int (Int32.ofInt x)), (2, .int (Int32.ofInt y)), (3, .int (Int32.ofInt z))] [.int (Int32.ofInt e8), .ref (A 179)] (Wd A dT s3) 0 0 := by
    intro e8 he8
    have re8 : 0 ≤ e8 ∧ e8 ≤ 1 := by omega
    refine z_const X (show cdA 219 25 = some (.iconst 1, 1, 0, 0, 0) from rfl) ?_
    refine z_callV X 179 (rm := rmN 187) (As := [.int (Int32.ofInt e8), .int (Int32.ofInt 1)]) (st := []) (show cdA 219 26 = some (.invokevirtual 229, 3, 187, 0, 0) from rfl) rfl (by decide) rfl (by rw [E.1, E.2.1, E.2.2.1]; exact k_bad2 G Is3 (by first | exact oq_31e518ae re8.2 re8.1 | omega) (by first | exact ⟨by decide, by decide⟩ | omega)) ⟨by rw [E.2.2.2]; exact (show (rmN 187).frames + 1 ≤ (rmN 219).frames by decide), by rw [E.2.2.2]; exact (show 8 + (mNL (miB 187) + 11) + (rmN 187).locals ≤ (rmN 219).locals by decide), by rw [E.2.2.2]; exact (show 0 + (rmN 187).cells ≤ (rmN 219).cells by decide), by rw [E.2.2.2]; exact (show 0 + (rmN 187).slots ≤ (rmN 219).slots by decide)⟩ (Nat.le_of_ble_eq_true rfl) (fun vv s9 hq => ?_) (fun ee s9 hq => ?_)
    rotate_left
    · obtain ⟨Is9, Fs9, e10, hv, hrs9, hps9⟩ := hq; cases hv
    obtain ⟨Is9, Fs9, e10, hv, hrs9, hps9⟩ := hq
    cases hv
    have Gs9 := fm_ts Fs3 Fs9 (by decide) (by decide)
    have b11 : (0 : Int) ≤ iI s9 73 ∧ iI s9 73 ≤ 3 := Is9.1 73
    have ws9_90 : iI s9 90 = iI s3 90 := fm_i Fs9 (by decide)
    show WS k 29 [(0, .ref (A 179)), (1, .int (Int32.ofInt x)), (2, .int (Int32.ofInt y)), (3, .int (Int32.ofInt z))] [.int (Int32.ofInt e10)] (Wd A dT s9) 0 0
    refine z_if_ne X (t := 63) (show cdA 219 29 = some (.ifCond .ne 34, 3, 1, 0, 0) from rfl) (by decide) hrs9 (fun g12 => ?_) (fun g12 => ?_)
    ·
      exact w_vret X.1 q hRt (ax_d X (show cdA 219 63 = some (.return_, 1, 0, 0, 0) from rfl)) (Nat.zero_le _) (Nat.zero_le _) ⟨_, rfl, Is9, Gs9, rfl, by first | exact oq_73fba7da g12 hps9 he8 hps5 ws3_90 vs3 | omega⟩
    ·
      refine z_aload_n X (x := A 179) (show cdA 219 32 = some (.aload_n 0, 1, 0, 0, 0) from rfl) (List.Mem.head _) ?_
      refine z_load_n X (x := y) (show cdA 219 33 = some (.iload_n 2, 1, 0, 0, 0) from rfl) (List.Mem.tail _ (List.Mem.tail _ (List.Mem.head _))) ?_
      refine z_const X (show cdA 219 34 = some (.iconst 0, 1, 0, 0, 0) from rfl) ?_
      refine z_const X (show cdA 219 35 = some (.iconst 2, 1, 0, 0, 0) from rfl) ?_
      refine z_callS X (rm := rmN 188) (As := [.int (Int32.ofInt y), .int (Int32.ofInt 0), .int (Int32.ofInt 2)]) (st := [.ref (A 179)]) (show cdA 219 36 = some (.invokestatic 209, 3, 188, 1, 0) from rfl) rfl (by rw [E.1, E.2.1, E.2.2.1]; exact k_in2 G Is9 (by first | exact ⟨p1.1, p1.2⟩ | omega) (by first | exact ⟨by decide, by decide⟩ | omega) (by first | exact ⟨by decide, by decide⟩ | omega)) ⟨by rw [E.2.2.2]; exact (show (rmN 188).frames + 1 ≤ (rmN 219).frames by decide), by rw [E.2.2.2]; exact (show 8 + (mNL (miB 188) + 11) + (rmN 188).locals ≤ (rmN 219).locals by decide), by rw [E.2.2.2]; exact (show 0 + (rmN 188).cells ≤ (rmN 219).cells by decide), by rw [E.2.2.2]; exact (show 0 + (rmN 188).slots ≤ (rmN 219).slots by decide)⟩ (Nat.le_of_ble_eq_true rfl) (fun vv s13 hq => ?_) (fun ee s13 hq => ?_)
      rotate_left
      · obtain ⟨rfl, e14, hv, hrs13, hps13⟩ := hq; cases hv
      obtain ⟨rfl, e14, hv, hrs13, hps13⟩ := hq
      cases hv
      show WS k 39 [(0, .ref (A 179)), (1, .int (Int32.ofInt x)), (2, .int (Int32.ofInt y)), (3, .int (Int32.ofInt z))] [.int (Int32.ofInt e14), .ref (A 179)] (Wd A dT s9) 0 0
      refine z_if_eq X (t := 51) (show cdA 219 39 = some (.ifCond .eq 12, 3, 0, 0, 0) from rfl) (by decide) hrs13 (fun g15 => ?_) (fun g15 => ?_)
      ·
        refine z_const X (show cdA 219 51 = some (.iconst 1, 1, 0, 0, 0) from rfl) ?_
        refine z_goto X (t := 56) (show cdA 219 52 = some (.goto 4, 3, 0, 0, 0) from rfl) (by decide) ?_
        refine z_const X (show cdA 219 56 = some (.iconst 2, 1, 0, 0, 0) from rfl) ?_
        refine z_callV X 179 (rm := rmN 187) (As := [.int (Int32.ofInt 1), .int (Int32.ofInt 2)]) (st := []) (show cdA 219 57 = some (.invokevirtual 229, 3, 187, 0, 0) from rfl) rfl (by decide) rfl (by rw [E.1, E.2.1, E.2.2.1]; exact k_bad2 G Is9 (by first | exact Or.inr (by decide) | omega) (by first | exact ⟨by decide, by decide⟩ | omega)) ⟨by rw [E.2.2.2]; exact (show (rmN 187).frames + 1 ≤ (rmN 219).frames by decide), by rw [E.2.2.2]; exact (show 8 + (mNL (miB 187) + 11) + (rmN 187).locals ≤ (rmN 219).locals by decide), by rw [E.2.2.2]; exact (show 0 + (rmN 187).cells ≤ (rmN 219).cells by decide), by rw [E.2.2.2]; exact (show 0 + (rmN 187).slots ≤ (rmN 219).slots by decide)⟩ (Nat.le_of_ble_eq_true rfl) (fun vv s16 hq => ?_) (fun ee s16 hq => ?_)
        rotate_left
        · obtain ⟨Is16, Fs16, e17, hv, hrs16, hps16⟩ := hq; cases hv
        obtain ⟨Is16, Fs16, e17, hv, hrs16, hps16⟩ := hq
        cases hv
        have Gs16 := fm_ts Gs9 Fs16 (by decide) (by decide)
        have b18 : (0 : Int) ≤ iI s16 73 ∧ iI s16 73 ≤ 3 := Is16.1 73
        have ws16_90 : iI s16 90 = iI s9 90 := fm_i Fs16 (by decide)
        show WS k 60 [(0, .ref (A 179)), (1, .int (Int32.ofInt x)), (2, .int (Int32.ofInt y)), (3, .int (Int32.ofInt z))] [.int (Int32.ofInt e17)] (Wd A dT s16) 0 0
        refine z_if_eq X (t := 64) (show cdA 219 60 = some (.ifCond .eq 4, 3, 0, 0, 0) from rfl) (by decide) hrs16 (fun g19 => ?_) (fun g19 => ?_)
        ·
          refine z_aload_n X (x := A 179) (show cdA 219 64 = some (.aload_n 0, 1, 0, 0, 0) from rfl) (List.Mem.head _) ?_
          refine s_getR X 179 (show cdA 219 65 = some (.getfield 38, 3, 12, 24, 0) from rfl) (by decide) rfl rfl ?_
          refine z_load_n X (x := x) (show cdA 219 68 = some (.iload_n 1, 1, 0, 0, 0) from rfl) (List.Mem.tail _ (List.Mem.head _)) ?_
          refine z_load_n X (x := y) (show cdA 219 69 = some (.iload_n 2, 1, 0, 0, 0) from rfl) (List.Mem.tail _ (List.Mem.tail _ (List.Mem.head _))) ?_
          refine z_ast X 186 (show cdA 219 70 = some (.iastore, 1, 0, 0, 0) from rfl) (by decide) rfl (by first | exact oq_50a02c5b g19 hps16 g12 b11.1 hps9 vs3 | omega) (show x < 12 by first | exact oq_b915df81 g19 hps16 g12 b11.1 hps9 vs3 | omega) (by decide) ?_
          obtain ⟨s20, hs20⟩ : ∃ x0, x0 = uC s16 163 (x).toNat (Int32.ofInt y) := ⟨_, rfl⟩
          rw [← hs20]
          have Is20 : Bd s20 := by rw [hs20]; exact bd_C Is16 (show (0 : Int) ≤ y ∧ y ≤ 2 by first | exact ⟨oq_50a02c5b g19 hps16 g12 b11.1 hps9 vs3, oq_b78e71ae g19 hps16 g12 b11.1 hps9 vs3⟩ | omega) ⟨by first | exact p1.1 | omega, by first | exact p1.2 | omega⟩
          have Fs20 := fm_C (i := (x).toNat) (x := Int32.ofInt y) Gs16 (show 163 ∈ _ by decide)
          rw [← hs20] at Fs20
          have ws20_73 : iI s20 73 = iI s16 73 := by rw [hs20]; rfl
          have ws20_90 : iI s20 90 = iI s16 90 := by rw [hs20]; rfl
          refine z_aload_n X (x := A 179) (show cdA 219 71 = some (.aload_n 0, 1, 0, 0, 0) from rfl) (List.Mem.head _) ?_
          refine s_getR X 179 (show cdA 219 72 = some (.getfield 41, 3, 12, 25, 0) from rfl) (by decide) rfl rfl ?_
          refine z_load_n X (x := x) (show cdA 219 75 = some (.iload_n 1, 1, 0, 0, 0) from rfl) (List.Mem.tail _ (List.Mem.head _)) ?_
          refine z_load_n X (x := z) (show cdA 219 76 = some (.iload_n 3, 1, 0, 0, 0) from rfl) (List.Mem.tail _ (List.Mem.tail _ (List.Mem.tail _ (List.Mem.head _)))) ?_
          refine z_ast X 187 (show cdA 219 77 = some (.iastore, 1, 0, 0, 0) from rfl) (by decide) rfl (by first | exact oq_50a02c5b g19 hps16 g12 b11.1 hps9 vs3 | omega) (show x < 12 by first | exact oq_b915df81 g19 hps16 g12 b11.1 hps9 vs3 | omega) (by decide) ?_
          obtain ⟨s21, hs21⟩ : ∃ x0, x0 = uC s20 164 (x).toNat (Int32.ofInt z) := ⟨_, rfl⟩
          rw [← hs21]
          have Is21 : Bd s21 := by rw [hs21]; exact bd_C Is20 (show (0 : Int) ≤ z ∧ z ≤ 2 by first | exact ⟨oq_50a02c5b g19 hps16 g12 b11.1 hps9 vs3, oq_b78e71ae g19 hps16 g12 b11.1 hps9 vs3⟩ | omega) ⟨by first | exact p2.1 | omega, by first | exact p2.2 | omega⟩
          have Fs21 := fm_C (i := (x).toNat) (x := Int32.ofInt z) Fs20 (show 164 ∈ _ by decide)
          rw [← hs21] at Fs21
          have ws21_73 : iI s21 73 = iI s20 73 := by rw [hs21]; rfl
          have ws21_90 : iI s21 90 = iI s20 90 := by rw [hs21]; rfl
          exact w_vret X.1 q hRt (ax_d X (show cdA 219 78 = some (.return_, 1, 0, 0, 0) from rfl)) (Nat.zero_le _) (Nat.zero_le _) ⟨_, rfl, Is21, Fs21, rfl, by first | exact oq_41fefaee g19 hps16 g12 b11.1 hps9 vs3 | omega⟩
        ·
          exact w_vret X.1 q hRt (ax_d X (show cdA 219 63 = some (.return_, 1, 0, 0, 0) from rfl)) (Nat.zero_le _) (Nat.zero_le _) ⟨_, rfl, Is16, Gs16, rfl, by first | exact oq_72927a19 g19 hps16 g15 hps13 g12 b11.1 hps9 he8 hps5 ws3_90 vs3 | omega⟩
      ·
        refine z_load_n X (x := z) (show cdA 219 42 = some (.iload_n 3, 1, 0, 0, 0) from rfl) (List.Mem.tail _ (List.Mem.tail _ (List.Mem.tail _ (List.Mem.head _)))) ?_
        refine z_const X (show cdA 219 43 = some (.iconst 0, 1, 0, 0, 0) from rfl) ?_
        refine z_const X (show cdA 219 44 = some (.iconst 2, 1, 0, 0, 0) from rfl) ?_
        refine z_callS X (rm := rmN 188) (As := [.int (Int32.ofInt z), .int (Int32.ofInt 0), .int (Int32.ofInt 2)]) (st := [.ref (A 179)]) (show cdA 219 45 = some (.invokestatic 209, 3, 188, 1, 0) from rfl) rfl (by rw [E.1, E.2.1, E.2.2.1]; exact k_in2 G Is9 (by first | exact ⟨p2.1, p2.2⟩ | omega) (by first | exact ⟨by decide, by decide⟩ | omega) (by first | exact ⟨by decide, by decide⟩ | omega)) ⟨by rw [E.2.2.2]; exact (show (rmN 188).frames + 1 ≤ (rmN 219).frames by decide), by rw [E.2.2.2]; exact (show 8 + (mNL (miB 188) + 11) + (rmN 188).locals ≤ (rmN 219).locals by decide), by rw [E.2.2.2]; exact (show 0 + (rmN 188).cells ≤ (rmN 219).cells by decide), by rw [E.2.2.2]; exact (show 0 + (rmN 188).slots ≤ (rmN 219).slots by decide)⟩ (Nat.le_of_ble_eq_true rfl) (fun vv s22 hq => ?_) (fun ee s22 hq => ?_)
        rotate_left
        · obtain ⟨rfl, e23, hv, hrs22, hps22⟩ := hq; cases hv
        obtain ⟨rfl, e23, hv, hrs22, hps22⟩ := hq
        cases hv
        show WS k 48 [(0, .ref (A 179)), (1, .int (Int32.ofInt x)), (2, .int (Int32.ofInt y)), (3, .int (Int32.ofInt z))] [.int (Int32.ofInt e23), .ref (A 179)] (Wd A dT s9) 0 0
        have N24 : ∀ e25 : Int, (((e23 ≠ 0) ∧ e25 = 0) ∨ ((e23 = 0) ∧ e25 = 1)) → WS k 56 [(0, .ref (A 179)), (1, .int (Int32.ofInt x)), (2, .int (Int32.ofInt y)), (3, .int (Int32.ofInt z))] [.int (Int32.ofInt e25), .ref (A 179)] (Wd A dT s9) 0 0 := by
          intro e25 he25
          have re25 : 0 ≤ e25 ∧ e25 ≤ 1 := by omega
          refine z_const X (show cdA 219 56 = some (.iconst 2, 1, 0, 0, 0) from rfl) ?_
          refine z_callV X 179 (rm := rmN 187) (As := [.int (Int32.ofInt e25), .int (Int32.ofInt 2)]) (st := []) (show cdA 219 57 = some (.invokevirtual 229, 3, 187, 0, 0) from rfl) rfl (by decide) rfl (by rw [E.1, E.2.1, E.2.2.1]; exact k_bad2 G Is9 (by first | exact oq_31e518ae re25.2 re25.1 | omega) (by first | exact ⟨by decide, by decide⟩ | omega)) ⟨by rw [E.2.2.2]; exact (show (rmN 187).frames + 1 ≤ (rmN 219).frames by decide), by rw [E.2.2.2]; exact (show 8 + (mNL (miB 187) + 11) + (rmN 187).locals ≤ (rmN 219).locals by decide), by rw [E.2.2.2]; exact (show 0 + (rmN 187).cells ≤ (rmN 219).cells by decide), by rw [E.2.2.2]; exact (show 0 + (rmN 187).slots ≤ (rmN 219).slots by decide)⟩ (Nat.le_of_ble_eq_true rfl) (fun vv s26 hq => ?_) (fun ee s26 hq => ?_)
          rotate_left
          · obtain ⟨Is26, Fs26, e27, hv, hrs26, hps26⟩ := hq; cases hv
          obtain ⟨Is26, Fs26, e27, hv, hrs26, hps26⟩ := hq
          cases hv
          have Gs26 := fm_ts Gs9 Fs26 (by decide) (by decide)
          have b28 : (0 : Int) ≤ iI s26 73 ∧ iI s26 73 ≤ 3 := Is26.1 73
          have ws26_90 : iI s26 90 = iI s9 90 := fm_i Fs26 (by decide)
          show WS k 60 [(0, .ref (A 179)), (1, .int (Int32.ofInt x)), (2, .int (Int32.ofInt y)), (3, .int (Int32.ofInt z))] [.int (Int32.ofInt e27)] (Wd A dT s26) 0 0
          refine z_if_eq X (t := 64) (show cdA 219 60 = some (.ifCond .eq 4, 3, 0, 0, 0) from rfl) (by decide) hrs26 (fun g29 => ?_) (fun g29 => ?_)
          ·
            refine z_aload_n X (x := A 179) (show cdA 219 64 = some (.aload_n 0, 1, 0, 0, 0) from rfl) (List.Mem.head _) ?_
            refine s_getR X 179 (show cdA 219 65 = some (.getfield 38, 3, 12, 24, 0) from rfl) (by decide) rfl rfl ?_
            refine z_load_n X (x := x) (show cdA 219 68 = some (.iload_n 1, 1, 0, 0, 0) from rfl) (List.Mem.tail _ (List.Mem.head _)) ?_
            refine z_load_n X (x := y) (show cdA 219 69 = some (.iload_n 2, 1, 0, 0, 0) from rfl) (List.Mem.tail _ (List.Mem.tail _ (List.Mem.head _))) ?_
            refine z_ast X 186 (show cdA 219 70 = some (.iastore, 1, 0, 0, 0) from rfl) (by decide) rfl (by omega) (show x < 12 by omega) (by decide) ?_
            obtain ⟨s30, hs30⟩ : ∃ x0, x0 = uC s26 163 (x).toNat (Int32.ofInt y) := ⟨_, rfl⟩
            rw [← hs30]
            have Is30 : Bd s30 := by rw [hs30]; exact bd_C Is26 (show (0 : Int) ≤ y ∧ y ≤ 2 by first | exact ⟨oq_ed86839e g15 hps13, oq_1e4f7caf g15 hps13⟩ | omega) ⟨by first | exact p1.1 | omega, by first | exact p1.2 | omega⟩
            have Fs30 := fm_C (i := (x).toNat) (x := Int32.ofInt y) Gs26 (show 163 ∈ _ by decide)
            rw [← hs30] at Fs30
            have ws30_73 : iI s30 73 = iI s26 73 := by rw [hs30]; rfl
            have ws30_90 : iI s30 90 = iI s26 90 := by rw [hs30]; rfl
            refine z_aload_n X (x := A 179) (show cdA 219 71 = some (.aload_n 0, 1, 0, 0, 0) from rfl) (List.Mem.head _) ?_
            refine s_getR X 179 (show cdA 219 72 = some (.getfield 41, 3, 12, 25, 0) from rfl) (by decide) rfl rfl ?_
            refine z_load_n X (x := x) (show cdA 219 75 = some (.iload_n 1, 1, 0, 0, 0) from rfl) (List.Mem.tail _ (List.Mem.head _)) ?_
            refine z_load_n X (x := z) (show cdA 219 76 = some (.iload_n 3, 1, 0, 0, 0) from rfl) (List.Mem.tail _ (List.Mem.tail _ (List.Mem.tail _ (List.Mem.head _)))) ?_
            refine z_ast X 187 (show cdA 219 77 = some (.iastore, 1, 0, 0, 0) from rfl) (by decide) rfl (by first | exact oq_b1e4434e g12 hps9 he8 hps5 vs3 | omega) (show x < 12 by first | exact oq_00fd1383 g12 hps9 he8 hps5 b4.2 vs3 | omega) (by decide) ?_
            obtain ⟨s31, hs31⟩ : ∃ x0, x0 = uC s30 164 (x).toNat (Int32.ofInt z) := ⟨_, rfl⟩
            rw [← hs31]
            have Is31 : Bd s31 := by rw [hs31]; exact bd_C Is30 (show (0 : Int) ≤ z ∧ z ≤ 2 by first | exact ⟨oq_69fe46bc g29 hps26 he25 hps22 g12 b11.1 hps9 vs3, oq_bf244170 g29 hps26 he25 hps22 g12 b11.1 hps9 vs3⟩ | omega) ⟨by first | exact p2.1 | omega, by first | exact p2.2 | omega⟩
            have Fs31 := fm_C (i := (x).toNat) (x := Int32.ofInt z) Fs30 (show 164 ∈ _ by decide)
            rw [← hs31] at Fs31
            have ws31_73 : iI s31 73 = iI s30 73 := by rw [hs31]; rfl
            have ws31_90 : iI s31 90 = iI s30 90 := by rw [hs31]; rfl
            exact w_vret X.1 q hRt (ax_d X (show cdA 219 78 = some (.return_, 1, 0, 0, 0) from rfl)) (Nat.zero_le _) (Nat.zero_le _) ⟨_, rfl, Is31, Fs31, rfl, by omega⟩
          ·
            exact w_vret X.1 q hRt (ax_d X (show cdA 219 63 = some (.return_, 1, 0, 0, 0) from rfl)) (Nat.zero_le _) (Nat.zero_le _) ⟨_, rfl, Is26, Gs26, rfl, by omega⟩
        refine z_if_ne X (t := 55) (show cdA 219 48 = some (.ifCond .ne 7, 3, 1, 0, 0) from rfl) (by decide) hrs22 (fun g32 => ?_) (fun g32 => ?_)
        ·
          refine z_const X (show cdA 219 55 = some (.iconst 0, 1, 0, 0, 0) from rfl) ?_
          exact N24 _ (Or.inl ⟨g32, rfl⟩)
        ·
          refine z_const X (show cdA 219 51 = some (.iconst 1, 1, 0, 0, 0) from rfl) ?_
          refine z_goto X (t := 56) (show cdA 219 52 = some (.goto 4, 3, 0, 0, 0) from rfl) (by decide) ?_
          exact N24 _ (Or.inr (⟨g32, rfl⟩))
  refine z_if_ne X (t := 24) (show cdA 219 17 = some (.ifCond .ne 7, 3, 1, 0, 0) from rfl) (by decide) hrs5 (fun g33 => ?_) (fun g33 => ?_)
  ·
    refine z_const X (show cdA 219 24 = some (.iconst 0, 1, 0, 0, 0) from rfl) ?_
    exact N7 _ (Or.inl ⟨g33, rfl⟩)
  ·
    refine z_const X (show cdA 219 20 = some (.iconst 1, 1, 0, 0, 0) from rfl) ?_
    refine z_goto X (t := 25) (show cdA 219 21 = some (.goto 4, 3, 0, 0, 0) from rfl) (by decide) ?_
    exact N7 _ (Or.inr (⟨g33, rfl⟩))
set_option maxRecDepth 4000 in
theorem cs_needStream2 (G : GX l s0 D tys a0 dT) (I : Bd s) {v : Int} (p0 : rng v) : CT l s0 D A dT 180 (rmN 180) [.ref (A 0), .int (Int32.ofInt v)] s (fun o t => Bd t ∧ Fm [] [] s t ∧ ((o = .inl none ∧ (0 ≤ v ∧ v < iI s 9)) ∨ ∃ x : Nat, o = .inr (exN x) ∧ (x = 1 ∧ (v < 0 ∨ iI s 9 ≤ v)))) := by
  refine ct_ofX G (by decide) (Nat.le_of_ble_eq_true rfl) (fun k X E ET hRt hXt q => ?_)
  show WS k 0 [(0, .ref (A 0)), (1, .int (Int32.ofInt v))] [] _ 0 0
  have F : Fm [] [] s s := fm_rf _ _ s
  have b1 : (0 : Int) ≤ iI s 9 ∧ iI s 9 ≤ 12 := I.1 9
  refine z_load_n X (x := v) (show cdA 180 0 = some (.iload_n 1, 1, 0, 0, 0) from rfl) (List.Mem.tail _ (List.Mem.head _)) ?_
  refine z_if_lt X (t := 15) (show cdA 180 1 = some (.ifCond .lt 14, 3, 2, 0, 0) from rfl) (by decide) ⟨by first | exact p0.1 | omega, by first | exact p0.2 | omega⟩ (fun g2 => ?_) (fun g2 => ?_)
  ·
    exact z_throw G X E ET hXt q (st := []) (show cdA 180 15 = some (.new 274, 3, 1, 2, 0) from rfl) (by decide) (by decide) (Nat.le_of_ble_eq_true rfl) (show 0 + 1 ≤ 1 by omega) (show 0 + 6 ≤ 6 by omega) (show 0 + 1 ≤ 1 by omega) (show 0 + 6 ≤ 6 by omega) ⟨_, rfl, I, F, Or.inr ⟨1, rfl, by omega⟩⟩
  ·
    refine z_load_n X (x := v) (show cdA 180 4 = some (.iload_n 1, 1, 0, 0, 0) from rfl) (List.Mem.tail _ (List.Mem.head _)) ?_
    refine z_aload_n X (x := A 0) (show cdA 180 5 = some (.aload_n 0, 1, 0, 0, 0) from rfl) (List.Mem.head _) ?_
    refine s_getR X 0 (show cdA 180 6 = some (.getfield 19, 3, 11, 1, 0) from rfl) (by decide) rfl rfl ?_
    refine z_getI X 3 (show cdA 180 9 = some (.getfield 383, 3, 9, 0, 0) from rfl) (by decide) rfl rfl ?_
    have b3 : (0 : Int) ≤ iI s 9 ∧ iI s 9 ≤ 12 := I.1 9
    refine z_icmp_lt X (t := 26) (show cdA 180 12 = some (.if_icmp .lt 14, 3, 2, 0, 0) from rfl) (by decide) ⟨by first | exact p0.1 | omega, by first | exact p0.2 | omega⟩ (rng_to _) (fun g4 => ?_) (fun g4 => ?_)
    ·
      exact w_vret X.1 q hRt (ax_d X (show cdA 180 26 = some (.return_, 1, 0, 0, 0) from rfl)) (Nat.zero_le _) (Nat.zero_le _) ⟨_, rfl, I, F, Or.inl ⟨rfl, by first | exact ⟨g2, g4⟩ | omega⟩⟩
    ·
      exact z_throw G X E ET hXt q (st := []) (show cdA 180 15 = some (.new 274, 3, 1, 2, 0) from rfl) (by decide) (by decide) (Nat.le_of_ble_eq_true rfl) (show 0 + 1 ≤ 1 by omega) (show 0 + 6 ≤ 6 by omega) (show 0 + 1 ≤ 1 by omega) (show 0 + 6 ≤ 6 by omega) ⟨_, rfl, I, F, Or.inr ⟨1, rfl, by omega⟩⟩
set_option maxRecDepth 4000 in
theorem cs_needQuarter2 (G : GX l s0 D tys a0 dT) (I : Bd s) {v : Int} (p0 : rng v) : CT l s0 D A dT 183 (rmN 183) [.ref (A 0), .int (Int32.ofInt v)] s (fun o t => Bd t ∧ Fm [] [] s t ∧ ((o = .inl none ∧ (0 ≤ v ∧ v ≤ 23)) ∨ ∃ x : Nat, o = .inr (exN x) ∧ (x = 0 ∧ (v < 0 ∨ 23 < v)))) := by
  refine ct_ofX G (by decide) (Nat.le_of_ble_eq_true rfl) (fun k X E ET hRt hXt q => ?_)
  show WS k 0 [(0, .ref (A 0)), (1, .int (Int32.ofInt v))] [] _ 0 0
  have F : Fm [] [] s s := fm_rf _ _ s
  refine z_aload_n X (x := A 0) (show cdA 183 0 = some (.aload_n 0, 1, 0, 0, 0) from rfl) (List.Mem.head _) ?_
  refine z_load_n X (x := v) (show cdA 183 1 = some (.iload_n 1, 1, 0, 0, 0) from rfl) (List.Mem.tail _ (List.Mem.head _)) ?_
  refine z_const X (show cdA 183 2 = some (.iconst 0, 1, 0, 0, 0) from rfl) ?_
  refine z_bipush X (show cdA 183 3 = some (.bipush 23, 2, 0, 0, 23) from rfl) ?_
  refine z_callV X 0 (rm := rmN 184) (As := [.int (Int32.ofInt v), .int (Int32.ofInt 0), .int (Int32.ofInt 23)]) (st := []) (show cdA 183 5 = some (.invokevirtual 151, 3, 184, 0, 0) from rfl) rfl (by decide) rfl (by rw [E.1, E.2.1, E.2.2.1]; exact cs_needWithin2 G I (by first | exact ⟨p0.1, p0.2⟩ | omega) (by first | exact ⟨by decide, by decide⟩ | omega) (by first | exact ⟨by decide, by decide⟩ | omega)) ⟨by rw [E.2.2.2]; exact (show (rmN 184).frames + 1 ≤ (rmN 183).frames by decide), by rw [E.2.2.2]; exact (show 8 + (mNL (miB 184) + 11) + (rmN 184).locals ≤ (rmN 183).locals by decide), by rw [E.2.2.2]; exact (show 0 + 1 ≤ 1 by omega), by rw [E.2.2.2]; exact (show 0 + 6 ≤ 6 by omega)⟩ (Nat.le_of_ble_eq_true rfl) (fun vv s1 hq => ?_) (fun ee s1 hq => ?_)
  rotate_left
  · obtain ⟨Is1, Fs1, (⟨hv, hps1⟩ | ⟨xx, hv, hps1⟩)⟩ := hq
    · cases hv
    · cases hv
      have Gs1 := fm_ts F Fs1 (by decide) (by decide)
      exact x_out X.1 q (fun x hx => (hXt x hx).elim) (show 1 ≤ 1 by omega) (show 6 ≤ 6 by omega) ⟨_, rfl, Is1, Gs1, Or.inr ⟨xx, rfl, by omega⟩⟩
  obtain ⟨Is1, Fs1, (⟨hv, hps1⟩ | ⟨xx, hv, hps1⟩)⟩ := hq
  rotate_left
  · cases hv
  cases hv
  have Gs1 := fm_ts F Fs1 (by decide) (by decide)
  show WS k 8 [(0, .ref (A 0)), (1, .int (Int32.ofInt v))] [] (Wd A dT s1) 1 6
  exact w_vret X.1 q hRt (ax_d X (show cdA 183 8 = some (.return_, 1, 0, 0, 0) from rfl)) (show 1 ≤ 1 by omega) (show 6 ≤ 6 by omega) ⟨_, rfl, Is1, Gs1, Or.inl ⟨rfl, by first | exact ⟨hps1.1, hps1.2⟩ | omega⟩⟩
set_option maxRecDepth 4000 in
theorem cs_flow2 (G : GX l s0 D tys a0 dT) (I : Bd s) {u v p w : Int} (p0 : rng u) (p1 : rng v) (p2 : rng p) (p3 : rng w) : CT l s0 D A dT 140 (rmN 140) [.ref (A 0), .int (Int32.ofInt u), .int (Int32.ofInt v), .int (Int32.ofInt p), .int (Int32.ofInt w)] s (fun o t => Bd t ∧ Fm [] [8, 11, 12, 13, 14] s t ∧ ((o = .inl none ∧ (0 ≤ u ∧ u < iI s 9 ∧ 0 ≤ v ∧ v ≤ 23 ∧ 0 ≤ p ∧ p ≤ 23 ∧ v ≤ p ∧ 0 ≤ w ∧ w ≤ 50)) ∨ ∃ x : Nat, o = .inr (exN x) ∧ (((x = 1 ∧ (u < 0 ∨ iI s 9 ≤ u)) ∨ (x = 0 ∧ 0 ≤ u ∧ u < iI s 9 ∧ (v < 0 ∨ 23 < v ∨ p < 0 ∨ 23 < p ∨ p < v ∨ w < 0 ∨ 50 < w)))))) := by
  refine ct_ofX G (by decide) (Nat.le_of_ble_eq_true rfl) (fun k X E ET hRt hXt q => ?_)
  show WS k 0 [(0, .ref (A 0)), (1, .int (Int32.ofInt u)), (2, .int (Int32.ofInt v)), (3, .int (Int32.ofInt p)), (4, .int (Int32.ofInt w))] [] _ 0 0
  have F : Fm [] [8, 11, 12, 13, 14] s s := fm_rf _ _ s
  have b1 : (0 : Int) ≤ iI s 9 ∧ iI s 9 ≤ 12 := I.1 9
  refine z_aload_n X (x := A 0) (show cdA 140 0 = some (.aload_n 0, 1, 0, 0, 0) from rfl) (List.Mem.head _) ?_
  refine z_load_n X (x := u) (show cdA 140 1 = some (.iload_n 1, 1, 0, 0, 0) from rfl) (List.Mem.tail _ (List.Mem.head _)) ?_
  refine z_callV X 0 (rm := rmN 180) (As := [.int (Int32.ofInt u)]) (st := []) (show cdA 140 2 = some (.invokevirtual 140, 3, 180, 0, 0) from rfl) rfl (by decide) rfl (by rw [E.1, E.2.1, E.2.2.1]; exact cs_needStream2 G I (by first | exact ⟨p0.1, p0.2⟩ | omega)) ⟨by rw [E.2.2.2]; exact (show (rmN 180).frames + 1 ≤ (rmN 140).frames by decide), by rw [E.2.2.2]; exact (show 8 + (mNL (miB 180) + 11) + (rmN 180).locals ≤ (rmN 140).locals by decide), by rw [E.2.2.2]; exact (show 0 + 1 ≤ 5 by omega), by rw [E.2.2.2]; exact (show 0 + 6 ≤ 30 by omega)⟩ (Nat.le_of_ble_eq_true rfl) (fun vv s2 hq => ?_) (fun ee s2 hq => ?_)
  rotate_left
  · obtain ⟨Is2, Fs2, (⟨hv, hps2⟩ | ⟨xx, hv, hps2⟩)⟩ := hq
    · cases hv
    · cases hv
      have Gs2 := fm_ts F Fs2 (by decide) (by decide)
      have ws2_9 : iI s2 9 = iI s 9 := fm_i Fs2 (by decide)
      exact x_out X.1 q (fun x hx => (hXt x hx).elim) (show 1 ≤ 5 by omega) (show 6 ≤ 30 by omega) ⟨_, rfl, Is2, Gs2, Or.inr ⟨xx, rfl, by omega⟩⟩
  obtain ⟨Is2, Fs2, (⟨hv, hps2⟩ | ⟨xx, hv, hps2⟩)⟩ := hq
  rotate_left
  · cases hv
  cases hv
  have Gs2 := fm_ts F Fs2 (by decide) (by decide)
  have ws2_9 : iI s2 9 = iI s 9 := fm_i Fs2 (by decide)
  show WS k 5 [(0, .ref (A 0)), (1, .int (Int32.ofInt u)), (2, .int (Int32.ofInt v)), (3, .int (Int32.ofInt p)), (4, .int (Int32.ofInt w))] [] (Wd A dT s2) 1 6
  refine z_aload_n X (x := A 0) (show cdA 140 5 = some (.aload_n 0, 1, 0, 0, 0) from rfl) (List.Mem.head _) ?_
  refine z_load_n X (x := v) (show cdA 140 6 = some (.iload_n 2, 1, 0, 0, 0) from rfl) (List.Mem.tail _ (List.Mem.tail _ (List.Mem.head _))) ?_
  refine z_callV X 0 (rm := rmN 183) (As := [.int (Int32.ofInt v)]) (st := []) (show cdA 140 7 = some (.invokevirtual 148, 3, 183, 0, 0) from rfl) rfl (by decide) rfl (by rw [E.1, E.2.1, E.2.2.1]; exact cs_needQuarter2 G Is2 (by first | exact ⟨p1.1, p1.2⟩ | omega)) ⟨by rw [E.2.2.2]; exact (show (rmN 183).frames + 1 ≤ (rmN 140).frames by decide), by rw [E.2.2.2]; exact (show 8 + (mNL (miB 183) + 11) + (rmN 183).locals ≤ (rmN 140).locals by decide), by rw [E.2.2.2]; exact (show 1 + 1 ≤ 5 by omega), by rw [E.2.2.2]; exact (show 6 + 6 ≤ 30 by omega)⟩ (Nat.le_of_ble_eq_true rfl) (fun vv s4 hq => ?_) (fun ee s4 hq => ?_)
  rotate_left
  · obtain ⟨Is4, Fs4, (⟨hv, hps4⟩ | ⟨xx, hv, hps4⟩)⟩ := hq
    · cases hv
    · cases hv
      have Gs4 := fm_ts Gs2 Fs4 (by decide) (by decide)
      have ws4_9 : iI s4 9 = iI s2 9 := fm_i Fs4 (by decide)
      exact x_out X.1 q (fun x hx => (hXt x hx).elim) (show (1 + 1) ≤ 5 by omega) (show (6 + 6) ≤ 30 by omega) ⟨_, rfl, Is4, Gs4, Or.inr ⟨xx, rfl, by omega⟩⟩
  obtain ⟨Is4, Fs4, (⟨hv, hps4⟩ | ⟨xx, hv, hps4⟩)⟩ := hq
  rotate_left
  · cases hv
  cases hv
  have Gs4 := fm_ts Gs2 Fs4 (by decide) (by decide)
  have ws4_9 : iI s4 9 = iI s2 9 := fm_i Fs4 (by decide)
  show WS k 10 [(0, .ref (A 0)), (1, .int (Int32.ofInt u)), (2, .int (Int32.ofInt v)), (3, .int (Int32.ofInt p)), (4, .int (Int32.ofInt w))] [] (Wd A dT s4) (1 + 1) (6 + 6)
  refine z_aload_n X (x := A 0) (show cdA 140 10 = some (.aload_n 0, 1, 0, 0, 0) from rfl) (List.Mem.head _) ?_
  refine z_load_n X (x := p) (show cdA 140 11 = some (.iload_n 3, 1, 0, 0, 0) from rfl) (List.Mem.tail _ (List.Mem.tail _ (List.Mem.tail _ (List.Mem.head _)))) ?_
  refine z_callV X 0 (rm := rmN 183) (As := [.int (Int32.ofInt p)]) (st := []) (show cdA 140 12 = some (.invokevirtual 148, 3, 183, 0, 0) from rfl) rfl (by decide) rfl (by rw [E.1, E.2.1, E.2.2.1]; exact cs_needQuarter2 G Is4 (by first | exact ⟨p2.1, p2.2⟩ | omega)) ⟨by rw [E.2.2.2]; exact (show (rmN 183).frames + 1 ≤ (rmN 140).frames by decide), by rw [E.2.2.2]; exact (show 8 + (mNL (miB 183) + 11) + (rmN 183).locals ≤ (rmN 140).locals by decide), by rw [E.2.2.2]; exact (show (1 + 1) + 1 ≤ 5 by omega), by rw [E.2.2.2]; exact (show (6 + 6) + 6 ≤ 30 by omega)⟩ (Nat.le_of_ble_eq_true rfl) (fun vv s6 hq => ?_) (fun ee s6 hq => ?_)
  rotate_left
  · obtain ⟨Is6, Fs6, (⟨hv, hps6⟩ | ⟨xx, hv, hps6⟩)⟩ := hq
    · cases hv
    · cases hv
      have Gs6 := fm_ts Gs4 Fs6 (by decide) (by decide)
      have ws6_9 : iI s6 9 = iI s4 9 := fm_i Fs6 (by decide)
      exact x_out X.1 q (fun x hx => (hXt x hx).elim) (show ((1 + 1) + 1) ≤ 5 by omega) (show ((6 + 6) + 6) ≤ 30 by omega) ⟨_, rfl, Is6, Gs6, Or.inr ⟨xx, rfl, by omega⟩⟩
  obtain ⟨Is6, Fs6, (⟨hv, hps6⟩ | ⟨xx, hv, hps6⟩)⟩ := hq
  rotate_left
  · cases hv
  cases hv
  have Gs6 := fm_ts Gs4 Fs6 (by decide) (by decide)
  have ws6_9 : iI s6 9 = iI s4 9 := fm_i Fs6 (by decide)
  show WS k 15 [(0, .ref (A 0)), (1, .int (Int32.ofInt u)), (2, .int (Int32.ofInt v)), (3, .int (Int32.ofInt p)), (4, .int (Int32.ofInt w))] [] (Wd A dT s6) ((1 + 1) + 1) ((6 + 6) + 6)
  refine z_aload_n X (x := A 0) (show cdA 140 15 = some (.aload_n 0, 1, 0, 0, 0) from rfl) (List.Mem.head _) ?_
  refine z_load X (x := w) (show cdA 140 16 = some (.iload 4, 2, 0, 0, 0) from rfl) (List.Mem.tail _ (List.Mem.tail _ (List.Mem.tail _ (List.Mem.tail _ (List.Mem.head _))))) ?_
  refine z_const X (show cdA 140 18 = some (.iconst 0, 1, 0, 0, 0) from rfl) ?_
  refine z_bipush X (show cdA 140 19 = some (.bipush 50, 2, 0, 0, 50) from rfl) ?_
  refine z_callV X 0 (rm := rmN 184) (As := [.int (Int32.ofInt w), .int (Int32.ofInt 0), .int (Int32.ofInt 50)]) (st := []) (show cdA 140 21 = some (.invokevirtual 151, 3, 184, 0, 0) from rfl) rfl (by decide) rfl (by rw [E.1, E.2.1, E.2.2.1]; exact cs_needWithin2 G Is6 (by first | exact ⟨p3.1, p3.2⟩ | omega) (by first | exact ⟨by decide, by decide⟩ | omega) (by first | exact ⟨by decide, by decide⟩ | omega)) ⟨by rw [E.2.2.2]; exact (show (rmN 184).frames + 1 ≤ (rmN 140).frames by decide), by rw [E.2.2.2]; exact (show 8 + (mNL (miB 184) + 11) + (rmN 184).locals ≤ (rmN 140).locals by decide), by rw [E.2.2.2]; exact (show ((1 + 1) + 1) + 1 ≤ 5 by omega), by rw [E.2.2.2]; exact (show ((6 + 6) + 6) + 6 ≤ 30 by omega)⟩ (Nat.le_of_ble_eq_true rfl) (fun vv s8 hq => ?_) (fun ee s8 hq => ?_)
  rotate_left
  · obtain ⟨Is8, Fs8, (⟨hv, hps8⟩ | ⟨xx, hv, hps8⟩)⟩ := hq
    · cases hv
    · cases hv
      have Gs8 := fm_ts Gs6 Fs8 (by decide) (by decide)
      have ws8_9 : iI s8 9 = iI s6 9 := fm_i Fs8 (by decide)
      exact x_out X.1 q (fun x hx => (hXt x hx).elim) (show (((1 + 1) + 1) + 1) ≤ 5 by omega) (show (((6 + 6) + 6) + 6) ≤ 30 by omega) ⟨_, rfl, Is8, Gs8, Or.inr ⟨xx, rfl, by omega⟩⟩
  obtain ⟨Is8, Fs8, (⟨hv, hps8⟩ | ⟨xx, hv, hps8⟩)⟩ := hq
  rotate_left
  · cases hv
  cases hv
  have Gs8 := fm_ts Gs6 Fs8 (by decide) (by decide)
  have ws8_9 : iI s8 9 = iI s6 9 := fm_i Fs8 (by decide)
  show WS k 24 [(0, .ref (A 0)), (1, .int (Int32.ofInt u)), (2, .int (Int32.ofInt v)), (3, .int (Int32.ofInt p)), (4, .int (Int32.ofInt w))] [] (Wd A dT s8) (((1 + 1) + 1) + 1) (((6 + 6) + 6) + 6)
  refine z_load_n X (x := v) (show cdA 140 24 = some (.iload_n 2, 1, 0, 0, 0) from rfl) (List.Mem.tail _ (List.Mem.tail _ (List.Mem.head _))) ?_
  refine z_load_n X (x := p) (show cdA 140 25 = some (.iload_n 3, 1, 0, 0, 0) from rfl) (List.Mem.tail _ (List.Mem.tail _ (List.Mem.tail _ (List.Mem.head _)))) ?_
  refine z_icmp_le X (t := 39) (show cdA 140 26 = some (.if_icmp .le 13, 3, 5, 0, 0) from rfl) (by decide) ⟨by first | exact p1.1 | omega, by first | exact p1.2 | omega⟩ ⟨by first | exact p2.1 | omega, by first | exact p2.2 | omega⟩ (fun g10 => ?_) (fun g10 => ?_)
  ·
    refine z_aload_n X (x := A 0) (show cdA 140 39 = some (.aload_n 0, 1, 0, 0, 0) from rfl) (List.Mem.head _) ?_
    refine s_getR X 0 (show cdA 140 40 = some (.getfield 19, 3, 11, 1, 0) from rfl) (by decide) rfl rfl ?_
    refine z_load_n X (x := u) (show cdA 140 43 = some (.iload_n 1, 1, 0, 0, 0) from rfl) (List.Mem.tail _ (List.Mem.head _)) ?_
    refine z_load_n X (x := v) (show cdA 140 44 = some (.iload_n 2, 1, 0, 0, 0) from rfl) (List.Mem.tail _ (List.Mem.tail _ (List.Mem.head _))) ?_
    refine z_load_n X (x := p) (show cdA 140 45 = some (.iload_n 3, 1, 0, 0, 0) from rfl) (List.Mem.tail _ (List.Mem.tail _ (List.Mem.tail _ (List.Mem.head _)))) ?_
    refine z_load X (x := w) (show cdA 140 46 = some (.iload 4, 2, 0, 0, 0) from rfl) (List.Mem.tail _ (List.Mem.tail _ (List.Mem.tail _ (List.Mem.tail _ (List.Mem.head _))))) ?_
    refine z_callV X 3 (rm := rmN 114) (As := [.int (Int32.ofInt u), .int (Int32.ofInt v), .int (Int32.ofInt p), .int (Int32.ofInt w)]) (st := []) (show cdA 140 48 = some (.invokevirtual 157, 3, 114, 0, 0) from rfl) rfl (by decide) rfl (by rw [E.1, E.2.1, E.2.2.1]; exact c9_setCounts_3 G Is8 (by first | exact ⟨hps2.1, oq_e4d7f3c5 hps2.2 b1.2⟩ | omega) (by first | exact ⟨hps4.1, hps4.2⟩ | omega) (by first | exact ⟨hps6.1, hps6.2⟩ | omega) (by first | exact ⟨hps8.1, hps8.2⟩ | omega)) ⟨by rw [E.2.2.2]; exact (show (rmN 114).frames + 1 ≤ (rmN 140).frames by decide), by rw [E.2.2.2]; exact (show 8 + (mNL (miB 114) + 11) + (rmN 114).locals ≤ (rmN 140).locals by decide), by rw [E.2.2.2]; exact (show (((1 + 1) + 1) + 1) + 0 ≤ 5 by omega), by rw [E.2.2.2]; exact (show (((6 + 6) + 6) + 6) + 0 ≤ 30 by omega)⟩ (Nat.le_of_ble_eq_true rfl) (fun vv s11 hq => ?_) (fun ee s11 hq => ?_)
    rotate_left
    · obtain ⟨Is11, Fs11, hv, hps11⟩ := hq; cases hv
    obtain ⟨Is11, Fs11, hv, hps11⟩ := hq
    cases hv
    have Gs11 := fm_ts Gs8 Fs11 (by decide) (by decide)
    have ws11_9 : iI s11 9 = iI s8 9 := fm_i Fs11 (by decide)
    show WS k 51 [(0, .ref (A 0)), (1, .int (Int32.ofInt u)), (2, .int (Int32.ofInt v)), (3, .int (Int32.ofInt p)), (4, .int (Int32.ofInt w))] [] (Wd A dT s11) (((1 + 1) + 1) + 1) (((6 + 6) + 6) + 6)
    exact w_vret X.1 q hRt (ax_d X (show cdA 140 51 = some (.return_, 1, 0, 0, 0) from rfl)) (show (((1 + 1) + 1) + 1) ≤ 5 by omega) (show (((6 + 6) + 6) + 6) ≤ 30 by omega) ⟨_, rfl, Is11, Gs11, Or.inl ⟨rfl, by first | exact ⟨hps2.1, hps2.2, hps4.1, hps4.2, hps6.1, hps6.2, g10, hps8.1, hps8.2⟩ | omega⟩⟩
  ·
    exact z_throw G X E ET hXt q (st := []) (show cdA 140 29 = some (.new 108, 3, 0, 1, 0) from rfl) (by decide) (by decide) (Nat.le_of_ble_eq_true rfl) (show (((1 + 1) + 1) + 1) + 1 ≤ 5 by omega) (show (((6 + 6) + 6) + 6) + 6 ≤ 30 by omega) (show (((1 + 1) + 1) + 1) + 1 ≤ 5 by omega) (show (((6 + 6) + 6) + 6) + 6 ≤ 30 by omega) ⟨_, rfl, Is8, Gs8, Or.inr ⟨0, rfl, by omega⟩⟩
set_option maxRecDepth 4000 in
theorem cs_span2 (G : GX l s0 D tys a0 dT) (I : Bd s) {u y z : Int} (p0 : rng u) (p1 : rng y) (p2 : rng z) : CT l s0 D A dT 141 (rmN 141) [.ref (A 0), .int (Int32.ofInt u), .int (Int32.ofInt y), .int (Int32.ofInt z)] s (fun o t => Bd t ∧ Fm [] [9, 10, 11, 12, 13, 14] s t ∧ ((o = .inl none ∧ (0 ≤ u ∧ u < iI s 9 ∧ 0 ≤ y ∧ y ≤ 2 ∧ 0 ≤ z ∧ z ≤ 2)) ∨ ∃ x : Nat, o = .inr (exN x) ∧ (((x = 1 ∧ (u < 0 ∨ iI s 9 ≤ u)) ∨ (x = 0 ∧ 0 ≤ u ∧ u < iI s 9 ∧ (y < 0 ∨ 2 < y ∨ z < 0 ∨ 2 < z)))))) := by
  refine ct_ofX G (by decide) (Nat.le_of_ble_eq_true rfl) (fun k X E ET hRt hXt q => ?_)
  show WS k 0 [(0, .ref (A 0)), (1, .int (Int32.ofInt u)), (2, .int (Int32.ofInt y)), (3, .int (Int32.ofInt z))] [] _ 0 0
  have F : Fm [] [9, 10, 11, 12, 13, 14] s s := fm_rf _ _ s
  have b1 : (0 : Int) ≤ iI s 9 ∧ iI s 9 ≤ 12 := I.1 9
  refine z_aload_n X (x := A 0) (show cdA 141 0 = some (.aload_n 0, 1, 0, 0, 0) from rfl) (List.Mem.head _) ?_
  refine z_load_n X (x := u) (show cdA 141 1 = some (.iload_n 1, 1, 0, 0, 0) from rfl) (List.Mem.tail _ (List.Mem.head _)) ?_
  refine z_callV X 0 (rm := rmN 180) (As := [.int (Int32.ofInt u)]) (st := []) (show cdA 141 2 = some (.invokevirtual 140, 3, 180, 0, 0) from rfl) rfl (by decide) rfl (by rw [E.1, E.2.1, E.2.2.1]; exact cs_needStream2 G I (by first | exact ⟨p0.1, p0.2⟩ | omega)) ⟨by rw [E.2.2.2]; exact (show (rmN 180).frames + 1 ≤ (rmN 141).frames by decide), by rw [E.2.2.2]; exact (show 8 + (mNL (miB 180) + 11) + (rmN 180).locals ≤ (rmN 141).locals by decide), by rw [E.2.2.2]; exact (show 0 + 1 ≤ 3 by omega), by rw [E.2.2.2]; exact (show 0 + 6 ≤ 18 by omega)⟩ (Nat.le_of_ble_eq_true rfl) (fun vv s2 hq => ?_) (fun ee s2 hq => ?_)
  rotate_left
  · obtain ⟨Is2, Fs2, (⟨hv, hps2⟩ | ⟨xx, hv, hps2⟩)⟩ := hq
    · cases hv
    · cases hv
      have Gs2 := fm_ts F Fs2 (by decide) (by decide)
      have ws2_9 : iI s2 9 = iI s 9 := fm_i Fs2 (by decide)
      exact x_out X.1 q (fun x hx => (hXt x hx).elim) (show 1 ≤ 3 by omega) (show 6 ≤ 18 by omega) ⟨_, rfl, Is2, Gs2, Or.inr ⟨xx, rfl, by omega⟩⟩
  obtain ⟨Is2, Fs2, (⟨hv, hps2⟩ | ⟨xx, hv, hps2⟩)⟩ := hq
  rotate_left
  · cases hv
  cases hv
  have Gs2 := fm_ts F Fs2 (by decide) (by decide)
  have ws2_9 : iI s2 9 = iI s 9 := fm_i Fs2 (by decide)
  show WS k 5 [(0, .ref (A 0)), (1, .int (Int32.ofInt u)), (2, .int (Int32.ofInt y)), (3, .int (Int32.ofInt z))] [] (Wd A dT s2) 1 6
  refine z_aload_n X (x := A 0) (show cdA 141 5 = some (.aload_n 0, 1, 0, 0, 0) from rfl) (List.Mem.head _) ?_
  refine z_load_n X (x := y) (show cdA 141 6 = some (.iload_n 2, 1, 0, 0, 0) from rfl) (List.Mem.tail _ (List.Mem.tail _ (List.Mem.head _))) ?_
  refine z_const X (show cdA 141 7 = some (.iconst 0, 1, 0, 0, 0) from rfl) ?_
  refine z_const X (show cdA 141 8 = some (.iconst 2, 1, 0, 0, 0) from rfl) ?_
  refine z_callV X 0 (rm := rmN 184) (As := [.int (Int32.ofInt y), .int (Int32.ofInt 0), .int (Int32.ofInt 2)]) (st := []) (show cdA 141 9 = some (.invokevirtual 151, 3, 184, 0, 0) from rfl) rfl (by decide) rfl (by rw [E.1, E.2.1, E.2.2.1]; exact cs_needWithin2 G Is2 (by first | exact ⟨p1.1, p1.2⟩ | omega) (by first | exact ⟨by decide, by decide⟩ | omega) (by first | exact ⟨by decide, by decide⟩ | omega)) ⟨by rw [E.2.2.2]; exact (show (rmN 184).frames + 1 ≤ (rmN 141).frames by decide), by rw [E.2.2.2]; exact (show 8 + (mNL (miB 184) + 11) + (rmN 184).locals ≤ (rmN 141).locals by decide), by rw [E.2.2.2]; exact (show 1 + 1 ≤ 3 by omega), by rw [E.2.2.2]; exact (show 6 + 6 ≤ 18 by omega)⟩ (Nat.le_of_ble_eq_true rfl) (fun vv s4 hq => ?_) (fun ee s4 hq => ?_)
  rotate_left
  · obtain ⟨Is4, Fs4, (⟨hv, hps4⟩ | ⟨xx, hv, hps4⟩)⟩ := hq
    · cases hv
    · cases hv
      have Gs4 := fm_ts Gs2 Fs4 (by decide) (by decide)
      have ws4_9 : iI s4 9 = iI s2 9 := fm_i Fs4 (by decide)
      exact x_out X.1 q (fun x hx => (hXt x hx).elim) (show (1 + 1) ≤ 3 by omega) (show (6 + 6) ≤ 18 by omega) ⟨_, rfl, Is4, Gs4, Or.inr ⟨xx, rfl, by omega⟩⟩
  obtain ⟨Is4, Fs4, (⟨hv, hps4⟩ | ⟨xx, hv, hps4⟩)⟩ := hq
  rotate_left
  · cases hv
  cases hv
  have Gs4 := fm_ts Gs2 Fs4 (by decide) (by decide)
  have ws4_9 : iI s4 9 = iI s2 9 := fm_i Fs4 (by decide)
  show WS k 12 [(0, .ref (A 0)), (1, .int (Int32.ofInt u)), (2, .int (Int32.ofInt y)), (3, .int (Int32.ofInt z))] [] (Wd A dT s4) (1 + 1) (6 + 6)
  refine z_aload_n X (x := A 0) (show cdA 141 12 = some (.aload_n 0, 1, 0, 0, 0) from rfl) (List.Mem.head _) ?_
  refine z_load_n X (x := z) (show cdA 141 13 = some (.iload_n 3, 1, 0, 0, 0) from rfl) (List.Mem.tail _ (List.Mem.tail _ (List.Mem.tail _ (List.Mem.head _)))) ?_
  refine z_const X (show cdA 141 14 = some (.iconst 0, 1, 0, 0, 0) from rfl) ?_
  refine z_const X (show cdA 141 15 = some (.iconst 2, 1, 0, 0, 0) from rfl) ?_
  refine z_callV X 0 (rm := rmN 184) (As := [.int (Int32.ofInt z), .int (Int32.ofInt 0), .int (Int32.ofInt 2)]) (st := []) (show cdA 141 16 = some (.invokevirtual 151, 3, 184, 0, 0) from rfl) rfl (by decide) rfl (by rw [E.1, E.2.1, E.2.2.1]; exact cs_needWithin2 G Is4 (by first | exact ⟨p2.1, p2.2⟩ | omega) (by first | exact ⟨by decide, by decide⟩ | omega) (by first | exact ⟨by decide, by decide⟩ | omega)) ⟨by rw [E.2.2.2]; exact (show (rmN 184).frames + 1 ≤ (rmN 141).frames by decide), by rw [E.2.2.2]; exact (show 8 + (mNL (miB 184) + 11) + (rmN 184).locals ≤ (rmN 141).locals by decide), by rw [E.2.2.2]; exact (show (1 + 1) + 1 ≤ 3 by omega), by rw [E.2.2.2]; exact (show (6 + 6) + 6 ≤ 18 by omega)⟩ (Nat.le_of_ble_eq_true rfl) (fun vv s6 hq => ?_) (fun ee s6 hq => ?_)
  rotate_left
  · obtain ⟨Is6, Fs6, (⟨hv, hps6⟩ | ⟨xx, hv, hps6⟩)⟩ := hq
    · cases hv
    · cases hv
      have Gs6 := fm_ts Gs4 Fs6 (by decide) (by decide)
      have ws6_9 : iI s6 9 = iI s4 9 := fm_i Fs6 (by decide)
      exact x_out X.1 q (fun x hx => (hXt x hx).elim) (show ((1 + 1) + 1) ≤ 3 by omega) (show ((6 + 6) + 6) ≤ 18 by omega) ⟨_, rfl, Is6, Gs6, Or.inr ⟨xx, rfl, by omega⟩⟩
  obtain ⟨Is6, Fs6, (⟨hv, hps6⟩ | ⟨xx, hv, hps6⟩)⟩ := hq
  rotate_left
  · cases hv
  cases hv
  have Gs6 := fm_ts Gs4 Fs6 (by decide) (by decide)
  have ws6_9 : iI s6 9 = iI s4 9 := fm_i Fs6 (by decide)
  show WS k 19 [(0, .ref (A 0)), (1, .int (Int32.ofInt u)), (2, .int (Int32.ofInt y)), (3, .int (Int32.ofInt z))] [] (Wd A dT s6) ((1 + 1) + 1) ((6 + 6) + 6)
  refine z_aload_n X (x := A 0) (show cdA 141 19 = some (.aload_n 0, 1, 0, 0, 0) from rfl) (List.Mem.head _) ?_
  refine s_getR X 0 (show cdA 141 20 = some (.getfield 19, 3, 11, 1, 0) from rfl) (by decide) rfl rfl ?_
  refine z_load_n X (x := u) (show cdA 141 23 = some (.iload_n 1, 1, 0, 0, 0) from rfl) (List.Mem.tail _ (List.Mem.head _)) ?_
  refine z_load_n X (x := y) (show cdA 141 24 = some (.iload_n 2, 1, 0, 0, 0) from rfl) (List.Mem.tail _ (List.Mem.tail _ (List.Mem.head _))) ?_
  refine z_load_n X (x := z) (show cdA 141 25 = some (.iload_n 3, 1, 0, 0, 0) from rfl) (List.Mem.tail _ (List.Mem.tail _ (List.Mem.tail _ (List.Mem.head _)))) ?_
  refine z_callV X 3 (rm := rmN 115) (As := [.int (Int32.ofInt u), .int (Int32.ofInt y), .int (Int32.ofInt z)]) (st := []) (show cdA 141 26 = some (.invokevirtual 161, 3, 115, 0, 0) from rfl) rfl (by decide) rfl (by rw [E.1, E.2.1, E.2.2.1]; exact c9_setSpan_3 G Is6 (by first | exact ⟨hps2.1, oq_e4d7f3c5 hps2.2 b1.2⟩ | omega) (by first | exact ⟨hps4.1, hps4.2⟩ | omega) (by first | exact ⟨hps6.1, hps6.2⟩ | omega)) ⟨by rw [E.2.2.2]; exact (show (rmN 115).frames + 1 ≤ (rmN 141).frames by decide), by rw [E.2.2.2]; exact (show 8 + (mNL (miB 115) + 11) + (rmN 115).locals ≤ (rmN 141).locals by decide), by rw [E.2.2.2]; exact (show ((1 + 1) + 1) + 0 ≤ 3 by omega), by rw [E.2.2.2]; exact (show ((6 + 6) + 6) + 0 ≤ 18 by omega)⟩ (Nat.le_of_ble_eq_true rfl) (fun vv s8 hq => ?_) (fun ee s8 hq => ?_)
  rotate_left
  · obtain ⟨Is8, Fs8, hv, hps8⟩ := hq; cases hv
  obtain ⟨Is8, Fs8, hv, hps8⟩ := hq
  cases hv
  have Gs8 := fm_ts Gs6 Fs8 (by decide) (by decide)
  have ws8_9 : iI s8 9 = iI s6 9 := fm_i Fs8 (by decide)
  show WS k 29 [(0, .ref (A 0)), (1, .int (Int32.ofInt u)), (2, .int (Int32.ofInt y)), (3, .int (Int32.ofInt z))] [] (Wd A dT s8) ((1 + 1) + 1) ((6 + 6) + 6)
  exact w_vret X.1 q hRt (ax_d X (show cdA 141 29 = some (.return_, 1, 0, 0, 0) from rfl)) (show ((1 + 1) + 1) ≤ 3 by omega) (show ((6 + 6) + 6) ≤ 18 by omega) ⟨_, rfl, Is8, Gs8, Or.inl ⟨rfl, by first | exact ⟨hps2.1, hps2.2, hps4.1, hps4.2, hps6.1, hps6.2⟩ | omega⟩⟩
set_option maxRecDepth 4000 in
theorem lw_flow2 (G : GX l s0 D tys a0 dT) (I : Bd s) {u v p w : Int} (p0 : rng u) (p1 : rng v) (p2 : rng p) (p3 : rng w) : CTL l s0 D A dT 317 (rmN 317) [.ref (A 0), .int (Int32.ofInt u), .int (Int32.ofInt v), .int (Int32.ofInt p), .int (Int32.ofInt w)] s (fun o t => Bd t ∧ Fm [] [8, 11, 12, 13, 14] s t ∧ ∃ e, o = .inl (some (.int (Int32.ofInt e))) ∧ rng e ∧ ((e = 0 ∧ 0 ≤ u ∧ u < iI s 9 ∧ 0 ≤ v ∧ v ≤ 23 ∧ 0 ≤ p ∧ p ≤ 23 ∧ v ≤ p ∧ 0 ≤ w ∧ w ≤ 50) ∨ (e = 1 ∧ (u < 0 ∨ iI s 9 ≤ u)) ∨ (e = 2 ∧ 0 ≤ u ∧ u < iI s 9 ∧ (v < 0 ∨ 23 < v ∨ p < 0 ∨ 23 < p ∨ p < v ∨ w < 0 ∨ 50 < w)))) := by
  refine ctL_of G (by decide) (Nat.le_of_ble_eq_true rfl) (by decide) (show cdA 317 0 = some (.aload_n 0, 1, 0, 0, 0) from rfl) (fun k X E ET hRt hEx q => ?_)
  show WS k 0 [(0, .ref (A 0)), (1, .int (Int32.ofInt u)), (2, .int (Int32.ofInt v)), (3, .int (Int32.ofInt p)), (4, .int (Int32.ofInt w))] [] _ 0 0
  have F : Fm [] [8, 11, 12, 13, 14] s s := fm_rf _ _ s
  have hA := swA_rf A
  have b1 : (0 : Int) ≤ iI s 9 ∧ iI s 9 ≤ 12 := I.1 9
  refine z_aload_n X (x := A 0) (show cdA 317 0 = some (.aload_n 0, 1, 0, 0, 0) from rfl) (List.Mem.head _) ?_
  refine z_load_n X (x := u) (show cdA 317 1 = some (.iload_n 1, 1, 0, 0, 0) from rfl) (List.Mem.tail _ (List.Mem.head _)) ?_
  refine z_load_n X (x := v) (show cdA 317 2 = some (.iload_n 2, 1, 0, 0, 0) from rfl) (List.Mem.tail _ (List.Mem.tail _ (List.Mem.head _))) ?_
  refine z_load_n X (x := p) (show cdA 317 3 = some (.iload_n 3, 1, 0, 0, 0) from rfl) (List.Mem.tail _ (List.Mem.tail _ (List.Mem.tail _ (List.Mem.head _)))) ?_
  refine z_load X (x := w) (show cdA 317 4 = some (.iload 4, 2, 0, 0, 0) from rfl) (List.Mem.tail _ (List.Mem.tail _ (List.Mem.tail _ (List.Mem.tail _ (List.Mem.head _))))) ?_
  refine z_callV X 0 (rm := rmN 140) (As := [.int (Int32.ofInt u), .int (Int32.ofInt v), .int (Int32.ofInt p), .int (Int32.ofInt w)]) (st := []) (show cdA 317 6 = some (.invokevirtual 24, 3, 140, 0, 0) from rfl) rfl (by decide) rfl (by rw [E.1, E.2.1, E.2.2.1]; exact cs_flow2 G I (by omega) (by omega) (by omega) (by omega)) ⟨by rw [E.2.2.2]; exact (show (rmN 140).frames + 1 ≤ (rmN 317).frames by decide), by rw [E.2.2.2]; exact (show 8 + (mNL (miB 140) + 11) + (rmN 140).locals ≤ (rmN 317).locals by decide), by rw [E.2.2.2]; exact (show 0 + (rmN 140).cells ≤ (rmN 317).cells by decide), by rw [E.2.2.2]; exact (show 0 + (rmN 140).slots ≤ (rmN 317).slots by decide)⟩ (Nat.le_of_ble_eq_true rfl) (fun vv s2 hq => ?_) (fun ee s2 hq => ?_)
  rotate_left
  · obtain ⟨Is2, Fs2, (⟨hv, hps2⟩ | ⟨xx, hv, hps2⟩)⟩ := hq
    · cases hv
    · cases hv
      rcases (show xx = 0 ∨ xx = 1 by omega) with gx | gx
      ·
        subst gx
        have Gs2 := fm_ts F Fs2 (by decide) (by decide)
        have ws2_9 : iI s2 9 = iI s 9 := fm_i Fs2 (by decide)
        refine (hEx 6 0).2 16 rfl _ _ _ _ _ (fun q1 => ?_)
        show WS k 16 [(0, .ref (A 0)), (1, .int (Int32.ofInt u)), (2, .int (Int32.ofInt v)), (3, .int (Int32.ofInt p)), (4, .int (Int32.ofInt w))] [.ref q1] (Wd A dT s2) 5 30
        refine z_astore X (lv' := [(5, .ref q1), (0, .ref (A 0)), (1, .int (Int32.ofInt u)), (2, .int (Int32.ofInt v)), (3, .int (Int32.ofInt p)), (4, .int (Int32.ofInt w))]) (show cdA 317 16 = some (.astore 5, 2, 0, 0, 0) from rfl) (by decide) (fun _ h => h) ?_
        refine z_const X (show cdA 317 18 = some (.iconst 2, 1, 0, 0, 0) from rfl) ?_
        exact w_iret X.1 q hRt rfl (ax_d X (show cdA 317 19 = some (.ireturn, 1, 0, 0, 0) from rfl)) (show 5 ≤ 5 by omega) (show 30 ≤ 30 by omega) ⟨A, _, hA, rfl, Is2, Gs2, 2, rfl, (by decide), by omega⟩
      ·
        subst gx
        have Gs2 := fm_ts F Fs2 (by decide) (by decide)
        have ws2_9 : iI s2 9 = iI s 9 := fm_i Fs2 (by decide)
        refine (hEx 6 1).2 12 rfl _ _ _ _ _ (fun q1 => ?_)
        show WS k 12 [(0, .ref (A 0)), (1, .int (Int32.ofInt u)), (2, .int (Int32.ofInt v)), (3, .int (Int32.ofInt p)), (4, .int (Int32.ofInt w))] [.ref q1] (Wd A dT s2) 5 30
        refine z_astore X (lv' := [(5, .ref q1), (0, .ref (A 0)), (1, .int (Int32.ofInt u)), (2, .int (Int32.ofInt v)), (3, .int (Int32.ofInt p)), (4, .int (Int32.ofInt w))]) (show cdA 317 12 = some (.astore 5, 2, 0, 0, 0) from rfl) (by decide) (fun _ h => h) ?_
        refine z_const X (show cdA 317 14 = some (.iconst 1, 1, 0, 0, 0) from rfl) ?_
        exact w_iret X.1 q hRt rfl (ax_d X (show cdA 317 15 = some (.ireturn, 1, 0, 0, 0) from rfl)) (show 5 ≤ 5 by omega) (show 30 ≤ 30 by omega) ⟨A, _, hA, rfl, Is2, Gs2, 1, rfl, (by decide), by omega⟩
  obtain ⟨Is2, Fs2, (⟨hv, hps2⟩ | ⟨xx, hv, hps2⟩)⟩ := hq
  rotate_left
  · cases hv
  cases hv
  have Gs2 := fm_ts F Fs2 (by decide) (by decide)
  have ws2_9 : iI s2 9 = iI s 9 := fm_i Fs2 (by decide)
  show WS k 9 [(0, .ref (A 0)), (1, .int (Int32.ofInt u)), (2, .int (Int32.ofInt v)), (3, .int (Int32.ofInt p)), (4, .int (Int32.ofInt w))] [] (Wd A dT s2) 5 30
  refine z_goto X (t := 20) (show cdA 317 9 = some (.goto 11, 3, 0, 0, 0) from rfl) (by decide) ?_
  refine z_const X (show cdA 317 20 = some (.iconst 0, 1, 0, 0, 0) from rfl) ?_
  exact w_iret X.1 q hRt rfl (ax_d X (show cdA 317 21 = some (.ireturn, 1, 0, 0, 0) from rfl)) (show 5 ≤ 5 by omega) (show 30 ≤ 30 by omega) ⟨A, _, hA, rfl, Is2, Gs2, 0, rfl, (by decide), by omega⟩
set_option maxRecDepth 4000 in
theorem lw_span2 (G : GX l s0 D tys a0 dT) (I : Bd s) {u y z : Int} (p0 : rng u) (p1 : rng y) (p2 : rng z) : CTL l s0 D A dT 318 (rmN 318) [.ref (A 0), .int (Int32.ofInt u), .int (Int32.ofInt y), .int (Int32.ofInt z)] s (fun o t => Bd t ∧ Fm [] [9, 10, 11, 12, 13, 14] s t ∧ ∃ e, o = .inl (some (.int (Int32.ofInt e))) ∧ rng e ∧ ((e = 0 ∧ 0 ≤ u ∧ u < iI s 9 ∧ 0 ≤ y ∧ y ≤ 2 ∧ 0 ≤ z ∧ z ≤ 2) ∨ (e = 1 ∧ (u < 0 ∨ iI s 9 ≤ u)) ∨ (e = 2 ∧ 0 ≤ u ∧ u < iI s 9 ∧ (y < 0 ∨ 2 < y ∨ z < 0 ∨ 2 < z)))) := by
  refine ctL_of G (by decide) (Nat.le_of_ble_eq_true rfl) (by decide) (show cdA 318 0 = some (.aload_n 0, 1, 0, 0, 0) from rfl) (fun k X E ET hRt hEx q => ?_)
  show WS k 0 [(0, .ref (A 0)), (1, .int (Int32.ofInt u)), (2, .int (Int32.ofInt y)), (3, .int (Int32.ofInt z))] [] _ 0 0
  have F : Fm [] [9, 10, 11, 12, 13, 14] s s := fm_rf _ _ s
  have hA := swA_rf A
  have b1 : (0 : Int) ≤ iI s 9 ∧ iI s 9 ≤ 12 := I.1 9
  refine z_aload_n X (x := A 0) (show cdA 318 0 = some (.aload_n 0, 1, 0, 0, 0) from rfl) (List.Mem.head _) ?_
  refine z_load_n X (x := u) (show cdA 318 1 = some (.iload_n 1, 1, 0, 0, 0) from rfl) (List.Mem.tail _ (List.Mem.head _)) ?_
  refine z_load_n X (x := y) (show cdA 318 2 = some (.iload_n 2, 1, 0, 0, 0) from rfl) (List.Mem.tail _ (List.Mem.tail _ (List.Mem.head _))) ?_
  refine z_load_n X (x := z) (show cdA 318 3 = some (.iload_n 3, 1, 0, 0, 0) from rfl) (List.Mem.tail _ (List.Mem.tail _ (List.Mem.tail _ (List.Mem.head _)))) ?_
  refine z_callV X 0 (rm := rmN 141) (As := [.int (Int32.ofInt u), .int (Int32.ofInt y), .int (Int32.ofInt z)]) (st := []) (show cdA 318 4 = some (.invokevirtual 28, 3, 141, 0, 0) from rfl) rfl (by decide) rfl (by rw [E.1, E.2.1, E.2.2.1]; exact cs_span2 G I (by omega) (by omega) (by omega)) ⟨by rw [E.2.2.2]; exact (show (rmN 141).frames + 1 ≤ (rmN 318).frames by decide), by rw [E.2.2.2]; exact (show 8 + (mNL (miB 141) + 11) + (rmN 141).locals ≤ (rmN 318).locals by decide), by rw [E.2.2.2]; exact (show 0 + (rmN 141).cells ≤ (rmN 318).cells by decide), by rw [E.2.2.2]; exact (show 0 + (rmN 141).slots ≤ (rmN 318).slots by decide)⟩ (Nat.le_of_ble_eq_true rfl) (fun vv s2 hq => ?_) (fun ee s2 hq => ?_)
  rotate_left
  · obtain ⟨Is2, Fs2, (⟨hv, hps2⟩ | ⟨xx, hv, hps2⟩)⟩ := hq
    · cases hv
    · cases hv
      rcases (show xx = 0 ∨ xx = 1 by omega) with gx | gx
      ·
        subst gx
        have Gs2 := fm_ts F Fs2 (by decide) (by decide)
        have ws2_9 : iI s2 9 = iI s 9 := fm_i Fs2 (by decide)
        refine (hEx 4 0).2 14 rfl _ _ _ _ _ (fun q1 => ?_)
        show WS k 14 [(0, .ref (A 0)), (1, .int (Int32.ofInt u)), (2, .int (Int32.ofInt y)), (3, .int (Int32.ofInt z))] [.ref q1] (Wd A dT s2) 3 18
        refine z_astore X (lv' := [(4, .ref q1), (0, .ref (A 0)), (1, .int (Int32.ofInt u)), (2, .int (Int32.ofInt y)), (3, .int (Int32.ofInt z))]) (show cdA 318 14 = some (.astore 4, 2, 0, 0, 0) from rfl) (by decide) (fun _ h => h) ?_
        refine z_const X (show cdA 318 16 = some (.iconst 2, 1, 0, 0, 0) from rfl) ?_
        exact w_iret X.1 q hRt rfl (ax_d X (show cdA 318 17 = some (.ireturn, 1, 0, 0, 0) from rfl)) (show 3 ≤ 3 by omega) (show 18 ≤ 18 by omega) ⟨A, _, hA, rfl, Is2, Gs2, 2, rfl, (by decide), by omega⟩
      ·
        subst gx
        have Gs2 := fm_ts F Fs2 (by decide) (by decide)
        have ws2_9 : iI s2 9 = iI s 9 := fm_i Fs2 (by decide)
        refine (hEx 4 1).2 10 rfl _ _ _ _ _ (fun q1 => ?_)
        show WS k 10 [(0, .ref (A 0)), (1, .int (Int32.ofInt u)), (2, .int (Int32.ofInt y)), (3, .int (Int32.ofInt z))] [.ref q1] (Wd A dT s2) 3 18
        refine z_astore X (lv' := [(4, .ref q1), (0, .ref (A 0)), (1, .int (Int32.ofInt u)), (2, .int (Int32.ofInt y)), (3, .int (Int32.ofInt z))]) (show cdA 318 10 = some (.astore 4, 2, 0, 0, 0) from rfl) (by decide) (fun _ h => h) ?_
        refine z_const X (show cdA 318 12 = some (.iconst 1, 1, 0, 0, 0) from rfl) ?_
        exact w_iret X.1 q hRt rfl (ax_d X (show cdA 318 13 = some (.ireturn, 1, 0, 0, 0) from rfl)) (show 3 ≤ 3 by omega) (show 18 ≤ 18 by omega) ⟨A, _, hA, rfl, Is2, Gs2, 1, rfl, (by decide), by omega⟩
  obtain ⟨Is2, Fs2, (⟨hv, hps2⟩ | ⟨xx, hv, hps2⟩)⟩ := hq
  rotate_left
  · cases hv
  cases hv
  have Gs2 := fm_ts F Fs2 (by decide) (by decide)
  have ws2_9 : iI s2 9 = iI s 9 := fm_i Fs2 (by decide)
  show WS k 7 [(0, .ref (A 0)), (1, .int (Int32.ofInt u)), (2, .int (Int32.ofInt y)), (3, .int (Int32.ofInt z))] [] (Wd A dT s2) 3 18
  refine z_goto X (t := 18) (show cdA 318 7 = some (.goto 11, 3, 0, 0, 0) from rfl) (by decide) ?_
  refine z_const X (show cdA 318 18 = some (.iconst 0, 1, 0, 0, 0) from rfl) ?_
  exact w_iret X.1 q hRt rfl (ax_d X (show cdA 318 19 = some (.ireturn, 1, 0, 0, 0) from rfl)) (show 3 ≤ 3 by omega) (show 18 ≤ 18 by omega) ⟨A, _, hA, rfl, Is2, Gs2, 0, rfl, (by decide), by omega⟩
set_option maxRecDepth 4000 in
theorem lw_stream2 (G : GX l s0 D tys a0 dT) {B : Nat → Int} (I : Bd s) (jBYA : BYA B s) {w : Int} (p0 : rng w) : CTL l s0 D A dT 314 (rmN 314) [.ref (A 0), .int (Int32.ofInt w), .ref (A 517)] s (fun o t => Bd t ∧ Fm [11, 9, 10, 2, 4, 6, 5, 1, 3, 0, 7, 8] [15, 1, 2, 6, 1003, 1004, 1005, 1007, 1460] s t ∧ ∃ e, o = .inl (some (.int (Int32.ofInt e))) ∧ rng e ∧ ((e = 0 ∧ iI t 0 = 0 ∧ 0 ≤ w ∧ w ≤ iI s 0 ∧ w ≤ 100 ∧ STRx B w (iI s 9) (iI t 9)) ∨ (e = 1 ∧ iI t 0 = iI s 0 ∧ (w < 0 ∨ iI s 0 < w ∨ 100 < w) ∧ iI t 9 = iI s 9))) := by
  refine ctL_of G (by decide) (Nat.le_of_ble_eq_true rfl) (by decide) (show cdA 314 0 = some (.aload_n 2, 1, 0, 0, 0) from rfl) (fun k X E ET hRt hEx q => ?_)
  show WS k 0 [(0, .ref (A 0)), (1, .int (Int32.ofInt w)), (2, .ref (A 517))] [] _ 0 0
  have F : Fm [11, 9, 10, 2, 4, 6, 5, 1, 3, 0, 7, 8] [15, 1, 2, 6, 1003, 1004, 1005, 1007, 1460] s s := fm_rf _ _ s
  have hA := swA_rf A
  have b1 : (0 : Int) ≤ iI s 0 ∧ iI s 0 ≤ 200 := I.1 0
  have b2 : (0 : Int) ≤ iI s 9 ∧ iI s 9 ≤ 12 := I.1 9
  refine z_aload_n X (x := A 517) (show cdA 314 0 = some (.aload_n 2, 1, 0, 0, 0) from rfl) (List.Mem.tail _ (List.Mem.tail _ (List.Mem.head _))) ?_
  refine z_const X (show cdA 314 1 = some (.iconst 0, 1, 0, 0, 0) from rfl) ?_
  refine z_aload_n X (x := A 0) (show cdA 314 2 = some (.aload_n 0, 1, 0, 0, 0) from rfl) (List.Mem.head _) ?_
  refine z_load_n X (x := w) (show cdA 314 3 = some (.iload_n 1, 1, 0, 0, 0) from rfl) (List.Mem.tail _ (List.Mem.head _)) ?_
  refine z_callV X 0 (rm := rmN 136) (As := [.int (Int32.ofInt w)]) (st := [.int (Int32.ofInt 0), .ref (A 517)]) (show cdA 314 4 = some (.invokevirtual 7, 3, 136, 0, 0) from rfl) rfl (by decide) rfl (by rw [E.1, E.2.1, E.2.2.1]; exact cs_stream2 G I jBYA (by omega)) ⟨by rw [E.2.2.2]; exact (show (rmN 136).frames + 1 ≤ (rmN 314).frames by decide), by rw [E.2.2.2]; exact (show 8 + (mNL (miB 136) + 11) + (rmN 136).locals ≤ (rmN 314).locals by decide), by rw [E.2.2.2]; exact (show 0 + (rmN 136).cells ≤ (rmN 314).cells by decide), by rw [E.2.2.2]; exact (show 0 + (rmN 136).slots ≤ (rmN 314).slots by decide)⟩ (Nat.le_of_ble_eq_true rfl) (fun vv s3 hq => ?_) (fun ee s3 hq => ?_)
  rotate_left
  · obtain ⟨Is3, Fs3, (⟨e4, hv, hrs3, hps3⟩ | ⟨xx, hv, hps3⟩)⟩ := hq
    · cases hv
    · cases hv
      rcases (show xx = 0 by omega) with gx
      ·
        subst gx
        have Gs3 := fm_ts F Fs3 (by decide) (by decide)
        have b5 : (0 : Int) ≤ iI s3 0 ∧ iI s3 0 ≤ 200 := Is3.1 0
        have b6 : (0 : Int) ≤ iI s3 9 ∧ iI s3 9 ≤ 12 := Is3.1 9
        refine (hEx 4 0).2 12 rfl _ _ _ _ _ (fun q1 => ?_)
        show WS k 12 [(0, .ref (A 0)), (1, .int (Int32.ofInt w)), (2, .ref (A 517))] [.ref q1] (Wd A dT s3) 1 6
        refine z_astore_n X (lv' := [(3, .ref q1), (0, .ref (A 0)), (1, .int (Int32.ofInt w)), (2, .ref (A 517))]) (show cdA 314 12 = some (.astore_n 3, 1, 0, 0, 0) from rfl) (by decide) (fun _ h => h) ?_
        refine z_const X (show cdA 314 13 = some (.iconst 1, 1, 0, 0, 0) from rfl) ?_
        exact w_iret X.1 q hRt rfl (ax_d X (show cdA 314 14 = some (.ireturn, 1, 0, 0, 0) from rfl)) (show 1 ≤ 1 by omega) (show 6 ≤ 6 by omega) ⟨A, _, hA, rfl, Is3, Gs3, 1, rfl, (by decide), Or.inr ⟨by decide, by omega, by omega, by omega⟩⟩
  obtain ⟨Is3, Fs3, (⟨e4, hv, hrs3, hps3⟩ | ⟨xx, hv, hps3⟩)⟩ := hq
  rotate_left
  · cases hv
  cases hv
  have Gs3 := fm_ts F Fs3 (by decide) (by decide)
  have b7 : (0 : Int) ≤ iI s3 0 ∧ iI s3 0 ≤ 200 := Is3.1 0
  have b8 : (0 : Int) ≤ iI s3 9 ∧ iI s3 9 ≤ 12 := Is3.1 9
  show WS k 7 [(0, .ref (A 0)), (1, .int (Int32.ofInt w)), (2, .ref (A 517))] [.int (Int32.ofInt e4), .int (Int32.ofInt 0), .ref (A 517)] (Wd A dT s3) 1 6
  refine w_i2l X.1 (ax_d X (show cdA 314 7 = some (.i2l, 1, 0, 0, 0) from rfl)) ?_
  refine z_last X 517 (show cdA 314 8 = some (.lastore, 1, 0, 0, 0) from rfl) (by decide) rfl (by omega) (show 0 < 1 by omega) (by decide) ?_
  obtain ⟨s9, hs9⟩ : ∃ x0, x0 = uD s3 460 (0 : Int).toNat (Int32.ofInt e4).toInt64 := ⟨_, rfl⟩
  rw [← hs9]
  have Is9 : Bd s9 := by rw [hs9]; exact bd_D Is3
  have Fs9 : Fm [11, 9, 10, 2, 4, 6, 5, 1, 3, 0, 7, 8] [15, 1, 2, 6, 1003, 1004, 1005, 1007, 1460] s s9 := by rw [hs9]; exact fm_D Gs3 (show 460 + 1000 ∈ _ by decide)
  have ws9_0 : iI s9 0 = iI s3 0 := by rw [hs9]; rfl
  have ws9_9 : iI s9 9 = iI s3 9 := by rw [hs9]; rfl
  have oos9 : iO s9 = e4 := by rw [hs9]; exact iO_u (by omega)
  refine z_goto X (t := 15) (show cdA 314 9 = some (.goto 6, 3, 0, 0, 0) from rfl) (by decide) ?_
  refine z_const X (show cdA 314 15 = some (.iconst 0, 1, 0, 0, 0) from rfl) ?_
  exact w_iret X.1 q hRt rfl (ax_d X (show cdA 314 16 = some (.ireturn, 1, 0, 0, 0) from rfl)) (show 1 ≤ 1 by omega) (show 6 ≤ 6 by omega) ⟨A, _, hA, rfl, Is9, Fs9, 0, rfl, (by decide), Or.inl ⟨by decide, by omega, by omega, by omega, by omega, by rw [show iI s9 9 = iI s3 9 by omega]; exact hps3.2.2.2.2⟩⟩
end M87c
