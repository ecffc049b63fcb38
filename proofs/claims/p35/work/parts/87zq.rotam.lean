theorem oq_eec9a93e {a0 a1 : Int} (h0 : a0 ≤ 23) (h1 : 1 ≤ a1) : (a0 - a1) ≤ 2147483647 := by omega
theorem oq_e08dc8a6 {a0 a1 a2 : Int} (h0 : a0 < a1) (h1 : a1 = a2) (h2 : a2 ≤ 8) : a0 ≤ 7 := by omega
theorem oq_8cda77f1 {a0 : Int} (h0 : 0 < a0) : 0 ≤ (a0 + (-1)) := by omega
theorem oq_4967eec5 {a0 : Int} (h0 : a0 ≤ 8) : (a0 + (-1)) ≤ 8 := by omega
theorem oq_1f7d2948 {a0 : Int} (h0 : a0 ≤ 2) (h1 : 2 ≤ a0) : a0 = 2 := by omega
theorem oq_43137565 {a0 a1 a2 a3 : Int} (h0 : a0 = 0) (h1 : ((1 = 1 ∧ (a1 = 0 ∧ (a2 = 1 ∧ a0 = 1))) ∨ ((1 = 0 ∨ a1 ≠ 0) ∧ (a2 = a1 ∧ ((a0 = 0 ∧ a1 = 0) ∨ (a0 = 1 ∧ a1 ≠ 0)))))) (h2 : a1 = 0) : a3 < 24 := by omega
theorem oq_a80f8023 {a0 a1 a2 a3 : Int} (h0 : a0 = 0) (h1 : ((1 = 1 ∧ (a1 = 0 ∧ (a2 = 1 ∧ a0 = 1))) ∨ ((1 = 0 ∨ a1 ≠ 0) ∧ (a2 = a1 ∧ ((a0 = 0 ∧ a1 = 0) ∨ (a0 = 1 ∧ a1 ≠ 0)))))) (h2 : a1 = 0) : (a3 : Int).toNat < 24 := by omega
theorem oq_1f063acf {a0 a1 a2 a3 : Int} (h0 : a0 = 0) (h1 : ((a0 = 1 ∧ (1 ≤ a1 ∧ a1 ≤ 8)) ∨ (a0 = 0 ∧ (a1 < 1 ∨ 8 < a1)))) : (a1 < 1 ∨ (8 < a1 ∨ (a2 < 0 ∨ (23 < a2 ∨ (a3 < 0 ∨ 23 < a3))))) := by omega
theorem oq_97b9d87d {a0 a1 a2 a3 : Int} (h0 : a0 = 0) (h1 : ((a0 = 1 ∧ (0 ≤ a1 ∧ a1 ≤ 23)) ∨ (a0 = 0 ∧ (a1 < 0 ∨ 23 < a1)))) : (a2 < 1 ∨ (8 < a2 ∨ (a1 < 0 ∨ (23 < a1 ∨ (a3 < 0 ∨ 23 < a3))))) := by omega
theorem oq_cd5449e9 {a0 a1 a2 a3 a4 a5 : Int} (h0 : a0 ≠ 0) (h1 : ((0 = 1 ∧ (a1 = 0 ∧ (a2 = 1 ∧ a0 = 1))) ∨ ((0 = 0 ∨ a1 ≠ 0) ∧ (a2 = a1 ∧ ((a0 = 0 ∧ a1 = 0) ∨ (a0 = 1 ∧ a1 ≠ 0)))))) (h2 : a1 = 0) : (a3 < 1 ∨ (8 < a3 ∨ (a4 < 0 ∨ (23 < a4 ∨ (a5 < 0 ∨ 23 < a5))))) := by omega
theorem oq_28fe4d37 {a0 a1 a2 a3 : Int} (h0 : a0 = 0) (h1 : ((a0 = 1 ∧ (0 ≤ a1 ∧ a1 ≤ 23)) ∨ (a0 = 0 ∧ (a1 < 0 ∨ 23 < a1)))) : (a2 < 1 ∨ (8 < a2 ∨ (a3 < 0 ∨ (23 < a3 ∨ (a1 < 0 ∨ 23 < a1))))) := by omega
theorem oq_473bf851 {a0 a1 a2 : Int} (h0 : a0 = 0) (h1 : ((a0 = 1 ∧ (1 ≤ a1 ∧ a1 ≤ 8)) ∨ (a0 = 0 ∧ (a1 < 1 ∨ 8 < a1)))) : (a1 < 1 ∨ (8 < a1 ∨ (a2 < 0 ∨ 23 < a2))) := by omega
theorem oq_98b7a510 {a0 a1 a2 a3 a4 : Int} (h0 : a0 ≠ 0) (h1 : ((0 = 1 ∧ (a1 = 0 ∧ (a2 = 1 ∧ a0 = 1))) ∨ ((0 = 0 ∨ a1 ≠ 0) ∧ (a2 = a1 ∧ ((a0 = 0 ∧ a1 = 0) ∨ (a0 = 1 ∧ a1 ≠ 0)))))) (h2 : a1 = 0) : (a3 < 1 ∨ (8 < a3 ∨ (a4 < 0 ∨ 23 < a4))) := by omega
theorem oq_e5fa0814 {a0 a1 a2 : Int} (h0 : a0 = 0) (h1 : ((a0 = 1 ∧ (0 ≤ a1 ∧ a1 ≤ 23)) ∨ (a0 = 0 ∧ (a1 < 0 ∨ 23 < a1)))) : (a2 < 1 ∨ (8 < a2 ∨ (a1 < 0 ∨ 23 < a1))) := by omega
theorem oq_85e7a08f {a0 a1 : Int} (h0 : a0 ≠ 0) (h1 : ((a0 = 1 ∧ (0 ≤ a1 ∧ a1 ≤ 23)) ∨ (a0 = 0 ∧ (a1 < 0 ∨ 23 < a1)))) : (a1 = a1 ∧ (0 ≤ a1 ∧ a1 ≤ 23)) := by omega
theorem oq_c7ab5ef4 {a0 a1 a2 a3 : Int} (h0 : a0 ≠ 0) (h1 : ((0 = 1 ∧ (a1 = 0 ∧ (a2 = 1 ∧ a0 = 1))) ∨ ((0 = 0 ∨ a1 ≠ 0) ∧ (a2 = a1 ∧ ((a0 = 0 ∧ a1 = 0) ∨ (a0 = 1 ∧ a1 ≠ 0)))))) (h2 : a1 = 0) : (a3 < 0 ∨ 23 < a3) := by omega
theorem oq_9eefc06b {a0 a1 a2 a3 : Int} (h0 : a0 = 0) (h1 : ((1 = 1 ∧ (a1 = 0 ∧ (a2 = 1 ∧ a0 = 1))) ∨ ((1 = 0 ∨ a1 ≠ 0) ∧ (a2 = a1 ∧ ((a0 = 0 ∧ a1 = 0) ∨ (a0 = 1 ∧ a1 ≠ 0)))))) (h2 : a1 = 0) : (a3 = a3 ∧ (0 ≤ a3 ∧ a3 ≤ 23)) := by omega
/-! Rows that a method makes for itself: what they hold -/
/-- what stands at the j-th place of the m-th further row -/
def xF (t : PS) (m j : Nat) : Int32 := match (pX t)[m]? with
  | some (_, .inl (_, _, .inl f)) => f j
  | _ => 0
abbrev xV (m : Nat) (t : PS) (j : Nat) : Int := (xF t m j).toInt
theorem xF_at {X0 : va_W} {d : ClassId} {l : List (Nat × Nat)} {fs : Nat → Nat → Int32} {t : PS} (hf : pX t = X0 ++ exW d l fs) {i q n : Nat} (hl : l[i]? = some (q, n)) (j : Nat) : xF t (X0.length + i) j = fs i j := by
  unfold xF
  rw [hf, List.getElem?_append_right (by omega), show X0.length + i - X0.length = i by omega, exW_get hl]
section ZXE
variable {k : kx_T} {mn pc : Nat} {dT : Nat → ClassId} {lv : List (Nat × Value)} {st : List Value} {ce sl : Nat} {A : Nat → Nat} {s : PS} {X0 : va_W} {l : List (Nat × Nat)}
theorem z_xaldE (X : AX k mn dT) (e : EXl X0 (dT 0) l s) (i : Nat) {q n : Nat} {j : Int} (hl : l[i]? = some (q, n)) (h : cdA mn pc = some (.iaload, 1, 0, 0, 0)) (h0 : 0 ≤ j) (hj : j < (n : Int)) (hn : n < 2147483648) (g : WS k (pc + 1) lv (.int (Int32.ofInt (xV (X0.length + i) s j.toNat)) :: st) (Wd A dT s) ce sl) : WS k pc lv (.int (Int32.ofInt j) :: .ref q :: st) (Wd A dT s) ce sl := by
  obtain ⟨fs, hf⟩ := e
  have e2 : xV (X0.length + i) s j.toNat = (fs i j.toNat).toInt := congrArg Int32.toInt (xF_at hf hl _)
  rw [e2, ofi_to] at g
  rw [on_of h0]
  refine w_iald X.1 _ (ex_at hf hl) (X.2.2.1 0) (on_in (by omega) hn) (ax_d X h) ?_
  rw [on_cl (by omega)]
  exact g
theorem z_xastE (X : AX k mn dT) (e : EXl X0 (dT 0) l s) (i : Nat) {q n : Nat} {j x : Int} (hl : l[i]? = some (q, n)) (h : cdA mn pc = some (.iastore, 1, 0, 0, 0)) (h0 : 0 ≤ j) (hj : j < (n : Int)) (hn : n < 2147483648) (g : ∀ px, EXl X0 (dT 0) l (sx s px) → (∀ i' j' : Nat, i' < l.length → xF (sx s px) (X0.length + i') j' = if i' = i ∧ j' = j.toNat then Int32.ofInt x else xF s (X0.length + i') j') → WS k (pc + 1) lv st (Wd A dT (sx s px)) ce sl) : WS k pc lv (.int (Int32.ofInt x) :: .int (Int32.ofInt j) :: .ref q :: st) (Wd A dT s) ce sl := by
  obtain ⟨fs, hf⟩ := e
  rw [on_of h0]
  refine w_iast X.1 _ (ex_at hf hl) (X.2.2.1 0) (on_in (by omega) hn) (ax_d X h) ?_
  have := g (X0 ++ exW (dT 0) l (fun j' => if j' = i then upd (fs i) (Int32.ofNat j.toNat).toNatClampNeg (Int32.ofInt x) else fs j')) ⟨_, rfl⟩ (fun i' j' hi' => by
    have hl' : l[i']? = some (l[i'].1, l[i'].2) := List.getElem?_eq_getElem hi'
    rw [xF_at (t := sx s _) (X0 := X0) (d := dT 0) (l := l) rfl hl', xF_at hf hl', on_cl (by omega)]
    by_cases c : i' = i
    · subst c
      show (if i' = i' then upd (fs i') j.toNat (Int32.ofInt x) else fs i') j' = _
      rw [if_pos rfl]
      unfold upd
      by_cases z : j' = j.toNat
      · rw [if_pos z, if_pos ⟨rfl, z⟩]
      · rw [if_neg z, if_neg (fun w => z w.2)]
    · show (if i' = i then upd (fs i) j.toNat (Int32.ofInt x) else fs i') j' = _
      rw [if_neg c, if_neg (fun w => c w.1)])
  rw [← exW_set hl] at this
  have e2 : Wd A dT (sx s (X0 ++ (exW (dT 0) l fs).set i (q, .inl (dT 0, n, .inl (upd (fs i) (Int32.ofNat j.toNat).toNatClampNeg (Int32.ofInt x)))))) = (Wd A dT s).set (518 + X0.length + i) (q, .inl (dT 0, n, .inl (upd (fs i) (Int32.ofNat j.toNat).toNatClampNeg (Int32.ofInt x)))) := by
    show cW (vS A s) dT bsS (518, []) ++ (X0 ++ _) = (cW (vS A s) dT bsS (518, []) ++ pX s).set _ _
    rw [hf, List.set_append_right _ _ (by rw [cW_518]; omega), cW_518, List.set_append_right _ _ (by omega), show 518 + X0.length + i - 518 - X0.length = i by omega]
  rw [e2] at this
  exact this
end ZXE
/-! Rotas: the model -/
theorem xup {N k : Nat} {t u : PS} {i j : Nat} {x : Int} (f : ∀ i' j' : Nat, i' < k → xF u (N + i') j' = if i' = i ∧ j' = j then Int32.ofInt x else xF t (N + i') j') (r : rng x) : ∀ i' j' : Nat, i' < k → xV (N + i') u j' = if i' = i ∧ j' = j then x else xV (N + i') t j' := fun i' j' h => by
  show (xF u (N + i') j').toInt = _
  rw [f i' j' h]
  by_cases c : i' = i ∧ j' = j
  · rw [if_pos c, if_pos c, zi r]
  · rw [if_neg c, if_neg c]
def RDM (s : PS) (n : Int) : RoD := (fun q => iC s 396 q, n, iI s 102, iI s 103, fun p => iC s 398 p)
def FIL (N : Nat) (c : Int) (t : PS) : Prop := (∀ j : Nat, xV (N + 0) t j = 0) ∧ ∀ p : Nat, (p : Int) < c → xV (N + 2) t p = -100
theorem fil_x {N : Nat} {c : Int} {t u : PS} (h : FIL N c t) (c0 : 0 ≤ c) (f : ∀ i' j' : Nat, i' < 3 → xV (N + i') u j' = if i' = 2 ∧ j' = c.toNat then -100 else xV (N + i') t j') : FIL N (c + 1) u := by
  refine ⟨fun j => ?_, fun p hp => ?_⟩
  · rw [f 0 j (by decide), if_neg (fun z => absurd z.1 (by decide))]
    exact h.1 j
  · rw [f 2 p (by decide)]
    by_cases e : p = c.toNat
    · rw [if_pos ⟨rfl, e⟩]
    · rw [if_neg (fun z => e z.2)]
      exact h.2 p (nx_lt c0 e hp)
def SIMp (D : RoD) (q : Nat) (p : Nat) (a b c : Int) : Prop := a = (ruR D q).wa p ∧ ((0 < (ruR D q).on p ∧ c = (q : Int) - 1 ∧ b = (ruR D q).on p) ∨ ((ruR D q).on p = 0 ∧ (((ruR D q).fr p = 0 ∧ c = -100) ∨ (0 ≤ c ∧ c ≤ (q : Int) - 2 ∧ (ruR D q).fr p = c + 1 + D.rs))))
def SIM (D : RoD) (N q : Nat) (t : PS) (p : Nat) : Prop := SIMp D q p (xV (N + 0) t p) (xV (N + 1) t p) (xV (N + 2) t p)
def MRN (D : RoD) (N q : Nat) (t : PS) : Prop := (∀ p : Nat, p < 8 → SIM D N q t p) ∧ iI t 104 = (ruR D q).wt ∧ ∀ j : Nat, j < q → iC t 397 j = (nwM D (ruR D j) j).toInt
theorem mrn_0 {D : RoD} {N : Nat} {t : PS} {c : Int} (h : FIL N c t) (c8 : c = 8) (hl : iI t 104 = 0) : MRN D N 0 t := ⟨fun p hp => ⟨h.1 p, Or.inr ⟨rfl, Or.inl ⟨rfl, h.2 p (by omega)⟩⟩⟩, hl, fun j hj => absurd hj (by omega)⟩
theorem fil_u {N : Nat} {c : Int} {t u : PS} (h : FIL N c t) (e : ∀ i j : Nat, xV (N + i) u j = xV (N + i) t j) : FIL N c u := ⟨fun j => (e 0 j).trans (h.1 j), fun p hp => (e 2 p).trans (h.2 p hp)⟩
/-- what is the same in what the rota looks at -/
theorem mrn_w {D : RoD} {N q : Nat} {t u : PS} {n x : Int} (h : MRN D N q t) (e : ∀ i j : Nat, xV (N + i) u j = xV (N + i) t j) (hl : iI u 104 = iI t 104) (hu : UPD 397 n x t u) (hn : n = (q : Int)) : MRN D N q u := by
  refine ⟨fun p hp => ?_, hl.trans h.2.1, fun j hj => ?_⟩
  · unfold SIM
    rw [e 0 p, e 1 p, e 2 p]
    exact h.1 p hp
  · rw [hu.2 j (by omega)]
    exact h.2.2 j hj
theorem ru_np {D : RoD} {p : Nat} (h : D.np ≤ (p : Int)) : ∀ q : Nat, (ruR D q).on p = 0
  | 0 => rfl
  | q + 1 => by
    show (if (p : Int) < D.np then (if bT (nwM D (ruR D q) q) p = true then (ruR D q).on p + 1 else 0) else (ruR D q).on p) = 0
    rw [if_neg (by omega)]
    exact ru_np h q
/-- whom a pass may choose -/
def SelS (D : RoD) (q : Nat) (tu : Int) (p : Nat) : Prop := (tu = 0 ∧ goP D (ruR D q) q p) ∨ (tu = 1 ∧ beP D (ruR D q) q p)
theorem sel_0 {D : RoD} {q p : Nat} {tu a b c : Int} (h : SIMp D q p a b c) (t0 : tu = 0) : SelS D q tu p ↔ ((p : Int) < D.np ∧ (q : Int) < D.il p ∧ c = (q : Int) - 1 ∧ b < D.wk) := by
  have e : SelS D q tu p ↔ goP D (ruR D q) q p := ⟨fun z => z.elim (fun y => y.2) (fun y => absurd y.1 (by omega)), fun z => Or.inl ⟨t0, z⟩⟩
  rw [e]
  unfold goP
  rcases h with ⟨_, ⟨h1, h2, h3⟩ | ⟨h1, h2⟩⟩
  · rw [h3]
    constructor
    · exact fun z => ⟨z.1, z.2.2.2, h2, z.2.2.1⟩
    · exact fun z => ⟨z.1, h1, z.2.2.2, z.2.1⟩
  · rw [h1]
    constructor
    · exact fun z => absurd z.2.1 (by omega)
    · intro z
      have z3 := z.2.2.1
      rcases h2 with ⟨_, h2⟩ | ⟨_, h2, _⟩
      · omega
      · omega
theorem sel_1 {D : RoD} {q p : Nat} {tu a b c : Int} (h : SIMp D q p a b c) (t1 : tu = 1) (r0 : 1 ≤ D.rs ∧ D.rs ≤ 24) : SelS D q tu p ↔ ((p : Int) < D.np ∧ (q : Int) < D.il p ∧ c < (q : Int) - D.rs) := by
  have e : SelS D q tu p ↔ beP D (ruR D q) q p := ⟨fun z => z.elim (fun y => absurd y.1 (by omega)) (fun y => y.2), fun z => Or.inr ⟨t1, z⟩⟩
  rw [e]
  unfold beP
  rcases h with ⟨_, ⟨h1, h2, h3⟩ | ⟨h1, h2⟩⟩
  · constructor
    · exact fun z => absurd z.2.1 (by omega)
    · exact fun z => absurd z.2.2 (by omega)
  · rcases h2 with ⟨h2, h3⟩ | ⟨h2, h3, h4⟩
    · constructor
      · exact fun z => ⟨z.1, z.2.2.2, by omega⟩
      · exact fun z => ⟨z.1, h1, by omega, z.2.1⟩
    · constructor
      · exact fun z => ⟨z.1, z.2.2.2, by have := z.2.2.1; omega⟩
      · exact fun z => ⟨z.1, h1, by have := z.2.2; omega, z.2.1⟩
/-- between the passes -/
def PS3 (D : RoD) (q : Nat) (tu w m : Int) : Prop := (0 ≤ m ∧ m ≤ 255) ∧ ((tu = 0 ∧ m = 0 ∧ w = D.nd q) ∨ (tu = 1 ∧ Int32.ofInt m = c1M D (ruR D q) q ∧ w = D.nd q - (pcM (c1M D (ruR D q) q) 8 : Int)) ∨ (tu = 2 ∧ Int32.ofInt m = nwM D (ruR D q) q ∧ w = D.nd q - (pcM (nwM D (ruR D q) q) 8 : Int)))
/-- within a pass -/
def PS5 (D : RoD) (q : Nat) (tu w m : Int) : Prop := (0 ≤ m ∧ m ≤ 255) ∧ 0 ≤ w ∧ ∃ i : Nat, (tu = 0 ∧ SLI (ruR D q).wa (goP D (ruR D q) q) i (Int32.ofInt m) ∧ w = D.nd q - (i : Int)) ∨ (tu = 1 ∧ ∃ m2 : Int32, SLI (ruR D q).wa (beP D (ruR D q) q) i m2 ∧ Int32.ofInt m = c1M D (ruR D q) q ||| m2 ∧ w = D.nd q - (pcM (c1M D (ruR D q) q) 8 : Int) - (i : Int))
def NOC (D : RoD) (q : Nat) (tu be m : Int) : Prop := be = -1 → ∀ p : Nat, p < 8 → SelS D q tu p → bT (Int32.ofInt m) p = true
theorem noc_0 {D : RoD} {q : Nat} {tu be m : Int} (h : be ≠ -1) : NOC D q tu be m := fun z => absurd z h
theorem ps_0 {D : RoD} {q : Nat} {m : Int} (h0 : m = 0) : PS3 D q 0 (D.nd q) m := ⟨by omega, Or.inl ⟨rfl, h0, rfl⟩⟩
theorem ps_in {D : RoD} {q : Nat} {tu w m : Int} (h : PS3 D q tu w m) (t0 : tu = 0 ∨ tu = 1) (n0 : 0 ≤ D.nd q) : PS5 D q tu w m := by
  obtain ⟨h0, h1 | h1 | h1⟩ := h
  · refine ⟨h0, by omega, 0, Or.inl ⟨h1.1, ?_, by omega⟩⟩
    rw [h1.2.1]
    exact sli_0
  · have l := (nw_le (D := D) (s := ruR D q) (q := q)).1
    refine ⟨h0, by omega, 0, Or.inr ⟨h1.1, Int32.ofInt 0, sli_0, ?_, by omega⟩⟩
    rw [h1.2.1]
    exact (Int32.or_zero).symm
  · omega
theorem ps_out {D : RoD} {q : Nat} {tu w be m : Int} (h : PS5 D q tu w m) (hn : NOC D q tu be m) (he : w ≤ 0 ∨ be = -1) (n0 : 0 ≤ D.nd q) : PS3 D q (tu + 1) w m := by
  obtain ⟨h0, h1, i, ⟨h2, h3, h4⟩ | ⟨h2, m2, h3, h4, h5⟩⟩ := h
  · have e : Int32.ofInt m = c1M D (ruR D q) q := sli_e h3 (by omega) (he.elim (fun z => Or.inl (by omega)) (fun z => Or.inr (fun p hp hs => hn z p hp (Or.inl ⟨h2, hs⟩))))
    refine ⟨h0, Or.inr (Or.inl ⟨by omega, e, ?_⟩)⟩
    rw [← e, h3.2]
    exact h4
  · have l := nw_le (D := D) (s := ruR D q) (q := q)
    have hd := nw_pc (D := D) (s := ruR D q) (q := q)
    have e : m2 = c2M D (ruR D q) q := sli_e h3 (by omega) (he.elim (fun z => Or.inl (by omega)) (fun z => Or.inr (fun p hp hs => by
      have y := hn z p hp (Or.inr ⟨h2, hs⟩)
      rw [h4, bt_or, Bool.or_eq_true] at y
      rcases y with y | y
      · have a := (slp_sub _ p hp y).2.1
        have b := hs.2.1
        omega
      · exact y)))
    refine ⟨h0, Or.inr (Or.inr ⟨by omega, by rw [h4, e]; rfl, ?_⟩)⟩
    rw [hd, ← e, h3.2]
    omega
theorem ps_up {D : RoD} {q : Nat} {tu w m m' be n : Int} (h : PS5 D q tu w m) (w0 : 0 < w) (hx : NXQ (ruR D q).wa (fun p => SelS D q tu p ∧ ¬ bT (Int32.ofInt m) p = true) n be) (n8 : n ≤ 8) (hnp : n = D.np) (hb : be ≠ -1) (hm : (0 ≤ m' ∧ m' ≤ 255) ∧ Int32.ofInt m' = Int32.ofInt m ||| b1M be.toNat) : PS5 D q tu (w - 1) m' := by
  have pk : PIK (ruR D q).wa (fun p => SelS D q tu p ∧ ¬ bT (Int32.ofInt m) p = true) be.toNat := nxq_p hx n8 hb (fun p hp => ⟨fun z => ⟨by
    rcases z.1 with y | y
    · rw [hnp]; exact y.2.1
    · rw [hnp]; exact y.2.1, z⟩, fun z => z.2⟩)
  obtain ⟨h0, h1, i, ⟨h2, h3, h4⟩ | ⟨h2, m2, h3, h4, h5⟩⟩ := h
  · refine ⟨hm.1, by omega, i + 1, Or.inl ⟨h2, ?_, by omega⟩⟩
    rw [hm.2]
    refine sli_up h3 (pik_c (fun _ _ => rfl) (fun p _ => and_congr ⟨fun z => ?_, fun z => Or.inl ⟨h2, z⟩⟩ Iff.rfl) pk)
    rcases z with z | z
    · exact z.2
    · omega
  · have dj : ∀ p : Nat, p < 8 → beP D (ruR D q) q p → (bT (Int32.ofInt m) p = true ↔ bT m2 p = true) := fun p hp hs => by
      rw [h4, bt_or, Bool.or_eq_true]
      constructor
      · intro y
        rcases y with y | y
        · have a := (slp_sub _ p hp y).2.1
          have b := hs.2.1
          omega
        · exact y
      · exact Or.inr
    refine ⟨hm.1, by omega, i + 1, Or.inr ⟨h2, m2 ||| b1M be.toNat, ?_, ?_, by omega⟩⟩
    · refine sli_up h3 (pik_c (fun _ _ => rfl) (fun p hp => ?_) pk)
      constructor
      · intro z
        have zs : beP D (ruR D q) q p := z.1.elim (fun y => absurd y.1 (by omega)) (fun y => y.2)
        exact ⟨zs, fun y => z.2 ((dj p hp zs).mpr y)⟩
      · intro z
        exact ⟨Or.inr ⟨h2, z.1⟩, fun y => z.2 ((dj p hp z.1).mp y)⟩
    · rw [hm.2, h4, Int32.or_assoc]
theorem ps_no {D : RoD} {q : Nat} {tu m be n : Int} (hx : NXQ (ruR D q).wa (fun p => SelS D q tu p ∧ ¬ bT (Int32.ofInt m) p = true) n be) (hnp : n = D.np) : NOC D q tu be m := fun hb p hp hs => Classical.byContradiction (fun z => nxq_e hx hb p (by
  rcases hs with y | y
  · rw [hnp]; exact y.2.1
  · rw [hnp]; exact y.2.1) ⟨hs, z⟩)
/-! settling -/
def MST (D : RoD) (N q : Nat) (c : Int) (t : PS) : Prop := (∀ p : Nat, p < 8 → ((p : Int) < c → SIM D N (q + 1) t p) ∧ (c ≤ (p : Int) → SIM D N q t p)) ∧ iI t 104 = (ruR D (q + 1)).wt ∧ ∀ j : Nat, j < q + 1 → iC t 397 j = (nwM D (ruR D j) j).toInt
theorem mst_0 {D : RoD} {N q : Nat} {t u : PS} {m w : Int} (h : MRN D N q t) (hp : PS3 D q 2 w m) (hm : iC u 397 q = m) (e : ∀ i j : Nat, xV (N + i) u j = xV (N + i) t j) (hs : SAM 397 t u) (hl : iI u 104 = iI t 104 + w) : MST D N q 0 u := by
  obtain ⟨h0, h1 | h1 | ⟨_, h1, h2⟩⟩ := hp
  · exact absurd h1.1 (by decide)
  · exact absurd h1.1 (by decide)
  · refine ⟨fun p hp => ⟨fun z => absurd z (by omega), fun _ => ?_⟩, ?_, fun j hj => ?_⟩
    · unfold SIM
      rw [e 0 p, e 1 p, e 2 p]
      exact h.1 p hp
    · rw [hl, h.2.1, h2]
      rfl
    · by_cases c : j = q
      · rw [c, hm]
        exact of_to (show rng m from ⟨by omega, by omega⟩) h1
      · rw [hs j]
        exact h.2.2 j (by omega)
theorem on_st {D : RoD} {q p : Nat} (hp : (p : Int) < D.np) : (bT (nwM D (ruR D q) q) p = true → (ruR D (q + 1)).on p = (ruR D q).on p + 1 ∧ (ruR D (q + 1)).fr p = (ruR D q).fr p ∧ (ruR D (q + 1)).wa p = (ruR D q).wa p + 1) ∧ (¬ bT (nwM D (ruR D q) q) p = true → (ruR D (q + 1)).on p = 0 ∧ (ruR D (q + 1)).fr p = (if 0 < (ruR D q).on p then (q : Int) + D.rs else (ruR D q).fr p) ∧ (ruR D (q + 1)).wa p = (ruR D q).wa p) := by
  refine ⟨fun h => ⟨?_, ?_, ?_⟩, fun h => ⟨?_, ?_, ?_⟩⟩
  · show (if (p : Int) < D.np then (if bT (nwM D (ruR D q) q) p = true then (ruR D q).on p + 1 else 0) else (ruR D q).on p) = _
    rw [if_pos hp, if_pos h]
  · show (if (p : Int) < D.np ∧ ¬ bT (nwM D (ruR D q) q) p = true ∧ 0 < (ruR D q).on p then (q : Int) + D.rs else (ruR D q).fr p) = _
    rw [if_neg (fun z => z.2.1 h)]
  · show (if (p : Int) < D.np ∧ bT (nwM D (ruR D q) q) p = true then (ruR D q).wa p + 1 else (ruR D q).wa p) = _
    rw [if_pos ⟨hp, h⟩]
  · show (if (p : Int) < D.np then (if bT (nwM D (ruR D q) q) p = true then (ruR D q).on p + 1 else 0) else (ruR D q).on p) = _
    rw [if_pos hp, if_neg h]
  · show (if (p : Int) < D.np ∧ ¬ bT (nwM D (ruR D q) q) p = true ∧ 0 < (ruR D q).on p then (q : Int) + D.rs else (ruR D q).fr p) = _
    exact if_cg ⟨fun z => z.2.2, fun z => ⟨hp, h, z⟩⟩
  · show (if (p : Int) < D.np ∧ bT (nwM D (ruR D q) q) p = true then (ruR D q).wa p + 1 else (ruR D q).wa p) = _
    rw [if_neg (fun z => h z.2)]
theorem sim_n {D : RoD} {q p : Nat} {a b c : Int} (h : SIMp D q p a b c) (hp : (p : Int) < D.np) (hb : ¬ bT (nwM D (ruR D q) q) p = true) : SIMp D (q + 1) p a b c := by
  obtain ⟨e1, e2, e3⟩ := (on_st hp).2 hb
  obtain ⟨h1, h2⟩ := h
  refine ⟨by rw [e3]; exact h1, Or.inr ⟨e1, ?_⟩⟩
  rw [e2]
  rcases h2 with ⟨h2, h3, _⟩ | ⟨h2, h3⟩
  · rw [if_pos h2]
    by_cases z : q = 0
    · exact absurd (ru_b D q p).1.2 (by omega)
    · exact Or.inr ⟨by omega, by omega, by omega⟩
  · rw [if_neg (by omega)]
    rcases h3 with h3 | ⟨h3, h4, h5⟩
    · exact Or.inl h3
    · exact Or.inr ⟨h3, by omega, h5⟩
theorem sim_y {D : RoD} {q p : Nat} {a b c b' : Int} (h : SIMp D q p a b c) (hp : (p : Int) < D.np) (hb : bT (nwM D (ruR D q) q) p = true) (h' : (c = (q : Int) - 1 ∧ b' = b + 1) ∨ (c ≠ (q : Int) - 1 ∧ b' = 1)) : SIMp D (q + 1) p (a + 1) b' (q : Int) := by
  obtain ⟨e1, e2, e3⟩ := (on_st hp).1 hb
  have o := (ru_b D q p).1
  obtain ⟨h1, h2⟩ := h
  refine ⟨by rw [e3, h1], Or.inl ⟨by omega, by omega, ?_⟩⟩
  rw [e1]
  rcases h2 with ⟨h2, h3, h4⟩ | ⟨h2, ⟨_, h3⟩ | ⟨_, h3, _⟩⟩
  · omega
  · omega
  · omega
theorem sim_k {D : RoD} {q p : Nat} {a b c : Int} (h : SIMp D q p a b c) (hp : D.np ≤ (p : Int)) : SIMp D (q + 1) p a b c := by
  have o := ru_np hp q
  have o1 := ru_np hp (q + 1)
  have e2 : (ruR D (q + 1)).fr p = (ruR D q).fr p := by
    show (if (p : Int) < D.np ∧ ¬ bT (nwM D (ruR D q) q) p = true ∧ 0 < (ruR D q).on p then (q : Int) + D.rs else (ruR D q).fr p) = _
    rw [if_neg (fun z => absurd z.1 (by omega))]
  have e3 : (ruR D (q + 1)).wa p = (ruR D q).wa p := by
    show (if (p : Int) < D.np ∧ bT (nwM D (ruR D q) q) p = true then (ruR D q).wa p + 1 else (ruR D q).wa p) = _
    rw [if_neg (fun z => absurd z.1 (by omega))]
  obtain ⟨h1, h2⟩ := h
  refine ⟨by rw [e3]; exact h1, Or.inr ⟨o1, ?_⟩⟩
  rw [e2]
  rcases h2 with ⟨h2, _⟩ | ⟨h2, h3⟩
  · omega
  · rcases h3 with h3 | ⟨h3, h4, h5⟩
    · exact Or.inl h3
    · exact Or.inr ⟨h3, by omega, h5⟩
theorem mst_n {D : RoD} {N q : Nat} {c : Int} {t : PS} (h : MST D N q c t) (c0 : 0 ≤ c ∧ c ≤ 7) (hp : c < D.np) (hb : ¬ bT (nwM D (ruR D q) q) c.toNat = true) : MST D N q (c + 1) t := by
  refine ⟨fun p p8 => ⟨fun z => ?_, fun z => (h.1 p p8).2 (by omega)⟩, h.2⟩
  by_cases e : p = c.toNat
  · subst e
    exact sim_n ((h.1 _ p8).2 (by omega)) (by omega) hb
  · exact (h.1 p p8).1 (nx_lt c0.1 e z)
theorem mst_y {D : RoD} {N q : Nat} {c y a b : Int} {t u : PS} (h : MST D N q c t) (c0 : 0 ≤ c ∧ c ≤ 7) (hp : c < D.np) (hb : bT (nwM D (ruR D q) q) c.toNat = true) (hy : y = (q : Int)) (ha : a = xV (N + 0) t c.toNat + 1) (hB : (xV (N + 2) t c.toNat = y - 1 ∧ b = xV (N + 1) t c.toNat + 1) ∨ (xV (N + 2) t c.toNat ≠ y - 1 ∧ b = 1)) (u0 : xV (N + 0) u c.toNat = a) (u1 : xV (N + 1) u c.toNat = b) (u2 : xV (N + 2) u c.toNat = y) (e : ∀ i j : Nat, i < 3 → j ≠ c.toNat → xV (N + i) u j = xV (N + i) t j) (hl : iI u 104 = iI t 104) (hw : SAM 397 t u) : MST D N q (c + 1) u := by
  refine ⟨fun p p8 => ⟨fun z => ?_, fun z => ?_⟩, hl.trans h.2.1, fun j hj => by rw [hw j]; exact h.2.2 j hj⟩
  · by_cases g : p = c.toNat
    · subst g
      unfold SIM
      rw [u0, u1, u2, ha, hy]
      exact sim_y ((h.1 _ p8).2 (by omega)) (by omega) hb (by rw [← hy]; exact hB)
    · unfold SIM
      rw [e 0 p (by decide) g, e 1 p (by decide) g, e 2 p (by decide) g]
      exact (h.1 p p8).1 (nx_lt c0.1 g z)
  · have g : p ≠ c.toNat := by omega
    unfold SIM
    rw [e 0 p (by decide) g, e 1 p (by decide) g, e 2 p (by decide) g]
    exact (h.1 p p8).2 (by omega)
theorem mst_e {D : RoD} {N q : Nat} {c : Int} {t : PS} (h : MST D N q c t) (hc : c = D.np) : MRN D N (q + 1) t := ⟨fun p p8 => by
  by_cases g : (p : Int) < c
  · exact (h.1 p p8).1 g
  · exact sim_k ((h.1 p p8).2 (by omega)) (by omega), h.2⟩
theorem mst_b {D : RoD} {N q : Nat} {c : Int} {t : PS} (h : MST D N q c t) (c0 : 0 ≤ c ∧ c ≤ 7) (q0 : q ≤ 23) : (0 ≤ xV (N + 0) t c.toNat ∧ xV (N + 0) t c.toNat ≤ 23) ∧ (xV (N + 2) t c.toNat = (q : Int) - 1 → 0 ≤ xV (N + 1) t c.toNat ∧ xV (N + 1) t c.toNat ≤ 23) := by
  obtain ⟨h1, h2⟩ := (h.1 c.toNat (by omega)).2 (by omega)
  have b := ru_b D q c.toNat
  refine ⟨by rw [h1]; omega, fun z => ?_⟩
  rcases h2 with ⟨h2, h3, h4⟩ | ⟨h2, ⟨_, h3⟩ | ⟨_, h3, _⟩⟩
  · rw [h4]; omega
  · omega
  · omega
/-! the answers -/
def MRE (D : RoD) (t : PS) : Prop := iI t 104 = (ruR D 24).wt ∧ ∀ j : Nat, j < 24 → iC t 397 j = (nwM D (ruR D j) j).toInt
theorem mrn_e {D : RoD} {N q : Nat} {t : PS} (h : MRN D N q t) (q24 : q = 24) : MRE D t := by
  subst q24
  exact h.2
theorem rdm_e {s t : PS} {n : Int} (hw : iI t 102 = iI s 102) (hr : iI t 103 = iI s 103) (hi : ∀ p : Nat, iC t 398 p = iC s 398 p) : RDM t n = (fun q => iC t 396 q, n, iI s 102, iI s 103, fun p => iC s 398 p) := by
  unfold RDM
  rw [hw, hr, show (fun p => iC t 398 p) = (fun p => iC s 398 p) from funext hi]
theorem rta_m {Q : PlD} {m : Nat} {n w e e0 : Int} {s t u : PS} (hp : PLT Q m t e0) (he : e0 ≠ 0) (hc : MRE (RDM t n) u) (hw : iI t 102 = iI s 102) (hr : iI t 103 = iI s 103) (hi : ∀ p : Nat, iC t 398 p = iC s 398 p) (w0 : 0 ≤ w ∧ w ≤ 23) (hE : e = iC u 397 w.toNat) : RTA Q m n (iI s 102) (iI s 103) (fun p => iC s 398 p) w.toNat e := by
  have hn := nde_m hp he
  rw [rdm_e hw hr hi] at hc
  exact Or.inr ⟨_, hn, hE.trans (hc.2 w.toNat (by omega))⟩
theorem lka_m {Q : PlD} {m : Nat} {n e e0 : Int} {s t u : PS} (hp : PLT Q m t e0) (he : e0 ≠ 0) (hc : MRE (RDM t n) u) (hw : iI t 102 = iI s 102) (hr : iI t 103 = iI s 103) (hi : ∀ p : Nat, iC t 398 p = iC s 398 p) (hE : e = iI u 104) : LKA Q m n (iI s 102) (iI s 103) (fun p => iC s 398 p) e := by
  have hn := nde_m hp he
  rw [rdm_e hw hr hi] at hc
  exact Or.inr ⟨_, hn, hE.trans hc.1⟩
def ENM (Q : PlD) (m : Nat) (wk rs : Int) (il : Nat → Int) (c : Int) (t : PS) : Prop := ∃ nd : Nat → Int, NDE Q m nd ∧ (∀ j : Nat, iC t 396 j = nd j) ∧ ENN nd wk rs il c
theorem enm_1 {Q : PlD} {m : Nat} {wk rs : Int} {il : Nat → Int} {t : PS} (h : NDE Q m (fun q => iC t 396 q)) : ENM Q m wk rs il 1 t := ⟨_, h, fun _ => rfl, enn_1⟩
theorem enm_nd {Q : PlD} {m : Nat} {wk rs c : Int} {il : Nat → Int} {t : PS} (h : ENM Q m wk rs il c t) (hD : nDP Q) : ∀ q : Nat, q < 24 → 0 ≤ iC t 396 q ∧ iC t 396 q ≤ 8 := fun q hq => by
  obtain ⟨nd, h1, h2, _⟩ := h
  rw [h2 q]
  exact nde_r h1 hD q hq
theorem enm_up {Q : PlD} {m : Nat} {c : Int} {s t u : PS} (h : ENM Q m (iI s 102) (iI s 103) (fun p => iC s 398 p) c t) (hc : MRE (RDM t c) u) (hw : iI t 102 = iI s 102) (hr : iI t 103 = iI s 103) (hi : ∀ p : Nat, iC t 398 p = iC s 398 p) (a : SAM 396 t u) (hz : iI u 104 ≠ 0) (c0 : 0 ≤ c) : ENM Q m (iI s 102) (iI s 103) (fun p => iC s 398 p) (c + 1) u := by
  obtain ⟨nd, h1, h2, h3⟩ := h
  refine ⟨nd, h1, fun j => (a j).trans (h2 j), enn_up h3 c0 ?_⟩
  rw [rdm_e hw hr hi, show (fun q => iC t 396 q) = nd from funext h2] at hc
  exact fun z => hz (hc.1.trans z)
theorem enm_y {Q : PlD} {m : Nat} {c : Int} {s t u : PS} (h : ENM Q m (iI s 102) (iI s 103) (fun p => iC s 398 p) c t) (hc : MRE (RDM t c) u) (hw : iI t 102 = iI s 102) (hr : iI t 103 = iI s 103) (hi : ∀ p : Nat, iC t 398 p = iC s 398 p) (hz : iI u 104 = 0) (c0 : 1 ≤ c ∧ c ≤ 8) : ENA Q m (iI s 102) (iI s 103) (fun p => iC s 398 p) c := by
  obtain ⟨nd, h1, h2, h3⟩ := h
  rw [rdm_e hw hr hi, show (fun q => iC t 396 q) = nd from funext h2] at hc
  exact Or.inr ⟨nd, h1, Or.inr ⟨c0.1, c0.2, h3, hc.1.symm.trans hz⟩⟩
theorem enm_n {Q : PlD} {m : Nat} {wk rs c : Int} {il : Nat → Int} {t : PS} (h : ENM Q m wk rs il c t) (c9 : c = 9) : ENA Q m wk rs il (-1) := by
  obtain ⟨nd, h1, _, h3⟩ := h
  rw [c9] at h3
  exact Or.inr ⟨nd, h1, Or.inl ⟨rfl, h3⟩⟩
theorem mst_y3 {D : RoD} {N q : Nat} {c y b v : Int} {t u1 u2 u3 : PS} (h : MST D N q c t) (c0 : 0 ≤ c ∧ c ≤ 7) (hp : c < D.np) (hb : bT (nwM D (ruR D q) q) c.toNat = true) (hy : y = (q : Int)) (hB : (xV (N + 2) t c.toNat = y - 1 ∧ b = xV (N + 1) t c.toNat + 1) ∨ (xV (N + 2) t c.toNat ≠ y - 1 ∧ b = 1)) (g1 : ∀ i j : Nat, i < 3 → xV (N + i) u1 j = if i = 1 ∧ j = c.toNat then b else xV (N + i) t j) (g2 : ∀ i j : Nat, i < 3 → xV (N + i) u2 j = if i = 2 ∧ j = c.toNat then y else xV (N + i) u1 j) (g3 : ∀ i j : Nat, i < 3 → xV (N + i) u3 j = if i = 0 ∧ j = c.toNat then v else xV (N + i) u2 j) (hv : v = xV (N + 0) t c.toNat + 1) (hl : iI u3 104 = iI t 104) (hw : SAM 397 t u3) : MST D N q (c + 1) u3 := by
  refine mst_y h c0 hp hb hy hv hB ?_ ?_ ?_ (fun i j hi hj => ?_) hl hw
  · rw [g3 0 _ (by decide), if_pos ⟨rfl, rfl⟩]
  · rw [g3 1 _ (by decide), if_neg (fun z => absurd z.1 (by decide)), g2 1 _ (by decide), if_neg (fun z => absurd z.1 (by decide)), g1 1 _ (by decide), if_pos ⟨rfl, rfl⟩]
  · rw [g3 2 _ (by decide), if_neg (fun z => absurd z.1 (by decide)), g2 2 _ (by decide), if_pos ⟨rfl, rfl⟩]
  · rw [g3 i j hi, if_neg (fun z => hj z.2), g2 i j hi, if_neg (fun z => hj z.2), g1 i j hi, if_neg (fun z => hj z.2)]
theorem x0_at {N : Nat} {c y b : Int} {t u1 u2 : PS} (g1 : ∀ i j : Nat, i < 3 → xV (N + i) u1 j = if i = 1 ∧ j = c.toNat then b else xV (N + i) t j) (g2 : ∀ i j : Nat, i < 3 → xV (N + i) u2 j = if i = 2 ∧ j = c.toNat then y else xV (N + i) u1 j) : xV (N + 0) u2 c.toNat = xV (N + 0) t c.toNat := by
  rw [g2 0 _ (by decide), if_neg (fun z => absurd z.1 (by decide)), g1 0 _ (by decide), if_neg (fun z => absurd z.1 (by decide))]
theorem sel_il {D : RoD} {q p : Nat} {tu : Int} (h : SelS D q tu p) : (q : Int) < D.il p := h.elim (fun z => z.2.2.2.2) (fun z => z.2.2.2.2)
theorem fx_i {L M : List Nat} {s t : PS} {k : Nat} (F : FmX L M s t) (h : k ∉ L) : iI t k = iI s k := congrArg Int32.toInt (F.1 k h)
theorem fx_c {L M : List Nat} {s t : PS} {a : Nat} (F : FmX L M s t) (h : a ∉ M) {j : Nat} : iC t a j = iC s a j := congrArg Int32.toInt (congrFun (F.2.1 a h) j)
theorem ILJ_fm {L M : List Nat} {s t : PS} (F : Fm L M s t) (h : 52 ∉ M ∧ 398 ∉ M) (r : AEQ 52 398 8 s) : AEQ 52 398 8 t := aeq_sam r (sam_fm F h.1) (sam_fm F h.2)
section M87kq
variable {l : Launch} {s0 : State} {D : va_G} {tys : List (ClassId × FieldType)} {a0 : Array Value} {A : Nat → Nat} {dT : Nat → ClassId} {s : PS}
set_option maxRecDepth 4000 in
theorem k_findRota7 (G : GX l s0 D tys a0 dT) (I : Bd s) {x : Int} (p0 : 1 ≤ x ∧ x ≤ 8) (p1 : ∀ q : Nat, q < 24 → 0 ≤ iC s 396 q ∧ iC s 396 q ≤ 8) : CT l s0 D A dT 275 (rmN 275) [.ref (A 179), .int (Int32.ofInt x)] s (fun o t => Bd t ∧ Fm [104] [397] s t ∧ o = .inl none ∧ (MRE (RDM s x) t)) := by
  refine ct_of G (by decide) (Nat.le_of_ble_eq_true rfl) (fun k X E hRt hXt q => ?_)
  show WS k 0 [(0, .ref (A 179)), (1, .int (Int32.ofInt x))] [] _ 0 0
  have F : Fm [104] [397] s s := fm_rf _ _ s
  have jEX : True := trivial
  refine z_bipush X rfl (z_newX X (n := 8) (by decide) rfl (by rw [E.2.2.2]; decide) (by rw [E.2.2.2]; decide) (fun q1 => ?_))
  refine z_astore_n X (lv' := [(2, .ref q1), (0, .ref (A 179)), (1, .int (Int32.ofInt x))]) rfl (by decide) (fun _ h => h) (z_bipush X rfl (z_newX X (n := 8) (by decide) rfl (by rw [E.2.2.2]; decide) (by rw [E.2.2.2]; decide) (fun q2 => ?_)))
  refine z_astore_n X (lv' := [(3, .ref q2), (2, .ref q1), (0, .ref (A 179)), (1, .int (Int32.ofInt x))]) rfl (by decide) (fun _ h => h) (z_bipush X rfl (z_newX X (n := 8) (by decide) rfl (by rw [E.2.2.2]; decide) (by rw [E.2.2.2]; decide) (fun q3 => ?_)))
  refine z_astore X (lv' := [(4, .ref q3), (3, .ref q2), (2, .ref q1), (0, .ref (A 179)), (1, .int (Int32.ofInt x))]) rfl (by decide) (fun _ h => h) ?_
  have hf0 : pX (sx (sx (sx s (pX s ++ [(q1, .inl (dT 0, 8, .inl (fun _ => 0)))])) (pX (sx s (pX s ++ [(q1, .inl (dT 0, 8, .inl (fun _ => 0)))])) ++ [(q2, .inl (dT 0, 8, .inl (fun _ => 0)))])) (pX (sx (sx s (pX s ++ [(q1, .inl (dT 0, 8, .inl (fun _ => 0)))])) (pX (sx s (pX s ++ [(q1, .inl (dT 0, 8, .inl (fun _ => 0)))])) ++ [(q2, .inl (dT 0, 8, .inl (fun _ => 0)))])) ++ [(q3, .inl (dT 0, 8, .inl (fun _ => 0)))])) = pX s ++ exW (dT 0) [(q1, 8), (q2, 8), (q3, 8)] (fun _ _ => 0) := by show (((pX s ++ [_]) ++ [_]) ++ [_]) = _; rw [List.append_assoc, List.append_assoc]; rfl
  have eX0 : EXl (pX s) (dT 0) [(q1, 8), (q2, 8), (q3, 8)] (sx (sx (sx s (pX s ++ [(q1, .inl (dT 0, 8, .inl (fun _ => 0)))])) (pX (sx s (pX s ++ [(q1, .inl (dT 0, 8, .inl (fun _ => 0)))])) ++ [(q2, .inl (dT 0, 8, .inl (fun _ => 0)))])) (pX (sx (sx s (pX s ++ [(q1, .inl (dT 0, 8, .inl (fun _ => 0)))])) (pX (sx s (pX s ++ [(q1, .inl (dT 0, 8, .inl (fun _ => 0)))])) ++ [(q2, .inl (dT 0, 8, .inl (fun _ => 0)))])) ++ [(q3, .inl (dT 0, 8, .inl (fun _ => 0)))])) := ⟨fun _ _ => 0, hf0⟩
  have hz0 : ∀ j : Nat, xV ((pX s).length + 0) (sx (sx (sx s (pX s ++ [(q1, .inl (dT 0, 8, .inl (fun _ => 0)))])) (pX (sx s (pX s ++ [(q1, .inl (dT 0, 8, .inl (fun _ => 0)))])) ++ [(q2, .inl (dT 0, 8, .inl (fun _ => 0)))])) (pX (sx (sx s (pX s ++ [(q1, .inl (dT 0, 8, .inl (fun _ => 0)))])) (pX (sx s (pX s ++ [(q1, .inl (dT 0, 8, .inl (fun _ => 0)))])) ++ [(q2, .inl (dT 0, 8, .inl (fun _ => 0)))])) ++ [(q3, .inl (dT 0, 8, .inl (fun _ => 0)))])) j = 0 := fun j => congrArg Int32.toInt (xF_at hf0 (i := 0) rfl j)
  have It0 : Bd (sx (sx (sx s (pX s ++ [(q1, .inl (dT 0, 8, .inl (fun _ => 0)))])) (pX (sx s (pX s ++ [(q1, .inl (dT 0, 8, .inl (fun _ => 0)))])) ++ [(q2, .inl (dT 0, 8, .inl (fun _ => 0)))])) (pX (sx (sx s (pX s ++ [(q1, .inl (dT 0, 8, .inl (fun _ => 0)))])) (pX (sx s (pX s ++ [(q1, .inl (dT 0, 8, .inl (fun _ => 0)))])) ++ [(q2, .inl (dT 0, 8, .inl (fun _ => 0)))])) ++ [(q3, .inl (dT 0, 8, .inl (fun _ => 0)))])) := I
  have Ft0 : FmX [104] [397] s (sx (sx (sx s (pX s ++ [(q1, .inl (dT 0, 8, .inl (fun _ => 0)))])) (pX (sx s (pX s ++ [(q1, .inl (dT 0, 8, .inl (fun _ => 0)))])) ++ [(q2, .inl (dT 0, 8, .inl (fun _ => 0)))])) (pX (sx (sx s (pX s ++ [(q1, .inl (dT 0, 8, .inl (fun _ => 0)))])) (pX (sx s (pX s ++ [(q1, .inl (dT 0, 8, .inl (fun _ => 0)))])) ++ [(q2, .inl (dT 0, 8, .inl (fun _ => 0)))])) ++ [(q3, .inl (dT 0, 8, .inl (fun _ => 0)))])) := ⟨fun _ _ => rfl, fun _ _ => rfl, fun _ _ => rfl, fun _ _ => rfl⟩
  clear hf0
  obtain ⟨t0, ht0⟩ : ∃ t0, t0 = (sx (sx (sx s (pX s ++ [(q1, .inl (dT 0, 8, .inl (fun _ => 0)))])) (pX (sx s (pX s ++ [(q1, .inl (dT 0, 8, .inl (fun _ => 0)))])) ++ [(q2, .inl (dT 0, 8, .inl (fun _ => 0)))])) (pX (sx (sx s (pX s ++ [(q1, .inl (dT 0, 8, .inl (fun _ => 0)))])) (pX (sx s (pX s ++ [(q1, .inl (dT 0, 8, .inl (fun _ => 0)))])) ++ [(q2, .inl (dT 0, 8, .inl (fun _ => 0)))])) ++ [(q3, .inl (dT 0, 8, .inl (fun _ => 0)))])) := ⟨_, rfl⟩
  rw [← ht0] at eX0 It0 Ft0 hz0
  rw [← ht0]
  clear ht0
  show WS k 16 [(4, .ref q3), (3, .ref q2), (2, .ref q1), (0, .ref (A 179)), (1, .int (Int32.ofInt x))] [] (Wd A dT t0) 3 24
  have b1 := bi_104 It0
  have b2 := bi_103 It0
  have L19 : ∀ (n : Nat) (t : PS) (xv p : Int), Bd t → FmX [104] [397] s t → EXl (pX s) (dT 0) [(q1, 8), (q2, 8), (q3, 8)] t → (FIL (pX s).length p t) → ((xv = x ∧ 1 ≤ x ∧ x ≤ 8) ∧ 0 ≤ p ∧ p ≤ 8) → (8 - p : Int).toNat < n → (∀ (t' : PS) (p' : Int), Bd t' → FmX [104] [397] s t' → EXl (pX s) (dT 0) [(q1, 8), (q2, 8), (q3, 8)] t' → (FIL (pX s).length p' t') → ((xv = x ∧ 1 ≤ x ∧ x ≤ 8) ∧ p' = 8) → WS k 39 [(0, .ref (A 179)), (2, .ref q1), (3, .ref q2), (4, .ref q3), (1, .int (Int32.ofInt xv)), (5, .int (Int32.ofInt p'))] [] (Wd A dT t') 3 24) → WS k 19 [(0, .ref (A 179)), (2, .ref q1), (3, .ref q2), (4, .ref q3), (1, .int (Int32.ofInt xv)), (5, .int (Int32.ofInt p))] [] (Wd A dT t) 3 24 := by
    intro n
    induction n with
    | zero =>
      intro t xv p I F jjEX hq hi hm kx
      exact absurd hm (Nat.not_lt_zero _)
    | succ n ih =>
      intro t xv p I F jjEX hq hi hm kx
      have b1001 := bi_104 I
      have b1002 := bi_103 I
      refine z_load X (x := p) rfl (List.Mem.tail _ (List.Mem.tail _ (List.Mem.tail _ (List.Mem.tail _ (List.Mem.tail _ (List.Mem.head _)))))) (z_bipush X rfl (z_icmp_ge X (t := 39) rfl rfl ⟨by first | exact oq_fa4e5087 hi.2.1 | omega, by first | exact oq_d3f5d874 hi.2.2 | omega⟩ (by decide) (fun g1003 => ?_) (fun g1003 => ?_)))
      ·
        refine WS_pq [0, 1, 2, 3, 4, 5] (lv' := [(0, .ref (A 179)), (2, .ref q1), (3, .ref q2), (4, .ref q3), (1, .int (Int32.ofInt xv)), (5, .int (Int32.ofInt p))]) rfl ?_
        exact kx _ p I F jjEX hq (by first | exact ⟨And.intro (hi.1.1) (And.intro (hi.1.2.1) (hi.1.2.2)), oq_73d3719d hi.2.2 g1003⟩ | omega)
      ·
        refine z_aload X (x := q3) rfl (List.Mem.tail _ (List.Mem.tail _ (List.Mem.tail _ (List.Mem.head _)))) (z_load X (x := p) rfl (List.Mem.tail _ (List.Mem.tail _ (List.Mem.tail _ (List.Mem.tail _ (List.Mem.tail _ (List.Mem.head _)))))) (z_bipush X rfl (z_xastE X jjEX 2 rfl rfl (by first | exact hi.2.1 | omega) (show p < 8 by first | exact g1003 | omega) (by decide) (fun ps1004 es1004 fs1004 => ?_))))
        have Is1004 : Bd (sx t ps1004) := I
        have Fs1004 : FmX [104] [397] s (sx t ps1004) := F
        have ws1004_104 : iI (sx t ps1004) 104 = iI t 104 := rfl
        have ws1004_103 : iI (sx t ps1004) 103 = iI t 103 := rfl
        generalize sx t ps1004 = s1004 at *
        refine z_inc X (x := p) (lv' := [(5, .int (Int32.ofInt (p + 1))), (0, .ref (A 179)), (2, .ref q1), (3, .ref q2), (4, .ref q3), (1, .int (Int32.ofInt xv))]) rfl (by decide) (List.Mem.tail _ (List.Mem.tail _ (List.Mem.tail _ (List.Mem.tail _ (List.Mem.tail _ (List.Mem.head _)))))) (fun _ h => h) (z_goto X (t := 19) rfl rfl (WS_pq [1, 2, 3, 4, 5, 0] (lv' := [(0, .ref (A 179)), (2, .ref q1), (3, .ref q2), (4, .ref q3), (1, .int (Int32.ofInt xv)), (5, .int (Int32.ofInt (p + 1)))]) rfl ?_))
        exact ih _ xv (p + 1) Is1004 Fs1004 es1004 (fil_x hq (by first | (clear p1; omega) | omega) (fun i j hi => xup fs1004 (by decide) i j hi)) (by first | exact ⟨And.intro (hi.1.1) (And.intro (hi.1.2.1) (hi.1.2.2)), oq_54f49eb5 hi.2.1, oq_0c7b19c3 g1003⟩ | omega) (by first | exact qk_me hm (by decide) (oq_9f368f35 g1003) | omega) kx
  have L100 : ∀ (n : Nat) (t : PS) (xv qq wa tu be p : Int), Bd t → FmX [104] [397] s t → EXl (pX s) (dT 0) [(q1, 8), (q2, 8), (q3, 8)] t → (MRN (RDM s x) (pX s).length (qq : Int).toNat t ∧ PS5 (RDM s x) (qq : Int).toNat tu wa (iC t 397 (qq : Int).toNat) ∧ NXQ (ruR (RDM s x) (qq : Int).toNat).wa (fun p => SelS (RDM s x) (qq : Int).toNat tu p ∧ ¬ bT (Int32.ofInt (iC t 397 (qq : Int).toNat)) p = true) p be) → ((xv = x ∧ 1 ≤ x ∧ x ≤ 8) ∧ (0 ≤ qq ∧ qq ≤ 23) ∧ (0 ≤ wa ∧ wa ≤ 8) ∧ (0 ≤ tu ∧ tu ≤ 1) ∧ (-1 ≤ be ∧ be ≤ 7 ∧ be < p) ∧ 0 ≤ p ∧ p ≤ x ∧ (1 ≤ iI t 103 ∧ iI t 103 ≤ 8)) → (8 - p : Int).toNat < n → (∀ (t' : PS) (be' p' : Int), Bd t' → FmX [104] [397] s t' → EXl (pX s) (dT 0) [(q1, 8), (q2, 8), (q3, 8)] t' → (MRN (RDM s x) (pX s).length (qq : Int).toNat t' ∧ PS5 (RDM s x) (qq : Int).toNat tu wa (iC t' 397 (qq : Int).toNat) ∧ NXQ (ruR (RDM s x) (qq : Int).toNat).wa (fun p => SelS (RDM s x) (qq : Int).toNat tu p ∧ ¬ bT (Int32.ofInt (iC t' 397 (qq : Int).toNat)) p = true) p' be') → ((xv = x ∧ 1 ≤ x ∧ x ≤ 8) ∧ (0 ≤ qq ∧ qq ≤ 23) ∧ (0 ≤ wa ∧ wa ≤ 8) ∧ (0 ≤ tu ∧ tu ≤ 1) ∧ (-1 ≤ be' ∧ be' ≤ 7) ∧ p' = x) → WS k 227 [(0, .ref (A 179)), (2, .ref q1), (3, .ref q2), (4, .ref q3), (1, .int (Int32.ofInt xv)), (5, .int (Int32.ofInt qq)), (6, .int (Int32.ofInt wa)), (7, .int (Int32.ofInt tu)), (8, .int (Int32.ofInt be')), (9, .int (Int32.ofInt p'))] [] (Wd A dT t') 3 24) → WS k 100 [(0, .ref (A 179)), (2, .ref q1), (3, .ref q2), (4, .ref q3), (1, .int (Int32.ofInt xv)), (5, .int (Int32.ofInt qq)), (6, .int (Int32.ofInt wa)), (7, .int (Int32.ofInt tu)), (8, .int (Int32.ofInt be)), (9, .int (Int32.ofInt p))] [] (Wd A dT t) 3 24 := by
    intro n
    induction n with
    | zero =>
      intro t xv qq wa tu be p I F jjEX hq hi hm kx
      exact absurd hm (Nat.not_lt_zero _)
    | succ n ih =>
      intro t xv qq wa tu be p I F jjEX hq hi hm kx
      have b2001 := bi_104 I
      have b2002 := bi_103 I
      refine z_load X (x := p) rfl (List.Mem.tail _ (List.Mem.tail _ (List.Mem.tail _ (List.Mem.tail _ (List.Mem.tail _ (List.Mem.tail _ (List.Mem.tail _ (List.Mem.tail _ (List.Mem.tail _ (List.Mem.head _)))))))))) (z_load_n X (x := xv) rfl (List.Mem.tail _ (List.Mem.tail _ (List.Mem.tail _ (List.Mem.tail _ (List.Mem.head _))))) (z_icmp_ge X (t := 227) rfl rfl ⟨by first | exact oq_fa4e5087 hi.2.2.2.2.2.1 | omega, by first | exact oq_b5dbaaed hi.2.2.2.2.2.2.1 hi.1.2.2 | omega⟩ ⟨by first | exact oq_4dc996b7 hi.1.1 hi.1.2.1 | omega, by first | exact oq_8bd33971 hi.1.1 hi.1.2.2 | omega⟩ (fun g2003 => ?_) (fun g2003 => ?_)))
      ·
        refine WS_pq [0, 1, 2, 3, 4, 5, 6, 7, 8, 9] (lv' := [(0, .ref (A 179)), (2, .ref q1), (3, .ref q2), (4, .ref q3), (1, .int (Int32.ofInt xv)), (5, .int (Int32.ofInt qq)), (6, .int (Int32.ofInt wa)), (7, .int (Int32.ofInt tu)), (8, .int (Int32.ofInt be)), (9, .int (Int32.ofInt p))]) rfl ?_
        exact kx _ be p I F jjEX hq (by first | exact ⟨And.intro (hi.1.1) (And.intro (hi.1.2.1) (hi.1.2.2)), And.intro (hi.2.1.1) (hi.2.1.2), And.intro (hi.2.2.1.1) (hi.2.2.1.2), And.intro (hi.2.2.2.1.1) (hi.2.2.2.1.2), And.intro (hi.2.2.2.2.1.1) (hi.2.2.2.2.1.2.1), oq_537ca82a hi.2.2.2.2.2.2.1 g2003 hi.1.1⟩ | omega)
      ·
        have hS := hq.1.1 (p : Int).toNat (by first | (clear p1; omega) | omega)
        have hS0 : xV ((pX s).length + 0) t (p : Int).toNat = (ruR (RDM s x) (qq : Int).toNat).wa (p : Int).toNat := hS.1
        have hil : iC t 398 (p : Int).toNat = (RDM s x).il (p : Int).toNat := fx_c F (by decide)
        have hwk : iI t 102 = (RDM s x).wk := fx_i F (by decide)
        have hrs : iI t 103 = (RDM s x).rs := fx_i F (by decide)
        have hnp : x = (RDM s x).np := rfl
        have hqe : qq = (((qq : Int).toNat : Nat) : Int) := by first | (clear p1; omega) | omega
        refine z_aload_n X (x := A 179) rfl (List.Mem.head _) (s_getR X 179 rfl (c518_ok rfl) rfl rfl (z_load X (x := qq) rfl (List.Mem.tail _ (List.Mem.tail _ (List.Mem.tail _ (List.Mem.tail _ (List.Mem.tail _ (List.Mem.head _)))))) (z_ald X 452 rfl (c518_ok rfl) rfl (by first | exact hi.2.1.1 | omega) (show qq < 24 by first | exact oq_7fdb8aa6 hi.2.1.2 | omega) (cbig_ok rfl) ?_)))
        have b2004 := bc_397 I (show (qq).toNat < 24 by first | exact oq_138251d6 hi.2.1.2 | omega)
        refine z_load X (x := p) rfl (List.Mem.tail _ (List.Mem.tail _ (List.Mem.tail _ (List.Mem.tail _ (List.Mem.tail _ (List.Mem.tail _ (List.Mem.tail _ (List.Mem.tail _ (List.Mem.tail _ (List.Mem.head _)))))))))) (z_bshr X rfl (z_anyV (fun y2005 hy2005 ey2005 => ?_)))
        refine z_const X rfl (w_iand X.1 (ax_d X (show cdA 275 117 = some (.iand, 1, 0, 0, 0) from rfl)) (z_anyV (fun y2006 hy2006 ey2006 => ?_)))
        have hbit := bt_rd (b := iC t 397 (qq : Int).toNat) (p := p) ey2005 ey2006 hy2006 (by first | (clear p1; omega) | omega)
        refine z_const X rfl (z_icmp_eq X (t := 221) rfl rfl hy2006 (by decide) (fun g2007 => ?_) (fun g2007 => ?_))
        ·
          refine z_inc X (x := p) (lv' := [(9, .int (Int32.ofInt (p + 1))), (0, .ref (A 179)), (2, .ref q1), (3, .ref q2), (4, .ref q3), (1, .int (Int32.ofInt xv)), (5, .int (Int32.ofInt qq)), (6, .int (Int32.ofInt wa)), (7, .int (Int32.ofInt tu)), (8, .int (Int32.ofInt be))]) rfl (by decide) (List.Mem.tail _ (List.Mem.tail _ (List.Mem.tail _ (List.Mem.tail _ (List.Mem.tail _ (List.Mem.tail _ (List.Mem.tail _ (List.Mem.tail _ (List.Mem.tail _ (List.Mem.head _)))))))))) (fun _ h => h) (z_goto X (t := 100) rfl rfl (WS_pq [1, 2, 3, 4, 5, 6, 7, 8, 9, 0] (lv' := [(0, .ref (A 179)), (2, .ref q1), (3, .ref q2), (4, .ref q3), (1, .int (Int32.ofInt xv)), (5, .int (Int32.ofInt qq)), (6, .int (Int32.ofInt wa)), (7, .int (Int32.ofInt tu)), (8, .int (Int32.ofInt be)), (9, .int (Int32.ofInt (p + 1)))]) rfl ?_))
          exact ih _ xv qq wa tu be (p + 1) I F jjEX ⟨hq.1, hq.2.1, nxq_n hq.2.2 (by first | (clear p1; omega) | omega) (fun a => a.2 (hbit.elim (fun z => z.2) (fun z => absurd z.1 (by first | (clear p1; omega) | omega))))⟩ (by first | exact ⟨And.intro (hi.1.1) (And.intro (hi.1.2.1) (hi.1.2.2)), And.intro (hi.2.1.1) (hi.2.1.2), And.intro (hi.2.2.1.1) (hi.2.2.1.2), And.intro (hi.2.2.2.1.1) (hi.2.2.2.1.2), And.intro (hi.2.2.2.2.1.1) (And.intro (hi.2.2.2.2.1.2.1) (oq_d130ae0d hi.2.2.2.2.1.2.2)), oq_54f49eb5 hi.2.2.2.2.2.1, oq_8a89b3ae g2003 hi.1.1, b2002.1, b2002.2⟩ | omega) (by first | exact qk_me hm (by decide) (oq_67fee7f6 g2003 hi.1.1 hi.1.2.2) | omega) kx
        ·
          have hnB : ¬ bT (Int32.ofInt (iC t 397 (qq : Int).toNat)) (p : Int).toNat = true := hbit.elim (fun z => absurd z.1 (by first | (clear g2007 p1; omega) | (clear p1; omega) | omega)) (fun z => z.2)
          refine z_load X (x := qq) rfl (List.Mem.tail _ (List.Mem.tail _ (List.Mem.tail _ (List.Mem.tail _ (List.Mem.tail _ (List.Mem.head _)))))) (z_aload_n X (x := A 179) rfl (List.Mem.head _) (s_getR X 179 rfl (c518_ok rfl) rfl rfl (z_load X (x := p) rfl (List.Mem.tail _ (List.Mem.tail _ (List.Mem.tail _ (List.Mem.tail _ (List.Mem.tail _ (List.Mem.tail _ (List.Mem.tail _ (List.Mem.tail _ (List.Mem.tail _ (List.Mem.head _)))))))))) (z_ald X 453 rfl (c518_ok rfl) rfl (by first | exact hi.2.2.2.2.2.1 | omega) (show p < 8 by first | exact oq_940075ae g2003 hi.1.1 hi.1.2.2 | omega) (cbig_ok rfl) ?_))))
          have b2008 := bc_398 I (show (p).toNat < 8 by first | exact oq_5f8a5a7e g2003 hi.1.1 hi.1.2.2 | omega)
          refine z_icmp_lt X (t := 137) rfl rfl ⟨by first | exact oq_fa4e5087 hi.2.1.1 | omega, by first | exact oq_1a42ef34 hi.2.1.2 | omega⟩ (rng_to _) (fun g2009 => ?_) (fun g2009 => ?_)
          ·
            refine z_load X (x := tu) rfl (List.Mem.tail _ (List.Mem.tail _ (List.Mem.tail _ (List.Mem.tail _ (List.Mem.tail _ (List.Mem.tail _ (List.Mem.tail _ (List.Mem.head _)))))))) (z_if_ne X (t := 173) rfl rfl ⟨by first | exact oq_fa4e5087 hi.2.2.2.1.1 | omega, by first | exact oq_22e1e6b0 hi.2.2.2.1.2 | omega⟩ (fun g2010 => ?_) (fun g2010 => ?_))
            ·
              have hsel := sel_1 (tu := tu) hS (by first | (clear g2010 g2007 p1; omega) | (clear g2007 p1; omega) | omega) (by first | (clear g2010 g2007 p1; omega) | (clear g2007 p1; omega) | omega)
              refine z_aload X (x := q3) rfl (List.Mem.tail _ (List.Mem.tail _ (List.Mem.tail _ (List.Mem.head _)))) (z_load X (x := p) rfl (List.Mem.tail _ (List.Mem.tail _ (List.Mem.tail _ (List.Mem.tail _ (List.Mem.tail _ (List.Mem.tail _ (List.Mem.tail _ (List.Mem.tail _ (List.Mem.tail _ (List.Mem.head _)))))))))) (z_xaldE X jjEX 2 rfl rfl (by first | exact hi.2.2.2.2.2.1 | omega) (show p < 8 by first | exact oq_940075ae g2003 hi.1.1 hi.1.2.2 | omega) (by decide) ?_))
              have b2011 : rng (xV ((pX s).length + 2) t (p).toNat) := rng_to _
              refine z_load X (x := qq) rfl (List.Mem.tail _ (List.Mem.tail _ (List.Mem.tail _ (List.Mem.tail _ (List.Mem.tail _ (List.Mem.head _)))))) (z_aload_n X (x := A 179) rfl (List.Mem.head _) (z_getI X 179 rfl (c518_ok rfl) rfl rfl ?_))
              have b2012 := bi_103 I
              refine z_sub X rfl (z_icmp_ge X (t := 192) rfl rfl ⟨by first | exact b2011.1 | omega, by first | exact b2011.2 | omega⟩ ⟨by first | exact oq_0911b3f0 hi.2.1.1 b2012.2 | omega, by first | exact oq_eec9a93e hi.2.1.2 b2012.1 | omega⟩ (fun g2013 => ?_) (fun g2013 => ?_))
              ·
                refine z_const X rfl (z_store X (lv' := [(10, .int (Int32.ofInt 0)), (0, .ref (A 179)), (2, .ref q1), (3, .ref q2), (4, .ref q3), (1, .int (Int32.ofInt xv)), (5, .int (Int32.ofInt qq)), (6, .int (Int32.ofInt wa)), (7, .int (Int32.ofInt tu)), (8, .int (Int32.ofInt be)), (9, .int (Int32.ofInt p))]) rfl (by decide) (fun _ h => h) (z_load X (x := 0) rfl (List.Mem.head _) (z_if_eq X (t := 221) rfl rfl (by decide) (fun g2014 => ?_) (fun g2014 => ?_))))
                ·
                  refine z_inc X (x := p) (lv' := [(9, .int (Int32.ofInt (p + 1))), (10, .int (Int32.ofInt 0)), (0, .ref (A 179)), (2, .ref q1), (3, .ref q2), (4, .ref q3), (1, .int (Int32.ofInt xv)), (5, .int (Int32.ofInt qq)), (6, .int (Int32.ofInt wa)), (7, .int (Int32.ofInt tu)), (8, .int (Int32.ofInt be))]) rfl (by decide) (List.Mem.tail _ (List.Mem.tail _ (List.Mem.tail _ (List.Mem.tail _ (List.Mem.tail _ (List.Mem.tail _ (List.Mem.tail _ (List.Mem.tail _ (List.Mem.tail _ (List.Mem.tail _ (List.Mem.head _))))))))))) (fun _ h => h) (z_goto X (t := 100) rfl rfl (WS_pq [2, 3, 4, 5, 6, 7, 8, 9, 10, 0] (lv' := [(0, .ref (A 179)), (2, .ref q1), (3, .ref q2), (4, .ref q3), (1, .int (Int32.ofInt xv)), (5, .int (Int32.ofInt qq)), (6, .int (Int32.ofInt wa)), (7, .int (Int32.ofInt tu)), (8, .int (Int32.ofInt be)), (9, .int (Int32.ofInt (p + 1)))]) rfl ?_))
                  exact ih _ xv qq wa tu be (p + 1) I F jjEX ⟨hq.1, hq.2.1, nxq_n hq.2.2 (by first | (clear g2010 g2007 p1; omega) | (clear g2007 p1; omega) | omega) (fun a => by have z := hsel.mp a.1; have z1 := z.2.2; omega)⟩ (by first | exact ⟨And.intro (hi.1.1) (And.intro (hi.1.2.1) (hi.1.2.2)), And.intro (hi.2.1.1) (hi.2.1.2), And.intro (hi.2.2.1.1) (hi.2.2.1.2), And.intro (hi.2.2.2.1.1) (hi.2.2.2.1.2), And.intro (hi.2.2.2.2.1.1) (And.intro (hi.2.2.2.2.1.2.1) (oq_d130ae0d hi.2.2.2.2.1.2.2)), oq_54f49eb5 hi.2.2.2.2.2.1, oq_8a89b3ae g2003 hi.1.1, b2012.1, b2012.2⟩ | omega) (by first | exact qk_me hm (by decide) (oq_67fee7f6 g2003 hi.1.1 hi.1.2.2) | omega) kx
                ·
                  exfalso
                  omega
              ·
                refine z_const X rfl (z_goto X (t := 193) rfl rfl (z_store X (lv' := [(10, .int (Int32.ofInt 1)), (0, .ref (A 179)), (2, .ref q1), (3, .ref q2), (4, .ref q3), (1, .int (Int32.ofInt xv)), (5, .int (Int32.ofInt qq)), (6, .int (Int32.ofInt wa)), (7, .int (Int32.ofInt tu)), (8, .int (Int32.ofInt be)), (9, .int (Int32.ofInt p))]) rfl (by decide) (fun _ h => h) (z_load X (x := 1) rfl (List.Mem.head _) (z_if_eq X (t := 221) rfl rfl (by decide) (fun g2015 => ?_) (fun g2015 => ?_)))))
                ·
                  exfalso
                  omega
                ·
                  refine z_load X (x := be) rfl (List.Mem.tail _ (List.Mem.tail _ (List.Mem.tail _ (List.Mem.tail _ (List.Mem.tail _ (List.Mem.tail _ (List.Mem.tail _ (List.Mem.tail _ (List.Mem.tail _ (List.Mem.head _)))))))))) (z_const X rfl (z_icmp_eq X (t := 217) rfl rfl ⟨by first | exact oq_97ee2c2a hi.2.2.2.2.1.1 | omega, by first | exact oq_0e78ca7d hi.2.2.2.2.1.2.1 | omega⟩ (by decide) (fun g2016 => ?_) (fun g2016 => ?_)))
                  ·
                    refine z_load X (x := p) rfl (List.Mem.tail _ (List.Mem.tail _ (List.Mem.tail _ (List.Mem.tail _ (List.Mem.tail _ (List.Mem.tail _ (List.Mem.tail _ (List.Mem.tail _ (List.Mem.tail _ (List.Mem.tail _ (List.Mem.head _))))))))))) (z_store X (lv' := [(8, .int (Int32.ofInt p)), (10, .int (Int32.ofInt 1)), (0, .ref (A 179)), (2, .ref q1), (3, .ref q2), (4, .ref q3), (1, .int (Int32.ofInt xv)), (5, .int (Int32.ofInt qq)), (6, .int (Int32.ofInt wa)), (7, .int (Int32.ofInt tu)), (9, .int (Int32.ofInt p))]) rfl (by decide) (fun _ h => h) (z_inc X (x := p) (lv' := [(9, .int (Int32.ofInt (p + 1))), (8, .int (Int32.ofInt p)), (10, .int (Int32.ofInt 1)), (0, .ref (A 179)), (2, .ref q1), (3, .ref q2), (4, .ref q3), (1, .int (Int32.ofInt xv)), (5, .int (Int32.ofInt qq)), (6, .int (Int32.ofInt wa)), (7, .int (Int32.ofInt tu))]) rfl (by decide) (List.Mem.tail _ (List.Mem.tail _ (List.Mem.tail _ (List.Mem.tail _ (List.Mem.tail _ (List.Mem.tail _ (List.Mem.tail _ (List.Mem.tail _ (List.Mem.tail _ (List.Mem.tail _ (List.Mem.head _))))))))))) (fun _ h => h) (z_goto X (t := 100) rfl rfl (WS_pq [3, 4, 5, 6, 7, 8, 9, 10, 1, 0] (lv' := [(0, .ref (A 179)), (2, .ref q1), (3, .ref q2), (4, .ref q3), (1, .int (Int32.ofInt xv)), (5, .int (Int32.ofInt qq)), (6, .int (Int32.ofInt wa)), (7, .int (Int32.ofInt tu)), (8, .int (Int32.ofInt p)), (9, .int (Int32.ofInt (p + 1)))]) rfl ?_))))
                    exact ih _ xv qq wa tu p (p + 1) I F jjEX ⟨hq.1, hq.2.1, nxq_y hq.2.2 (by first | (clear g2015 g2010 g2007 p1; omega) | (clear g2010 g2007 p1; omega) | omega) ⟨hsel.mpr ⟨by first | (clear g2015 g2010 g2007 p1; omega) | (clear g2010 g2007 p1; omega) | omega, by first | (clear g2015 g2010 g2007 p1; omega) | (clear g2010 g2007 p1; omega) | omega, by first | (clear g2015 g2010 g2007 p1; omega) | (clear g2010 g2007 p1; omega) | omega⟩, hnB⟩ (Or.inl (by first | (clear g2015 g2010 g2007 p1; omega) | (clear g2010 g2007 p1; omega) | omega))⟩ (by first | exact ⟨And.intro (hi.1.1) (And.intro (hi.1.2.1) (hi.1.2.2)), And.intro (hi.2.1.1) (hi.2.1.2), And.intro (hi.2.2.1.1) (hi.2.2.1.2), And.intro (hi.2.2.2.1.1) (hi.2.2.2.1.2), And.intro (oq_ca54ea22 hi.2.2.2.2.2.1) (And.intro (oq_e08dc8a6 g2003 hi.1.1 hi.1.2.2) (by decide)), oq_54f49eb5 hi.2.2.2.2.2.1, oq_8a89b3ae g2003 hi.1.1, b2012.1, b2012.2⟩ | omega) (by first | exact qk_me hm (by decide) (oq_67fee7f6 g2003 hi.1.1 hi.1.2.2) | omega) kx
                  ·
                    have hSb := hq.1.1 (be : Int).toNat (by first | (clear g2016 g2015 g2010 g2007 p1; omega) | (clear g2015 g2010 g2007 p1; omega) | omega)
                    have hSb0 : xV ((pX s).length + 0) t (be : Int).toNat = (ruR (RDM s x) (qq : Int).toNat).wa (be : Int).toNat := hSb.1
                    refine z_aload_n X (x := q1) rfl (List.Mem.tail _ (List.Mem.tail _ (List.Mem.head _))) (z_load X (x := p) rfl (List.Mem.tail _ (List.Mem.tail _ (List.Mem.tail _ (List.Mem.tail _ (List.Mem.tail _ (List.Mem.tail _ (List.Mem.tail _ (List.Mem.tail _ (List.Mem.tail _ (List.Mem.tail _ (List.Mem.head _))))))))))) (z_xaldE X jjEX 0 rfl rfl (by first | exact hi.2.2.2.2.2.1 | omega) (show p < 8 by first | exact oq_940075ae g2003 hi.1.1 hi.1.2.2 | omega) (by decide) ?_))
                    have b2017 : rng (xV ((pX s).length + 0) t (p).toNat) := rng_to _
                    refine z_aload_n X (x := q1) rfl (List.Mem.tail _ (List.Mem.tail _ (List.Mem.head _))) (z_load X (x := be) rfl (List.Mem.tail _ (List.Mem.tail _ (List.Mem.tail _ (List.Mem.tail _ (List.Mem.tail _ (List.Mem.tail _ (List.Mem.tail _ (List.Mem.tail _ (List.Mem.tail _ (List.Mem.head _)))))))))) (z_xaldE X jjEX 0 rfl rfl (by first | exact oq_7a1025bf g2016 hi.2.2.2.2.1.1 | omega) (show be < 8 by first | exact oq_aaea290e hi.2.2.2.2.1.2.1 | omega) (by decide) ?_))
                    have b2018 : rng (xV ((pX s).length + 0) t (be).toNat) := rng_to _
                    refine z_icmp_ge X (t := 221) rfl rfl ⟨by first | exact b2017.1 | omega, by first | exact b2017.2 | omega⟩ ⟨by first | exact b2018.1 | omega, by first | exact b2018.2 | omega⟩ (fun g2019 => ?_) (fun g2019 => ?_)
                    ·
                      refine z_inc X (x := p) (lv' := [(9, .int (Int32.ofInt (p + 1))), (10, .int (Int32.ofInt 1)), (0, .ref (A 179)), (2, .ref q1), (3, .ref q2), (4, .ref q3), (1, .int (Int32.ofInt xv)), (5, .int (Int32.ofInt qq)), (6, .int (Int32.ofInt wa)), (7, .int (Int32.ofInt tu)), (8, .int (Int32.ofInt be))]) rfl (by decide) (List.Mem.tail _ (List.Mem.tail _ (List.Mem.tail _ (List.Mem.tail _ (List.Mem.tail _ (List.Mem.tail _ (List.Mem.tail _ (List.Mem.tail _ (List.Mem.tail _ (List.Mem.tail _ (List.Mem.head _))))))))))) (fun _ h => h) (z_goto X (t := 100) rfl rfl (WS_pq [2, 3, 4, 5, 6, 7, 8, 9, 10, 0] (lv' := [(0, .ref (A 179)), (2, .ref q1), (3, .ref q2), (4, .ref q3), (1, .int (Int32.ofInt xv)), (5, .int (Int32.ofInt qq)), (6, .int (Int32.ofInt wa)), (7, .int (Int32.ofInt tu)), (8, .int (Int32.ofInt be)), (9, .int (Int32.ofInt (p + 1)))]) rfl ?_))
                      exact ih _ xv qq wa tu be (p + 1) I F jjEX ⟨hq.1, hq.2.1, nxq_k hq.2.2 (by first | (clear g2016 g2015 g2010 g2007 p1; omega) | (clear g2015 g2010 g2007 p1; omega) | omega) (by first | (clear g2016 g2015 g2010 g2007 p1; omega) | (clear g2015 g2010 g2007 p1; omega) | omega) (by first | (clear g2016 g2015 g2010 g2007 p1; omega) | (clear g2015 g2010 g2007 p1; omega) | omega)⟩ (by first | exact ⟨And.intro (hi.1.1) (And.intro (hi.1.2.1) (hi.1.2.2)), And.intro (hi.2.1.1) (hi.2.1.2), And.intro (hi.2.2.1.1) (hi.2.2.1.2), And.intro (hi.2.2.2.1.1) (hi.2.2.2.1.2), And.intro (hi.2.2.2.2.1.1) (And.intro (hi.2.2.2.2.1.2.1) (oq_d130ae0d hi.2.2.2.2.1.2.2)), oq_54f49eb5 hi.2.2.2.2.2.1, oq_8a89b3ae g2003 hi.1.1, b2012.1, b2012.2⟩ | omega) (by first | exact qk_me hm (by decide) (oq_67fee7f6 g2003 hi.1.1 hi.1.2.2) | omega) kx
                    ·
                      refine z_load X (x := p) rfl (List.Mem.tail _ (List.Mem.tail _ (List.Mem.tail _ (List.Mem.tail _ (List.Mem.tail _ (List.Mem.tail _ (List.Mem.tail _ (List.Mem.tail _ (List.Mem.tail _ (List.Mem.tail _ (List.Mem.head _))))))))))) (z_store X (lv' := [(8, .int (Int32.ofInt p)), (10, .int (Int32.ofInt 1)), (0, .ref (A 179)), (2, .ref q1), (3, .ref q2), (4, .ref q3), (1, .int (Int32.ofInt xv)), (5, .int (Int32.ofInt qq)), (6, .int (Int32.ofInt wa)), (7, .int (Int32.ofInt tu)), (9, .int (Int32.ofInt p))]) rfl (by decide) (fun _ h => h) (z_inc X (x := p) (lv' := [(9, .int (Int32.ofInt (p + 1))), (8, .int (Int32.ofInt p)), (10, .int (Int32.ofInt 1)), (0, .ref (A 179)), (2, .ref q1), (3, .ref q2), (4, .ref q3), (1, .int (Int32.ofInt xv)), (5, .int (Int32.ofInt qq)), (6, .int (Int32.ofInt wa)), (7, .int (Int32.ofInt tu))]) rfl (by decide) (List.Mem.tail _ (List.Mem.tail _ (List.Mem.tail _ (List.Mem.tail _ (List.Mem.tail _ (List.Mem.tail _ (List.Mem.tail _ (List.Mem.tail _ (List.Mem.tail _ (List.Mem.tail _ (List.Mem.head _))))))))))) (fun _ h => h) (z_goto X (t := 100) rfl rfl (WS_pq [3, 4, 5, 6, 7, 8, 9, 10, 1, 0] (lv' := [(0, .ref (A 179)), (2, .ref q1), (3, .ref q2), (4, .ref q3), (1, .int (Int32.ofInt xv)), (5, .int (Int32.ofInt qq)), (6, .int (Int32.ofInt wa)), (7, .int (Int32.ofInt tu)), (8, .int (Int32.ofInt p)), (9, .int (Int32.ofInt (p + 1)))]) rfl ?_))))
                      exact ih _ xv qq wa tu p (p + 1) I F jjEX ⟨hq.1, hq.2.1, nxq_y hq.2.2 (by first | (clear g2016 g2015 g2010 g2007 p1; omega) | (clear g2015 g2010 g2007 p1; omega) | omega) ⟨hsel.mpr ⟨by first | (clear g2016 g2015 g2010 g2007 p1; omega) | (clear g2015 g2010 g2007 p1; omega) | omega, by first | (clear g2016 g2015 g2010 g2007 p1; omega) | (clear g2015 g2010 g2007 p1; omega) | omega, by first | (clear g2016 g2015 g2010 g2007 p1; omega) | (clear g2015 g2010 g2007 p1; omega) | omega⟩, hnB⟩ (Or.inr (by first | (clear g2016 g2015 g2010 g2007 p1; omega) | (clear g2015 g2010 g2007 p1; omega) | omega))⟩ (by first | exact ⟨And.intro (hi.1.1) (And.intro (hi.1.2.1) (hi.1.2.2)), And.intro (hi.2.1.1) (hi.2.1.2), And.intro (hi.2.2.1.1) (hi.2.2.1.2), And.intro (hi.2.2.2.1.1) (hi.2.2.2.1.2), And.intro (oq_ca54ea22 hi.2.2.2.2.2.1) (And.intro (oq_e08dc8a6 g2003 hi.1.1 hi.1.2.2) (by decide)), oq_54f49eb5 hi.2.2.2.2.2.1, oq_8a89b3ae g2003 hi.1.1, b2012.1, b2012.2⟩ | omega) (by first | exact qk_me hm (by decide) (oq_67fee7f6 g2003 hi.1.1 hi.1.2.2) | omega) kx
            ·
              have hsel := sel_0 (tu := tu) hS (by first | (clear g2007 p1; omega) | (clear p1; omega) | omega)
              refine z_aload X (x := q3) rfl (List.Mem.tail _ (List.Mem.tail _ (List.Mem.tail _ (List.Mem.head _)))) (z_load X (x := p) rfl (List.Mem.tail _ (List.Mem.tail _ (List.Mem.tail _ (List.Mem.tail _ (List.Mem.tail _ (List.Mem.tail _ (List.Mem.tail _ (List.Mem.tail _ (List.Mem.tail _ (List.Mem.head _)))))))))) (z_xaldE X jjEX 2 rfl rfl (by first | exact hi.2.2.2.2.2.1 | omega) (show p < 8 by first | exact oq_940075ae g2003 hi.1.1 hi.1.2.2 | omega) (by decide) ?_))
              have b2020 : rng (xV ((pX s).length + 2) t (p).toNat) := rng_to _
              refine z_load X (x := qq) rfl (List.Mem.tail _ (List.Mem.tail _ (List.Mem.tail _ (List.Mem.tail _ (List.Mem.tail _ (List.Mem.head _)))))) (z_const X rfl (z_sub X rfl (z_icmp_ne X (t := 169) rfl rfl ⟨by first | exact b2020.1 | omega, by first | exact b2020.2 | omega⟩ ⟨by first | exact oq_c1e961c7 hi.2.1.1 | omega, by first | exact oq_7b087cf4 hi.2.1.2 | omega⟩ (fun g2021 => ?_) (fun g2021 => ?_))))
              ·
                refine z_const X rfl (z_goto X (t := 193) rfl rfl (z_store X (lv' := [(10, .int (Int32.ofInt 0)), (0, .ref (A 179)), (2, .ref q1), (3, .ref q2), (4, .ref q3), (1, .int (Int32.ofInt xv)), (5, .int (Int32.ofInt qq)), (6, .int (Int32.ofInt wa)), (7, .int (Int32.ofInt tu)), (8, .int (Int32.ofInt be)), (9, .int (Int32.ofInt p))]) rfl (by decide) (fun _ h => h) (z_load X (x := 0) rfl (List.Mem.head _) (z_if_eq X (t := 221) rfl rfl (by decide) (fun g2022 => ?_) (fun g2022 => ?_)))))
                ·
                  refine z_inc X (x := p) (lv' := [(9, .int (Int32.ofInt (p + 1))), (10, .int (Int32.ofInt 0)), (0, .ref (A 179)), (2, .ref q1), (3, .ref q2), (4, .ref q3), (1, .int (Int32.ofInt xv)), (5, .int (Int32.ofInt qq)), (6, .int (Int32.ofInt wa)), (7, .int (Int32.ofInt tu)), (8, .int (Int32.ofInt be))]) rfl (by decide) (List.Mem.tail _ (List.Mem.tail _ (List.Mem.tail _ (List.Mem.tail _ (List.Mem.tail _ (List.Mem.tail _ (List.Mem.tail _ (List.Mem.tail _ (List.Mem.tail _ (List.Mem.tail _ (List.Mem.head _))))))))))) (fun _ h => h) (z_goto X (t := 100) rfl rfl (WS_pq [2, 3, 4, 5, 6, 7, 8, 9, 10, 0] (lv' := [(0, .ref (A 179)), (2, .ref q1), (3, .ref q2), (4, .ref q3), (1, .int (Int32.ofInt xv)), (5, .int (Int32.ofInt qq)), (6, .int (Int32.ofInt wa)), (7, .int (Int32.ofInt tu)), (8, .int (Int32.ofInt be)), (9, .int (Int32.ofInt (p + 1)))]) rfl ?_))
                  exact ih _ xv qq wa tu be (p + 1) I F jjEX ⟨hq.1, hq.2.1, nxq_n hq.2.2 (by first | (clear g2021 g2007 p1; omega) | (clear g2007 p1; omega) | omega) (fun a => by have z := hsel.mp a.1; have z1 := z.2.2; omega)⟩ (by first | exact ⟨And.intro (hi.1.1) (And.intro (hi.1.2.1) (hi.1.2.2)), And.intro (hi.2.1.1) (hi.2.1.2), And.intro (hi.2.2.1.1) (hi.2.2.1.2), And.intro (hi.2.2.2.1.1) (hi.2.2.2.1.2), And.intro (hi.2.2.2.2.1.1) (And.intro (hi.2.2.2.2.1.2.1) (oq_d130ae0d hi.2.2.2.2.1.2.2)), oq_54f49eb5 hi.2.2.2.2.2.1, oq_8a89b3ae g2003 hi.1.1, b2002.1, b2002.2⟩ | omega) (by first | exact qk_me hm (by decide) (oq_67fee7f6 g2003 hi.1.1 hi.1.2.2) | omega) kx
                ·
                  exfalso
                  omega
              ·
                refine z_aload_n X (x := q2) rfl (List.Mem.tail _ (List.Mem.tail _ (List.Mem.head _))) (z_load X (x := p) rfl (List.Mem.tail _ (List.Mem.tail _ (List.Mem.tail _ (List.Mem.tail _ (List.Mem.tail _ (List.Mem.tail _ (List.Mem.tail _ (List.Mem.tail _ (List.Mem.tail _ (List.Mem.head _)))))))))) (z_xaldE X jjEX 1 rfl rfl (by first | exact hi.2.2.2.2.2.1 | omega) (show p < 8 by first | exact oq_940075ae g2003 hi.1.1 hi.1.2.2 | omega) (by decide) ?_))
                have b2023 : rng (xV ((pX s).length + 1) t (p).toNat) := rng_to _
                refine z_aload_n X (x := A 179) rfl (List.Mem.head _) (z_getI X 179 rfl (c518_ok rfl) rfl rfl ?_)
                have b2024 := bi_102 I
                refine z_icmp_ge X (t := 169) rfl rfl ⟨by first | exact b2023.1 | omega, by first | exact b2023.2 | omega⟩ (rng_to _) (fun g2025 => ?_) (fun g2025 => ?_)
                ·
                  refine z_const X rfl (z_goto X (t := 193) rfl rfl (z_store X (lv' := [(10, .int (Int32.ofInt 0)), (0, .ref (A 179)), (2, .ref q1), (3, .ref q2), (4, .ref q3), (1, .int (Int32.ofInt xv)), (5, .int (Int32.ofInt qq)), (6, .int (Int32.ofInt wa)), (7, .int (Int32.ofInt tu)), (8, .int (Int32.ofInt be)), (9, .int (Int32.ofInt p))]) rfl (by decide) (fun _ h => h) (z_load X (x := 0) rfl (List.Mem.head _) (z_if_eq X (t := 221) rfl rfl (by decide) (fun g2026 => ?_) (fun g2026 => ?_)))))
                  ·
                    refine z_inc X (x := p) (lv' := [(9, .int (Int32.ofInt (p + 1))), (10, .int (Int32.ofInt 0)), (0, .ref (A 179)), (2, .ref q1), (3, .ref q2), (4, .ref q3), (1, .int (Int32.ofInt xv)), (5, .int (Int32.ofInt qq)), (6, .int (Int32.ofInt wa)), (7, .int (Int32.ofInt tu)), (8, .int (Int32.ofInt be))]) rfl (by decide) (List.Mem.tail _ (List.Mem.tail _ (List.Mem.tail _ (List.Mem.tail _ (List.Mem.tail _ (List.Mem.tail _ (List.Mem.tail _ (List.Mem.tail _ (List.Mem.tail _ (List.Mem.tail _ (List.Mem.head _))))))))))) (fun _ h => h) (z_goto X (t := 100) rfl rfl (WS_pq [2, 3, 4, 5, 6, 7, 8, 9, 10, 0] (lv' := [(0, .ref (A 179)), (2, .ref q1), (3, .ref q2), (4, .ref q3), (1, .int (Int32.ofInt xv)), (5, .int (Int32.ofInt qq)), (6, .int (Int32.ofInt wa)), (7, .int (Int32.ofInt tu)), (8, .int (Int32.ofInt be)), (9, .int (Int32.ofInt (p + 1)))]) rfl ?_))
                    exact ih _ xv qq wa tu be (p + 1) I F jjEX ⟨hq.1, hq.2.1, nxq_n hq.2.2 (by first | (clear g2007 p1; omega) | (clear p1; omega) | omega) (fun a => by have z := hsel.mp a.1; have z1 := z.2.2; omega)⟩ (by first | exact ⟨And.intro (hi.1.1) (And.intro (hi.1.2.1) (hi.1.2.2)), And.intro (hi.2.1.1) (hi.2.1.2), And.intro (hi.2.2.1.1) (hi.2.2.1.2), And.intro (hi.2.2.2.1.1) (hi.2.2.2.1.2), And.intro (hi.2.2.2.2.1.1) (And.intro (hi.2.2.2.2.1.2.1) (oq_d130ae0d hi.2.2.2.2.1.2.2)), oq_54f49eb5 hi.2.2.2.2.2.1, oq_8a89b3ae g2003 hi.1.1, b2002.1, b2002.2⟩ | omega) (by first | exact qk_me hm (by decide) (oq_67fee7f6 g2003 hi.1.1 hi.1.2.2) | omega) kx
                  ·
                    exfalso
                    omega
                ·
                  refine z_const X rfl (z_goto X (t := 193) rfl rfl (z_store X (lv' := [(10, .int (Int32.ofInt 1)), (0, .ref (A 179)), (2, .ref q1), (3, .ref q2), (4, .ref q3), (1, .int (Int32.ofInt xv)), (5, .int (Int32.ofInt qq)), (6, .int (Int32.ofInt wa)), (7, .int (Int32.ofInt tu)), (8, .int (Int32.ofInt be)), (9, .int (Int32.ofInt p))]) rfl (by decide) (fun _ h => h) (z_load X (x := 1) rfl (List.Mem.head _) (z_if_eq X (t := 221) rfl rfl (by decide) (fun g2027 => ?_) (fun g2027 => ?_)))))
                  ·
                    exfalso
                    omega
                  ·
                    refine z_load X (x := be) rfl (List.Mem.tail _ (List.Mem.tail _ (List.Mem.tail _ (List.Mem.tail _ (List.Mem.tail _ (List.Mem.tail _ (List.Mem.tail _ (List.Mem.tail _ (List.Mem.tail _ (List.Mem.head _)))))))))) (z_const X rfl (z_icmp_eq X (t := 217) rfl rfl ⟨by first | exact oq_97ee2c2a hi.2.2.2.2.1.1 | omega, by first | exact oq_0e78ca7d hi.2.2.2.2.1.2.1 | omega⟩ (by decide) (fun g2028 => ?_) (fun g2028 => ?_)))
                    ·
                      refine z_load X (x := p) rfl (List.Mem.tail _ (List.Mem.tail _ (List.Mem.tail _ (List.Mem.tail _ (List.Mem.tail _ (List.Mem.tail _ (List.Mem.tail _ (List.Mem.tail _ (List.Mem.tail _ (List.Mem.tail _ (List.Mem.head _))))))))))) (z_store X (lv' := [(8, .int (Int32.ofInt p)), (10, .int (Int32.ofInt 1)), (0, .ref (A 179)), (2, .ref q1), (3, .ref q2), (4, .ref q3), (1, .int (Int32.ofInt xv)), (5, .int (Int32.ofInt qq)), (6, .int (Int32.ofInt wa)), (7, .int (Int32.ofInt tu)), (9, .int (Int32.ofInt p))]) rfl (by decide) (fun _ h => h) (z_inc X (x := p) (lv' := [(9, .int (Int32.ofInt (p + 1))), (8, .int (Int32.ofInt p)), (10, .int (Int32.ofInt 1)), (0, .ref (A 179)), (2, .ref q1), (3, .ref q2), (4, .ref q3), (1, .int (Int32.ofInt xv)), (5, .int (Int32.ofInt qq)), (6, .int (Int32.ofInt wa)), (7, .int (Int32.ofInt tu))]) rfl (by decide) (List.Mem.tail _ (List.Mem.tail _ (List.Mem.tail _ (List.Mem.tail _ (List.Mem.tail _ (List.Mem.tail _ (List.Mem.tail _ (List.Mem.tail _ (List.Mem.tail _ (List.Mem.tail _ (List.Mem.head _))))))))))) (fun _ h => h) (z_goto X (t := 100) rfl rfl (WS_pq [3, 4, 5, 6, 7, 8, 9, 10, 1, 0] (lv' := [(0, .ref (A 179)), (2, .ref q1), (3, .ref q2), (4, .ref q3), (1, .int (Int32.ofInt xv)), (5, .int (Int32.ofInt qq)), (6, .int (Int32.ofInt wa)), (7, .int (Int32.ofInt tu)), (8, .int (Int32.ofInt p)), (9, .int (Int32.ofInt (p + 1)))]) rfl ?_))))
                      exact ih _ xv qq wa tu p (p + 1) I F jjEX ⟨hq.1, hq.2.1, nxq_y hq.2.2 (by first | (clear g2027 g2007 p1; omega) | (clear g2007 p1; omega) | omega) ⟨hsel.mpr ⟨by first | (clear g2027 g2007 p1; omega) | (clear g2007 p1; omega) | omega, by first | (clear g2027 g2007 p1; omega) | (clear g2007 p1; omega) | omega, by first | (clear g2027 g2007 p1; omega) | (clear g2007 p1; omega) | omega, by first | (clear g2027 g2007 p1; omega) | (clear g2007 p1; omega) | omega⟩, hnB⟩ (Or.inl (by first | (clear g2027 g2007 p1; omega) | (clear g2007 p1; omega) | omega))⟩ (by first | exact ⟨And.intro (hi.1.1) (And.intro (hi.1.2.1) (hi.1.2.2)), And.intro (hi.2.1.1) (hi.2.1.2), And.intro (hi.2.2.1.1) (hi.2.2.1.2), And.intro (hi.2.2.2.1.1) (hi.2.2.2.1.2), And.intro (oq_ca54ea22 hi.2.2.2.2.2.1) (And.intro (oq_e08dc8a6 g2003 hi.1.1 hi.1.2.2) (by decide)), oq_54f49eb5 hi.2.2.2.2.2.1, oq_8a89b3ae g2003 hi.1.1, b2002.1, b2002.2⟩ | omega) (by first | exact qk_me hm (by decide) (oq_67fee7f6 g2003 hi.1.1 hi.1.2.2) | omega) kx
                    ·
                      have hSb := hq.1.1 (be : Int).toNat (by first | (clear g2028 g2027 g2007 p1; omega) | (clear g2027 g2007 p1; omega) | omega)
                      have hSb0 : xV ((pX s).length + 0) t (be : Int).toNat = (ruR (RDM s x) (qq : Int).toNat).wa (be : Int).toNat := hSb.1
                      refine z_aload_n X (x := q1) rfl (List.Mem.tail _ (List.Mem.tail _ (List.Mem.head _))) (z_load X (x := p) rfl (List.Mem.tail _ (List.Mem.tail _ (List.Mem.tail _ (List.Mem.tail _ (List.Mem.tail _ (List.Mem.tail _ (List.Mem.tail _ (List.Mem.tail _ (List.Mem.tail _ (List.Mem.tail _ (List.Mem.head _))))))))))) (z_xaldE X jjEX 0 rfl rfl (by first | exact hi.2.2.2.2.2.1 | omega) (show p < 8 by first | exact oq_940075ae g2003 hi.1.1 hi.1.2.2 | omega) (by decide) ?_))
                      have b2029 : rng (xV ((pX s).length + 0) t (p).toNat) := rng_to _
                      refine z_aload_n X (x := q1) rfl (List.Mem.tail _ (List.Mem.tail _ (List.Mem.head _))) (z_load X (x := be) rfl (List.Mem.tail _ (List.Mem.tail _ (List.Mem.tail _ (List.Mem.tail _ (List.Mem.tail _ (List.Mem.tail _ (List.Mem.tail _ (List.Mem.tail _ (List.Mem.tail _ (List.Mem.head _)))))))))) (z_xaldE X jjEX 0 rfl rfl (by first | exact oq_7a1025bf g2028 hi.2.2.2.2.1.1 | omega) (show be < 8 by first | exact oq_aaea290e hi.2.2.2.2.1.2.1 | omega) (by decide) ?_))
                      have b2030 : rng (xV ((pX s).length + 0) t (be).toNat) := rng_to _
                      refine z_icmp_ge X (t := 221) rfl rfl ⟨by first | exact b2029.1 | omega, by first | exact b2029.2 | omega⟩ ⟨by first | exact b2030.1 | omega, by first | exact b2030.2 | omega⟩ (fun g2031 => ?_) (fun g2031 => ?_)
                      ·
                        refine z_inc X (x := p) (lv' := [(9, .int (Int32.ofInt (p + 1))), (10, .int (Int32.ofInt 1)), (0, .ref (A 179)), (2, .ref q1), (3, .ref q2), (4, .ref q3), (1, .int (Int32.ofInt xv)), (5, .int (Int32.ofInt qq)), (6, .int (Int32.ofInt wa)), (7, .int (Int32.ofInt tu)), (8, .int (Int32.ofInt be))]) rfl (by decide) (List.Mem.tail _ (List.Mem.tail _ (List.Mem.tail _ (List.Mem.tail _ (List.Mem.tail _ (List.Mem.tail _ (List.Mem.tail _ (List.Mem.tail _ (List.Mem.tail _ (List.Mem.tail _ (List.Mem.head _))))))))))) (fun _ h => h) (z_goto X (t := 100) rfl rfl (WS_pq [2, 3, 4, 5, 6, 7, 8, 9, 10, 0] (lv' := [(0, .ref (A 179)), (2, .ref q1), (3, .ref q2), (4, .ref q3), (1, .int (Int32.ofInt xv)), (5, .int (Int32.ofInt qq)), (6, .int (Int32.ofInt wa)), (7, .int (Int32.ofInt tu)), (8, .int (Int32.ofInt be)), (9, .int (Int32.ofInt (p + 1)))]) rfl ?_))
                        exact ih _ xv qq wa tu be (p + 1) I F jjEX ⟨hq.1, hq.2.1, nxq_k hq.2.2 (by first | (clear g2028 g2027 g2007 p1; omega) | (clear g2027 g2007 p1; omega) | omega) (by first | (clear g2028 g2027 g2007 p1; omega) | (clear g2027 g2007 p1; omega) | omega) (by first | (clear g2028 g2027 g2007 p1; omega) | (clear g2027 g2007 p1; omega) | omega)⟩ (by first | exact ⟨And.intro (hi.1.1) (And.intro (hi.1.2.1) (hi.1.2.2)), And.intro (hi.2.1.1) (hi.2.1.2), And.intro (hi.2.2.1.1) (hi.2.2.1.2), And.intro (hi.2.2.2.1.1) (hi.2.2.2.1.2), And.intro (hi.2.2.2.2.1.1) (And.intro (hi.2.2.2.2.1.2.1) (oq_d130ae0d hi.2.2.2.2.1.2.2)), oq_54f49eb5 hi.2.2.2.2.2.1, oq_8a89b3ae g2003 hi.1.1, b2002.1, b2002.2⟩ | omega) (by first | exact qk_me hm (by decide) (oq_67fee7f6 g2003 hi.1.1 hi.1.2.2) | omega) kx
                      ·
                        refine z_load X (x := p) rfl (List.Mem.tail _ (List.Mem.tail _ (List.Mem.tail _ (List.Mem.tail _ (List.Mem.tail _ (List.Mem.tail _ (List.Mem.tail _ (List.Mem.tail _ (List.Mem.tail _ (List.Mem.tail _ (List.Mem.head _))))))))))) (z_store X (lv' := [(8, .int (Int32.ofInt p)), (10, .int (Int32.ofInt 1)), (0, .ref (A 179)), (2, .ref q1), (3, .ref q2), (4, .ref q3), (1, .int (Int32.ofInt xv)), (5, .int (Int32.ofInt qq)), (6, .int (Int32.ofInt wa)), (7, .int (Int32.ofInt tu)), (9, .int (Int32.ofInt p))]) rfl (by decide) (fun _ h => h) (z_inc X (x := p) (lv' := [(9, .int (Int32.ofInt (p + 1))), (8, .int (Int32.ofInt p)), (10, .int (Int32.ofInt 1)), (0, .ref (A 179)), (2, .ref q1), (3, .ref q2), (4, .ref q3), (1, .int (Int32.ofInt xv)), (5, .int (Int32.ofInt qq)), (6, .int (Int32.ofInt wa)), (7, .int (Int32.ofInt tu))]) rfl (by decide) (List.Mem.tail _ (List.Mem.tail _ (List.Mem.tail _ (List.Mem.tail _ (List.Mem.tail _ (List.Mem.tail _ (List.Mem.tail _ (List.Mem.tail _ (List.Mem.tail _ (List.Mem.tail _ (List.Mem.head _))))))))))) (fun _ h => h) (z_goto X (t := 100) rfl rfl (WS_pq [3, 4, 5, 6, 7, 8, 9, 10, 1, 0] (lv' := [(0, .ref (A 179)), (2, .ref q1), (3, .ref q2), (4, .ref q3), (1, .int (Int32.ofInt xv)), (5, .int (Int32.ofInt qq)), (6, .int (Int32.ofInt wa)), (7, .int (Int32.ofInt tu)), (8, .int (Int32.ofInt p)), (9, .int (Int32.ofInt (p + 1)))]) rfl ?_))))
                        exact ih _ xv qq wa tu p (p + 1) I F jjEX ⟨hq.1, hq.2.1, nxq_y hq.2.2 (by first | (clear g2028 g2027 g2007 p1; omega) | (clear g2027 g2007 p1; omega) | omega) ⟨hsel.mpr ⟨by first | (clear g2028 g2027 g2007 p1; omega) | (clear g2027 g2007 p1; omega) | omega, by first | (clear g2028 g2027 g2007 p1; omega) | (clear g2027 g2007 p1; omega) | omega, by first | (clear g2028 g2027 g2007 p1; omega) | (clear g2027 g2007 p1; omega) | omega, by first | (clear g2028 g2027 g2007 p1; omega) | (clear g2027 g2007 p1; omega) | omega⟩, hnB⟩ (Or.inr (by first | (clear g2028 g2027 g2007 p1; omega) | (clear g2027 g2007 p1; omega) | omega))⟩ (by first | exact ⟨And.intro (hi.1.1) (And.intro (hi.1.2.1) (hi.1.2.2)), And.intro (hi.2.1.1) (hi.2.1.2), And.intro (hi.2.2.1.1) (hi.2.2.1.2), And.intro (hi.2.2.2.1.1) (hi.2.2.2.1.2), And.intro (oq_ca54ea22 hi.2.2.2.2.2.1) (And.intro (oq_e08dc8a6 g2003 hi.1.1 hi.1.2.2) (by decide)), oq_54f49eb5 hi.2.2.2.2.2.1, oq_8a89b3ae g2003 hi.1.1, b2002.1, b2002.2⟩ | omega) (by first | exact qk_me hm (by decide) (oq_67fee7f6 g2003 hi.1.1 hi.1.2.2) | omega) kx
          ·
            refine z_goto X (t := 221) rfl rfl (z_inc X (x := p) (lv' := [(9, .int (Int32.ofInt (p + 1))), (0, .ref (A 179)), (2, .ref q1), (3, .ref q2), (4, .ref q3), (1, .int (Int32.ofInt xv)), (5, .int (Int32.ofInt qq)), (6, .int (Int32.ofInt wa)), (7, .int (Int32.ofInt tu)), (8, .int (Int32.ofInt be))]) rfl (by decide) (List.Mem.tail _ (List.Mem.tail _ (List.Mem.tail _ (List.Mem.tail _ (List.Mem.tail _ (List.Mem.tail _ (List.Mem.tail _ (List.Mem.tail _ (List.Mem.tail _ (List.Mem.head _)))))))))) (fun _ h => h) (z_goto X (t := 100) rfl rfl (WS_pq [1, 2, 3, 4, 5, 6, 7, 8, 9, 0] (lv' := [(0, .ref (A 179)), (2, .ref q1), (3, .ref q2), (4, .ref q3), (1, .int (Int32.ofInt xv)), (5, .int (Int32.ofInt qq)), (6, .int (Int32.ofInt wa)), (7, .int (Int32.ofInt tu)), (8, .int (Int32.ofInt be)), (9, .int (Int32.ofInt (p + 1)))]) rfl ?_)))
            exact ih _ xv qq wa tu be (p + 1) I F jjEX ⟨hq.1, hq.2.1, nxq_n hq.2.2 (by first | (clear g2007 p1; omega) | (clear p1; omega) | omega) (fun a => by have z := sel_il a.1; omega)⟩ (by first | exact ⟨And.intro (hi.1.1) (And.intro (hi.1.2.1) (hi.1.2.2)), And.intro (hi.2.1.1) (hi.2.1.2), And.intro (hi.2.2.1.1) (hi.2.2.1.2), And.intro (hi.2.2.2.1.1) (hi.2.2.2.1.2), And.intro (hi.2.2.2.2.1.1) (And.intro (hi.2.2.2.2.1.2.1) (oq_d130ae0d hi.2.2.2.2.1.2.2)), oq_54f49eb5 hi.2.2.2.2.2.1, oq_8a89b3ae g2003 hi.1.1, b2002.1, b2002.2⟩ | omega) (by first | exact qk_me hm (by decide) (oq_67fee7f6 g2003 hi.1.1 hi.1.2.2) | omega) kx
  have L83 : ∀ (n : Nat) (t : PS) (xv qq wa tu be : Int), Bd t → FmX [104] [397] s t → EXl (pX s) (dT 0) [(q1, 8), (q2, 8), (q3, 8)] t → (MRN (RDM s x) (pX s).length (qq : Int).toNat t ∧ PS5 (RDM s x) (qq : Int).toNat tu wa (iC t 397 (qq : Int).toNat) ∧ NOC (RDM s x) (qq : Int).toNat tu be (iC t 397 (qq : Int).toNat)) → ((xv = x ∧ 1 ≤ x ∧ x ≤ 8) ∧ (0 ≤ qq ∧ qq ≤ 23) ∧ (0 ≤ wa ∧ wa ≤ 8) ∧ (0 ≤ tu ∧ tu ≤ 1) ∧ (-1 ≤ be ∧ be ≤ 7)) → (100 * wa + be + 1 : Int).toNat < n → (∀ (t' : PS) (wa' be' : Int), Bd t' → FmX [104] [397] s t' → EXl (pX s) (dT 0) [(q1, 8), (q2, 8), (q3, 8)] t' → (MRN (RDM s x) (pX s).length (qq : Int).toNat t' ∧ PS5 (RDM s x) (qq : Int).toNat tu wa' (iC t' 397 (qq : Int).toNat) ∧ NOC (RDM s x) (qq : Int).toNat tu be' (iC t' 397 (qq : Int).toNat)) → ((xv = x ∧ 1 ≤ x ∧ x ≤ 8) ∧ (0 ≤ qq ∧ qq ≤ 23) ∧ (0 ≤ wa' ∧ wa' ≤ 8) ∧ (0 ≤ tu ∧ tu ≤ 1) ∧ (wa' ≤ 0 ∨ be' = -1)) → WS k 256 [(0, .ref (A 179)), (2, .ref q1), (3, .ref q2), (4, .ref q3), (1, .int (Int32.ofInt xv)), (5, .int (Int32.ofInt qq)), (6, .int (Int32.ofInt wa')), (7, .int (Int32.ofInt tu)), (8, .int (Int32.ofInt be'))] [] (Wd A dT t') 3 24) → WS k 83 [(0, .ref (A 179)), (2, .ref q1), (3, .ref q2), (4, .ref q3), (1, .int (Int32.ofInt xv)), (5, .int (Int32.ofInt qq)), (6, .int (Int32.ofInt wa)), (7, .int (Int32.ofInt tu)), (8, .int (Int32.ofInt be))] [] (Wd A dT t) 3 24 := by
    intro n
    induction n with
    | zero =>
      intro t xv qq wa tu be I F jjEX hq hi hm kx
      exact absurd hm (Nat.not_lt_zero _)
    | succ n ih =>
      intro t xv qq wa tu be I F jjEX hq hi hm kx
      have b3001 := bi_104 I
      have b3002 := bi_103 I
      refine z_load X (x := wa) rfl (List.Mem.tail _ (List.Mem.tail _ (List.Mem.tail _ (List.Mem.tail _ (List.Mem.tail _ (List.Mem.tail _ (List.Mem.head _))))))) (z_if_le X (t := 256) rfl rfl ⟨by first | exact oq_fa4e5087 hi.2.2.1.1 | omega, by first | exact oq_d3f5d874 hi.2.2.1.2 | omega⟩ (fun g3003 => ?_) (fun g3003 => ?_))
      ·
        refine WS_pq [0, 1, 2, 3, 4, 5, 6, 7, 8] (lv' := [(0, .ref (A 179)), (2, .ref q1), (3, .ref q2), (4, .ref q3), (1, .int (Int32.ofInt xv)), (5, .int (Int32.ofInt qq)), (6, .int (Int32.ofInt wa)), (7, .int (Int32.ofInt tu)), (8, .int (Int32.ofInt be))]) rfl ?_
        exact kx _ wa be I F jjEX hq (by first | exact ⟨And.intro (hi.1.1) (And.intro (hi.1.2.1) (hi.1.2.2)), And.intro (hi.2.1.1) (hi.2.1.2), And.intro (hi.2.2.1.1) (hi.2.2.1.2), And.intro (hi.2.2.2.1.1) (hi.2.2.2.1.2), Or.inl (g3003)⟩ | omega)
      ·
        refine z_load X (x := be) rfl (List.Mem.tail _ (List.Mem.tail _ (List.Mem.tail _ (List.Mem.tail _ (List.Mem.tail _ (List.Mem.tail _ (List.Mem.tail _ (List.Mem.tail _ (List.Mem.head _))))))))) (z_const X rfl (z_icmp_eq X (t := 256) rfl rfl ⟨by first | exact oq_97ee2c2a hi.2.2.2.2.1 | omega, by first | exact oq_0e78ca7d hi.2.2.2.2.2 | omega⟩ (by decide) (fun g3004 => ?_) (fun g3004 => ?_)))
        ·
          refine WS_pq [0, 1, 2, 3, 4, 5, 6, 7, 8] (lv' := [(0, .ref (A 179)), (2, .ref q1), (3, .ref q2), (4, .ref q3), (1, .int (Int32.ofInt xv)), (5, .int (Int32.ofInt qq)), (6, .int (Int32.ofInt wa)), (7, .int (Int32.ofInt tu)), (8, .int (Int32.ofInt be))]) rfl ?_
          exact kx _ wa be I F jjEX hq (by first | exact ⟨And.intro (hi.1.1) (And.intro (hi.1.2.1) (hi.1.2.2)), And.intro (hi.2.1.1) (hi.2.1.2), And.intro (hi.2.2.1.1) (hi.2.2.1.2), And.intro (hi.2.2.2.1.1) (hi.2.2.2.1.2), Or.inr (g3004)⟩ | omega)
        ·
          refine z_const X rfl (z_store X (lv' := [(8, .int (Int32.ofInt (-1))), (0, .ref (A 179)), (2, .ref q1), (3, .ref q2), (4, .ref q3), (1, .int (Int32.ofInt xv)), (5, .int (Int32.ofInt qq)), (6, .int (Int32.ofInt wa)), (7, .int (Int32.ofInt tu))]) rfl (by decide) (fun _ h => h) (z_const X rfl (z_store X (lv' := [(9, .int (Int32.ofInt 0)), (8, .int (Int32.ofInt (-1))), (0, .ref (A 179)), (2, .ref q1), (3, .ref q2), (4, .ref q3), (1, .int (Int32.ofInt xv)), (5, .int (Int32.ofInt qq)), (6, .int (Int32.ofInt wa)), (7, .int (Int32.ofInt tu))]) rfl (by decide) (fun _ h => h) (WS_pq [2, 3, 4, 5, 6, 7, 8, 9, 1, 0] (lv' := [(0, .ref (A 179)), (2, .ref q1), (3, .ref q2), (4, .ref q3), (1, .int (Int32.ofInt xv)), (5, .int (Int32.ofInt qq)), (6, .int (Int32.ofInt wa)), (7, .int (Int32.ofInt tu)), (8, .int (Int32.ofInt (-1))), (9, .int (Int32.ofInt 0))]) rfl (L100 ((8 - 0 : Int).toNat + 1) t xv qq wa tu (-1) 0 I F jjEX ⟨hq.1, hq.2.1, nxq_0⟩ (by first | exact ⟨And.intro (hi.1.1) (And.intro (hi.1.2.1) (hi.1.2.2)), And.intro (hi.2.1.1) (hi.2.1.2), And.intro (hi.2.2.1.1) (hi.2.2.1.2), And.intro (hi.2.2.2.1.1) (hi.2.2.2.1.2), And.intro (by decide) (And.intro (by decide) (by decide)), by decide, oq_2a6e3b50 hi.1.2.1, b3002.1, b3002.2⟩ | omega) (Nat.lt_succ_self _) ?_)))))
          intro s3005 x3006 x3007 Is3005 Fs3005 JEX_s3005 Qs3005 hs3005
          have b3008 := bi_104 Is3005
          have b3009 := bi_103 Is3005
          refine z_load X (x := x3006) rfl (List.Mem.tail _ (List.Mem.tail _ (List.Mem.tail _ (List.Mem.tail _ (List.Mem.tail _ (List.Mem.tail _ (List.Mem.tail _ (List.Mem.tail _ (List.Mem.head _))))))))) (z_const X rfl (z_icmp_ne X (t := 236) rfl rfl ⟨by first | exact oq_97ee2c2a hs3005.2.2.2.2.1.1 | omega, by first | exact oq_0e78ca7d hs3005.2.2.2.2.1.2 | omega⟩ (by decide) (fun g3010 => ?_) (fun g3010 => ?_)))
          ·
            refine z_aload_n X (x := A 179) rfl (List.Mem.head _) (s_getR X 179 rfl (c518_ok rfl) rfl rfl (z_load X (x := qq) rfl (List.Mem.tail _ (List.Mem.tail _ (List.Mem.tail _ (List.Mem.tail _ (List.Mem.tail _ (List.Mem.head _)))))) (w_dup2_11 X.1 (ax_d X (show cdA 275 242 = some (.dup2, 1, 0, 0, 0) from rfl)) rfl rfl (z_ald X 452 rfl (c518_ok rfl) rfl (by first | exact hs3005.2.1.1 | omega) (show qq < 24 by first | exact oq_7fdb8aa6 hs3005.2.1.2 | omega) (cbig_ok rfl) ?_))))
            have b3011 := bc_397 Is3005 (show (qq).toNat < 24 by first | exact oq_138251d6 hs3005.2.1.2 | omega)
            have ar3012 : iC s3005 397 (qq).toNat = iC s3005 397 (qq).toNat := (sam_rf (a := 397) (s := s3005)) _
            have hm5 := Qs3005.2.1.1
            refine z_const X rfl (z_load X (x := x3006) rfl (List.Mem.tail _ (List.Mem.tail _ (List.Mem.tail _ (List.Mem.tail _ (List.Mem.tail _ (List.Mem.tail _ (List.Mem.tail _ (List.Mem.tail _ (List.Mem.head _))))))))) (z_bshl X rfl (z_anyV (fun y3013 hy3013 ey3013 => ?_))))
            refine w_ior X.1 (ax_d X (show cdA 275 248 = some (.ior, 1, 0, 0, 0) from rfl)) (z_anyV (fun y3014 hy3014 ey3014 => ?_))
            have hmo := ms_or (e := (iC s3005 397 (qq).toNat)) (p := x3006) Qs3005.2.1.1 (by first | (clear g3010 g3004 p1; omega) | (clear g3004 p1; omega) | omega) ey3013 hy3013 ey3014 hy3014
            have hmo1 := hmo.1
            refine z_ast X 452 rfl (c518_ok rfl) rfl (by first | exact hs3005.2.1.1 | omega) (show qq < 24 by first | exact oq_7fdb8aa6 hs3005.2.1.2 | omega) (cbig_ok rfl) (wd_gen (fun s3015 hs3015 => ?_))
            have Is3015 : Bd s3015 := eqB hs3015 (bd_C Is3005 (show (0 : Int) ≤ y3014 ∧ y3014 ≤ 255 by first | (clear g3010 g3004 p1; omega) | (clear g3004 p1; omega) | omega) hy3014)
            have Fs3015 := fx_C (i := (qq).toNat) (x := Int32.ofInt y3014) Fs3005 (show 397 ∈ _ by decide)
            rw [← hs3015] at Fs3015
            have ws3015_104 : iI s3015 104 = iI s3005 104 := eqI hs3015 rfl
            have ws3015_103 : iI s3015 103 = iI s3005 103 := eqI hs3015 rfl
            have aws3015_397 : UPD 397 (qq) y3014 s3005 s3015 := by rw [hs3015]; exact upd_put (sam_rf (a := 397) (s := s3005)) hy3014
            have JEX_s3015 : EXl (pX s) (dT 0) [(q1, 8), (q2, 8), (q3, 8)] s3015 := by rw [hs3015]; exact JEX_s3005
            refine z_inc X (x := wa) (lv' := [(6, .int (Int32.ofInt (wa + (-1)))), (0, .ref (A 179)), (2, .ref q1), (3, .ref q2), (4, .ref q3), (1, .int (Int32.ofInt xv)), (5, .int (Int32.ofInt qq)), (7, .int (Int32.ofInt tu)), (8, .int (Int32.ofInt x3006)), (9, .int (Int32.ofInt x3007))]) rfl (by decide) (List.Mem.tail _ (List.Mem.tail _ (List.Mem.tail _ (List.Mem.tail _ (List.Mem.tail _ (List.Mem.tail _ (List.Mem.head _))))))) (fun _ h => h) (z_goto X (t := 83) rfl rfl (WS_pq [1, 2, 3, 4, 5, 6, 0, 7, 8] (lv' := [(0, .ref (A 179)), (2, .ref q1), (3, .ref q2), (4, .ref q3), (1, .int (Int32.ofInt xv)), (5, .int (Int32.ofInt qq)), (6, .int (Int32.ofInt (wa + (-1)))), (7, .int (Int32.ofInt tu)), (8, .int (Int32.ofInt x3006))]) rfl ?_))
            exact ih _ xv qq (wa + (-1)) tu x3006 Is3015 Fs3015 JEX_s3015 ⟨mrn_w Qs3005.1 (fun i j => by rw [hs3015]; rfl) (by first | (clear g3010 g3004 p1; omega) | (clear g3004 p1; omega) | omega) aws3015_397 (by first | (clear g3010 g3004 p1; omega) | (clear g3004 p1; omega) | omega), (by rw [show (iC s3015 397 (qq : Int).toNat) = y3014 from aws3015_397.1]; exact ps_up Qs3005.2.1 (by first | (clear g3010 g3004 p1; omega) | (clear g3004 p1; omega) | omega) Qs3005.2.2 (by first | (clear g3010 g3004 p1; omega) | (clear g3004 p1; omega) | omega) (by show _ = x; omega) (by first | (clear g3010 g3004 p1; omega) | (clear g3004 p1; omega) | omega) hmo), noc_0 (by first | (clear g3010 g3004 p1; omega) | (clear g3004 p1; omega) | omega)⟩ (by first | exact ⟨And.intro (hs3005.1.1) (And.intro (hs3005.1.2.1) (hs3005.1.2.2)), And.intro (hs3005.2.1.1) (hs3005.2.1.2), And.intro (oq_8cda77f1 g3003) (oq_4967eec5 hs3005.2.2.1.2), And.intro (hs3005.2.2.2.1.1) (hs3005.2.2.2.1.2), hs3005.2.2.2.2.1.1, hs3005.2.2.2.2.1.2⟩ | omega) (by first | exact qk_me hm (oq_8cccae95 hi.2.2.2.2.1 hs3005.2.2.2.2.1.2) (oq_e2d048ad hi.2.2.2.2.1 g3003) | omega) kx
          ·
            refine z_goto X (t := 83) rfl rfl (WS_pq [0, 1, 2, 3, 4, 5, 6, 7, 8] (lv' := [(0, .ref (A 179)), (2, .ref q1), (3, .ref q2), (4, .ref q3), (1, .int (Int32.ofInt xv)), (5, .int (Int32.ofInt qq)), (6, .int (Int32.ofInt wa)), (7, .int (Int32.ofInt tu)), (8, .int (Int32.ofInt x3006))]) rfl ?_)
            exact ih _ xv qq wa tu x3006 Is3005 Fs3005 JEX_s3005 ⟨Qs3005.1, Qs3005.2.1, ps_no Qs3005.2.2 (by show _ = x; omega)⟩ (by first | exact ⟨And.intro (hs3005.1.1) (And.intro (hs3005.1.2.1) (hs3005.1.2.2)), And.intro (hs3005.2.1.1) (hs3005.2.1.2), And.intro (hs3005.2.2.1.1) (hs3005.2.2.1.2), And.intro (hs3005.2.2.2.1.1) (hs3005.2.2.2.1.2), hs3005.2.2.2.2.1.1, hs3005.2.2.2.2.1.2⟩ | omega) (by first | exact qk_me hm (oq_012028ef g3010 g3004 hi.2.2.2.2.1) (oq_e2d048ad hi.2.2.2.2.1 g3003) | omega) kx
  have L74 : ∀ (n : Nat) (t : PS) (xv qq wa tu : Int), Bd t → FmX [104] [397] s t → EXl (pX s) (dT 0) [(q1, 8), (q2, 8), (q3, 8)] t → (MRN (RDM s x) (pX s).length (qq : Int).toNat t ∧ PS3 (RDM s x) (qq : Int).toNat tu wa (iC t 397 (qq : Int).toNat)) → ((xv = x ∧ 1 ≤ x ∧ x ≤ 8) ∧ (0 ≤ qq ∧ qq ≤ 23) ∧ (0 ≤ wa ∧ wa ≤ 8) ∧ (0 ≤ tu ∧ tu ≤ 2)) → (2 - tu : Int).toNat < n → (∀ (t' : PS) (wa' tu' : Int), Bd t' → FmX [104] [397] s t' → EXl (pX s) (dT 0) [(q1, 8), (q2, 8), (q3, 8)] t' → (MRN (RDM s x) (pX s).length (qq : Int).toNat t' ∧ PS3 (RDM s x) (qq : Int).toNat tu' wa' (iC t' 397 (qq : Int).toNat)) → ((xv = x ∧ 1 ≤ x ∧ x ≤ 8) ∧ (0 ≤ qq ∧ qq ≤ 23) ∧ (0 ≤ wa' ∧ wa' ≤ 8) ∧ tu' = 2) → WS k 262 [(0, .ref (A 179)), (2, .ref q1), (3, .ref q2), (4, .ref q3), (1, .int (Int32.ofInt xv)), (5, .int (Int32.ofInt qq)), (6, .int (Int32.ofInt wa')), (7, .int (Int32.ofInt tu'))] [] (Wd A dT t') 3 24) → WS k 74 [(0, .ref (A 179)), (2, .ref q1), (3, .ref q2), (4, .ref q3), (1, .int (Int32.ofInt xv)), (5, .int (Int32.ofInt qq)), (6, .int (Int32.ofInt wa)), (7, .int (Int32.ofInt tu))] [] (Wd A dT t) 3 24 := by
    intro n
    induction n with
    | zero =>
      intro t xv qq wa tu I F jjEX hq hi hm kx
      exact absurd hm (Nat.not_lt_zero _)
    | succ n ih =>
      intro t xv qq wa tu I F jjEX hq hi hm kx
      have b4001 := bi_104 I
      have b4002 := bi_103 I
      refine z_load X (x := tu) rfl (List.Mem.tail _ (List.Mem.tail _ (List.Mem.tail _ (List.Mem.tail _ (List.Mem.tail _ (List.Mem.tail _ (List.Mem.tail _ (List.Mem.head _)))))))) (z_const X rfl (z_icmp_ge X (t := 262) rfl rfl ⟨by first | exact oq_fa4e5087 hi.2.2.2.1 | omega, by first | exact oq_861e1648 hi.2.2.2.2 | omega⟩ (by decide) (fun g4003 => ?_) (fun g4003 => ?_)))
      ·
        refine WS_pq [0, 1, 2, 3, 4, 5, 6, 7] (lv' := [(0, .ref (A 179)), (2, .ref q1), (3, .ref q2), (4, .ref q3), (1, .int (Int32.ofInt xv)), (5, .int (Int32.ofInt qq)), (6, .int (Int32.ofInt wa)), (7, .int (Int32.ofInt tu))]) rfl ?_
        exact kx _ wa tu I F jjEX hq (by first | exact ⟨And.intro (hi.1.1) (And.intro (hi.1.2.1) (hi.1.2.2)), And.intro (hi.2.1.1) (hi.2.1.2), And.intro (hi.2.2.1.1) (hi.2.2.1.2), oq_1f7d2948 hi.2.2.2.2 g4003⟩ | omega)
      ·
        refine z_const X rfl (z_store X (lv' := [(8, .int (Int32.ofInt 0)), (0, .ref (A 179)), (2, .ref q1), (3, .ref q2), (4, .ref q3), (1, .int (Int32.ofInt xv)), (5, .int (Int32.ofInt qq)), (6, .int (Int32.ofInt wa)), (7, .int (Int32.ofInt tu))]) rfl (by decide) (fun _ h => h) (WS_pq [1, 2, 3, 4, 5, 6, 7, 8, 0] (lv' := [(0, .ref (A 179)), (2, .ref q1), (3, .ref q2), (4, .ref q3), (1, .int (Int32.ofInt xv)), (5, .int (Int32.ofInt qq)), (6, .int (Int32.ofInt wa)), (7, .int (Int32.ofInt tu)), (8, .int (Int32.ofInt 0))]) rfl (L83 ((100 * wa + 0 + 1 : Int).toNat + 1) t xv qq wa tu 0 I F jjEX ⟨hq.1, ps_in hq.2 (by first | (clear p1; omega) | omega) (p1 _ (by first | (clear p1; omega) | omega)).1, noc_0 (by decide)⟩ (by first | exact ⟨And.intro (hi.1.1) (And.intro (hi.1.2.1) (hi.1.2.2)), And.intro (hi.2.1.1) (hi.2.1.2), And.intro (hi.2.2.1.1) (hi.2.2.1.2), And.intro (hi.2.2.2.1) (oq_b11e0c68 g4003), by decide, by decide⟩ | omega) (Nat.lt_succ_self _) ?_)))
        intro s4004 x4005 x4006 Is4004 Fs4004 JEX_s4004 Qs4004 hs4004
        have b4007 := bi_104 Is4004
        have b4008 := bi_103 Is4004
        refine z_inc X (x := tu) (lv' := [(7, .int (Int32.ofInt (tu + 1))), (0, .ref (A 179)), (2, .ref q1), (3, .ref q2), (4, .ref q3), (1, .int (Int32.ofInt xv)), (5, .int (Int32.ofInt qq)), (6, .int (Int32.ofInt x4005)), (8, .int (Int32.ofInt x4006))]) rfl (by decide) (List.Mem.tail _ (List.Mem.tail _ (List.Mem.tail _ (List.Mem.tail _ (List.Mem.tail _ (List.Mem.tail _ (List.Mem.tail _ (List.Mem.head _)))))))) (fun _ h => h) (z_goto X (t := 74) rfl rfl (WS_pq [1, 2, 3, 4, 5, 6, 7, 0] (lv' := [(0, .ref (A 179)), (2, .ref q1), (3, .ref q2), (4, .ref q3), (1, .int (Int32.ofInt xv)), (5, .int (Int32.ofInt qq)), (6, .int (Int32.ofInt x4005)), (7, .int (Int32.ofInt (tu + 1)))]) rfl ?_))
        exact ih _ xv qq x4005 (tu + 1) Is4004 Fs4004 JEX_s4004 ⟨Qs4004.1, ps_out Qs4004.2.1 Qs4004.2.2 (by first | (clear p1; omega) | omega) (p1 _ (by first | (clear p1; omega) | omega)).1⟩ (by first | exact ⟨And.intro (hs4004.1.1) (And.intro (hs4004.1.2.1) (hs4004.1.2.2)), And.intro (hs4004.2.1.1) (hs4004.2.1.2), And.intro (hs4004.2.2.1.1) (hs4004.2.2.1.2), oq_54f49eb5 hs4004.2.2.2.1.1, oq_f4e79888 hs4004.2.2.2.1.2⟩ | omega) (by first | exact qk_me hm (by decide) (oq_8f78399e hs4004.2.2.2.1.2) | omega) kx
  have L276 : ∀ (n : Nat) (t : PS) (xv qq p : Int), Bd t → FmX [104] [397] s t → EXl (pX s) (dT 0) [(q1, 8), (q2, 8), (q3, 8)] t → (MST (RDM s x) (pX s).length (qq : Int).toNat p t) → ((xv = x ∧ 1 ≤ x ∧ x ≤ 8) ∧ (0 ≤ qq ∧ qq ≤ 23) ∧ 0 ≤ p ∧ p ≤ x) → (8 - p : Int).toNat < n → (∀ (t' : PS) (p' : Int), Bd t' → FmX [104] [397] s t' → EXl (pX s) (dT 0) [(q1, 8), (q2, 8), (q3, 8)] t' → (MST (RDM s x) (pX s).length (qq : Int).toNat p' t') → ((xv = x ∧ 1 ≤ x ∧ x ≤ 8) ∧ (0 ≤ qq ∧ qq ≤ 23) ∧ p' = x) → WS k 347 [(0, .ref (A 179)), (2, .ref q1), (3, .ref q2), (4, .ref q3), (1, .int (Int32.ofInt xv)), (5, .int (Int32.ofInt qq)), (7, .int (Int32.ofInt p'))] [] (Wd A dT t') 3 24) → WS k 276 [(0, .ref (A 179)), (2, .ref q1), (3, .ref q2), (4, .ref q3), (1, .int (Int32.ofInt xv)), (5, .int (Int32.ofInt qq)), (7, .int (Int32.ofInt p))] [] (Wd A dT t) 3 24 := by
    intro n
    induction n with
    | zero =>
      intro t xv qq p I F jjEX hq hi hm kx
      exact absurd hm (Nat.not_lt_zero _)
    | succ n ih =>
      intro t xv qq p I F jjEX hq hi hm kx
      have b5001 := bi_104 I
      have b5002 := bi_103 I
      refine z_load X (x := p) rfl (List.Mem.tail _ (List.Mem.tail _ (List.Mem.tail _ (List.Mem.tail _ (List.Mem.tail _ (List.Mem.tail _ (List.Mem.head _))))))) (z_load_n X (x := xv) rfl (List.Mem.tail _ (List.Mem.tail _ (List.Mem.tail _ (List.Mem.tail _ (List.Mem.head _))))) (z_icmp_ge X (t := 347) rfl rfl ⟨by first | exact oq_fa4e5087 hi.2.2.1 | omega, by first | exact oq_b5dbaaed hi.2.2.2 hi.1.2.2 | omega⟩ ⟨by first | exact oq_4dc996b7 hi.1.1 hi.1.2.1 | omega, by first | exact oq_8bd33971 hi.1.1 hi.1.2.2 | omega⟩ (fun g5003 => ?_) (fun g5003 => ?_)))
      ·
        refine WS_pq [0, 1, 2, 3, 4, 5, 6] (lv' := [(0, .ref (A 179)), (2, .ref q1), (3, .ref q2), (4, .ref q3), (1, .int (Int32.ofInt xv)), (5, .int (Int32.ofInt qq)), (7, .int (Int32.ofInt p))]) rfl ?_
        exact kx _ p I F jjEX hq (by first | exact ⟨And.intro (hi.1.1) (And.intro (hi.1.2.1) (hi.1.2.2)), And.intro (hi.2.1.1) (hi.2.1.2), oq_537ca82a hi.2.2.2 g5003 hi.1.1⟩ | omega)
      ·
        have hqe : qq = (((qq : Int).toNat : Nat) : Int) := by first | (clear p1; omega) | omega
        have hNw : Int32.ofInt (iC t 397 (qq : Int).toNat) = (nwM (RDM s x) (ruR (RDM s x) (qq : Int).toNat) (qq : Int).toNat) := by rw [hq.2.2 _ (by first | (clear p1; omega) | omega)]; exact ofi_to _
        have hb1 := (mst_b hq (by first | (clear p1; omega) | omega) (by first | (clear p1; omega) | omega)).1
        refine z_aload_n X (x := A 179) rfl (List.Mem.head _) (s_getR X 179 rfl (c518_ok rfl) rfl rfl (z_load X (x := qq) rfl (List.Mem.tail _ (List.Mem.tail _ (List.Mem.tail _ (List.Mem.tail _ (List.Mem.tail _ (List.Mem.head _)))))) (z_ald X 452 rfl (c518_ok rfl) rfl (by first | exact hi.2.1.1 | omega) (show qq < 24 by first | exact oq_7fdb8aa6 hi.2.1.2 | omega) (cbig_ok rfl) ?_)))
        have b5004 := bc_397 I (show (qq).toNat < 24 by first | exact oq_138251d6 hi.2.1.2 | omega)
        have ar5005 : iC t 397 (qq).toNat = iC t 397 (qq).toNat := (sam_rf (a := 397) (s := t)) _
        refine z_load X (x := p) rfl (List.Mem.tail _ (List.Mem.tail _ (List.Mem.tail _ (List.Mem.tail _ (List.Mem.tail _ (List.Mem.tail _ (List.Mem.head _))))))) (z_bshr X rfl (z_anyV (fun y5006 hy5006 ey5006 => ?_)))
        refine z_const X rfl (w_iand X.1 (ax_d X (show cdA 275 293 = some (.iand, 1, 0, 0, 0) from rfl)) (z_anyV (fun y5007 hy5007 ey5007 => ?_)))
        have hbit := bt_rd (b := iC t 397 (qq : Int).toNat) (p := p) ey5006 ey5007 hy5007 (by first | (clear p1; omega) | omega)
        rw [hNw] at hbit
        refine z_if_ne X (t := 300) rfl rfl hy5007 (fun g5008 => ?_) (fun g5008 => ?_)
        ·
          refine z_aload_n X (x := q2) rfl (List.Mem.tail _ (List.Mem.tail _ (List.Mem.head _))) (z_load X (x := p) rfl (List.Mem.tail _ (List.Mem.tail _ (List.Mem.tail _ (List.Mem.tail _ (List.Mem.tail _ (List.Mem.tail _ (List.Mem.head _))))))) (z_aload X (x := q3) rfl (List.Mem.tail _ (List.Mem.tail _ (List.Mem.tail _ (List.Mem.head _)))) (z_load X (x := p) rfl (List.Mem.tail _ (List.Mem.tail _ (List.Mem.tail _ (List.Mem.tail _ (List.Mem.tail _ (List.Mem.tail _ (List.Mem.head _))))))) (z_xaldE X jjEX 2 rfl rfl (by first | exact hi.2.2.1 | omega) (show p < 8 by first | exact oq_940075ae g5003 hi.1.1 hi.1.2.2 | omega) (by decide) ?_))))
          have b5009 : rng (xV ((pX s).length + 2) t (p).toNat) := rng_to _
          refine z_load X (x := qq) rfl (List.Mem.tail _ (List.Mem.tail _ (List.Mem.tail _ (List.Mem.tail _ (List.Mem.tail _ (List.Mem.head _)))))) (z_const X rfl (z_sub X rfl (z_icmp_ne X (t := 324) rfl rfl ⟨by first | exact b5009.1 | omega, by first | exact b5009.2 | omega⟩ ⟨by first | exact oq_c1e961c7 hi.2.1.1 | omega, by first | exact oq_7b087cf4 hi.2.1.2 | omega⟩ (fun g5010 => ?_) (fun g5010 => ?_))))
          ·
            refine z_const X rfl (z_xastE X jjEX 1 rfl rfl (by first | exact hi.2.2.1 | omega) (show p < 8 by first | exact oq_940075ae g5003 hi.1.1 hi.1.2.2 | omega) (by decide) (fun ps5011 es5011 fs5011 => ?_))
            have Is5011 : Bd (sx t ps5011) := I
            have Fs5011 : FmX [104] [397] s (sx t ps5011) := F
            have ws5011_104 : iI (sx t ps5011) 104 = iI t 104 := rfl
            have ws5011_103 : iI (sx t ps5011) 103 = iI t 103 := rfl
            have aws5011_397 : SAM 397 t (sx t ps5011) := (sam_rf (a := 397) (s := t))
            generalize sx t ps5011 = s5011 at *
            have g1 := xup fs5011 (by decide)
            refine z_aload X (x := q3) rfl (List.Mem.tail _ (List.Mem.tail _ (List.Mem.tail _ (List.Mem.head _)))) (z_load X (x := p) rfl (List.Mem.tail _ (List.Mem.tail _ (List.Mem.tail _ (List.Mem.tail _ (List.Mem.tail _ (List.Mem.tail _ (List.Mem.head _))))))) (z_load X (x := qq) rfl (List.Mem.tail _ (List.Mem.tail _ (List.Mem.tail _ (List.Mem.tail _ (List.Mem.tail _ (List.Mem.head _)))))) (z_xastE X es5011 2 rfl rfl (by first | exact hi.2.2.1 | omega) (show p < 8 by first | exact oq_940075ae g5003 hi.1.1 hi.1.2.2 | omega) (by decide) (fun ps5012 es5012 fs5012 => ?_))))
            have Is5012 : Bd (sx s5011 ps5012) := Is5011
            have Fs5012 : FmX [104] [397] s (sx s5011 ps5012) := Fs5011
            have ws5012_104 : iI (sx s5011 ps5012) 104 = iI s5011 104 := rfl
            have ws5012_103 : iI (sx s5011 ps5012) 103 = iI s5011 103 := rfl
            have aws5012_397 : SAM 397 t (sx s5011 ps5012) := aws5011_397
            generalize sx s5011 ps5012 = s5012 at *
            have g2 := xup fs5012 ⟨by first | exact oq_fa4e5087 hi.2.1.1 | omega, by first | exact oq_1a42ef34 hi.2.1.2 | omega⟩
            have hx0 := x0_at (N := (pX s).length) (c := p) (fun i j hi => g1 i j hi) (fun i j hi => g2 i j hi)
            refine z_aload_n X (x := q1) rfl (List.Mem.tail _ (List.Mem.head _)) (z_load X (x := p) rfl (List.Mem.tail _ (List.Mem.tail _ (List.Mem.tail _ (List.Mem.tail _ (List.Mem.tail _ (List.Mem.tail _ (List.Mem.head _))))))) (w_dup2_11 X.1 (ax_d X (show cdA 275 336 = some (.dup2, 1, 0, 0, 0) from rfl)) rfl rfl (z_xaldE X es5012 0 rfl rfl (by first | exact hi.2.2.1 | omega) (show p < 8 by first | exact oq_940075ae g5003 hi.1.1 hi.1.2.2 | omega) (by decide) ?_)))
            have b5013 : rng (xV ((pX s).length + 0) s5012 (p).toNat) := rng_to _
            refine z_const X rfl (z_add X rfl (z_xastE X es5012 0 rfl rfl (by first | exact hi.2.2.1 | omega) (show p < 8 by first | exact oq_940075ae g5003 hi.1.1 hi.1.2.2 | omega) (by decide) (fun ps5014 es5014 fs5014 => ?_)))
            have Is5014 : Bd (sx s5012 ps5014) := Is5012
            have Fs5014 : FmX [104] [397] s (sx s5012 ps5014) := Fs5012
            have ws5014_104 : iI (sx s5012 ps5014) 104 = iI s5012 104 := rfl
            have ws5014_103 : iI (sx s5012 ps5014) 103 = iI s5012 103 := rfl
            have aws5014_397 : SAM 397 t (sx s5012 ps5014) := aws5012_397
            generalize sx s5012 ps5014 = s5014 at *
            have g3 := xup fs5014 ⟨by first | exact oq_14afcb3e b5013.1 | omega, by first | (clear g5010 g5008 p1; omega) | (clear g5008 p1; omega) | omega⟩
            refine z_inc X (x := p) (lv' := [(7, .int (Int32.ofInt (p + 1))), (0, .ref (A 179)), (2, .ref q1), (3, .ref q2), (4, .ref q3), (1, .int (Int32.ofInt xv)), (5, .int (Int32.ofInt qq))]) rfl (by decide) (List.Mem.tail _ (List.Mem.tail _ (List.Mem.tail _ (List.Mem.tail _ (List.Mem.tail _ (List.Mem.tail _ (List.Mem.head _))))))) (fun _ h => h) (z_goto X (t := 276) rfl rfl (WS_pq [1, 2, 3, 4, 5, 6, 0] (lv' := [(0, .ref (A 179)), (2, .ref q1), (3, .ref q2), (4, .ref q3), (1, .int (Int32.ofInt xv)), (5, .int (Int32.ofInt qq)), (7, .int (Int32.ofInt (p + 1)))]) rfl ?_))
            exact ih _ xv qq (p + 1) Is5014 Fs5014 es5014 (mst_y3 hq (by first | (clear g5010 g5008 p1; omega) | (clear g5008 p1; omega) | omega) (by show _ < x; omega) (hbit.elim (fun z => z.2) (fun z => absurd z.1 (by first | (clear g5010 g5008 p1; omega) | (clear g5008 p1; omega) | omega))) hqe (Or.inr ⟨by first | (clear g5010 g5008 p1; omega) | (clear g5008 p1; omega) | omega, rfl⟩) (fun i j hi => g1 i j hi) (fun i j hi => g2 i j hi) (fun i j hi => g3 i j hi) (by first | (clear g5010 g5008 p1; omega) | (clear g5008 p1; omega) | omega) (by first | (clear g5010 g5008 p1; omega) | (clear g5008 p1; omega) | omega) aws5014_397) (by first | exact ⟨And.intro (hi.1.1) (And.intro (hi.1.2.1) (hi.1.2.2)), And.intro (hi.2.1.1) (hi.2.1.2), oq_54f49eb5 hi.2.2.1, oq_8a89b3ae g5003 hi.1.1⟩ | omega) (by first | exact qk_me hm (by decide) (oq_67fee7f6 g5003 hi.1.1 hi.1.2.2) | omega) kx
          ·
            have hb2 := (mst_b hq (by first | (clear g5008 p1; omega) | (clear p1; omega) | omega) (by first | (clear g5008 p1; omega) | (clear p1; omega) | omega)).2 (by first | (clear g5008 p1; omega) | (clear p1; omega) | omega)
            refine z_aload_n X (x := q2) rfl (List.Mem.tail _ (List.Mem.tail _ (List.Mem.head _))) (z_load X (x := p) rfl (List.Mem.tail _ (List.Mem.tail _ (List.Mem.tail _ (List.Mem.tail _ (List.Mem.tail _ (List.Mem.tail _ (List.Mem.head _))))))) (z_xaldE X jjEX 1 rfl rfl (by first | exact hi.2.2.1 | omega) (show p < 8 by first | exact oq_940075ae g5003 hi.1.1 hi.1.2.2 | omega) (by decide) ?_))
            have b5015 : rng (xV ((pX s).length + 1) t (p).toNat) := rng_to _
            refine z_const X rfl (z_add X rfl (z_goto X (t := 325) rfl rfl (z_xastE X jjEX 1 rfl rfl (by first | exact hi.2.2.1 | omega) (show p < 8 by first | exact oq_940075ae g5003 hi.1.1 hi.1.2.2 | omega) (by decide) (fun ps5016 es5016 fs5016 => ?_))))
            have Is5016 : Bd (sx t ps5016) := I
            have Fs5016 : FmX [104] [397] s (sx t ps5016) := F
            have ws5016_104 : iI (sx t ps5016) 104 = iI t 104 := rfl
            have ws5016_103 : iI (sx t ps5016) 103 = iI t 103 := rfl
            have aws5016_397 : SAM 397 t (sx t ps5016) := (sam_rf (a := 397) (s := t))
            generalize sx t ps5016 = s5016 at *
            have g1 := xup fs5016 ⟨by first | exact oq_14afcb3e b5015.1 | omega, by first | (clear g5008 p1; omega) | (clear p1; omega) | omega⟩
            refine z_aload X (x := q3) rfl (List.Mem.tail _ (List.Mem.tail _ (List.Mem.tail _ (List.Mem.head _)))) (z_load X (x := p) rfl (List.Mem.tail _ (List.Mem.tail _ (List.Mem.tail _ (List.Mem.tail _ (List.Mem.tail _ (List.Mem.tail _ (List.Mem.head _))))))) (z_load X (x := qq) rfl (List.Mem.tail _ (List.Mem.tail _ (List.Mem.tail _ (List.Mem.tail _ (List.Mem.tail _ (List.Mem.head _)))))) (z_xastE X es5016 2 rfl rfl (by first | exact hi.2.2.1 | omega) (show p < 8 by first | exact oq_940075ae g5003 hi.1.1 hi.1.2.2 | omega) (by decide) (fun ps5017 es5017 fs5017 => ?_))))
            have Is5017 : Bd (sx s5016 ps5017) := Is5016
            have Fs5017 : FmX [104] [397] s (sx s5016 ps5017) := Fs5016
            have ws5017_104 : iI (sx s5016 ps5017) 104 = iI s5016 104 := rfl
            have ws5017_103 : iI (sx s5016 ps5017) 103 = iI s5016 103 := rfl
            have aws5017_397 : SAM 397 t (sx s5016 ps5017) := aws5016_397
            generalize sx s5016 ps5017 = s5017 at *
            have g2 := xup fs5017 ⟨by first | exact oq_fa4e5087 hi.2.1.1 | omega, by first | exact oq_1a42ef34 hi.2.1.2 | omega⟩
            have hx0 := x0_at (N := (pX s).length) (c := p) (fun i j hi => g1 i j hi) (fun i j hi => g2 i j hi)
            refine z_aload_n X (x := q1) rfl (List.Mem.tail _ (List.Mem.head _)) (z_load X (x := p) rfl (List.Mem.tail _ (List.Mem.tail _ (List.Mem.tail _ (List.Mem.tail _ (List.Mem.tail _ (List.Mem.tail _ (List.Mem.head _))))))) (w_dup2_11 X.1 (ax_d X (show cdA 275 336 = some (.dup2, 1, 0, 0, 0) from rfl)) rfl rfl (z_xaldE X es5017 0 rfl rfl (by first | exact hi.2.2.1 | omega) (show p < 8 by first | exact oq_940075ae g5003 hi.1.1 hi.1.2.2 | omega) (by decide) ?_)))
            have b5018 : rng (xV ((pX s).length + 0) s5017 (p).toNat) := rng_to _
            refine z_const X rfl (z_add X rfl (z_xastE X es5017 0 rfl rfl (by first | exact hi.2.2.1 | omega) (show p < 8 by first | exact oq_940075ae g5003 hi.1.1 hi.1.2.2 | omega) (by decide) (fun ps5019 es5019 fs5019 => ?_)))
            have Is5019 : Bd (sx s5017 ps5019) := Is5017
            have Fs5019 : FmX [104] [397] s (sx s5017 ps5019) := Fs5017
            have ws5019_104 : iI (sx s5017 ps5019) 104 = iI s5017 104 := rfl
            have ws5019_103 : iI (sx s5017 ps5019) 103 = iI s5017 103 := rfl
            have aws5019_397 : SAM 397 t (sx s5017 ps5019) := aws5017_397
            generalize sx s5017 ps5019 = s5019 at *
            have g3 := xup fs5019 ⟨by first | exact oq_14afcb3e b5018.1 | omega, by first | (clear g5008 p1; omega) | (clear p1; omega) | omega⟩
            refine z_inc X (x := p) (lv' := [(7, .int (Int32.ofInt (p + 1))), (0, .ref (A 179)), (2, .ref q1), (3, .ref q2), (4, .ref q3), (1, .int (Int32.ofInt xv)), (5, .int (Int32.ofInt qq))]) rfl (by decide) (List.Mem.tail _ (List.Mem.tail _ (List.Mem.tail _ (List.Mem.tail _ (List.Mem.tail _ (List.Mem.tail _ (List.Mem.head _))))))) (fun _ h => h) (z_goto X (t := 276) rfl rfl (WS_pq [1, 2, 3, 4, 5, 6, 0] (lv' := [(0, .ref (A 179)), (2, .ref q1), (3, .ref q2), (4, .ref q3), (1, .int (Int32.ofInt xv)), (5, .int (Int32.ofInt qq)), (7, .int (Int32.ofInt (p + 1)))]) rfl ?_))
            exact ih _ xv qq (p + 1) Is5019 Fs5019 es5019 (mst_y3 hq (by first | (clear g5008 p1; omega) | (clear p1; omega) | omega) (by show _ < x; omega) (hbit.elim (fun z => z.2) (fun z => absurd z.1 (by first | (clear g5008 p1; omega) | (clear p1; omega) | omega))) hqe (Or.inl ⟨by first | (clear g5008 p1; omega) | (clear p1; omega) | omega, by first | (clear g5008 p1; omega) | (clear p1; omega) | omega⟩) (fun i j hi => g1 i j hi) (fun i j hi => g2 i j hi) (fun i j hi => g3 i j hi) (by first | (clear g5008 p1; omega) | (clear p1; omega) | omega) (by first | (clear g5008 p1; omega) | (clear p1; omega) | omega) aws5019_397) (by first | exact ⟨And.intro (hi.1.1) (And.intro (hi.1.2.1) (hi.1.2.2)), And.intro (hi.2.1.1) (hi.2.1.2), oq_54f49eb5 hi.2.2.1, oq_8a89b3ae g5003 hi.1.1⟩ | omega) (by first | exact qk_me hm (by decide) (oq_67fee7f6 g5003 hi.1.1 hi.1.2.2) | omega) kx
        ·
          refine z_goto X (t := 341) rfl rfl (z_inc X (x := p) (lv' := [(7, .int (Int32.ofInt (p + 1))), (0, .ref (A 179)), (2, .ref q1), (3, .ref q2), (4, .ref q3), (1, .int (Int32.ofInt xv)), (5, .int (Int32.ofInt qq))]) rfl (by decide) (List.Mem.tail _ (List.Mem.tail _ (List.Mem.tail _ (List.Mem.tail _ (List.Mem.tail _ (List.Mem.tail _ (List.Mem.head _))))))) (fun _ h => h) (z_goto X (t := 276) rfl rfl (WS_pq [1, 2, 3, 4, 5, 6, 0] (lv' := [(0, .ref (A 179)), (2, .ref q1), (3, .ref q2), (4, .ref q3), (1, .int (Int32.ofInt xv)), (5, .int (Int32.ofInt qq)), (7, .int (Int32.ofInt (p + 1)))]) rfl ?_)))
          exact ih _ xv qq (p + 1) I F jjEX (mst_n hq (by first | (clear p1; omega) | omega) (by show _ < x; omega) (hbit.elim (fun z => absurd z.1 (by first | (clear p1; omega) | omega)) (fun z => z.2))) (by first | exact ⟨And.intro (hi.1.1) (And.intro (hi.1.2.1) (hi.1.2.2)), And.intro (hi.2.1.1) (hi.2.1.2), oq_54f49eb5 hi.2.2.1, oq_8a89b3ae g5003 hi.1.1⟩ | omega) (by first | exact qk_me hm (by decide) (oq_67fee7f6 g5003 hi.1.1 hi.1.2.2) | omega) kx
  have L47 : ∀ (n : Nat) (t : PS) (xv qq : Int), Bd t → FmX [104] [397] s t → EXl (pX s) (dT 0) [(q1, 8), (q2, 8), (q3, 8)] t → (MRN (RDM s x) (pX s).length (qq : Int).toNat t) → ((xv = x ∧ 1 ≤ x ∧ x ≤ 8) ∧ 0 ≤ qq ∧ qq ≤ 24) → (24 - qq : Int).toNat < n → (∀ (t' : PS) (qq' : Int), Bd t' → FmX [104] [397] s t' → EXl (pX s) (dT 0) [(q1, 8), (q2, 8), (q3, 8)] t' → (MRN (RDM s x) (pX s).length (qq' : Int).toNat t') → (qq' = 24) → WS k 353 [(0, .ref (A 179)), (2, .ref q1), (3, .ref q2), (4, .ref q3), (1, .int (Int32.ofInt xv)), (5, .int (Int32.ofInt qq'))] [] (Wd A dT t') 3 24) → WS k 47 [(0, .ref (A 179)), (2, .ref q1), (3, .ref q2), (4, .ref q3), (1, .int (Int32.ofInt xv)), (5, .int (Int32.ofInt qq))] [] (Wd A dT t) 3 24 := by
    intro n
    induction n with
    | zero =>
      intro t xv qq I F jjEX hq hi hm kx
      exact absurd hm (Nat.not_lt_zero _)
    | succ n ih =>
      intro t xv qq I F jjEX hq hi hm kx
      have b6001 := bi_104 I
      have b6002 := bi_103 I
      refine z_load X (x := qq) rfl (List.Mem.tail _ (List.Mem.tail _ (List.Mem.tail _ (List.Mem.tail _ (List.Mem.tail _ (List.Mem.head _)))))) (z_bipush X rfl (z_icmp_ge X (t := 353) rfl rfl ⟨by first | exact oq_fa4e5087 hi.2.1 | omega, by first | exact oq_5bcd337f hi.2.2 | omega⟩ (by decide) (fun g6003 => ?_) (fun g6003 => ?_)))
      ·
        refine WS_pq [0, 1, 2, 3, 4, 5] (lv' := [(0, .ref (A 179)), (2, .ref q1), (3, .ref q2), (4, .ref q3), (1, .int (Int32.ofInt xv)), (5, .int (Int32.ofInt qq))]) rfl ?_
        exact kx _ qq I F jjEX hq (by first | exact oq_ea1742b3 hi.2.2 g6003 | omega)
      ·
        have hnb : 0 ≤ (RDM s x).nd (qq : Int).toNat ∧ (RDM s x).nd (qq : Int).toNat ≤ 8 := p1 (qq : Int).toNat (by first | (clear p1; omega) | omega)
        have hqe : qq = (((qq : Int).toNat : Nat) : Int) := by first | (clear p1; omega) | omega
        refine z_aload_n X (x := A 179) rfl (List.Mem.head _) (s_getR X 179 rfl (c518_ok rfl) rfl rfl (z_load X (x := qq) rfl (List.Mem.tail _ (List.Mem.tail _ (List.Mem.tail _ (List.Mem.tail _ (List.Mem.tail _ (List.Mem.head _)))))) (z_const X rfl (z_ast X 452 rfl (c518_ok rfl) rfl (by first | exact hi.2.1 | omega) (show qq < 24 by first | exact g6003 | omega) (cbig_ok rfl) (wd_gen (fun s6004 hs6004 => ?_))))))
        have Is6004 : Bd s6004 := eqB hs6004 (bd_C I (show (0 : Int) ≤ 0 ∧ 0 ≤ 255 by first | exact ⟨by decide, by decide⟩ | omega) (by decide))
        have Fs6004 := fx_C (i := (qq).toNat) (x := Int32.ofInt 0) F (show 397 ∈ _ by decide)
        rw [← hs6004] at Fs6004
        have ws6004_104 : iI s6004 104 = iI t 104 := eqI hs6004 rfl
        have ws6004_103 : iI s6004 103 = iI t 103 := eqI hs6004 rfl
        have aws6004_397 : UPD 397 (qq) 0 t s6004 := by rw [hs6004]; exact upd_put (sam_rf (a := 397) (s := t)) (by decide)
        have JEX_s6004 : EXl (pX s) (dT 0) [(q1, 8), (q2, 8), (q3, 8)] s6004 := by rw [hs6004]; exact jjEX
        have hM1 : MRN (RDM s x) (pX s).length (qq : Int).toNat s6004 := mrn_w hq (fun i j => by rw [hs6004]; rfl) (by first | (clear p1; omega) | omega) aws6004_397 hqe
        have hW1 : iC s6004 397 (qq : Int).toNat = 0 := aws6004_397.1
        refine z_aload_n X (x := A 179) rfl (List.Mem.head _) (s_getR X 179 rfl (c518_ok rfl) rfl rfl (z_load X (x := qq) rfl (List.Mem.tail _ (List.Mem.tail _ (List.Mem.tail _ (List.Mem.tail _ (List.Mem.tail _ (List.Mem.head _)))))) (z_ald X 451 rfl (c518_ok rfl) rfl (by first | exact hi.2.1 | omega) (show qq < 24 by first | exact g6003 | omega) (cbig_ok rfl) ?_)))
        have b6005 := bc_396 Is6004 (show (qq).toNat < 24 by first | exact oq_797efae6 g6003 | omega)
        have hnd : (iC s6004 396 (qq).toNat) = (RDM s x).nd (qq : Int).toNat := fx_c Fs6004 (by decide)
        refine z_store X (lv' := [(6, .int (Int32.ofInt (iC s6004 396 (qq).toNat))), (0, .ref (A 179)), (2, .ref q1), (3, .ref q2), (4, .ref q3), (1, .int (Int32.ofInt xv)), (5, .int (Int32.ofInt qq))]) rfl (by decide) (fun _ h => h) (z_const X rfl (z_store X (lv' := [(7, .int (Int32.ofInt 0)), (6, .int (Int32.ofInt (iC s6004 396 (qq).toNat))), (0, .ref (A 179)), (2, .ref q1), (3, .ref q2), (4, .ref q3), (1, .int (Int32.ofInt xv)), (5, .int (Int32.ofInt qq))]) rfl (by decide) (fun _ h => h) (WS_pq [2, 3, 4, 5, 6, 7, 1, 0] (lv' := [(0, .ref (A 179)), (2, .ref q1), (3, .ref q2), (4, .ref q3), (1, .int (Int32.ofInt xv)), (5, .int (Int32.ofInt qq)), (6, .int (Int32.ofInt (iC s6004 396 (qq).toNat))), (7, .int (Int32.ofInt 0))]) rfl (L74 ((2 - 0 : Int).toNat + 1) s6004 xv qq (iC s6004 396 (qq).toNat) 0 Is6004 Fs6004 JEX_s6004 ⟨hM1, (by have z := ps_0 (D := (RDM s x)) (q := (qq : Int).toNat) hW1; rw [← hnd] at z; exact z)⟩ (by first | exact ⟨And.intro (hi.1.1) (And.intro (hi.1.2.1) (hi.1.2.2)), And.intro (hi.2.1) (oq_c69fe266 g6003), And.intro (oq_e4757433 hnd hnb.1) (oq_86ef0b17 hnd hnb.2), by decide, by decide⟩ | omega) (Nat.lt_succ_self _) ?_))))
        intro s6006 x6007 x6008 Is6006 Fs6006 JEX_s6006 Qs6006 hs6006
        have b6009 := bi_104 Is6006
        have b6010 := bi_103 Is6006
        have hwt := Qs6006.1.2.1
        have hwb := ru_w (D := (RDM s x)) p1 (qq : Int).toNat (by first | (clear p1; omega) | omega)
        refine z_aload_n X (x := A 179) rfl (List.Mem.head _) (w_dup X.1 (ax_d X (show cdA 275 263 = some (.dup, 1, 0, 0, 0) from rfl)) rfl (z_getI X 179 rfl (c518_ok rfl) rfl rfl ?_))
        have b6011 := bi_104 Is6006
        refine z_load X (x := x6007) rfl (List.Mem.tail _ (List.Mem.tail _ (List.Mem.tail _ (List.Mem.tail _ (List.Mem.tail _ (List.Mem.tail _ (List.Mem.head _))))))) (z_add X rfl (s_putI X 179 rfl (c518_ok rfl) rfl rfl (by decide) rfl rfl rfl (wd_gen (fun s6012 hs6012 => ?_))))
        have Is6012 : Bd s6012 := eqB hs6012 (bd_I Is6006 (show ((-2147483648) : Int) ≤ ((iI s6006 104) + x6007) ∧ ((iI s6006 104) + x6007) ≤ 2147483647 by first | exact ⟨oq_d82b5a64 hs6006.2.2.1.1 b6011.1, by first | (clear p1; omega) | omega⟩ | omega) ⟨by first | exact oq_d82b5a64 hs6006.2.2.1.1 b6011.1 | omega, by first | (clear p1; omega) | omega⟩)
        have Fs6012 := fx_I (x := Int32.ofInt ((iI s6006 104) + x6007)) Fs6006 (show 104 ∈ _ by decide)
        rw [← hs6012] at Fs6012
        have vs6012 : iI s6012 104 = ((iI s6006 104) + x6007) := eqI hs6012 (iI_u ⟨by first | exact oq_d82b5a64 hs6006.2.2.1.1 b6011.1 | omega, by first | (clear p1; omega) | omega⟩)
        have ws6012_103 : iI s6012 103 = iI s6006 103 := eqI hs6012 rfl
        have JEX_s6012 : EXl (pX s) (dT 0) [(q1, 8), (q2, 8), (q3, 8)] s6012 := by rw [hs6012]; exact JEX_s6006
        refine z_const X rfl (z_store X (lv' := [(7, .int (Int32.ofInt 0)), (0, .ref (A 179)), (2, .ref q1), (3, .ref q2), (4, .ref q3), (1, .int (Int32.ofInt xv)), (5, .int (Int32.ofInt qq)), (6, .int (Int32.ofInt x6007))]) rfl (by decide) (fun _ h => h) (WS_pq [1, 2, 3, 4, 5, 6, 0] (lv' := [(0, .ref (A 179)), (2, .ref q1), (3, .ref q2), (4, .ref q3), (1, .int (Int32.ofInt xv)), (5, .int (Int32.ofInt qq)), (7, .int (Int32.ofInt 0))]) rfl (L276 ((8 - 0 : Int).toNat + 1) s6012 xv qq 0 Is6012 Fs6012 JEX_s6012 (mst_0 Qs6006.1 (by have z := Qs6006.2; rw [show x6008 = 2 by first | (clear p1; omega) | omega] at z; exact z) (by rw [hs6012]; rfl) (fun i j => by rw [hs6012]; rfl) (fun j => by rw [hs6012]; rfl) (by first | (clear p1; omega) | omega)) (by first | exact ⟨And.intro (hs6006.1.1) (And.intro (hs6006.1.2.1) (hs6006.1.2.2)), And.intro (hs6006.2.1.1) (hs6006.2.1.2), by decide, oq_2a6e3b50 hs6006.1.2.1⟩ | omega) (Nat.lt_succ_self _) ?_)))
        intro s6013 x6014 Is6013 Fs6013 JEX_s6013 Qs6013 hs6013
        have b6015 := bi_104 Is6013
        have b6016 := bi_103 Is6013
        refine z_inc X (x := qq) (lv' := [(5, .int (Int32.ofInt (qq + 1))), (0, .ref (A 179)), (2, .ref q1), (3, .ref q2), (4, .ref q3), (1, .int (Int32.ofInt xv)), (7, .int (Int32.ofInt x6014))]) rfl (by decide) (List.Mem.tail _ (List.Mem.tail _ (List.Mem.tail _ (List.Mem.tail _ (List.Mem.tail _ (List.Mem.head _)))))) (fun _ h => h) (z_goto X (t := 47) rfl rfl (WS_pq [1, 2, 3, 4, 5, 0] (lv' := [(0, .ref (A 179)), (2, .ref q1), (3, .ref q2), (4, .ref q3), (1, .int (Int32.ofInt xv)), (5, .int (Int32.ofInt (qq + 1)))]) rfl ?_))
        exact ih _ xv (qq + 1) Is6013 Fs6013 JEX_s6013 (by have z := mst_e Qs6013 (by show x6014 = x; omega); rw [show (qq : Int).toNat + 1 = (qq + 1).toNat by first | (clear p1; omega) | omega] at z; exact z) (by first | exact ⟨And.intro (hs6013.1.1) (And.intro (hs6013.1.2.1) (hs6013.1.2.2)), oq_54f49eb5 hs6013.2.1.1, oq_3d4d89a6 hs6013.2.1.2⟩ | omega) (by first | exact qk_me hm (by decide) (oq_fa9b5cb9 hs6013.2.1.2) | omega) kx
  refine z_const X rfl (z_store X (lv' := [(5, .int (Int32.ofInt 0)), (4, .ref q3), (3, .ref q2), (2, .ref q1), (0, .ref (A 179)), (1, .int (Int32.ofInt x))]) rfl (by decide) (fun _ h => h) (WS_pq [4, 3, 2, 1, 5, 0] (lv' := [(0, .ref (A 179)), (2, .ref q1), (3, .ref q2), (4, .ref q3), (1, .int (Int32.ofInt x)), (5, .int (Int32.ofInt 0))]) rfl (L19 ((8 - 0 : Int).toNat + 1) t0 x 0 It0 Ft0 eX0 ⟨hz0, fun p hp => absurd hp (by first | (clear p1; omega) | omega)⟩ (by first | exact ⟨And.intro (by decide) (And.intro (p0.1) (p0.2)), by decide, by decide⟩ | omega) (Nat.lt_succ_self _) ?_)))
  intro s3 x4 Is3 Fs3 JEX_s3 Qs3 hs3
  have b5 := bi_104 Is3
  have b6 := bi_103 Is3
  refine z_aload_n X (x := A 179) rfl (List.Mem.head _) (z_const X rfl (s_putI X 179 rfl (c518_ok rfl) rfl rfl (by decide) rfl rfl rfl (wd_gen (fun s7 hs7 => ?_))))
  have Is7 : Bd s7 := eqB hs7 (bd_I Is3 (show ((-2147483648) : Int) ≤ 0 ∧ 0 ≤ 2147483647 by first | exact ⟨by decide, by decide⟩ | omega) (by decide))
  have Fs7 := fx_I (x := Int32.ofInt 0) Fs3 (show 104 ∈ _ by decide)
  rw [← hs7] at Fs7
  have vs7 : iI s7 104 = 0 := eqI hs7 (iI_u (by decide))
  have ws7_103 : iI s7 103 = iI s3 103 := eqI hs7 rfl
  have JEX_s7 : EXl (pX s) (dT 0) [(q1, 8), (q2, 8), (q3, 8)] s7 := by rw [hs7]; exact JEX_s3
  have hF9 : FIL (pX s).length x4 s7 := fil_u Qs3 (fun i j => by rw [hs7]; rfl)
  refine z_const X rfl (z_store X (lv' := [(5, .int (Int32.ofInt 0)), (0, .ref (A 179)), (2, .ref q1), (3, .ref q2), (4, .ref q3), (1, .int (Int32.ofInt x))]) rfl (by decide) (fun _ h => h) (WS_pq [1, 2, 3, 4, 5, 0] (lv' := [(0, .ref (A 179)), (2, .ref q1), (3, .ref q2), (4, .ref q3), (1, .int (Int32.ofInt x)), (5, .int (Int32.ofInt 0))]) rfl (L47 ((24 - 0 : Int).toNat + 1) s7 x 0 Is7 Fs7 JEX_s7 (mrn_0 hF9 (by first | (clear p1; omega) | omega) (by first | (clear p1; omega) | omega)) (by first | exact ⟨And.intro (by decide) (And.intro (hs3.1.2.1) (hs3.1.2.2)), by decide, by decide⟩ | omega) (Nat.lt_succ_self _) ?_)))
  intro s8 x9 Is8 Fs8 JEX_s8 Qs8 hs8
  have b10 := bi_104 Is8
  have b11 := bi_103 Is8
  refine ws_forget JEX_s8 ?_
  exact w_vret X.1 q hRt (ax_d X (show cdA 275 353 = some (.return_, 1, 0, 0, 0) from rfl)) (by decide) (by decide) ⟨_, rfl, Is8, fx_end Fs8, rfl, (show MRE (RDM s x) s8 from mrn_e Qs8 (show (x9 : Int).toNat = 24 by first | (clear p1; omega) | omega))⟩
set_option maxRecDepth 4000 in
theorem k_rota7 (G : GX l s0 D tys a0 dT) {U : AirD} {Jn : List Int → Prop} (I : Bd s) (jRLx : RLx s) (jMDJ : MDJ U s) (jMJJ : MJJ Jn s) {x y z : Int} (p0 : rng x) (p1 : rng y) (p2 : rng z) (p3 : iI s 89 = 1) : CT l s0 D A dT 276 (rmN 276) [.ref (A 179), .int (Int32.ofInt x), .int (Int32.ofInt y), .int (Int32.ofInt z)] s (fun o t => Bd t ∧ Fm [73, 89, 104, 77, 75, 78, 79, 80, 81] [161, 202, 203, 204, 205, 206, 207, 208, 209, 210, 211, 212, 213, 214, 215, 216, 217, 218, 219, 220, 221, 222, 223, 224, 225, 226, 227, 230, 395, 396, 245, 246, 247, 248, 249, 250, 251, 252, 253, 254, 255, 256, 257, 258, 259, 260, 261, 262, 263, 264, 265, 266, 267, 268, 269, 270, 271, 272, 273, 274, 275, 276, 277, 278, 279, 280, 281, 282, 283, 284, 285, 286, 287, 288, 289, 290, 291, 292, 293, 294, 295, 296, 297, 298, 299, 300, 301, 302, 303, 304, 305, 306, 307, 308, 309, 310, 311, 312, 313, 314, 315, 316, 317, 318, 319, 320, 321, 322, 323, 324, 325, 326, 327, 328, 329, 330, 331, 332, 333, 334, 335, 336, 337, 338, 339, 340, 341, 342, 343, 344, 345, 346, 347, 348, 349, 350, 351, 352, 353, 354, 355, 356, 357, 358, 359, 360, 361, 362, 363, 364, 365, 366, 367, 368, 369, 370, 371, 372, 373, 374, 375, 376, 377, 378, 379, 380, 381, 382, 383, 384, 385, 386, 387, 388, 389, 390, 391, 392, 393, 394, 397] s t ∧ RLx t ∧ ∃ e, o = .inl (some (.int (Int32.ofInt e))) ∧ rng e ∧ (((1 ≤ x ∧ x ≤ 8) ∧ (0 ≤ y ∧ y ≤ 23) ∧ (0 ≤ z ∧ z ≤ 23) ∧ iI t 73 = 0 ∧ iI t 89 = 1 ∧ RTA (QD U Jn (iI s 99) (iI s 96) (fun j => iC s 237 j) (pfM s) (fun j => iC s 229 j)) (y : Int).toNat x (iI s 102) (iI s 103) (fun p => iC s 398 p) (z : Int).toNat e) ∨ ((x < 1 ∨ 8 < x ∨ y < 0 ∨ 23 < y ∨ z < 0 ∨ 23 < z) ∧ iI t 73 = 1 ∧ iI t 89 = 1))) := by
  refine ct_of G (by decide) (Nat.le_of_ble_eq_true rfl) (fun k X E hRt hXt q => ?_)
  show WS k 0 [(0, .ref (A 179)), (1, .int (Int32.ofInt x)), (2, .int (Int32.ofInt y)), (3, .int (Int32.ofInt z))] [] _ 0 0
  have F : Fm [73, 89, 104, 77, 75, 78, 79, 80, 81] [161, 202, 203, 204, 205, 206, 207, 208, 209, 210, 211, 212, 213, 214, 215, 216, 217, 218, 219, 220, 221, 222, 223, 224, 225, 226, 227, 230, 395, 396, 245, 246, 247, 248, 249, 250, 251, 252, 253, 254, 255, 256, 257, 258, 259, 260, 261, 262, 263, 264, 265, 266, 267, 268, 269, 270, 271, 272, 273, 274, 275, 276, 277, 278, 279, 280, 281, 282, 283, 284, 285, 286, 287, 288, 289, 290, 291, 292, 293, 294, 295, 296, 297, 298, 299, 300, 301, 302, 303, 304, 305, 306, 307, 308, 309, 310, 311, 312, 313, 314, 315, 316, 317, 318, 319, 320, 321, 322, 323, 324, 325, 326, 327, 328, 329, 330, 331, 332, 333, 334, 335, 336, 337, 338, 339, 340, 341, 342, 343, 344, 345, 346, 347, 348, 349, 350, 351, 352, 353, 354, 355, 356, 357, 358, 359, 360, 361, 362, 363, 364, 365, 366, 367, 368, 369, 370, 371, 372, 373, 374, 375, 376, 377, 378, 379, 380, 381, 382, 383, 384, 385, 386, 387, 388, 389, 390, 391, 392, 393, 394, 397] s s := fm_rf _ _ s
  have b1 := bi_73 I
  have b2 := bi_99 I
  have b3 := bi_89 I
  have b4 := bi_96 I
  have b5 := bi_104 I
  refine z_aload_n X (x := A 179) rfl (List.Mem.head _) (z_const X rfl (s_putI X 179 rfl (c518_ok rfl) rfl rfl (by decide) rfl rfl rfl (wd_gen (fun s6 hs6 => ?_))))
  have Is6 : Bd s6 := eqB hs6 (bd_I I (show (0 : Int) ≤ 0 ∧ 0 ≤ 3 by first | exact ⟨by decide, by decide⟩ | omega) (by decide))
  have Fs6 := eqF hs6 (fm_I F (inl_ok (a := 73) rfl))
  have vs6 : iI s6 73 = 0 := eqI hs6 (iI_u (by decide))
  have ws6_99 : iI s6 99 = iI s 99 := eqI hs6 rfl
  have ws6_89 : iI s6 89 = iI s 89 := eqI hs6 rfl
  have ws6_96 : iI s6 96 = iI s 96 := eqI hs6 rfl
  have ws6_104 : iI s6 104 = iI s 104 := eqI hs6 rfl
  have fs6 : Fm [73] [] s s6 := by rw [hs6]; exact fm_I (fm_rf _ _ _) (show 73 ∈ _ by decide)
  have JRLx_s6 : RLx s6 := RLx_fm fs6 (by decide) jRLx
  have JMDJ_s6 : MDJ U s6 := MDJ_fm fs6 (by decide) jMDJ
  have JMJJ_s6 : MJJ Jn s6 := MJJ_fm fs6 (by decide) jMJJ
  refine z_aload_n X (x := A 179) rfl (List.Mem.head _) (z_load_n X (x := x) rfl (List.Mem.tail _ (List.Mem.head _)) (z_const X rfl (z_bipush X rfl (z_callS X (rm := rmN 188) (As := [.int (Int32.ofInt x), .int (Int32.ofInt 1), .int (Int32.ofInt 8)]) (st := [.ref (A 179)]) rfl rfl (by rw [E.1, E.2.1, E.2.2.1]; exact k_in2 G Is6 (by first | exact ⟨p0.1, p0.2⟩ | omega) (by first | exact ⟨by decide, by decide⟩ | omega) (by first | exact ⟨by decide, by decide⟩ | omega)) ⟨by rw [E.2.2.2]; exact (show (rmN 188).frames + 1 ≤ (rmN 276).frames by decide), by rw [E.2.2.2]; exact (show 8 + (mNL (miB 188) + 11) + (rmN 188).locals ≤ (rmN 276).locals by decide), by rw [E.2.2.2]; exact (show 0 + (rmN 188).cells ≤ (rmN 276).cells by decide), by rw [E.2.2.2]; exact (show 0 + (rmN 188).slots ≤ (rmN 276).slots by decide)⟩ (Nat.le_of_ble_eq_true rfl) (fun vv s7 hq => ?_) (fun ee s7 hq => ?_)))))
  rotate_left
  · obtain ⟨rfl, e8, hv, hrs7, hps7⟩ := hq; cases hv
  obtain ⟨rfl, e8, hv, hrs7, hps7⟩ := hq
  cases hv
  show WS k 13 [(0, .ref (A 179)), (1, .int (Int32.ofInt x)), (2, .int (Int32.ofInt y)), (3, .int (Int32.ofInt z))] [.int (Int32.ofInt e8), .ref (A 179)] (Wd A dT s6) 0 0
  refine z_if_eq X (t := 36) rfl rfl hrs7 (fun g9 => ?_) (fun g9 => ?_)
  ·
    refine z_const X rfl (z_goto X (t := 41) rfl rfl (z_const X rfl (zcV_i0 X E 179 (As := [.int (Int32.ofInt 1), .int (Int32.ofInt 1)]) (st := []) rfl rfl rfl rfl (k_bad2 G Is6 (by first | exact Or.inr (by decide) | omega) (by first | exact ⟨by decide, by decide⟩ | omega)) rfl (Nat.le_of_ble_eq_true rfl) (fun s10 e11 Is10 Fs10 hrs10 hps10 => ?_))))
    have Gs10 := fm_tq Fs6 Fs10 rfl rfl
    have JRLx_s10 : RLx s10 := RLx_fm Fs10 (by decide) JRLx_s6
    have JMDJ_s10 : MDJ U s10 := MDJ_fm Fs10 (by decide) JMDJ_s6
    have JMJJ_s10 : MJJ Jn s10 := MJJ_fm Fs10 (by decide) JMJJ_s6
    have b12 := bi_73 Is10
    have ws10_99 : iI s10 99 = iI s6 99 := fm_iq Fs10 rfl
    have ws10_89 : iI s10 89 = iI s6 89 := fm_iq Fs10 rfl
    have ws10_96 : iI s10 96 = iI s6 96 := fm_iq Fs10 rfl
    have ws10_104 : iI s10 104 = iI s6 104 := fm_iq Fs10 rfl
    refine z_if_eq X (t := 50) rfl rfl hrs10 (fun g13 => ?_) (fun g13 => ?_)
    ·
      refine z_aload_n X (x := A 179) rfl (List.Mem.head _) (z_load_n X (x := y) rfl (List.Mem.tail _ (List.Mem.tail _ (List.Mem.head _))) (zcV_i1 X E 179 (As := [.int (Int32.ofInt y)]) (st := []) rfl rfl rfl rfl (k_findPlan7 G Is10 JRLx_s10 JMDJ_s10 JMJJ_s10 (by first | exact ⟨oq_674898f9 g13 hps10 vs6, oq_48516caf g13 hps10 vs6⟩ | omega) (by first | exact oq_f34933ba ws10_89 ws6_89 p3 b3.1 | omega)) rfl (Nat.le_of_ble_eq_true rfl) (fun s14 e15 Is14 Fs14 JRLx_s14 hrs14 hps14 => ?_)))
      have hps14p := And.intro hps14.2.1 (hps14.2.2)
      have Gs14 := fm_ts Gs10 Fs14 (by decide) (by decide +kernel)
      have JRLx_s14 : RLx s14 := RLx_fm Fs14 (by decide) JRLx_s10
      have JMDJ_s14 : MDJ U s14 := MDJ_fm Fs14 (by decide) JMDJ_s10
      have JMJJ_s14 : MJJ Jn s14 := MJJ_fm Fs14 (by decide) JMJJ_s10
      have ws14_73 : iI s14 73 = iI s10 73 := fm_iq Fs14 rfl
      have ws14_99 : iI s14 99 = iI s10 99 := fm_iq Fs14 rfl
      have b16 := bi_89 Is14
      have ws14_96 : iI s14 96 = iI s10 96 := fm_iq Fs14 rfl
      have ws14_104 : iI s14 104 = iI s10 104 := fm_iq Fs14 rfl
      have eQ : (QD U Jn (iI s10 99) (iI s10 96) (fun j => iC s10 237 j) (pfM s10) (fun j => iC s10 229 j)) = (QD U Jn (iI s 99) (iI s 96) (fun j => iC s 237 j) (pfM s) (fun j => iC s 229 j)) := qd_c (by first | (clear hps14 hps10 hps7; omega) | (clear hps10 hps7; omega) | omega) (by first | (clear hps14 hps10 hps7; omega) | (clear hps10 hps7; omega) | omega) (fun j _ => fm_c Gs10 (by decide)) (fun j _ => fm_c Gs10 (by decide)) (fun j _ => fm_c Gs10 (by decide))
      have hj := hps14
      rw [eQ] at hj
      refine z_if_ne X (t := 60) rfl rfl hrs14 (fun g17 => ?_) (fun g17 => ?_)
      ·
        refine z_aload_n X (x := A 179) rfl (List.Mem.head _) (z_load_n X (x := x) rfl (List.Mem.tail _ (List.Mem.head _)) (z_callV X 179 (rm := rmN 275) (As := [.int (Int32.ofInt x)]) (st := []) rfl rfl (by decide) rfl (by rw [E.1, E.2.1, E.2.2.1]; exact k_findRota7 G Is14 (by first | exact ⟨oq_9b39ac49 g13 hps10 vs6, oq_e5a72ab8 g13 hps10 vs6⟩ | omega) ((nde_r (nde_m hj.2.2 (by first | (clear g17 hps14 hps10 hps7; omega) | (clear hps14 hps10 hps7; omega) | omega)) qd_n))) ⟨by rw [E.2.2.2]; exact (show (rmN 275).frames + 1 ≤ (rmN 276).frames by decide), by rw [E.2.2.2]; exact (show 8 + (mNL (miB 275) + 11) + (rmN 275).locals ≤ (rmN 276).locals by decide), by rw [E.2.2.2]; exact (show 0 + 3 ≤ 3 by decide), by rw [E.2.2.2]; exact (show 0 + 24 ≤ 24 by decide)⟩ (Nat.le_of_ble_eq_true rfl) (fun vv s18 hq => ?_) (fun ee s18 hq => ?_)))
        rotate_left
        · obtain ⟨Is18, Fs18, hv, hps18⟩ := hq; cases hv
        obtain ⟨Is18, Fs18, hv, hps18⟩ := hq
        cases hv
        have Gs18 := fm_tq Gs14 Fs18 rfl rfl
        have JRLx_s18 : RLx s18 := RLx_fm Fs18 (by decide) JRLx_s14
        have JMDJ_s18 : MDJ U s18 := MDJ_fm Fs18 (by decide) JMDJ_s14
        have JMJJ_s18 : MJJ Jn s18 := MJJ_fm Fs18 (by decide) JMJJ_s14
        have ws18_73 : iI s18 73 = iI s14 73 := fm_iq Fs18 rfl
        have ws18_99 : iI s18 99 = iI s14 99 := fm_iq Fs18 rfl
        have ws18_89 : iI s18 89 = iI s14 89 := fm_iq Fs18 rfl
        have ws18_96 : iI s18 96 = iI s14 96 := fm_iq Fs18 rfl
        have b20 := bi_104 Is18
        show WS k 65 [(0, .ref (A 179)), (1, .int (Int32.ofInt x)), (2, .int (Int32.ofInt y)), (3, .int (Int32.ofInt z))] [] (Wd A dT s18) 3 24
        refine z_aload_n X (x := A 179) rfl (List.Mem.head _) (s_getR X 179 rfl (c518_ok rfl) rfl rfl (z_load_n X (x := z) rfl (List.Mem.tail _ (List.Mem.tail _ (List.Mem.tail _ (List.Mem.head _)))) (z_ald X 452 rfl (c518_ok rfl) rfl (by first | exact oq_674898f9 g13 hps10 vs6 | omega) (show z < 24 by first | exact oq_43137565 g13 hps10 vs6 | omega) (cbig_ok rfl) ?_)))
        have b21 := bc_397 Is18 (show (z).toNat < 24 by first | exact oq_a80f8023 g13 hps10 vs6 | omega)
        exact w_iret X.1 q hRt rfl (ax_d X (show cdA 276 71 = some (.ireturn, 1, 0, 0, 0) from rfl)) (show 3 ≤ 3 by decide) (show 24 ≤ 24 by decide) ⟨_, rfl, Is18, Gs18, JRLx_s18, (iC s18 397 (z).toNat), rfl, (rng_to _), Or.inl ⟨by first | exact ⟨oq_9b39ac49 g13 hps10 vs6, oq_e5a72ab8 g13 hps10 vs6⟩ | omega, by first | exact ⟨oq_674898f9 g13 hps10 vs6, oq_48516caf g13 hps10 vs6⟩ | omega, by first | exact ⟨oq_674898f9 g13 hps10 vs6, oq_48516caf g13 hps10 vs6⟩ | omega, by first | exact oq_300138af ws18_73 ws14_73 g13 b12.1 hps10 vs6 | omega, by first | exact oq_f2ff104a g13 hps10 vs6 | omega, rta_m hj.2.2 (by first | (clear g17 hps14 hps10 hps7; omega) | (clear hps14 hps10 hps7; omega) | omega) hps18 (show iI s14 102 = iI s 102 from fm_i Gs14 (by decide)) (show iI s14 103 = iI s 103 from fm_i Gs14 (by decide)) (fun p => show iC s14 398 p = iC s 398 p from fm_c Gs14 (by decide)) (by first | (clear g17 hps14 hps10 hps7; omega) | (clear hps14 hps10 hps7; omega) | omega) rfl⟩⟩
      ·
        refine z_const X rfl ?_
        exact w_iret X.1 q hRt rfl (ax_d X (show cdA 276 59 = some (.ireturn, 1, 0, 0, 0) from rfl)) (Nat.zero_le _) (Nat.zero_le _) ⟨_, rfl, Is14, Gs14, JRLx_s14, (-1), rfl, (by decide), Or.inl ⟨by first | exact ⟨oq_9b39ac49 g13 hps10 vs6, oq_e5a72ab8 g13 hps10 vs6⟩ | omega, by first | exact ⟨oq_674898f9 g13 hps10 vs6, oq_48516caf g13 hps10 vs6⟩ | omega, by first | exact ⟨oq_674898f9 g13 hps10 vs6, oq_48516caf g13 hps10 vs6⟩ | omega, by first | exact oq_8c407924 ws14_73 g13 b12.1 hps10 vs6 | omega, by first | exact oq_f2ff104a g13 hps10 vs6 | omega, Or.inl ⟨rfl, plt_no hj.2.2 (by first | (clear hps14 hps10 hps7; omega) | (clear hps10 hps7; omega) | omega)⟩⟩⟩
    ·
      refine z_const X rfl ?_
      exact w_iret X.1 q hRt rfl (ax_d X (show cdA 276 49 = some (.ireturn, 1, 0, 0, 0) from rfl)) (Nat.zero_le _) (Nat.zero_le _) ⟨_, rfl, Is10, Gs10, JRLx_s10, 0, rfl, (by decide), Or.inr ⟨by first | exact oq_1f063acf g9 hps7 | omega, by first | exact oq_faabd673 g13 hps10 vs6 | omega, by first | exact oq_f34933ba ws10_89 ws6_89 p3 b3.1 | omega⟩⟩
  ·
    refine z_load_n X (x := y) rfl (List.Mem.tail _ (List.Mem.tail _ (List.Mem.head _))) (z_const X rfl (z_bipush X rfl (z_callS X (rm := rmN 188) (As := [.int (Int32.ofInt y), .int (Int32.ofInt 0), .int (Int32.ofInt 23)]) (st := [.ref (A 179)]) rfl rfl (by rw [E.1, E.2.1, E.2.2.1]; exact k_in2 G Is6 (by first | exact ⟨p1.1, p1.2⟩ | omega) (by first | exact ⟨by decide, by decide⟩ | omega) (by first | exact ⟨by decide, by decide⟩ | omega)) ⟨by rw [E.2.2.2]; exact (show (rmN 188).frames + 1 ≤ (rmN 276).frames by decide), by rw [E.2.2.2]; exact (show 8 + (mNL (miB 188) + 11) + (rmN 188).locals ≤ (rmN 276).locals by decide), by rw [E.2.2.2]; exact (show 0 + (rmN 188).cells ≤ (rmN 276).cells by decide), by rw [E.2.2.2]; exact (show 0 + (rmN 188).slots ≤ (rmN 276).slots by decide)⟩ (Nat.le_of_ble_eq_true rfl) (fun vv s22 hq => ?_) (fun ee s22 hq => ?_))))
    rotate_left
    · obtain ⟨rfl, e23, hv, hrs22, hps22⟩ := hq; cases hv
    obtain ⟨rfl, e23, hv, hrs22, hps22⟩ := hq
    cases hv
    show WS k 23 [(0, .ref (A 179)), (1, .int (Int32.ofInt x)), (2, .int (Int32.ofInt y)), (3, .int (Int32.ofInt z))] [.int (Int32.ofInt e23), .ref (A 179)] (Wd A dT s6) 0 0
    refine z_if_eq X (t := 36) rfl rfl hrs22 (fun g24 => ?_) (fun g24 => ?_)
    ·
      refine z_const X rfl (z_goto X (t := 41) rfl rfl (z_const X rfl (zcV_i0 X E 179 (As := [.int (Int32.ofInt 1), .int (Int32.ofInt 1)]) (st := []) rfl rfl rfl rfl (k_bad2 G Is6 (by first | exact Or.inr (by decide) | omega) (by first | exact ⟨by decide, by decide⟩ | omega)) rfl (Nat.le_of_ble_eq_true rfl) (fun s25 e26 Is25 Fs25 hrs25 hps25 => ?_))))
      have Gs25 := fm_tq Fs6 Fs25 rfl rfl
      have JRLx_s25 : RLx s25 := RLx_fm Fs25 (by decide) JRLx_s6
      have JMDJ_s25 : MDJ U s25 := MDJ_fm Fs25 (by decide) JMDJ_s6
      have JMJJ_s25 : MJJ Jn s25 := MJJ_fm Fs25 (by decide) JMJJ_s6
      have b27 := bi_73 Is25
      have ws25_99 : iI s25 99 = iI s6 99 := fm_iq Fs25 rfl
      have ws25_89 : iI s25 89 = iI s6 89 := fm_iq Fs25 rfl
      have ws25_96 : iI s25 96 = iI s6 96 := fm_iq Fs25 rfl
      have ws25_104 : iI s25 104 = iI s6 104 := fm_iq Fs25 rfl
      refine z_if_eq X (t := 50) rfl rfl hrs25 (fun g28 => ?_) (fun g28 => ?_)
      ·
        refine z_aload_n X (x := A 179) rfl (List.Mem.head _) (z_load_n X (x := y) rfl (List.Mem.tail _ (List.Mem.tail _ (List.Mem.head _))) (zcV_i1 X E 179 (As := [.int (Int32.ofInt y)]) (st := []) rfl rfl rfl rfl (k_findPlan7 G Is25 JRLx_s25 JMDJ_s25 JMJJ_s25 (by first | exact ⟨oq_674898f9 g28 hps25 vs6, oq_48516caf g28 hps25 vs6⟩ | omega) (by first | exact oq_f34933ba ws25_89 ws6_89 p3 b3.1 | omega)) rfl (Nat.le_of_ble_eq_true rfl) (fun s29 e30 Is29 Fs29 JRLx_s29 hrs29 hps29 => ?_)))
        have hps29p := And.intro hps29.2.1 (hps29.2.2)
        have Gs29 := fm_ts Gs25 Fs29 (by decide) (by decide +kernel)
        have JRLx_s29 : RLx s29 := RLx_fm Fs29 (by decide) JRLx_s25
        have JMDJ_s29 : MDJ U s29 := MDJ_fm Fs29 (by decide) JMDJ_s25
        have JMJJ_s29 : MJJ Jn s29 := MJJ_fm Fs29 (by decide) JMJJ_s25
        have ws29_73 : iI s29 73 = iI s25 73 := fm_iq Fs29 rfl
        have ws29_99 : iI s29 99 = iI s25 99 := fm_iq Fs29 rfl
        have b31 := bi_89 Is29
        have ws29_96 : iI s29 96 = iI s25 96 := fm_iq Fs29 rfl
        have ws29_104 : iI s29 104 = iI s25 104 := fm_iq Fs29 rfl
        have eQ : (QD U Jn (iI s25 99) (iI s25 96) (fun j => iC s25 237 j) (pfM s25) (fun j => iC s25 229 j)) = (QD U Jn (iI s 99) (iI s 96) (fun j => iC s 237 j) (pfM s) (fun j => iC s 229 j)) := qd_c (by first | (clear hps29 hps25 hps22 g9 hps7; omega) | (clear hps25 hps22 g9 hps7; omega) | omega) (by first | (clear hps29 hps25 hps22 g9 hps7; omega) | (clear hps25 hps22 g9 hps7; omega) | omega) (fun j _ => fm_c Gs25 (by decide)) (fun j _ => fm_c Gs25 (by decide)) (fun j _ => fm_c Gs25 (by decide))
        have hj := hps29
        rw [eQ] at hj
        refine z_if_ne X (t := 60) rfl rfl hrs29 (fun g32 => ?_) (fun g32 => ?_)
        ·
          refine z_aload_n X (x := A 179) rfl (List.Mem.head _) (z_load_n X (x := x) rfl (List.Mem.tail _ (List.Mem.head _)) (z_callV X 179 (rm := rmN 275) (As := [.int (Int32.ofInt x)]) (st := []) rfl rfl (by decide) rfl (by rw [E.1, E.2.1, E.2.2.1]; exact k_findRota7 G Is29 (by first | exact ⟨oq_fcd95e52 g9 hps7, oq_7e545af9 g9 hps7⟩ | omega) ((nde_r (nde_m hj.2.2 (by first | (clear g32 hps29 hps25 hps22 g9 hps7; omega) | (clear hps29 hps25 hps22 g9 hps7; omega) | omega)) qd_n))) ⟨by rw [E.2.2.2]; exact (show (rmN 275).frames + 1 ≤ (rmN 276).frames by decide), by rw [E.2.2.2]; exact (show 8 + (mNL (miB 275) + 11) + (rmN 275).locals ≤ (rmN 276).locals by decide), by rw [E.2.2.2]; exact (show 0 + 3 ≤ 3 by decide), by rw [E.2.2.2]; exact (show 0 + 24 ≤ 24 by decide)⟩ (Nat.le_of_ble_eq_true rfl) (fun vv s33 hq => ?_) (fun ee s33 hq => ?_)))
          rotate_left
          · obtain ⟨Is33, Fs33, hv, hps33⟩ := hq; cases hv
          obtain ⟨Is33, Fs33, hv, hps33⟩ := hq
          cases hv
          have Gs33 := fm_tq Gs29 Fs33 rfl rfl
          have JRLx_s33 : RLx s33 := RLx_fm Fs33 (by decide) JRLx_s29
          have JMDJ_s33 : MDJ U s33 := MDJ_fm Fs33 (by decide) JMDJ_s29
          have JMJJ_s33 : MJJ Jn s33 := MJJ_fm Fs33 (by decide) JMJJ_s29
          have ws33_73 : iI s33 73 = iI s29 73 := fm_iq Fs33 rfl
          have ws33_99 : iI s33 99 = iI s29 99 := fm_iq Fs33 rfl
          have ws33_89 : iI s33 89 = iI s29 89 := fm_iq Fs33 rfl
          have ws33_96 : iI s33 96 = iI s29 96 := fm_iq Fs33 rfl
          have b35 := bi_104 Is33
          show WS k 65 [(0, .ref (A 179)), (1, .int (Int32.ofInt x)), (2, .int (Int32.ofInt y)), (3, .int (Int32.ofInt z))] [] (Wd A dT s33) 3 24
          refine z_aload_n X (x := A 179) rfl (List.Mem.head _) (s_getR X 179 rfl (c518_ok rfl) rfl rfl (z_load_n X (x := z) rfl (List.Mem.tail _ (List.Mem.tail _ (List.Mem.tail _ (List.Mem.head _)))) (z_ald X 452 rfl (c518_ok rfl) rfl (by first | exact oq_674898f9 g28 hps25 vs6 | omega) (show z < 24 by first | exact oq_43137565 g28 hps25 vs6 | omega) (cbig_ok rfl) ?_)))
          have b36 := bc_397 Is33 (show (z).toNat < 24 by first | exact oq_a80f8023 g28 hps25 vs6 | omega)
          exact w_iret X.1 q hRt rfl (ax_d X (show cdA 276 71 = some (.ireturn, 1, 0, 0, 0) from rfl)) (show 3 ≤ 3 by decide) (show 24 ≤ 24 by decide) ⟨_, rfl, Is33, Gs33, JRLx_s33, (iC s33 397 (z).toNat), rfl, (rng_to _), Or.inl ⟨by first | exact ⟨oq_fcd95e52 g9 hps7, oq_7e545af9 g9 hps7⟩ | omega, by first | exact ⟨oq_674898f9 g28 hps25 vs6, oq_48516caf g28 hps25 vs6⟩ | omega, by first | exact ⟨oq_674898f9 g28 hps25 vs6, oq_48516caf g28 hps25 vs6⟩ | omega, by first | exact oq_300138af ws33_73 ws29_73 g28 b27.1 hps25 vs6 | omega, by first | exact oq_f2ff104a g28 hps25 vs6 | omega, rta_m hj.2.2 (by first | (clear g32 hps29 hps25 hps22 g9 hps7; omega) | (clear hps29 hps25 hps22 g9 hps7; omega) | omega) hps33 (show iI s29 102 = iI s 102 from fm_i Gs29 (by decide)) (show iI s29 103 = iI s 103 from fm_i Gs29 (by decide)) (fun p => show iC s29 398 p = iC s 398 p from fm_c Gs29 (by decide)) (by first | (clear g32 hps29 hps25 hps22 g9 hps7; omega) | (clear hps29 hps25 hps22 g9 hps7; omega) | omega) rfl⟩⟩
        ·
          refine z_const X rfl ?_
          exact w_iret X.1 q hRt rfl (ax_d X (show cdA 276 59 = some (.ireturn, 1, 0, 0, 0) from rfl)) (Nat.zero_le _) (Nat.zero_le _) ⟨_, rfl, Is29, Gs29, JRLx_s29, (-1), rfl, (by decide), Or.inl ⟨by first | exact ⟨oq_fcd95e52 g9 hps7, oq_7e545af9 g9 hps7⟩ | omega, by first | exact ⟨oq_674898f9 g28 hps25 vs6, oq_48516caf g28 hps25 vs6⟩ | omega, by first | exact ⟨oq_674898f9 g28 hps25 vs6, oq_48516caf g28 hps25 vs6⟩ | omega, by first | exact oq_8c407924 ws29_73 g28 b27.1 hps25 vs6 | omega, by first | exact oq_f2ff104a g28 hps25 vs6 | omega, Or.inl ⟨rfl, plt_no hj.2.2 (by first | (clear hps29 hps25 hps22 g9 hps7; omega) | (clear hps25 hps22 g9 hps7; omega) | omega)⟩⟩⟩
      ·
        refine z_const X rfl ?_
        exact w_iret X.1 q hRt rfl (ax_d X (show cdA 276 49 = some (.ireturn, 1, 0, 0, 0) from rfl)) (Nat.zero_le _) (Nat.zero_le _) ⟨_, rfl, Is25, Gs25, JRLx_s25, 0, rfl, (by decide), Or.inr ⟨by first | exact oq_97b9d87d g24 hps22 | omega, by first | exact oq_faabd673 g28 hps25 vs6 | omega, by first | exact oq_f34933ba ws25_89 ws6_89 p3 b3.1 | omega⟩⟩
    ·
      refine z_load_n X (x := z) rfl (List.Mem.tail _ (List.Mem.tail _ (List.Mem.tail _ (List.Mem.head _)))) (z_const X rfl (z_bipush X rfl (z_callS X (rm := rmN 188) (As := [.int (Int32.ofInt z), .int (Int32.ofInt 0), .int (Int32.ofInt 23)]) (st := [.ref (A 179)]) rfl rfl (by rw [E.1, E.2.1, E.2.2.1]; exact k_in2 G Is6 (by first | exact ⟨p2.1, p2.2⟩ | omega) (by first | exact ⟨by decide, by decide⟩ | omega) (by first | exact ⟨by decide, by decide⟩ | omega)) ⟨by rw [E.2.2.2]; exact (show (rmN 188).frames + 1 ≤ (rmN 276).frames by decide), by rw [E.2.2.2]; exact (show 8 + (mNL (miB 188) + 11) + (rmN 188).locals ≤ (rmN 276).locals by decide), by rw [E.2.2.2]; exact (show 0 + (rmN 188).cells ≤ (rmN 276).cells by decide), by rw [E.2.2.2]; exact (show 0 + (rmN 188).slots ≤ (rmN 276).slots by decide)⟩ (Nat.le_of_ble_eq_true rfl) (fun vv s37 hq => ?_) (fun ee s37 hq => ?_))))
      rotate_left
      · obtain ⟨rfl, e38, hv, hrs37, hps37⟩ := hq; cases hv
      obtain ⟨rfl, e38, hv, hrs37, hps37⟩ := hq
      cases hv
      show WS k 33 [(0, .ref (A 179)), (1, .int (Int32.ofInt x)), (2, .int (Int32.ofInt y)), (3, .int (Int32.ofInt z))] [.int (Int32.ofInt e38), .ref (A 179)] (Wd A dT s6) 0 0
      refine z_if_ne X (t := 40) rfl rfl hrs37 (fun g39 => ?_) (fun g39 => ?_)
      ·
        refine z_const X rfl (z_const X rfl (zcV_i0 X E 179 (As := [.int (Int32.ofInt 0), .int (Int32.ofInt 1)]) (st := []) rfl rfl rfl rfl (k_bad2 G Is6 (by first | exact Or.inl (by decide) | omega) (by first | exact ⟨by decide, by decide⟩ | omega)) rfl (Nat.le_of_ble_eq_true rfl) (fun s40 e41 Is40 Fs40 hrs40 hps40 => ?_)))
        have Gs40 := fm_tq Fs6 Fs40 rfl rfl
        have JRLx_s40 : RLx s40 := RLx_fm Fs40 (by decide) JRLx_s6
        have JMDJ_s40 : MDJ U s40 := MDJ_fm Fs40 (by decide) JMDJ_s6
        have JMJJ_s40 : MJJ Jn s40 := MJJ_fm Fs40 (by decide) JMJJ_s6
        have b42 := bi_73 Is40
        have ws40_99 : iI s40 99 = iI s6 99 := fm_iq Fs40 rfl
        have ws40_89 : iI s40 89 = iI s6 89 := fm_iq Fs40 rfl
        have ws40_96 : iI s40 96 = iI s6 96 := fm_iq Fs40 rfl
        have ws40_104 : iI s40 104 = iI s6 104 := fm_iq Fs40 rfl
        refine z_if_eq X (t := 50) rfl rfl hrs40 (fun g43 => ?_) (fun g43 => ?_)
        ·
          refine z_aload_n X (x := A 179) rfl (List.Mem.head _) (z_load_n X (x := y) rfl (List.Mem.tail _ (List.Mem.tail _ (List.Mem.head _))) (zcV_i1 X E 179 (As := [.int (Int32.ofInt y)]) (st := []) rfl rfl rfl rfl (k_findPlan7 G Is40 JRLx_s40 JMDJ_s40 JMJJ_s40 (by first | exact ⟨oq_0159bb48 g24 hps22, oq_8b498cf6 g24 hps22⟩ | omega) (by first | exact oq_f34933ba ws40_89 ws6_89 p3 b3.1 | omega)) rfl (Nat.le_of_ble_eq_true rfl) (fun s44 e45 Is44 Fs44 JRLx_s44 hrs44 hps44 => ?_)))
          have hps44p := And.intro hps44.2.1 (hps44.2.2)
          have Gs44 := fm_ts Gs40 Fs44 (by decide) (by decide +kernel)
          have JRLx_s44 : RLx s44 := RLx_fm Fs44 (by decide) JRLx_s40
          have JMDJ_s44 : MDJ U s44 := MDJ_fm Fs44 (by decide) JMDJ_s40
          have JMJJ_s44 : MJJ Jn s44 := MJJ_fm Fs44 (by decide) JMJJ_s40
          have ws44_73 : iI s44 73 = iI s40 73 := fm_iq Fs44 rfl
          have ws44_99 : iI s44 99 = iI s40 99 := fm_iq Fs44 rfl
          have b46 := bi_89 Is44
          have ws44_96 : iI s44 96 = iI s40 96 := fm_iq Fs44 rfl
          have ws44_104 : iI s44 104 = iI s40 104 := fm_iq Fs44 rfl
          have eQ : (QD U Jn (iI s40 99) (iI s40 96) (fun j => iC s40 237 j) (pfM s40) (fun j => iC s40 229 j)) = (QD U Jn (iI s 99) (iI s 96) (fun j => iC s 237 j) (pfM s) (fun j => iC s 229 j)) := qd_c (by first | (clear hps44 hps40 g39 hps37 g24 hps22 g9 hps7; omega) | (clear hps40 g39 hps37 g24 hps22 g9 hps7; omega) | omega) (by first | (clear hps44 hps40 g39 hps37 g24 hps22 g9 hps7; omega) | (clear hps40 g39 hps37 g24 hps22 g9 hps7; omega) | omega) (fun j _ => fm_c Gs40 (by decide)) (fun j _ => fm_c Gs40 (by decide)) (fun j _ => fm_c Gs40 (by decide))
          have hj := hps44
          rw [eQ] at hj
          refine z_if_ne X (t := 60) rfl rfl hrs44 (fun g47 => ?_) (fun g47 => ?_)
          ·
            refine z_aload_n X (x := A 179) rfl (List.Mem.head _) (z_load_n X (x := x) rfl (List.Mem.tail _ (List.Mem.head _)) (z_callV X 179 (rm := rmN 275) (As := [.int (Int32.ofInt x)]) (st := []) rfl rfl (by decide) rfl (by rw [E.1, E.2.1, E.2.2.1]; exact k_findRota7 G Is44 (by first | exact ⟨oq_fcd95e52 g9 hps7, oq_7e545af9 g9 hps7⟩ | omega) ((nde_r (nde_m hj.2.2 (by first | (clear g47 hps44 hps40 g39 hps37 g24 hps22 g9 hps7; omega) | (clear hps44 hps40 g39 hps37 g24 hps22 g9 hps7; omega) | omega)) qd_n))) ⟨by rw [E.2.2.2]; exact (show (rmN 275).frames + 1 ≤ (rmN 276).frames by decide), by rw [E.2.2.2]; exact (show 8 + (mNL (miB 275) + 11) + (rmN 275).locals ≤ (rmN 276).locals by decide), by rw [E.2.2.2]; exact (show 0 + 3 ≤ 3 by decide), by rw [E.2.2.2]; exact (show 0 + 24 ≤ 24 by decide)⟩ (Nat.le_of_ble_eq_true rfl) (fun vv s48 hq => ?_) (fun ee s48 hq => ?_)))
            rotate_left
            · obtain ⟨Is48, Fs48, hv, hps48⟩ := hq; cases hv
            obtain ⟨Is48, Fs48, hv, hps48⟩ := hq
            cases hv
            have Gs48 := fm_tq Gs44 Fs48 rfl rfl
            have JRLx_s48 : RLx s48 := RLx_fm Fs48 (by decide) JRLx_s44
            have JMDJ_s48 : MDJ U s48 := MDJ_fm Fs48 (by decide) JMDJ_s44
            have JMJJ_s48 : MJJ Jn s48 := MJJ_fm Fs48 (by decide) JMJJ_s44
            have ws48_73 : iI s48 73 = iI s44 73 := fm_iq Fs48 rfl
            have ws48_99 : iI s48 99 = iI s44 99 := fm_iq Fs48 rfl
            have ws48_89 : iI s48 89 = iI s44 89 := fm_iq Fs48 rfl
            have ws48_96 : iI s48 96 = iI s44 96 := fm_iq Fs48 rfl
            have b50 := bi_104 Is48
            show WS k 65 [(0, .ref (A 179)), (1, .int (Int32.ofInt x)), (2, .int (Int32.ofInt y)), (3, .int (Int32.ofInt z))] [] (Wd A dT s48) 3 24
            refine z_aload_n X (x := A 179) rfl (List.Mem.head _) (s_getR X 179 rfl (c518_ok rfl) rfl rfl (z_load_n X (x := z) rfl (List.Mem.tail _ (List.Mem.tail _ (List.Mem.tail _ (List.Mem.head _)))) (z_ald X 452 rfl (c518_ok rfl) rfl (by first | exact oq_0159bb48 g39 hps37 | omega) (show z < 24 by first | exact oq_127752ee g39 hps37 | omega) (cbig_ok rfl) ?_)))
            have b51 := bc_397 Is48 (show (z).toNat < 24 by first | exact oq_200d9360 g39 hps37 | omega)
            exact w_iret X.1 q hRt rfl (ax_d X (show cdA 276 71 = some (.ireturn, 1, 0, 0, 0) from rfl)) (show 3 ≤ 3 by decide) (show 24 ≤ 24 by decide) ⟨_, rfl, Is48, Gs48, JRLx_s48, (iC s48 397 (z).toNat), rfl, (rng_to _), Or.inl ⟨by first | exact ⟨oq_fcd95e52 g9 hps7, oq_7e545af9 g9 hps7⟩ | omega, by first | exact ⟨oq_0159bb48 g24 hps22, oq_8b498cf6 g24 hps22⟩ | omega, by first | exact ⟨oq_0159bb48 g39 hps37, oq_8b498cf6 g39 hps37⟩ | omega, by first | exact oq_9aa1f5c4 ws48_73 ws44_73 b42.1 hps40 vs6 | omega, by first | (clear g47 hps44 hps40 g39 hps37 g24 hps22 g9 hps7; omega) | (clear hps44 hps40 g39 hps37 g24 hps22 g9 hps7; omega) | omega, rta_m hj.2.2 (by first | (clear g47 hps44 hps40 g39 hps37 g24 hps22 g9 hps7; omega) | (clear hps44 hps40 g39 hps37 g24 hps22 g9 hps7; omega) | omega) hps48 (show iI s44 102 = iI s 102 from fm_i Gs44 (by decide)) (show iI s44 103 = iI s 103 from fm_i Gs44 (by decide)) (fun p => show iC s44 398 p = iC s 398 p from fm_c Gs44 (by decide)) (by first | (clear g47 hps44 hps40 g39 hps37 g24 hps22 g9 hps7; omega) | (clear hps44 hps40 g39 hps37 g24 hps22 g9 hps7; omega) | omega) rfl⟩⟩
          ·
            refine z_const X rfl ?_
            exact w_iret X.1 q hRt rfl (ax_d X (show cdA 276 59 = some (.ireturn, 1, 0, 0, 0) from rfl)) (Nat.zero_le _) (Nat.zero_le _) ⟨_, rfl, Is44, Gs44, JRLx_s44, (-1), rfl, (by decide), Or.inl ⟨by first | exact ⟨oq_fcd95e52 g9 hps7, oq_7e545af9 g9 hps7⟩ | omega, by first | exact ⟨oq_0159bb48 g24 hps22, oq_8b498cf6 g24 hps22⟩ | omega, by first | exact ⟨oq_0159bb48 g39 hps37, oq_8b498cf6 g39 hps37⟩ | omega, by first | exact oq_48a52f1b ws44_73 b42.1 hps40 vs6 | omega, by first | (clear hps44 hps40 g39 hps37 g24 hps22 g9 hps7; omega) | (clear hps40 g39 hps37 g24 hps22 g9 hps7; omega) | omega, Or.inl ⟨rfl, plt_no hj.2.2 (by first | (clear hps44 hps40 g39 hps37 g24 hps22 g9 hps7; omega) | (clear hps40 g39 hps37 g24 hps22 g9 hps7; omega) | omega)⟩⟩⟩
        ·
          refine z_const X rfl ?_
          exact w_iret X.1 q hRt rfl (ax_d X (show cdA 276 49 = some (.ireturn, 1, 0, 0, 0) from rfl)) (Nat.zero_le _) (Nat.zero_le _) ⟨_, rfl, Is40, Gs40, JRLx_s40, 0, rfl, (by decide), Or.inr ⟨by first | exact oq_cd5449e9 g43 hps40 vs6 | omega, by first | (clear g43 hps40 g39 hps37 g24 hps22 g9 hps7; omega) | (clear hps40 g39 hps37 g24 hps22 g9 hps7; omega) | omega, by first | exact oq_f34933ba ws40_89 ws6_89 p3 b3.1 | omega⟩⟩
      ·
        refine z_const X rfl (z_goto X (t := 41) rfl rfl (z_const X rfl (zcV_i0 X E 179 (As := [.int (Int32.ofInt 1), .int (Int32.ofInt 1)]) (st := []) rfl rfl rfl rfl (k_bad2 G Is6 (by first | exact Or.inr (by decide) | omega) (by first | exact ⟨by decide, by decide⟩ | omega)) rfl (Nat.le_of_ble_eq_true rfl) (fun s52 e53 Is52 Fs52 hrs52 hps52 => ?_))))
        have Gs52 := fm_tq Fs6 Fs52 rfl rfl
        have JRLx_s52 : RLx s52 := RLx_fm Fs52 (by decide) JRLx_s6
        have JMDJ_s52 : MDJ U s52 := MDJ_fm Fs52 (by decide) JMDJ_s6
        have JMJJ_s52 : MJJ Jn s52 := MJJ_fm Fs52 (by decide) JMJJ_s6
        have b54 := bi_73 Is52
        have ws52_99 : iI s52 99 = iI s6 99 := fm_iq Fs52 rfl
        have ws52_89 : iI s52 89 = iI s6 89 := fm_iq Fs52 rfl
        have ws52_96 : iI s52 96 = iI s6 96 := fm_iq Fs52 rfl
        have ws52_104 : iI s52 104 = iI s6 104 := fm_iq Fs52 rfl
        refine z_if_eq X (t := 50) rfl rfl hrs52 (fun g55 => ?_) (fun g55 => ?_)
        ·
          refine z_aload_n X (x := A 179) rfl (List.Mem.head _) (z_load_n X (x := y) rfl (List.Mem.tail _ (List.Mem.tail _ (List.Mem.head _))) (zcV_i1 X E 179 (As := [.int (Int32.ofInt y)]) (st := []) rfl rfl rfl rfl (k_findPlan7 G Is52 JRLx_s52 JMDJ_s52 JMJJ_s52 (by first | exact ⟨oq_0159bb48 g24 hps22, oq_8b498cf6 g24 hps22⟩ | omega) (by first | exact oq_f34933ba ws52_89 ws6_89 p3 b3.1 | omega)) rfl (Nat.le_of_ble_eq_true rfl) (fun s56 e57 Is56 Fs56 JRLx_s56 hrs56 hps56 => ?_)))
          have hps56p := And.intro hps56.2.1 (hps56.2.2)
          have Gs56 := fm_ts Gs52 Fs56 (by decide) (by decide +kernel)
          have JRLx_s56 : RLx s56 := RLx_fm Fs56 (by decide) JRLx_s52
          have JMDJ_s56 : MDJ U s56 := MDJ_fm Fs56 (by decide) JMDJ_s52
          have JMJJ_s56 : MJJ Jn s56 := MJJ_fm Fs56 (by decide) JMJJ_s52
          have ws56_73 : iI s56 73 = iI s52 73 := fm_iq Fs56 rfl
          have ws56_99 : iI s56 99 = iI s52 99 := fm_iq Fs56 rfl
          have b58 := bi_89 Is56
          have ws56_96 : iI s56 96 = iI s52 96 := fm_iq Fs56 rfl
          have ws56_104 : iI s56 104 = iI s52 104 := fm_iq Fs56 rfl
          have eQ : (QD U Jn (iI s52 99) (iI s52 96) (fun j => iC s52 237 j) (pfM s52) (fun j => iC s52 229 j)) = (QD U Jn (iI s 99) (iI s 96) (fun j => iC s 237 j) (pfM s) (fun j => iC s 229 j)) := qd_c (by first | (clear hps56 hps52 hps37 g24 hps22 g9 hps7; omega) | (clear hps52 hps37 g24 hps22 g9 hps7; omega) | omega) (by first | (clear hps56 hps52 hps37 g24 hps22 g9 hps7; omega) | (clear hps52 hps37 g24 hps22 g9 hps7; omega) | omega) (fun j _ => fm_c Gs52 (by decide)) (fun j _ => fm_c Gs52 (by decide)) (fun j _ => fm_c Gs52 (by decide))
          have hj := hps56
          rw [eQ] at hj
          refine z_if_ne X (t := 60) rfl rfl hrs56 (fun g59 => ?_) (fun g59 => ?_)
          ·
            refine z_aload_n X (x := A 179) rfl (List.Mem.head _) (z_load_n X (x := x) rfl (List.Mem.tail _ (List.Mem.head _)) (z_callV X 179 (rm := rmN 275) (As := [.int (Int32.ofInt x)]) (st := []) rfl rfl (by decide) rfl (by rw [E.1, E.2.1, E.2.2.1]; exact k_findRota7 G Is56 (by first | exact ⟨oq_fcd95e52 g9 hps7, oq_7e545af9 g9 hps7⟩ | omega) ((nde_r (nde_m hj.2.2 (by first | (clear g59 hps56 hps52 hps37 g24 hps22 g9 hps7; omega) | (clear hps56 hps52 hps37 g24 hps22 g9 hps7; omega) | omega)) qd_n))) ⟨by rw [E.2.2.2]; exact (show (rmN 275).frames + 1 ≤ (rmN 276).frames by decide), by rw [E.2.2.2]; exact (show 8 + (mNL (miB 275) + 11) + (rmN 275).locals ≤ (rmN 276).locals by decide), by rw [E.2.2.2]; exact (show 0 + 3 ≤ 3 by decide), by rw [E.2.2.2]; exact (show 0 + 24 ≤ 24 by decide)⟩ (Nat.le_of_ble_eq_true rfl) (fun vv s60 hq => ?_) (fun ee s60 hq => ?_)))
            rotate_left
            · obtain ⟨Is60, Fs60, hv, hps60⟩ := hq; cases hv
            obtain ⟨Is60, Fs60, hv, hps60⟩ := hq
            cases hv
            have Gs60 := fm_tq Gs56 Fs60 rfl rfl
            have JRLx_s60 : RLx s60 := RLx_fm Fs60 (by decide) JRLx_s56
            have JMDJ_s60 : MDJ U s60 := MDJ_fm Fs60 (by decide) JMDJ_s56
            have JMJJ_s60 : MJJ Jn s60 := MJJ_fm Fs60 (by decide) JMJJ_s56
            have ws60_73 : iI s60 73 = iI s56 73 := fm_iq Fs60 rfl
            have ws60_99 : iI s60 99 = iI s56 99 := fm_iq Fs60 rfl
            have ws60_89 : iI s60 89 = iI s56 89 := fm_iq Fs60 rfl
            have ws60_96 : iI s60 96 = iI s56 96 := fm_iq Fs60 rfl
            have b62 := bi_104 Is60
            show WS k 65 [(0, .ref (A 179)), (1, .int (Int32.ofInt x)), (2, .int (Int32.ofInt y)), (3, .int (Int32.ofInt z))] [] (Wd A dT s60) 3 24
            refine z_aload_n X (x := A 179) rfl (List.Mem.head _) (s_getR X 179 rfl (c518_ok rfl) rfl rfl (z_load_n X (x := z) rfl (List.Mem.tail _ (List.Mem.tail _ (List.Mem.tail _ (List.Mem.head _)))) (z_ald X 452 rfl (c518_ok rfl) rfl (by first | exact oq_674898f9 g55 hps52 vs6 | omega) (show z < 24 by first | exact oq_43137565 g55 hps52 vs6 | omega) (cbig_ok rfl) ?_)))
            have b63 := bc_397 Is60 (show (z).toNat < 24 by first | exact oq_a80f8023 g55 hps52 vs6 | omega)
            exact w_iret X.1 q hRt rfl (ax_d X (show cdA 276 71 = some (.ireturn, 1, 0, 0, 0) from rfl)) (show 3 ≤ 3 by decide) (show 24 ≤ 24 by decide) ⟨_, rfl, Is60, Gs60, JRLx_s60, (iC s60 397 (z).toNat), rfl, (rng_to _), Or.inl ⟨by first | exact ⟨oq_fcd95e52 g9 hps7, oq_7e545af9 g9 hps7⟩ | omega, by first | exact ⟨oq_0159bb48 g24 hps22, oq_8b498cf6 g24 hps22⟩ | omega, by first | exact ⟨oq_674898f9 g55 hps52 vs6, oq_48516caf g55 hps52 vs6⟩ | omega, by first | exact oq_300138af ws60_73 ws56_73 g55 b54.1 hps52 vs6 | omega, by first | exact oq_f2ff104a g55 hps52 vs6 | omega, rta_m hj.2.2 (by first | (clear g59 hps56 hps52 hps37 g24 hps22 g9 hps7; omega) | (clear hps56 hps52 hps37 g24 hps22 g9 hps7; omega) | omega) hps60 (show iI s56 102 = iI s 102 from fm_i Gs56 (by decide)) (show iI s56 103 = iI s 103 from fm_i Gs56 (by decide)) (fun p => show iC s56 398 p = iC s 398 p from fm_c Gs56 (by decide)) (by first | (clear g59 hps56 hps52 hps37 g24 hps22 g9 hps7; omega) | (clear hps56 hps52 hps37 g24 hps22 g9 hps7; omega) | omega) rfl⟩⟩
          ·
            refine z_const X rfl ?_
            exact w_iret X.1 q hRt rfl (ax_d X (show cdA 276 59 = some (.ireturn, 1, 0, 0, 0) from rfl)) (Nat.zero_le _) (Nat.zero_le _) ⟨_, rfl, Is56, Gs56, JRLx_s56, (-1), rfl, (by decide), Or.inl ⟨by first | exact ⟨oq_fcd95e52 g9 hps7, oq_7e545af9 g9 hps7⟩ | omega, by first | exact ⟨oq_0159bb48 g24 hps22, oq_8b498cf6 g24 hps22⟩ | omega, by first | exact ⟨oq_674898f9 g55 hps52 vs6, oq_48516caf g55 hps52 vs6⟩ | omega, by first | exact oq_8c407924 ws56_73 g55 b54.1 hps52 vs6 | omega, by first | exact oq_f2ff104a g55 hps52 vs6 | omega, Or.inl ⟨rfl, plt_no hj.2.2 (by first | (clear hps56 hps52 hps37 g24 hps22 g9 hps7; omega) | (clear hps52 hps37 g24 hps22 g9 hps7; omega) | omega)⟩⟩⟩
        ·
          refine z_const X rfl ?_
          exact w_iret X.1 q hRt rfl (ax_d X (show cdA 276 49 = some (.ireturn, 1, 0, 0, 0) from rfl)) (Nat.zero_le _) (Nat.zero_le _) ⟨_, rfl, Is52, Gs52, JRLx_s52, 0, rfl, (by decide), Or.inr ⟨by first | exact oq_28fe4d37 g39 hps37 | omega, by first | exact oq_faabd673 g55 hps52 vs6 | omega, by first | exact oq_f34933ba ws52_89 ws6_89 p3 b3.1 | omega⟩⟩
set_option maxRecDepth 4000 in
theorem k_lacks7 (G : GX l s0 D tys a0 dT) {U : AirD} {Jn : List Int → Prop} (I : Bd s) (jRLx : RLx s) (jMDJ : MDJ U s) (jMJJ : MJJ Jn s) {x y : Int} (p0 : rng x) (p1 : rng y) (p2 : iI s 89 = 1) : CT l s0 D A dT 277 (rmN 277) [.ref (A 179), .int (Int32.ofInt x), .int (Int32.ofInt y)] s (fun o t => Bd t ∧ Fm [73, 89, 104, 77, 75, 78, 79, 80, 81] [161, 202, 203, 204, 205, 206, 207, 208, 209, 210, 211, 212, 213, 214, 215, 216, 217, 218, 219, 220, 221, 222, 223, 224, 225, 226, 227, 230, 395, 396, 245, 246, 247, 248, 249, 250, 251, 252, 253, 254, 255, 256, 257, 258, 259, 260, 261, 262, 263, 264, 265, 266, 267, 268, 269, 270, 271, 272, 273, 274, 275, 276, 277, 278, 279, 280, 281, 282, 283, 284, 285, 286, 287, 288, 289, 290, 291, 292, 293, 294, 295, 296, 297, 298, 299, 300, 301, 302, 303, 304, 305, 306, 307, 308, 309, 310, 311, 312, 313, 314, 315, 316, 317, 318, 319, 320, 321, 322, 323, 324, 325, 326, 327, 328, 329, 330, 331, 332, 333, 334, 335, 336, 337, 338, 339, 340, 341, 342, 343, 344, 345, 346, 347, 348, 349, 350, 351, 352, 353, 354, 355, 356, 357, 358, 359, 360, 361, 362, 363, 364, 365, 366, 367, 368, 369, 370, 371, 372, 373, 374, 375, 376, 377, 378, 379, 380, 381, 382, 383, 384, 385, 386, 387, 388, 389, 390, 391, 392, 393, 394, 397] s t ∧ RLx t ∧ ∃ e, o = .inl (some (.int (Int32.ofInt e))) ∧ rng e ∧ (((1 ≤ x ∧ x ≤ 8) ∧ (0 ≤ y ∧ y ≤ 23) ∧ iI t 73 = 0 ∧ iI t 89 = 1 ∧ LKA (QD U Jn (iI s 99) (iI s 96) (fun j => iC s 237 j) (pfM s) (fun j => iC s 229 j)) (y : Int).toNat x (iI s 102) (iI s 103) (fun p => iC s 398 p) e) ∨ ((x < 1 ∨ 8 < x ∨ y < 0 ∨ 23 < y) ∧ iI t 73 = 1 ∧ iI t 89 = 1))) := by
  refine ct_of G (by decide) (Nat.le_of_ble_eq_true rfl) (fun k X E hRt hXt q => ?_)
  show WS k 0 [(0, .ref (A 179)), (1, .int (Int32.ofInt x)), (2, .int (Int32.ofInt y))] [] _ 0 0
  have F : Fm [73, 89, 104, 77, 75, 78, 79, 80, 81] [161, 202, 203, 204, 205, 206, 207, 208, 209, 210, 211, 212, 213, 214, 215, 216, 217, 218, 219, 220, 221, 222, 223, 224, 225, 226, 227, 230, 395, 396, 245, 246, 247, 248, 249, 250, 251, 252, 253, 254, 255, 256, 257, 258, 259, 260, 261, 262, 263, 264, 265, 266, 267, 268, 269, 270, 271, 272, 273, 274, 275, 276, 277, 278, 279, 280, 281, 282, 283, 284, 285, 286, 287, 288, 289, 290, 291, 292, 293, 294, 295, 296, 297, 298, 299, 300, 301, 302, 303, 304, 305, 306, 307, 308, 309, 310, 311, 312, 313, 314, 315, 316, 317, 318, 319, 320, 321, 322, 323, 324, 325, 326, 327, 328, 329, 330, 331, 332, 333, 334, 335, 336, 337, 338, 339, 340, 341, 342, 343, 344, 345, 346, 347, 348, 349, 350, 351, 352, 353, 354, 355, 356, 357, 358, 359, 360, 361, 362, 363, 364, 365, 366, 367, 368, 369, 370, 371, 372, 373, 374, 375, 376, 377, 378, 379, 380, 381, 382, 383, 384, 385, 386, 387, 388, 389, 390, 391, 392, 393, 394, 397] s s := fm_rf _ _ s
  have b1 := bi_73 I
  have b2 := bi_99 I
  have b3 := bi_89 I
  have b4 := bi_96 I
  have b5 := bi_104 I
  refine z_aload_n X (x := A 179) rfl (List.Mem.head _) (z_const X rfl (s_putI X 179 rfl (c518_ok rfl) rfl rfl (by decide) rfl rfl rfl (wd_gen (fun s6 hs6 => ?_))))
  have Is6 : Bd s6 := eqB hs6 (bd_I I (show (0 : Int) ≤ 0 ∧ 0 ≤ 3 by first | exact ⟨by decide, by decide⟩ | omega) (by decide))
  have Fs6 := eqF hs6 (fm_I F (inl_ok (a := 73) rfl))
  have vs6 : iI s6 73 = 0 := eqI hs6 (iI_u (by decide))
  have ws6_99 : iI s6 99 = iI s 99 := eqI hs6 rfl
  have ws6_89 : iI s6 89 = iI s 89 := eqI hs6 rfl
  have ws6_96 : iI s6 96 = iI s 96 := eqI hs6 rfl
  have ws6_104 : iI s6 104 = iI s 104 := eqI hs6 rfl
  have fs6 : Fm [73] [] s s6 := by rw [hs6]; exact fm_I (fm_rf _ _ _) (show 73 ∈ _ by decide)
  have JRLx_s6 : RLx s6 := RLx_fm fs6 (by decide) jRLx
  have JMDJ_s6 : MDJ U s6 := MDJ_fm fs6 (by decide) jMDJ
  have JMJJ_s6 : MJJ Jn s6 := MJJ_fm fs6 (by decide) jMJJ
  refine z_aload_n X (x := A 179) rfl (List.Mem.head _) (z_load_n X (x := x) rfl (List.Mem.tail _ (List.Mem.head _)) (z_const X rfl (z_bipush X rfl (z_callS X (rm := rmN 188) (As := [.int (Int32.ofInt x), .int (Int32.ofInt 1), .int (Int32.ofInt 8)]) (st := [.ref (A 179)]) rfl rfl (by rw [E.1, E.2.1, E.2.2.1]; exact k_in2 G Is6 (by first | exact ⟨p0.1, p0.2⟩ | omega) (by first | exact ⟨by decide, by decide⟩ | omega) (by first | exact ⟨by decide, by decide⟩ | omega)) ⟨by rw [E.2.2.2]; exact (show (rmN 188).frames + 1 ≤ (rmN 277).frames by decide), by rw [E.2.2.2]; exact (show 8 + (mNL (miB 188) + 11) + (rmN 188).locals ≤ (rmN 277).locals by decide), by rw [E.2.2.2]; exact (show 0 + (rmN 188).cells ≤ (rmN 277).cells by decide), by rw [E.2.2.2]; exact (show 0 + (rmN 188).slots ≤ (rmN 277).slots by decide)⟩ (Nat.le_of_ble_eq_true rfl) (fun vv s7 hq => ?_) (fun ee s7 hq => ?_)))))
  rotate_left
  · obtain ⟨rfl, e8, hv, hrs7, hps7⟩ := hq; cases hv
  obtain ⟨rfl, e8, hv, hrs7, hps7⟩ := hq
  cases hv
  show WS k 13 [(0, .ref (A 179)), (1, .int (Int32.ofInt x)), (2, .int (Int32.ofInt y))] [.int (Int32.ofInt e8), .ref (A 179)] (Wd A dT s6) 0 0
  refine z_if_eq X (t := 26) rfl rfl hrs7 (fun g9 => ?_) (fun g9 => ?_)
  ·
    refine z_const X rfl (z_goto X (t := 31) rfl rfl (z_const X rfl (zcV_i0 X E 179 (As := [.int (Int32.ofInt 1), .int (Int32.ofInt 1)]) (st := []) rfl rfl rfl rfl (k_bad2 G Is6 (by first | exact Or.inr (by decide) | omega) (by first | exact ⟨by decide, by decide⟩ | omega)) rfl (Nat.le_of_ble_eq_true rfl) (fun s10 e11 Is10 Fs10 hrs10 hps10 => ?_))))
    have Gs10 := fm_tq Fs6 Fs10 rfl rfl
    have JRLx_s10 : RLx s10 := RLx_fm Fs10 (by decide) JRLx_s6
    have JMDJ_s10 : MDJ U s10 := MDJ_fm Fs10 (by decide) JMDJ_s6
    have JMJJ_s10 : MJJ Jn s10 := MJJ_fm Fs10 (by decide) JMJJ_s6
    have b12 := bi_73 Is10
    have ws10_99 : iI s10 99 = iI s6 99 := fm_iq Fs10 rfl
    have ws10_89 : iI s10 89 = iI s6 89 := fm_iq Fs10 rfl
    have ws10_96 : iI s10 96 = iI s6 96 := fm_iq Fs10 rfl
    have ws10_104 : iI s10 104 = iI s6 104 := fm_iq Fs10 rfl
    refine z_if_eq X (t := 40) rfl rfl hrs10 (fun g13 => ?_) (fun g13 => ?_)
    ·
      refine z_aload_n X (x := A 179) rfl (List.Mem.head _) (z_load_n X (x := y) rfl (List.Mem.tail _ (List.Mem.tail _ (List.Mem.head _))) (zcV_i1 X E 179 (As := [.int (Int32.ofInt y)]) (st := []) rfl rfl rfl rfl (k_findPlan7 G Is10 JRLx_s10 JMDJ_s10 JMJJ_s10 (by first | exact ⟨oq_674898f9 g13 hps10 vs6, oq_48516caf g13 hps10 vs6⟩ | omega) (by first | exact oq_f34933ba ws10_89 ws6_89 p2 b3.1 | omega)) rfl (Nat.le_of_ble_eq_true rfl) (fun s14 e15 Is14 Fs14 JRLx_s14 hrs14 hps14 => ?_)))
      have hps14p := And.intro hps14.2.1 (hps14.2.2)
      have Gs14 := fm_ts Gs10 Fs14 (by decide) (by decide +kernel)
      have JRLx_s14 : RLx s14 := RLx_fm Fs14 (by decide) JRLx_s10
      have JMDJ_s14 : MDJ U s14 := MDJ_fm Fs14 (by decide) JMDJ_s10
      have JMJJ_s14 : MJJ Jn s14 := MJJ_fm Fs14 (by decide) JMJJ_s10
      have ws14_73 : iI s14 73 = iI s10 73 := fm_iq Fs14 rfl
      have ws14_99 : iI s14 99 = iI s10 99 := fm_iq Fs14 rfl
      have b16 := bi_89 Is14
      have ws14_96 : iI s14 96 = iI s10 96 := fm_iq Fs14 rfl
      have ws14_104 : iI s14 104 = iI s10 104 := fm_iq Fs14 rfl
      have eQ : (QD U Jn (iI s10 99) (iI s10 96) (fun j => iC s10 237 j) (pfM s10) (fun j => iC s10 229 j)) = (QD U Jn (iI s 99) (iI s 96) (fun j => iC s 237 j) (pfM s) (fun j => iC s 229 j)) := qd_c (by first | (clear hps14 hps10 hps7; omega) | (clear hps10 hps7; omega) | omega) (by first | (clear hps14 hps10 hps7; omega) | (clear hps10 hps7; omega) | omega) (fun j _ => fm_c Gs10 (by decide)) (fun j _ => fm_c Gs10 (by decide)) (fun j _ => fm_c Gs10 (by decide))
      have hj := hps14
      rw [eQ] at hj
      refine z_if_ne X (t := 50) rfl rfl hrs14 (fun g17 => ?_) (fun g17 => ?_)
      ·
        refine z_aload_n X (x := A 179) rfl (List.Mem.head _) (z_load_n X (x := x) rfl (List.Mem.tail _ (List.Mem.head _)) (z_callV X 179 (rm := rmN 275) (As := [.int (Int32.ofInt x)]) (st := []) rfl rfl (by decide) rfl (by rw [E.1, E.2.1, E.2.2.1]; exact k_findRota7 G Is14 (by first | exact ⟨oq_9b39ac49 g13 hps10 vs6, oq_e5a72ab8 g13 hps10 vs6⟩ | omega) ((nde_r (nde_m hj.2.2 (by first | (clear g17 hps14 hps10 hps7; omega) | (clear hps14 hps10 hps7; omega) | omega)) qd_n))) ⟨by rw [E.2.2.2]; exact (show (rmN 275).frames + 1 ≤ (rmN 277).frames by decide), by rw [E.2.2.2]; exact (show 8 + (mNL (miB 275) + 11) + (rmN 275).locals ≤ (rmN 277).locals by decide), by rw [E.2.2.2]; exact (show 0 + 3 ≤ 3 by decide), by rw [E.2.2.2]; exact (show 0 + 24 ≤ 24 by decide)⟩ (Nat.le_of_ble_eq_true rfl) (fun vv s18 hq => ?_) (fun ee s18 hq => ?_)))
        rotate_left
        · obtain ⟨Is18, Fs18, hv, hps18⟩ := hq; cases hv
        obtain ⟨Is18, Fs18, hv, hps18⟩ := hq
        cases hv
        have Gs18 := fm_tq Gs14 Fs18 rfl rfl
        have JRLx_s18 : RLx s18 := RLx_fm Fs18 (by decide) JRLx_s14
        have JMDJ_s18 : MDJ U s18 := MDJ_fm Fs18 (by decide) JMDJ_s14
        have JMJJ_s18 : MJJ Jn s18 := MJJ_fm Fs18 (by decide) JMJJ_s14
        have ws18_73 : iI s18 73 = iI s14 73 := fm_iq Fs18 rfl
        have ws18_99 : iI s18 99 = iI s14 99 := fm_iq Fs18 rfl
        have ws18_89 : iI s18 89 = iI s14 89 := fm_iq Fs18 rfl
        have ws18_96 : iI s18 96 = iI s14 96 := fm_iq Fs18 rfl
        have b20 := bi_104 Is18
        show WS k 55 [(0, .ref (A 179)), (1, .int (Int32.ofInt x)), (2, .int (Int32.ofInt y))] [] (Wd A dT s18) 3 24
        refine z_aload_n X (x := A 179) rfl (List.Mem.head _) (z_getI X 179 rfl (c518_ok rfl) rfl rfl ?_)
        have b21 := bi_104 Is18
        exact w_iret X.1 q hRt rfl (ax_d X (show cdA 277 59 = some (.ireturn, 1, 0, 0, 0) from rfl)) (show 3 ≤ 3 by decide) (show 24 ≤ 24 by decide) ⟨_, rfl, Is18, Gs18, JRLx_s18, (iI s18 104), rfl, (rng_to _), Or.inl ⟨by first | exact ⟨oq_9b39ac49 g13 hps10 vs6, oq_e5a72ab8 g13 hps10 vs6⟩ | omega, by first | exact ⟨oq_674898f9 g13 hps10 vs6, oq_48516caf g13 hps10 vs6⟩ | omega, by first | exact oq_300138af ws18_73 ws14_73 g13 b12.1 hps10 vs6 | omega, by first | exact oq_f2ff104a g13 hps10 vs6 | omega, lka_m hj.2.2 (by first | (clear g17 hps14 hps10 hps7; omega) | (clear hps14 hps10 hps7; omega) | omega) hps18 (show iI s14 102 = iI s 102 from fm_i Gs14 (by decide)) (show iI s14 103 = iI s 103 from fm_i Gs14 (by decide)) (fun p => show iC s14 398 p = iC s 398 p from fm_c Gs14 (by decide)) rfl⟩⟩
      ·
        refine z_const X rfl ?_
        exact w_iret X.1 q hRt rfl (ax_d X (show cdA 277 49 = some (.ireturn, 1, 0, 0, 0) from rfl)) (Nat.zero_le _) (Nat.zero_le _) ⟨_, rfl, Is14, Gs14, JRLx_s14, (-1), rfl, (by decide), Or.inl ⟨by first | exact ⟨oq_9b39ac49 g13 hps10 vs6, oq_e5a72ab8 g13 hps10 vs6⟩ | omega, by first | exact ⟨oq_674898f9 g13 hps10 vs6, oq_48516caf g13 hps10 vs6⟩ | omega, by first | exact oq_8c407924 ws14_73 g13 b12.1 hps10 vs6 | omega, by first | exact oq_f2ff104a g13 hps10 vs6 | omega, Or.inl ⟨rfl, plt_no hj.2.2 (by first | (clear hps14 hps10 hps7; omega) | (clear hps10 hps7; omega) | omega)⟩⟩⟩
    ·
      refine z_const X rfl ?_
      exact w_iret X.1 q hRt rfl (ax_d X (show cdA 277 39 = some (.ireturn, 1, 0, 0, 0) from rfl)) (Nat.zero_le _) (Nat.zero_le _) ⟨_, rfl, Is10, Gs10, JRLx_s10, 0, rfl, (by decide), Or.inr ⟨by first | exact oq_473bf851 g9 hps7 | omega, by first | exact oq_faabd673 g13 hps10 vs6 | omega, by first | exact oq_f34933ba ws10_89 ws6_89 p2 b3.1 | omega⟩⟩
  ·
    refine z_load_n X (x := y) rfl (List.Mem.tail _ (List.Mem.tail _ (List.Mem.head _))) (z_const X rfl (z_bipush X rfl (z_callS X (rm := rmN 188) (As := [.int (Int32.ofInt y), .int (Int32.ofInt 0), .int (Int32.ofInt 23)]) (st := [.ref (A 179)]) rfl rfl (by rw [E.1, E.2.1, E.2.2.1]; exact k_in2 G Is6 (by first | exact ⟨p1.1, p1.2⟩ | omega) (by first | exact ⟨by decide, by decide⟩ | omega) (by first | exact ⟨by decide, by decide⟩ | omega)) ⟨by rw [E.2.2.2]; exact (show (rmN 188).frames + 1 ≤ (rmN 277).frames by decide), by rw [E.2.2.2]; exact (show 8 + (mNL (miB 188) + 11) + (rmN 188).locals ≤ (rmN 277).locals by decide), by rw [E.2.2.2]; exact (show 0 + (rmN 188).cells ≤ (rmN 277).cells by decide), by rw [E.2.2.2]; exact (show 0 + (rmN 188).slots ≤ (rmN 277).slots by decide)⟩ (Nat.le_of_ble_eq_true rfl) (fun vv s22 hq => ?_) (fun ee s22 hq => ?_))))
    rotate_left
    · obtain ⟨rfl, e23, hv, hrs22, hps22⟩ := hq; cases hv
    obtain ⟨rfl, e23, hv, hrs22, hps22⟩ := hq
    cases hv
    show WS k 23 [(0, .ref (A 179)), (1, .int (Int32.ofInt x)), (2, .int (Int32.ofInt y))] [.int (Int32.ofInt e23), .ref (A 179)] (Wd A dT s6) 0 0
    refine z_if_ne X (t := 30) rfl rfl hrs22 (fun g24 => ?_) (fun g24 => ?_)
    ·
      refine z_const X rfl (z_const X rfl (zcV_i0 X E 179 (As := [.int (Int32.ofInt 0), .int (Int32.ofInt 1)]) (st := []) rfl rfl rfl rfl (k_bad2 G Is6 (by first | exact Or.inl (by decide) | omega) (by first | exact ⟨by decide, by decide⟩ | omega)) rfl (Nat.le_of_ble_eq_true rfl) (fun s25 e26 Is25 Fs25 hrs25 hps25 => ?_)))
      have Gs25 := fm_tq Fs6 Fs25 rfl rfl
      have JRLx_s25 : RLx s25 := RLx_fm Fs25 (by decide) JRLx_s6
      have JMDJ_s25 : MDJ U s25 := MDJ_fm Fs25 (by decide) JMDJ_s6
      have JMJJ_s25 : MJJ Jn s25 := MJJ_fm Fs25 (by decide) JMJJ_s6
      have b27 := bi_73 Is25
      have ws25_99 : iI s25 99 = iI s6 99 := fm_iq Fs25 rfl
      have ws25_89 : iI s25 89 = iI s6 89 := fm_iq Fs25 rfl
      have ws25_96 : iI s25 96 = iI s6 96 := fm_iq Fs25 rfl
      have ws25_104 : iI s25 104 = iI s6 104 := fm_iq Fs25 rfl
      refine z_if_eq X (t := 40) rfl rfl hrs25 (fun g28 => ?_) (fun g28 => ?_)
      ·
        refine z_aload_n X (x := A 179) rfl (List.Mem.head _) (z_load_n X (x := y) rfl (List.Mem.tail _ (List.Mem.tail _ (List.Mem.head _))) (zcV_i1 X E 179 (As := [.int (Int32.ofInt y)]) (st := []) rfl rfl rfl rfl (k_findPlan7 G Is25 JRLx_s25 JMDJ_s25 JMJJ_s25 (by first | exact ⟨oq_0159bb48 g24 hps22, oq_8b498cf6 g24 hps22⟩ | omega) (by first | exact oq_f34933ba ws25_89 ws6_89 p2 b3.1 | omega)) rfl (Nat.le_of_ble_eq_true rfl) (fun s29 e30 Is29 Fs29 JRLx_s29 hrs29 hps29 => ?_)))
        have hps29p := And.intro hps29.2.1 (hps29.2.2)
        have Gs29 := fm_ts Gs25 Fs29 (by decide) (by decide +kernel)
        have JRLx_s29 : RLx s29 := RLx_fm Fs29 (by decide) JRLx_s25
        have JMDJ_s29 : MDJ U s29 := MDJ_fm Fs29 (by decide) JMDJ_s25
        have JMJJ_s29 : MJJ Jn s29 := MJJ_fm Fs29 (by decide) JMJJ_s25
        have ws29_73 : iI s29 73 = iI s25 73 := fm_iq Fs29 rfl
        have ws29_99 : iI s29 99 = iI s25 99 := fm_iq Fs29 rfl
        have b31 := bi_89 Is29
        have ws29_96 : iI s29 96 = iI s25 96 := fm_iq Fs29 rfl
        have ws29_104 : iI s29 104 = iI s25 104 := fm_iq Fs29 rfl
        have eQ : (QD U Jn (iI s25 99) (iI s25 96) (fun j => iC s25 237 j) (pfM s25) (fun j => iC s25 229 j)) = (QD U Jn (iI s 99) (iI s 96) (fun j => iC s 237 j) (pfM s) (fun j => iC s 229 j)) := qd_c (by first | (clear hps29 hps25 g24 hps22 g9 hps7; omega) | (clear hps25 g24 hps22 g9 hps7; omega) | omega) (by first | (clear hps29 hps25 g24 hps22 g9 hps7; omega) | (clear hps25 g24 hps22 g9 hps7; omega) | omega) (fun j _ => fm_c Gs25 (by decide)) (fun j _ => fm_c Gs25 (by decide)) (fun j _ => fm_c Gs25 (by decide))
        have hj := hps29
        rw [eQ] at hj
        refine z_if_ne X (t := 50) rfl rfl hrs29 (fun g32 => ?_) (fun g32 => ?_)
        ·
          refine z_aload_n X (x := A 179) rfl (List.Mem.head _) (z_load_n X (x := x) rfl (List.Mem.tail _ (List.Mem.head _)) (z_callV X 179 (rm := rmN 275) (As := [.int (Int32.ofInt x)]) (st := []) rfl rfl (by decide) rfl (by rw [E.1, E.2.1, E.2.2.1]; exact k_findRota7 G Is29 (by first | exact ⟨oq_fcd95e52 g9 hps7, oq_7e545af9 g9 hps7⟩ | omega) ((nde_r (nde_m hj.2.2 (by first | (clear g32 hps29 hps25 g24 hps22 g9 hps7; omega) | (clear hps29 hps25 g24 hps22 g9 hps7; omega) | omega)) qd_n))) ⟨by rw [E.2.2.2]; exact (show (rmN 275).frames + 1 ≤ (rmN 277).frames by decide), by rw [E.2.2.2]; exact (show 8 + (mNL (miB 275) + 11) + (rmN 275).locals ≤ (rmN 277).locals by decide), by rw [E.2.2.2]; exact (show 0 + 3 ≤ 3 by decide), by rw [E.2.2.2]; exact (show 0 + 24 ≤ 24 by decide)⟩ (Nat.le_of_ble_eq_true rfl) (fun vv s33 hq => ?_) (fun ee s33 hq => ?_)))
          rotate_left
          · obtain ⟨Is33, Fs33, hv, hps33⟩ := hq; cases hv
          obtain ⟨Is33, Fs33, hv, hps33⟩ := hq
          cases hv
          have Gs33 := fm_tq Gs29 Fs33 rfl rfl
          have JRLx_s33 : RLx s33 := RLx_fm Fs33 (by decide) JRLx_s29
          have JMDJ_s33 : MDJ U s33 := MDJ_fm Fs33 (by decide) JMDJ_s29
          have JMJJ_s33 : MJJ Jn s33 := MJJ_fm Fs33 (by decide) JMJJ_s29
          have ws33_73 : iI s33 73 = iI s29 73 := fm_iq Fs33 rfl
          have ws33_99 : iI s33 99 = iI s29 99 := fm_iq Fs33 rfl
          have ws33_89 : iI s33 89 = iI s29 89 := fm_iq Fs33 rfl
          have ws33_96 : iI s33 96 = iI s29 96 := fm_iq Fs33 rfl
          have b35 := bi_104 Is33
          show WS k 55 [(0, .ref (A 179)), (1, .int (Int32.ofInt x)), (2, .int (Int32.ofInt y))] [] (Wd A dT s33) 3 24
          refine z_aload_n X (x := A 179) rfl (List.Mem.head _) (z_getI X 179 rfl (c518_ok rfl) rfl rfl ?_)
          have b36 := bi_104 Is33
          exact w_iret X.1 q hRt rfl (ax_d X (show cdA 277 59 = some (.ireturn, 1, 0, 0, 0) from rfl)) (show 3 ≤ 3 by decide) (show 24 ≤ 24 by decide) ⟨_, rfl, Is33, Gs33, JRLx_s33, (iI s33 104), rfl, (rng_to _), Or.inl ⟨by first | exact ⟨oq_fcd95e52 g9 hps7, oq_7e545af9 g9 hps7⟩ | omega, by first | exact ⟨oq_0159bb48 g24 hps22, oq_8b498cf6 g24 hps22⟩ | omega, by first | exact oq_9aa1f5c4 ws33_73 ws29_73 b27.1 hps25 vs6 | omega, by first | (clear g32 hps29 hps25 g24 hps22 g9 hps7; omega) | (clear hps29 hps25 g24 hps22 g9 hps7; omega) | omega, lka_m hj.2.2 (by first | (clear g32 hps29 hps25 g24 hps22 g9 hps7; omega) | (clear hps29 hps25 g24 hps22 g9 hps7; omega) | omega) hps33 (show iI s29 102 = iI s 102 from fm_i Gs29 (by decide)) (show iI s29 103 = iI s 103 from fm_i Gs29 (by decide)) (fun p => show iC s29 398 p = iC s 398 p from fm_c Gs29 (by decide)) rfl⟩⟩
        ·
          refine z_const X rfl ?_
          exact w_iret X.1 q hRt rfl (ax_d X (show cdA 277 49 = some (.ireturn, 1, 0, 0, 0) from rfl)) (Nat.zero_le _) (Nat.zero_le _) ⟨_, rfl, Is29, Gs29, JRLx_s29, (-1), rfl, (by decide), Or.inl ⟨by first | exact ⟨oq_fcd95e52 g9 hps7, oq_7e545af9 g9 hps7⟩ | omega, by first | exact ⟨oq_0159bb48 g24 hps22, oq_8b498cf6 g24 hps22⟩ | omega, by first | exact oq_48a52f1b ws29_73 b27.1 hps25 vs6 | omega, by first | (clear hps29 hps25 g24 hps22 g9 hps7; omega) | (clear hps25 g24 hps22 g9 hps7; omega) | omega, Or.inl ⟨rfl, plt_no hj.2.2 (by first | (clear hps29 hps25 g24 hps22 g9 hps7; omega) | (clear hps25 g24 hps22 g9 hps7; omega) | omega)⟩⟩⟩
      ·
        refine z_const X rfl ?_
        exact w_iret X.1 q hRt rfl (ax_d X (show cdA 277 39 = some (.ireturn, 1, 0, 0, 0) from rfl)) (Nat.zero_le _) (Nat.zero_le _) ⟨_, rfl, Is25, Gs25, JRLx_s25, 0, rfl, (by decide), Or.inr ⟨by first | exact oq_98b7a510 g28 hps25 vs6 | omega, by first | exact oq_df0d149a g28 hps25 vs6 | omega, by first | exact oq_f34933ba ws25_89 ws6_89 p2 b3.1 | omega⟩⟩
    ·
      refine z_const X rfl (z_goto X (t := 31) rfl rfl (z_const X rfl (zcV_i0 X E 179 (As := [.int (Int32.ofInt 1), .int (Int32.ofInt 1)]) (st := []) rfl rfl rfl rfl (k_bad2 G Is6 (by first | exact Or.inr (by decide) | omega) (by first | exact ⟨by decide, by decide⟩ | omega)) rfl (Nat.le_of_ble_eq_true rfl) (fun s37 e38 Is37 Fs37 hrs37 hps37 => ?_))))
      have Gs37 := fm_tq Fs6 Fs37 rfl rfl
      have JRLx_s37 : RLx s37 := RLx_fm Fs37 (by decide) JRLx_s6
      have JMDJ_s37 : MDJ U s37 := MDJ_fm Fs37 (by decide) JMDJ_s6
      have JMJJ_s37 : MJJ Jn s37 := MJJ_fm Fs37 (by decide) JMJJ_s6
      have b39 := bi_73 Is37
      have ws37_99 : iI s37 99 = iI s6 99 := fm_iq Fs37 rfl
      have ws37_89 : iI s37 89 = iI s6 89 := fm_iq Fs37 rfl
      have ws37_96 : iI s37 96 = iI s6 96 := fm_iq Fs37 rfl
      have ws37_104 : iI s37 104 = iI s6 104 := fm_iq Fs37 rfl
      refine z_if_eq X (t := 40) rfl rfl hrs37 (fun g40 => ?_) (fun g40 => ?_)
      ·
        refine z_aload_n X (x := A 179) rfl (List.Mem.head _) (z_load_n X (x := y) rfl (List.Mem.tail _ (List.Mem.tail _ (List.Mem.head _))) (zcV_i1 X E 179 (As := [.int (Int32.ofInt y)]) (st := []) rfl rfl rfl rfl (k_findPlan7 G Is37 JRLx_s37 JMDJ_s37 JMJJ_s37 (by first | exact ⟨oq_674898f9 g40 hps37 vs6, oq_48516caf g40 hps37 vs6⟩ | omega) (by first | exact oq_f34933ba ws37_89 ws6_89 p2 b3.1 | omega)) rfl (Nat.le_of_ble_eq_true rfl) (fun s41 e42 Is41 Fs41 JRLx_s41 hrs41 hps41 => ?_)))
        have hps41p := And.intro hps41.2.1 (hps41.2.2)
        have Gs41 := fm_ts Gs37 Fs41 (by decide) (by decide +kernel)
        have JRLx_s41 : RLx s41 := RLx_fm Fs41 (by decide) JRLx_s37
        have JMDJ_s41 : MDJ U s41 := MDJ_fm Fs41 (by decide) JMDJ_s37
        have JMJJ_s41 : MJJ Jn s41 := MJJ_fm Fs41 (by decide) JMJJ_s37
        have ws41_73 : iI s41 73 = iI s37 73 := fm_iq Fs41 rfl
        have ws41_99 : iI s41 99 = iI s37 99 := fm_iq Fs41 rfl
        have b43 := bi_89 Is41
        have ws41_96 : iI s41 96 = iI s37 96 := fm_iq Fs41 rfl
        have ws41_104 : iI s41 104 = iI s37 104 := fm_iq Fs41 rfl
        have eQ : (QD U Jn (iI s37 99) (iI s37 96) (fun j => iC s37 237 j) (pfM s37) (fun j => iC s37 229 j)) = (QD U Jn (iI s 99) (iI s 96) (fun j => iC s 237 j) (pfM s) (fun j => iC s 229 j)) := qd_c (by first | (clear hps41 hps37 hps22 g9 hps7; omega) | (clear hps37 hps22 g9 hps7; omega) | omega) (by first | (clear hps41 hps37 hps22 g9 hps7; omega) | (clear hps37 hps22 g9 hps7; omega) | omega) (fun j _ => fm_c Gs37 (by decide)) (fun j _ => fm_c Gs37 (by decide)) (fun j _ => fm_c Gs37 (by decide))
        have hj := hps41
        rw [eQ] at hj
        refine z_if_ne X (t := 50) rfl rfl hrs41 (fun g44 => ?_) (fun g44 => ?_)
        ·
          refine z_aload_n X (x := A 179) rfl (List.Mem.head _) (z_load_n X (x := x) rfl (List.Mem.tail _ (List.Mem.head _)) (z_callV X 179 (rm := rmN 275) (As := [.int (Int32.ofInt x)]) (st := []) rfl rfl (by decide) rfl (by rw [E.1, E.2.1, E.2.2.1]; exact k_findRota7 G Is41 (by first | exact ⟨oq_fcd95e52 g9 hps7, oq_7e545af9 g9 hps7⟩ | omega) ((nde_r (nde_m hj.2.2 (by first | (clear g44 hps41 hps37 hps22 g9 hps7; omega) | (clear hps41 hps37 hps22 g9 hps7; omega) | omega)) qd_n))) ⟨by rw [E.2.2.2]; exact (show (rmN 275).frames + 1 ≤ (rmN 277).frames by decide), by rw [E.2.2.2]; exact (show 8 + (mNL (miB 275) + 11) + (rmN 275).locals ≤ (rmN 277).locals by decide), by rw [E.2.2.2]; exact (show 0 + 3 ≤ 3 by decide), by rw [E.2.2.2]; exact (show 0 + 24 ≤ 24 by decide)⟩ (Nat.le_of_ble_eq_true rfl) (fun vv s45 hq => ?_) (fun ee s45 hq => ?_)))
          rotate_left
          · obtain ⟨Is45, Fs45, hv, hps45⟩ := hq; cases hv
          obtain ⟨Is45, Fs45, hv, hps45⟩ := hq
          cases hv
          have Gs45 := fm_tq Gs41 Fs45 rfl rfl
          have JRLx_s45 : RLx s45 := RLx_fm Fs45 (by decide) JRLx_s41
          have JMDJ_s45 : MDJ U s45 := MDJ_fm Fs45 (by decide) JMDJ_s41
          have JMJJ_s45 : MJJ Jn s45 := MJJ_fm Fs45 (by decide) JMJJ_s41
          have ws45_73 : iI s45 73 = iI s41 73 := fm_iq Fs45 rfl
          have ws45_99 : iI s45 99 = iI s41 99 := fm_iq Fs45 rfl
          have ws45_89 : iI s45 89 = iI s41 89 := fm_iq Fs45 rfl
          have ws45_96 : iI s45 96 = iI s41 96 := fm_iq Fs45 rfl
          have b47 := bi_104 Is45
          show WS k 55 [(0, .ref (A 179)), (1, .int (Int32.ofInt x)), (2, .int (Int32.ofInt y))] [] (Wd A dT s45) 3 24
          refine z_aload_n X (x := A 179) rfl (List.Mem.head _) (z_getI X 179 rfl (c518_ok rfl) rfl rfl ?_)
          have b48 := bi_104 Is45
          exact w_iret X.1 q hRt rfl (ax_d X (show cdA 277 59 = some (.ireturn, 1, 0, 0, 0) from rfl)) (show 3 ≤ 3 by decide) (show 24 ≤ 24 by decide) ⟨_, rfl, Is45, Gs45, JRLx_s45, (iI s45 104), rfl, (rng_to _), Or.inl ⟨by first | exact ⟨oq_fcd95e52 g9 hps7, oq_7e545af9 g9 hps7⟩ | omega, by first | exact ⟨oq_674898f9 g40 hps37 vs6, oq_48516caf g40 hps37 vs6⟩ | omega, by first | exact oq_300138af ws45_73 ws41_73 g40 b39.1 hps37 vs6 | omega, by first | exact oq_f2ff104a g40 hps37 vs6 | omega, lka_m hj.2.2 (by first | (clear g44 hps41 hps37 hps22 g9 hps7; omega) | (clear hps41 hps37 hps22 g9 hps7; omega) | omega) hps45 (show iI s41 102 = iI s 102 from fm_i Gs41 (by decide)) (show iI s41 103 = iI s 103 from fm_i Gs41 (by decide)) (fun p => show iC s41 398 p = iC s 398 p from fm_c Gs41 (by decide)) rfl⟩⟩
        ·
          refine z_const X rfl ?_
          exact w_iret X.1 q hRt rfl (ax_d X (show cdA 277 49 = some (.ireturn, 1, 0, 0, 0) from rfl)) (Nat.zero_le _) (Nat.zero_le _) ⟨_, rfl, Is41, Gs41, JRLx_s41, (-1), rfl, (by decide), Or.inl ⟨by first | exact ⟨oq_fcd95e52 g9 hps7, oq_7e545af9 g9 hps7⟩ | omega, by first | exact ⟨oq_674898f9 g40 hps37 vs6, oq_48516caf g40 hps37 vs6⟩ | omega, by first | exact oq_8c407924 ws41_73 g40 b39.1 hps37 vs6 | omega, by first | exact oq_f2ff104a g40 hps37 vs6 | omega, Or.inl ⟨rfl, plt_no hj.2.2 (by first | (clear hps41 hps37 hps22 g9 hps7; omega) | (clear hps37 hps22 g9 hps7; omega) | omega)⟩⟩⟩
      ·
        refine z_const X rfl ?_
        exact w_iret X.1 q hRt rfl (ax_d X (show cdA 277 39 = some (.ireturn, 1, 0, 0, 0) from rfl)) (Nat.zero_le _) (Nat.zero_le _) ⟨_, rfl, Is37, Gs37, JRLx_s37, 0, rfl, (by decide), Or.inr ⟨by first | exact oq_e5fa0814 g24 hps22 | omega, by first | exact oq_faabd673 g40 hps37 vs6 | omega, by first | exact oq_f34933ba ws37_89 ws6_89 p2 b3.1 | omega⟩⟩
set_option maxRecDepth 4000 in
theorem k_enough7 (G : GX l s0 D tys a0 dT) {U : AirD} {Jn : List Int → Prop} (I : Bd s) (jRLx : RLx s) (jMDJ : MDJ U s) (jMJJ : MJJ Jn s) {x : Int} (p0 : rng x) (p1 : iI s 89 = 1) : CT l s0 D A dT 278 (rmN 278) [.ref (A 179), .int (Int32.ofInt x)] s (fun o t => Bd t ∧ Fm [73, 89, 104, 77, 75, 78, 79, 80, 81] [161, 202, 203, 204, 205, 206, 207, 208, 209, 210, 211, 212, 213, 214, 215, 216, 217, 218, 219, 220, 221, 222, 223, 224, 225, 226, 227, 230, 395, 396, 245, 246, 247, 248, 249, 250, 251, 252, 253, 254, 255, 256, 257, 258, 259, 260, 261, 262, 263, 264, 265, 266, 267, 268, 269, 270, 271, 272, 273, 274, 275, 276, 277, 278, 279, 280, 281, 282, 283, 284, 285, 286, 287, 288, 289, 290, 291, 292, 293, 294, 295, 296, 297, 298, 299, 300, 301, 302, 303, 304, 305, 306, 307, 308, 309, 310, 311, 312, 313, 314, 315, 316, 317, 318, 319, 320, 321, 322, 323, 324, 325, 326, 327, 328, 329, 330, 331, 332, 333, 334, 335, 336, 337, 338, 339, 340, 341, 342, 343, 344, 345, 346, 347, 348, 349, 350, 351, 352, 353, 354, 355, 356, 357, 358, 359, 360, 361, 362, 363, 364, 365, 366, 367, 368, 369, 370, 371, 372, 373, 374, 375, 376, 377, 378, 379, 380, 381, 382, 383, 384, 385, 386, 387, 388, 389, 390, 391, 392, 393, 394, 397] s t ∧ RLx t ∧ ∃ e, o = .inl (some (.int (Int32.ofInt e))) ∧ rng e ∧ (((0 ≤ x ∧ x ≤ 23) ∧ iI t 73 = 0 ∧ iI t 89 = 1 ∧ ENA (QD U Jn (iI s 99) (iI s 96) (fun j => iC s 237 j) (pfM s) (fun j => iC s 229 j)) (x : Int).toNat (iI s 102) (iI s 103) (fun p => iC s 398 p) e) ∨ ((x < 0 ∨ 23 < x) ∧ iI t 73 = 1 ∧ iI t 89 = 1))) := by
  refine ct_of G (by decide) (Nat.le_of_ble_eq_true rfl) (fun k X E hRt hXt q => ?_)
  show WS k 0 [(0, .ref (A 179)), (1, .int (Int32.ofInt x))] [] _ 0 0
  have F : Fm [73, 89, 104, 77, 75, 78, 79, 80, 81] [161, 202, 203, 204, 205, 206, 207, 208, 209, 210, 211, 212, 213, 214, 215, 216, 217, 218, 219, 220, 221, 222, 223, 224, 225, 226, 227, 230, 395, 396, 245, 246, 247, 248, 249, 250, 251, 252, 253, 254, 255, 256, 257, 258, 259, 260, 261, 262, 263, 264, 265, 266, 267, 268, 269, 270, 271, 272, 273, 274, 275, 276, 277, 278, 279, 280, 281, 282, 283, 284, 285, 286, 287, 288, 289, 290, 291, 292, 293, 294, 295, 296, 297, 298, 299, 300, 301, 302, 303, 304, 305, 306, 307, 308, 309, 310, 311, 312, 313, 314, 315, 316, 317, 318, 319, 320, 321, 322, 323, 324, 325, 326, 327, 328, 329, 330, 331, 332, 333, 334, 335, 336, 337, 338, 339, 340, 341, 342, 343, 344, 345, 346, 347, 348, 349, 350, 351, 352, 353, 354, 355, 356, 357, 358, 359, 360, 361, 362, 363, 364, 365, 366, 367, 368, 369, 370, 371, 372, 373, 374, 375, 376, 377, 378, 379, 380, 381, 382, 383, 384, 385, 386, 387, 388, 389, 390, 391, 392, 393, 394, 397] s s := fm_rf _ _ s
  have b1 := bi_73 I
  have b2 := bi_99 I
  have b3 := bi_89 I
  have b4 := bi_96 I
  have b5 := bi_104 I
  have L42 : ∀ (n : Nat) (t : PS) (xv nn : Int), Bd t → Fm [73, 89, 104, 77, 75, 78, 79, 80, 81] [161, 202, 203, 204, 205, 206, 207, 208, 209, 210, 211, 212, 213, 214, 215, 216, 217, 218, 219, 220, 221, 222, 223, 224, 225, 226, 227, 230, 395, 396, 245, 246, 247, 248, 249, 250, 251, 252, 253, 254, 255, 256, 257, 258, 259, 260, 261, 262, 263, 264, 265, 266, 267, 268, 269, 270, 271, 272, 273, 274, 275, 276, 277, 278, 279, 280, 281, 282, 283, 284, 285, 286, 287, 288, 289, 290, 291, 292, 293, 294, 295, 296, 297, 298, 299, 300, 301, 302, 303, 304, 305, 306, 307, 308, 309, 310, 311, 312, 313, 314, 315, 316, 317, 318, 319, 320, 321, 322, 323, 324, 325, 326, 327, 328, 329, 330, 331, 332, 333, 334, 335, 336, 337, 338, 339, 340, 341, 342, 343, 344, 345, 346, 347, 348, 349, 350, 351, 352, 353, 354, 355, 356, 357, 358, 359, 360, 361, 362, 363, 364, 365, 366, 367, 368, 369, 370, 371, 372, 373, 374, 375, 376, 377, 378, 379, 380, 381, 382, 383, 384, 385, 386, 387, 388, 389, 390, 391, 392, 393, 394, 397] s t → RLx t → MDJ U t → MJJ Jn t → (ENM (QD U Jn (iI s 99) (iI s 96) (fun j => iC s 237 j) (pfM s) (fun j => iC s 229 j)) (x : Int).toNat (iI s 102) (iI s 103) (fun p => iC s 398 p) nn t) → ((xv = x ∧ 0 ≤ x ∧ x ≤ 23) ∧ 1 ≤ nn ∧ nn ≤ 9 ∧ iI t 73 = 0 ∧ iI t 89 = 1) → (9 - nn : Int).toNat < n → (∀ (t' : PS) (nn' : Int), Bd t' → Fm [73, 89, 104, 77, 75, 78, 79, 80, 81] [161, 202, 203, 204, 205, 206, 207, 208, 209, 210, 211, 212, 213, 214, 215, 216, 217, 218, 219, 220, 221, 222, 223, 224, 225, 226, 227, 230, 395, 396, 245, 246, 247, 248, 249, 250, 251, 252, 253, 254, 255, 256, 257, 258, 259, 260, 261, 262, 263, 264, 265, 266, 267, 268, 269, 270, 271, 272, 273, 274, 275, 276, 277, 278, 279, 280, 281, 282, 283, 284, 285, 286, 287, 288, 289, 290, 291, 292, 293, 294, 295, 296, 297, 298, 299, 300, 301, 302, 303, 304, 305, 306, 307, 308, 309, 310, 311, 312, 313, 314, 315, 316, 317, 318, 319, 320, 321, 322, 323, 324, 325, 326, 327, 328, 329, 330, 331, 332, 333, 334, 335, 336, 337, 338, 339, 340, 341, 342, 343, 344, 345, 346, 347, 348, 349, 350, 351, 352, 353, 354, 355, 356, 357, 358, 359, 360, 361, 362, 363, 364, 365, 366, 367, 368, 369, 370, 371, 372, 373, 374, 375, 376, 377, 378, 379, 380, 381, 382, 383, 384, 385, 386, 387, 388, 389, 390, 391, 392, 393, 394, 397] s t' → RLx t' → MDJ U t' → MJJ Jn t' → (ENM (QD U Jn (iI s 99) (iI s 96) (fun j => iC s 237 j) (pfM s) (fun j => iC s 229 j)) (x : Int).toNat (iI s 102) (iI s 103) (fun p => iC s 398 p) nn' t') → ((0 ≤ x ∧ x ≤ 23) ∧ nn' = 9 ∧ iI t' 73 = 0 ∧ iI t' 89 = 1) → WS k 68 [(0, .ref (A 179)), (1, .int (Int32.ofInt xv)), (2, .int (Int32.ofInt nn'))] [] (Wd A dT t') (3 * (nn' - 1 : Int).toNat) (24 * (nn' - 1 : Int).toNat)) → WS k 42 [(0, .ref (A 179)), (1, .int (Int32.ofInt xv)), (2, .int (Int32.ofInt nn))] [] (Wd A dT t) (3 * (nn - 1 : Int).toNat) (24 * (nn - 1 : Int).toNat) := by
    intro n
    induction n with
    | zero =>
      intro t xv nn I F jjRLx jjMDJ jjMJJ hq hi hm kx
      exact absurd hm (Nat.not_lt_zero _)
    | succ n ih =>
      intro t xv nn I F jjRLx jjMDJ jjMJJ hq hi hm kx
      have b1001 := bi_73 I
      have b1002 := bi_99 I
      have b1003 := bi_89 I
      have b1004 := bi_96 I
      have b1005 := bi_104 I
      refine z_load_n X (x := nn) rfl (List.Mem.tail _ (List.Mem.tail _ (List.Mem.head _))) (z_bipush X rfl (z_icmp_gt X (t := 68) rfl rfl ⟨by first | exact oq_9462313e hi.2.1 | omega, by first | exact oq_f7e7bb0e hi.2.2.1 | omega⟩ (by decide) (fun g1006 => ?_) (fun g1006 => ?_)))
      ·
        refine WS_pq [0, 1, 2] (lv' := [(0, .ref (A 179)), (1, .int (Int32.ofInt xv)), (2, .int (Int32.ofInt nn))]) rfl ?_
        exact kx _ nn I F jjRLx jjMDJ jjMJJ hq (by first | exact ⟨And.intro (hi.1.2.1) (hi.1.2.2), oq_cbfce7f9 hi.2.2.1 g1006, hi.2.2.2.1, hi.2.2.2.2⟩ | omega)
      ·
        refine z_aload_n X (x := A 179) rfl (List.Mem.head _) (z_load_n X (x := nn) rfl (List.Mem.tail _ (List.Mem.tail _ (List.Mem.head _))) (z_callV X 179 (rm := rmN 275) (As := [.int (Int32.ofInt nn)]) (st := []) rfl rfl (by decide) rfl (by rw [E.1, E.2.1, E.2.2.1]; exact k_findRota7 G I (by first | exact ⟨hi.2.1, g1006⟩ | omega) ((enm_nd hq qd_n))) ⟨by rw [E.2.2.2]; exact (show (rmN 275).frames + 1 ≤ (rmN 278).frames by decide), by rw [E.2.2.2]; exact (show 8 + (mNL (miB 275) + 11) + (rmN 275).locals ≤ (rmN 278).locals by decide), by rw [E.2.2.2]; exact (show (3 * (nn - 1 : Int).toNat) + 3 ≤ 24 by omega), by rw [E.2.2.2]; exact (show (24 * (nn - 1 : Int).toNat) + 24 ≤ 192 by omega)⟩ (Nat.le_of_ble_eq_true rfl) (fun vv s1007 hq => ?_) (fun ee s1007 hq => ?_)))
        rotate_left
        · obtain ⟨Is1007, Fs1007, hv, hps1007⟩ := hq; cases hv
        obtain ⟨Is1007, Fs1007, hv, hps1007⟩ := hq
        cases hv
        have Gs1007 := fm_tq F Fs1007 rfl rfl
        have JRLx_s1007 : RLx s1007 := RLx_fm Fs1007 (by decide) jjRLx
        have JMDJ_s1007 : MDJ U s1007 := MDJ_fm Fs1007 (by decide) jjMDJ
        have JMJJ_s1007 : MJJ Jn s1007 := MJJ_fm Fs1007 (by decide) jjMJJ
        have ws1007_73 : iI s1007 73 = iI t 73 := fm_iq Fs1007 rfl
        have ws1007_99 : iI s1007 99 = iI t 99 := fm_iq Fs1007 rfl
        have ws1007_89 : iI s1007 89 = iI t 89 := fm_iq Fs1007 rfl
        have ws1007_96 : iI s1007 96 = iI t 96 := fm_iq Fs1007 rfl
        have b1009 := bi_104 Is1007
        show WS k 53 [(0, .ref (A 179)), (1, .int (Int32.ofInt xv)), (2, .int (Int32.ofInt nn))] [] (Wd A dT s1007) ((3 * (nn - 1 : Int).toNat) + 3) ((24 * (nn - 1 : Int).toNat) + 24)
        refine z_aload_n X (x := A 179) rfl (List.Mem.head _) (z_getI X 179 rfl (c518_ok rfl) rfl rfl ?_)
        have b1010 := bi_104 Is1007
        refine z_if_ne X (t := 62) rfl rfl (rng_to _) (fun g1011 => ?_) (fun g1011 => ?_)
        ·
          refine z_inc X (x := nn) (lv' := [(2, .int (Int32.ofInt (nn + 1))), (0, .ref (A 179)), (1, .int (Int32.ofInt xv))]) rfl (by decide) (List.Mem.tail _ (List.Mem.tail _ (List.Mem.head _))) (fun _ h => h) (z_goto X (t := 42) rfl rfl (WS_pq [1, 2, 0] (lv' := [(0, .ref (A 179)), (1, .int (Int32.ofInt xv)), (2, .int (Int32.ofInt (nn + 1)))]) rfl (w_widen (ce' := (3 * ((nn + 1) - 1 : Int).toNat)) (sl' := (24 * ((nn + 1) - 1 : Int).toNat)) (by first | (clear g1011; omega) | omega) (by first | (clear g1011; omega) | omega) ?_)))
          exact ih _ xv (nn + 1) Is1007 Gs1007 JRLx_s1007 JMDJ_s1007 JMJJ_s1007 (enm_up hq hps1007 (show iI t 102 = iI s 102 from fm_i F (by decide)) (show iI t 103 = iI s 103 from fm_i F (by decide)) (fun p => show iC t 398 p = iC s 398 p from fm_c F (by decide)) (sam_fm Fs1007 (by decide)) (by first | (clear g1011; omega) | omega) (by first | (clear g1011; omega) | omega)) (by first | exact ⟨And.intro (hi.1.1) (And.intro (hi.1.2.1) (hi.1.2.2)), oq_1e1a2df6 hi.2.1, oq_c5edd56f g1006, oq_333640b7 ws1007_73 hi.2.2.2.1 b1001.1, oq_b44a1c7f ws1007_89 hi.2.2.2.2 b1003.1⟩ | omega) (by first | exact qk_me hm (by decide) (oq_fa1cb672 g1006) | omega) kx
        ·
          refine z_load_n X (x := nn) rfl (List.Mem.tail _ (List.Mem.tail _ (List.Mem.head _))) ?_
          exact w_iret X.1 q hRt rfl (ax_d X (show cdA 278 61 = some (.ireturn, 1, 0, 0, 0) from rfl)) (show ((3 * (nn - 1 : Int).toNat) + 3) ≤ 24 by omega) (show ((24 * (nn - 1 : Int).toNat) + 24) ≤ 192 by omega) ⟨_, rfl, Is1007, Gs1007, JRLx_s1007, nn, rfl, ⟨by first | exact oq_9462313e hi.2.1 | omega, by first | exact oq_d3f5d874 g1006 | omega⟩, Or.inl ⟨by first | exact ⟨hi.1.2.1, hi.1.2.2⟩ | omega, by first | exact oq_333640b7 ws1007_73 hi.2.2.2.1 b1001.1 | omega, by first | exact oq_b44a1c7f ws1007_89 hi.2.2.2.2 b1003.1 | omega, enm_y hq hps1007 (show iI t 102 = iI s 102 from fm_i F (by decide)) (show iI t 103 = iI s 103 from fm_i F (by decide)) (fun p => show iC t 398 p = iC s 398 p from fm_c F (by decide)) (by omega) (by omega)⟩⟩
  refine z_aload_n X (x := A 179) rfl (List.Mem.head _) (z_const X rfl (s_putI X 179 rfl (c518_ok rfl) rfl rfl (by decide) rfl rfl rfl (wd_gen (fun s6 hs6 => ?_))))
  have Is6 : Bd s6 := eqB hs6 (bd_I I (show (0 : Int) ≤ 0 ∧ 0 ≤ 3 by first | exact ⟨by decide, by decide⟩ | omega) (by decide))
  have Fs6 := eqF hs6 (fm_I F (inl_ok (a := 73) rfl))
  have vs6 : iI s6 73 = 0 := eqI hs6 (iI_u (by decide))
  have ws6_99 : iI s6 99 = iI s 99 := eqI hs6 rfl
  have ws6_89 : iI s6 89 = iI s 89 := eqI hs6 rfl
  have ws6_96 : iI s6 96 = iI s 96 := eqI hs6 rfl
  have ws6_104 : iI s6 104 = iI s 104 := eqI hs6 rfl
  have fs6 : Fm [73] [] s s6 := by rw [hs6]; exact fm_I (fm_rf _ _ _) (show 73 ∈ _ by decide)
  have JRLx_s6 : RLx s6 := RLx_fm fs6 (by decide) jRLx
  have JMDJ_s6 : MDJ U s6 := MDJ_fm fs6 (by decide) jMDJ
  have JMJJ_s6 : MJJ Jn s6 := MJJ_fm fs6 (by decide) jMJJ
  refine z_aload_n X (x := A 179) rfl (List.Mem.head _) (z_load_n X (x := x) rfl (List.Mem.tail _ (List.Mem.head _)) (z_const X rfl (z_bipush X rfl (z_callS X (rm := rmN 188) (As := [.int (Int32.ofInt x), .int (Int32.ofInt 0), .int (Int32.ofInt 23)]) (st := [.ref (A 179)]) rfl rfl (by rw [E.1, E.2.1, E.2.2.1]; exact k_in2 G Is6 (by first | exact ⟨p0.1, p0.2⟩ | omega) (by first | exact ⟨by decide, by decide⟩ | omega) (by first | exact ⟨by decide, by decide⟩ | omega)) ⟨by rw [E.2.2.2]; exact (show (rmN 188).frames + 1 ≤ (rmN 278).frames by decide), by rw [E.2.2.2]; exact (show 8 + (mNL (miB 188) + 11) + (rmN 188).locals ≤ (rmN 278).locals by decide), by rw [E.2.2.2]; exact (show 0 + (rmN 188).cells ≤ (rmN 278).cells by decide), by rw [E.2.2.2]; exact (show 0 + (rmN 188).slots ≤ (rmN 278).slots by decide)⟩ (Nat.le_of_ble_eq_true rfl) (fun vv s7 hq => ?_) (fun ee s7 hq => ?_)))))
  rotate_left
  · obtain ⟨rfl, e8, hv, hrs7, hps7⟩ := hq; cases hv
  obtain ⟨rfl, e8, hv, hrs7, hps7⟩ := hq
  cases hv
  show WS k 13 [(0, .ref (A 179)), (1, .int (Int32.ofInt x))] [.int (Int32.ofInt e8), .ref (A 179)] (Wd A dT s6) 0 0
  refine z_if_ne X (t := 20) rfl rfl hrs7 (fun g9 => ?_) (fun g9 => ?_)
  ·
    refine z_const X rfl (z_const X rfl (zcV_i0 X E 179 (As := [.int (Int32.ofInt 0), .int (Int32.ofInt 1)]) (st := []) rfl rfl rfl rfl (k_bad2 G Is6 (by first | exact Or.inl (by decide) | omega) (by first | exact ⟨by decide, by decide⟩ | omega)) rfl (Nat.le_of_ble_eq_true rfl) (fun s10 e11 Is10 Fs10 hrs10 hps10 => ?_)))
    have Gs10 := fm_tq Fs6 Fs10 rfl rfl
    have JRLx_s10 : RLx s10 := RLx_fm Fs10 (by decide) JRLx_s6
    have JMDJ_s10 : MDJ U s10 := MDJ_fm Fs10 (by decide) JMDJ_s6
    have JMJJ_s10 : MJJ Jn s10 := MJJ_fm Fs10 (by decide) JMJJ_s6
    have b12 := bi_73 Is10
    have ws10_99 : iI s10 99 = iI s6 99 := fm_iq Fs10 rfl
    have ws10_89 : iI s10 89 = iI s6 89 := fm_iq Fs10 rfl
    have ws10_96 : iI s10 96 = iI s6 96 := fm_iq Fs10 rfl
    have ws10_104 : iI s10 104 = iI s6 104 := fm_iq Fs10 rfl
    refine z_if_eq X (t := 30) rfl rfl hrs10 (fun g13 => ?_) (fun g13 => ?_)
    ·
      refine z_aload_n X (x := A 179) rfl (List.Mem.head _) (z_load_n X (x := x) rfl (List.Mem.tail _ (List.Mem.head _)) (zcV_i1 X E 179 (As := [.int (Int32.ofInt x)]) (st := []) rfl rfl rfl rfl (k_findPlan7 G Is10 JRLx_s10 JMDJ_s10 JMJJ_s10 (by first | exact ⟨oq_0159bb48 g9 hps7, oq_8b498cf6 g9 hps7⟩ | omega) (by first | exact oq_f34933ba ws10_89 ws6_89 p1 b3.1 | omega)) rfl (Nat.le_of_ble_eq_true rfl) (fun s14 e15 Is14 Fs14 JRLx_s14 hrs14 hps14 => ?_)))
      have hps14p := And.intro hps14.2.1 (hps14.2.2)
      have Gs14 := fm_ts Gs10 Fs14 (by decide) (by decide +kernel)
      have JRLx_s14 : RLx s14 := RLx_fm Fs14 (by decide) JRLx_s10
      have JMDJ_s14 : MDJ U s14 := MDJ_fm Fs14 (by decide) JMDJ_s10
      have JMJJ_s14 : MJJ Jn s14 := MJJ_fm Fs14 (by decide) JMJJ_s10
      have ws14_73 : iI s14 73 = iI s10 73 := fm_iq Fs14 rfl
      have ws14_99 : iI s14 99 = iI s10 99 := fm_iq Fs14 rfl
      have b16 := bi_89 Is14
      have ws14_96 : iI s14 96 = iI s10 96 := fm_iq Fs14 rfl
      have ws14_104 : iI s14 104 = iI s10 104 := fm_iq Fs14 rfl
      have eQ : (QD U Jn (iI s10 99) (iI s10 96) (fun j => iC s10 237 j) (pfM s10) (fun j => iC s10 229 j)) = (QD U Jn (iI s 99) (iI s 96) (fun j => iC s 237 j) (pfM s) (fun j => iC s 229 j)) := qd_c (by first | (clear hps14 hps10 g9 hps7; omega) | (clear hps10 g9 hps7; omega) | omega) (by first | (clear hps14 hps10 g9 hps7; omega) | (clear hps10 g9 hps7; omega) | omega) (fun j _ => fm_c Gs10 (by decide)) (fun j _ => fm_c Gs10 (by decide)) (fun j _ => fm_c Gs10 (by decide))
      have hj := hps14
      rw [eQ] at hj
      refine z_if_ne X (t := 40) rfl rfl hrs14 (fun g17 => ?_) (fun g17 => ?_)
      ·
        refine z_const X rfl (z_store_n X (lv' := [(2, .int (Int32.ofInt 1)), (0, .ref (A 179)), (1, .int (Int32.ofInt x))]) rfl (by decide) (fun _ h => h) (WS_pq [1, 2, 0] (lv' := [(0, .ref (A 179)), (1, .int (Int32.ofInt x)), (2, .int (Int32.ofInt 1))]) rfl (w_widen (ce' := (3 * (1 - 1 : Int).toNat)) (sl' := (24 * (1 - 1 : Int).toNat)) (by first | (clear g17 hps14 hps10 g9 hps7; omega) | (clear hps14 hps10 g9 hps7; omega) | omega) (by first | (clear g17 hps14 hps10 g9 hps7; omega) | (clear hps14 hps10 g9 hps7; omega) | omega) (L42 ((9 - 1 : Int).toNat + 1) s14 x 1 Is14 Gs14 JRLx_s14 JMDJ_s14 JMJJ_s14 (enm_1 (nde_m hj.2.2 (by first | (clear g17 hps14 hps10 g9 hps7; omega) | (clear hps14 hps10 g9 hps7; omega) | omega))) (by first | exact ⟨oq_85e7a08f g9 hps7, by decide, by decide, oq_48a52f1b ws14_73 b12.1 hps10 vs6, by first | (clear g17 hps14 hps10 g9 hps7; omega) | (clear hps14 hps10 g9 hps7; omega) | omega⟩ | omega) (Nat.lt_succ_self _) ?_))))
        intro s18 x19 Is18 Fs18 JRLx_s18 JMDJ_s18 JMJJ_s18 Qs18 hs18
        have b20 := bi_73 Is18
        have b21 := bi_99 Is18
        have b22 := bi_89 Is18
        have b23 := bi_96 Is18
        have b24 := bi_104 Is18
        refine z_const X rfl ?_
        exact w_iret X.1 q hRt rfl (ax_d X (show cdA 278 69 = some (.ireturn, 1, 0, 0, 0) from rfl)) (show (3 * (x19 - 1 : Int).toNat) ≤ 24 by first | (clear g17 hps14 hps10 g9 hps7; omega) | (clear hps14 hps10 g9 hps7; omega) | omega) (show (24 * (x19 - 1 : Int).toNat) ≤ 192 by first | (clear g17 hps14 hps10 g9 hps7; omega) | (clear hps14 hps10 g9 hps7; omega) | omega) ⟨_, rfl, Is18, Fs18, JRLx_s18, (-1), rfl, (by decide), Or.inl ⟨by first | exact ⟨hs18.1.1, hs18.1.2⟩ | omega, by first | exact hs18.2.2.1 | omega, by first | exact hs18.2.2.2 | omega, enm_n Qs18 (by first | (clear g17 hps14 hps10 g9 hps7; omega) | (clear hps14 hps10 g9 hps7; omega) | omega)⟩⟩
      ·
        refine z_const X rfl ?_
        exact w_iret X.1 q hRt rfl (ax_d X (show cdA 278 39 = some (.ireturn, 1, 0, 0, 0) from rfl)) (Nat.zero_le _) (Nat.zero_le _) ⟨_, rfl, Is14, Gs14, JRLx_s14, (-1), rfl, (by decide), Or.inl ⟨by first | exact ⟨oq_0159bb48 g9 hps7, oq_8b498cf6 g9 hps7⟩ | omega, by first | exact oq_48a52f1b ws14_73 b12.1 hps10 vs6 | omega, by first | (clear hps14 hps10 g9 hps7; omega) | (clear hps10 g9 hps7; omega) | omega, Or.inl ⟨rfl, plt_no hj.2.2 (by first | (clear hps14 hps10 g9 hps7; omega) | (clear hps10 g9 hps7; omega) | omega)⟩⟩⟩
    ·
      refine z_const X rfl ?_
      exact w_iret X.1 q hRt rfl (ax_d X (show cdA 278 29 = some (.ireturn, 1, 0, 0, 0) from rfl)) (Nat.zero_le _) (Nat.zero_le _) ⟨_, rfl, Is10, Gs10, JRLx_s10, 0, rfl, (by decide), Or.inr ⟨by first | exact oq_c7ab5ef4 g13 hps10 vs6 | omega, by first | exact oq_df0d149a g13 hps10 vs6 | omega, by first | exact oq_f34933ba ws10_89 ws6_89 p1 b3.1 | omega⟩⟩
  ·
    refine z_const X rfl (z_goto X (t := 21) rfl rfl (z_const X rfl (zcV_i0 X E 179 (As := [.int (Int32.ofInt 1), .int (Int32.ofInt 1)]) (st := []) rfl rfl rfl rfl (k_bad2 G Is6 (by first | exact Or.inr (by decide) | omega) (by first | exact ⟨by decide, by decide⟩ | omega)) rfl (Nat.le_of_ble_eq_true rfl) (fun s25 e26 Is25 Fs25 hrs25 hps25 => ?_))))
    have Gs25 := fm_tq Fs6 Fs25 rfl rfl
    have JRLx_s25 : RLx s25 := RLx_fm Fs25 (by decide) JRLx_s6
    have JMDJ_s25 : MDJ U s25 := MDJ_fm Fs25 (by decide) JMDJ_s6
    have JMJJ_s25 : MJJ Jn s25 := MJJ_fm Fs25 (by decide) JMJJ_s6
    have b27 := bi_73 Is25
    have ws25_99 : iI s25 99 = iI s6 99 := fm_iq Fs25 rfl
    have ws25_89 : iI s25 89 = iI s6 89 := fm_iq Fs25 rfl
    have ws25_96 : iI s25 96 = iI s6 96 := fm_iq Fs25 rfl
    have ws25_104 : iI s25 104 = iI s6 104 := fm_iq Fs25 rfl
    refine z_if_eq X (t := 30) rfl rfl hrs25 (fun g28 => ?_) (fun g28 => ?_)
    ·
      refine z_aload_n X (x := A 179) rfl (List.Mem.head _) (z_load_n X (x := x) rfl (List.Mem.tail _ (List.Mem.head _)) (zcV_i1 X E 179 (As := [.int (Int32.ofInt x)]) (st := []) rfl rfl rfl rfl (k_findPlan7 G Is25 JRLx_s25 JMDJ_s25 JMJJ_s25 (by first | exact ⟨oq_674898f9 g28 hps25 vs6, oq_48516caf g28 hps25 vs6⟩ | omega) (by first | exact oq_f34933ba ws25_89 ws6_89 p1 b3.1 | omega)) rfl (Nat.le_of_ble_eq_true rfl) (fun s29 e30 Is29 Fs29 JRLx_s29 hrs29 hps29 => ?_)))
      have hps29p := And.intro hps29.2.1 (hps29.2.2)
      have Gs29 := fm_ts Gs25 Fs29 (by decide) (by decide +kernel)
      have JRLx_s29 : RLx s29 := RLx_fm Fs29 (by decide) JRLx_s25
      have JMDJ_s29 : MDJ U s29 := MDJ_fm Fs29 (by decide) JMDJ_s25
      have JMJJ_s29 : MJJ Jn s29 := MJJ_fm Fs29 (by decide) JMJJ_s25
      have ws29_73 : iI s29 73 = iI s25 73 := fm_iq Fs29 rfl
      have ws29_99 : iI s29 99 = iI s25 99 := fm_iq Fs29 rfl
      have b31 := bi_89 Is29
      have ws29_96 : iI s29 96 = iI s25 96 := fm_iq Fs29 rfl
      have ws29_104 : iI s29 104 = iI s25 104 := fm_iq Fs29 rfl
      have eQ : (QD U Jn (iI s25 99) (iI s25 96) (fun j => iC s25 237 j) (pfM s25) (fun j => iC s25 229 j)) = (QD U Jn (iI s 99) (iI s 96) (fun j => iC s 237 j) (pfM s) (fun j => iC s 229 j)) := qd_c (by first | (clear hps29 hps25 hps7; omega) | (clear hps25 hps7; omega) | omega) (by first | (clear hps29 hps25 hps7; omega) | (clear hps25 hps7; omega) | omega) (fun j _ => fm_c Gs25 (by decide)) (fun j _ => fm_c Gs25 (by decide)) (fun j _ => fm_c Gs25 (by decide))
      have hj := hps29
      rw [eQ] at hj
      refine z_if_ne X (t := 40) rfl rfl hrs29 (fun g32 => ?_) (fun g32 => ?_)
      ·
        refine z_const X rfl (z_store_n X (lv' := [(2, .int (Int32.ofInt 1)), (0, .ref (A 179)), (1, .int (Int32.ofInt x))]) rfl (by decide) (fun _ h => h) (WS_pq [1, 2, 0] (lv' := [(0, .ref (A 179)), (1, .int (Int32.ofInt x)), (2, .int (Int32.ofInt 1))]) rfl (w_widen (ce' := (3 * (1 - 1 : Int).toNat)) (sl' := (24 * (1 - 1 : Int).toNat)) (by first | (clear g32 hps29 hps25 hps7; omega) | (clear hps29 hps25 hps7; omega) | omega) (by first | (clear g32 hps29 hps25 hps7; omega) | (clear hps29 hps25 hps7; omega) | omega) (L42 ((9 - 1 : Int).toNat + 1) s29 x 1 Is29 Gs29 JRLx_s29 JMDJ_s29 JMJJ_s29 (enm_1 (nde_m hj.2.2 (by first | (clear g32 hps29 hps25 hps7; omega) | (clear hps29 hps25 hps7; omega) | omega))) (by first | exact ⟨oq_9eefc06b g28 hps25 vs6, by decide, by decide, oq_8c407924 ws29_73 g28 b27.1 hps25 vs6, oq_f2ff104a g28 hps25 vs6⟩ | omega) (Nat.lt_succ_self _) ?_))))
        intro s33 x34 Is33 Fs33 JRLx_s33 JMDJ_s33 JMJJ_s33 Qs33 hs33
        have b35 := bi_73 Is33
        have b36 := bi_99 Is33
        have b37 := bi_89 Is33
        have b38 := bi_96 Is33
        have b39 := bi_104 Is33
        refine z_const X rfl ?_
        exact w_iret X.1 q hRt rfl (ax_d X (show cdA 278 69 = some (.ireturn, 1, 0, 0, 0) from rfl)) (show (3 * (x34 - 1 : Int).toNat) ≤ 24 by first | (clear g32 hps29 hps25 hps7; omega) | (clear hps29 hps25 hps7; omega) | omega) (show (24 * (x34 - 1 : Int).toNat) ≤ 192 by first | (clear g32 hps29 hps25 hps7; omega) | (clear hps29 hps25 hps7; omega) | omega) ⟨_, rfl, Is33, Fs33, JRLx_s33, (-1), rfl, (by decide), Or.inl ⟨by first | exact ⟨hs33.1.1, hs33.1.2⟩ | omega, by first | exact hs33.2.2.1 | omega, by first | exact hs33.2.2.2 | omega, enm_n Qs33 (by first | (clear g32 hps29 hps25 hps7; omega) | (clear hps29 hps25 hps7; omega) | omega)⟩⟩
      ·
        refine z_const X rfl ?_
        exact w_iret X.1 q hRt rfl (ax_d X (show cdA 278 39 = some (.ireturn, 1, 0, 0, 0) from rfl)) (Nat.zero_le _) (Nat.zero_le _) ⟨_, rfl, Is29, Gs29, JRLx_s29, (-1), rfl, (by decide), Or.inl ⟨by first | exact ⟨oq_674898f9 g28 hps25 vs6, oq_48516caf g28 hps25 vs6⟩ | omega, by first | exact oq_8c407924 ws29_73 g28 b27.1 hps25 vs6 | omega, by first | exact oq_f2ff104a g28 hps25 vs6 | omega, Or.inl ⟨rfl, plt_no hj.2.2 (by first | (clear hps29 hps25 hps7; omega) | (clear hps25 hps7; omega) | omega)⟩⟩⟩
    ·
      refine z_const X rfl ?_
      exact w_iret X.1 q hRt rfl (ax_d X (show cdA 278 29 = some (.ireturn, 1, 0, 0, 0) from rfl)) (Nat.zero_le _) (Nat.zero_le _) ⟨_, rfl, Is25, Gs25, JRLx_s25, 0, rfl, (by decide), Or.inr ⟨by first | exact oq_bbd535f0 g9 hps7 | omega, by first | exact oq_faabd673 g28 hps25 vs6 | omega, by first | exact oq_f34933ba ws25_89 ws6_89 p1 b3.1 | omega⟩⟩
end M87kq
