/-! Rows that a method makes for itself: what they hold -/
/-- what stands at the j-th place of the m-th further row -/
def xF (t : PS) (m j : Nat) : Int32 := match (pX t)[m]? with
  | some (_, .inl (_, _, .inl f)) => f j
  | _ => 0
abbrev xV (m : Nat) (t : PS) (j : Nat) : Int := (xF t m j).toInt
theorem xF_at {X0 : va_W} {d : ClassId} {l : List (Nat × Nat)} {fs : Nat → Nat → Int32} {t : PS} (hf : pX t = X0 ++ exW d l fs) {i q n : Nat} (hl : l[i]? = some (q, n)) (j : Nat) : xF t (X0.length + i) j = fs i j := by
  unfold xF
  rw [hf, List.getElem?_append_right (by omega), show X0.length + i - X0.length = i by omega, exW_get hl]
theorem xF_fm {L M : List Nat} {s t : PS} {m j : Nat} (F : Fm L M s t) : xF t m j = xF s m j := by
  unfold xF
  rw [F.2.2.1]
theorem xV_fm {L M : List Nat} {s t : PS} {m j : Nat} (F : Fm L M s t) : xV m t j = xV m s j := congrArg Int32.toInt (xF_fm F)
theorem xV_C {s : PS} {m j a i : Nat} {x : Int32} : xV m (uC s a i x) j = xV m s j := rfl
theorem xV_I {s : PS} {m j k : Nat} {x : Int32} : xV m (uI s k x) j = xV m s j := rfl
section ZXE
variable {k : kx_T} {mn pc : Nat} {dT : Nat → ClassId} {lv : List (Nat × Value)} {st : List Value} {ce sl : Nat} {A : Nat → Nat} {s : PS} {X0 : va_W} {l : List (Nat × Nat)}
theorem z_xaldE (X : AX k mn dT) (e : EXl X0 (dT 0) l s) (i : Nat) {q n : Nat} {j : Int} (hl : l[i]? = some (q, n)) (h : cdA mn pc = some (.iaload, 1, 0, 0, 0)) (h0 : 0 ≤ j) (hj : j < (n : Int)) (hn : n < 2147483648) (g : WS k (pc + 1) lv (.int (Int32.ofInt (xV (X0.length + i) s j.toNat)) :: st) (Wd A dT s) ce sl) : WS k pc lv (.int (Int32.ofInt j) :: .ref q :: st) (Wd A dT s) ce sl := by
  obtain ⟨fs, hf⟩ := e
  have e2 : xV (X0.length + i) s j.toNat = (fs i j.toNat).toInt := congrArg Int32.toInt (xF_at hf hl _)
  rw [e2, ofi_to] at g
  rw [on_of h0]
  refine w_iald X.1 _ (ex_at hf hl) (X.2.2.1 0) (on_in (by omega) hn) (ax_d X h) ?_
  rw [on_cl (by omega)]
  exact g
theorem z_xastE (X : AX k mn dT) (e : EXl X0 (dT 0) l s) (i : Nat) {q n : Nat} {j x : Int} (hl : l[i]? = some (q, n)) (h : cdA mn pc = some (.iastore, 1, 0, 0, 0)) (h0 : 0 ≤ j) (hj : j < (n : Int)) (hn : n < 2147483648) (g : ∀ px, EXl X0 (dT 0) l (sx s px) → (∀ i' j' : Nat, i' < l.length → xF (sx s px) (X0.length + i') j' = if i' = i ∧ j' = j.toNat then Int32.ofInt x else xF s (X0.length + i') j') → WS k (pc + 1) lv st (Wd A dT (sx s px)) ce sl) : WS k pc lv (.int (Int32.ofInt x) :: .int (Int32.ofInt j) :: .ref q :: st) (Wd A dT s) ce sl := by
  obtain ⟨fs, hf⟩ := e
  rw [on_of h0]
  refine w_iast X.1 _ (ex_at hf hl) (X.2.2.1 0) (on_in (by omega) hn) (ax_d X h) ?_
  have := g (X0 ++ exW (dT 0) l (fun j' => if j' = i then upd (fs i) (Int32.ofNat j.toNat).toNatClampNeg (Int32.ofInt x) else fs j')) ⟨_, rfl⟩ (fun i' j' hi' => by
    have hl' : l[i']? = some (l[i'].1, l[i'].2) := List.getElem?_eq_getElem hi'
    rw [xF_at (t := sx s _) (X0 := X0) (d := dT 0) (l := l) rfl hl', xF_at hf hl', on_cl (by omega)]
    by_cases c : i' = i
    · subst c
      show (if i' = i' then upd (fs i') j.toNat (Int32.ofInt x) else fs i') j' = _
      rw [if_pos rfl]
      unfold upd
      by_cases z : j' = j.toNat
      · rw [if_pos z, if_pos ⟨rfl, z⟩]
      · rw [if_neg z, if_neg (fun w => z w.2)]
    · show (if i' = i then upd (fs i) j.toNat (Int32.ofInt x) else fs i') j' = _
      rw [if_neg c, if_neg (fun w => c w.1)])
  rw [← exW_set hl] at this
  have e2 : Wd A dT (sx s (X0 ++ (exW (dT 0) l fs).set i (q, .inl (dT 0, n, .inl (upd (fs i) (Int32.ofNat j.toNat).toNatClampNeg (Int32.ofInt x)))))) = (Wd A dT s).set (518 + X0.length + i) (q, .inl (dT 0, n, .inl (upd (fs i) (Int32.ofNat j.toNat).toNatClampNeg (Int32.ofInt x)))) := by
    show cW (vS A s) dT bsS (518, []) ++ (X0 ++ _) = (cW (vS A s) dT bsS (518, []) ++ pX s).set _ _
    rw [hf, List.set_append_right _ _ (by rw [cW_518]; omega), cW_518, List.set_append_right _ _ (by omega), show 518 + X0.length + i - 518 - X0.length = i by omega]
  rw [e2] at this
  exact this
end ZXE
/-! Rotas: the model -/
theorem xup {N k : Nat} {t u : PS} {i j : Nat} {x : Int} (f : ∀ i' j' : Nat, i' < k → xF u (N + i') j' = if i' = i ∧ j' = j then Int32.ofInt x else xF t (N + i') j') (r : rng x) : ∀ i' j' : Nat, i' < k → xV (N + i') u j' = if i' = i ∧ j' = j then x else xV (N + i') t j' := fun i' j' h => by
  show (xF u (N + i') j').toInt = _
  rw [f i' j' h]
  by_cases c : i' = i ∧ j' = j
  · rw [if_pos c, if_pos c, zi r]
  · rw [if_neg c, if_neg c]
def RDM (s : PS) (n : Int) : RoD := (fun q => iC s 396 q, n, iI s 102, iI s 103, fun p => iC s 398 p)
def FIL (N : Nat) (c : Int) (t : PS) : Prop := (∀ j : Nat, xV (N + 0) t j = 0) ∧ ∀ p : Nat, (p : Int) < c → xV (N + 2) t p = -100
theorem fil_x {N : Nat} {c : Int} {t u : PS} (h : FIL N c t) (c0 : 0 ≤ c) (f : ∀ i' j' : Nat, i' < 3 → xV (N + i') u j' = if i' = 2 ∧ j' = c.toNat then -100 else xV (N + i') t j') : FIL N (c + 1) u := by
  refine ⟨fun j => ?_, fun p hp => ?_⟩
  · rw [f 0 j (by decide), if_neg (fun z => absurd z.1 (by decide))]
    exact h.1 j
  · rw [f 2 p (by decide)]
    by_cases e : p = c.toNat
    · rw [if_pos ⟨rfl, e⟩]
    · rw [if_neg (fun z => e z.2)]
      exact h.2 p (nx_lt c0 e hp)
def SIMp (D : RoD) (q : Nat) (p : Nat) (a b c : Int) : Prop := a = (ruR D q).wa p ∧ ((0 < (ruR D q).on p ∧ c = (q : Int) - 1 ∧ b = (ruR D q).on p) ∨ ((ruR D q).on p = 0 ∧ (((ruR D q).fr p = 0 ∧ c = -100) ∨ (0 ≤ c ∧ c ≤ (q : Int) - 2 ∧ (ruR D q).fr p = c + 1 + D.rs))))
def SIM (D : RoD) (N q : Nat) (t : PS) (p : Nat) : Prop := SIMp D q p (xV (N + 0) t p) (xV (N + 1) t p) (xV (N + 2) t p)
def MRN (D : RoD) (N q : Nat) (t : PS) : Prop := (∀ p : Nat, p < 8 → SIM D N q t p) ∧ iI t 104 = (ruR D q).wt ∧ ∀ j : Nat, j < q → iC t 397 j = (nwM D (ruR D j) j).toInt
theorem mrn_0 {D : RoD} {N : Nat} {t : PS} {c : Int} (h : FIL N c t) (c8 : c = 8) (hl : iI t 104 = 0) : MRN D N 0 t := ⟨fun p hp => ⟨h.1 p, Or.inr ⟨rfl, Or.inl ⟨rfl, h.2 p (by omega)⟩⟩⟩, hl, fun j hj => absurd hj (by omega)⟩
theorem fil_u {N : Nat} {c : Int} {t u : PS} (h : FIL N c t) (e : ∀ i j : Nat, xV (N + i) u j = xV (N + i) t j) : FIL N c u := ⟨fun j => (e 0 j).trans (h.1 j), fun p hp => (e 2 p).trans (h.2 p hp)⟩
/-- what is the same in what the rota looks at -/
theorem mrn_w {D : RoD} {N q : Nat} {t u : PS} {n x : Int} (h : MRN D N q t) (e : ∀ i j : Nat, xV (N + i) u j = xV (N + i) t j) (hl : iI u 104 = iI t 104) (hu : UPD 397 n x t u) (hn : n = (q : Int)) : MRN D N q u := by
  refine ⟨fun p hp => ?_, hl.trans h.2.1, fun j hj => ?_⟩
  · unfold SIM
    rw [e 0 p, e 1 p, e 2 p]
    exact h.1 p hp
  · rw [hu.2 j (by omega)]
    exact h.2.2 j hj
theorem ru_np {D : RoD} {p : Nat} (h : D.np ≤ (p : Int)) : ∀ q : Nat, (ruR D q).on p = 0
  | 0 => rfl
  | q + 1 => by
    show (if (p : Int) < D.np then (if bT (nwM D (ruR D q) q) p = true then (ruR D q).on p + 1 else 0) else (ruR D q).on p) = 0
    rw [if_neg (by omega)]
    exact ru_np h q
/-- whom a pass may choose -/
def SelS (D : RoD) (q : Nat) (tu : Int) (p : Nat) : Prop := (tu = 0 ∧ goP D (ruR D q) q p) ∨ (tu = 1 ∧ beP D (ruR D q) q p)
theorem sel_0 {D : RoD} {q p : Nat} {tu a b c : Int} (h : SIMp D q p a b c) (t0 : tu = 0) : SelS D q tu p ↔ ((p : Int) < D.np ∧ (q : Int) < D.il p ∧ c = (q : Int) - 1 ∧ b < D.wk) := by
  have e : SelS D q tu p ↔ goP D (ruR D q) q p := ⟨fun z => z.elim (fun y => y.2) (fun y => absurd y.1 (by omega)), fun z => Or.inl ⟨t0, z⟩⟩
  rw [e]
  unfold goP
  rcases h with ⟨_, ⟨h1, h2, h3⟩ | ⟨h1, h2⟩⟩
  · rw [h3]
    constructor
    · exact fun z => ⟨z.1, z.2.2.2, h2, z.2.2.1⟩
    · exact fun z => ⟨z.1, h1, z.2.2.2, z.2.1⟩
  · rw [h1]
    constructor
    · exact fun z => absurd z.2.1 (by omega)
    · intro z
      have z3 := z.2.2.1
      rcases h2 with ⟨_, h2⟩ | ⟨_, h2, _⟩
      · omega
      · omega
theorem sel_1 {D : RoD} {q p : Nat} {tu a b c : Int} (h : SIMp D q p a b c) (t1 : tu = 1) (r0 : 1 ≤ D.rs ∧ D.rs ≤ 24) : SelS D q tu p ↔ ((p : Int) < D.np ∧ (q : Int) < D.il p ∧ c < (q : Int) - D.rs) := by
  have e : SelS D q tu p ↔ beP D (ruR D q) q p := ⟨fun z => z.elim (fun y => absurd y.1 (by omega)) (fun y => y.2), fun z => Or.inr ⟨t1, z⟩⟩
  rw [e]
  unfold beP
  rcases h with ⟨_, ⟨h1, h2, h3⟩ | ⟨h1, h2⟩⟩
  · constructor
    · exact fun z => absurd z.2.1 (by omega)
    · exact fun z => absurd z.2.2 (by omega)
  · rcases h2 with ⟨h2, h3⟩ | ⟨h2, h3, h4⟩
    · constructor
      · exact fun z => ⟨z.1, z.2.2.2, by omega⟩
      · exact fun z => ⟨z.1, h1, by omega, z.2.1⟩
    · constructor
      · exact fun z => ⟨z.1, z.2.2.2, by have := z.2.2.1; omega⟩
      · exact fun z => ⟨z.1, h1, by have := z.2.2; omega, z.2.1⟩
/-- between the passes -/
def PS3 (D : RoD) (q : Nat) (tu w m : Int) : Prop := (0 ≤ m ∧ m ≤ 255) ∧ ((tu = 0 ∧ m = 0 ∧ w = D.nd q) ∨ (tu = 1 ∧ Int32.ofInt m = c1M D (ruR D q) q ∧ w = D.nd q - (pcM (c1M D (ruR D q) q) 8 : Int)) ∨ (tu = 2 ∧ Int32.ofInt m = nwM D (ruR D q) q ∧ w = D.nd q - (pcM (nwM D (ruR D q) q) 8 : Int)))
/-- within a pass -/
def PS5 (D : RoD) (q : Nat) (tu w m : Int) : Prop := (0 ≤ m ∧ m ≤ 255) ∧ 0 ≤ w ∧ ∃ i : Nat, (tu = 0 ∧ SLI (ruR D q).wa (goP D (ruR D q) q) i (Int32.ofInt m) ∧ w = D.nd q - (i : Int)) ∨ (tu = 1 ∧ ∃ m2 : Int32, SLI (ruR D q).wa (beP D (ruR D q) q) i m2 ∧ Int32.ofInt m = c1M D (ruR D q) q ||| m2 ∧ w = D.nd q - (pcM (c1M D (ruR D q) q) 8 : Int) - (i : Int))
def NOC (D : RoD) (q : Nat) (tu be m : Int) : Prop := be = -1 → ∀ p : Nat, p < 8 → SelS D q tu p → bT (Int32.ofInt m) p = true
theorem noc_0 {D : RoD} {q : Nat} {tu be m : Int} (h : be ≠ -1) : NOC D q tu be m := fun z => absurd z h
theorem ps_0 {D : RoD} {q : Nat} {m : Int} (h0 : m = 0) : PS3 D q 0 (D.nd q) m := ⟨by omega, Or.inl ⟨rfl, h0, rfl⟩⟩
theorem ps_in {D : RoD} {q : Nat} {tu w m : Int} (h : PS3 D q tu w m) (t0 : tu = 0 ∨ tu = 1) (n0 : 0 ≤ D.nd q) : PS5 D q tu w m := by
  obtain ⟨h0, h1 | h1 | h1⟩ := h
  · refine ⟨h0, by omega, 0, Or.inl ⟨h1.1, ?_, by omega⟩⟩
    rw [h1.2.1]
    exact sli_0
  · have l := (nw_le (D := D) (s := ruR D q) (q := q)).1
    refine ⟨h0, by omega, 0, Or.inr ⟨h1.1, Int32.ofInt 0, sli_0, ?_, by omega⟩⟩
    rw [h1.2.1]
    exact (Int32.or_zero).symm
  · omega
theorem ps_out {D : RoD} {q : Nat} {tu w be m : Int} (h : PS5 D q tu w m) (hn : NOC D q tu be m) (he : w ≤ 0 ∨ be = -1) (n0 : 0 ≤ D.nd q) : PS3 D q (tu + 1) w m := by
  obtain ⟨h0, h1, i, ⟨h2, h3, h4⟩ | ⟨h2, m2, h3, h4, h5⟩⟩ := h
  · have e : Int32.ofInt m = c1M D (ruR D q) q := sli_e h3 (by omega) (he.elim (fun z => Or.inl (by omega)) (fun z => Or.inr (fun p hp hs => hn z p hp (Or.inl ⟨h2, hs⟩))))
    refine ⟨h0, Or.inr (Or.inl ⟨by omega, e, ?_⟩)⟩
    rw [← e, h3.2]
    exact h4
  · have l := nw_le (D := D) (s := ruR D q) (q := q)
    have hd := nw_pc (D := D) (s := ruR D q) (q := q)
    have e : m2 = c2M D (ruR D q) q := sli_e h3 (by omega) (he.elim (fun z => Or.inl (by omega)) (fun z => Or.inr (fun p hp hs => by
      have y := hn z p hp (Or.inr ⟨h2, hs⟩)
      rw [h4, bt_or, Bool.or_eq_true] at y
      rcases y with y | y
      · have a := (slp_sub _ p hp y).2.1
        have b := hs.2.1
        omega
      · exact y)))
    refine ⟨h0, Or.inr (Or.inr ⟨by omega, by rw [h4, e]; rfl, ?_⟩)⟩
    rw [hd, ← e, h3.2]
    omega
theorem ps_up {D : RoD} {q : Nat} {tu w m m' be n : Int} (h : PS5 D q tu w m) (w0 : 0 < w) (hx : NXQ (ruR D q).wa (fun p => SelS D q tu p ∧ ¬ bT (Int32.ofInt m) p = true) n be) (n8 : n ≤ 8) (hnp : n = D.np) (hb : be ≠ -1) (hm : (0 ≤ m' ∧ m' ≤ 255) ∧ Int32.ofInt m' = Int32.ofInt m ||| b1M be.toNat) : PS5 D q tu (w - 1) m' := by
  have pk : PIK (ruR D q).wa (fun p => SelS D q tu p ∧ ¬ bT (Int32.ofInt m) p = true) be.toNat := nxq_p hx n8 hb (fun p hp => ⟨fun z => ⟨by
    rcases z.1 with y | y
    · rw [hnp]; exact y.2.1
    · rw [hnp]; exact y.2.1, z⟩, fun z => z.2⟩)
  obtain ⟨h0, h1, i, ⟨h2, h3, h4⟩ | ⟨h2, m2, h3, h4, h5⟩⟩ := h
  · refine ⟨hm.1, by omega, i + 1, Or.inl ⟨h2, ?_, by omega⟩⟩
    rw [hm.2]
    refine sli_up h3 (pik_c (fun _ _ => rfl) (fun p _ => and_congr ⟨fun z => ?_, fun z => Or.inl ⟨h2, z⟩⟩ Iff.rfl) pk)
    rcases z with z | z
    · exact z.2
    · omega
  · have dj : ∀ p : Nat, p < 8 → beP D (ruR D q) q p → (bT (Int32.ofInt m) p = true ↔ bT m2 p = true) := fun p hp hs => by
      rw [h4, bt_or, Bool.or_eq_true]
      constructor
      · intro y
        rcases y with y | y
        · have a := (slp_sub _ p hp y).2.1
          have b := hs.2.1
          omega
        · exact y
      · exact Or.inr
    refine ⟨hm.1, by omega, i + 1, Or.inr ⟨h2, m2 ||| b1M be.toNat, ?_, ?_, by omega⟩⟩
    · refine sli_up h3 (pik_c (fun _ _ => rfl) (fun p hp => ?_) pk)
      constructor
      · intro z
        have zs : beP D (ruR D q) q p := z.1.elim (fun y => absurd y.1 (by omega)) (fun y => y.2)
        exact ⟨zs, fun y => z.2 ((dj p hp zs).mpr y)⟩
      · intro z
        exact ⟨Or.inr ⟨h2, z.1⟩, fun y => z.2 ((dj p hp z.1).mp y)⟩
    · rw [hm.2, h4, Int32.or_assoc]
theorem ps_no {D : RoD} {q : Nat} {tu m be n : Int} (hx : NXQ (ruR D q).wa (fun p => SelS D q tu p ∧ ¬ bT (Int32.ofInt m) p = true) n be) (hnp : n = D.np) : NOC D q tu be m := fun hb p hp hs => Classical.byContradiction (fun z => nxq_e hx hb p (by
  rcases hs with y | y
  · rw [hnp]; exact y.2.1
  · rw [hnp]; exact y.2.1) ⟨hs, z⟩)
/-! settling -/
def MST (D : RoD) (N q : Nat) (c : Int) (t : PS) : Prop := (∀ p : Nat, p < 8 → ((p : Int) < c → SIM D N (q + 1) t p) ∧ (c ≤ (p : Int) → SIM D N q t p)) ∧ iI t 104 = (ruR D (q + 1)).wt ∧ ∀ j : Nat, j < q + 1 → iC t 397 j = (nwM D (ruR D j) j).toInt
theorem mst_0 {D : RoD} {N q : Nat} {t u : PS} {m w : Int} (h : MRN D N q t) (hp : PS3 D q 2 w m) (hm : iC u 397 q = m) (e : ∀ i j : Nat, xV (N + i) u j = xV (N + i) t j) (hs : SAM 397 t u) (hl : iI u 104 = iI t 104 + w) : MST D N q 0 u := by
  obtain ⟨h0, h1 | h1 | ⟨_, h1, h2⟩⟩ := hp
  · exact absurd h1.1 (by decide)
  · exact absurd h1.1 (by decide)
  · refine ⟨fun p hp => ⟨fun z => absurd z (by omega), fun _ => ?_⟩, ?_, fun j hj => ?_⟩
    · unfold SIM
      rw [e 0 p, e 1 p, e 2 p]
      exact h.1 p hp
    · rw [hl, h.2.1, h2]
      rfl
    · by_cases c : j = q
      · rw [c, hm]
        exact of_to (show rng m from ⟨by omega, by omega⟩) h1
      · rw [hs j]
        exact h.2.2 j (by omega)
theorem on_st {D : RoD} {q p : Nat} (hp : (p : Int) < D.np) : (bT (nwM D (ruR D q) q) p = true → (ruR D (q + 1)).on p = (ruR D q).on p + 1 ∧ (ruR D (q + 1)).fr p = (ruR D q).fr p ∧ (ruR D (q + 1)).wa p = (ruR D q).wa p + 1) ∧ (¬ bT (nwM D (ruR D q) q) p = true → (ruR D (q + 1)).on p = 0 ∧ (ruR D (q + 1)).fr p = (if 0 < (ruR D q).on p then (q : Int) + D.rs else (ruR D q).fr p) ∧ (ruR D (q + 1)).wa p = (ruR D q).wa p) := by
  refine ⟨fun h => ⟨?_, ?_, ?_⟩, fun h => ⟨?_, ?_, ?_⟩⟩
  · show (if (p : Int) < D.np then (if bT (nwM D (ruR D q) q) p = true then (ruR D q).on p + 1 else 0) else (ruR D q).on p) = _
    rw [if_pos hp, if_pos h]
  · show (if (p : Int) < D.np ∧ ¬ bT (nwM D (ruR D q) q) p = true ∧ 0 < (ruR D q).on p then (q : Int) + D.rs else (ruR D q).fr p) = _
    rw [if_neg (fun z => z.2.1 h)]
  · show (if (p : Int) < D.np ∧ bT (nwM D (ruR D q) q) p = true then (ruR D q).wa p + 1 else (ruR D q).wa p) = _
    rw [if_pos ⟨hp, h⟩]
  · show (if (p : Int) < D.np then (if bT (nwM D (ruR D q) q) p = true then (ruR D q).on p + 1 else 0) else (ruR D q).on p) = _
    rw [if_pos hp, if_neg h]
  · show (if (p : Int) < D.np ∧ ¬ bT (nwM D (ruR D q) q) p = true ∧ 0 < (ruR D q).on p then (q : Int) + D.rs else (ruR D q).fr p) = _
    exact if_cg ⟨fun z => z.2.2, fun z => ⟨hp, h, z⟩⟩
  · show (if (p : Int) < D.np ∧ bT (nwM D (ruR D q) q) p = true then (ruR D q).wa p + 1 else (ruR D q).wa p) = _
    rw [if_neg (fun z => h z.2)]
theorem sim_n {D : RoD} {q p : Nat} {a b c : Int} (h : SIMp D q p a b c) (hp : (p : Int) < D.np) (hb : ¬ bT (nwM D (ruR D q) q) p = true) : SIMp D (q + 1) p a b c := by
  obtain ⟨e1, e2, e3⟩ := (on_st hp).2 hb
  obtain ⟨h1, h2⟩ := h
  refine ⟨by rw [e3]; exact h1, Or.inr ⟨e1, ?_⟩⟩
  rw [e2]
  rcases h2 with ⟨h2, h3, _⟩ | ⟨h2, h3⟩
  · rw [if_pos h2]
    by_cases z : q = 0
    · exact absurd (ru_b D q p).1.2 (by omega)
    · exact Or.inr ⟨by omega, by omega, by omega⟩
  · rw [if_neg (by omega)]
    rcases h3 with h3 | ⟨h3, h4, h5⟩
    · exact Or.inl h3
    · exact Or.inr ⟨h3, by omega, h5⟩
theorem sim_y {D : RoD} {q p : Nat} {a b c b' : Int} (h : SIMp D q p a b c) (hp : (p : Int) < D.np) (hb : bT (nwM D (ruR D q) q) p = true) (h' : (c = (q : Int) - 1 ∧ b' = b + 1) ∨ (c ≠ (q : Int) - 1 ∧ b' = 1)) : SIMp D (q + 1) p (a + 1) b' (q : Int) := by
  obtain ⟨e1, e2, e3⟩ := (on_st hp).1 hb
  have o := (ru_b D q p).1
  obtain ⟨h1, h2⟩ := h
  refine ⟨by rw [e3, h1], Or.inl ⟨by omega, by omega, ?_⟩⟩
  rw [e1]
  rcases h2 with ⟨h2, h3, h4⟩ | ⟨h2, ⟨_, h3⟩ | ⟨_, h3, _⟩⟩
  · omega
  · omega
  · omega
theorem sim_k {D : RoD} {q p : Nat} {a b c : Int} (h : SIMp D q p a b c) (hp : D.np ≤ (p : Int)) : SIMp D (q + 1) p a b c := by
  have o := ru_np hp q
  have o1 := ru_np hp (q + 1)
  have e2 : (ruR D (q + 1)).fr p = (ruR D q).fr p := by
    show (if (p : Int) < D.np ∧ ¬ bT (nwM D (ruR D q) q) p = true ∧ 0 < (ruR D q).on p then (q : Int) + D.rs else (ruR D q).fr p) = _
    rw [if_neg (fun z => absurd z.1 (by omega))]
  have e3 : (ruR D (q + 1)).wa p = (ruR D q).wa p := by
    show (if (p : Int) < D.np ∧ bT (nwM D (ruR D q) q) p = true then (ruR D q).wa p + 1 else (ruR D q).wa p) = _
    rw [if_neg (fun z => absurd z.1 (by omega))]
  obtain ⟨h1, h2⟩ := h
  refine ⟨by rw [e3]; exact h1, Or.inr ⟨o1, ?_⟩⟩
  rw [e2]
  rcases h2 with ⟨h2, _⟩ | ⟨h2, h3⟩
  · omega
  · rcases h3 with h3 | ⟨h3, h4, h5⟩
    · exact Or.inl h3
    · exact Or.inr ⟨h3, by omega, h5⟩
theorem mst_n {D : RoD} {N q : Nat} {c : Int} {t : PS} (h : MST D N q c t) (c0 : 0 ≤ c ∧ c ≤ 7) (hp : c < D.np) (hb : ¬ bT (nwM D (ruR D q) q) c.toNat = true) : MST D N q (c + 1) t := by
  refine ⟨fun p p8 => ⟨fun z => ?_, fun z => (h.1 p p8).2 (by omega)⟩, h.2⟩
  by_cases e : p = c.toNat
  · subst e
    exact sim_n ((h.1 _ p8).2 (by omega)) (by omega) hb
  · exact (h.1 p p8).1 (nx_lt c0.1 e z)
theorem mst_y {D : RoD} {N q : Nat} {c y a b : Int} {t u : PS} (h : MST D N q c t) (c0 : 0 ≤ c ∧ c ≤ 7) (hp : c < D.np) (hb : bT (nwM D (ruR D q) q) c.toNat = true) (hy : y = (q : Int)) (ha : a = xV (N + 0) t c.toNat + 1) (hB : (xV (N + 2) t c.toNat = y - 1 ∧ b = xV (N + 1) t c.toNat + 1) ∨ (xV (N + 2) t c.toNat ≠ y - 1 ∧ b = 1)) (u0 : xV (N + 0) u c.toNat = a) (u1 : xV (N + 1) u c.toNat = b) (u2 : xV (N + 2) u c.toNat = y) (e : ∀ i j : Nat, i < 3 → j ≠ c.toNat → xV (N + i) u j = xV (N + i) t j) (hl : iI u 104 = iI t 104) (hw : SAM 397 t u) : MST D N q (c + 1) u := by
  refine ⟨fun p p8 => ⟨fun z => ?_, fun z => ?_⟩, hl.trans h.2.1, fun j hj => by rw [hw j]; exact h.2.2 j hj⟩
  · by_cases g : p = c.toNat
    · subst g
      unfold SIM
      rw [u0, u1, u2, ha, hy]
      exact sim_y ((h.1 _ p8).2 (by omega)) (by omega) hb (by rw [← hy]; exact hB)
    · unfold SIM
      rw [e 0 p (by decide) g, e 1 p (by decide) g, e 2 p (by decide) g]
      exact (h.1 p p8).1 (nx_lt c0.1 g z)
  · have g : p ≠ c.toNat := by omega
    unfold SIM
    rw [e 0 p (by decide) g, e 1 p (by decide) g, e 2 p (by decide) g]
    exact (h.1 p p8).2 (by omega)
theorem mst_e {D : RoD} {N q : Nat} {c : Int} {t : PS} (h : MST D N q c t) (hc : c = D.np) : MRN D N (q + 1) t := ⟨fun p p8 => by
  by_cases g : (p : Int) < c
  · exact (h.1 p p8).1 g
  · exact sim_k ((h.1 p p8).2 (by omega)) (by omega), h.2⟩
theorem mst_b {D : RoD} {N q : Nat} {c : Int} {t : PS} (h : MST D N q c t) (c0 : 0 ≤ c ∧ c ≤ 7) (q0 : q ≤ 23) : (0 ≤ xV (N + 0) t c.toNat ∧ xV (N + 0) t c.toNat ≤ 23) ∧ (xV (N + 2) t c.toNat = (q : Int) - 1 → 0 ≤ xV (N + 1) t c.toNat ∧ xV (N + 1) t c.toNat ≤ 23) := by
  obtain ⟨h1, h2⟩ := (h.1 c.toNat (by omega)).2 (by omega)
  have b := ru_b D q c.toNat
  refine ⟨by rw [h1]; omega, fun z => ?_⟩
  rcases h2 with ⟨h2, h3, h4⟩ | ⟨h2, ⟨_, h3⟩ | ⟨_, h3, _⟩⟩
  · rw [h4]; omega
  · omega
  · omega
/-! the answers -/
def MRE (D : RoD) (t : PS) : Prop := iI t 104 = (ruR D 24).wt ∧ ∀ j : Nat, j < 24 → iC t 397 j = (nwM D (ruR D j) j).toInt
theorem mrn_e {D : RoD} {N q : Nat} {t : PS} (h : MRN D N q t) (q24 : q = 24) : MRE D t := by
  subst q24
  exact h.2
theorem rdm_e {s t : PS} {n : Int} (hw : iI t 102 = iI s 102) (hr : iI t 103 = iI s 103) (hi : ∀ p : Nat, iC t 398 p = iC s 398 p) : RDM t n = (fun q => iC t 396 q, n, iI s 102, iI s 103, fun p => iC s 398 p) := by
  unfold RDM
  rw [hw, hr, show (fun p => iC t 398 p) = (fun p => iC s 398 p) from funext hi]
theorem rta_m {Q : PlD} {m : Nat} {n w e e0 : Int} {s t u : PS} (hp : PLT Q m t e0) (he : e0 ≠ 0) (hc : MRE (RDM t n) u) (hw : iI t 102 = iI s 102) (hr : iI t 103 = iI s 103) (hi : ∀ p : Nat, iC t 398 p = iC s 398 p) (w0 : 0 ≤ w ∧ w ≤ 23) (hE : e = iC u 397 w.toNat) : RTA Q m n (iI s 102) (iI s 103) (fun p => iC s 398 p) w.toNat e := by
  have hn := nde_m hp he
  rw [rdm_e hw hr hi] at hc
  exact Or.inr ⟨_, hn, hE.trans (hc.2 w.toNat (by omega))⟩
theorem lka_m {Q : PlD} {m : Nat} {n e e0 : Int} {s t u : PS} (hp : PLT Q m t e0) (he : e0 ≠ 0) (hc : MRE (RDM t n) u) (hw : iI t 102 = iI s 102) (hr : iI t 103 = iI s 103) (hi : ∀ p : Nat, iC t 398 p = iC s 398 p) (hE : e = iI u 104) : LKA Q m n (iI s 102) (iI s 103) (fun p => iC s 398 p) e := by
  have hn := nde_m hp he
  rw [rdm_e hw hr hi] at hc
  exact Or.inr ⟨_, hn, hE.trans hc.1⟩
def ENM (Q : PlD) (m : Nat) (wk rs : Int) (il : Nat → Int) (c : Int) (t : PS) : Prop := ∃ nd : Nat → Int, NDE Q m nd ∧ (∀ j : Nat, iC t 396 j = nd j) ∧ ENN nd wk rs il c
theorem enm_1 {Q : PlD} {m : Nat} {wk rs : Int} {il : Nat → Int} {t : PS} (h : NDE Q m (fun q => iC t 396 q)) : ENM Q m wk rs il 1 t := ⟨_, h, fun _ => rfl, enn_1⟩
theorem enm_nd {Q : PlD} {m : Nat} {wk rs c : Int} {il : Nat → Int} {t : PS} (h : ENM Q m wk rs il c t) (hD : nDP Q) : ∀ q : Nat, q < 24 → 0 ≤ iC t 396 q ∧ iC t 396 q ≤ 8 := fun q hq => by
  obtain ⟨nd, h1, h2, _⟩ := h
  rw [h2 q]
  exact nde_r h1 hD q hq
theorem enm_up {Q : PlD} {m : Nat} {c : Int} {s t u : PS} (h : ENM Q m (iI s 102) (iI s 103) (fun p => iC s 398 p) c t) (hc : MRE (RDM t c) u) (hw : iI t 102 = iI s 102) (hr : iI t 103 = iI s 103) (hi : ∀ p : Nat, iC t 398 p = iC s 398 p) (a : SAM 396 t u) (hz : iI u 104 ≠ 0) (c0 : 0 ≤ c) : ENM Q m (iI s 102) (iI s 103) (fun p => iC s 398 p) (c + 1) u := by
  obtain ⟨nd, h1, h2, h3⟩ := h
  refine ⟨nd, h1, fun j => (a j).trans (h2 j), enn_up h3 c0 ?_⟩
  rw [rdm_e hw hr hi, show (fun q => iC t 396 q) = nd from funext h2] at hc
  exact fun z => hz (hc.1.trans z)
theorem enm_y {Q : PlD} {m : Nat} {c : Int} {s t u : PS} (h : ENM Q m (iI s 102) (iI s 103) (fun p => iC s 398 p) c t) (hc : MRE (RDM t c) u) (hw : iI t 102 = iI s 102) (hr : iI t 103 = iI s 103) (hi : ∀ p : Nat, iC t 398 p = iC s 398 p) (hz : iI u 104 = 0) (c0 : 1 ≤ c ∧ c ≤ 8) : ENA Q m (iI s 102) (iI s 103) (fun p => iC s 398 p) c := by
  obtain ⟨nd, h1, h2, h3⟩ := h
  rw [rdm_e hw hr hi, show (fun q => iC t 396 q) = nd from funext h2] at hc
  exact Or.inr ⟨nd, h1, Or.inr ⟨c0.1, c0.2, h3, hc.1.symm.trans hz⟩⟩
theorem enm_n {Q : PlD} {m : Nat} {wk rs c : Int} {il : Nat → Int} {t : PS} (h : ENM Q m wk rs il c t) (c9 : c = 9) : ENA Q m wk rs il (-1) := by
  obtain ⟨nd, h1, _, h3⟩ := h
  rw [c9] at h3
  exact Or.inr ⟨nd, h1, Or.inl ⟨rfl, h3⟩⟩
theorem mst_y3 {D : RoD} {N q : Nat} {c y b v : Int} {t u1 u2 u3 : PS} (h : MST D N q c t) (c0 : 0 ≤ c ∧ c ≤ 7) (hp : c < D.np) (hb : bT (nwM D (ruR D q) q) c.toNat = true) (hy : y = (q : Int)) (hB : (xV (N + 2) t c.toNat = y - 1 ∧ b = xV (N + 1) t c.toNat + 1) ∨ (xV (N + 2) t c.toNat ≠ y - 1 ∧ b = 1)) (g1 : ∀ i j : Nat, i < 3 → xV (N + i) u1 j = if i = 1 ∧ j = c.toNat then b else xV (N + i) t j) (g2 : ∀ i j : Nat, i < 3 → xV (N + i) u2 j = if i = 2 ∧ j = c.toNat then y else xV (N + i) u1 j) (g3 : ∀ i j : Nat, i < 3 → xV (N + i) u3 j = if i = 0 ∧ j = c.toNat then v else xV (N + i) u2 j) (hv : v = xV (N + 0) t c.toNat + 1) (hl : iI u3 104 = iI t 104) (hw : SAM 397 t u3) : MST D N q (c + 1) u3 := by
  refine mst_y h c0 hp hb hy hv hB ?_ ?_ ?_ (fun i j hi hj => ?_) hl hw
  · rw [g3 0 _ (by decide), if_pos ⟨rfl, rfl⟩]
  · rw [g3 1 _ (by decide), if_neg (fun z => absurd z.1 (by decide)), g2 1 _ (by decide), if_neg (fun z => absurd z.1 (by decide)), g1 1 _ (by decide), if_pos ⟨rfl, rfl⟩]
  · rw [g3 2 _ (by decide), if_neg (fun z => absurd z.1 (by decide)), g2 2 _ (by decide), if_pos ⟨rfl, rfl⟩]
  · rw [g3 i j hi, if_neg (fun z => hj z.2), g2 i j hi, if_neg (fun z => hj z.2), g1 i j hi, if_neg (fun z => hj z.2)]
theorem x0_at {N : Nat} {c y b : Int} {t u1 u2 : PS} (g1 : ∀ i j : Nat, i < 3 → xV (N + i) u1 j = if i = 1 ∧ j = c.toNat then b else xV (N + i) t j) (g2 : ∀ i j : Nat, i < 3 → xV (N + i) u2 j = if i = 2 ∧ j = c.toNat then y else xV (N + i) u1 j) : xV (N + 0) u2 c.toNat = xV (N + 0) t c.toNat := by
  rw [g2 0 _ (by decide), if_neg (fun z => absurd z.1 (by decide)), g1 0 _ (by decide), if_neg (fun z => absurd z.1 (by decide))]
theorem sel_il {D : RoD} {q p : Nat} {tu : Int} (h : SelS D q tu p) : (q : Int) < D.il p := h.elim (fun z => z.2.2.2.2) (fun z => z.2.2.2.2)
theorem fx_i {L M : List Nat} {s t : PS} {k : Nat} (F : FmX L M s t) (h : k ∉ L) : iI t k = iI s k := congrArg Int32.toInt (F.1 k h)
theorem fx_c {L M : List Nat} {s t : PS} {a : Nat} (F : FmX L M s t) (h : a ∉ M) {j : Nat} : iC t a j = iC s a j := congrArg Int32.toInt (congrFun (F.2.1 a h) j)
theorem ILJ_fm {L M : List Nat} {s t : PS} (F : Fm L M s t) (h : 52 ∉ M ∧ 398 ∉ M) (r : AEQ 52 398 8 s) : AEQ 52 398 8 t := aeq_sam r (sam_fm F h.1) (sam_fm F h.2)
section M87kq
variable {l : Launch} {s0 : State} {D : va_G} {tys : List (ClassId × FieldType)} {a0 : Array Value} {A : Nat → Nat} {dT : Nat → ClassId} {s : PS}
set_option maxRecDepth 4000 in
theorem k_findRota7 (G : GX l s0 D tys a0 dT) (I : Bd s) {x : Int} (p0 : 1 ≤ x ∧ x ≤ 8) (p1 : ∀ q : Nat, q < 24 → 0 ≤ iC s 396 q ∧ iC s 396 q ≤ 8) : CT l s0 D A dT 275 (rmN 275) [.ref (A 179), .int (Int32.ofInt x)] s (fun o t => Bd t ∧ Fm [104] [397] s t ∧ o = .inl none ∧ (MRE (RDM s x) t)) := by
  refine ct_of G (by decide) (Nat.le_of_ble_eq_true rfl) (fun k X E hRt hXt q => ?_)
  show WS k 0 [(0, .ref (A 179)), (1, .int (Int32.ofInt x))] [] _ 0 0
  have F : Fm [104] [397] s s := fm_rf _ _ s
  have jEX : True := trivial
  refine z_bipush X (show cdA 275 0 = some (.bipush 8, 2, 0, 0, 8) from rfl) ?_
  refine z_newX X (n := 8) (by decide) (show cdA 275 2 = some (.newarray .int, 2, 0, 0, 0) from rfl) (by rw [E.2.2.2]; decide) (by rw [E.2.2.2]; decide) (fun q1 => ?_)
  refine z_astore_n X (lv' := [(2, .ref q1), (0, .ref (A 179)), (1, .int (Int32.ofInt x))]) (show cdA 275 4 = some (.astore_n 2, 1, 0, 0, 0) from rfl) (by decide) (fun _ h => h) ?_
  refine z_bipush X (show cdA 275 5 = some (.bipush 8, 2, 0, 0, 8) from rfl) ?_
  refine z_newX X (n := 8) (by decide) (show cdA 275 7 = some (.newarray .int, 2, 0, 0, 0) from rfl) (by rw [E.2.2.2]; decide) (by rw [E.2.2.2]; decide) (fun q2 => ?_)
  refine z_astore_n X (lv' := [(3, .ref q2), (2, .ref q1), (0, .ref (A 179)), (1, .int (Int32.ofInt x))]) (show cdA 275 9 = some (.astore_n 3, 1, 0, 0, 0) from rfl) (by decide) (fun _ h => h) ?_
  refine z_bipush X (show cdA 275 10 = some (.bipush 8, 2, 0, 0, 8) from rfl) ?_
  refine z_newX X (n := 8) (by decide) (show cdA 275 12 = some (.newarray .int, 2, 0, 0, 0) from rfl) (by rw [E.2.2.2]; decide) (by rw [E.2.2.2]; decide) (fun q3 => ?_)
  refine z_astore X (lv' := [(4, .ref q3), (3, .ref q2), (2, .ref q1), (0, .ref (A 179)), (1, .int (Int32.ofInt x))]) (show cdA 275 14 = some (.astore 4, 2, 0, 0, 0) from rfl) (by decide) (fun _ h => h) ?_
  have hf0 : pX (sx (sx (sx s (pX s ++ [(q1, .inl (dT 0, 8, .inl (fun _ => 0)))])) (pX (sx s (pX s ++ [(q1, .inl (dT 0, 8, .inl (fun _ => 0)))])) ++ [(q2, .inl (dT 0, 8, .inl (fun _ => 0)))])) (pX (sx (sx s (pX s ++ [(q1, .inl (dT 0, 8, .inl (fun _ => 0)))])) (pX (sx s (pX s ++ [(q1, .inl (dT 0, 8, .inl (fun _ => 0)))])) ++ [(q2, .inl (dT 0, 8, .inl (fun _ => 0)))])) ++ [(q3, .inl (dT 0, 8, .inl (fun _ => 0)))])) = pX s ++ exW (dT 0) [(q1, 8), (q2, 8), (q3, 8)] (fun _ _ => 0) := by show (((pX s ++ [_]) ++ [_]) ++ [_]) = _; rw [List.append_assoc, List.append_assoc]; rfl
  have eX0 : EXl (pX s) (dT 0) [(q1, 8), (q2, 8), (q3, 8)] (sx (sx (sx s (pX s ++ [(q1, .inl (dT 0, 8, .inl (fun _ => 0)))])) (pX (sx s (pX s ++ [(q1, .inl (dT 0, 8, .inl (fun _ => 0)))])) ++ [(q2, .inl (dT 0, 8, .inl (fun _ => 0)))])) (pX (sx (sx s (pX s ++ [(q1, .inl (dT 0, 8, .inl (fun _ => 0)))])) (pX (sx s (pX s ++ [(q1, .inl (dT 0, 8, .inl (fun _ => 0)))])) ++ [(q2, .inl (dT 0, 8, .inl (fun _ => 0)))])) ++ [(q3, .inl (dT 0, 8, .inl (fun _ => 0)))])) := ⟨fun _ _ => 0, hf0⟩
  have hz0 : ∀ j : Nat, xV ((pX s).length + 0) (sx (sx (sx s (pX s ++ [(q1, .inl (dT 0, 8, .inl (fun _ => 0)))])) (pX (sx s (pX s ++ [(q1, .inl (dT 0, 8, .inl (fun _ => 0)))])) ++ [(q2, .inl (dT 0, 8, .inl (fun _ => 0)))])) (pX (sx (sx s (pX s ++ [(q1, .inl (dT 0, 8, .inl (fun _ => 0)))])) (pX (sx s (pX s ++ [(q1, .inl (dT 0, 8, .inl (fun _ => 0)))])) ++ [(q2, .inl (dT 0, 8, .inl (fun _ => 0)))])) ++ [(q3, .inl (dT 0, 8, .inl (fun _ => 0)))])) j = 0 := fun j => congrArg Int32.toInt (xF_at hf0 (i := 0) rfl j)
  have It0 : Bd (sx (sx (sx s (pX s ++ [(q1, .inl (dT 0, 8, .inl (fun _ => 0)))])) (pX (sx s (pX s ++ [(q1, .inl (dT 0, 8, .inl (fun _ => 0)))])) ++ [(q2, .inl (dT 0, 8, .inl (fun _ => 0)))])) (pX (sx (sx s (pX s ++ [(q1, .inl (dT 0, 8, .inl (fun _ => 0)))])) (pX (sx s (pX s ++ [(q1, .inl (dT 0, 8, .inl (fun _ => 0)))])) ++ [(q2, .inl (dT 0, 8, .inl (fun _ => 0)))])) ++ [(q3, .inl (dT 0, 8, .inl (fun _ => 0)))])) := I
  have Ft0 : FmX [104] [397] s (sx (sx (sx s (pX s ++ [(q1, .inl (dT 0, 8, .inl (fun _ => 0)))])) (pX (sx s (pX s ++ [(q1, .inl (dT 0, 8, .inl (fun _ => 0)))])) ++ [(q2, .inl (dT 0, 8, .inl (fun _ => 0)))])) (pX (sx (sx s (pX s ++ [(q1, .inl (dT 0, 8, .inl (fun _ => 0)))])) (pX (sx s (pX s ++ [(q1, .inl (dT 0, 8, .inl (fun _ => 0)))])) ++ [(q2, .inl (dT 0, 8, .inl (fun _ => 0)))])) ++ [(q3, .inl (dT 0, 8, .inl (fun _ => 0)))])) := ⟨fun _ _ => rfl, fun _ _ => rfl, fun _ _ => rfl, fun _ _ => rfl⟩
  clear hf0
  obtain ⟨t0, ht0⟩ : ∃ t0, t0 = (sx (sx (sx s (pX s ++ [(q1, .inl (dT 0, 8, .inl (fun _ => 0)))])) (pX (sx s (pX s ++ [(q1, .inl (dT 0, 8, .inl (fun _ => 0)))])) ++ [(q2, .inl (dT 0, 8, .inl (fun _ => 0)))])) (pX (sx (sx s (pX s ++ [(q1, .inl (dT 0, 8, .inl (fun _ => 0)))])) (pX (sx s (pX s ++ [(q1, .inl (dT 0, 8, .inl (fun _ => 0)))])) ++ [(q2, .inl (dT 0, 8, .inl (fun _ => 0)))])) ++ [(q3, .inl (dT 0, 8, .inl (fun _ => 0)))])) := ⟨_, rfl⟩
  rw [← ht0] at eX0 It0 Ft0 hz0
  rw [← ht0]
  clear ht0
  show WS k 16 [(4, .ref q3), (3, .ref q2), (2, .ref q1), (0, .ref (A 179)), (1, .int (Int32.ofInt x))] [] (Wd A dT t0) 3 24
  have b1 : ((-2147483648) : Int) ≤ iI t0 104 ∧ iI t0 104 ≤ 2147483647 := It0.1 104
  have b2 : (1 : Int) ≤ iI t0 103 ∧ iI t0 103 ≤ 8 := It0.1 103
  have L19 : ∀ (n : Nat) (t : PS) (xv p : Int), Bd t → FmX [104] [397] s t → EXl (pX s) (dT 0) [(q1, 8), (q2, 8), (q3, 8)] t → (FIL (pX s).length p t) → ((xv = x ∧ 1 ≤ x ∧ x ≤ 8) ∧ 0 ≤ p ∧ p ≤ 8) → (8 - p : Int).toNat < n → (∀ (t' : PS) (p' : Int), Bd t' → FmX [104] [397] s t' → EXl (pX s) (dT 0) [(q1, 8), (q2, 8), (q3, 8)] t' → (FIL (pX s).length p' t') → ((xv = x ∧ 1 ≤ x ∧ x ≤ 8) ∧ p' = 8) → WS k 39 [(0, .ref (A 179)), (2, .ref q1), (3, .ref q2), (4, .ref q3), (1, .int (Int32.ofInt xv)), (5, .int (Int32.ofInt p'))] [] (Wd A dT t') 3 24) → WS k 19 [(0, .ref (A 179)), (2, .ref q1), (3, .ref q2), (4, .ref q3), (1, .int (Int32.ofInt xv)), (5, .int (Int32.ofInt p))] [] (Wd A dT t) 3 24 := by
    intro n
    induction n with
    | zero =>
      intro t xv p I F jjEX hq hi hm kx
      exact absurd hm (Nat.not_lt_zero _)
    | succ n ih =>
      intro t xv p I F jjEX hq hi hm kx
      have b1001 : ((-2147483648) : Int) ≤ iI t 104 ∧ iI t 104 ≤ 2147483647 := I.1 104
      have b1002 : (1 : Int) ≤ iI t 103 ∧ iI t 103 ≤ 8 := I.1 103
      refine z_load X (x := p) (show cdA 275 19 = some (.iload 5, 2, 0, 0, 0) from rfl) (List.Mem.tail _ (List.Mem.tail _ (List.Mem.tail _ (List.Mem.tail _ (List.Mem.tail _ (List.Mem.head _)))))) ?_
      refine z_bipush X (show cdA 275 21 = some (.bipush 8, 2, 0, 0, 8) from rfl) ?_
      refine z_icmp_ge X (t := 39) (show cdA 275 23 = some (.if_icmp .ge 16, 3, 3, 0, 0) from rfl) (by decide) ⟨by first | exact oq_fa4e5087 hi.2.1 | omega, by first | exact oq_d3f5d874 hi.2.2 | omega⟩ (by decide) (fun g1003 => ?_) (fun g1003 => ?_)
      ·
        refine WS_lv (lv := [(0, .ref (A 179)), (2, .ref q1), (3, .ref q2), (4, .ref q3), (1, .int (Int32.ofInt xv)), (5, .int (Int32.ofInt p))]) (List.forall_mem_cons.mpr ⟨(List.Mem.head _), (List.forall_mem_cons.mpr ⟨(List.Mem.tail _ (List.Mem.head _)), (List.forall_mem_cons.mpr ⟨(List.Mem.tail _ (List.Mem.tail _ (List.Mem.head _))), (List.forall_mem_cons.mpr ⟨(List.Mem.tail _ (List.Mem.tail _ (List.Mem.tail _ (List.Mem.head _)))), (List.forall_mem_cons.mpr ⟨(List.Mem.tail _ (List.Mem.tail _ (List.Mem.tail _ (List.Mem.tail _ (List.Mem.head _))))), (List.forall_mem_cons.mpr ⟨(List.Mem.tail _ (List.Mem.tail _ (List.Mem.tail _ (List.Mem.tail _ (List.Mem.tail _ (List.Mem.head _)))))), (fun q h => absurd h List.not_mem_nil)⟩)⟩)⟩)⟩)⟩)⟩) ?_
        exact kx _ p I F jjEX hq (by first | exact ⟨And.intro (hi.1.1) (And.intro (hi.1.2.1) (hi.1.2.2)), oq_73d3719d hi.2.2 g1003⟩ | omega)
      ·
        refine z_aload X (x := q3) (show cdA 275 26 = some (.aload 4, 2, 0, 0, 0) from rfl) (List.Mem.tail _ (List.Mem.tail _ (List.Mem.tail _ (List.Mem.head _)))) ?_
        refine z_load X (x := p) (show cdA 275 28 = some (.iload 5, 2, 0, 0, 0) from rfl) (List.Mem.tail _ (List.Mem.tail _ (List.Mem.tail _ (List.Mem.tail _ (List.Mem.tail _ (List.Mem.head _)))))) ?_
        refine z_bipush X (show cdA 275 30 = some (.bipush (-100), 2, 0, 0, (-100)) from rfl) ?_
        refine z_xastE X jjEX 2 rfl (show cdA 275 32 = some (.iastore, 1, 0, 0, 0) from rfl) (by first | exact hi.2.1 | omega) (show p < 8 by first | exact g1003 | omega) (by decide) (fun ps1004 es1004 fs1004 => ?_)
        have Is1004 : Bd (sx t ps1004) := I
        have Fs1004 : FmX [104] [397] s (sx t ps1004) := F
        have ws1004_104 : iI (sx t ps1004) 104 = iI t 104 := rfl
        have ws1004_103 : iI (sx t ps1004) 103 = iI t 103 := rfl
        generalize sx t ps1004 = s1004 at *
        refine z_inc X (x := p) (lv' := [(5, .int (Int32.ofInt (p + 1))), (0, .ref (A 179)), (2, .ref q1), (3, .ref q2), (4, .ref q3), (1, .int (Int32.ofInt xv))]) (show cdA 275 33 = some (.iinc 5 1, 3, 0, 0, 0) from rfl) (by decide) (List.Mem.tail _ (List.Mem.tail _ (List.Mem.tail _ (List.Mem.tail _ (List.Mem.tail _ (List.Mem.head _)))))) (fun _ h => h) ?_
        refine z_goto X (t := 19) (show cdA 275 36 = some (.goto (-17), 3, 0, 0, 0) from rfl) (by decide) ?_
        refine WS_lv (lv := [(0, .ref (A 179)), (2, .ref q1), (3, .ref q2), (4, .ref q3), (1, .int (Int32.ofInt xv)), (5, .int (Int32.ofInt (p + 1)))]) (List.forall_mem_cons.mpr ⟨(List.Mem.tail _ (List.Mem.head _)), (List.forall_mem_cons.mpr ⟨(List.Mem.tail _ (List.Mem.tail _ (List.Mem.head _))), (List.forall_mem_cons.mpr ⟨(List.Mem.tail _ (List.Mem.tail _ (List.Mem.tail _ (List.Mem.head _)))), (List.forall_mem_cons.mpr ⟨(List.Mem.tail _ (List.Mem.tail _ (List.Mem.tail _ (List.Mem.tail _ (List.Mem.head _))))), (List.forall_mem_cons.mpr ⟨(List.Mem.tail _ (List.Mem.tail _ (List.Mem.tail _ (List.Mem.tail _ (List.Mem.tail _ (List.Mem.head _)))))), (List.forall_mem_cons.mpr ⟨(List.Mem.head _), (fun q h => absurd h List.not_mem_nil)⟩)⟩)⟩)⟩)⟩)⟩) ?_
        exact ih _ xv (p + 1) Is1004 Fs1004 es1004 (fil_x hq (by omega) (fun i j hi => xup fs1004 (by decide) i j hi)) (by first | exact ⟨And.intro (hi.1.1) (And.intro (hi.1.2.1) (hi.1.2.2)), oq_54f49eb5 hi.2.1, oq_0c7b19c3 g1003⟩ | omega) (by first | exact qk_me hm (by decide) (oq_9f368f35 g1003) | omega) kx
  have L100 : ∀ (n : Nat) (t : PS) (xv qq wa tu be p : Int), Bd t → FmX [104] [397] s t → EXl (pX s) (dT 0) [(q1, 8), (q2, 8), (q3, 8)] t → (MRN (RDM s x) (pX s).length (qq : Int).toNat t ∧ PS5 (RDM s x) (qq : Int).toNat tu wa (iC t 397 (qq : Int).toNat) ∧ NXQ (ruR (RDM s x) (qq : Int).toNat).wa (fun p => SelS (RDM s x) (qq : Int).toNat tu p ∧ ¬ bT (Int32.ofInt (iC t 397 (qq : Int).toNat)) p = true) p be) → ((xv = x ∧ 1 ≤ x ∧ x ≤ 8) ∧ (0 ≤ qq ∧ qq ≤ 23) ∧ (0 ≤ wa ∧ wa ≤ 8) ∧ (0 ≤ tu ∧ tu ≤ 1) ∧ (-1 ≤ be ∧ be ≤ 7 ∧ be < p) ∧ 0 ≤ p ∧ p ≤ x ∧ (1 ≤ iI t 103 ∧ iI t 103 ≤ 8)) → (8 - p : Int).toNat < n → (∀ (t' : PS) (be' p' : Int), Bd t' → FmX [104] [397] s t' → EXl (pX s) (dT 0) [(q1, 8), (q2, 8), (q3, 8)] t' → (MRN (RDM s x) (pX s).length (qq : Int).toNat t' ∧ PS5 (RDM s x) (qq : Int).toNat tu wa (iC t' 397 (qq : Int).toNat) ∧ NXQ (ruR (RDM s x) (qq : Int).toNat).wa (fun p => SelS (RDM s x) (qq : Int).toNat tu p ∧ ¬ bT (Int32.ofInt (iC t' 397 (qq : Int).toNat)) p = true) p' be') → ((xv = x ∧ 1 ≤ x ∧ x ≤ 8) ∧ (0 ≤ qq ∧ qq ≤ 23) ∧ (0 ≤ wa ∧ wa ≤ 8) ∧ (0 ≤ tu ∧ tu ≤ 1) ∧ (-1 ≤ be' ∧ be' ≤ 7) ∧ p' = x) → WS k 227 [(0, .ref (A 179)), (2, .ref q1), (3, .ref q2), (4, .ref q3), (1, .int (Int32.ofInt xv)), (5, .int (Int32.ofInt qq)), (6, .int (Int32.ofInt wa)), (7, .int (Int32.ofInt tu)), (8, .int (Int32.ofInt be')), (9, .int (Int32.ofInt p'))] [] (Wd A dT t') 3 24) → WS k 100 [(0, .ref (A 179)), (2, .ref q1), (3, .ref q2), (4, .ref q3), (1, .int (Int32.ofInt xv)), (5, .int (Int32.ofInt qq)), (6, .int (Int32.ofInt wa)), (7, .int (Int32.ofInt tu)), (8, .int (Int32.ofInt be)), (9, .int (Int32.ofInt p))] [] (Wd A dT t) 3 24 := by
    intro n
    induction n with
    | zero =>
      intro t xv qq wa tu be p I F jjEX hq hi hm kx
      exact absurd hm (Nat.not_lt_zero _)
    | succ n ih =>
      intro t xv qq wa tu be p I F jjEX hq hi hm kx
      have b2001 : ((-2147483648) : Int) ≤ iI t 104 ∧ iI t 104 ≤ 2147483647 := I.1 104
      have b2002 : (1 : Int) ≤ iI t 103 ∧ iI t 103 ≤ 8 := I.1 103
      refine z_load X (x := p) (show cdA 275 100 = some (.iload 9, 2, 0, 0, 0) from rfl) (List.Mem.tail _ (List.Mem.tail _ (List.Mem.tail _ (List.Mem.tail _ (List.Mem.tail _ (List.Mem.tail _ (List.Mem.tail _ (List.Mem.tail _ (List.Mem.tail _ (List.Mem.head _)))))))))) ?_
      refine z_load_n X (x := xv) (show cdA 275 102 = some (.iload_n 1, 1, 0, 0, 0) from rfl) (List.Mem.tail _ (List.Mem.tail _ (List.Mem.tail _ (List.Mem.tail _ (List.Mem.head _))))) ?_
      refine z_icmp_ge X (t := 227) (show cdA 275 103 = some (.if_icmp .ge 124, 3, 3, 0, 0) from rfl) (by decide) ⟨by first | exact oq_fa4e5087 hi.2.2.2.2.2.1 | omega, by first | exact oq_b5dbaaed hi.2.2.2.2.2.2.1 hi.1.2.2 | omega⟩ ⟨by first | exact oq_4dc996b7 hi.1.1 hi.1.2.1 | omega, by first | exact oq_8bd33971 hi.1.1 hi.1.2.2 | omega⟩ (fun g2003 => ?_) (fun g2003 => ?_)
      ·
        refine WS_lv (lv := [(0, .ref (A 179)), (2, .ref q1), (3, .ref q2), (4, .ref q3), (1, .int (Int32.ofInt xv)), (5, .int (Int32.ofInt qq)), (6, .int (Int32.ofInt wa)), (7, .int (Int32.ofInt tu)), (8, .int (Int32.ofInt be)), (9, .int (Int32.ofInt p))]) (List.forall_mem_cons.mpr ⟨(List.Mem.head _), (List.forall_mem_cons.mpr ⟨(List.Mem.tail _ (List.Mem.head _)), (List.forall_mem_cons.mpr ⟨(List.Mem.tail _ (List.Mem.tail _ (List.Mem.head _))), (List.forall_mem_cons.mpr ⟨(List.Mem.tail _ (List.Mem.tail _ (List.Mem.tail _ (List.Mem.head _)))), (List.forall_mem_cons.mpr ⟨(List.Mem.tail _ (List.Mem.tail _ (List.Mem.tail _ (List.Mem.tail _ (List.Mem.head _))))), (List.forall_mem_cons.mpr ⟨(List.Mem.tail _ (List.Mem.tail _ (List.Mem.tail _ (List.Mem.tail _ (List.Mem.tail _ (List.Mem.head _)))))), (List.forall_mem_cons.mpr ⟨(List.Mem.tail _ (List.Mem.tail _ (List.Mem.tail _ (List.Mem.tail _ (List.Mem.tail _ (List.Mem.tail _ (List.Mem.head _))))))), (List.forall_mem_cons.mpr ⟨(List.Mem.tail _ (List.Mem.tail _ (List.Mem.tail _ (List.Mem.tail _ (List.Mem.tail _ (List.Mem.tail _ (List.Mem.tail _ (List.Mem.head _)))))))), (List.forall_mem_cons.mpr ⟨(List.Mem.tail _ (List.Mem.tail _ (List.Mem.tail _ (List.Mem.tail _ (List.Mem.tail _ (List.Mem.tail _ (List.Mem.tail _ (List.Mem.tail _ (List.Mem.head _))))))))), (List.forall_mem_cons.mpr ⟨(List.Mem.tail _ (List.Mem.tail _ (List.Mem.tail _ (List.Mem.tail _ (List.Mem.tail _ (List.Mem.tail _ (List.Mem.tail _ (List.Mem.tail _ (List.Mem.tail _ (List.Mem.head _)))))))))), (fun q h => absurd h List.not_mem_nil)⟩)⟩)⟩)⟩)⟩)⟩)⟩)⟩)⟩)⟩) ?_
        exact kx _ be p I F jjEX hq (by first | exact ⟨And.intro (hi.1.1) (And.intro (hi.1.2.1) (hi.1.2.2)), And.intro (hi.2.1.1) (hi.2.1.2), And.intro (hi.2.2.1.1) (hi.2.2.1.2), And.intro (hi.2.2.2.1.1) (hi.2.2.2.1.2), And.intro (hi.2.2.2.2.1.1) (hi.2.2.2.2.1.2.1), oq_537ca82a hi.2.2.2.2.2.2.1 g2003 hi.1.1⟩ | omega)
      ·
        have hS := hq.1.1 (p : Int).toNat (by omega)
        have hS0 : xV ((pX s).length + 0) t (p : Int).toNat = (ruR (RDM s x) (qq : Int).toNat).wa (p : Int).toNat := hS.1
        have hil : iC t 398 (p : Int).toNat = (RDM s x).il (p : Int).toNat := fx_c F (by decide)
        have hwk : iI t 102 = (RDM s x).wk := fx_i F (by decide)
        have hrs : iI t 103 = (RDM s x).rs := fx_i F (by decide)
        have hnp : x = (RDM s x).np := rfl
        have hqe : qq = (((qq : Int).toNat : Nat) : Int) := by omega
        refine z_aload_n X (x := A 179) (show cdA 275 106 = some (.aload_n 0, 1, 0, 0, 0) from rfl) (List.Mem.head _) ?_
        refine s_getR X 179 (show cdA 275 107 = some (.getfield 127, 3, 12, 62, 0) from rfl) (by decide) rfl rfl ?_
        refine z_load X (x := qq) (show cdA 275 110 = some (.iload 5, 2, 0, 0, 0) from rfl) (List.Mem.tail _ (List.Mem.tail _ (List.Mem.tail _ (List.Mem.tail _ (List.Mem.tail _ (List.Mem.head _)))))) ?_
        refine z_ald X 452 (show cdA 275 112 = some (.iaload, 1, 0, 0, 0) from rfl) (by decide) rfl (by first | exact hi.2.1.1 | omega) (show qq < 24 by first | exact oq_7fdb8aa6 hi.2.1.2 | omega) (by decide) ?_
        have b2004 : (0 : Int) ≤ iC t 397 (qq).toNat ∧ iC t 397 (qq).toNat ≤ 255 := I.2 397 _ (show (qq).toNat < 24 by first | exact oq_138251d6 hi.2.1.2 | omega)
        refine z_load X (x := p) (show cdA 275 113 = some (.iload 9, 2, 0, 0, 0) from rfl) (List.Mem.tail _ (List.Mem.tail _ (List.Mem.tail _ (List.Mem.tail _ (List.Mem.tail _ (List.Mem.tail _ (List.Mem.tail _ (List.Mem.tail _ (List.Mem.tail _ (List.Mem.head _)))))))))) ?_
        refine z_bshr X (show cdA 275 115 = some (.ishr, 1, 0, 0, 0) from rfl) ?_
        refine z_anyV (fun y2005 hy2005 ey2005 => ?_)
        refine z_const X (show cdA 275 116 = some (.iconst 1, 1, 0, 0, 0) from rfl) ?_
        refine w_iand X.1 (ax_d X (show cdA 275 117 = some (.iand, 1, 0, 0, 0) from rfl)) ?_
        refine z_anyV (fun y2006 hy2006 ey2006 => ?_)
        have hbit := bt_rd (b := iC t 397 (qq : Int).toNat) (p := p) ey2005 ey2006 hy2006 (by omega)
        refine z_const X (show cdA 275 118 = some (.iconst 1, 1, 0, 0, 0) from rfl) ?_
        refine z_icmp_eq X (t := 221) (show cdA 275 119 = some (.if_icmp .eq 102, 3, 0, 0, 0) from rfl) (by decide) hy2006 (by decide) (fun g2007 => ?_) (fun g2007 => ?_)
        ·
          refine z_inc X (x := p) (lv' := [(9, .int (Int32.ofInt (p + 1))), (0, .ref (A 179)), (2, .ref q1), (3, .ref q2), (4, .ref q3), (1, .int (Int32.ofInt xv)), (5, .int (Int32.ofInt qq)), (6, .int (Int32.ofInt wa)), (7, .int (Int32.ofInt tu)), (8, .int (Int32.ofInt be))]) (show cdA 275 221 = some (.iinc 9 1, 3, 0, 0, 0) from rfl) (by decide) (List.Mem.tail _ (List.Mem.tail _ (List.Mem.tail _ (List.Mem.tail _ (List.Mem.tail _ (List.Mem.tail _ (List.Mem.tail _ (List.Mem.tail _ (List.Mem.tail _ (List.Mem.head _)))))))))) (fun _ h => h) ?_
          refine z_goto X (t := 100) (show cdA 275 224 = some (.goto (-124), 3, 0, 0, 0) from rfl) (by decide) ?_
          refine WS_lv (lv := [(0, .ref (A 179)), (2, .ref q1), (3, .ref q2), (4, .ref q3), (1, .int (Int32.ofInt xv)), (5, .int (Int32.ofInt qq)), (6, .int (Int32.ofInt wa)), (7, .int (Int32.ofInt tu)), (8, .int (Int32.ofInt be)), (9, .int (Int32.ofInt (p + 1)))]) (List.forall_mem_cons.mpr ⟨(List.Mem.tail _ (List.Mem.head _)), (List.forall_mem_cons.mpr ⟨(List.Mem.tail _ (List.Mem.tail _ (List.Mem.head _))), (List.forall_mem_cons.mpr ⟨(List.Mem.tail _ (List.Mem.tail _ (List.Mem.tail _ (List.Mem.head _)))), (List.forall_mem_cons.mpr ⟨(List.Mem.tail _ (List.Mem.tail _ (List.Mem.tail _ (List.Mem.tail _ (List.Mem.head _))))), (List.forall_mem_cons.mpr ⟨(List.Mem.tail _ (List.Mem.tail _ (List.Mem.tail _ (List.Mem.tail _ (List.Mem.tail _ (List.Mem.head _)))))), (List.forall_mem_cons.mpr ⟨(List.Mem.tail _ (List.Mem.tail _ (List.Mem.tail _ (List.Mem.tail _ (List.Mem.tail _ (List.Mem.tail _ (List.Mem.head _))))))), (List.forall_mem_cons.mpr ⟨(List.Mem.tail _ (List.Mem.tail _ (List.Mem.tail _ (List.Mem.tail _ (List.Mem.tail _ (List.Mem.tail _ (List.Mem.tail _ (List.Mem.head _)))))))), (List.forall_mem_cons.mpr ⟨(List.Mem.tail _ (List.Mem.tail _ (List.Mem.tail _ (List.Mem.tail _ (List.Mem.tail _ (List.Mem.tail _ (List.Mem.tail _ (List.Mem.tail _ (List.Mem.head _))))))))), (List.forall_mem_cons.mpr ⟨(List.Mem.tail _ (List.Mem.tail _ (List.Mem.tail _ (List.Mem.tail _ (List.Mem.tail _ (List.Mem.tail _ (List.Mem.tail _ (List.Mem.tail _ (List.Mem.tail _ (List.Mem.head _)))))))))), (List.forall_mem_cons.mpr ⟨(List.Mem.head _), (fun q h => absurd h List.not_mem_nil)⟩)⟩)⟩)⟩)⟩)⟩)⟩)⟩)⟩)⟩) ?_
          exact ih _ xv qq wa tu be (p + 1) I F jjEX ⟨hq.1, hq.2.1, nxq_n hq.2.2 (by omega) (fun a => a.2 (hbit.elim (fun z => z.2) (fun z => absurd z.1 (by omega))))⟩ (by first | exact ⟨And.intro (hi.1.1) (And.intro (hi.1.2.1) (hi.1.2.2)), And.intro (hi.2.1.1) (hi.2.1.2), And.intro (hi.2.2.1.1) (hi.2.2.1.2), And.intro (hi.2.2.2.1.1) (hi.2.2.2.1.2), And.intro (hi.2.2.2.2.1.1) (And.intro (hi.2.2.2.2.1.2.1) (oq_d130ae0d hi.2.2.2.2.1.2.2)), oq_54f49eb5 hi.2.2.2.2.2.1, oq_8a89b3ae g2003 hi.1.1, b2002.1, b2002.2⟩ | omega) (by first | exact qk_me hm (by decide) (oq_67fee7f6 g2003 hi.1.1 hi.1.2.2) | omega) kx
        ·
          have hnB : ¬ bT (Int32.ofInt (iC t 397 (qq : Int).toNat)) (p : Int).toNat = true := hbit.elim (fun z => absurd z.1 (by omega)) (fun z => z.2)
          refine z_load X (x := qq) (show cdA 275 122 = some (.iload 5, 2, 0, 0, 0) from rfl) (List.Mem.tail _ (List.Mem.tail _ (List.Mem.tail _ (List.Mem.tail _ (List.Mem.tail _ (List.Mem.head _)))))) ?_
          refine z_aload_n X (x := A 179) (show cdA 275 124 = some (.aload_n 0, 1, 0, 0, 0) from rfl) (List.Mem.head _) ?_
          refine s_getR X 179 (show cdA 275 125 = some (.getfield 136, 3, 12, 66, 0) from rfl) (by decide) rfl rfl ?_
          refine z_load X (x := p) (show cdA 275 128 = some (.iload 9, 2, 0, 0, 0) from rfl) (List.Mem.tail _ (List.Mem.tail _ (List.Mem.tail _ (List.Mem.tail _ (List.Mem.tail _ (List.Mem.tail _ (List.Mem.tail _ (List.Mem.tail _ (List.Mem.tail _ (List.Mem.head _)))))))))) ?_
          refine z_ald X 453 (show cdA 275 130 = some (.iaload, 1, 0, 0, 0) from rfl) (by decide) rfl (by first | exact hi.2.2.2.2.2.1 | omega) (show p < 8 by first | exact oq_940075ae g2003 hi.1.1 hi.1.2.2 | omega) (by decide) ?_
          have b2008 : (0 : Int) ≤ iC t 398 (p).toNat ∧ iC t 398 (p).toNat ≤ 24 := I.2 398 _ (show (p).toNat < 8 by first | exact oq_5f8a5a7e g2003 hi.1.1 hi.1.2.2 | omega)
          refine z_icmp_lt X (t := 137) (show cdA 275 131 = some (.if_icmp .lt 6, 3, 2, 0, 0) from rfl) (by decide) ⟨by first | exact oq_fa4e5087 hi.2.1.1 | omega, by first | exact oq_1a42ef34 hi.2.1.2 | omega⟩ (rng_to _) (fun g2009 => ?_) (fun g2009 => ?_)
          ·
            refine z_load X (x := tu) (show cdA 275 137 = some (.iload 7, 2, 0, 0, 0) from rfl) (List.Mem.tail _ (List.Mem.tail _ (List.Mem.tail _ (List.Mem.tail _ (List.Mem.tail _ (List.Mem.tail _ (List.Mem.tail _ (List.Mem.head _)))))))) ?_
            refine z_if_ne X (t := 173) (show cdA 275 139 = some (.ifCond .ne 34, 3, 1, 0, 0) from rfl) (by decide) ⟨by first | exact oq_fa4e5087 hi.2.2.2.1.1 | omega, by first | exact oq_22e1e6b0 hi.2.2.2.1.2 | omega⟩ (fun g2010 => ?_) (fun g2010 => ?_)
            ·
              have hsel := sel_1 (tu := tu) hS (by omega) (by omega)
              refine z_aload X (x := q3) (show cdA 275 173 = some (.aload 4, 2, 0, 0, 0) from rfl) (List.Mem.tail _ (List.Mem.tail _ (List.Mem.tail _ (List.Mem.head _)))) ?_
              refine z_load X (x := p) (show cdA 275 175 = some (.iload 9, 2, 0, 0, 0) from rfl) (List.Mem.tail _ (List.Mem.tail _ (List.Mem.tail _ (List.Mem.tail _ (List.Mem.tail _ (List.Mem.tail _ (List.Mem.tail _ (List.Mem.tail _ (List.Mem.tail _ (List.Mem.head _)))))))))) ?_
              refine z_xaldE X jjEX 2 rfl (show cdA 275 177 = some (.iaload, 1, 0, 0, 0) from rfl) (by first | exact hi.2.2.2.2.2.1 | omega) (show p < 8 by first | exact oq_940075ae g2003 hi.1.1 hi.1.2.2 | omega) (by decide) ?_
              have b2011 : rng (xV ((pX s).length + 2) t (p).toNat) := rng_to _
              refine z_load X (x := qq) (show cdA 275 178 = some (.iload 5, 2, 0, 0, 0) from rfl) (List.Mem.tail _ (List.Mem.tail _ (List.Mem.tail _ (List.Mem.tail _ (List.Mem.tail _ (List.Mem.head _)))))) ?_
              refine z_aload_n X (x := A 179) (show cdA 275 180 = some (.aload_n 0, 1, 0, 0, 0) from rfl) (List.Mem.head _) ?_
              refine z_getI X 179 (show cdA 275 181 = some (.getfield 133, 3, 12, 64, 0) from rfl) (by decide) rfl rfl ?_
              have b2012 : (1 : Int) ≤ iI t 103 ∧ iI t 103 ≤ 8 := I.1 103
              refine z_sub X (show cdA 275 184 = some (.isub, 1, 0, 0, 0) from rfl) ?_
              refine z_icmp_ge X (t := 192) (show cdA 275 185 = some (.if_icmp .ge 7, 3, 3, 0, 0) from rfl) (by decide) ⟨by first | exact b2011.1 | omega, by first | exact b2011.2 | omega⟩ ⟨by first | exact oq_0911b3f0 hi.2.1.1 b2012.2 | omega, by first | exact oq_eec9a93e hi.2.1.2 b2012.1 | omega⟩ (fun g2013 => ?_) (fun g2013 => ?_)
              ·
                refine z_const X (show cdA 275 192 = some (.iconst 0, 1, 0, 0, 0) from rfl) ?_
                refine z_store X (lv' := [(10, .int (Int32.ofInt 0)), (0, .ref (A 179)), (2, .ref q1), (3, .ref q2), (4, .ref q3), (1, .int (Int32.ofInt xv)), (5, .int (Int32.ofInt qq)), (6, .int (Int32.ofInt wa)), (7, .int (Int32.ofInt tu)), (8, .int (Int32.ofInt be)), (9, .int (Int32.ofInt p))]) (show cdA 275 193 = some (.istore 10, 2, 0, 0, 0) from rfl) (by decide) (fun _ h => h) ?_
                refine z_load X (x := 0) (show cdA 275 195 = some (.iload 10, 2, 0, 0, 0) from rfl) (List.Mem.head _) ?_
                refine z_if_eq X (t := 221) (show cdA 275 197 = some (.ifCond .eq 24, 3, 0, 0, 0) from rfl) (by decide) (by decide) (fun g2014 => ?_) (fun g2014 => ?_)
                ·
                  refine z_inc X (x := p) (lv' := [(9, .int (Int32.ofInt (p + 1))), (10, .int (Int32.ofInt 0)), (0, .ref (A 179)), (2, .ref q1), (3, .ref q2), (4, .ref q3), (1, .int (Int32.ofInt xv)), (5, .int (Int32.ofInt qq)), (6, .int (Int32.ofInt wa)), (7, .int (Int32.ofInt tu)), (8, .int (Int32.ofInt be))]) (show cdA 275 221 = some (.iinc 9 1, 3, 0, 0, 0) from rfl) (by decide) (List.Mem.tail _ (List.Mem.tail _ (List.Mem.tail _ (List.Mem.tail _ (List.Mem.tail _ (List.Mem.tail _ (List.Mem.tail _ (List.Mem.tail _ (List.Mem.tail _ (List.Mem.tail _ (List.Mem.head _))))))))))) (fun _ h => h) ?_
                  refine z_goto X (t := 100) (show cdA 275 224 = some (.goto (-124), 3, 0, 0, 0) from rfl) (by decide) ?_
                  refine WS_lv (lv := [(0, .ref (A 179)), (2, .ref q1), (3, .ref q2), (4, .ref q3), (1, .int (Int32.ofInt xv)), (5, .int (Int32.ofInt qq)), (6, .int (Int32.ofInt wa)), (7, .int (Int32.ofInt tu)), (8, .int (Int32.ofInt be)), (9, .int (Int32.ofInt (p + 1)))]) (List.forall_mem_cons.mpr ⟨(List.Mem.tail _ (List.Mem.tail _ (List.Mem.head _))), (List.forall_mem_cons.mpr ⟨(List.Mem.tail _ (List.Mem.tail _ (List.Mem.tail _ (List.Mem.head _)))), (List.forall_mem_cons.mpr ⟨(List.Mem.tail _ (List.Mem.tail _ (List.Mem.tail _ (List.Mem.tail _ (List.Mem.head _))))), (List.forall_mem_cons.mpr ⟨(List.Mem.tail _ (List.Mem.tail _ (List.Mem.tail _ (List.Mem.tail _ (List.Mem.tail _ (List.Mem.head _)))))), (List.forall_mem_cons.mpr ⟨(List.Mem.tail _ (List.Mem.tail _ (List.Mem.tail _ (List.Mem.tail _ (List.Mem.tail _ (List.Mem.tail _ (List.Mem.head _))))))), (List.forall_mem_cons.mpr ⟨(List.Mem.tail _ (List.Mem.tail _ (List.Mem.tail _ (List.Mem.tail _ (List.Mem.tail _ (List.Mem.tail _ (List.Mem.tail _ (List.Mem.head _)))))))), (List.forall_mem_cons.mpr ⟨(List.Mem.tail _ (List.Mem.tail _ (List.Mem.tail _ (List.Mem.tail _ (List.Mem.tail _ (List.Mem.tail _ (List.Mem.tail _ (List.Mem.tail _ (List.Mem.head _))))))))), (List.forall_mem_cons.mpr ⟨(List.Mem.tail _ (List.Mem.tail _ (List.Mem.tail _ (List.Mem.tail _ (List.Mem.tail _ (List.Mem.tail _ (List.Mem.tail _ (List.Mem.tail _ (List.Mem.tail _ (List.Mem.head _)))))))))), (List.forall_mem_cons.mpr ⟨(List.Mem.tail _ (List.Mem.tail _ (List.Mem.tail _ (List.Mem.tail _ (List.Mem.tail _ (List.Mem.tail _ (List.Mem.tail _ (List.Mem.tail _ (List.Mem.tail _ (List.Mem.tail _ (List.Mem.head _))))))))))), (List.forall_mem_cons.mpr ⟨(List.Mem.head _), (fun q h => absurd h List.not_mem_nil)⟩)⟩)⟩)⟩)⟩)⟩)⟩)⟩)⟩)⟩) ?_
                  exact ih _ xv qq wa tu be (p + 1) I F jjEX ⟨hq.1, hq.2.1, nxq_n hq.2.2 (by omega) (fun a => by have z := hsel.mp a.1; have z1 := z.2.2; omega)⟩ (by first | exact ⟨And.intro (hi.1.1) (And.intro (hi.1.2.1) (hi.1.2.2)), And.intro (hi.2.1.1) (hi.2.1.2), And.intro (hi.2.2.1.1) (hi.2.2.1.2), And.intro (hi.2.2.2.1.1) (hi.2.2.2.1.2), And.intro (hi.2.2.2.2.1.1) (And.intro (hi.2.2.2.2.1.2.1) (oq_d130ae0d hi.2.2.2.2.1.2.2)), oq_54f49eb5 hi.2.2.2.2.2.1, oq_8a89b3ae g2003 hi.1.1, b2012.1, b2012.2⟩ | omega) (by first | exact qk_me hm (by decide) (oq_67fee7f6 g2003 hi.1.1 hi.1.2.2) | omega) kx
                ·
                  exfalso
                  omega
              ·
                refine z_const X (show cdA 275 188 = some (.iconst 1, 1, 0, 0, 0) from rfl) ?_
                refine z_goto X (t := 193) (show cdA 275 189 = some (.goto 4, 3, 0, 0, 0) from rfl) (by decide) ?_
                refine z_store X (lv' := [(10, .int (Int32.ofInt 1)), (0, .ref (A 179)), (2, .ref q1), (3, .ref q2), (4, .ref q3), (1, .int (Int32.ofInt xv)), (5, .int (Int32.ofInt qq)), (6, .int (Int32.ofInt wa)), (7, .int (Int32.ofInt tu)), (8, .int (Int32.ofInt be)), (9, .int (Int32.ofInt p))]) (show cdA 275 193 = some (.istore 10, 2, 0, 0, 0) from rfl) (by decide) (fun _ h => h) ?_
                refine z_load X (x := 1) (show cdA 275 195 = some (.iload 10, 2, 0, 0, 0) from rfl) (List.Mem.head _) ?_
                refine z_if_eq X (t := 221) (show cdA 275 197 = some (.ifCond .eq 24, 3, 0, 0, 0) from rfl) (by decide) (by decide) (fun g2015 => ?_) (fun g2015 => ?_)
                ·
                  exfalso
                  omega
                ·
                  refine z_load X (x := be) (show cdA 275 200 = some (.iload 8, 2, 0, 0, 0) from rfl) (List.Mem.tail _ (List.Mem.tail _ (List.Mem.tail _ (List.Mem.tail _ (List.Mem.tail _ (List.Mem.tail _ (List.Mem.tail _ (List.Mem.tail _ (List.Mem.tail _ (List.Mem.head _)))))))))) ?_
                  refine z_const X (show cdA 275 202 = some (.iconst (-1), 1, 0, 0, 0) from rfl) ?_
                  refine z_icmp_eq X (t := 217) (show cdA 275 203 = some (.if_icmp .eq 14, 3, 0, 0, 0) from rfl) (by decide) ⟨by first | exact oq_97ee2c2a hi.2.2.2.2.1.1 | omega, by first | exact oq_0e78ca7d hi.2.2.2.2.1.2.1 | omega⟩ (by decide) (fun g2016 => ?_) (fun g2016 => ?_)
                  ·
                    refine z_load X (x := p) (show cdA 275 217 = some (.iload 9, 2, 0, 0, 0) from rfl) (List.Mem.tail _ (List.Mem.tail _ (List.Mem.tail _ (List.Mem.tail _ (List.Mem.tail _ (List.Mem.tail _ (List.Mem.tail _ (List.Mem.tail _ (List.Mem.tail _ (List.Mem.tail _ (List.Mem.head _))))))))))) ?_
                    refine z_store X (lv' := [(8, .int (Int32.ofInt p)), (10, .int (Int32.ofInt 1)), (0, .ref (A 179)), (2, .ref q1), (3, .ref q2), (4, .ref q3), (1, .int (Int32.ofInt xv)), (5, .int (Int32.ofInt qq)), (6, .int (Int32.ofInt wa)), (7, .int (Int32.ofInt tu)), (9, .int (Int32.ofInt p))]) (show cdA 275 219 = some (.istore 8, 2, 0, 0, 0) from rfl) (by decide) (fun _ h => h) ?_
                    refine z_inc X (x := p) (lv' := [(9, .int (Int32.ofInt (p + 1))), (8, .int (Int32.ofInt p)), (10, .int (Int32.ofInt 1)), (0, .ref (A 179)), (2, .ref q1), (3, .ref q2), (4, .ref q3), (1, .int (Int32.ofInt xv)), (5, .int (Int32.ofInt qq)), (6, .int (Int32.ofInt wa)), (7, .int (Int32.ofInt tu))]) (show cdA 275 221 = some (.iinc 9 1, 3, 0, 0, 0) from rfl) (by decide) (List.Mem.tail _ (List.Mem.tail _ (List.Mem.tail _ (List.Mem.tail _ (List.Mem.tail _ (List.Mem.tail _ (List.Mem.tail _ (List.Mem.tail _ (List.Mem.tail _ (List.Mem.tail _ (List.Mem.head _))))))))))) (fun _ h => h) ?_
                    refine z_goto X (t := 100) (show cdA 275 224 = some (.goto (-124), 3, 0, 0, 0) from rfl) (by decide) ?_
                    refine WS_lv (lv := [(0, .ref (A 179)), (2, .ref q1), (3, .ref q2), (4, .ref q3), (1, .int (Int32.ofInt xv)), (5, .int (Int32.ofInt qq)), (6, .int (Int32.ofInt wa)), (7, .int (Int32.ofInt tu)), (8, .int (Int32.ofInt p)), (9, .int (Int32.ofInt (p + 1)))]) (List.forall_mem_cons.mpr ⟨(List.Mem.tail _ (List.Mem.tail _ (List.Mem.tail _ (List.Mem.head _)))), (List.forall_mem_cons.mpr ⟨(List.Mem.tail _ (List.Mem.tail _ (List.Mem.tail _ (List.Mem.tail _ (List.Mem.head _))))), (List.forall_mem_cons.mpr ⟨(List.Mem.tail _ (List.Mem.tail _ (List.Mem.tail _ (List.Mem.tail _ (List.Mem.tail _ (List.Mem.head _)))))), (List.forall_mem_cons.mpr ⟨(List.Mem.tail _ (List.Mem.tail _ (List.Mem.tail _ (List.Mem.tail _ (List.Mem.tail _ (List.Mem.tail _ (List.Mem.head _))))))), (List.forall_mem_cons.mpr ⟨(List.Mem.tail _ (List.Mem.tail _ (List.Mem.tail _ (List.Mem.tail _ (List.Mem.tail _ (List.Mem.tail _ (List.Mem.tail _ (List.Mem.head _)))))))), (List.forall_mem_cons.mpr ⟨(List.Mem.tail _ (List.Mem.tail _ (List.Mem.tail _ (List.Mem.tail _ (List.Mem.tail _ (List.Mem.tail _ (List.Mem.tail _ (List.Mem.tail _ (List.Mem.head _))))))))), (List.forall_mem_cons.mpr ⟨(List.Mem.tail _ (List.Mem.tail _ (List.Mem.tail _ (List.Mem.tail _ (List.Mem.tail _ (List.Mem.tail _ (List.Mem.tail _ (List.Mem.tail _ (List.Mem.tail _ (List.Mem.head _)))))))))), (List.forall_mem_cons.mpr ⟨(List.Mem.tail _ (List.Mem.tail _ (List.Mem.tail _ (List.Mem.tail _ (List.Mem.tail _ (List.Mem.tail _ (List.Mem.tail _ (List.Mem.tail _ (List.Mem.tail _ (List.Mem.tail _ (List.Mem.head _))))))))))), (List.forall_mem_cons.mpr ⟨(List.Mem.tail _ (List.Mem.head _)), (List.forall_mem_cons.mpr ⟨(List.Mem.head _), (fun q h => absurd h List.not_mem_nil)⟩)⟩)⟩)⟩)⟩)⟩)⟩)⟩)⟩)⟩) ?_
                    exact ih _ xv qq wa tu p (p + 1) I F jjEX ⟨hq.1, hq.2.1, nxq_y hq.2.2 (by omega) ⟨hsel.mpr ⟨by omega, by omega, by omega⟩, hnB⟩ (Or.inl (by omega))⟩ (by first | exact ⟨And.intro (hi.1.1) (And.intro (hi.1.2.1) (hi.1.2.2)), And.intro (hi.2.1.1) (hi.2.1.2), And.intro (hi.2.2.1.1) (hi.2.2.1.2), And.intro (hi.2.2.2.1.1) (hi.2.2.2.1.2), And.intro (oq_ca54ea22 hi.2.2.2.2.2.1) (And.intro (oq_e08dc8a6 g2003 hi.1.1 hi.1.2.2) (by decide)), oq_54f49eb5 hi.2.2.2.2.2.1, oq_8a89b3ae g2003 hi.1.1, b2012.1, b2012.2⟩ | omega) (by first | exact qk_me hm (by decide) (oq_67fee7f6 g2003 hi.1.1 hi.1.2.2) | omega) kx
                  ·
                    have hSb := hq.1.1 (be : Int).toNat (by omega)
                    have hSb0 : xV ((pX s).length + 0) t (be : Int).toNat = (ruR (RDM s x) (qq : Int).toNat).wa (be : Int).toNat := hSb.1
                    refine z_aload_n X (x := q1) (show cdA 275 206 = some (.aload_n 2, 1, 0, 0, 0) from rfl) (List.Mem.tail _ (List.Mem.tail _ (List.Mem.head _))) ?_
                    refine z_load X (x := p) (show cdA 275 207 = some (.iload 9, 2, 0, 0, 0) from rfl) (List.Mem.tail _ (List.Mem.tail _ (List.Mem.tail _ (List.Mem.tail _ (List.Mem.tail _ (List.Mem.tail _ (List.Mem.tail _ (List.Mem.tail _ (List.Mem.tail _ (List.Mem.tail _ (List.Mem.head _))))))))))) ?_
                    refine z_xaldE X jjEX 0 rfl (show cdA 275 209 = some (.iaload, 1, 0, 0, 0) from rfl) (by first | exact hi.2.2.2.2.2.1 | omega) (show p < 8 by first | exact oq_940075ae g2003 hi.1.1 hi.1.2.2 | omega) (by decide) ?_
                    have b2017 : rng (xV ((pX s).length + 0) t (p).toNat) := rng_to _
                    refine z_aload_n X (x := q1) (show cdA 275 210 = some (.aload_n 2, 1, 0, 0, 0) from rfl) (List.Mem.tail _ (List.Mem.tail _ (List.Mem.head _))) ?_
                    refine z_load X (x := be) (show cdA 275 211 = some (.iload 8, 2, 0, 0, 0) from rfl) (List.Mem.tail _ (List.Mem.tail _ (List.Mem.tail _ (List.Mem.tail _ (List.Mem.tail _ (List.Mem.tail _ (List.Mem.tail _ (List.Mem.tail _ (List.Mem.tail _ (List.Mem.head _)))))))))) ?_
                    refine z_xaldE X jjEX 0 rfl (show cdA 275 213 = some (.iaload, 1, 0, 0, 0) from rfl) (by first | exact oq_7a1025bf g2016 hi.2.2.2.2.1.1 | omega) (show be < 8 by first | exact oq_aaea290e hi.2.2.2.2.1.2.1 | omega) (by decide) ?_
                    have b2018 : rng (xV ((pX s).length + 0) t (be).toNat) := rng_to _
                    refine z_icmp_ge X (t := 221) (show cdA 275 214 = some (.if_icmp .ge 7, 3, 3, 0, 0) from rfl) (by decide) ⟨by first | exact b2017.1 | omega, by first | exact b2017.2 | omega⟩ ⟨by first | exact b2018.1 | omega, by first | exact b2018.2 | omega⟩ (fun g2019 => ?_) (fun g2019 => ?_)
                    ·
                      refine z_inc X (x := p) (lv' := [(9, .int (Int32.ofInt (p + 1))), (10, .int (Int32.ofInt 1)), (0, .ref (A 179)), (2, .ref q1), (3, .ref q2), (4, .ref q3), (1, .int (Int32.ofInt xv)), (5, .int (Int32.ofInt qq)), (6, .int (Int32.ofInt wa)), (7, .int (Int32.ofInt tu)), (8, .int (Int32.ofInt be))]) (show cdA 275 221 = some (.iinc 9 1, 3, 0, 0, 0) from rfl) (by decide) (List.Mem.tail _ (List.Mem.tail _ (List.Mem.tail _ (List.Mem.tail _ (List.Mem.tail _ (List.Mem.tail _ (List.Mem.tail _ (List.Mem.tail _ (List.Mem.tail _ (List.Mem.tail _ (List.Mem.head _))))))))))) (fun _ h => h) ?_
                      refine z_goto X (t := 100) (show cdA 275 224 = some (.goto (-124), 3, 0, 0, 0) from rfl) (by decide) ?_
                      refine WS_lv (lv := [(0, .ref (A 179)), (2, .ref q1), (3, .ref q2), (4, .ref q3), (1, .int (Int32.ofInt xv)), (5, .int (Int32.ofInt qq)), (6, .int (Int32.ofInt wa)), (7, .int (Int32.ofInt tu)), (8, .int (Int32.ofInt be)), (9, .int (Int32.ofInt (p + 1)))]) (List.forall_mem_cons.mpr ⟨(List.Mem.tail _ (List.Mem.tail _ (List.Mem.head _))), (List.forall_mem_cons.mpr ⟨(List.Mem.tail _ (List.Mem.tail _ (List.Mem.tail _ (List.Mem.head _)))), (List.forall_mem_cons.mpr ⟨(List.Mem.tail _ (List.Mem.tail _ (List.Mem.tail _ (List.Mem.tail _ (List.Mem.head _))))), (List.forall_mem_cons.mpr ⟨(List.Mem.tail _ (List.Mem.tail _ (List.Mem.tail _ (List.Mem.tail _ (List.Mem.tail _ (List.Mem.head _)))))), (List.forall_mem_cons.mpr ⟨(List.Mem.tail _ (List.Mem.tail _ (List.Mem.tail _ (List.Mem.tail _ (List.Mem.tail _ (List.Mem.tail _ (List.Mem.head _))))))), (List.forall_mem_cons.mpr ⟨(List.Mem.tail _ (List.Mem.tail _ (List.Mem.tail _ (List.Mem.tail _ (List.Mem.tail _ (List.Mem.tail _ (List.Mem.tail _ (List.Mem.head _)))))))), (List.forall_mem_cons.mpr ⟨(List.Mem.tail _ (List.Mem.tail _ (List.Mem.tail _ (List.Mem.tail _ (List.Mem.tail _ (List.Mem.tail _ (List.Mem.tail _ (List.Mem.tail _ (List.Mem.head _))))))))), (List.forall_mem_cons.mpr ⟨(List.Mem.tail _ (List.Mem.tail _ (List.Mem.tail _ (List.Mem.tail _ (List.Mem.tail _ (List.Mem.tail _ (List.Mem.tail _ (List.Mem.tail _ (List.Mem.tail _ (List.Mem.head _)))))))))), (List.forall_mem_cons.mpr ⟨(List.Mem.tail _ (List.Mem.tail _ (List.Mem.tail _ (List.Mem.tail _ (List.Mem.tail _ (List.Mem.tail _ (List.Mem.tail _ (List.Mem.tail _ (List.Mem.tail _ (List.Mem.tail _ (List.Mem.head _))))))))))), (List.forall_mem_cons.mpr ⟨(List.Mem.head _), (fun q h => absurd h List.not_mem_nil)⟩)⟩)⟩)⟩)⟩)⟩)⟩)⟩)⟩)⟩) ?_
                      exact ih _ xv qq wa tu be (p + 1) I F jjEX ⟨hq.1, hq.2.1, nxq_k hq.2.2 (by omega) (by omega) (by omega)⟩ (by first | exact ⟨And.intro (hi.1.1) (And.intro (hi.1.2.1) (hi.1.2.2)), And.intro (hi.2.1.1) (hi.2.1.2), And.intro (hi.2.2.1.1) (hi.2.2.1.2), And.intro (hi.2.2.2.1.1) (hi.2.2.2.1.2), And.intro (hi.2.2.2.2.1.1) (And.intro (hi.2.2.2.2.1.2.1) (oq_d130ae0d hi.2.2.2.2.1.2.2)), oq_54f49eb5 hi.2.2.2.2.2.1, oq_8a89b3ae g2003 hi.1.1, b2012.1, b2012.2⟩ | omega) (by first | exact qk_me hm (by decide) (oq_67fee7f6 g2003 hi.1.1 hi.1.2.2) | omega) kx
                    ·
                      refine z_load X (x := p) (show cdA 275 217 = some (.iload 9, 2, 0, 0, 0) from rfl) (List.Mem.tail _ (List.Mem.tail _ (List.Mem.tail _ (List.Mem.tail _ (List.Mem.tail _ (List.Mem.tail _ (List.Mem.tail _ (List.Mem.tail _ (List.Mem.tail _ (List.Mem.tail _ (List.Mem.head _))))))))))) ?_
                      refine z_store X (lv' := [(8, .int (Int32.ofInt p)), (10, .int (Int32.ofInt 1)), (0, .ref (A 179)), (2, .ref q1), (3, .ref q2), (4, .ref q3), (1, .int (Int32.ofInt xv)), (5, .int (Int32.ofInt qq)), (6, .int (Int32.ofInt wa)), (7, .int (Int32.ofInt tu)), (9, .int (Int32.ofInt p))]) (show cdA 275 219 = some (.istore 8, 2, 0, 0, 0) from rfl) (by decide) (fun _ h => h) ?_
                      refine z_inc X (x := p) (lv' := [(9, .int (Int32.ofInt (p + 1))), (8, .int (Int32.ofInt p)), (10, .int (Int32.ofInt 1)), (0, .ref (A 179)), (2, .ref q1), (3, .ref q2), (4, .ref q3), (1, .int (Int32.ofInt xv)), (5, .int (Int32.ofInt qq)), (6, .int (Int32.ofInt wa)), (7, .int (Int32.ofInt tu))]) (show cdA 275 221 = some (.iinc 9 1, 3, 0, 0, 0) from rfl) (by decide) (List.Mem.tail _ (List.Mem.tail _ (List.Mem.tail _ (List.Mem.tail _ (List.Mem.tail _ (List.Mem.tail _ (List.Mem.tail _ (List.Mem.tail _ (List.Mem.tail _ (List.Mem.tail _ (List.Mem.head _))))))))))) (fun _ h => h) ?_
                      refine z_goto X (t := 100) (show cdA 275 224 = some (.goto (-124), 3, 0, 0, 0) from rfl) (by decide) ?_
                      refine WS_lv (lv := [(0, .ref (A 179)), (2, .ref q1), (3, .ref q2), (4, .ref q3), (1, .int (Int32.ofInt xv)), (5, .int (Int32.ofInt qq)), (6, .int (Int32.ofInt wa)), (7, .int (Int32.ofInt tu)), (8, .int (Int32.ofInt p)), (9, .int (Int32.ofInt (p + 1)))]) (List.forall_mem_cons.mpr ⟨(List.Mem.tail _ (List.Mem.tail _ (List.Mem.tail _ (List.Mem.head _)))), (List.forall_mem_cons.mpr ⟨(List.Mem.tail _ (List.Mem.tail _ (List.Mem.tail _ (List.Mem.tail _ (List.Mem.head _))))), (List.forall_mem_cons.mpr ⟨(List.Mem.tail _ (List.Mem.tail _ (List.Mem.tail _ (List.Mem.tail _ (List.Mem.tail _ (List.Mem.head _)))))), (List.forall_mem_cons.mpr ⟨(List.Mem.tail _ (List.Mem.tail _ (List.Mem.tail _ (List.Mem.tail _ (List.Mem.tail _ (List.Mem.tail _ (List.Mem.head _))))))), (List.forall_mem_cons.mpr ⟨(List.Mem.tail _ (List.Mem.tail _ (List.Mem.tail _ (List.Mem.tail _ (List.Mem.tail _ (List.Mem.tail _ (List.Mem.tail _ (List.Mem.head _)))))))), (List.forall_mem_cons.mpr ⟨(List.Mem.tail _ (List.Mem.tail _ (List.Mem.tail _ (List.Mem.tail _ (List.Mem.tail _ (List.Mem.tail _ (List.Mem.tail _ (List.Mem.tail _ (List.Mem.head _))))))))), (List.forall_mem_cons.mpr ⟨(List.Mem.tail _ (List.Mem.tail _ (List.Mem.tail _ (List.Mem.tail _ (List.Mem.tail _ (List.Mem.tail _ (List.Mem.tail _ (List.Mem.tail _ (List.Mem.tail _ (List.Mem.head _)))))))))), (List.forall_mem_cons.mpr ⟨(List.Mem.tail _ (List.Mem.tail _ (List.Mem.tail _ (List.Mem.tail _ (List.Mem.tail _ (List.Mem.tail _ (List.Mem.tail _ (List.Mem.tail _ (List.Mem.tail _ (List.Mem.tail _ (List.Mem.head _))))))))))), (List.forall_mem_cons.mpr ⟨(List.Mem.tail _ (List.Mem.head _)), (List.forall_mem_cons.mpr ⟨(List.Mem.head _), (fun q h => absurd h List.not_mem_nil)⟩)⟩)⟩)⟩)⟩)⟩)⟩)⟩)⟩)⟩) ?_
                      exact ih _ xv qq wa tu p (p + 1) I F jjEX ⟨hq.1, hq.2.1, nxq_y hq.2.2 (by omega) ⟨hsel.mpr ⟨by omega, by omega, by omega⟩, hnB⟩ (Or.inr (by omega))⟩ (by first | exact ⟨And.intro (hi.1.1) (And.intro (hi.1.2.1) (hi.1.2.2)), And.intro (hi.2.1.1) (hi.2.1.2), And.intro (hi.2.2.1.1) (hi.2.2.1.2), And.intro (hi.2.2.2.1.1) (hi.2.2.2.1.2), And.intro (oq_ca54ea22 hi.2.2.2.2.2.1) (And.intro (oq_e08dc8a6 g2003 hi.1.1 hi.1.2.2) (by decide)), oq_54f49eb5 hi.2.2.2.2.2.1, oq_8a89b3ae g2003 hi.1.1, b2012.1, b2012.2⟩ | omega) (by first | exact qk_me hm (by decide) (oq_67fee7f6 g2003 hi.1.1 hi.1.2.2) | omega) kx
            ·
              have hsel := sel_0 (tu := tu) hS (by omega)
              refine z_aload X (x := q3) (show cdA 275 142 = some (.aload 4, 2, 0, 0, 0) from rfl) (List.Mem.tail _ (List.Mem.tail _ (List.Mem.tail _ (List.Mem.head _)))) ?_
              refine z_load X (x := p) (show cdA 275 144 = some (.iload 9, 2, 0, 0, 0) from rfl) (List.Mem.tail _ (List.Mem.tail _ (List.Mem.tail _ (List.Mem.tail _ (List.Mem.tail _ (List.Mem.tail _ (List.Mem.tail _ (List.Mem.tail _ (List.Mem.tail _ (List.Mem.head _)))))))))) ?_
              refine z_xaldE X jjEX 2 rfl (show cdA 275 146 = some (.iaload, 1, 0, 0, 0) from rfl) (by first | exact hi.2.2.2.2.2.1 | omega) (show p < 8 by first | exact oq_940075ae g2003 hi.1.1 hi.1.2.2 | omega) (by decide) ?_
              have b2020 : rng (xV ((pX s).length + 2) t (p).toNat) := rng_to _
              refine z_load X (x := qq) (show cdA 275 147 = some (.iload 5, 2, 0, 0, 0) from rfl) (List.Mem.tail _ (List.Mem.tail _ (List.Mem.tail _ (List.Mem.tail _ (List.Mem.tail _ (List.Mem.head _)))))) ?_
              refine z_const X (show cdA 275 149 = some (.iconst 1, 1, 0, 0, 0) from rfl) ?_
              refine z_sub X (show cdA 275 150 = some (.isub, 1, 0, 0, 0) from rfl) ?_
              refine z_icmp_ne X (t := 169) (show cdA 275 151 = some (.if_icmp .ne 18, 3, 1, 0, 0) from rfl) (by decide) ⟨by first | exact b2020.1 | omega, by first | exact b2020.2 | omega⟩ ⟨by first | exact oq_c1e961c7 hi.2.1.1 | omega, by first | exact oq_7b087cf4 hi.2.1.2 | omega⟩ (fun g2021 => ?_) (fun g2021 => ?_)
              ·
                refine z_const X (show cdA 275 169 = some (.iconst 0, 1, 0, 0, 0) from rfl) ?_
                refine z_goto X (t := 193) (show cdA 275 170 = some (.goto 23, 3, 0, 0, 0) from rfl) (by decide) ?_
                refine z_store X (lv' := [(10, .int (Int32.ofInt 0)), (0, .ref (A 179)), (2, .ref q1), (3, .ref q2), (4, .ref q3), (1, .int (Int32.ofInt xv)), (5, .int (Int32.ofInt qq)), (6, .int (Int32.ofInt wa)), (7, .int (Int32.ofInt tu)), (8, .int (Int32.ofInt be)), (9, .int (Int32.ofInt p))]) (show cdA 275 193 = some (.istore 10, 2, 0, 0, 0) from rfl) (by decide) (fun _ h => h) ?_
                refine z_load X (x := 0) (show cdA 275 195 = some (.iload 10, 2, 0, 0, 0) from rfl) (List.Mem.head _) ?_
                refine z_if_eq X (t := 221) (show cdA 275 197 = some (.ifCond .eq 24, 3, 0, 0, 0) from rfl) (by decide) (by decide) (fun g2022 => ?_) (fun g2022 => ?_)
                ·
                  refine z_inc X (x := p) (lv' := [(9, .int (Int32.ofInt (p + 1))), (10, .int (Int32.ofInt 0)), (0, .ref (A 179)), (2, .ref q1), (3, .ref q2), (4, .ref q3), (1, .int (Int32.ofInt xv)), (5, .int (Int32.ofInt qq)), (6, .int (Int32.ofInt wa)), (7, .int (Int32.ofInt tu)), (8, .int (Int32.ofInt be))]) (show cdA 275 221 = some (.iinc 9 1, 3, 0, 0, 0) from rfl) (by decide) (List.Mem.tail _ (List.Mem.tail _ (List.Mem.tail _ (List.Mem.tail _ (List.Mem.tail _ (List.Mem.tail _ (List.Mem.tail _ (List.Mem.tail _ (List.Mem.tail _ (List.Mem.tail _ (List.Mem.head _))))))))))) (fun _ h => h) ?_
                  refine z_goto X (t := 100) (show cdA 275 224 = some (.goto (-124), 3, 0, 0, 0) from rfl) (by decide) ?_
                  refine WS_lv (lv := [(0, .ref (A 179)), (2, .ref q1), (3, .ref q2), (4, .ref q3), (1, .int (Int32.ofInt xv)), (5, .int (Int32.ofInt qq)), (6, .int (Int32.ofInt wa)), (7, .int (Int32.ofInt tu)), (8, .int (Int32.ofInt be)), (9, .int (Int32.ofInt (p + 1)))]) (List.forall_mem_cons.mpr ⟨(List.Mem.tail _ (List.Mem.tail _ (List.Mem.head _))), (List.forall_mem_cons.mpr ⟨(List.Mem.tail _ (List.Mem.tail _ (List.Mem.tail _ (List.Mem.head _)))), (List.forall_mem_cons.mpr ⟨(List.Mem.tail _ (List.Mem.tail _ (List.Mem.tail _ (List.Mem.tail _ (List.Mem.head _))))), (List.forall_mem_cons.mpr ⟨(List.Mem.tail _ (List.Mem.tail _ (List.Mem.tail _ (List.Mem.tail _ (List.Mem.tail _ (List.Mem.head _)))))), (List.forall_mem_cons.mpr ⟨(List.Mem.tail _ (List.Mem.tail _ (List.Mem.tail _ (List.Mem.tail _ (List.Mem.tail _ (List.Mem.tail _ (List.Mem.head _))))))), (List.forall_mem_cons.mpr ⟨(List.Mem.tail _ (List.Mem.tail _ (List.Mem.tail _ (List.Mem.tail _ (List.Mem.tail _ (List.Mem.tail _ (List.Mem.tail _ (List.Mem.head _)))))))), (List.forall_mem_cons.mpr ⟨(List.Mem.tail _ (List.Mem.tail _ (List.Mem.tail _ (List.Mem.tail _ (List.Mem.tail _ (List.Mem.tail _ (List.Mem.tail _ (List.Mem.tail _ (List.Mem.head _))))))))), (List.forall_mem_cons.mpr ⟨(List.Mem.tail _ (List.Mem.tail _ (List.Mem.tail _ (List.Mem.tail _ (List.Mem.tail _ (List.Mem.tail _ (List.Mem.tail _ (List.Mem.tail _ (List.Mem.tail _ (List.Mem.head _)))))))))), (List.forall_mem_cons.mpr ⟨(List.Mem.tail _ (List.Mem.tail _ (List.Mem.tail _ (List.Mem.tail _ (List.Mem.tail _ (List.Mem.tail _ (List.Mem.tail _ (List.Mem.tail _ (List.Mem.tail _ (List.Mem.tail _ (List.Mem.head _))))))))))), (List.forall_mem_cons.mpr ⟨(List.Mem.head _), (fun q h => absurd h List.not_mem_nil)⟩)⟩)⟩)⟩)⟩)⟩)⟩)⟩)⟩)⟩) ?_
                  exact ih _ xv qq wa tu be (p + 1) I F jjEX ⟨hq.1, hq.2.1, nxq_n hq.2.2 (by omega) (fun a => by have z := hsel.mp a.1; have z1 := z.2.2; omega)⟩ (by first | exact ⟨And.intro (hi.1.1) (And.intro (hi.1.2.1) (hi.1.2.2)), And.intro (hi.2.1.1) (hi.2.1.2), And.intro (hi.2.2.1.1) (hi.2.2.1.2), And.intro (hi.2.2.2.1.1) (hi.2.2.2.1.2), And.intro (hi.2.2.2.2.1.1) (And.intro (hi.2.2.2.2.1.2.1) (oq_d130ae0d hi.2.2.2.2.1.2.2)), oq_54f49eb5 hi.2.2.2.2.2.1, oq_8a89b3ae g2003 hi.1.1, b2002.1, b2002.2⟩ | omega) (by first | exact qk_me hm (by decide) (oq_67fee7f6 g2003 hi.1.1 hi.1.2.2) | omega) kx
                ·
                  exfalso
                  omega
              ·
                refine z_aload_n X (x := q2) (show cdA 275 154 = some (.aload_n 3, 1, 0, 0, 0) from rfl) (List.Mem.tail _ (List.Mem.tail _ (List.Mem.head _))) ?_
                refine z_load X (x := p) (show cdA 275 155 = some (.iload 9, 2, 0, 0, 0) from rfl) (List.Mem.tail _ (List.Mem.tail _ (List.Mem.tail _ (List.Mem.tail _ (List.Mem.tail _ (List.Mem.tail _ (List.Mem.tail _ (List.Mem.tail _ (List.Mem.tail _ (List.Mem.head _)))))))))) ?_
                refine z_xaldE X jjEX 1 rfl (show cdA 275 157 = some (.iaload, 1, 0, 0, 0) from rfl) (by first | exact hi.2.2.2.2.2.1 | omega) (show p < 8 by first | exact oq_940075ae g2003 hi.1.1 hi.1.2.2 | omega) (by decide) ?_
                have b2023 : rng (xV ((pX s).length + 1) t (p).toNat) := rng_to _
                refine z_aload_n X (x := A 179) (show cdA 275 158 = some (.aload_n 0, 1, 0, 0, 0) from rfl) (List.Mem.head _) ?_
                refine z_getI X 179 (show cdA 275 159 = some (.getfield 130, 3, 12, 63, 0) from rfl) (by decide) rfl rfl ?_
                have b2024 : (1 : Int) ≤ iI t 102 ∧ iI t 102 ≤ 24 := I.1 102
                refine z_icmp_ge X (t := 169) (show cdA 275 162 = some (.if_icmp .ge 7, 3, 3, 0, 0) from rfl) (by decide) ⟨by first | exact b2023.1 | omega, by first | exact b2023.2 | omega⟩ (rng_to _) (fun g2025 => ?_) (fun g2025 => ?_)
                ·
                  refine z_const X (show cdA 275 169 = some (.iconst 0, 1, 0, 0, 0) from rfl) ?_
                  refine z_goto X (t := 193) (show cdA 275 170 = some (.goto 23, 3, 0, 0, 0) from rfl) (by decide) ?_
                  refine z_store X (lv' := [(10, .int (Int32.ofInt 0)), (0, .ref (A 179)), (2, .ref q1), (3, .ref q2), (4, .ref q3), (1, .int (Int32.ofInt xv)), (5, .int (Int32.ofInt qq)), (6, .int (Int32.ofInt wa)), (7, .int (Int32.ofInt tu)), (8, .int (Int32.ofInt be)), (9, .int (Int32.ofInt p))]) (show cdA 275 193 = some (.istore 10, 2, 0, 0, 0) from rfl) (by decide) (fun _ h => h) ?_
                  refine z_load X (x := 0) (show cdA 275 195 = some (.iload 10, 2, 0, 0, 0) from rfl) (List.Mem.head _) ?_
                  refine z_if_eq X (t := 221) (show cdA 275 197 = some (.ifCond .eq 24, 3, 0, 0, 0) from rfl) (by decide) (by decide) (fun g2026 => ?_) (fun g2026 => ?_)
                  ·
                    refine z_inc X (x := p) (lv' := [(9, .int (Int32.ofInt (p + 1))), (10, .int (Int32.ofInt 0)), (0, .ref (A 179)), (2, .ref q1), (3, .ref q2), (4, .ref q3), (1, .int (Int32.ofInt xv)), (5, .int (Int32.ofInt qq)), (6, .int (Int32.ofInt wa)), (7, .int (Int32.ofInt tu)), (8, .int (Int32.ofInt be))]) (show cdA 275 221 = some (.iinc 9 1, 3, 0, 0, 0) from rfl) (by decide) (List.Mem.tail _ (List.Mem.tail _ (List.Mem.tail _ (List.Mem.tail _ (List.Mem.tail _ (List.Mem.tail _ (List.Mem.tail _ (List.Mem.tail _ (List.Mem.tail _ (List.Mem.tail _ (List.Mem.head _))))))))))) (fun _ h => h) ?_
                    refine z_goto X (t := 100) (show cdA 275 224 = some (.goto (-124), 3, 0, 0, 0) from rfl) (by decide) ?_
                    refine WS_lv (lv := [(0, .ref (A 179)), (2, .ref q1), (3, .ref q2), (4, .ref q3), (1, .int (Int32.ofInt xv)), (5, .int (Int32.ofInt qq)), (6, .int (Int32.ofInt wa)), (7, .int (Int32.ofInt tu)), (8, .int (Int32.ofInt be)), (9, .int (Int32.ofInt (p + 1)))]) (List.forall_mem_cons.mpr ⟨(List.Mem.tail _ (List.Mem.tail _ (List.Mem.head _))), (List.forall_mem_cons.mpr ⟨(List.Mem.tail _ (List.Mem.tail _ (List.Mem.tail _ (List.Mem.head _)))), (List.forall_mem_cons.mpr ⟨(List.Mem.tail _ (List.Mem.tail _ (List.Mem.tail _ (List.Mem.tail _ (List.Mem.head _))))), (List.forall_mem_cons.mpr ⟨(List.Mem.tail _ (List.Mem.tail _ (List.Mem.tail _ (List.Mem.tail _ (List.Mem.tail _ (List.Mem.head _)))))), (List.forall_mem_cons.mpr ⟨(List.Mem.tail _ (List.Mem.tail _ (List.Mem.tail _ (List.Mem.tail _ (List.Mem.tail _ (List.Mem.tail _ (List.Mem.head _))))))), (List.forall_mem_cons.mpr ⟨(List.Mem.tail _ (List.Mem.tail _ (List.Mem.tail _ (List.Mem.tail _ (List.Mem.tail _ (List.Mem.tail _ (List.Mem.tail _ (List.Mem.head _)))))))), (List.forall_mem_cons.mpr ⟨(List.Mem.tail _ (List.Mem.tail _ (List.Mem.tail _ (List.Mem.tail _ (List.Mem.tail _ (List.Mem.tail _ (List.Mem.tail _ (List.Mem.tail _ (List.Mem.head _))))))))), (List.forall_mem_cons.mpr ⟨(List.Mem.tail _ (List.Mem.tail _ (List.Mem.tail _ (List.Mem.tail _ (List.Mem.tail _ (List.Mem.tail _ (List.Mem.tail _ (List.Mem.tail _ (List.Mem.tail _ (List.Mem.head _)))))))))), (List.forall_mem_cons.mpr ⟨(List.Mem.tail _ (List.Mem.tail _ (List.Mem.tail _ (List.Mem.tail _ (List.Mem.tail _ (List.Mem.tail _ (List.Mem.tail _ (List.Mem.tail _ (List.Mem.tail _ (List.Mem.tail _ (List.Mem.head _))))))))))), (List.forall_mem_cons.mpr ⟨(List.Mem.head _), (fun q h => absurd h List.not_mem_nil)⟩)⟩)⟩)⟩)⟩)⟩)⟩)⟩)⟩)⟩) ?_
                    exact ih _ xv qq wa tu be (p + 1) I F jjEX ⟨hq.1, hq.2.1, nxq_n hq.2.2 (by omega) (fun a => by have z := hsel.mp a.1; have z1 := z.2.2; omega)⟩ (by first | exact ⟨And.intro (hi.1.1) (And.intro (hi.1.2.1) (hi.1.2.2)), And.intro (hi.2.1.1) (hi.2.1.2), And.intro (hi.2.2.1.1) (hi.2.2.1.2), And.intro (hi.2.2.2.1.1) (hi.2.2.2.1.2), And.intro (hi.2.2.2.2.1.1) (And.intro (hi.2.2.2.2.1.2.1) (oq_d130ae0d hi.2.2.2.2.1.2.2)), oq_54f49eb5 hi.2.2.2.2.2.1, oq_8a89b3ae g2003 hi.1.1, b2002.1, b2002.2⟩ | omega) (by first | exact qk_me hm (by decide) (oq_67fee7f6 g2003 hi.1.1 hi.1.2.2) | omega) kx
                  ·
                    exfalso
                    omega
                ·
                  refine z_const X (show cdA 275 165 = some (.iconst 1, 1, 0, 0, 0) from rfl) ?_
                  refine z_goto X (t := 193) (show cdA 275 166 = some (.goto 27, 3, 0, 0, 0) from rfl) (by decide) ?_
                  refine z_store X (lv' := [(10, .int (Int32.ofInt 1)), (0, .ref (A 179)), (2, .ref q1), (3, .ref q2), (4, .ref q3), (1, .int (Int32.ofInt xv)), (5, .int (Int32.ofInt qq)), (6, .int (Int32.ofInt wa)), (7, .int (Int32.ofInt tu)), (8, .int (Int32.ofInt be)), (9, .int (Int32.ofInt p))]) (show cdA 275 193 = some (.istore 10, 2, 0, 0, 0) from rfl) (by decide) (fun _ h => h) ?_
                  refine z_load X (x := 1) (show cdA 275 195 = some (.iload 10, 2, 0, 0, 0) from rfl) (List.Mem.head _) ?_
                  refine z_if_eq X (t := 221) (show cdA 275 197 = some (.ifCond .eq 24, 3, 0, 0, 0) from rfl) (by decide) (by decide) (fun g2027 => ?_) (fun g2027 => ?_)
                  ·
                    exfalso
                    omega
                  ·
                    refine z_load X (x := be) (show cdA 275 200 = some (.iload 8, 2, 0, 0, 0) from rfl) (List.Mem.tail _ (List.Mem.tail _ (List.Mem.tail _ (List.Mem.tail _ (List.Mem.tail _ (List.Mem.tail _ (List.Mem.tail _ (List.Mem.tail _ (List.Mem.tail _ (List.Mem.head _)))))))))) ?_
                    refine z_const X (show cdA 275 202 = some (.iconst (-1), 1, 0, 0, 0) from rfl) ?_
                    refine z_icmp_eq X (t := 217) (show cdA 275 203 = some (.if_icmp .eq 14, 3, 0, 0, 0) from rfl) (by decide) ⟨by first | exact oq_97ee2c2a hi.2.2.2.2.1.1 | omega, by first | exact oq_0e78ca7d hi.2.2.2.2.1.2.1 | omega⟩ (by decide) (fun g2028 => ?_) (fun g2028 => ?_)
                    ·
                      refine z_load X (x := p) (show cdA 275 217 = some (.iload 9, 2, 0, 0, 0) from rfl) (List.Mem.tail _ (List.Mem.tail _ (List.Mem.tail _ (List.Mem.tail _ (List.Mem.tail _ (List.Mem.tail _ (List.Mem.tail _ (List.Mem.tail _ (List.Mem.tail _ (List.Mem.tail _ (List.Mem.head _))))))))))) ?_
                      refine z_store X (lv' := [(8, .int (Int32.ofInt p)), (10, .int (Int32.ofInt 1)), (0, .ref (A 179)), (2, .ref q1), (3, .ref q2), (4, .ref q3), (1, .int (Int32.ofInt xv)), (5, .int (Int32.ofInt qq)), (6, .int (Int32.ofInt wa)), (7, .int (Int32.ofInt tu)), (9, .int (Int32.ofInt p))]) (show cdA 275 219 = some (.istore 8, 2, 0, 0, 0) from rfl) (by decide) (fun _ h => h) ?_
                      refine z_inc X (x := p) (lv' := [(9, .int (Int32.ofInt (p + 1))), (8, .int (Int32.ofInt p)), (10, .int (Int32.ofInt 1)), (0, .ref (A 179)), (2, .ref q1), (3, .ref q2), (4, .ref q3), (1, .int (Int32.ofInt xv)), (5, .int (Int32.ofInt qq)), (6, .int (Int32.ofInt wa)), (7, .int (Int32.ofInt tu))]) (show cdA 275 221 = some (.iinc 9 1, 3, 0, 0, 0) from rfl) (by decide) (List.Mem.tail _ (List.Mem.tail _ (List.Mem.tail _ (List.Mem.tail _ (List.Mem.tail _ (List.Mem.tail _ (List.Mem.tail _ (List.Mem.tail _ (List.Mem.tail _ (List.Mem.tail _ (List.Mem.head _))))))))))) (fun _ h => h) ?_
                      refine z_goto X (t := 100) (show cdA 275 224 = some (.goto (-124), 3, 0, 0, 0) from rfl) (by decide) ?_
                      refine WS_lv (lv := [(0, .ref (A 179)), (2, .ref q1), (3, .ref q2), (4, .ref q3), (1, .int (Int32.ofInt xv)), (5, .int (Int32.ofInt qq)), (6, .int (Int32.ofInt wa)), (7, .int (Int32.ofInt tu)), (8, .int (Int32.ofInt p)), (9, .int (Int32.ofInt (p + 1)))]) (List.forall_mem_cons.mpr ⟨(List.Mem.tail _ (List.Mem.tail _ (List.Mem.tail _ (List.Mem.head _)))), (List.forall_mem_cons.mpr ⟨(List.Mem.tail _ (List.Mem.tail _ (List.Mem.tail _ (List.Mem.tail _ (List.Mem.head _))))), (List.forall_mem_cons.mpr ⟨(List.Mem.tail _ (List.Mem.tail _ (List.Mem.tail _ (List.Mem.tail _ (List.Mem.tail _ (List.Mem.head _)))))), (List.forall_mem_cons.mpr ⟨(List.Mem.tail _ (List.Mem.tail _ (List.Mem.tail _ (List.Mem.tail _ (List.Mem.tail _ (List.Mem.tail _ (List.Mem.head _))))))), (List.forall_mem_cons.mpr ⟨(List.Mem.tail _ (List.Mem.tail _ (List.Mem.tail _ (List.Mem.tail _ (List.Mem.tail _ (List.Mem.tail _ (List.Mem.tail _ (List.Mem.head _)))))))), (List.forall_mem_cons.mpr ⟨(List.Mem.tail _ (List.Mem.tail _ (List.Mem.tail _ (List.Mem.tail _ (List.Mem.tail _ (List.Mem.tail _ (List.Mem.tail _ (List.Mem.tail _ (List.Mem.head _))))))))), (List.forall_mem_cons.mpr ⟨(List.Mem.tail _ (List.Mem.tail _ (List.Mem.tail _ (List.Mem.tail _ (List.Mem.tail _ (List.Mem.tail _ (List.Mem.tail _ (List.Mem.tail _ (List.Mem.tail _ (List.Mem.head _)))))))))), (List.forall_mem_cons.mpr ⟨(List.Mem.tail _ (List.Mem.tail _ (List.Mem.tail _ (List.Mem.tail _ (List.Mem.tail _ (List.Mem.tail _ (List.Mem.tail _ (List.Mem.tail _ (List.Mem.tail _ (List.Mem.tail _ (List.Mem.head _))))))))))), (List.forall_mem_cons.mpr ⟨(List.Mem.tail _ (List.Mem.head _)), (List.forall_mem_cons.mpr ⟨(List.Mem.head _), (fun q h => absurd h List.not_mem_nil)⟩)⟩)⟩)⟩)⟩)⟩)⟩)⟩)⟩)⟩) ?_
                      exact ih _ xv qq wa tu p (p + 1) I F jjEX ⟨hq.1, hq.2.1, nxq_y hq.2.2 (by omega) ⟨hsel.mpr ⟨by omega, by omega, by omega, by omega⟩, hnB⟩ (Or.inl (by omega))⟩ (by first | exact ⟨And.intro (hi.1.1) (And.intro (hi.1.2.1) (hi.1.2.2)), And.intro (hi.2.1.1) (hi.2.1.2), And.intro (hi.2.2.1.1) (hi.2.2.1.2), And.intro (hi.2.2.2.1.1) (hi.2.2.2.1.2), And.intro (oq_ca54ea22 hi.2.2.2.2.2.1) (And.intro (oq_e08dc8a6 g2003 hi.1.1 hi.1.2.2) (by decide)), oq_54f49eb5 hi.2.2.2.2.2.1, oq_8a89b3ae g2003 hi.1.1, b2002.1, b2002.2⟩ | omega) (by first | exact qk_me hm (by decide) (oq_67fee7f6 g2003 hi.1.1 hi.1.2.2) | omega) kx
                    ·
                      have hSb := hq.1.1 (be : Int).toNat (by omega)
                      have hSb0 : xV ((pX s).length + 0) t (be : Int).toNat = (ruR (RDM s x) (qq : Int).toNat).wa (be : Int).toNat := hSb.1
                      refine z_aload_n X (x := q1) (show cdA 275 206 = some (.aload_n 2, 1, 0, 0, 0) from rfl) (List.Mem.tail _ (List.Mem.tail _ (List.Mem.head _))) ?_
                      refine z_load X (x := p) (show cdA 275 207 = some (.iload 9, 2, 0, 0, 0) from rfl) (List.Mem.tail _ (List.Mem.tail _ (List.Mem.tail _ (List.Mem.tail _ (List.Mem.tail _ (List.Mem.tail _ (List.Mem.tail _ (List.Mem.tail _ (List.Mem.tail _ (List.Mem.tail _ (List.Mem.head _))))))))))) ?_
                      refine z_xaldE X jjEX 0 rfl (show cdA 275 209 = some (.iaload, 1, 0, 0, 0) from rfl) (by first | exact hi.2.2.2.2.2.1 | omega) (show p < 8 by first | exact oq_940075ae g2003 hi.1.1 hi.1.2.2 | omega) (by decide) ?_
                      have b2029 : rng (xV ((pX s).length + 0) t (p).toNat) := rng_to _
                      refine z_aload_n X (x := q1) (show cdA 275 210 = some (.aload_n 2, 1, 0, 0, 0) from rfl) (List.Mem.tail _ (List.Mem.tail _ (List.Mem.head _))) ?_
                      refine z_load X (x := be) (show cdA 275 211 = some (.iload 8, 2, 0, 0, 0) from rfl) (List.Mem.tail _ (List.Mem.tail _ (List.Mem.tail _ (List.Mem.tail _ (List.Mem.tail _ (List.Mem.tail _ (List.Mem.tail _ (List.Mem.tail _ (List.Mem.tail _ (List.Mem.head _)))))))))) ?_
                      refine z_xaldE X jjEX 0 rfl (show cdA 275 213 = some (.iaload, 1, 0, 0, 0) from rfl) (by first | exact oq_7a1025bf g2028 hi.2.2.2.2.1.1 | omega) (show be < 8 by first | exact oq_aaea290e hi.2.2.2.2.1.2.1 | omega) (by decide) ?_
                      have b2030 : rng (xV ((pX s).length + 0) t (be).toNat) := rng_to _
                      refine z_icmp_ge X (t := 221) (show cdA 275 214 = some (.if_icmp .ge 7, 3, 3, 0, 0) from rfl) (by decide) ⟨by first | exact b2029.1 | omega, by first | exact b2029.2 | omega⟩ ⟨by first | exact b2030.1 | omega, by first | exact b2030.2 | omega⟩ (fun g2031 => ?_) (fun g2031 => ?_)
                      ·
                        refine z_inc X (x := p) (lv' := [(9, .int (Int32.ofInt (p + 1))), (10, .int (Int32.ofInt 1)), (0, .ref (A 179)), (2, .ref q1), (3, .ref q2), (4, .ref q3), (1, .int (Int32.ofInt xv)), (5, .int (Int32.ofInt qq)), (6, .int (Int32.ofInt wa)), (7, .int (Int32.ofInt tu)), (8, .int (Int32.ofInt be))]) (show cdA 275 221 = some (.iinc 9 1, 3, 0, 0, 0) from rfl) (by decide) (List.Mem.tail _ (List.Mem.tail _ (List.Mem.tail _ (List.Mem.tail _ (List.Mem.tail _ (List.Mem.tail _ (List.Mem.tail _ (List.Mem.tail _ (List.Mem.tail _ (List.Mem.tail _ (List.Mem.head _))))))))))) (fun _ h => h) ?_
                        refine z_goto X (t := 100) (show cdA 275 224 = some (.goto (-124), 3, 0, 0, 0) from rfl) (by decide) ?_
                        refine WS_lv (lv := [(0, .ref (A 179)), (2, .ref q1), (3, .ref q2), (4, .ref q3), (1, .int (Int32.ofInt xv)), (5, .int (Int32.ofInt qq)), (6, .int (Int32.ofInt wa)), (7, .int (Int32.ofInt tu)), (8, .int (Int32.ofInt be)), (9, .int (Int32.ofInt (p + 1)))]) (List.forall_mem_cons.mpr ⟨(List.Mem.tail _ (List.Mem.tail _ (List.Mem.head _))), (List.forall_mem_cons.mpr ⟨(List.Mem.tail _ (List.Mem.tail _ (List.Mem.tail _ (List.Mem.head _)))), (List.forall_mem_cons.mpr ⟨(List.Mem.tail _ (List.Mem.tail _ (List.Mem.tail _ (List.Mem.tail _ (List.Mem.head _))))), (List.forall_mem_cons.mpr ⟨(List.Mem.tail _ (List.Mem.tail _ (List.Mem.tail _ (List.Mem.tail _ (List.Mem.tail _ (List.Mem.head _)))))), (List.forall_mem_cons.mpr ⟨(List.Mem.tail _ (List.Mem.tail _ (List.Mem.tail _ (List.Mem.tail _ (List.Mem.tail _ (List.Mem.tail _ (List.Mem.head _))))))), (List.forall_mem_cons.mpr ⟨(List.Mem.tail _ (List.Mem.tail _ (List.Mem.tail _ (List.Mem.tail _ (List.Mem.tail _ (List.Mem.tail _ (List.Mem.tail _ (List.Mem.head _)))))))), (List.forall_mem_cons.mpr ⟨(List.Mem.tail _ (List.Mem.tail _ (List.Mem.tail _ (List.Mem.tail _ (List.Mem.tail _ (List.Mem.tail _ (List.Mem.tail _ (List.Mem.tail _ (List.Mem.head _))))))))), (List.forall_mem_cons.mpr ⟨(List.Mem.tail _ (List.Mem.tail _ (List.Mem.tail _ (List.Mem.tail _ (List.Mem.tail _ (List.Mem.tail _ (List.Mem.tail _ (List.Mem.tail _ (List.Mem.tail _ (List.Mem.head _)))))))))), (List.forall_mem_cons.mpr ⟨(List.Mem.tail _ (List.Mem.tail _ (List.Mem.tail _ (List.Mem.tail _ (List.Mem.tail _ (List.Mem.tail _ (List.Mem.tail _ (List.Mem.tail _ (List.Mem.tail _ (List.Mem.tail _ (List.Mem.head _))))))))))), (List.forall_mem_cons.mpr ⟨(List.Mem.head _), (fun q h => absurd h List.not_mem_nil)⟩)⟩)⟩)⟩)⟩)⟩)⟩)⟩)⟩)⟩) ?_
                        exact ih _ xv qq wa tu be (p + 1) I F jjEX ⟨hq.1, hq.2.1, nxq_k hq.2.2 (by omega) (by omega) (by omega)⟩ (by first | exact ⟨And.intro (hi.1.1) (And.intro (hi.1.2.1) (hi.1.2.2)), And.intro (hi.2.1.1) (hi.2.1.2), And.intro (hi.2.2.1.1) (hi.2.2.1.2), And.intro (hi.2.2.2.1.1) (hi.2.2.2.1.2), And.intro (hi.2.2.2.2.1.1) (And.intro (hi.2.2.2.2.1.2.1) (oq_d130ae0d hi.2.2.2.2.1.2.2)), oq_54f49eb5 hi.2.2.2.2.2.1, oq_8a89b3ae g2003 hi.1.1, b2002.1, b2002.2⟩ | omega) (by first | exact qk_me hm (by decide) (oq_67fee7f6 g2003 hi.1.1 hi.1.2.2) | omega) kx
                      ·
                        refine z_load X (x := p) (show cdA 275 217 = some (.iload 9, 2, 0, 0, 0) from rfl) (List.Mem.tail _ (List.Mem.tail _ (List.Mem.tail _ (List.Mem.tail _ (List.Mem.tail _ (List.Mem.tail _ (List.Mem.tail _ (List.Mem.tail _ (List.Mem.tail _ (List.Mem.tail _ (List.Mem.head _))))))))))) ?_
                        refine z_store X (lv' := [(8, .int (Int32.ofInt p)), (10, .int (Int32.ofInt 1)), (0, .ref (A 179)), (2, .ref q1), (3, .ref q2), (4, .ref q3), (1, .int (Int32.ofInt xv)), (5, .int (Int32.ofInt qq)), (6, .int (Int32.ofInt wa)), (7, .int (Int32.ofInt tu)), (9, .int (Int32.ofInt p))]) (show cdA 275 219 = some (.istore 8, 2, 0, 0, 0) from rfl) (by decide) (fun _ h => h) ?_
                        refine z_inc X (x := p) (lv' := [(9, .int (Int32.ofInt (p + 1))), (8, .int (Int32.ofInt p)), (10, .int (Int32.ofInt 1)), (0, .ref (A 179)), (2, .ref q1), (3, .ref q2), (4, .ref q3), (1, .int (Int32.ofInt xv)), (5, .int (Int32.ofInt qq)), (6, .int (Int32.ofInt wa)), (7, .int (Int32.ofInt tu))]) (show cdA 275 221 = some (.iinc 9 1, 3, 0, 0, 0) from rfl) (by decide) (List.Mem.tail _ (List.Mem.tail _ (List.Mem.tail _ (List.Mem.tail _ (List.Mem.tail _ (List.Mem.tail _ (List.Mem.tail _ (List.Mem.tail _ (List.Mem.tail _ (List.Mem.tail _ (List.Mem.head _))))))))))) (fun _ h => h) ?_
                        refine z_goto X (t := 100) (show cdA 275 224 = some (.goto (-124), 3, 0, 0, 0) from rfl) (by decide) ?_
                        refine WS_lv (lv := [(0, .ref (A 179)), (2, .ref q1), (3, .ref q2), (4, .ref q3), (1, .int (Int32.ofInt xv)), (5, .int (Int32.ofInt qq)), (6, .int (Int32.ofInt wa)), (7, .int (Int32.ofInt tu)), (8, .int (Int32.ofInt p)), (9, .int (Int32.ofInt (p + 1)))]) (List.forall_mem_cons.mpr ⟨(List.Mem.tail _ (List.Mem.tail _ (List.Mem.tail _ (List.Mem.head _)))), (List.forall_mem_cons.mpr ⟨(List.Mem.tail _ (List.Mem.tail _ (List.Mem.tail _ (List.Mem.tail _ (List.Mem.head _))))), (List.forall_mem_cons.mpr ⟨(List.Mem.tail _ (List.Mem.tail _ (List.Mem.tail _ (List.Mem.tail _ (List.Mem.tail _ (List.Mem.head _)))))), (List.forall_mem_cons.mpr ⟨(List.Mem.tail _ (List.Mem.tail _ (List.Mem.tail _ (List.Mem.tail _ (List.Mem.tail _ (List.Mem.tail _ (List.Mem.head _))))))), (List.forall_mem_cons.mpr ⟨(List.Mem.tail _ (List.Mem.tail _ (List.Mem.tail _ (List.Mem.tail _ (List.Mem.tail _ (List.Mem.tail _ (List.Mem.tail _ (List.Mem.head _)))))))), (List.forall_mem_cons.mpr ⟨(List.Mem.tail _ (List.Mem.tail _ (List.Mem.tail _ (List.Mem.tail _ (List.Mem.tail _ (List.Mem.tail _ (List.Mem.tail _ (List.Mem.tail _ (List.Mem.head _))))))))), (List.forall_mem_cons.mpr ⟨(List.Mem.tail _ (List.Mem.tail _ (List.Mem.tail _ (List.Mem.tail _ (List.Mem.tail _ (List.Mem.tail _ (List.Mem.tail _ (List.Mem.tail _ (List.Mem.tail _ (List.Mem.head _)))))))))), (List.forall_mem_cons.mpr ⟨(List.Mem.tail _ (List.Mem.tail _ (List.Mem.tail _ (List.Mem.tail _ (List.Mem.tail _ (List.Mem.tail _ (List.Mem.tail _ (List.Mem.tail _ (List.Mem.tail _ (List.Mem.tail _ (List.Mem.head _))))))))))), (List.forall_mem_cons.mpr ⟨(List.Mem.tail _ (List.Mem.head _)), (List.forall_mem_cons.mpr ⟨(List.Mem.head _), (fun q h => absurd h List.not_mem_nil)⟩)⟩)⟩)⟩)⟩)⟩)⟩)⟩)⟩)⟩) ?_
                        exact ih _ xv qq wa tu p (p + 1) I F jjEX ⟨hq.1, hq.2.1, nxq_y hq.2.2 (by omega) ⟨hsel.mpr ⟨by omega, by omega, by omega, by omega⟩, hnB⟩ (Or.inr (by omega))⟩ (by first | exact ⟨And.intro (hi.1.1) (And.intro (hi.1.2.1) (hi.1.2.2)), And.intro (hi.2.1.1) (hi.2.1.2), And.intro (hi.2.2.1.1) (hi.2.2.1.2), And.intro (hi.2.2.2.1.1) (hi.2.2.2.1.2), And.intro (oq_ca54ea22 hi.2.2.2.2.2.1) (And.intro (oq_e08dc8a6 g2003 hi.1.1 hi.1.2.2) (by decide)), oq_54f49eb5 hi.2.2.2.2.2.1, oq_8a89b3ae g2003 hi.1.1, b2002.1, b2002.2⟩ | omega) (by first | exact qk_me hm (by decide) (oq_67fee7f6 g2003 hi.1.1 hi.1.2.2) | omega) kx
          ·
            refine z_goto X (t := 221) (show cdA 275 134 = some (.goto 87, 3, 0, 0, 0) from rfl) (by decide) ?_
            refine z_inc X (x := p) (lv' := [(9, .int (Int32.ofInt (p + 1))), (0, .ref (A 179)), (2, .ref q1), (3, .ref q2), (4, .ref q3), (1, .int (Int32.ofInt xv)), (5, .int (Int32.ofInt qq)), (6, .int (Int32.ofInt wa)), (7, .int (Int32.ofInt tu)), (8, .int (Int32.ofInt be))]) (show cdA 275 221 = some (.iinc 9 1, 3, 0, 0, 0) from rfl) (by decide) (List.Mem.tail _ (List.Mem.tail _ (List.Mem.tail _ (List.Mem.tail _ (List.Mem.tail _ (List.Mem.tail _ (List.Mem.tail _ (List.Mem.tail _ (List.Mem.tail _ (List.Mem.head _)))))))))) (fun _ h => h) ?_
            refine z_goto X (t := 100) (show cdA 275 224 = some (.goto (-124), 3, 0, 0, 0) from rfl) (by decide) ?_
            refine WS_lv (lv := [(0, .ref (A 179)), (2, .ref q1), (3, .ref q2), (4, .ref q3), (1, .int (Int32.ofInt xv)), (5, .int (Int32.ofInt qq)), (6, .int (Int32.ofInt wa)), (7, .int (Int32.ofInt tu)), (8, .int (Int32.ofInt be)), (9, .int (Int32.ofInt (p + 1)))]) (List.forall_mem_cons.mpr ⟨(List.Mem.tail _ (List.Mem.head _)), (List.forall_mem_cons.mpr ⟨(List.Mem.tail _ (List.Mem.tail _ (List.Mem.head _))), (List.forall_mem_cons.mpr ⟨(List.Mem.tail _ (List.Mem.tail _ (List.Mem.tail _ (List.Mem.head _)))), (List.forall_mem_cons.mpr ⟨(List.Mem.tail _ (List.Mem.tail _ (List.Mem.tail _ (List.Mem.tail _ (List.Mem.head _))))), (List.forall_mem_cons.mpr ⟨(List.Mem.tail _ (List.Mem.tail _ (List.Mem.tail _ (List.Mem.tail _ (List.Mem.tail _ (List.Mem.head _)))))), (List.forall_mem_cons.mpr ⟨(List.Mem.tail _ (List.Mem.tail _ (List.Mem.tail _ (List.Mem.tail _ (List.Mem.tail _ (List.Mem.tail _ (List.Mem.head _))))))), (List.forall_mem_cons.mpr ⟨(List.Mem.tail _ (List.Mem.tail _ (List.Mem.tail _ (List.Mem.tail _ (List.Mem.tail _ (List.Mem.tail _ (List.Mem.tail _ (List.Mem.head _)))))))), (List.forall_mem_cons.mpr ⟨(List.Mem.tail _ (List.Mem.tail _ (List.Mem.tail _ (List.Mem.tail _ (List.Mem.tail _ (List.Mem.tail _ (List.Mem.tail _ (List.Mem.tail _ (List.Mem.head _))))))))), (List.forall_mem_cons.mpr ⟨(List.Mem.tail _ (List.Mem.tail _ (List.Mem.tail _ (List.Mem.tail _ (List.Mem.tail _ (List.Mem.tail _ (List.Mem.tail _ (List.Mem.tail _ (List.Mem.tail _ (List.Mem.head _)))))))))), (List.forall_mem_cons.mpr ⟨(List.Mem.head _), (fun q h => absurd h List.not_mem_nil)⟩)⟩)⟩)⟩)⟩)⟩)⟩)⟩)⟩)⟩) ?_
            exact ih _ xv qq wa tu be (p + 1) I F jjEX ⟨hq.1, hq.2.1, nxq_n hq.2.2 (by omega) (fun a => by have z := sel_il a.1; omega)⟩ (by first | exact ⟨And.intro (hi.1.1) (And.intro (hi.1.2.1) (hi.1.2.2)), And.intro (hi.2.1.1) (hi.2.1.2), And.intro (hi.2.2.1.1) (hi.2.2.1.2), And.intro (hi.2.2.2.1.1) (hi.2.2.2.1.2), And.intro (hi.2.2.2.2.1.1) (And.intro (hi.2.2.2.2.1.2.1) (oq_d130ae0d hi.2.2.2.2.1.2.2)), oq_54f49eb5 hi.2.2.2.2.2.1, oq_8a89b3ae g2003 hi.1.1, b2002.1, b2002.2⟩ | omega) (by first | exact qk_me hm (by decide) (oq_67fee7f6 g2003 hi.1.1 hi.1.2.2) | omega) kx
  have L83 : ∀ (n : Nat) (t : PS) (xv qq wa tu be : Int), Bd t → FmX [104] [397] s t → EXl (pX s) (dT 0) [(q1, 8), (q2, 8), (q3, 8)] t → (MRN (RDM s x) (pX s).length (qq : Int).toNat t ∧ PS5 (RDM s x) (qq : Int).toNat tu wa (iC t 397 (qq : Int).toNat) ∧ NOC (RDM s x) (qq : Int).toNat tu be (iC t 397 (qq : Int).toNat)) → ((xv = x ∧ 1 ≤ x ∧ x ≤ 8) ∧ (0 ≤ qq ∧ qq ≤ 23) ∧ (0 ≤ wa ∧ wa ≤ 8) ∧ (0 ≤ tu ∧ tu ≤ 1) ∧ (-1 ≤ be ∧ be ≤ 7)) → (100 * wa + be + 1 : Int).toNat < n → (∀ (t' : PS) (wa' be' : Int), Bd t' → FmX [104] [397] s t' → EXl (pX s) (dT 0) [(q1, 8), (q2, 8), (q3, 8)] t' → (MRN (RDM s x) (pX s).length (qq : Int).toNat t' ∧ PS5 (RDM s x) (qq : Int).toNat tu wa' (iC t' 397 (qq : Int).toNat) ∧ NOC (RDM s x) (qq : Int).toNat tu be' (iC t' 397 (qq : Int).toNat)) → ((xv = x ∧ 1 ≤ x ∧ x ≤ 8) ∧ (0 ≤ qq ∧ qq ≤ 23) ∧ (0 ≤ wa' ∧ wa' ≤ 8) ∧ (0 ≤ tu ∧ tu ≤ 1) ∧ (wa' ≤ 0 ∨ be' = -1)) → WS k 256 [(0, .ref (A 179)), (2, .ref q1), (3, .ref q2), (4, .ref q3), (1, .int (Int32.ofInt xv)), (5, .int (Int32.ofInt qq)), (6, .int (Int32.ofInt wa')), (7, .int (Int32.ofInt tu)), (8, .int (Int32.ofInt be'))] [] (Wd A dT t') 3 24) → WS k 83 [(0, .ref (A 179)), (2, .ref q1), (3, .ref q2), (4, .ref q3), (1, .int (Int32.ofInt xv)), (5, .int (Int32.ofInt qq)), (6, .int (Int32.ofInt wa)), (7, .int (Int32.ofInt tu)), (8, .int (Int32.ofInt be))] [] (Wd A dT t) 3 24 := by
    intro n
    induction n with
    | zero =>
      intro t xv qq wa tu be I F jjEX hq hi hm kx
      exact absurd hm (Nat.not_lt_zero _)
    | succ n ih =>
      intro t xv qq wa tu be I F jjEX hq hi hm kx
      have b3001 : ((-2147483648) : Int) ≤ iI t 104 ∧ iI t 104 ≤ 2147483647 := I.1 104
      have b3002 : (1 : Int) ≤ iI t 103 ∧ iI t 103 ≤ 8 := I.1 103
      refine z_load X (x := wa) (show cdA 275 83 = some (.iload 6, 2, 0, 0, 0) from rfl) (List.Mem.tail _ (List.Mem.tail _ (List.Mem.tail _ (List.Mem.tail _ (List.Mem.tail _ (List.Mem.tail _ (List.Mem.head _))))))) ?_
      refine z_if_le X (t := 256) (show cdA 275 85 = some (.ifCond .le 171, 3, 5, 0, 0) from rfl) (by decide) ⟨by first | exact oq_fa4e5087 hi.2.2.1.1 | omega, by first | exact oq_d3f5d874 hi.2.2.1.2 | omega⟩ (fun g3003 => ?_) (fun g3003 => ?_)
      ·
        refine WS_lv (lv := [(0, .ref (A 179)), (2, .ref q1), (3, .ref q2), (4, .ref q3), (1, .int (Int32.ofInt xv)), (5, .int (Int32.ofInt qq)), (6, .int (Int32.ofInt wa)), (7, .int (Int32.ofInt tu)), (8, .int (Int32.ofInt be))]) (List.forall_mem_cons.mpr ⟨(List.Mem.head _), (List.forall_mem_cons.mpr ⟨(List.Mem.tail _ (List.Mem.head _)), (List.forall_mem_cons.mpr ⟨(List.Mem.tail _ (List.Mem.tail _ (List.Mem.head _))), (List.forall_mem_cons.mpr ⟨(List.Mem.tail _ (List.Mem.tail _ (List.Mem.tail _ (List.Mem.head _)))), (List.forall_mem_cons.mpr ⟨(List.Mem.tail _ (List.Mem.tail _ (List.Mem.tail _ (List.Mem.tail _ (List.Mem.head _))))), (List.forall_mem_cons.mpr ⟨(List.Mem.tail _ (List.Mem.tail _ (List.Mem.tail _ (List.Mem.tail _ (List.Mem.tail _ (List.Mem.head _)))))), (List.forall_mem_cons.mpr ⟨(List.Mem.tail _ (List.Mem.tail _ (List.Mem.tail _ (List.Mem.tail _ (List.Mem.tail _ (List.Mem.tail _ (List.Mem.head _))))))), (List.forall_mem_cons.mpr ⟨(List.Mem.tail _ (List.Mem.tail _ (List.Mem.tail _ (List.Mem.tail _ (List.Mem.tail _ (List.Mem.tail _ (List.Mem.tail _ (List.Mem.head _)))))))), (List.forall_mem_cons.mpr ⟨(List.Mem.tail _ (List.Mem.tail _ (List.Mem.tail _ (List.Mem.tail _ (List.Mem.tail _ (List.Mem.tail _ (List.Mem.tail _ (List.Mem.tail _ (List.Mem.head _))))))))), (fun q h => absurd h List.not_mem_nil)⟩)⟩)⟩)⟩)⟩)⟩)⟩)⟩)⟩) ?_
        exact kx _ wa be I F jjEX hq (by first | exact ⟨And.intro (hi.1.1) (And.intro (hi.1.2.1) (hi.1.2.2)), And.intro (hi.2.1.1) (hi.2.1.2), And.intro (hi.2.2.1.1) (hi.2.2.1.2), And.intro (hi.2.2.2.1.1) (hi.2.2.2.1.2), Or.inl (g3003)⟩ | omega)
      ·
        refine z_load X (x := be) (show cdA 275 88 = some (.iload 8, 2, 0, 0, 0) from rfl) (List.Mem.tail _ (List.Mem.tail _ (List.Mem.tail _ (List.Mem.tail _ (List.Mem.tail _ (List.Mem.tail _ (List.Mem.tail _ (List.Mem.tail _ (List.Mem.head _))))))))) ?_
        refine z_const X (show cdA 275 90 = some (.iconst (-1), 1, 0, 0, 0) from rfl) ?_
        refine z_icmp_eq X (t := 256) (show cdA 275 91 = some (.if_icmp .eq 165, 3, 0, 0, 0) from rfl) (by decide) ⟨by first | exact oq_97ee2c2a hi.2.2.2.2.1 | omega, by first | exact oq_0e78ca7d hi.2.2.2.2.2 | omega⟩ (by decide) (fun g3004 => ?_) (fun g3004 => ?_)
        ·
          refine WS_lv (lv := [(0, .ref (A 179)), (2, .ref q1), (3, .ref q2), (4, .ref q3), (1, .int (Int32.ofInt xv)), (5, .int (Int32.ofInt qq)), (6, .int (Int32.ofInt wa)), (7, .int (Int32.ofInt tu)), (8, .int (Int32.ofInt be))]) (List.forall_mem_cons.mpr ⟨(List.Mem.head _), (List.forall_mem_cons.mpr ⟨(List.Mem.tail _ (List.Mem.head _)), (List.forall_mem_cons.mpr ⟨(List.Mem.tail _ (List.Mem.tail _ (List.Mem.head _))), (List.forall_mem_cons.mpr ⟨(List.Mem.tail _ (List.Mem.tail _ (List.Mem.tail _ (List.Mem.head _)))), (List.forall_mem_cons.mpr ⟨(List.Mem.tail _ (List.Mem.tail _ (List.Mem.tail _ (List.Mem.tail _ (List.Mem.head _))))), (List.forall_mem_cons.mpr ⟨(List.Mem.tail _ (List.Mem.tail _ (List.Mem.tail _ (List.Mem.tail _ (List.Mem.tail _ (List.Mem.head _)))))), (List.forall_mem_cons.mpr ⟨(List.Mem.tail _ (List.Mem.tail _ (List.Mem.tail _ (List.Mem.tail _ (List.Mem.tail _ (List.Mem.tail _ (List.Mem.head _))))))), (List.forall_mem_cons.mpr ⟨(List.Mem.tail _ (List.Mem.tail _ (List.Mem.tail _ (List.Mem.tail _ (List.Mem.tail _ (List.Mem.tail _ (List.Mem.tail _ (List.Mem.head _)))))))), (List.forall_mem_cons.mpr ⟨(List.Mem.tail _ (List.Mem.tail _ (List.Mem.tail _ (List.Mem.tail _ (List.Mem.tail _ (List.Mem.tail _ (List.Mem.tail _ (List.Mem.tail _ (List.Mem.head _))))))))), (fun q h => absurd h List.not_mem_nil)⟩)⟩)⟩)⟩)⟩)⟩)⟩)⟩)⟩) ?_
          exact kx _ wa be I F jjEX hq (by first | exact ⟨And.intro (hi.1.1) (And.intro (hi.1.2.1) (hi.1.2.2)), And.intro (hi.2.1.1) (hi.2.1.2), And.intro (hi.2.2.1.1) (hi.2.2.1.2), And.intro (hi.2.2.2.1.1) (hi.2.2.2.1.2), Or.inr (g3004)⟩ | omega)
        ·
          refine z_const X (show cdA 275 94 = some (.iconst (-1), 1, 0, 0, 0) from rfl) ?_
          refine z_store X (lv' := [(8, .int (Int32.ofInt (-1))), (0, .ref (A 179)), (2, .ref q1), (3, .ref q2), (4, .ref q3), (1, .int (Int32.ofInt xv)), (5, .int (Int32.ofInt qq)), (6, .int (Int32.ofInt wa)), (7, .int (Int32.ofInt tu))]) (show cdA 275 95 = some (.istore 8, 2, 0, 0, 0) from rfl) (by decide) (fun _ h => h) ?_
          refine z_const X (show cdA 275 97 = some (.iconst 0, 1, 0, 0, 0) from rfl) ?_
          refine z_store X (lv' := [(9, .int (Int32.ofInt 0)), (8, .int (Int32.ofInt (-1))), (0, .ref (A 179)), (2, .ref q1), (3, .ref q2), (4, .ref q3), (1, .int (Int32.ofInt xv)), (5, .int (Int32.ofInt qq)), (6, .int (Int32.ofInt wa)), (7, .int (Int32.ofInt tu))]) (show cdA 275 98 = some (.istore 9, 2, 0, 0, 0) from rfl) (by decide) (fun _ h => h) ?_
          refine WS_lv (lv := [(0, .ref (A 179)), (2, .ref q1), (3, .ref q2), (4, .ref q3), (1, .int (Int32.ofInt xv)), (5, .int (Int32.ofInt qq)), (6, .int (Int32.ofInt wa)), (7, .int (Int32.ofInt tu)), (8, .int (Int32.ofInt (-1))), (9, .int (Int32.ofInt 0))]) (List.forall_mem_cons.mpr ⟨(List.Mem.tail _ (List.Mem.tail _ (List.Mem.head _))), (List.forall_mem_cons.mpr ⟨(List.Mem.tail _ (List.Mem.tail _ (List.Mem.tail _ (List.Mem.head _)))), (List.forall_mem_cons.mpr ⟨(List.Mem.tail _ (List.Mem.tail _ (List.Mem.tail _ (List.Mem.tail _ (List.Mem.head _))))), (List.forall_mem_cons.mpr ⟨(List.Mem.tail _ (List.Mem.tail _ (List.Mem.tail _ (List.Mem.tail _ (List.Mem.tail _ (List.Mem.head _)))))), (List.forall_mem_cons.mpr ⟨(List.Mem.tail _ (List.Mem.tail _ (List.Mem.tail _ (List.Mem.tail _ (List.Mem.tail _ (List.Mem.tail _ (List.Mem.head _))))))), (List.forall_mem_cons.mpr ⟨(List.Mem.tail _ (List.Mem.tail _ (List.Mem.tail _ (List.Mem.tail _ (List.Mem.tail _ (List.Mem.tail _ (List.Mem.tail _ (List.Mem.head _)))))))), (List.forall_mem_cons.mpr ⟨(List.Mem.tail _ (List.Mem.tail _ (List.Mem.tail _ (List.Mem.tail _ (List.Mem.tail _ (List.Mem.tail _ (List.Mem.tail _ (List.Mem.tail _ (List.Mem.head _))))))))), (List.forall_mem_cons.mpr ⟨(List.Mem.tail _ (List.Mem.tail _ (List.Mem.tail _ (List.Mem.tail _ (List.Mem.tail _ (List.Mem.tail _ (List.Mem.tail _ (List.Mem.tail _ (List.Mem.tail _ (List.Mem.head _)))))))))), (List.forall_mem_cons.mpr ⟨(List.Mem.tail _ (List.Mem.head _)), (List.forall_mem_cons.mpr ⟨(List.Mem.head _), (fun q h => absurd h List.not_mem_nil)⟩)⟩)⟩)⟩)⟩)⟩)⟩)⟩)⟩)⟩) ?_
          refine L100 ((8 - 0 : Int).toNat + 1) t xv qq wa tu (-1) 0 I F jjEX ⟨hq.1, hq.2.1, nxq_0⟩ (by first | exact ⟨And.intro (hi.1.1) (And.intro (hi.1.2.1) (hi.1.2.2)), And.intro (hi.2.1.1) (hi.2.1.2), And.intro (hi.2.2.1.1) (hi.2.2.1.2), And.intro (hi.2.2.2.1.1) (hi.2.2.2.1.2), And.intro (by decide) (And.intro (by decide) (by decide)), by decide, oq_2a6e3b50 hi.1.2.1, b3002.1, b3002.2⟩ | omega) (Nat.lt_succ_self _) ?_
          intro s3005 x3006 x3007 Is3005 Fs3005 JEX_s3005 Qs3005 hs3005
          have b3008 : ((-2147483648) : Int) ≤ iI s3005 104 ∧ iI s3005 104 ≤ 2147483647 := Is3005.1 104
          have b3009 : (1 : Int) ≤ iI s3005 103 ∧ iI s3005 103 ≤ 8 := Is3005.1 103
          refine z_load X (x := x3006) (show cdA 275 227 = some (.iload 8, 2, 0, 0, 0) from rfl) (List.Mem.tail _ (List.Mem.tail _ (List.Mem.tail _ (List.Mem.tail _ (List.Mem.tail _ (List.Mem.tail _ (List.Mem.tail _ (List.Mem.tail _ (List.Mem.head _))))))))) ?_
          refine z_const X (show cdA 275 229 = some (.iconst (-1), 1, 0, 0, 0) from rfl) ?_
          refine z_icmp_ne X (t := 236) (show cdA 275 230 = some (.if_icmp .ne 6, 3, 1, 0, 0) from rfl) (by decide) ⟨by first | exact oq_97ee2c2a hs3005.2.2.2.2.1.1 | omega, by first | exact oq_0e78ca7d hs3005.2.2.2.2.1.2 | omega⟩ (by decide) (fun g3010 => ?_) (fun g3010 => ?_)
          ·
            refine z_aload_n X (x := A 179) (show cdA 275 236 = some (.aload_n 0, 1, 0, 0, 0) from rfl) (List.Mem.head _) ?_
            refine s_getR X 179 (show cdA 275 237 = some (.getfield 127, 3, 12, 62, 0) from rfl) (by decide) rfl rfl ?_
            refine z_load X (x := qq) (show cdA 275 240 = some (.iload 5, 2, 0, 0, 0) from rfl) (List.Mem.tail _ (List.Mem.tail _ (List.Mem.tail _ (List.Mem.tail _ (List.Mem.tail _ (List.Mem.head _)))))) ?_
            refine w_dup2_11 X.1 (ax_d X (show cdA 275 242 = some (.dup2, 1, 0, 0, 0) from rfl)) rfl rfl ?_
            refine z_ald X 452 (show cdA 275 243 = some (.iaload, 1, 0, 0, 0) from rfl) (by decide) rfl (by first | exact hs3005.2.1.1 | omega) (show qq < 24 by first | exact oq_7fdb8aa6 hs3005.2.1.2 | omega) (by decide) ?_
            have b3011 : (0 : Int) ≤ iC s3005 397 (qq).toNat ∧ iC s3005 397 (qq).toNat ≤ 255 := Is3005.2 397 _ (show (qq).toNat < 24 by first | exact oq_138251d6 hs3005.2.1.2 | omega)
            have ar3012 : iC s3005 397 (qq).toNat = iC s3005 397 (qq).toNat := (sam_rf (a := 397) (s := s3005)) _
            have hm5 := Qs3005.2.1.1
            refine z_const X (show cdA 275 244 = some (.iconst 1, 1, 0, 0, 0) from rfl) ?_
            refine z_load X (x := x3006) (show cdA 275 245 = some (.iload 8, 2, 0, 0, 0) from rfl) (List.Mem.tail _ (List.Mem.tail _ (List.Mem.tail _ (List.Mem.tail _ (List.Mem.tail _ (List.Mem.tail _ (List.Mem.tail _ (List.Mem.tail _ (List.Mem.head _))))))))) ?_
            refine z_bshl X (show cdA 275 247 = some (.ishl, 1, 0, 0, 0) from rfl) ?_
            refine z_anyV (fun y3013 hy3013 ey3013 => ?_)
            refine w_ior X.1 (ax_d X (show cdA 275 248 = some (.ior, 1, 0, 0, 0) from rfl)) ?_
            refine z_anyV (fun y3014 hy3014 ey3014 => ?_)
            have hmo := ms_or (e := (iC s3005 397 (qq).toNat)) (p := x3006) Qs3005.2.1.1 (by omega) ey3013 hy3013 ey3014 hy3014
            have hmo1 := hmo.1
            refine z_ast X 452 (show cdA 275 249 = some (.iastore, 1, 0, 0, 0) from rfl) (by decide) rfl (by first | exact hs3005.2.1.1 | omega) (show qq < 24 by first | exact oq_7fdb8aa6 hs3005.2.1.2 | omega) (by decide) ?_
            obtain ⟨s3015, hs3015⟩ : ∃ x0, x0 = uC s3005 397 (qq).toNat (Int32.ofInt y3014) := ⟨_, rfl⟩
            rw [← hs3015]
            have Is3015 : Bd s3015 := by rw [hs3015]; exact bd_C Is3005 (show (0 : Int) ≤ y3014 ∧ y3014 ≤ 255 by omega) hy3014
            have Fs3015 := fx_C (i := (qq).toNat) (x := Int32.ofInt y3014) Fs3005 (show 397 ∈ _ by decide)
            rw [← hs3015] at Fs3015
            have ws3015_104 : iI s3015 104 = iI s3005 104 := by rw [hs3015]; rfl
            have ws3015_103 : iI s3015 103 = iI s3005 103 := by rw [hs3015]; rfl
            have aws3015_397 : UPD 397 (qq) y3014 s3005 s3015 := by rw [hs3015]; exact upd_put (sam_rf (a := 397) (s := s3005)) hy3014
            have JEX_s3015 : EXl (pX s) (dT 0) [(q1, 8), (q2, 8), (q3, 8)] s3015 := by rw [hs3015]; exact JEX_s3005
            refine z_inc X (x := wa) (lv' := [(6, .int (Int32.ofInt (wa + (-1)))), (0, .ref (A 179)), (2, .ref q1), (3, .ref q2), (4, .ref q3), (1, .int (Int32.ofInt xv)), (5, .int (Int32.ofInt qq)), (7, .int (Int32.ofInt tu)), (8, .int (Int32.ofInt x3006)), (9, .int (Int32.ofInt x3007))]) (show cdA 275 250 = some (.iinc 6 (-1), 3, 0, 0, 0) from rfl) (by decide) (List.Mem.tail _ (List.Mem.tail _ (List.Mem.tail _ (List.Mem.tail _ (List.Mem.tail _ (List.Mem.tail _ (List.Mem.head _))))))) (fun _ h => h) ?_
            refine z_goto X (t := 83) (show cdA 275 253 = some (.goto (-170), 3, 0, 0, 0) from rfl) (by decide) ?_
            refine WS_lv (lv := [(0, .ref (A 179)), (2, .ref q1), (3, .ref q2), (4, .ref q3), (1, .int (Int32.ofInt xv)), (5, .int (Int32.ofInt qq)), (6, .int (Int32.ofInt (wa + (-1)))), (7, .int (Int32.ofInt tu)), (8, .int (Int32.ofInt x3006))]) (List.forall_mem_cons.mpr ⟨(List.Mem.tail _ (List.Mem.head _)), (List.forall_mem_cons.mpr ⟨(List.Mem.tail _ (List.Mem.tail _ (List.Mem.head _))), (List.forall_mem_cons.mpr ⟨(List.Mem.tail _ (List.Mem.tail _ (List.Mem.tail _ (List.Mem.head _)))), (List.forall_mem_cons.mpr ⟨(List.Mem.tail _ (List.Mem.tail _ (List.Mem.tail _ (List.Mem.tail _ (List.Mem.head _))))), (List.forall_mem_cons.mpr ⟨(List.Mem.tail _ (List.Mem.tail _ (List.Mem.tail _ (List.Mem.tail _ (List.Mem.tail _ (List.Mem.head _)))))), (List.forall_mem_cons.mpr ⟨(List.Mem.tail _ (List.Mem.tail _ (List.Mem.tail _ (List.Mem.tail _ (List.Mem.tail _ (List.Mem.tail _ (List.Mem.head _))))))), (List.forall_mem_cons.mpr ⟨(List.Mem.head _), (List.forall_mem_cons.mpr ⟨(List.Mem.tail _ (List.Mem.tail _ (List.Mem.tail _ (List.Mem.tail _ (List.Mem.tail _ (List.Mem.tail _ (List.Mem.tail _ (List.Mem.head _)))))))), (List.forall_mem_cons.mpr ⟨(List.Mem.tail _ (List.Mem.tail _ (List.Mem.tail _ (List.Mem.tail _ (List.Mem.tail _ (List.Mem.tail _ (List.Mem.tail _ (List.Mem.tail _ (List.Mem.head _))))))))), (fun q h => absurd h List.not_mem_nil)⟩)⟩)⟩)⟩)⟩)⟩)⟩)⟩)⟩) ?_
            exact ih _ xv qq (wa + (-1)) tu x3006 Is3015 Fs3015 JEX_s3015 ⟨mrn_w Qs3005.1 (fun i j => by rw [hs3015]; rfl) (by omega) aws3015_397 (by omega), (by rw [show (iC s3015 397 (qq : Int).toNat) = y3014 from aws3015_397.1]; exact ps_up Qs3005.2.1 (by omega) Qs3005.2.2 (by omega) (by show _ = x; omega) (by omega) hmo), noc_0 (by omega)⟩ (by first | exact ⟨And.intro (hs3005.1.1) (And.intro (hs3005.1.2.1) (hs3005.1.2.2)), And.intro (hs3005.2.1.1) (hs3005.2.1.2), And.intro (oq_8cda77f1 g3003) (oq_4967eec5 hs3005.2.2.1.2), And.intro (hs3005.2.2.2.1.1) (hs3005.2.2.2.1.2), hs3005.2.2.2.2.1.1, hs3005.2.2.2.2.1.2⟩ | omega) (by first | exact qk_me hm (oq_8cccae95 hi.2.2.2.2.1 hs3005.2.2.2.2.1.2) (oq_e2d048ad hi.2.2.2.2.1 g3003) | omega) kx
          ·
            refine z_goto X (t := 83) (show cdA 275 233 = some (.goto (-150), 3, 0, 0, 0) from rfl) (by decide) ?_
            refine WS_lv (lv := [(0, .ref (A 179)), (2, .ref q1), (3, .ref q2), (4, .ref q3), (1, .int (Int32.ofInt xv)), (5, .int (Int32.ofInt qq)), (6, .int (Int32.ofInt wa)), (7, .int (Int32.ofInt tu)), (8, .int (Int32.ofInt x3006))]) (List.forall_mem_cons.mpr ⟨(List.Mem.head _), (List.forall_mem_cons.mpr ⟨(List.Mem.tail _ (List.Mem.head _)), (List.forall_mem_cons.mpr ⟨(List.Mem.tail _ (List.Mem.tail _ (List.Mem.head _))), (List.forall_mem_cons.mpr ⟨(List.Mem.tail _ (List.Mem.tail _ (List.Mem.tail _ (List.Mem.head _)))), (List.forall_mem_cons.mpr ⟨(List.Mem.tail _ (List.Mem.tail _ (List.Mem.tail _ (List.Mem.tail _ (List.Mem.head _))))), (List.forall_mem_cons.mpr ⟨(List.Mem.tail _ (List.Mem.tail _ (List.Mem.tail _ (List.Mem.tail _ (List.Mem.tail _ (List.Mem.head _)))))), (List.forall_mem_cons.mpr ⟨(List.Mem.tail _ (List.Mem.tail _ (List.Mem.tail _ (List.Mem.tail _ (List.Mem.tail _ (List.Mem.tail _ (List.Mem.head _))))))), (List.forall_mem_cons.mpr ⟨(List.Mem.tail _ (List.Mem.tail _ (List.Mem.tail _ (List.Mem.tail _ (List.Mem.tail _ (List.Mem.tail _ (List.Mem.tail _ (List.Mem.head _)))))))), (List.forall_mem_cons.mpr ⟨(List.Mem.tail _ (List.Mem.tail _ (List.Mem.tail _ (List.Mem.tail _ (List.Mem.tail _ (List.Mem.tail _ (List.Mem.tail _ (List.Mem.tail _ (List.Mem.head _))))))))), (fun q h => absurd h List.not_mem_nil)⟩)⟩)⟩)⟩)⟩)⟩)⟩)⟩)⟩) ?_
            exact ih _ xv qq wa tu x3006 Is3005 Fs3005 JEX_s3005 ⟨Qs3005.1, Qs3005.2.1, ps_no Qs3005.2.2 (by show _ = x; omega)⟩ (by first | exact ⟨And.intro (hs3005.1.1) (And.intro (hs3005.1.2.1) (hs3005.1.2.2)), And.intro (hs3005.2.1.1) (hs3005.2.1.2), And.intro (hs3005.2.2.1.1) (hs3005.2.2.1.2), And.intro (hs3005.2.2.2.1.1) (hs3005.2.2.2.1.2), hs3005.2.2.2.2.1.1, hs3005.2.2.2.2.1.2⟩ | omega) (by first | exact qk_me hm (oq_012028ef g3010 g3004 hi.2.2.2.2.1) (oq_e2d048ad hi.2.2.2.2.1 g3003) | omega) kx
  have L74 : ∀ (n : Nat) (t : PS) (xv qq wa tu : Int), Bd t → FmX [104] [397] s t → EXl (pX s) (dT 0) [(q1, 8), (q2, 8), (q3, 8)] t → (MRN (RDM s x) (pX s).length (qq : Int).toNat t ∧ PS3 (RDM s x) (qq : Int).toNat tu wa (iC t 397 (qq : Int).toNat)) → ((xv = x ∧ 1 ≤ x ∧ x ≤ 8) ∧ (0 ≤ qq ∧ qq ≤ 23) ∧ (0 ≤ wa ∧ wa ≤ 8) ∧ (0 ≤ tu ∧ tu ≤ 2)) → (2 - tu : Int).toNat < n → (∀ (t' : PS) (wa' tu' : Int), Bd t' → FmX [104] [397] s t' → EXl (pX s) (dT 0) [(q1, 8), (q2, 8), (q3, 8)] t' → (MRN (RDM s x) (pX s).length (qq : Int).toNat t' ∧ PS3 (RDM s x) (qq : Int).toNat tu' wa' (iC t' 397 (qq : Int).toNat)) → ((xv = x ∧ 1 ≤ x ∧ x ≤ 8) ∧ (0 ≤ qq ∧ qq ≤ 23) ∧ (0 ≤ wa' ∧ wa' ≤ 8) ∧ tu' = 2) → WS k 262 [(0, .ref (A 179)), (2, .ref q1), (3, .ref q2), (4, .ref q3), (1, .int (Int32.ofInt xv)), (5, .int (Int32.ofInt qq)), (6, .int (Int32.ofInt wa')), (7, .int (Int32.ofInt tu'))] [] (Wd A dT t') 3 24) → WS k 74 [(0, .ref (A 179)), (2, .ref q1), (3, .ref q2), (4, .ref q3), (1, .int (Int32.ofInt xv)), (5, .int (Int32.ofInt qq)), (6, .int (Int32.ofInt wa)), (7, .int (Int32.ofInt tu))] [] (Wd A dT t) 3 24 := by
    intro n
    induction n with
    | zero =>
      intro t xv qq wa tu I F jjEX hq hi hm kx
      exact absurd hm (Nat.not_lt_zero _)
    | succ n ih =>
      intro t xv qq wa tu I F jjEX hq hi hm kx
      have b4001 : ((-2147483648) : Int) ≤ iI t 104 ∧ iI t 104 ≤ 2147483647 := I.1 104
      have b4002 : (1 : Int) ≤ iI t 103 ∧ iI t 103 ≤ 8 := I.1 103
      refine z_load X (x := tu) (show cdA 275 74 = some (.iload 7, 2, 0, 0, 0) from rfl) (List.Mem.tail _ (List.Mem.tail _ (List.Mem.tail _ (List.Mem.tail _ (List.Mem.tail _ (List.Mem.tail _ (List.Mem.tail _ (List.Mem.head _)))))))) ?_
      refine z_const X (show cdA 275 76 = some (.iconst 2, 1, 0, 0, 0) from rfl) ?_
      refine z_icmp_ge X (t := 262) (show cdA 275 77 = some (.if_icmp .ge 185, 3, 3, 0, 0) from rfl) (by decide) ⟨by first | exact oq_fa4e5087 hi.2.2.2.1 | omega, by first | exact oq_861e1648 hi.2.2.2.2 | omega⟩ (by decide) (fun g4003 => ?_) (fun g4003 => ?_)
      ·
        refine WS_lv (lv := [(0, .ref (A 179)), (2, .ref q1), (3, .ref q2), (4, .ref q3), (1, .int (Int32.ofInt xv)), (5, .int (Int32.ofInt qq)), (6, .int (Int32.ofInt wa)), (7, .int (Int32.ofInt tu))]) (List.forall_mem_cons.mpr ⟨(List.Mem.head _), (List.forall_mem_cons.mpr ⟨(List.Mem.tail _ (List.Mem.head _)), (List.forall_mem_cons.mpr ⟨(List.Mem.tail _ (List.Mem.tail _ (List.Mem.head _))), (List.forall_mem_cons.mpr ⟨(List.Mem.tail _ (List.Mem.tail _ (List.Mem.tail _ (List.Mem.head _)))), (List.forall_mem_cons.mpr ⟨(List.Mem.tail _ (List.Mem.tail _ (List.Mem.tail _ (List.Mem.tail _ (List.Mem.head _))))), (List.forall_mem_cons.mpr ⟨(List.Mem.tail _ (List.Mem.tail _ (List.Mem.tail _ (List.Mem.tail _ (List.Mem.tail _ (List.Mem.head _)))))), (List.forall_mem_cons.mpr ⟨(List.Mem.tail _ (List.Mem.tail _ (List.Mem.tail _ (List.Mem.tail _ (List.Mem.tail _ (List.Mem.tail _ (List.Mem.head _))))))), (List.forall_mem_cons.mpr ⟨(List.Mem.tail _ (List.Mem.tail _ (List.Mem.tail _ (List.Mem.tail _ (List.Mem.tail _ (List.Mem.tail _ (List.Mem.tail _ (List.Mem.head _)))))))), (fun q h => absurd h List.not_mem_nil)⟩)⟩)⟩)⟩)⟩)⟩)⟩)⟩) ?_
        exact kx _ wa tu I F jjEX hq (by first | exact ⟨And.intro (hi.1.1) (And.intro (hi.1.2.1) (hi.1.2.2)), And.intro (hi.2.1.1) (hi.2.1.2), And.intro (hi.2.2.1.1) (hi.2.2.1.2), oq_1f7d2948 hi.2.2.2.2 g4003⟩ | omega)
      ·
        refine z_const X (show cdA 275 80 = some (.iconst 0, 1, 0, 0, 0) from rfl) ?_
        refine z_store X (lv' := [(8, .int (Int32.ofInt 0)), (0, .ref (A 179)), (2, .ref q1), (3, .ref q2), (4, .ref q3), (1, .int (Int32.ofInt xv)), (5, .int (Int32.ofInt qq)), (6, .int (Int32.ofInt wa)), (7, .int (Int32.ofInt tu))]) (show cdA 275 81 = some (.istore 8, 2, 0, 0, 0) from rfl) (by decide) (fun _ h => h) ?_
        refine WS_lv (lv := [(0, .ref (A 179)), (2, .ref q1), (3, .ref q2), (4, .ref q3), (1, .int (Int32.ofInt xv)), (5, .int (Int32.ofInt qq)), (6, .int (Int32.ofInt wa)), (7, .int (Int32.ofInt tu)), (8, .int (Int32.ofInt 0))]) (List.forall_mem_cons.mpr ⟨(List.Mem.tail _ (List.Mem.head _)), (List.forall_mem_cons.mpr ⟨(List.Mem.tail _ (List.Mem.tail _ (List.Mem.head _))), (List.forall_mem_cons.mpr ⟨(List.Mem.tail _ (List.Mem.tail _ (List.Mem.tail _ (List.Mem.head _)))), (List.forall_mem_cons.mpr ⟨(List.Mem.tail _ (List.Mem.tail _ (List.Mem.tail _ (List.Mem.tail _ (List.Mem.head _))))), (List.forall_mem_cons.mpr ⟨(List.Mem.tail _ (List.Mem.tail _ (List.Mem.tail _ (List.Mem.tail _ (List.Mem.tail _ (List.Mem.head _)))))), (List.forall_mem_cons.mpr ⟨(List.Mem.tail _ (List.Mem.tail _ (List.Mem.tail _ (List.Mem.tail _ (List.Mem.tail _ (List.Mem.tail _ (List.Mem.head _))))))), (List.forall_mem_cons.mpr ⟨(List.Mem.tail _ (List.Mem.tail _ (List.Mem.tail _ (List.Mem.tail _ (List.Mem.tail _ (List.Mem.tail _ (List.Mem.tail _ (List.Mem.head _)))))))), (List.forall_mem_cons.mpr ⟨(List.Mem.tail _ (List.Mem.tail _ (List.Mem.tail _ (List.Mem.tail _ (List.Mem.tail _ (List.Mem.tail _ (List.Mem.tail _ (List.Mem.tail _ (List.Mem.head _))))))))), (List.forall_mem_cons.mpr ⟨(List.Mem.head _), (fun q h => absurd h List.not_mem_nil)⟩)⟩)⟩)⟩)⟩)⟩)⟩)⟩)⟩) ?_
        refine L83 ((100 * wa + 0 + 1 : Int).toNat + 1) t xv qq wa tu 0 I F jjEX ⟨hq.1, ps_in hq.2 (by omega) (p1 _ (by omega)).1, noc_0 (by decide)⟩ (by first | exact ⟨And.intro (hi.1.1) (And.intro (hi.1.2.1) (hi.1.2.2)), And.intro (hi.2.1.1) (hi.2.1.2), And.intro (hi.2.2.1.1) (hi.2.2.1.2), And.intro (hi.2.2.2.1) (oq_b11e0c68 g4003), by decide, by decide⟩ | omega) (Nat.lt_succ_self _) ?_
        intro s4004 x4005 x4006 Is4004 Fs4004 JEX_s4004 Qs4004 hs4004
        have b4007 : ((-2147483648) : Int) ≤ iI s4004 104 ∧ iI s4004 104 ≤ 2147483647 := Is4004.1 104
        have b4008 : (1 : Int) ≤ iI s4004 103 ∧ iI s4004 103 ≤ 8 := Is4004.1 103
        refine z_inc X (x := tu) (lv' := [(7, .int (Int32.ofInt (tu + 1))), (0, .ref (A 179)), (2, .ref q1), (3, .ref q2), (4, .ref q3), (1, .int (Int32.ofInt xv)), (5, .int (Int32.ofInt qq)), (6, .int (Int32.ofInt x4005)), (8, .int (Int32.ofInt x4006))]) (show cdA 275 256 = some (.iinc 7 1, 3, 0, 0, 0) from rfl) (by decide) (List.Mem.tail _ (List.Mem.tail _ (List.Mem.tail _ (List.Mem.tail _ (List.Mem.tail _ (List.Mem.tail _ (List.Mem.tail _ (List.Mem.head _)))))))) (fun _ h => h) ?_
        refine z_goto X (t := 74) (show cdA 275 259 = some (.goto (-185), 3, 0, 0, 0) from rfl) (by decide) ?_
        refine WS_lv (lv := [(0, .ref (A 179)), (2, .ref q1), (3, .ref q2), (4, .ref q3), (1, .int (Int32.ofInt xv)), (5, .int (Int32.ofInt qq)), (6, .int (Int32.ofInt x4005)), (7, .int (Int32.ofInt (tu + 1)))]) (List.forall_mem_cons.mpr ⟨(List.Mem.tail _ (List.Mem.head _)), (List.forall_mem_cons.mpr ⟨(List.Mem.tail _ (List.Mem.tail _ (List.Mem.head _))), (List.forall_mem_cons.mpr ⟨(List.Mem.tail _ (List.Mem.tail _ (List.Mem.tail _ (List.Mem.head _)))), (List.forall_mem_cons.mpr ⟨(List.Mem.tail _ (List.Mem.tail _ (List.Mem.tail _ (List.Mem.tail _ (List.Mem.head _))))), (List.forall_mem_cons.mpr ⟨(List.Mem.tail _ (List.Mem.tail _ (List.Mem.tail _ (List.Mem.tail _ (List.Mem.tail _ (List.Mem.head _)))))), (List.forall_mem_cons.mpr ⟨(List.Mem.tail _ (List.Mem.tail _ (List.Mem.tail _ (List.Mem.tail _ (List.Mem.tail _ (List.Mem.tail _ (List.Mem.head _))))))), (List.forall_mem_cons.mpr ⟨(List.Mem.tail _ (List.Mem.tail _ (List.Mem.tail _ (List.Mem.tail _ (List.Mem.tail _ (List.Mem.tail _ (List.Mem.tail _ (List.Mem.head _)))))))), (List.forall_mem_cons.mpr ⟨(List.Mem.head _), (fun q h => absurd h List.not_mem_nil)⟩)⟩)⟩)⟩)⟩)⟩)⟩)⟩) ?_
        exact ih _ xv qq x4005 (tu + 1) Is4004 Fs4004 JEX_s4004 ⟨Qs4004.1, ps_out Qs4004.2.1 Qs4004.2.2 (by omega) (p1 _ (by omega)).1⟩ (by first | exact ⟨And.intro (hs4004.1.1) (And.intro (hs4004.1.2.1) (hs4004.1.2.2)), And.intro (hs4004.2.1.1) (hs4004.2.1.2), And.intro (hs4004.2.2.1.1) (hs4004.2.2.1.2), oq_54f49eb5 hs4004.2.2.2.1.1, oq_f4e79888 hs4004.2.2.2.1.2⟩ | omega) (by first | exact qk_me hm (by decide) (oq_8f78399e hs4004.2.2.2.1.2) | omega) kx
  have L276 : ∀ (n : Nat) (t : PS) (xv qq p : Int), Bd t → FmX [104] [397] s t → EXl (pX s) (dT 0) [(q1, 8), (q2, 8), (q3, 8)] t → (MST (RDM s x) (pX s).length (qq : Int).toNat p t) → ((xv = x ∧ 1 ≤ x ∧ x ≤ 8) ∧ (0 ≤ qq ∧ qq ≤ 23) ∧ 0 ≤ p ∧ p ≤ x) → (8 - p : Int).toNat < n → (∀ (t' : PS) (p' : Int), Bd t' → FmX [104] [397] s t' → EXl (pX s) (dT 0) [(q1, 8), (q2, 8), (q3, 8)] t' → (MST (RDM s x) (pX s).length (qq : Int).toNat p' t') → ((xv = x ∧ 1 ≤ x ∧ x ≤ 8) ∧ (0 ≤ qq ∧ qq ≤ 23) ∧ p' = x) → WS k 347 [(0, .ref (A 179)), (2, .ref q1), (3, .ref q2), (4, .ref q3), (1, .int (Int32.ofInt xv)), (5, .int (Int32.ofInt qq)), (7, .int (Int32.ofInt p'))] [] (Wd A dT t') 3 24) → WS k 276 [(0, .ref (A 179)), (2, .ref q1), (3, .ref q2), (4, .ref q3), (1, .int (Int32.ofInt xv)), (5, .int (Int32.ofInt qq)), (7, .int (Int32.ofInt p))] [] (Wd A dT t) 3 24 := by
    intro n
    induction n with
    | zero =>
      intro t xv qq p I F jjEX hq hi hm kx
      exact absurd hm (Nat.not_lt_zero _)
    | succ n ih =>
      intro t xv qq p I F jjEX hq hi hm kx
      have b5001 : ((-2147483648) : Int) ≤ iI t 104 ∧ iI t 104 ≤ 2147483647 := I.1 104
      have b5002 : (1 : Int) ≤ iI t 103 ∧ iI t 103 ≤ 8 := I.1 103
      refine z_load X (x := p) (show cdA 275 276 = some (.iload 7, 2, 0, 0, 0) from rfl) (List.Mem.tail _ (List.Mem.tail _ (List.Mem.tail _ (List.Mem.tail _ (List.Mem.tail _ (List.Mem.tail _ (List.Mem.head _))))))) ?_
      refine z_load_n X (x := xv) (show cdA 275 278 = some (.iload_n 1, 1, 0, 0, 0) from rfl) (List.Mem.tail _ (List.Mem.tail _ (List.Mem.tail _ (List.Mem.tail _ (List.Mem.head _))))) ?_
      refine z_icmp_ge X (t := 347) (show cdA 275 279 = some (.if_icmp .ge 68, 3, 3, 0, 0) from rfl) (by decide) ⟨by first | exact oq_fa4e5087 hi.2.2.1 | omega, by first | exact oq_b5dbaaed hi.2.2.2 hi.1.2.2 | omega⟩ ⟨by first | exact oq_4dc996b7 hi.1.1 hi.1.2.1 | omega, by first | exact oq_8bd33971 hi.1.1 hi.1.2.2 | omega⟩ (fun g5003 => ?_) (fun g5003 => ?_)
      ·
        refine WS_lv (lv := [(0, .ref (A 179)), (2, .ref q1), (3, .ref q2), (4, .ref q3), (1, .int (Int32.ofInt xv)), (5, .int (Int32.ofInt qq)), (7, .int (Int32.ofInt p))]) (List.forall_mem_cons.mpr ⟨(List.Mem.head _), (List.forall_mem_cons.mpr ⟨(List.Mem.tail _ (List.Mem.head _)), (List.forall_mem_cons.mpr ⟨(List.Mem.tail _ (List.Mem.tail _ (List.Mem.head _))), (List.forall_mem_cons.mpr ⟨(List.Mem.tail _ (List.Mem.tail _ (List.Mem.tail _ (List.Mem.head _)))), (List.forall_mem_cons.mpr ⟨(List.Mem.tail _ (List.Mem.tail _ (List.Mem.tail _ (List.Mem.tail _ (List.Mem.head _))))), (List.forall_mem_cons.mpr ⟨(List.Mem.tail _ (List.Mem.tail _ (List.Mem.tail _ (List.Mem.tail _ (List.Mem.tail _ (List.Mem.head _)))))), (List.forall_mem_cons.mpr ⟨(List.Mem.tail _ (List.Mem.tail _ (List.Mem.tail _ (List.Mem.tail _ (List.Mem.tail _ (List.Mem.tail _ (List.Mem.head _))))))), (fun q h => absurd h List.not_mem_nil)⟩)⟩)⟩)⟩)⟩)⟩)⟩) ?_
        exact kx _ p I F jjEX hq (by first | exact ⟨And.intro (hi.1.1) (And.intro (hi.1.2.1) (hi.1.2.2)), And.intro (hi.2.1.1) (hi.2.1.2), oq_537ca82a hi.2.2.2 g5003 hi.1.1⟩ | omega)
      ·
        have hqe : qq = (((qq : Int).toNat : Nat) : Int) := by omega
        have hNw : Int32.ofInt (iC t 397 (qq : Int).toNat) = (nwM (RDM s x) (ruR (RDM s x) (qq : Int).toNat) (qq : Int).toNat) := by rw [hq.2.2 _ (by omega)]; exact ofi_to _
        have hb1 := (mst_b hq (by omega) (by omega)).1
        refine z_aload_n X (x := A 179) (show cdA 275 282 = some (.aload_n 0, 1, 0, 0, 0) from rfl) (List.Mem.head _) ?_
        refine s_getR X 179 (show cdA 275 283 = some (.getfield 127, 3, 12, 62, 0) from rfl) (by decide) rfl rfl ?_
        refine z_load X (x := qq) (show cdA 275 286 = some (.iload 5, 2, 0, 0, 0) from rfl) (List.Mem.tail _ (List.Mem.tail _ (List.Mem.tail _ (List.Mem.tail _ (List.Mem.tail _ (List.Mem.head _)))))) ?_
        refine z_ald X 452 (show cdA 275 288 = some (.iaload, 1, 0, 0, 0) from rfl) (by decide) rfl (by first | exact hi.2.1.1 | omega) (show qq < 24 by first | exact oq_7fdb8aa6 hi.2.1.2 | omega) (by decide) ?_
        have b5004 : (0 : Int) ≤ iC t 397 (qq).toNat ∧ iC t 397 (qq).toNat ≤ 255 := I.2 397 _ (show (qq).toNat < 24 by first | exact oq_138251d6 hi.2.1.2 | omega)
        have ar5005 : iC t 397 (qq).toNat = iC t 397 (qq).toNat := (sam_rf (a := 397) (s := t)) _
        refine z_load X (x := p) (show cdA 275 289 = some (.iload 7, 2, 0, 0, 0) from rfl) (List.Mem.tail _ (List.Mem.tail _ (List.Mem.tail _ (List.Mem.tail _ (List.Mem.tail _ (List.Mem.tail _ (List.Mem.head _))))))) ?_
        refine z_bshr X (show cdA 275 291 = some (.ishr, 1, 0, 0, 0) from rfl) ?_
        refine z_anyV (fun y5006 hy5006 ey5006 => ?_)
        refine z_const X (show cdA 275 292 = some (.iconst 1, 1, 0, 0, 0) from rfl) ?_
        refine w_iand X.1 (ax_d X (show cdA 275 293 = some (.iand, 1, 0, 0, 0) from rfl)) ?_
        refine z_anyV (fun y5007 hy5007 ey5007 => ?_)
        have hbit := bt_rd (b := iC t 397 (qq : Int).toNat) (p := p) ey5006 ey5007 hy5007 (by omega)
        rw [hNw] at hbit
        refine z_if_ne X (t := 300) (show cdA 275 294 = some (.ifCond .ne 6, 3, 1, 0, 0) from rfl) (by decide) hy5007 (fun g5008 => ?_) (fun g5008 => ?_)
        ·
          refine z_aload_n X (x := q2) (show cdA 275 300 = some (.aload_n 3, 1, 0, 0, 0) from rfl) (List.Mem.tail _ (List.Mem.tail _ (List.Mem.head _))) ?_
          refine z_load X (x := p) (show cdA 275 301 = some (.iload 7, 2, 0, 0, 0) from rfl) (List.Mem.tail _ (List.Mem.tail _ (List.Mem.tail _ (List.Mem.tail _ (List.Mem.tail _ (List.Mem.tail _ (List.Mem.head _))))))) ?_
          refine z_aload X (x := q3) (show cdA 275 303 = some (.aload 4, 2, 0, 0, 0) from rfl) (List.Mem.tail _ (List.Mem.tail _ (List.Mem.tail _ (List.Mem.head _)))) ?_
          refine z_load X (x := p) (show cdA 275 305 = some (.iload 7, 2, 0, 0, 0) from rfl) (List.Mem.tail _ (List.Mem.tail _ (List.Mem.tail _ (List.Mem.tail _ (List.Mem.tail _ (List.Mem.tail _ (List.Mem.head _))))))) ?_
          refine z_xaldE X jjEX 2 rfl (show cdA 275 307 = some (.iaload, 1, 0, 0, 0) from rfl) (by first | exact hi.2.2.1 | omega) (show p < 8 by first | exact oq_940075ae g5003 hi.1.1 hi.1.2.2 | omega) (by decide) ?_
          have b5009 : rng (xV ((pX s).length + 2) t (p).toNat) := rng_to _
          refine z_load X (x := qq) (show cdA 275 308 = some (.iload 5, 2, 0, 0, 0) from rfl) (List.Mem.tail _ (List.Mem.tail _ (List.Mem.tail _ (List.Mem.tail _ (List.Mem.tail _ (List.Mem.head _)))))) ?_
          refine z_const X (show cdA 275 310 = some (.iconst 1, 1, 0, 0, 0) from rfl) ?_
          refine z_sub X (show cdA 275 311 = some (.isub, 1, 0, 0, 0) from rfl) ?_
          refine z_icmp_ne X (t := 324) (show cdA 275 312 = some (.if_icmp .ne 12, 3, 1, 0, 0) from rfl) (by decide) ⟨by first | exact b5009.1 | omega, by first | exact b5009.2 | omega⟩ ⟨by first | exact oq_c1e961c7 hi.2.1.1 | omega, by first | exact oq_7b087cf4 hi.2.1.2 | omega⟩ (fun g5010 => ?_) (fun g5010 => ?_)
          ·
            refine z_const X (show cdA 275 324 = some (.iconst 1, 1, 0, 0, 0) from rfl) ?_
            refine z_xastE X jjEX 1 rfl (show cdA 275 325 = some (.iastore, 1, 0, 0, 0) from rfl) (by first | exact hi.2.2.1 | omega) (show p < 8 by first | exact oq_940075ae g5003 hi.1.1 hi.1.2.2 | omega) (by decide) (fun ps5011 es5011 fs5011 => ?_)
            have Is5011 : Bd (sx t ps5011) := I
            have Fs5011 : FmX [104] [397] s (sx t ps5011) := F
            have ws5011_104 : iI (sx t ps5011) 104 = iI t 104 := rfl
            have ws5011_103 : iI (sx t ps5011) 103 = iI t 103 := rfl
            have aws5011_397 : SAM 397 t (sx t ps5011) := (sam_rf (a := 397) (s := t))
            generalize sx t ps5011 = s5011 at *
            have g1 := xup fs5011 (by decide)
            refine z_aload X (x := q3) (show cdA 275 326 = some (.aload 4, 2, 0, 0, 0) from rfl) (List.Mem.tail _ (List.Mem.tail _ (List.Mem.tail _ (List.Mem.head _)))) ?_
            refine z_load X (x := p) (show cdA 275 328 = some (.iload 7, 2, 0, 0, 0) from rfl) (List.Mem.tail _ (List.Mem.tail _ (List.Mem.tail _ (List.Mem.tail _ (List.Mem.tail _ (List.Mem.tail _ (List.Mem.head _))))))) ?_
            refine z_load X (x := qq) (show cdA 275 330 = some (.iload 5, 2, 0, 0, 0) from rfl) (List.Mem.tail _ (List.Mem.tail _ (List.Mem.tail _ (List.Mem.tail _ (List.Mem.tail _ (List.Mem.head _)))))) ?_
            refine z_xastE X es5011 2 rfl (show cdA 275 332 = some (.iastore, 1, 0, 0, 0) from rfl) (by first | exact hi.2.2.1 | omega) (show p < 8 by first | exact oq_940075ae g5003 hi.1.1 hi.1.2.2 | omega) (by decide) (fun ps5012 es5012 fs5012 => ?_)
            have Is5012 : Bd (sx s5011 ps5012) := Is5011
            have Fs5012 : FmX [104] [397] s (sx s5011 ps5012) := Fs5011
            have ws5012_104 : iI (sx s5011 ps5012) 104 = iI s5011 104 := rfl
            have ws5012_103 : iI (sx s5011 ps5012) 103 = iI s5011 103 := rfl
            have aws5012_397 : SAM 397 t (sx s5011 ps5012) := aws5011_397
            generalize sx s5011 ps5012 = s5012 at *
            have g2 := xup fs5012 ⟨by first | exact oq_fa4e5087 hi.2.1.1 | omega, by first | exact oq_1a42ef34 hi.2.1.2 | omega⟩
            have hx0 := x0_at (N := (pX s).length) (c := p) (fun i j hi => g1 i j hi) (fun i j hi => g2 i j hi)
            refine z_aload_n X (x := q1) (show cdA 275 333 = some (.aload_n 2, 1, 0, 0, 0) from rfl) (List.Mem.tail _ (List.Mem.head _)) ?_
            refine z_load X (x := p) (show cdA 275 334 = some (.iload 7, 2, 0, 0, 0) from rfl) (List.Mem.tail _ (List.Mem.tail _ (List.Mem.tail _ (List.Mem.tail _ (List.Mem.tail _ (List.Mem.tail _ (List.Mem.head _))))))) ?_
            refine w_dup2_11 X.1 (ax_d X (show cdA 275 336 = some (.dup2, 1, 0, 0, 0) from rfl)) rfl rfl ?_
            refine z_xaldE X es5012 0 rfl (show cdA 275 337 = some (.iaload, 1, 0, 0, 0) from rfl) (by first | exact hi.2.2.1 | omega) (show p < 8 by first | exact oq_940075ae g5003 hi.1.1 hi.1.2.2 | omega) (by decide) ?_
            have b5013 : rng (xV ((pX s).length + 0) s5012 (p).toNat) := rng_to _
            refine z_const X (show cdA 275 338 = some (.iconst 1, 1, 0, 0, 0) from rfl) ?_
            refine z_add X (show cdA 275 339 = some (.iadd, 1, 0, 0, 0) from rfl) ?_
            refine z_xastE X es5012 0 rfl (show cdA 275 340 = some (.iastore, 1, 0, 0, 0) from rfl) (by first | exact hi.2.2.1 | omega) (show p < 8 by first | exact oq_940075ae g5003 hi.1.1 hi.1.2.2 | omega) (by decide) (fun ps5014 es5014 fs5014 => ?_)
            have Is5014 : Bd (sx s5012 ps5014) := Is5012
            have Fs5014 : FmX [104] [397] s (sx s5012 ps5014) := Fs5012
            have ws5014_104 : iI (sx s5012 ps5014) 104 = iI s5012 104 := rfl
            have ws5014_103 : iI (sx s5012 ps5014) 103 = iI s5012 103 := rfl
            have aws5014_397 : SAM 397 t (sx s5012 ps5014) := aws5012_397
            generalize sx s5012 ps5014 = s5014 at *
            have g3 := xup fs5014 ⟨by first | exact oq_14afcb3e b5013.1 | omega, by omega⟩
            refine z_inc X (x := p) (lv' := [(7, .int (Int32.ofInt (p + 1))), (0, .ref (A 179)), (2, .ref q1), (3, .ref q2), (4, .ref q3), (1, .int (Int32.ofInt xv)), (5, .int (Int32.ofInt qq))]) (show cdA 275 341 = some (.iinc 7 1, 3, 0, 0, 0) from rfl) (by decide) (List.Mem.tail _ (List.Mem.tail _ (List.Mem.tail _ (List.Mem.tail _ (List.Mem.tail _ (List.Mem.tail _ (List.Mem.head _))))))) (fun _ h => h) ?_
            refine z_goto X (t := 276) (show cdA 275 344 = some (.goto (-68), 3, 0, 0, 0) from rfl) (by decide) ?_
            refine WS_lv (lv := [(0, .ref (A 179)), (2, .ref q1), (3, .ref q2), (4, .ref q3), (1, .int (Int32.ofInt xv)), (5, .int (Int32.ofInt qq)), (7, .int (Int32.ofInt (p + 1)))]) (List.forall_mem_cons.mpr ⟨(List.Mem.tail _ (List.Mem.head _)), (List.forall_mem_cons.mpr ⟨(List.Mem.tail _ (List.Mem.tail _ (List.Mem.head _))), (List.forall_mem_cons.mpr ⟨(List.Mem.tail _ (List.Mem.tail _ (List.Mem.tail _ (List.Mem.head _)))), (List.forall_mem_cons.mpr ⟨(List.Mem.tail _ (List.Mem.tail _ (List.Mem.tail _ (List.Mem.tail _ (List.Mem.head _))))), (List.forall_mem_cons.mpr ⟨(List.Mem.tail _ (List.Mem.tail _ (List.Mem.tail _ (List.Mem.tail _ (List.Mem.tail _ (List.Mem.head _)))))), (List.forall_mem_cons.mpr ⟨(List.Mem.tail _ (List.Mem.tail _ (List.Mem.tail _ (List.Mem.tail _ (List.Mem.tail _ (List.Mem.tail _ (List.Mem.head _))))))), (List.forall_mem_cons.mpr ⟨(List.Mem.head _), (fun q h => absurd h List.not_mem_nil)⟩)⟩)⟩)⟩)⟩)⟩)⟩) ?_
            exact ih _ xv qq (p + 1) Is5014 Fs5014 es5014 (mst_y3 hq (by omega) (by show _ < x; omega) (hbit.elim (fun z => z.2) (fun z => absurd z.1 (by omega))) hqe (Or.inr ⟨by omega, rfl⟩) (fun i j hi => g1 i j hi) (fun i j hi => g2 i j hi) (fun i j hi => g3 i j hi) (by omega) (by omega) aws5014_397) (by first | exact ⟨And.intro (hi.1.1) (And.intro (hi.1.2.1) (hi.1.2.2)), And.intro (hi.2.1.1) (hi.2.1.2), oq_54f49eb5 hi.2.2.1, oq_8a89b3ae g5003 hi.1.1⟩ | omega) (by first | exact qk_me hm (by decide) (oq_67fee7f6 g5003 hi.1.1 hi.1.2.2) | omega) kx
          ·
            have hb2 := (mst_b hq (by omega) (by omega)).2 (by omega)
            refine z_aload_n X (x := q2) (show cdA 275 315 = some (.aload_n 3, 1, 0, 0, 0) from rfl) (List.Mem.tail _ (List.Mem.tail _ (List.Mem.head _))) ?_
            refine z_load X (x := p) (show cdA 275 316 = some (.iload 7, 2, 0, 0, 0) from rfl) (List.Mem.tail _ (List.Mem.tail _ (List.Mem.tail _ (List.Mem.tail _ (List.Mem.tail _ (List.Mem.tail _ (List.Mem.head _))))))) ?_
            refine z_xaldE X jjEX 1 rfl (show cdA 275 318 = some (.iaload, 1, 0, 0, 0) from rfl) (by first | exact hi.2.2.1 | omega) (show p < 8 by first | exact oq_940075ae g5003 hi.1.1 hi.1.2.2 | omega) (by decide) ?_
            have b5015 : rng (xV ((pX s).length + 1) t (p).toNat) := rng_to _
            refine z_const X (show cdA 275 319 = some (.iconst 1, 1, 0, 0, 0) from rfl) ?_
            refine z_add X (show cdA 275 320 = some (.iadd, 1, 0, 0, 0) from rfl) ?_
            refine z_goto X (t := 325) (show cdA 275 321 = some (.goto 4, 3, 0, 0, 0) from rfl) (by decide) ?_
            refine z_xastE X jjEX 1 rfl (show cdA 275 325 = some (.iastore, 1, 0, 0, 0) from rfl) (by first | exact hi.2.2.1 | omega) (show p < 8 by first | exact oq_940075ae g5003 hi.1.1 hi.1.2.2 | omega) (by decide) (fun ps5016 es5016 fs5016 => ?_)
            have Is5016 : Bd (sx t ps5016) := I
            have Fs5016 : FmX [104] [397] s (sx t ps5016) := F
            have ws5016_104 : iI (sx t ps5016) 104 = iI t 104 := rfl
            have ws5016_103 : iI (sx t ps5016) 103 = iI t 103 := rfl
            have aws5016_397 : SAM 397 t (sx t ps5016) := (sam_rf (a := 397) (s := t))
            generalize sx t ps5016 = s5016 at *
            have g1 := xup fs5016 ⟨by first | exact oq_14afcb3e b5015.1 | omega, by omega⟩
            refine z_aload X (x := q3) (show cdA 275 326 = some (.aload 4, 2, 0, 0, 0) from rfl) (List.Mem.tail _ (List.Mem.tail _ (List.Mem.tail _ (List.Mem.head _)))) ?_
            refine z_load X (x := p) (show cdA 275 328 = some (.iload 7, 2, 0, 0, 0) from rfl) (List.Mem.tail _ (List.Mem.tail _ (List.Mem.tail _ (List.Mem.tail _ (List.Mem.tail _ (List.Mem.tail _ (List.Mem.head _))))))) ?_
            refine z_load X (x := qq) (show cdA 275 330 = some (.iload 5, 2, 0, 0, 0) from rfl) (List.Mem.tail _ (List.Mem.tail _ (List.Mem.tail _ (List.Mem.tail _ (List.Mem.tail _ (List.Mem.head _)))))) ?_
            refine z_xastE X es5016 2 rfl (show cdA 275 332 = some (.iastore, 1, 0, 0, 0) from rfl) (by first | exact hi.2.2.1 | omega) (show p < 8 by first | exact oq_940075ae g5003 hi.1.1 hi.1.2.2 | omega) (by decide) (fun ps5017 es5017 fs5017 => ?_)
            have Is5017 : Bd (sx s5016 ps5017) := Is5016
            have Fs5017 : FmX [104] [397] s (sx s5016 ps5017) := Fs5016
            have ws5017_104 : iI (sx s5016 ps5017) 104 = iI s5016 104 := rfl
            have ws5017_103 : iI (sx s5016 ps5017) 103 = iI s5016 103 := rfl
            have aws5017_397 : SAM 397 t (sx s5016 ps5017) := aws5016_397
            generalize sx s5016 ps5017 = s5017 at *
            have g2 := xup fs5017 ⟨by first | exact oq_fa4e5087 hi.2.1.1 | omega, by first | exact oq_1a42ef34 hi.2.1.2 | omega⟩
            have hx0 := x0_at (N := (pX s).length) (c := p) (fun i j hi => g1 i j hi) (fun i j hi => g2 i j hi)
            refine z_aload_n X (x := q1) (show cdA 275 333 = some (.aload_n 2, 1, 0, 0, 0) from rfl) (List.Mem.tail _ (List.Mem.head _)) ?_
            refine z_load X (x := p) (show cdA 275 334 = some (.iload 7, 2, 0, 0, 0) from rfl) (List.Mem.tail _ (List.Mem.tail _ (List.Mem.tail _ (List.Mem.tail _ (List.Mem.tail _ (List.Mem.tail _ (List.Mem.head _))))))) ?_
            refine w_dup2_11 X.1 (ax_d X (show cdA 275 336 = some (.dup2, 1, 0, 0, 0) from rfl)) rfl rfl ?_
            refine z_xaldE X es5017 0 rfl (show cdA 275 337 = some (.iaload, 1, 0, 0, 0) from rfl) (by first | exact hi.2.2.1 | omega) (show p < 8 by first | exact oq_940075ae g5003 hi.1.1 hi.1.2.2 | omega) (by decide) ?_
            have b5018 : rng (xV ((pX s).length + 0) s5017 (p).toNat) := rng_to _
            refine z_const X (show cdA 275 338 = some (.iconst 1, 1, 0, 0, 0) from rfl) ?_
            refine z_add X (show cdA 275 339 = some (.iadd, 1, 0, 0, 0) from rfl) ?_
            refine z_xastE X es5017 0 rfl (show cdA 275 340 = some (.iastore, 1, 0, 0, 0) from rfl) (by first | exact hi.2.2.1 | omega) (show p < 8 by first | exact oq_940075ae g5003 hi.1.1 hi.1.2.2 | omega) (by decide) (fun ps5019 es5019 fs5019 => ?_)
            have Is5019 : Bd (sx s5017 ps5019) := Is5017
            have Fs5019 : FmX [104] [397] s (sx s5017 ps5019) := Fs5017
            have ws5019_104 : iI (sx s5017 ps5019) 104 = iI s5017 104 := rfl
            have ws5019_103 : iI (sx s5017 ps5019) 103 = iI s5017 103 := rfl
            have aws5019_397 : SAM 397 t (sx s5017 ps5019) := aws5017_397
            generalize sx s5017 ps5019 = s5019 at *
            have g3 := xup fs5019 ⟨by first | exact oq_14afcb3e b5018.1 | omega, by omega⟩
            refine z_inc X (x := p) (lv' := [(7, .int (Int32.ofInt (p + 1))), (0, .ref (A 179)), (2, .ref q1), (3, .ref q2), (4, .ref q3), (1, .int (Int32.ofInt xv)), (5, .int (Int32.ofInt qq))]) (show cdA 275 341 = some (.iinc 7 1, 3, 0, 0, 0) from rfl) (by decide) (List.Mem.tail _ (List.Mem.tail _ (List.Mem.tail _ (List.Mem.tail _ (List.Mem.tail _ (List.Mem.tail _ (List.Mem.head _))))))) (fun _ h => h) ?_
            refine z_goto X (t := 276) (show cdA 275 344 = some (.goto (-68), 3, 0, 0, 0) from rfl) (by decide) ?_
            refine WS_lv (lv := [(0, .ref (A 179)), (2, .ref q1), (3, .ref q2), (4, .ref q3), (1, .int (Int32.ofInt xv)), (5, .int (Int32.ofInt qq)), (7, .int (Int32.ofInt (p + 1)))]) (List.forall_mem_cons.mpr ⟨(List.Mem.tail _ (List.Mem.head _)), (List.forall_mem_cons.mpr ⟨(List.Mem.tail _ (List.Mem.tail _ (List.Mem.head _))), (List.forall_mem_cons.mpr ⟨(List.Mem.tail _ (List.Mem.tail _ (List.Mem.tail _ (List.Mem.head _)))), (List.forall_mem_cons.mpr ⟨(List.Mem.tail _ (List.Mem.tail _ (List.Mem.tail _ (List.Mem.tail _ (List.Mem.head _))))), (List.forall_mem_cons.mpr ⟨(List.Mem.tail _ (List.Mem.tail _ (List.Mem.tail _ (List.Mem.tail _ (List.Mem.tail _ (List.Mem.head _)))))), (List.forall_mem_cons.mpr ⟨(List.Mem.tail _ (List.Mem.tail _ (List.Mem.tail _ (List.Mem.tail _ (List.Mem.tail _ (List.Mem.tail _ (List.Mem.head _))))))), (List.forall_mem_cons.mpr ⟨(List.Mem.head _), (fun q h => absurd h List.not_mem_nil)⟩)⟩)⟩)⟩)⟩)⟩)⟩) ?_
            exact ih _ xv qq (p + 1) Is5019 Fs5019 es5019 (mst_y3 hq (by omega) (by show _ < x; omega) (hbit.elim (fun z => z.2) (fun z => absurd z.1 (by omega))) hqe (Or.inl ⟨by omega, by omega⟩) (fun i j hi => g1 i j hi) (fun i j hi => g2 i j hi) (fun i j hi => g3 i j hi) (by omega) (by omega) aws5019_397) (by first | exact ⟨And.intro (hi.1.1) (And.intro (hi.1.2.1) (hi.1.2.2)), And.intro (hi.2.1.1) (hi.2.1.2), oq_54f49eb5 hi.2.2.1, oq_8a89b3ae g5003 hi.1.1⟩ | omega) (by first | exact qk_me hm (by decide) (oq_67fee7f6 g5003 hi.1.1 hi.1.2.2) | omega) kx
        ·
          refine z_goto X (t := 341) (show cdA 275 297 = some (.goto 44, 3, 0, 0, 0) from rfl) (by decide) ?_
          refine z_inc X (x := p) (lv' := [(7, .int (Int32.ofInt (p + 1))), (0, .ref (A 179)), (2, .ref q1), (3, .ref q2), (4, .ref q3), (1, .int (Int32.ofInt xv)), (5, .int (Int32.ofInt qq))]) (show cdA 275 341 = some (.iinc 7 1, 3, 0, 0, 0) from rfl) (by decide) (List.Mem.tail _ (List.Mem.tail _ (List.Mem.tail _ (List.Mem.tail _ (List.Mem.tail _ (List.Mem.tail _ (List.Mem.head _))))))) (fun _ h => h) ?_
          refine z_goto X (t := 276) (show cdA 275 344 = some (.goto (-68), 3, 0, 0, 0) from rfl) (by decide) ?_
          refine WS_lv (lv := [(0, .ref (A 179)), (2, .ref q1), (3, .ref q2), (4, .ref q3), (1, .int (Int32.ofInt xv)), (5, .int (Int32.ofInt qq)), (7, .int (Int32.ofInt (p + 1)))]) (List.forall_mem_cons.mpr ⟨(List.Mem.tail _ (List.Mem.head _)), (List.forall_mem_cons.mpr ⟨(List.Mem.tail _ (List.Mem.tail _ (List.Mem.head _))), (List.forall_mem_cons.mpr ⟨(List.Mem.tail _ (List.Mem.tail _ (List.Mem.tail _ (List.Mem.head _)))), (List.forall_mem_cons.mpr ⟨(List.Mem.tail _ (List.Mem.tail _ (List.Mem.tail _ (List.Mem.tail _ (List.Mem.head _))))), (List.forall_mem_cons.mpr ⟨(List.Mem.tail _ (List.Mem.tail _ (List.Mem.tail _ (List.Mem.tail _ (List.Mem.tail _ (List.Mem.head _)))))), (List.forall_mem_cons.mpr ⟨(List.Mem.tail _ (List.Mem.tail _ (List.Mem.tail _ (List.Mem.tail _ (List.Mem.tail _ (List.Mem.tail _ (List.Mem.head _))))))), (List.forall_mem_cons.mpr ⟨(List.Mem.head _), (fun q h => absurd h List.not_mem_nil)⟩)⟩)⟩)⟩)⟩)⟩)⟩) ?_
          exact ih _ xv qq (p + 1) I F jjEX (mst_n hq (by omega) (by show _ < x; omega) (hbit.elim (fun z => absurd z.1 (by omega)) (fun z => z.2))) (by first | exact ⟨And.intro (hi.1.1) (And.intro (hi.1.2.1) (hi.1.2.2)), And.intro (hi.2.1.1) (hi.2.1.2), oq_54f49eb5 hi.2.2.1, oq_8a89b3ae g5003 hi.1.1⟩ | omega) (by first | exact qk_me hm (by decide) (oq_67fee7f6 g5003 hi.1.1 hi.1.2.2) | omega) kx
  have L47 : ∀ (n : Nat) (t : PS) (xv qq : Int), Bd t → FmX [104] [397] s t → EXl (pX s) (dT 0) [(q1, 8), (q2, 8), (q3, 8)] t → (MRN (RDM s x) (pX s).length (qq : Int).toNat t) → ((xv = x ∧ 1 ≤ x ∧ x ≤ 8) ∧ 0 ≤ qq ∧ qq ≤ 24) → (24 - qq : Int).toNat < n → (∀ (t' : PS) (qq' : Int), Bd t' → FmX [104] [397] s t' → EXl (pX s) (dT 0) [(q1, 8), (q2, 8), (q3, 8)] t' → (MRN (RDM s x) (pX s).length (qq' : Int).toNat t') → (qq' = 24) → WS k 353 [(0, .ref (A 179)), (2, .ref q1), (3, .ref q2), (4, .ref q3), (1, .int (Int32.ofInt xv)), (5, .int (Int32.ofInt qq'))] [] (Wd A dT t') 3 24) → WS k 47 [(0, .ref (A 179)), (2, .ref q1), (3, .ref q2), (4, .ref q3), (1, .int (Int32.ofInt xv)), (5, .int (Int32.ofInt qq))] [] (Wd A dT t) 3 24 := by
    intro n
    induction n with
    | zero =>
      intro t xv qq I F jjEX hq hi hm kx
      exact absurd hm (Nat.not_lt_zero _)
    | succ n ih =>
      intro t xv qq I F jjEX hq hi hm kx
      have b6001 : ((-2147483648) : Int) ≤ iI t 104 ∧ iI t 104 ≤ 2147483647 := I.1 104
      have b6002 : (1 : Int) ≤ iI t 103 ∧ iI t 103 ≤ 8 := I.1 103
      refine z_load X (x := qq) (show cdA 275 47 = some (.iload 5, 2, 0, 0, 0) from rfl) (List.Mem.tail _ (List.Mem.tail _ (List.Mem.tail _ (List.Mem.tail _ (List.Mem.tail _ (List.Mem.head _)))))) ?_
      refine z_bipush X (show cdA 275 49 = some (.bipush 24, 2, 0, 0, 24) from rfl) ?_
      refine z_icmp_ge X (t := 353) (show cdA 275 51 = some (.if_icmp .ge 302, 3, 3, 0, 0) from rfl) (by decide) ⟨by first | exact oq_fa4e5087 hi.2.1 | omega, by first | exact oq_5bcd337f hi.2.2 | omega⟩ (by decide) (fun g6003 => ?_) (fun g6003 => ?_)
      ·
        refine WS_lv (lv := [(0, .ref (A 179)), (2, .ref q1), (3, .ref q2), (4, .ref q3), (1, .int (Int32.ofInt xv)), (5, .int (Int32.ofInt qq))]) (List.forall_mem_cons.mpr ⟨(List.Mem.head _), (List.forall_mem_cons.mpr ⟨(List.Mem.tail _ (List.Mem.head _)), (List.forall_mem_cons.mpr ⟨(List.Mem.tail _ (List.Mem.tail _ (List.Mem.head _))), (List.forall_mem_cons.mpr ⟨(List.Mem.tail _ (List.Mem.tail _ (List.Mem.tail _ (List.Mem.head _)))), (List.forall_mem_cons.mpr ⟨(List.Mem.tail _ (List.Mem.tail _ (List.Mem.tail _ (List.Mem.tail _ (List.Mem.head _))))), (List.forall_mem_cons.mpr ⟨(List.Mem.tail _ (List.Mem.tail _ (List.Mem.tail _ (List.Mem.tail _ (List.Mem.tail _ (List.Mem.head _)))))), (fun q h => absurd h List.not_mem_nil)⟩)⟩)⟩)⟩)⟩)⟩) ?_
        exact kx _ qq I F jjEX hq (by first | exact oq_ea1742b3 hi.2.2 g6003 | omega)
      ·
        have hnb : 0 ≤ (RDM s x).nd (qq : Int).toNat ∧ (RDM s x).nd (qq : Int).toNat ≤ 8 := p1 (qq : Int).toNat (by omega)
        have hqe : qq = (((qq : Int).toNat : Nat) : Int) := by omega
        refine z_aload_n X (x := A 179) (show cdA 275 54 = some (.aload_n 0, 1, 0, 0, 0) from rfl) (List.Mem.head _) ?_
        refine s_getR X 179 (show cdA 275 55 = some (.getfield 127, 3, 12, 62, 0) from rfl) (by decide) rfl rfl ?_
        refine z_load X (x := qq) (show cdA 275 58 = some (.iload 5, 2, 0, 0, 0) from rfl) (List.Mem.tail _ (List.Mem.tail _ (List.Mem.tail _ (List.Mem.tail _ (List.Mem.tail _ (List.Mem.head _)))))) ?_
        refine z_const X (show cdA 275 60 = some (.iconst 0, 1, 0, 0, 0) from rfl) ?_
        refine z_ast X 452 (show cdA 275 61 = some (.iastore, 1, 0, 0, 0) from rfl) (by decide) rfl (by first | exact hi.2.1 | omega) (show qq < 24 by first | exact g6003 | omega) (by decide) ?_
        obtain ⟨s6004, hs6004⟩ : ∃ x0, x0 = uC t 397 (qq).toNat (Int32.ofInt 0) := ⟨_, rfl⟩
        rw [← hs6004]
        have Is6004 : Bd s6004 := by rw [hs6004]; exact bd_C I (show (0 : Int) ≤ 0 ∧ 0 ≤ 255 by first | exact ⟨by decide, by decide⟩ | omega) (by decide)
        have Fs6004 := fx_C (i := (qq).toNat) (x := Int32.ofInt 0) F (show 397 ∈ _ by decide)
        rw [← hs6004] at Fs6004
        have ws6004_104 : iI s6004 104 = iI t 104 := by rw [hs6004]; rfl
        have ws6004_103 : iI s6004 103 = iI t 103 := by rw [hs6004]; rfl
        have aws6004_397 : UPD 397 (qq) 0 t s6004 := by rw [hs6004]; exact upd_put (sam_rf (a := 397) (s := t)) (by decide)
        have JEX_s6004 : EXl (pX s) (dT 0) [(q1, 8), (q2, 8), (q3, 8)] s6004 := by rw [hs6004]; exact jjEX
        have hM1 : MRN (RDM s x) (pX s).length (qq : Int).toNat s6004 := mrn_w hq (fun i j => by rw [hs6004]; rfl) (by omega) aws6004_397 hqe
        have hW1 : iC s6004 397 (qq : Int).toNat = 0 := aws6004_397.1
        refine z_aload_n X (x := A 179) (show cdA 275 62 = some (.aload_n 0, 1, 0, 0, 0) from rfl) (List.Mem.head _) ?_
        refine s_getR X 179 (show cdA 275 63 = some (.getfield 124, 3, 12, 61, 0) from rfl) (by decide) rfl rfl ?_
        refine z_load X (x := qq) (show cdA 275 66 = some (.iload 5, 2, 0, 0, 0) from rfl) (List.Mem.tail _ (List.Mem.tail _ (List.Mem.tail _ (List.Mem.tail _ (List.Mem.tail _ (List.Mem.head _)))))) ?_
        refine z_ald X 451 (show cdA 275 68 = some (.iaload, 1, 0, 0, 0) from rfl) (by decide) rfl (by first | exact hi.2.1 | omega) (show qq < 24 by first | exact g6003 | omega) (by decide) ?_
        have b6005 : ((-2147483648) : Int) ≤ iC s6004 396 (qq).toNat ∧ iC s6004 396 (qq).toNat ≤ 2147483647 := Is6004.2 396 _ (show (qq).toNat < 24 by first | exact oq_797efae6 g6003 | omega)
        have hnd : (iC s6004 396 (qq).toNat) = (RDM s x).nd (qq : Int).toNat := fx_c Fs6004 (by decide)
        refine z_store X (lv' := [(6, .int (Int32.ofInt (iC s6004 396 (qq).toNat))), (0, .ref (A 179)), (2, .ref q1), (3, .ref q2), (4, .ref q3), (1, .int (Int32.ofInt xv)), (5, .int (Int32.ofInt qq))]) (show cdA 275 69 = some (.istore 6, 2, 0, 0, 0) from rfl) (by decide) (fun _ h => h) ?_
        refine z_const X (show cdA 275 71 = some (.iconst 0, 1, 0, 0, 0) from rfl) ?_
        refine z_store X (lv' := [(7, .int (Int32.ofInt 0)), (6, .int (Int32.ofInt (iC s6004 396 (qq).toNat))), (0, .ref (A 179)), (2, .ref q1), (3, .ref q2), (4, .ref q3), (1, .int (Int32.ofInt xv)), (5, .int (Int32.ofInt qq))]) (show cdA 275 72 = some (.istore 7, 2, 0, 0, 0) from rfl) (by decide) (fun _ h => h) ?_
        refine WS_lv (lv := [(0, .ref (A 179)), (2, .ref q1), (3, .ref q2), (4, .ref q3), (1, .int (Int32.ofInt xv)), (5, .int (Int32.ofInt qq)), (6, .int (Int32.ofInt (iC s6004 396 (qq).toNat))), (7, .int (Int32.ofInt 0))]) (List.forall_mem_cons.mpr ⟨(List.Mem.tail _ (List.Mem.tail _ (List.Mem.head _))), (List.forall_mem_cons.mpr ⟨(List.Mem.tail _ (List.Mem.tail _ (List.Mem.tail _ (List.Mem.head _)))), (List.forall_mem_cons.mpr ⟨(List.Mem.tail _ (List.Mem.tail _ (List.Mem.tail _ (List.Mem.tail _ (List.Mem.head _))))), (List.forall_mem_cons.mpr ⟨(List.Mem.tail _ (List.Mem.tail _ (List.Mem.tail _ (List.Mem.tail _ (List.Mem.tail _ (List.Mem.head _)))))), (List.forall_mem_cons.mpr ⟨(List.Mem.tail _ (List.Mem.tail _ (List.Mem.tail _ (List.Mem.tail _ (List.Mem.tail _ (List.Mem.tail _ (List.Mem.head _))))))), (List.forall_mem_cons.mpr ⟨(List.Mem.tail _ (List.Mem.tail _ (List.Mem.tail _ (List.Mem.tail _ (List.Mem.tail _ (List.Mem.tail _ (List.Mem.tail _ (List.Mem.head _)))))))), (List.forall_mem_cons.mpr ⟨(List.Mem.tail _ (List.Mem.head _)), (List.forall_mem_cons.mpr ⟨(List.Mem.head _), (fun q h => absurd h List.not_mem_nil)⟩)⟩)⟩)⟩)⟩)⟩)⟩)⟩) ?_
        refine L74 ((2 - 0 : Int).toNat + 1) s6004 xv qq (iC s6004 396 (qq).toNat) 0 Is6004 Fs6004 JEX_s6004 ⟨hM1, (by have z := ps_0 (D := (RDM s x)) (q := (qq : Int).toNat) hW1; rw [← hnd] at z; exact z)⟩ (by first | exact ⟨And.intro (hi.1.1) (And.intro (hi.1.2.1) (hi.1.2.2)), And.intro (hi.2.1) (oq_c69fe266 g6003), And.intro (oq_e4757433 hnd hnb.1) (oq_86ef0b17 hnd hnb.2), by decide, by decide⟩ | omega) (Nat.lt_succ_self _) ?_
        intro s6006 x6007 x6008 Is6006 Fs6006 JEX_s6006 Qs6006 hs6006
        have b6009 : ((-2147483648) : Int) ≤ iI s6006 104 ∧ iI s6006 104 ≤ 2147483647 := Is6006.1 104
        have b6010 : (1 : Int) ≤ iI s6006 103 ∧ iI s6006 103 ≤ 8 := Is6006.1 103
        have hwt := Qs6006.1.2.1
        have hwb := ru_w (D := (RDM s x)) p1 (qq : Int).toNat (by omega)
        refine z_aload_n X (x := A 179) (show cdA 275 262 = some (.aload_n 0, 1, 0, 0, 0) from rfl) (List.Mem.head _) ?_
        refine w_dup X.1 (ax_d X (show cdA 275 263 = some (.dup, 1, 0, 0, 0) from rfl)) rfl ?_
        refine z_getI X 179 (show cdA 275 264 = some (.getfield 425, 3, 12, 65, 0) from rfl) (by decide) rfl rfl ?_
        have b6011 : ((-2147483648) : Int) ≤ iI s6006 104 ∧ iI s6006 104 ≤ 2147483647 := Is6006.1 104
        refine z_load X (x := x6007) (show cdA 275 267 = some (.iload 6, 2, 0, 0, 0) from rfl) (List.Mem.tail _ (List.Mem.tail _ (List.Mem.tail _ (List.Mem.tail _ (List.Mem.tail _ (List.Mem.tail _ (List.Mem.head _))))))) ?_
        refine z_add X (show cdA 275 269 = some (.iadd, 1, 0, 0, 0) from rfl) ?_
        refine s_putI X 179 (show cdA 275 270 = some (.putfield 425, 3, 12, 65, 0) from rfl) (by decide) rfl rfl (by decide) rfl rfl rfl ?_
        obtain ⟨s6012, hs6012⟩ : ∃ x0, x0 = uI s6006 104 (Int32.ofInt ((iI s6006 104) + x6007)) := ⟨_, rfl⟩
        rw [← hs6012]
        have Is6012 : Bd s6012 := by rw [hs6012]; exact bd_I Is6006 (show ((-2147483648) : Int) ≤ ((iI s6006 104) + x6007) ∧ ((iI s6006 104) + x6007) ≤ 2147483647 by first | exact ⟨oq_d82b5a64 hs6006.2.2.1.1 b6011.1, by omega⟩ | omega) ⟨by first | exact oq_d82b5a64 hs6006.2.2.1.1 b6011.1 | omega, by omega⟩
        have Fs6012 := fx_I (x := Int32.ofInt ((iI s6006 104) + x6007)) Fs6006 (show 104 ∈ _ by decide)
        rw [← hs6012] at Fs6012
        have vs6012 : iI s6012 104 = ((iI s6006 104) + x6007) := by rw [hs6012]; exact iI_u ⟨by first | exact oq_d82b5a64 hs6006.2.2.1.1 b6011.1 | omega, by omega⟩
        have ws6012_103 : iI s6012 103 = iI s6006 103 := by rw [hs6012]; rfl
        have JEX_s6012 : EXl (pX s) (dT 0) [(q1, 8), (q2, 8), (q3, 8)] s6012 := by rw [hs6012]; exact JEX_s6006
        refine z_const X (show cdA 275 273 = some (.iconst 0, 1, 0, 0, 0) from rfl) ?_
        refine z_store X (lv' := [(7, .int (Int32.ofInt 0)), (0, .ref (A 179)), (2, .ref q1), (3, .ref q2), (4, .ref q3), (1, .int (Int32.ofInt xv)), (5, .int (Int32.ofInt qq)), (6, .int (Int32.ofInt x6007))]) (show cdA 275 274 = some (.istore 7, 2, 0, 0, 0) from rfl) (by decide) (fun _ h => h) ?_
        refine WS_lv (lv := [(0, .ref (A 179)), (2, .ref q1), (3, .ref q2), (4, .ref q3), (1, .int (Int32.ofInt xv)), (5, .int (Int32.ofInt qq)), (7, .int (Int32.ofInt 0))]) (List.forall_mem_cons.mpr ⟨(List.Mem.tail _ (List.Mem.head _)), (List.forall_mem_cons.mpr ⟨(List.Mem.tail _ (List.Mem.tail _ (List.Mem.head _))), (List.forall_mem_cons.mpr ⟨(List.Mem.tail _ (List.Mem.tail _ (List.Mem.tail _ (List.Mem.head _)))), (List.forall_mem_cons.mpr ⟨(List.Mem.tail _ (List.Mem.tail _ (List.Mem.tail _ (List.Mem.tail _ (List.Mem.head _))))), (List.forall_mem_cons.mpr ⟨(List.Mem.tail _ (List.Mem.tail _ (List.Mem.tail _ (List.Mem.tail _ (List.Mem.tail _ (List.Mem.head _)))))), (List.forall_mem_cons.mpr ⟨(List.Mem.tail _ (List.Mem.tail _ (List.Mem.tail _ (List.Mem.tail _ (List.Mem.tail _ (List.Mem.tail _ (List.Mem.head _))))))), (List.forall_mem_cons.mpr ⟨(List.Mem.head _), (fun q h => absurd h List.not_mem_nil)⟩)⟩)⟩)⟩)⟩)⟩)⟩) ?_
        refine L276 ((8 - 0 : Int).toNat + 1) s6012 xv qq 0 Is6012 Fs6012 JEX_s6012 (mst_0 Qs6006.1 (by have z := Qs6006.2; rw [show x6008 = 2 by omega] at z; exact z) (by rw [hs6012]; rfl) (fun i j => by rw [hs6012]; rfl) (fun j => by rw [hs6012]; rfl) (by omega)) (by first | exact ⟨And.intro (hs6006.1.1) (And.intro (hs6006.1.2.1) (hs6006.1.2.2)), And.intro (hs6006.2.1.1) (hs6006.2.1.2), by decide, oq_2a6e3b50 hs6006.1.2.1⟩ | omega) (Nat.lt_succ_self _) ?_
        intro s6013 x6014 Is6013 Fs6013 JEX_s6013 Qs6013 hs6013
        have b6015 : ((-2147483648) : Int) ≤ iI s6013 104 ∧ iI s6013 104 ≤ 2147483647 := Is6013.1 104
        have b6016 : (1 : Int) ≤ iI s6013 103 ∧ iI s6013 103 ≤ 8 := Is6013.1 103
        refine z_inc X (x := qq) (lv' := [(5, .int (Int32.ofInt (qq + 1))), (0, .ref (A 179)), (2, .ref q1), (3, .ref q2), (4, .ref q3), (1, .int (Int32.ofInt xv)), (7, .int (Int32.ofInt x6014))]) (show cdA 275 347 = some (.iinc 5 1, 3, 0, 0, 0) from rfl) (by decide) (List.Mem.tail _ (List.Mem.tail _ (List.Mem.tail _ (List.Mem.tail _ (List.Mem.tail _ (List.Mem.head _)))))) (fun _ h => h) ?_
        refine z_goto X (t := 47) (show cdA 275 350 = some (.goto (-303), 3, 0, 0, 0) from rfl) (by decide) ?_
        refine WS_lv (lv := [(0, .ref (A 179)), (2, .ref q1), (3, .ref q2), (4, .ref q3), (1, .int (Int32.ofInt xv)), (5, .int (Int32.ofInt (qq + 1)))]) (List.forall_mem_cons.mpr ⟨(List.Mem.tail _ (List.Mem.head _)), (List.forall_mem_cons.mpr ⟨(List.Mem.tail _ (List.Mem.tail _ (List.Mem.head _))), (List.forall_mem_cons.mpr ⟨(List.Mem.tail _ (List.Mem.tail _ (List.Mem.tail _ (List.Mem.head _)))), (List.forall_mem_cons.mpr ⟨(List.Mem.tail _ (List.Mem.tail _ (List.Mem.tail _ (List.Mem.tail _ (List.Mem.head _))))), (List.forall_mem_cons.mpr ⟨(List.Mem.tail _ (List.Mem.tail _ (List.Mem.tail _ (List.Mem.tail _ (List.Mem.tail _ (List.Mem.head _)))))), (List.forall_mem_cons.mpr ⟨(List.Mem.head _), (fun q h => absurd h List.not_mem_nil)⟩)⟩)⟩)⟩)⟩)⟩) ?_
        exact ih _ xv (qq + 1) Is6013 Fs6013 JEX_s6013 (by have z := mst_e Qs6013 (by show x6014 = x; omega); rw [show (qq : Int).toNat + 1 = (qq + 1).toNat by omega] at z; exact z) (by first | exact ⟨And.intro (hs6013.1.1) (And.intro (hs6013.1.2.1) (hs6013.1.2.2)), oq_54f49eb5 hs6013.2.1.1, oq_3d4d89a6 hs6013.2.1.2⟩ | omega) (by first | exact qk_me hm (by decide) (oq_fa9b5cb9 hs6013.2.1.2) | omega) kx
  refine z_const X (show cdA 275 16 = some (.iconst 0, 1, 0, 0, 0) from rfl) ?_
  refine z_store X (lv' := [(5, .int (Int32.ofInt 0)), (4, .ref q3), (3, .ref q2), (2, .ref q1), (0, .ref (A 179)), (1, .int (Int32.ofInt x))]) (show cdA 275 17 = some (.istore 5, 2, 0, 0, 0) from rfl) (by decide) (fun _ h => h) ?_
  refine WS_lv (lv := [(0, .ref (A 179)), (2, .ref q1), (3, .ref q2), (4, .ref q3), (1, .int (Int32.ofInt x)), (5, .int (Int32.ofInt 0))]) (List.forall_mem_cons.mpr ⟨(List.Mem.tail _ (List.Mem.tail _ (List.Mem.tail _ (List.Mem.tail _ (List.Mem.head _))))), (List.forall_mem_cons.mpr ⟨(List.Mem.tail _ (List.Mem.tail _ (List.Mem.tail _ (List.Mem.head _)))), (List.forall_mem_cons.mpr ⟨(List.Mem.tail _ (List.Mem.tail _ (List.Mem.head _))), (List.forall_mem_cons.mpr ⟨(List.Mem.tail _ (List.Mem.head _)), (List.forall_mem_cons.mpr ⟨(List.Mem.tail _ (List.Mem.tail _ (List.Mem.tail _ (List.Mem.tail _ (List.Mem.tail _ (List.Mem.head _)))))), (List.forall_mem_cons.mpr ⟨(List.Mem.head _), (fun q h => absurd h List.not_mem_nil)⟩)⟩)⟩)⟩)⟩)⟩) ?_
  refine L19 ((8 - 0 : Int).toNat + 1) t0 x 0 It0 Ft0 eX0 ⟨hz0, fun p hp => absurd hp (by omega)⟩ (by first | exact ⟨And.intro (by decide) (And.intro (p0.1) (p0.2)), by decide, by decide⟩ | omega) (Nat.lt_succ_self _) ?_
  intro s3 x4 Is3 Fs3 JEX_s3 Qs3 hs3
  have b5 : ((-2147483648) : Int) ≤ iI s3 104 ∧ iI s3 104 ≤ 2147483647 := Is3.1 104
  have b6 : (1 : Int) ≤ iI s3 103 ∧ iI s3 103 ≤ 8 := Is3.1 103
  refine z_aload_n X (x := A 179) (show cdA 275 39 = some (.aload_n 0, 1, 0, 0, 0) from rfl) (List.Mem.head _) ?_
  refine z_const X (show cdA 275 40 = some (.iconst 0, 1, 0, 0, 0) from rfl) ?_
  refine s_putI X 179 (show cdA 275 41 = some (.putfield 425, 3, 12, 65, 0) from rfl) (by decide) rfl rfl (by decide) rfl rfl rfl ?_
  obtain ⟨s7, hs7⟩ : ∃ x0, x0 = uI s3 104 (Int32.ofInt 0) := ⟨_, rfl⟩
  rw [← hs7]
  have Is7 : Bd s7 := by rw [hs7]; exact bd_I Is3 (show ((-2147483648) : Int) ≤ 0 ∧ 0 ≤ 2147483647 by first | exact ⟨by decide, by decide⟩ | omega) (by decide)
  have Fs7 := fx_I (x := Int32.ofInt 0) Fs3 (show 104 ∈ _ by decide)
  rw [← hs7] at Fs7
  have vs7 : iI s7 104 = 0 := by rw [hs7]; exact iI_u (by decide)
  have ws7_103 : iI s7 103 = iI s3 103 := by rw [hs7]; rfl
  have JEX_s7 : EXl (pX s) (dT 0) [(q1, 8), (q2, 8), (q3, 8)] s7 := by rw [hs7]; exact JEX_s3
  have hF9 : FIL (pX s).length x4 s7 := fil_u Qs3 (fun i j => by rw [hs7]; rfl)
  refine z_const X (show cdA 275 44 = some (.iconst 0, 1, 0, 0, 0) from rfl) ?_
  refine z_store X (lv' := [(5, .int (Int32.ofInt 0)), (0, .ref (A 179)), (2, .ref q1), (3, .ref q2), (4, .ref q3), (1, .int (Int32.ofInt x))]) (show cdA 275 45 = some (.istore 5, 2, 0, 0, 0) from rfl) (by decide) (fun _ h => h) ?_
  refine WS_lv (lv := [(0, .ref (A 179)), (2, .ref q1), (3, .ref q2), (4, .ref q3), (1, .int (Int32.ofInt x)), (5, .int (Int32.ofInt 0))]) (List.forall_mem_cons.mpr ⟨(List.Mem.tail _ (List.Mem.head _)), (List.forall_mem_cons.mpr ⟨(List.Mem.tail _ (List.Mem.tail _ (List.Mem.head _))), (List.forall_mem_cons.mpr ⟨(List.Mem.tail _ (List.Mem.tail _ (List.Mem.tail _ (List.Mem.head _)))), (List.forall_mem_cons.mpr ⟨(List.Mem.tail _ (List.Mem.tail _ (List.Mem.tail _ (List.Mem.tail _ (List.Mem.head _))))), (List.forall_mem_cons.mpr ⟨(List.Mem.tail _ (List.Mem.tail _ (List.Mem.tail _ (List.Mem.tail _ (List.Mem.tail _ (List.Mem.head _)))))), (List.forall_mem_cons.mpr ⟨(List.Mem.head _), (fun q h => absurd h List.not_mem_nil)⟩)⟩)⟩)⟩)⟩)⟩) ?_
  refine L47 ((24 - 0 : Int).toNat + 1) s7 x 0 Is7 Fs7 JEX_s7 (mrn_0 hF9 (by omega) (by omega)) (by first | exact ⟨And.intro (by decide) (And.intro (hs3.1.2.1) (hs3.1.2.2)), by decide, by decide⟩ | omega) (Nat.lt_succ_self _) ?_
  intro s8 x9 Is8 Fs8 JEX_s8 Qs8 hs8
  have b10 : ((-2147483648) : Int) ≤ iI s8 104 ∧ iI s8 104 ≤ 2147483647 := Is8.1 104
  have b11 : (1 : Int) ≤ iI s8 103 ∧ iI s8 103 ≤ 8 := Is8.1 103
  refine ws_forget JEX_s8 ?_
  exact w_vret X.1 q hRt (ax_d X (show cdA 275 353 = some (.return_, 1, 0, 0, 0) from rfl)) (by decide) (by decide) ⟨_, rfl, Is8, fx_end Fs8, rfl, (show MRE (RDM s x) s8 from mrn_e Qs8 (show (x9 : Int).toNat = 24 by omega))⟩
set_option maxRecDepth 4000 in
theorem k_rota7 (G : GX l s0 D tys a0 dT) {U : AirD} {Jn : List Int → Prop} (I : Bd s) (jRLx : RLx s) (jMDJ : MDJ U s) (jMJJ : MJJ Jn s) {x y z : Int} (p0 : rng x) (p1 : rng y) (p2 : rng z) (p3 : iI s 89 = 1) : CT l s0 D A dT 276 (rmN 276) [.ref (A 179), .int (Int32.ofInt x), .int (Int32.ofInt y), .int (Int32.ofInt z)] s (fun o t => Bd t ∧ Fm [73, 89, 104, 77, 75, 78, 79, 80, 81] [161, 202, 203, 204, 205, 206, 207, 208, 209, 210, 211, 212, 213, 214, 215, 216, 217, 218, 219, 220, 221, 222, 223, 224, 225, 226, 227, 230, 395, 396, 245, 246, 247, 248, 249, 250, 251, 252, 253, 254, 255, 256, 257, 258, 259, 260, 261, 262, 263, 264, 265, 266, 267, 268, 269, 270, 271, 272, 273, 274, 275, 276, 277, 278, 279, 280, 281, 282, 283, 284, 285, 286, 287, 288, 289, 290, 291, 292, 293, 294, 295, 296, 297, 298, 299, 300, 301, 302, 303, 304, 305, 306, 307, 308, 309, 310, 311, 312, 313, 314, 315, 316, 317, 318, 319, 320, 321, 322, 323, 324, 325, 326, 327, 328, 329, 330, 331, 332, 333, 334, 335, 336, 337, 338, 339, 340, 341, 342, 343, 344, 345, 346, 347, 348, 349, 350, 351, 352, 353, 354, 355, 356, 357, 358, 359, 360, 361, 362, 363, 364, 365, 366, 367, 368, 369, 370, 371, 372, 373, 374, 375, 376, 377, 378, 379, 380, 381, 382, 383, 384, 385, 386, 387, 388, 389, 390, 391, 392, 393, 394, 397] s t ∧ RLx t ∧ ∃ e, o = .inl (some (.int (Int32.ofInt e))) ∧ rng e ∧ (((1 ≤ x ∧ x ≤ 8) ∧ (0 ≤ y ∧ y ≤ 23) ∧ (0 ≤ z ∧ z ≤ 23) ∧ iI t 73 = 0 ∧ iI t 89 = 1 ∧ RTA (QD U Jn (iI s 99) (iI s 96) (fun j => iC s 237 j) (pfM s) (fun j => iC s 229 j)) (y : Int).toNat x (iI s 102) (iI s 103) (fun p => iC s 398 p) (z : Int).toNat e) ∨ ((x < 1 ∨ 8 < x ∨ y < 0 ∨ 23 < y ∨ z < 0 ∨ 23 < z) ∧ iI t 73 = 1 ∧ iI t 89 = 1))) := by
  refine ct_of G (by decide) (Nat.le_of_ble_eq_true rfl) (fun k X E hRt hXt q => ?_)
  show WS k 0 [(0, .ref (A 179)), (1, .int (Int32.ofInt x)), (2, .int (Int32.ofInt y)), (3, .int (Int32.ofInt z))] [] _ 0 0
  have F : Fm [73, 89, 104, 77, 75, 78, 79, 80, 81] [161, 202, 203, 204, 205, 206, 207, 208, 209, 210, 211, 212, 213, 214, 215, 216, 217, 218, 219, 220, 221, 222, 223, 224, 225, 226, 227, 230, 395, 396, 245, 246, 247, 248, 249, 250, 251, 252, 253, 254, 255, 256, 257, 258, 259, 260, 261, 262, 263, 264, 265, 266, 267, 268, 269, 270, 271, 272, 273, 274, 275, 276, 277, 278, 279, 280, 281, 282, 283, 284, 285, 286, 287, 288, 289, 290, 291, 292, 293, 294, 295, 296, 297, 298, 299, 300, 301, 302, 303, 304, 305, 306, 307, 308, 309, 310, 311, 312, 313, 314, 315, 316, 317, 318, 319, 320, 321, 322, 323, 324, 325, 326, 327, 328, 329, 330, 331, 332, 333, 334, 335, 336, 337, 338, 339, 340, 341, 342, 343, 344, 345, 346, 347, 348, 349, 350, 351, 352, 353, 354, 355, 356, 357, 358, 359, 360, 361, 362, 363, 364, 365, 366, 367, 368, 369, 370, 371, 372, 373, 374, 375, 376, 377, 378, 379, 380, 381, 382, 383, 384, 385, 386, 387, 388, 389, 390, 391, 392, 393, 394, 397] s s := fm_rf _ _ s
  have b1 : (0 : Int) ≤ iI s 73 ∧ iI s 73 ≤ 3 := I.1 73
  have b2 : (0 : Int) ≤ iI s 99 ∧ iI s 99 ≤ 6 := I.1 99
  have b3 : (1 : Int) ≤ iI s 89 ∧ iI s 89 ≤ 8 := I.1 89
  have b4 : (0 : Int) ≤ iI s 96 ∧ iI s 96 ≤ 100000 := I.1 96
  have b5 : ((-2147483648) : Int) ≤ iI s 104 ∧ iI s 104 ≤ 2147483647 := I.1 104
  refine z_aload_n X (x := A 179) (show cdA 276 0 = some (.aload_n 0, 1, 0, 0, 0) from rfl) (List.Mem.head _) ?_
  refine z_const X (show cdA 276 1 = some (.iconst 0, 1, 0, 0, 0) from rfl) ?_
  refine s_putI X 179 (show cdA 276 2 = some (.putfield 172, 3, 12, 0, 0) from rfl) (by decide) rfl rfl (by decide) rfl rfl rfl ?_
  obtain ⟨s6, hs6⟩ : ∃ x0, x0 = uI s 73 (Int32.ofInt 0) := ⟨_, rfl⟩
  rw [← hs6]
  have Is6 : Bd s6 := by rw [hs6]; exact bd_I I (show (0 : Int) ≤ 0 ∧ 0 ≤ 3 by first | exact ⟨by decide, by decide⟩ | omega) (by decide)
  have Fs6 := fm_I (x := Int32.ofInt 0) F (show 73 ∈ _ by decide)
  rw [← hs6] at Fs6
  have vs6 : iI s6 73 = 0 := by rw [hs6]; exact iI_u (by decide)
  have ws6_99 : iI s6 99 = iI s 99 := by rw [hs6]; rfl
  have ws6_89 : iI s6 89 = iI s 89 := by rw [hs6]; rfl
  have ws6_96 : iI s6 96 = iI s 96 := by rw [hs6]; rfl
  have ws6_104 : iI s6 104 = iI s 104 := by rw [hs6]; rfl
  have fs6 : Fm [73] [] s s6 := by rw [hs6]; exact fm_I (fm_rf _ _ _) (show 73 ∈ _ by decide)
  have JRLx_s6 : RLx s6 := RLx_fm fs6 (by decide) jRLx
  have JMDJ_s6 : MDJ U s6 := MDJ_fm fs6 (by decide) jMDJ
  have JMJJ_s6 : MJJ Jn s6 := MJJ_fm fs6 (by decide) jMJJ
  refine z_aload_n X (x := A 179) (show cdA 276 5 = some (.aload_n 0, 1, 0, 0, 0) from rfl) (List.Mem.head _) ?_
  refine z_load_n X (x := x) (show cdA 276 6 = some (.iload_n 1, 1, 0, 0, 0) from rfl) (List.Mem.tail _ (List.Mem.head _)) ?_
  refine z_const X (show cdA 276 7 = some (.iconst 1, 1, 0, 0, 0) from rfl) ?_
  refine z_bipush X (show cdA 276 8 = some (.bipush 8, 2, 0, 0, 8) from rfl) ?_
  refine z_callS X (rm := rmN 188) (As := [.int (Int32.ofInt x), .int (Int32.ofInt 1), .int (Int32.ofInt 8)]) (st := [.ref (A 179)]) (show cdA 276 10 = some (.invokestatic 209, 3, 188, 1, 0) from rfl) rfl (by rw [E.1, E.2.1, E.2.2.1]; exact k_in2 G Is6 (by first | exact ⟨p0.1, p0.2⟩ | omega) (by first | exact ⟨by decide, by decide⟩ | omega) (by first | exact ⟨by decide, by decide⟩ | omega)) ⟨by rw [E.2.2.2]; exact (show (rmN 188).frames + 1 ≤ (rmN 276).frames by decide), by rw [E.2.2.2]; exact (show 8 + (mNL (miB 188) + 11) + (rmN 188).locals ≤ (rmN 276).locals by decide), by rw [E.2.2.2]; exact (show 0 + (rmN 188).cells ≤ (rmN 276).cells by decide), by rw [E.2.2.2]; exact (show 0 + (rmN 188).slots ≤ (rmN 276).slots by decide)⟩ (Nat.le_of_ble_eq_true rfl) (fun vv s7 hq => ?_) (fun ee s7 hq => ?_)
  rotate_left
  · obtain ⟨rfl, e8, hv, hrs7, hps7⟩ := hq; cases hv
  obtain ⟨rfl, e8, hv, hrs7, hps7⟩ := hq
  cases hv
  show WS k 13 [(0, .ref (A 179)), (1, .int (Int32.ofInt x)), (2, .int (Int32.ofInt y)), (3, .int (Int32.ofInt z))] [.int (Int32.ofInt e8), .ref (A 179)] (Wd A dT s6) 0 0
  refine z_if_eq X (t := 36) (show cdA 276 13 = some (.ifCond .eq 23, 3, 0, 0, 0) from rfl) (by decide) hrs7 (fun g9 => ?_) (fun g9 => ?_)
  ·
    refine z_const X (show cdA 276 36 = some (.iconst 1, 1, 0, 0, 0) from rfl) ?_
    refine z_goto X (t := 41) (show cdA 276 37 = some (.goto 4, 3, 0, 0, 0) from rfl) (by decide) ?_
    refine z_const X (show cdA 276 41 = some (.iconst 1, 1, 0, 0, 0) from rfl) ?_
    refine z_callV X 179 (rm := rmN 187) (As := [.int (Int32.ofInt 1), .int (Int32.ofInt 1)]) (st := []) (show cdA 276 42 = some (.invokevirtual 229, 3, 187, 0, 0) from rfl) rfl (by decide) rfl (by rw [E.1, E.2.1, E.2.2.1]; exact k_bad2 G Is6 (by first | exact Or.inr (by decide) | omega) (by first | exact ⟨by decide, by decide⟩ | omega)) ⟨by rw [E.2.2.2]; exact (show (rmN 187).frames + 1 ≤ (rmN 276).frames by decide), by rw [E.2.2.2]; exact (show 8 + (mNL (miB 187) + 11) + (rmN 187).locals ≤ (rmN 276).locals by decide), by rw [E.2.2.2]; exact (show 0 + (rmN 187).cells ≤ (rmN 276).cells by decide), by rw [E.2.2.2]; exact (show 0 + (rmN 187).slots ≤ (rmN 276).slots by decide)⟩ (Nat.le_of_ble_eq_true rfl) (fun vv s10 hq => ?_) (fun ee s10 hq => ?_)
    rotate_left
    · obtain ⟨Is10, Fs10, e11, hv, hrs10, hps10⟩ := hq; cases hv
    obtain ⟨Is10, Fs10, e11, hv, hrs10, hps10⟩ := hq
    cases hv
    have Gs10 := fm_ts Fs6 Fs10 (by decide) (by decide)
    have JRLx_s10 : RLx s10 := RLx_fm Fs10 (by decide) JRLx_s6
    have JMDJ_s10 : MDJ U s10 := MDJ_fm Fs10 (by decide) JMDJ_s6
    have JMJJ_s10 : MJJ Jn s10 := MJJ_fm Fs10 (by decide) JMJJ_s6
    have b12 : (0 : Int) ≤ iI s10 73 ∧ iI s10 73 ≤ 3 := Is10.1 73
    have ws10_99 : iI s10 99 = iI s6 99 := fm_i Fs10 (by decide)
    have ws10_89 : iI s10 89 = iI s6 89 := fm_i Fs10 (by decide)
    have ws10_96 : iI s10 96 = iI s6 96 := fm_i Fs10 (by decide)
    have ws10_104 : iI s10 104 = iI s6 104 := fm_i Fs10 (by decide)
    show WS k 45 [(0, .ref (A 179)), (1, .int (Int32.ofInt x)), (2, .int (Int32.ofInt y)), (3, .int (Int32.ofInt z))] [.int (Int32.ofInt e11)] (Wd A dT s10) 0 0
    refine z_if_eq X (t := 50) (show cdA 276 45 = some (.ifCond .eq 5, 3, 0, 0, 0) from rfl) (by decide) hrs10 (fun g13 => ?_) (fun g13 => ?_)
    ·
      refine z_aload_n X (x := A 179) (show cdA 276 50 = some (.aload_n 0, 1, 0, 0, 0) from rfl) (List.Mem.head _) ?_
      refine z_load_n X (x := y) (show cdA 276 51 = some (.iload_n 2, 1, 0, 0, 0) from rfl) (List.Mem.tail _ (List.Mem.tail _ (List.Mem.head _))) ?_
      refine z_callV X 179 (rm := rmN 270) (As := [.int (Int32.ofInt y)]) (st := []) (show cdA 276 52 = some (.invokevirtual 422, 3, 270, 0, 0) from rfl) rfl (by decide) rfl (by rw [E.1, E.2.1, E.2.2.1]; exact k_findPlan7 G Is10 JRLx_s10 JMDJ_s10 JMJJ_s10 (by first | exact ⟨oq_674898f9 g13 hps10 vs6, oq_48516caf g13 hps10 vs6⟩ | omega) (by first | exact oq_f34933ba ws10_89 ws6_89 p3 b3.1 | omega)) ⟨by rw [E.2.2.2]; exact (show (rmN 270).frames + 1 ≤ (rmN 276).frames by decide), by rw [E.2.2.2]; exact (show 8 + (mNL (miB 270) + 11) + (rmN 270).locals ≤ (rmN 276).locals by decide), by rw [E.2.2.2]; exact (show 0 + (rmN 270).cells ≤ (rmN 276).cells by decide), by rw [E.2.2.2]; exact (show 0 + (rmN 270).slots ≤ (rmN 276).slots by decide)⟩ (Nat.le_of_ble_eq_true rfl) (fun vv s14 hq => ?_) (fun ee s14 hq => ?_)
      rotate_left
      · obtain ⟨Is14, Fs14, JRLx_s14, e15, hv, hrs14, hps14⟩ := hq; cases hv
      obtain ⟨Is14, Fs14, JRLx_s14, e15, hv, hrs14, hps14⟩ := hq
      cases hv
      have Gs14 := fm_ts Gs10 Fs14 (by decide) (by decide +kernel)
      have JRLx_s14 : RLx s14 := RLx_fm Fs14 (by decide) JRLx_s10
      have JMDJ_s14 : MDJ U s14 := MDJ_fm Fs14 (by decide) JMDJ_s10
      have JMJJ_s14 : MJJ Jn s14 := MJJ_fm Fs14 (by decide) JMJJ_s10
      have ws14_73 : iI s14 73 = iI s10 73 := fm_i Fs14 (by decide)
      have ws14_99 : iI s14 99 = iI s10 99 := fm_i Fs14 (by decide)
      have b16 : (1 : Int) ≤ iI s14 89 ∧ iI s14 89 ≤ 8 := Is14.1 89
      have ws14_96 : iI s14 96 = iI s10 96 := fm_i Fs14 (by decide)
      have ws14_104 : iI s14 104 = iI s10 104 := fm_i Fs14 (by decide)
      show WS k 55 [(0, .ref (A 179)), (1, .int (Int32.ofInt x)), (2, .int (Int32.ofInt y)), (3, .int (Int32.ofInt z))] [.int (Int32.ofInt e15)] (Wd A dT s14) 0 0
      have eQ : (QD U Jn (iI s10 99) (iI s10 96) (fun j => iC s10 237 j) (pfM s10) (fun j => iC s10 229 j)) = (QD U Jn (iI s 99) (iI s 96) (fun j => iC s 237 j) (pfM s) (fun j => iC s 229 j)) := qd_c (by omega) (by omega) (fun j _ => fm_c Gs10 (by decide)) (fun j _ => fm_c Gs10 (by decide)) (fun j _ => fm_c Gs10 (by decide))
      have hj := hps14
      rw [eQ] at hj
      refine z_if_ne X (t := 60) (show cdA 276 55 = some (.ifCond .ne 5, 3, 1, 0, 0) from rfl) (by decide) hrs14 (fun g17 => ?_) (fun g17 => ?_)
      ·
        refine z_aload_n X (x := A 179) (show cdA 276 60 = some (.aload_n 0, 1, 0, 0, 0) from rfl) (List.Mem.head _) ?_
        refine z_load_n X (x := x) (show cdA 276 61 = some (.iload_n 1, 1, 0, 0, 0) from rfl) (List.Mem.tail _ (List.Mem.head _)) ?_
        refine z_callV X 179 (rm := rmN 275) (As := [.int (Int32.ofInt x)]) (st := []) (show cdA 276 62 = some (.invokevirtual 428, 3, 275, 0, 0) from rfl) rfl (by decide) rfl (by rw [E.1, E.2.1, E.2.2.1]; exact k_findRota7 G Is14 (by first | exact ⟨oq_9b39ac49 g13 hps10 vs6, oq_e5a72ab8 g13 hps10 vs6⟩ | omega) ((nde_r (nde_m hj.2.2 (by omega)) qd_n))) ⟨by rw [E.2.2.2]; exact (show (rmN 275).frames + 1 ≤ (rmN 276).frames by decide), by rw [E.2.2.2]; exact (show 8 + (mNL (miB 275) + 11) + (rmN 275).locals ≤ (rmN 276).locals by decide), by rw [E.2.2.2]; exact (show 0 + 3 ≤ 3 by omega), by rw [E.2.2.2]; exact (show 0 + 24 ≤ 24 by omega)⟩ (Nat.le_of_ble_eq_true rfl) (fun vv s18 hq => ?_) (fun ee s18 hq => ?_)
        rotate_left
        · obtain ⟨Is18, Fs18, hv, hps18⟩ := hq; cases hv
        obtain ⟨Is18, Fs18, hv, hps18⟩ := hq
        cases hv
        have Gs18 := fm_ts Gs14 Fs18 (by decide) (by decide)
        have JRLx_s18 : RLx s18 := RLx_fm Fs18 (by decide) JRLx_s14
        have JMDJ_s18 : MDJ U s18 := MDJ_fm Fs18 (by decide) JMDJ_s14
        have JMJJ_s18 : MJJ Jn s18 := MJJ_fm Fs18 (by decide) JMJJ_s14
        have ws18_73 : iI s18 73 = iI s14 73 := fm_i Fs18 (by decide)
        have ws18_99 : iI s18 99 = iI s14 99 := fm_i Fs18 (by decide)
        have ws18_89 : iI s18 89 = iI s14 89 := fm_i Fs18 (by decide)
        have ws18_96 : iI s18 96 = iI s14 96 := fm_i Fs18 (by decide)
        have b20 : ((-2147483648) : Int) ≤ iI s18 104 ∧ iI s18 104 ≤ 2147483647 := Is18.1 104
        show WS k 65 [(0, .ref (A 179)), (1, .int (Int32.ofInt x)), (2, .int (Int32.ofInt y)), (3, .int (Int32.ofInt z))] [] (Wd A dT s18) 3 24
        refine z_aload_n X (x := A 179) (show cdA 276 65 = some (.aload_n 0, 1, 0, 0, 0) from rfl) (List.Mem.head _) ?_
        refine s_getR X 179 (show cdA 276 66 = some (.getfield 127, 3, 12, 62, 0) from rfl) (by decide) rfl rfl ?_
        refine z_load_n X (x := z) (show cdA 276 69 = some (.iload_n 3, 1, 0, 0, 0) from rfl) (List.Mem.tail _ (List.Mem.tail _ (List.Mem.tail _ (List.Mem.head _)))) ?_
        refine z_ald X 452 (show cdA 276 70 = some (.iaload, 1, 0, 0, 0) from rfl) (by decide) rfl (by first | exact oq_674898f9 g13 hps10 vs6 | omega) (show z < 24 by first | exact oq_43137565 g13 hps10 vs6 | omega) (by decide) ?_
        have b21 : (0 : Int) ≤ iC s18 397 (z).toNat ∧ iC s18 397 (z).toNat ≤ 255 := Is18.2 397 _ (show (z).toNat < 24 by first | exact oq_a80f8023 g13 hps10 vs6 | omega)
        exact w_iret X.1 q hRt rfl (ax_d X (show cdA 276 71 = some (.ireturn, 1, 0, 0, 0) from rfl)) (show 3 ≤ 3 by omega) (show 24 ≤ 24 by omega) ⟨_, rfl, Is18, Gs18, JRLx_s18, (iC s18 397 (z).toNat), rfl, (rng_to _), Or.inl ⟨by first | exact ⟨oq_9b39ac49 g13 hps10 vs6, oq_e5a72ab8 g13 hps10 vs6⟩ | omega, by first | exact ⟨oq_674898f9 g13 hps10 vs6, oq_48516caf g13 hps10 vs6⟩ | omega, by first | exact ⟨oq_674898f9 g13 hps10 vs6, oq_48516caf g13 hps10 vs6⟩ | omega, by first | exact oq_300138af ws18_73 ws14_73 g13 b12.1 hps10 vs6 | omega, by first | exact oq_f2ff104a g13 hps10 vs6 | omega, rta_m hj.2.2 (by omega) hps18 (show iI s14 102 = iI s 102 from fm_i Gs14 (by decide)) (show iI s14 103 = iI s 103 from fm_i Gs14 (by decide)) (fun p => show iC s14 398 p = iC s 398 p from fm_c Gs14 (by decide)) (by omega) rfl⟩⟩
      ·
        refine z_const X (show cdA 276 58 = some (.iconst (-1), 1, 0, 0, 0) from rfl) ?_
        exact w_iret X.1 q hRt rfl (ax_d X (show cdA 276 59 = some (.ireturn, 1, 0, 0, 0) from rfl)) (Nat.zero_le _) (Nat.zero_le _) ⟨_, rfl, Is14, Gs14, JRLx_s14, (-1), rfl, (by decide), Or.inl ⟨by first | exact ⟨oq_9b39ac49 g13 hps10 vs6, oq_e5a72ab8 g13 hps10 vs6⟩ | omega, by first | exact ⟨oq_674898f9 g13 hps10 vs6, oq_48516caf g13 hps10 vs6⟩ | omega, by first | exact ⟨oq_674898f9 g13 hps10 vs6, oq_48516caf g13 hps10 vs6⟩ | omega, by first | exact oq_8c407924 ws14_73 g13 b12.1 hps10 vs6 | omega, by first | exact oq_f2ff104a g13 hps10 vs6 | omega, Or.inl ⟨rfl, plt_no hj.2.2 (by omega)⟩⟩⟩
    ·
      refine z_const X (show cdA 276 48 = some (.iconst 0, 1, 0, 0, 0) from rfl) ?_
      exact w_iret X.1 q hRt rfl (ax_d X (show cdA 276 49 = some (.ireturn, 1, 0, 0, 0) from rfl)) (Nat.zero_le _) (Nat.zero_le _) ⟨_, rfl, Is10, Gs10, JRLx_s10, 0, rfl, (by decide), Or.inr ⟨by first | exact oq_1f063acf g9 hps7 | omega, by first | exact oq_faabd673 g13 hps10 vs6 | omega, by first | exact oq_f34933ba ws10_89 ws6_89 p3 b3.1 | omega⟩⟩
  ·
    refine z_load_n X (x := y) (show cdA 276 16 = some (.iload_n 2, 1, 0, 0, 0) from rfl) (List.Mem.tail _ (List.Mem.tail _ (List.Mem.head _))) ?_
    refine z_const X (show cdA 276 17 = some (.iconst 0, 1, 0, 0, 0) from rfl) ?_
    refine z_bipush X (show cdA 276 18 = some (.bipush 23, 2, 0, 0, 23) from rfl) ?_
    refine z_callS X (rm := rmN 188) (As := [.int (Int32.ofInt y), .int (Int32.ofInt 0), .int (Int32.ofInt 23)]) (st := [.ref (A 179)]) (show cdA 276 20 = some (.invokestatic 209, 3, 188, 1, 0) from rfl) rfl (by rw [E.1, E.2.1, E.2.2.1]; exact k_in2 G Is6 (by first | exact ⟨p1.1, p1.2⟩ | omega) (by first | exact ⟨by decide, by decide⟩ | omega) (by first | exact ⟨by decide, by decide⟩ | omega)) ⟨by rw [E.2.2.2]; exact (show (rmN 188).frames + 1 ≤ (rmN 276).frames by decide), by rw [E.2.2.2]; exact (show 8 + (mNL (miB 188) + 11) + (rmN 188).locals ≤ (rmN 276).locals by decide), by rw [E.2.2.2]; exact (show 0 + (rmN 188).cells ≤ (rmN 276).cells by decide), by rw [E.2.2.2]; exact (show 0 + (rmN 188).slots ≤ (rmN 276).slots by decide)⟩ (Nat.le_of_ble_eq_true rfl) (fun vv s22 hq => ?_) (fun ee s22 hq => ?_)
    rotate_left
    · obtain ⟨rfl, e23, hv, hrs22, hps22⟩ := hq; cases hv
    obtain ⟨rfl, e23, hv, hrs22, hps22⟩ := hq
    cases hv
    show WS k 23 [(0, .ref (A 179)), (1, .int (Int32.ofInt x)), (2, .int (Int32.ofInt y)), (3, .int (Int32.ofInt z))] [.int (Int32.ofInt e23), .ref (A 179)] (Wd A dT s6) 0 0
    refine z_if_eq X (t := 36) (show cdA 276 23 = some (.ifCond .eq 13, 3, 0, 0, 0) from rfl) (by decide) hrs22 (fun g24 => ?_) (fun g24 => ?_)
    ·
      refine z_const X (show cdA 276 36 = some (.iconst 1, 1, 0, 0, 0) from rfl) ?_
      refine z_goto X (t := 41) (show cdA 276 37 = some (.goto 4, 3, 0, 0, 0) from rfl) (by decide) ?_
      refine z_const X (show cdA 276 41 = some (.iconst 1, 1, 0, 0, 0) from rfl) ?_
      refine z_callV X 179 (rm := rmN 187) (As := [.int (Int32.ofInt 1), .int (Int32.ofInt 1)]) (st := []) (show cdA 276 42 = some (.invokevirtual 229, 3, 187, 0, 0) from rfl) rfl (by decide) rfl (by rw [E.1, E.2.1, E.2.2.1]; exact k_bad2 G Is6 (by first | exact Or.inr (by decide) | omega) (by first | exact ⟨by decide, by decide⟩ | omega)) ⟨by rw [E.2.2.2]; exact (show (rmN 187).frames + 1 ≤ (rmN 276).frames by decide), by rw [E.2.2.2]; exact (show 8 + (mNL (miB 187) + 11) + (rmN 187).locals ≤ (rmN 276).locals by decide), by rw [E.2.2.2]; exact (show 0 + (rmN 187).cells ≤ (rmN 276).cells by decide), by rw [E.2.2.2]; exact (show 0 + (rmN 187).slots ≤ (rmN 276).slots by decide)⟩ (Nat.le_of_ble_eq_true rfl) (fun vv s25 hq => ?_) (fun ee s25 hq => ?_)
      rotate_left
      · obtain ⟨Is25, Fs25, e26, hv, hrs25, hps25⟩ := hq; cases hv
      obtain ⟨Is25, Fs25, e26, hv, hrs25, hps25⟩ := hq
      cases hv
      have Gs25 := fm_ts Fs6 Fs25 (by decide) (by decide)
      have JRLx_s25 : RLx s25 := RLx_fm Fs25 (by decide) JRLx_s6
      have JMDJ_s25 : MDJ U s25 := MDJ_fm Fs25 (by decide) JMDJ_s6
      have JMJJ_s25 : MJJ Jn s25 := MJJ_fm Fs25 (by decide) JMJJ_s6
      have b27 : (0 : Int) ≤ iI s25 73 ∧ iI s25 73 ≤ 3 := Is25.1 73
      have ws25_99 : iI s25 99 = iI s6 99 := fm_i Fs25 (by decide)
      have ws25_89 : iI s25 89 = iI s6 89 := fm_i Fs25 (by decide)
      have ws25_96 : iI s25 96 = iI s6 96 := fm_i Fs25 (by decide)
      have ws25_104 : iI s25 104 = iI s6 104 := fm_i Fs25 (by decide)
      show WS k 45 [(0, .ref (A 179)), (1, .int (Int32.ofInt x)), (2, .int (Int32.ofInt y)), (3, .int (Int32.ofInt z))] [.int (Int32.ofInt e26)] (Wd A dT s25) 0 0
      refine z_if_eq X (t := 50) (show cdA 276 45 = some (.ifCond .eq 5, 3, 0, 0, 0) from rfl) (by decide) hrs25 (fun g28 => ?_) (fun g28 => ?_)
      ·
        refine z_aload_n X (x := A 179) (show cdA 276 50 = some (.aload_n 0, 1, 0, 0, 0) from rfl) (List.Mem.head _) ?_
        refine z_load_n X (x := y) (show cdA 276 51 = some (.iload_n 2, 1, 0, 0, 0) from rfl) (List.Mem.tail _ (List.Mem.tail _ (List.Mem.head _))) ?_
        refine z_callV X 179 (rm := rmN 270) (As := [.int (Int32.ofInt y)]) (st := []) (show cdA 276 52 = some (.invokevirtual 422, 3, 270, 0, 0) from rfl) rfl (by decide) rfl (by rw [E.1, E.2.1, E.2.2.1]; exact k_findPlan7 G Is25 JRLx_s25 JMDJ_s25 JMJJ_s25 (by first | exact ⟨oq_674898f9 g28 hps25 vs6, oq_48516caf g28 hps25 vs6⟩ | omega) (by first | exact oq_f34933ba ws25_89 ws6_89 p3 b3.1 | omega)) ⟨by rw [E.2.2.2]; exact (show (rmN 270).frames + 1 ≤ (rmN 276).frames by decide), by rw [E.2.2.2]; exact (show 8 + (mNL (miB 270) + 11) + (rmN 270).locals ≤ (rmN 276).locals by decide), by rw [E.2.2.2]; exact (show 0 + (rmN 270).cells ≤ (rmN 276).cells by decide), by rw [E.2.2.2]; exact (show 0 + (rmN 270).slots ≤ (rmN 276).slots by decide)⟩ (Nat.le_of_ble_eq_true rfl) (fun vv s29 hq => ?_) (fun ee s29 hq => ?_)
        rotate_left
        · obtain ⟨Is29, Fs29, JRLx_s29, e30, hv, hrs29, hps29⟩ := hq; cases hv
        obtain ⟨Is29, Fs29, JRLx_s29, e30, hv, hrs29, hps29⟩ := hq
        cases hv
        have Gs29 := fm_ts Gs25 Fs29 (by decide) (by decide +kernel)
        have JRLx_s29 : RLx s29 := RLx_fm Fs29 (by decide) JRLx_s25
        have JMDJ_s29 : MDJ U s29 := MDJ_fm Fs29 (by decide) JMDJ_s25
        have JMJJ_s29 : MJJ Jn s29 := MJJ_fm Fs29 (by decide) JMJJ_s25
        have ws29_73 : iI s29 73 = iI s25 73 := fm_i Fs29 (by decide)
        have ws29_99 : iI s29 99 = iI s25 99 := fm_i Fs29 (by decide)
        have b31 : (1 : Int) ≤ iI s29 89 ∧ iI s29 89 ≤ 8 := Is29.1 89
        have ws29_96 : iI s29 96 = iI s25 96 := fm_i Fs29 (by decide)
        have ws29_104 : iI s29 104 = iI s25 104 := fm_i Fs29 (by decide)
        show WS k 55 [(0, .ref (A 179)), (1, .int (Int32.ofInt x)), (2, .int (Int32.ofInt y)), (3, .int (Int32.ofInt z))] [.int (Int32.ofInt e30)] (Wd A dT s29) 0 0
        have eQ : (QD U Jn (iI s25 99) (iI s25 96) (fun j => iC s25 237 j) (pfM s25) (fun j => iC s25 229 j)) = (QD U Jn (iI s 99) (iI s 96) (fun j => iC s 237 j) (pfM s) (fun j => iC s 229 j)) := qd_c (by omega) (by omega) (fun j _ => fm_c Gs25 (by decide)) (fun j _ => fm_c Gs25 (by decide)) (fun j _ => fm_c Gs25 (by decide))
        have hj := hps29
        rw [eQ] at hj
        refine z_if_ne X (t := 60) (show cdA 276 55 = some (.ifCond .ne 5, 3, 1, 0, 0) from rfl) (by decide) hrs29 (fun g32 => ?_) (fun g32 => ?_)
        ·
          refine z_aload_n X (x := A 179) (show cdA 276 60 = some (.aload_n 0, 1, 0, 0, 0) from rfl) (List.Mem.head _) ?_
          refine z_load_n X (x := x) (show cdA 276 61 = some (.iload_n 1, 1, 0, 0, 0) from rfl) (List.Mem.tail _ (List.Mem.head _)) ?_
          refine z_callV X 179 (rm := rmN 275) (As := [.int (Int32.ofInt x)]) (st := []) (show cdA 276 62 = some (.invokevirtual 428, 3, 275, 0, 0) from rfl) rfl (by decide) rfl (by rw [E.1, E.2.1, E.2.2.1]; exact k_findRota7 G Is29 (by first | exact ⟨oq_fcd95e52 g9 hps7, oq_7e545af9 g9 hps7⟩ | omega) ((nde_r (nde_m hj.2.2 (by omega)) qd_n))) ⟨by rw [E.2.2.2]; exact (show (rmN 275).frames + 1 ≤ (rmN 276).frames by decide), by rw [E.2.2.2]; exact (show 8 + (mNL (miB 275) + 11) + (rmN 275).locals ≤ (rmN 276).locals by decide), by rw [E.2.2.2]; exact (show 0 + 3 ≤ 3 by omega), by rw [E.2.2.2]; exact (show 0 + 24 ≤ 24 by omega)⟩ (Nat.le_of_ble_eq_true rfl) (fun vv s33 hq => ?_) (fun ee s33 hq => ?_)
          rotate_left
          · obtain ⟨Is33, Fs33, hv, hps33⟩ := hq; cases hv
          obtain ⟨Is33, Fs33, hv, hps33⟩ := hq
          cases hv
          have Gs33 := fm_ts Gs29 Fs33 (by decide) (by decide)
          have JRLx_s33 : RLx s33 := RLx_fm Fs33 (by decide) JRLx_s29
          have JMDJ_s33 : MDJ U s33 := MDJ_fm Fs33 (by decide) JMDJ_s29
          have JMJJ_s33 : MJJ Jn s33 := MJJ_fm Fs33 (by decide) JMJJ_s29
          have ws33_73 : iI s33 73 = iI s29 73 := fm_i Fs33 (by decide)
          have ws33_99 : iI s33 99 = iI s29 99 := fm_i Fs33 (by decide)
          have ws33_89 : iI s33 89 = iI s29 89 := fm_i Fs33 (by decide)
          have ws33_96 : iI s33 96 = iI s29 96 := fm_i Fs33 (by decide)
          have b35 : ((-2147483648) : Int) ≤ iI s33 104 ∧ iI s33 104 ≤ 2147483647 := Is33.1 104
          show WS k 65 [(0, .ref (A 179)), (1, .int (Int32.ofInt x)), (2, .int (Int32.ofInt y)), (3, .int (Int32.ofInt z))] [] (Wd A dT s33) 3 24
          refine z_aload_n X (x := A 179) (show cdA 276 65 = some (.aload_n 0, 1, 0, 0, 0) from rfl) (List.Mem.head _) ?_
          refine s_getR X 179 (show cdA 276 66 = some (.getfield 127, 3, 12, 62, 0) from rfl) (by decide) rfl rfl ?_
          refine z_load_n X (x := z) (show cdA 276 69 = some (.iload_n 3, 1, 0, 0, 0) from rfl) (List.Mem.tail _ (List.Mem.tail _ (List.Mem.tail _ (List.Mem.head _)))) ?_
          refine z_ald X 452 (show cdA 276 70 = some (.iaload, 1, 0, 0, 0) from rfl) (by decide) rfl (by first | exact oq_674898f9 g28 hps25 vs6 | omega) (show z < 24 by first | exact oq_43137565 g28 hps25 vs6 | omega) (by decide) ?_
          have b36 : (0 : Int) ≤ iC s33 397 (z).toNat ∧ iC s33 397 (z).toNat ≤ 255 := Is33.2 397 _ (show (z).toNat < 24 by first | exact oq_a80f8023 g28 hps25 vs6 | omega)
          exact w_iret X.1 q hRt rfl (ax_d X (show cdA 276 71 = some (.ireturn, 1, 0, 0, 0) from rfl)) (show 3 ≤ 3 by omega) (show 24 ≤ 24 by omega) ⟨_, rfl, Is33, Gs33, JRLx_s33, (iC s33 397 (z).toNat), rfl, (rng_to _), Or.inl ⟨by first | exact ⟨oq_fcd95e52 g9 hps7, oq_7e545af9 g9 hps7⟩ | omega, by first | exact ⟨oq_674898f9 g28 hps25 vs6, oq_48516caf g28 hps25 vs6⟩ | omega, by first | exact ⟨oq_674898f9 g28 hps25 vs6, oq_48516caf g28 hps25 vs6⟩ | omega, by first | exact oq_300138af ws33_73 ws29_73 g28 b27.1 hps25 vs6 | omega, by first | exact oq_f2ff104a g28 hps25 vs6 | omega, rta_m hj.2.2 (by omega) hps33 (show iI s29 102 = iI s 102 from fm_i Gs29 (by decide)) (show iI s29 103 = iI s 103 from fm_i Gs29 (by decide)) (fun p => show iC s29 398 p = iC s 398 p from fm_c Gs29 (by decide)) (by omega) rfl⟩⟩
        ·
          refine z_const X (show cdA 276 58 = some (.iconst (-1), 1, 0, 0, 0) from rfl) ?_
          exact w_iret X.1 q hRt rfl (ax_d X (show cdA 276 59 = some (.ireturn, 1, 0, 0, 0) from rfl)) (Nat.zero_le _) (Nat.zero_le _) ⟨_, rfl, Is29, Gs29, JRLx_s29, (-1), rfl, (by decide), Or.inl ⟨by first | exact ⟨oq_fcd95e52 g9 hps7, oq_7e545af9 g9 hps7⟩ | omega, by first | exact ⟨oq_674898f9 g28 hps25 vs6, oq_48516caf g28 hps25 vs6⟩ | omega, by first | exact ⟨oq_674898f9 g28 hps25 vs6, oq_48516caf g28 hps25 vs6⟩ | omega, by first | exact oq_8c407924 ws29_73 g28 b27.1 hps25 vs6 | omega, by first | exact oq_f2ff104a g28 hps25 vs6 | omega, Or.inl ⟨rfl, plt_no hj.2.2 (by omega)⟩⟩⟩
      ·
        refine z_const X (show cdA 276 48 = some (.iconst 0, 1, 0, 0, 0) from rfl) ?_
        exact w_iret X.1 q hRt rfl (ax_d X (show cdA 276 49 = some (.ireturn, 1, 0, 0, 0) from rfl)) (Nat.zero_le _) (Nat.zero_le _) ⟨_, rfl, Is25, Gs25, JRLx_s25, 0, rfl, (by decide), Or.inr ⟨by first | exact oq_97b9d87d g24 hps22 | omega, by first | exact oq_faabd673 g28 hps25 vs6 | omega, by first | exact oq_f34933ba ws25_89 ws6_89 p3 b3.1 | omega⟩⟩
    ·
      refine z_load_n X (x := z) (show cdA 276 26 = some (.iload_n 3, 1, 0, 0, 0) from rfl) (List.Mem.tail _ (List.Mem.tail _ (List.Mem.tail _ (List.Mem.head _)))) ?_
      refine z_const X (show cdA 276 27 = some (.iconst 0, 1, 0, 0, 0) from rfl) ?_
      refine z_bipush X (show cdA 276 28 = some (.bipush 23, 2, 0, 0, 23) from rfl) ?_
      refine z_callS X (rm := rmN 188) (As := [.int (Int32.ofInt z), .int (Int32.ofInt 0), .int (Int32.ofInt 23)]) (st := [.ref (A 179)]) (show cdA 276 30 = some (.invokestatic 209, 3, 188, 1, 0) from rfl) rfl (by rw [E.1, E.2.1, E.2.2.1]; exact k_in2 G Is6 (by first | exact ⟨p2.1, p2.2⟩ | omega) (by first | exact ⟨by decide, by decide⟩ | omega) (by first | exact ⟨by decide, by decide⟩ | omega)) ⟨by rw [E.2.2.2]; exact (show (rmN 188).frames + 1 ≤ (rmN 276).frames by decide), by rw [E.2.2.2]; exact (show 8 + (mNL (miB 188) + 11) + (rmN 188).locals ≤ (rmN 276).locals by decide), by rw [E.2.2.2]; exact (show 0 + (rmN 188).cells ≤ (rmN 276).cells by decide), by rw [E.2.2.2]; exact (show 0 + (rmN 188).slots ≤ (rmN 276).slots by decide)⟩ (Nat.le_of_ble_eq_true rfl) (fun vv s37 hq => ?_) (fun ee s37 hq => ?_)
      rotate_left
      · obtain ⟨rfl, e38, hv, hrs37, hps37⟩ := hq; cases hv
      obtain ⟨rfl, e38, hv, hrs37, hps37⟩ := hq
      cases hv
      show WS k 33 [(0, .ref (A 179)), (1, .int (Int32.ofInt x)), (2, .int (Int32.ofInt y)), (3, .int (Int32.ofInt z))] [.int (Int32.ofInt e38), .ref (A 179)] (Wd A dT s6) 0 0
      refine z_if_ne X (t := 40) (show cdA 276 33 = some (.ifCond .ne 7, 3, 1, 0, 0) from rfl) (by decide) hrs37 (fun g39 => ?_) (fun g39 => ?_)
      ·
        refine z_const X (show cdA 276 40 = some (.iconst 0, 1, 0, 0, 0) from rfl) ?_
        refine z_const X (show cdA 276 41 = some (.iconst 1, 1, 0, 0, 0) from rfl) ?_
        refine z_callV X 179 (rm := rmN 187) (As := [.int (Int32.ofInt 0), .int (Int32.ofInt 1)]) (st := []) (show cdA 276 42 = some (.invokevirtual 229, 3, 187, 0, 0) from rfl) rfl (by decide) rfl (by rw [E.1, E.2.1, E.2.2.1]; exact k_bad2 G Is6 (by first | exact Or.inl (by decide) | omega) (by first | exact ⟨by decide, by decide⟩ | omega)) ⟨by rw [E.2.2.2]; exact (show (rmN 187).frames + 1 ≤ (rmN 276).frames by decide), by rw [E.2.2.2]; exact (show 8 + (mNL (miB 187) + 11) + (rmN 187).locals ≤ (rmN 276).locals by decide), by rw [E.2.2.2]; exact (show 0 + (rmN 187).cells ≤ (rmN 276).cells by decide), by rw [E.2.2.2]; exact (show 0 + (rmN 187).slots ≤ (rmN 276).slots by decide)⟩ (Nat.le_of_ble_eq_true rfl) (fun vv s40 hq => ?_) (fun ee s40 hq => ?_)
        rotate_left
        · obtain ⟨Is40, Fs40, e41, hv, hrs40, hps40⟩ := hq; cases hv
        obtain ⟨Is40, Fs40, e41, hv, hrs40, hps40⟩ := hq
        cases hv
        have Gs40 := fm_ts Fs6 Fs40 (by decide) (by decide)
        have JRLx_s40 : RLx s40 := RLx_fm Fs40 (by decide) JRLx_s6
        have JMDJ_s40 : MDJ U s40 := MDJ_fm Fs40 (by decide) JMDJ_s6
        have JMJJ_s40 : MJJ Jn s40 := MJJ_fm Fs40 (by decide) JMJJ_s6
        have b42 : (0 : Int) ≤ iI s40 73 ∧ iI s40 73 ≤ 3 := Is40.1 73
        have ws40_99 : iI s40 99 = iI s6 99 := fm_i Fs40 (by decide)
        have ws40_89 : iI s40 89 = iI s6 89 := fm_i Fs40 (by decide)
        have ws40_96 : iI s40 96 = iI s6 96 := fm_i Fs40 (by decide)
        have ws40_104 : iI s40 104 = iI s6 104 := fm_i Fs40 (by decide)
        show WS k 45 [(0, .ref (A 179)), (1, .int (Int32.ofInt x)), (2, .int (Int32.ofInt y)), (3, .int (Int32.ofInt z))] [.int (Int32.ofInt e41)] (Wd A dT s40) 0 0
        refine z_if_eq X (t := 50) (show cdA 276 45 = some (.ifCond .eq 5, 3, 0, 0, 0) from rfl) (by decide) hrs40 (fun g43 => ?_) (fun g43 => ?_)
        ·
          refine z_aload_n X (x := A 179) (show cdA 276 50 = some (.aload_n 0, 1, 0, 0, 0) from rfl) (List.Mem.head _) ?_
          refine z_load_n X (x := y) (show cdA 276 51 = some (.iload_n 2, 1, 0, 0, 0) from rfl) (List.Mem.tail _ (List.Mem.tail _ (List.Mem.head _))) ?_
          refine z_callV X 179 (rm := rmN 270) (As := [.int (Int32.ofInt y)]) (st := []) (show cdA 276 52 = some (.invokevirtual 422, 3, 270, 0, 0) from rfl) rfl (by decide) rfl (by rw [E.1, E.2.1, E.2.2.1]; exact k_findPlan7 G Is40 JRLx_s40 JMDJ_s40 JMJJ_s40 (by first | exact ⟨oq_0159bb48 g24 hps22, oq_8b498cf6 g24 hps22⟩ | omega) (by first | exact oq_f34933ba ws40_89 ws6_89 p3 b3.1 | omega)) ⟨by rw [E.2.2.2]; exact (show (rmN 270).frames + 1 ≤ (rmN 276).frames by decide), by rw [E.2.2.2]; exact (show 8 + (mNL (miB 270) + 11) + (rmN 270).locals ≤ (rmN 276).locals by decide), by rw [E.2.2.2]; exact (show 0 + (rmN 270).cells ≤ (rmN 276).cells by decide), by rw [E.2.2.2]; exact (show 0 + (rmN 270).slots ≤ (rmN 276).slots by decide)⟩ (Nat.le_of_ble_eq_true rfl) (fun vv s44 hq => ?_) (fun ee s44 hq => ?_)
          rotate_left
          · obtain ⟨Is44, Fs44, JRLx_s44, e45, hv, hrs44, hps44⟩ := hq; cases hv
          obtain ⟨Is44, Fs44, JRLx_s44, e45, hv, hrs44, hps44⟩ := hq
          cases hv
          have Gs44 := fm_ts Gs40 Fs44 (by decide) (by decide +kernel)
          have JRLx_s44 : RLx s44 := RLx_fm Fs44 (by decide) JRLx_s40
          have JMDJ_s44 : MDJ U s44 := MDJ_fm Fs44 (by decide) JMDJ_s40
          have JMJJ_s44 : MJJ Jn s44 := MJJ_fm Fs44 (by decide) JMJJ_s40
          have ws44_73 : iI s44 73 = iI s40 73 := fm_i Fs44 (by decide)
          have ws44_99 : iI s44 99 = iI s40 99 := fm_i Fs44 (by decide)
          have b46 : (1 : Int) ≤ iI s44 89 ∧ iI s44 89 ≤ 8 := Is44.1 89
          have ws44_96 : iI s44 96 = iI s40 96 := fm_i Fs44 (by decide)
          have ws44_104 : iI s44 104 = iI s40 104 := fm_i Fs44 (by decide)
          show WS k 55 [(0, .ref (A 179)), (1, .int (Int32.ofInt x)), (2, .int (Int32.ofInt y)), (3, .int (Int32.ofInt z))] [.int (Int32.ofInt e45)] (Wd A dT s44) 0 0
          have eQ : (QD U Jn (iI s40 99) (iI s40 96) (fun j => iC s40 237 j) (pfM s40) (fun j => iC s40 229 j)) = (QD U Jn (iI s 99) (iI s 96) (fun j => iC s 237 j) (pfM s) (fun j => iC s 229 j)) := qd_c (by omega) (by omega) (fun j _ => fm_c Gs40 (by decide)) (fun j _ => fm_c Gs40 (by decide)) (fun j _ => fm_c Gs40 (by decide))
          have hj := hps44
          rw [eQ] at hj
          refine z_if_ne X (t := 60) (show cdA 276 55 = some (.ifCond .ne 5, 3, 1, 0, 0) from rfl) (by decide) hrs44 (fun g47 => ?_) (fun g47 => ?_)
          ·
            refine z_aload_n X (x := A 179) (show cdA 276 60 = some (.aload_n 0, 1, 0, 0, 0) from rfl) (List.Mem.head _) ?_
            refine z_load_n X (x := x) (show cdA 276 61 = some (.iload_n 1, 1, 0, 0, 0) from rfl) (List.Mem.tail _ (List.Mem.head _)) ?_
            refine z_callV X 179 (rm := rmN 275) (As := [.int (Int32.ofInt x)]) (st := []) (show cdA 276 62 = some (.invokevirtual 428, 3, 275, 0, 0) from rfl) rfl (by decide) rfl (by rw [E.1, E.2.1, E.2.2.1]; exact k_findRota7 G Is44 (by first | exact ⟨oq_fcd95e52 g9 hps7, oq_7e545af9 g9 hps7⟩ | omega) ((nde_r (nde_m hj.2.2 (by omega)) qd_n))) ⟨by rw [E.2.2.2]; exact (show (rmN 275).frames + 1 ≤ (rmN 276).frames by decide), by rw [E.2.2.2]; exact (show 8 + (mNL (miB 275) + 11) + (rmN 275).locals ≤ (rmN 276).locals by decide), by rw [E.2.2.2]; exact (show 0 + 3 ≤ 3 by omega), by rw [E.2.2.2]; exact (show 0 + 24 ≤ 24 by omega)⟩ (Nat.le_of_ble_eq_true rfl) (fun vv s48 hq => ?_) (fun ee s48 hq => ?_)
            rotate_left
            · obtain ⟨Is48, Fs48, hv, hps48⟩ := hq; cases hv
            obtain ⟨Is48, Fs48, hv, hps48⟩ := hq
            cases hv
            have Gs48 := fm_ts Gs44 Fs48 (by decide) (by decide)
            have JRLx_s48 : RLx s48 := RLx_fm Fs48 (by decide) JRLx_s44
            have JMDJ_s48 : MDJ U s48 := MDJ_fm Fs48 (by decide) JMDJ_s44
            have JMJJ_s48 : MJJ Jn s48 := MJJ_fm Fs48 (by decide) JMJJ_s44
            have ws48_73 : iI s48 73 = iI s44 73 := fm_i Fs48 (by decide)
            have ws48_99 : iI s48 99 = iI s44 99 := fm_i Fs48 (by decide)
            have ws48_89 : iI s48 89 = iI s44 89 := fm_i Fs48 (by decide)
            have ws48_96 : iI s48 96 = iI s44 96 := fm_i Fs48 (by decide)
            have b50 : ((-2147483648) : Int) ≤ iI s48 104 ∧ iI s48 104 ≤ 2147483647 := Is48.1 104
            show WS k 65 [(0, .ref (A 179)), (1, .int (Int32.ofInt x)), (2, .int (Int32.ofInt y)), (3, .int (Int32.ofInt z))] [] (Wd A dT s48) 3 24
            refine z_aload_n X (x := A 179) (show cdA 276 65 = some (.aload_n 0, 1, 0, 0, 0) from rfl) (List.Mem.head _) ?_
            refine s_getR X 179 (show cdA 276 66 = some (.getfield 127, 3, 12, 62, 0) from rfl) (by decide) rfl rfl ?_
            refine z_load_n X (x := z) (show cdA 276 69 = some (.iload_n 3, 1, 0, 0, 0) from rfl) (List.Mem.tail _ (List.Mem.tail _ (List.Mem.tail _ (List.Mem.head _)))) ?_
            refine z_ald X 452 (show cdA 276 70 = some (.iaload, 1, 0, 0, 0) from rfl) (by decide) rfl (by first | exact oq_0159bb48 g39 hps37 | omega) (show z < 24 by first | exact oq_127752ee g39 hps37 | omega) (by decide) ?_
            have b51 : (0 : Int) ≤ iC s48 397 (z).toNat ∧ iC s48 397 (z).toNat ≤ 255 := Is48.2 397 _ (show (z).toNat < 24 by first | exact oq_200d9360 g39 hps37 | omega)
            exact w_iret X.1 q hRt rfl (ax_d X (show cdA 276 71 = some (.ireturn, 1, 0, 0, 0) from rfl)) (show 3 ≤ 3 by omega) (show 24 ≤ 24 by omega) ⟨_, rfl, Is48, Gs48, JRLx_s48, (iC s48 397 (z).toNat), rfl, (rng_to _), Or.inl ⟨by first | exact ⟨oq_fcd95e52 g9 hps7, oq_7e545af9 g9 hps7⟩ | omega, by first | exact ⟨oq_0159bb48 g24 hps22, oq_8b498cf6 g24 hps22⟩ | omega, by first | exact ⟨oq_0159bb48 g39 hps37, oq_8b498cf6 g39 hps37⟩ | omega, by first | exact oq_9aa1f5c4 ws48_73 ws44_73 b42.1 hps40 vs6 | omega, by omega, rta_m hj.2.2 (by omega) hps48 (show iI s44 102 = iI s 102 from fm_i Gs44 (by decide)) (show iI s44 103 = iI s 103 from fm_i Gs44 (by decide)) (fun p => show iC s44 398 p = iC s 398 p from fm_c Gs44 (by decide)) (by omega) rfl⟩⟩
          ·
            refine z_const X (show cdA 276 58 = some (.iconst (-1), 1, 0, 0, 0) from rfl) ?_
            exact w_iret X.1 q hRt rfl (ax_d X (show cdA 276 59 = some (.ireturn, 1, 0, 0, 0) from rfl)) (Nat.zero_le _) (Nat.zero_le _) ⟨_, rfl, Is44, Gs44, JRLx_s44, (-1), rfl, (by decide), Or.inl ⟨by first | exact ⟨oq_fcd95e52 g9 hps7, oq_7e545af9 g9 hps7⟩ | omega, by first | exact ⟨oq_0159bb48 g24 hps22, oq_8b498cf6 g24 hps22⟩ | omega, by first | exact ⟨oq_0159bb48 g39 hps37, oq_8b498cf6 g39 hps37⟩ | omega, by first | exact oq_48a52f1b ws44_73 b42.1 hps40 vs6 | omega, by omega, Or.inl ⟨rfl, plt_no hj.2.2 (by omega)⟩⟩⟩
        ·
          refine z_const X (show cdA 276 48 = some (.iconst 0, 1, 0, 0, 0) from rfl) ?_
          exact w_iret X.1 q hRt rfl (ax_d X (show cdA 276 49 = some (.ireturn, 1, 0, 0, 0) from rfl)) (Nat.zero_le _) (Nat.zero_le _) ⟨_, rfl, Is40, Gs40, JRLx_s40, 0, rfl, (by decide), Or.inr ⟨by first | exact oq_cd5449e9 g43 hps40 vs6 | omega, by omega, by first | exact oq_f34933ba ws40_89 ws6_89 p3 b3.1 | omega⟩⟩
      ·
        refine z_const X (show cdA 276 36 = some (.iconst 1, 1, 0, 0, 0) from rfl) ?_
        refine z_goto X (t := 41) (show cdA 276 37 = some (.goto 4, 3, 0, 0, 0) from rfl) (by decide) ?_
        refine z_const X (show cdA 276 41 = some (.iconst 1, 1, 0, 0, 0) from rfl) ?_
        refine z_callV X 179 (rm := rmN 187) (As := [.int (Int32.ofInt 1), .int (Int32.ofInt 1)]) (st := []) (show cdA 276 42 = some (.invokevirtual 229, 3, 187, 0, 0) from rfl) rfl (by decide) rfl (by rw [E.1, E.2.1, E.2.2.1]; exact k_bad2 G Is6 (by first | exact Or.inr (by decide) | omega) (by first | exact ⟨by decide, by decide⟩ | omega)) ⟨by rw [E.2.2.2]; exact (show (rmN 187).frames + 1 ≤ (rmN 276).frames by decide), by rw [E.2.2.2]; exact (show 8 + (mNL (miB 187) + 11) + (rmN 187).locals ≤ (rmN 276).locals by decide), by rw [E.2.2.2]; exact (show 0 + (rmN 187).cells ≤ (rmN 276).cells by decide), by rw [E.2.2.2]; exact (show 0 + (rmN 187).slots ≤ (rmN 276).slots by decide)⟩ (Nat.le_of_ble_eq_true rfl) (fun vv s52 hq => ?_) (fun ee s52 hq => ?_)
        rotate_left
        · obtain ⟨Is52, Fs52, e53, hv, hrs52, hps52⟩ := hq; cases hv
        obtain ⟨Is52, Fs52, e53, hv, hrs52, hps52⟩ := hq
        cases hv
        have Gs52 := fm_ts Fs6 Fs52 (by decide) (by decide)
        have JRLx_s52 : RLx s52 := RLx_fm Fs52 (by decide) JRLx_s6
        have JMDJ_s52 : MDJ U s52 := MDJ_fm Fs52 (by decide) JMDJ_s6
        have JMJJ_s52 : MJJ Jn s52 := MJJ_fm Fs52 (by decide) JMJJ_s6
        have b54 : (0 : Int) ≤ iI s52 73 ∧ iI s52 73 ≤ 3 := Is52.1 73
        have ws52_99 : iI s52 99 = iI s6 99 := fm_i Fs52 (by decide)
        have ws52_89 : iI s52 89 = iI s6 89 := fm_i Fs52 (by decide)
        have ws52_96 : iI s52 96 = iI s6 96 := fm_i Fs52 (by decide)
        have ws52_104 : iI s52 104 = iI s6 104 := fm_i Fs52 (by decide)
        show WS k 45 [(0, .ref (A 179)), (1, .int (Int32.ofInt x)), (2, .int (Int32.ofInt y)), (3, .int (Int32.ofInt z))] [.int (Int32.ofInt e53)] (Wd A dT s52) 0 0
        refine z_if_eq X (t := 50) (show cdA 276 45 = some (.ifCond .eq 5, 3, 0, 0, 0) from rfl) (by decide) hrs52 (fun g55 => ?_) (fun g55 => ?_)
        ·
          refine z_aload_n X (x := A 179) (show cdA 276 50 = some (.aload_n 0, 1, 0, 0, 0) from rfl) (List.Mem.head _) ?_
          refine z_load_n X (x := y) (show cdA 276 51 = some (.iload_n 2, 1, 0, 0, 0) from rfl) (List.Mem.tail _ (List.Mem.tail _ (List.Mem.head _))) ?_
          refine z_callV X 179 (rm := rmN 270) (As := [.int (Int32.ofInt y)]) (st := []) (show cdA 276 52 = some (.invokevirtual 422, 3, 270, 0, 0) from rfl) rfl (by decide) rfl (by rw [E.1, E.2.1, E.2.2.1]; exact k_findPlan7 G Is52 JRLx_s52 JMDJ_s52 JMJJ_s52 (by first | exact ⟨oq_0159bb48 g24 hps22, oq_8b498cf6 g24 hps22⟩ | omega) (by first | exact oq_f34933ba ws52_89 ws6_89 p3 b3.1 | omega)) ⟨by rw [E.2.2.2]; exact (show (rmN 270).frames + 1 ≤ (rmN 276).frames by decide), by rw [E.2.2.2]; exact (show 8 + (mNL (miB 270) + 11) + (rmN 270).locals ≤ (rmN 276).locals by decide), by rw [E.2.2.2]; exact (show 0 + (rmN 270).cells ≤ (rmN 276).cells by decide), by rw [E.2.2.2]; exact (show 0 + (rmN 270).slots ≤ (rmN 276).slots by decide)⟩ (Nat.le_of_ble_eq_true rfl) (fun vv s56 hq => ?_) (fun ee s56 hq => ?_)
          rotate_left
          · obtain ⟨Is56, Fs56, JRLx_s56, e57, hv, hrs56, hps56⟩ := hq; cases hv
          obtain ⟨Is56, Fs56, JRLx_s56, e57, hv, hrs56, hps56⟩ := hq
          cases hv
          have Gs56 := fm_ts Gs52 Fs56 (by decide) (by decide +kernel)
          have JRLx_s56 : RLx s56 := RLx_fm Fs56 (by decide) JRLx_s52
          have JMDJ_s56 : MDJ U s56 := MDJ_fm Fs56 (by decide) JMDJ_s52
          have JMJJ_s56 : MJJ Jn s56 := MJJ_fm Fs56 (by decide) JMJJ_s52
          have ws56_73 : iI s56 73 = iI s52 73 := fm_i Fs56 (by decide)
          have ws56_99 : iI s56 99 = iI s52 99 := fm_i Fs56 (by decide)
          have b58 : (1 : Int) ≤ iI s56 89 ∧ iI s56 89 ≤ 8 := Is56.1 89
          have ws56_96 : iI s56 96 = iI s52 96 := fm_i Fs56 (by decide)
          have ws56_104 : iI s56 104 = iI s52 104 := fm_i Fs56 (by decide)
          show WS k 55 [(0, .ref (A 179)), (1, .int (Int32.ofInt x)), (2, .int (Int32.ofInt y)), (3, .int (Int32.ofInt z))] [.int (Int32.ofInt e57)] (Wd A dT s56) 0 0
          have eQ : (QD U Jn (iI s52 99) (iI s52 96) (fun j => iC s52 237 j) (pfM s52) (fun j => iC s52 229 j)) = (QD U Jn (iI s 99) (iI s 96) (fun j => iC s 237 j) (pfM s) (fun j => iC s 229 j)) := qd_c (by omega) (by omega) (fun j _ => fm_c Gs52 (by decide)) (fun j _ => fm_c Gs52 (by decide)) (fun j _ => fm_c Gs52 (by decide))
          have hj := hps56
          rw [eQ] at hj
          refine z_if_ne X (t := 60) (show cdA 276 55 = some (.ifCond .ne 5, 3, 1, 0, 0) from rfl) (by decide) hrs56 (fun g59 => ?_) (fun g59 => ?_)
          ·
            refine z_aload_n X (x := A 179) (show cdA 276 60 = some (.aload_n 0, 1, 0, 0, 0) from rfl) (List.Mem.head _) ?_
            refine z_load_n X (x := x) (show cdA 276 61 = some (.iload_n 1, 1, 0, 0, 0) from rfl) (List.Mem.tail _ (List.Mem.head _)) ?_
            refine z_callV X 179 (rm := rmN 275) (As := [.int (Int32.ofInt x)]) (st := []) (show cdA 276 62 = some (.invokevirtual 428, 3, 275, 0, 0) from rfl) rfl (by decide) rfl (by rw [E.1, E.2.1, E.2.2.1]; exact k_findRota7 G Is56 (by first | exact ⟨oq_fcd95e52 g9 hps7, oq_7e545af9 g9 hps7⟩ | omega) ((nde_r (nde_m hj.2.2 (by omega)) qd_n))) ⟨by rw [E.2.2.2]; exact (show (rmN 275).frames + 1 ≤ (rmN 276).frames by decide), by rw [E.2.2.2]; exact (show 8 + (mNL (miB 275) + 11) + (rmN 275).locals ≤ (rmN 276).locals by decide), by rw [E.2.2.2]; exact (show 0 + 3 ≤ 3 by omega), by rw [E.2.2.2]; exact (show 0 + 24 ≤ 24 by omega)⟩ (Nat.le_of_ble_eq_true rfl) (fun vv s60 hq => ?_) (fun ee s60 hq => ?_)
            rotate_left
            · obtain ⟨Is60, Fs60, hv, hps60⟩ := hq; cases hv
            obtain ⟨Is60, Fs60, hv, hps60⟩ := hq
            cases hv
            have Gs60 := fm_ts Gs56 Fs60 (by decide) (by decide)
            have JRLx_s60 : RLx s60 := RLx_fm Fs60 (by decide) JRLx_s56
            have JMDJ_s60 : MDJ U s60 := MDJ_fm Fs60 (by decide) JMDJ_s56
            have JMJJ_s60 : MJJ Jn s60 := MJJ_fm Fs60 (by decide) JMJJ_s56
            have ws60_73 : iI s60 73 = iI s56 73 := fm_i Fs60 (by decide)
            have ws60_99 : iI s60 99 = iI s56 99 := fm_i Fs60 (by decide)
            have ws60_89 : iI s60 89 = iI s56 89 := fm_i Fs60 (by decide)
            have ws60_96 : iI s60 96 = iI s56 96 := fm_i Fs60 (by decide)
            have b62 : ((-2147483648) : Int) ≤ iI s60 104 ∧ iI s60 104 ≤ 2147483647 := Is60.1 104
            show WS k 65 [(0, .ref (A 179)), (1, .int (Int32.ofInt x)), (2, .int (Int32.ofInt y)), (3, .int (Int32.ofInt z))] [] (Wd A dT s60) 3 24
            refine z_aload_n X (x := A 179) (show cdA 276 65 = some (.aload_n 0, 1, 0, 0, 0) from rfl) (List.Mem.head _) ?_
            refine s_getR X 179 (show cdA 276 66 = some (.getfield 127, 3, 12, 62, 0) from rfl) (by decide) rfl rfl ?_
            refine z_load_n X (x := z) (show cdA 276 69 = some (.iload_n 3, 1, 0, 0, 0) from rfl) (List.Mem.tail _ (List.Mem.tail _ (List.Mem.tail _ (List.Mem.head _)))) ?_
            refine z_ald X 452 (show cdA 276 70 = some (.iaload, 1, 0, 0, 0) from rfl) (by decide) rfl (by first | exact oq_674898f9 g55 hps52 vs6 | omega) (show z < 24 by first | exact oq_43137565 g55 hps52 vs6 | omega) (by decide) ?_
            have b63 : (0 : Int) ≤ iC s60 397 (z).toNat ∧ iC s60 397 (z).toNat ≤ 255 := Is60.2 397 _ (show (z).toNat < 24 by first | exact oq_a80f8023 g55 hps52 vs6 | omega)
            exact w_iret X.1 q hRt rfl (ax_d X (show cdA 276 71 = some (.ireturn, 1, 0, 0, 0) from rfl)) (show 3 ≤ 3 by omega) (show 24 ≤ 24 by omega) ⟨_, rfl, Is60, Gs60, JRLx_s60, (iC s60 397 (z).toNat), rfl, (rng_to _), Or.inl ⟨by first | exact ⟨oq_fcd95e52 g9 hps7, oq_7e545af9 g9 hps7⟩ | omega, by first | exact ⟨oq_0159bb48 g24 hps22, oq_8b498cf6 g24 hps22⟩ | omega, by first | exact ⟨oq_674898f9 g55 hps52 vs6, oq_48516caf g55 hps52 vs6⟩ | omega, by first | exact oq_300138af ws60_73 ws56_73 g55 b54.1 hps52 vs6 | omega, by first | exact oq_f2ff104a g55 hps52 vs6 | omega, rta_m hj.2.2 (by omega) hps60 (show iI s56 102 = iI s 102 from fm_i Gs56 (by decide)) (show iI s56 103 = iI s 103 from fm_i Gs56 (by decide)) (fun p => show iC s56 398 p = iC s 398 p from fm_c Gs56 (by decide)) (by omega) rfl⟩⟩
          ·
            refine z_const X (show cdA 276 58 = some (.iconst (-1), 1, 0, 0, 0) from rfl) ?_
            exact w_iret X.1 q hRt rfl (ax_d X (show cdA 276 59 = some (.ireturn, 1, 0, 0, 0) from rfl)) (Nat.zero_le _) (Nat.zero_le _) ⟨_, rfl, Is56, Gs56, JRLx_s56, (-1), rfl, (by decide), Or.inl ⟨by first | exact ⟨oq_fcd95e52 g9 hps7, oq_7e545af9 g9 hps7⟩ | omega, by first | exact ⟨oq_0159bb48 g24 hps22, oq_8b498cf6 g24 hps22⟩ | omega, by first | exact ⟨oq_674898f9 g55 hps52 vs6, oq_48516caf g55 hps52 vs6⟩ | omega, by first | exact oq_8c407924 ws56_73 g55 b54.1 hps52 vs6 | omega, by first | exact oq_f2ff104a g55 hps52 vs6 | omega, Or.inl ⟨rfl, plt_no hj.2.2 (by omega)⟩⟩⟩
        ·
          refine z_const X (show cdA 276 48 = some (.iconst 0, 1, 0, 0, 0) from rfl) ?_
          exact w_iret X.1 q hRt rfl (ax_d X (show cdA 276 49 = some (.ireturn, 1, 0, 0, 0) from rfl)) (Nat.zero_le _) (Nat.zero_le _) ⟨_, rfl, Is52, Gs52, JRLx_s52, 0, rfl, (by decide), Or.inr ⟨by first | exact oq_28fe4d37 g39 hps37 | omega, by first | exact oq_faabd673 g55 hps52 vs6 | omega, by first | exact oq_f34933ba ws52_89 ws6_89 p3 b3.1 | omega⟩⟩
set_option maxRecDepth 4000 in
theorem k_lacks7 (G : GX l s0 D tys a0 dT) {U : AirD} {Jn : List Int → Prop} (I : Bd s) (jRLx : RLx s) (jMDJ : MDJ U s) (jMJJ : MJJ Jn s) {x y : Int} (p0 : rng x) (p1 : rng y) (p2 : iI s 89 = 1) : CT l s0 D A dT 277 (rmN 277) [.ref (A 179), .int (Int32.ofInt x), .int (Int32.ofInt y)] s (fun o t => Bd t ∧ Fm [73, 89, 104, 77, 75, 78, 79, 80, 81] [161, 202, 203, 204, 205, 206, 207, 208, 209, 210, 211, 212, 213, 214, 215, 216, 217, 218, 219, 220, 221, 222, 223, 224, 225, 226, 227, 230, 395, 396, 245, 246, 247, 248, 249, 250, 251, 252, 253, 254, 255, 256, 257, 258, 259, 260, 261, 262, 263, 264, 265, 266, 267, 268, 269, 270, 271, 272, 273, 274, 275, 276, 277, 278, 279, 280, 281, 282, 283, 284, 285, 286, 287, 288, 289, 290, 291, 292, 293, 294, 295, 296, 297, 298, 299, 300, 301, 302, 303, 304, 305, 306, 307, 308, 309, 310, 311, 312, 313, 314, 315, 316, 317, 318, 319, 320, 321, 322, 323, 324, 325, 326, 327, 328, 329, 330, 331, 332, 333, 334, 335, 336, 337, 338, 339, 340, 341, 342, 343, 344, 345, 346, 347, 348, 349, 350, 351, 352, 353, 354, 355, 356, 357, 358, 359, 360, 361, 362, 363, 364, 365, 366, 367, 368, 369, 370, 371, 372, 373, 374, 375, 376, 377, 378, 379, 380, 381, 382, 383, 384, 385, 386, 387, 388, 389, 390, 391, 392, 393, 394, 397] s t ∧ RLx t ∧ ∃ e, o = .inl (some (.int (Int32.ofInt e))) ∧ rng e ∧ (((1 ≤ x ∧ x ≤ 8) ∧ (0 ≤ y ∧ y ≤ 23) ∧ iI t 73 = 0 ∧ iI t 89 = 1 ∧ LKA (QD U Jn (iI s 99) (iI s 96) (fun j => iC s 237 j) (pfM s) (fun j => iC s 229 j)) (y : Int).toNat x (iI s 102) (iI s 103) (fun p => iC s 398 p) e) ∨ ((x < 1 ∨ 8 < x ∨ y < 0 ∨ 23 < y) ∧ iI t 73 = 1 ∧ iI t 89 = 1))) := by
  refine ct_of G (by decide) (Nat.le_of_ble_eq_true rfl) (fun k X E hRt hXt q => ?_)
  show WS k 0 [(0, .ref (A 179)), (1, .int (Int32.ofInt x)), (2, .int (Int32.ofInt y))] [] _ 0 0
  have F : Fm [73, 89, 104, 77, 75, 78, 79, 80, 81] [161, 202, 203, 204, 205, 206, 207, 208, 209, 210, 211, 212, 213, 214, 215, 216, 217, 218, 219, 220, 221, 222, 223, 224, 225, 226, 227, 230, 395, 396, 245, 246, 247, 248, 249, 250, 251, 252, 253, 254, 255, 256, 257, 258, 259, 260, 261, 262, 263, 264, 265, 266, 267, 268, 269, 270, 271, 272, 273, 274, 275, 276, 277, 278, 279, 280, 281, 282, 283, 284, 285, 286, 287, 288, 289, 290, 291, 292, 293, 294, 295, 296, 297, 298, 299, 300, 301, 302, 303, 304, 305, 306, 307, 308, 309, 310, 311, 312, 313, 314, 315, 316, 317, 318, 319, 320, 321, 322, 323, 324, 325, 326, 327, 328, 329, 330, 331, 332, 333, 334, 335, 336, 337, 338, 339, 340, 341, 342, 343, 344, 345, 346, 347, 348, 349, 350, 351, 352, 353, 354, 355, 356, 357, 358, 359, 360, 361, 362, 363, 364, 365, 366, 367, 368, 369, 370, 371, 372, 373, 374, 375, 376, 377, 378, 379, 380, 381, 382, 383, 384, 385, 386, 387, 388, 389, 390, 391, 392, 393, 394, 397] s s := fm_rf _ _ s
  have b1 : (0 : Int) ≤ iI s 73 ∧ iI s 73 ≤ 3 := I.1 73
  have b2 : (0 : Int) ≤ iI s 99 ∧ iI s 99 ≤ 6 := I.1 99
  have b3 : (1 : Int) ≤ iI s 89 ∧ iI s 89 ≤ 8 := I.1 89
  have b4 : (0 : Int) ≤ iI s 96 ∧ iI s 96 ≤ 100000 := I.1 96
  have b5 : ((-2147483648) : Int) ≤ iI s 104 ∧ iI s 104 ≤ 2147483647 := I.1 104
  refine z_aload_n X (x := A 179) (show cdA 277 0 = some (.aload_n 0, 1, 0, 0, 0) from rfl) (List.Mem.head _) ?_
  refine z_const X (show cdA 277 1 = some (.iconst 0, 1, 0, 0, 0) from rfl) ?_
  refine s_putI X 179 (show cdA 277 2 = some (.putfield 172, 3, 12, 0, 0) from rfl) (by decide) rfl rfl (by decide) rfl rfl rfl ?_
  obtain ⟨s6, hs6⟩ : ∃ x0, x0 = uI s 73 (Int32.ofInt 0) := ⟨_, rfl⟩
  rw [← hs6]
  have Is6 : Bd s6 := by rw [hs6]; exact bd_I I (show (0 : Int) ≤ 0 ∧ 0 ≤ 3 by first | exact ⟨by decide, by decide⟩ | omega) (by decide)
  have Fs6 := fm_I (x := Int32.ofInt 0) F (show 73 ∈ _ by decide)
  rw [← hs6] at Fs6
  have vs6 : iI s6 73 = 0 := by rw [hs6]; exact iI_u (by decide)
  have ws6_99 : iI s6 99 = iI s 99 := by rw [hs6]; rfl
  have ws6_89 : iI s6 89 = iI s 89 := by rw [hs6]; rfl
  have ws6_96 : iI s6 96 = iI s 96 := by rw [hs6]; rfl
  have ws6_104 : iI s6 104 = iI s 104 := by rw [hs6]; rfl
  have fs6 : Fm [73] [] s s6 := by rw [hs6]; exact fm_I (fm_rf _ _ _) (show 73 ∈ _ by decide)
  have JRLx_s6 : RLx s6 := RLx_fm fs6 (by decide) jRLx
  have JMDJ_s6 : MDJ U s6 := MDJ_fm fs6 (by decide) jMDJ
  have JMJJ_s6 : MJJ Jn s6 := MJJ_fm fs6 (by decide) jMJJ
  refine z_aload_n X (x := A 179) (show cdA 277 5 = some (.aload_n 0, 1, 0, 0, 0) from rfl) (List.Mem.head _) ?_
  refine z_load_n X (x := x) (show cdA 277 6 = some (.iload_n 1, 1, 0, 0, 0) from rfl) (List.Mem.tail _ (List.Mem.head _)) ?_
  refine z_const X (show cdA 277 7 = some (.iconst 1, 1, 0, 0, 0) from rfl) ?_
  refine z_bipush X (show cdA 277 8 = some (.bipush 8, 2, 0, 0, 8) from rfl) ?_
  refine z_callS X (rm := rmN 188) (As := [.int (Int32.ofInt x), .int (Int32.ofInt 1), .int (Int32.ofInt 8)]) (st := [.ref (A 179)]) (show cdA 277 10 = some (.invokestatic 209, 3, 188, 1, 0) from rfl) rfl (by rw [E.1, E.2.1, E.2.2.1]; exact k_in2 G Is6 (by first | exact ⟨p0.1, p0.2⟩ | omega) (by first | exact ⟨by decide, by decide⟩ | omega) (by first | exact ⟨by decide, by decide⟩ | omega)) ⟨by rw [E.2.2.2]; exact (show (rmN 188).frames + 1 ≤ (rmN 277).frames by decide), by rw [E.2.2.2]; exact (show 8 + (mNL (miB 188) + 11) + (rmN 188).locals ≤ (rmN 277).locals by decide), by rw [E.2.2.2]; exact (show 0 + (rmN 188).cells ≤ (rmN 277).cells by decide), by rw [E.2.2.2]; exact (show 0 + (rmN 188).slots ≤ (rmN 277).slots by decide)⟩ (Nat.le_of_ble_eq_true rfl) (fun vv s7 hq => ?_) (fun ee s7 hq => ?_)
  rotate_left
  · obtain ⟨rfl, e8, hv, hrs7, hps7⟩ := hq; cases hv
  obtain ⟨rfl, e8, hv, hrs7, hps7⟩ := hq
  cases hv
  show WS k 13 [(0, .ref (A 179)), (1, .int (Int32.ofInt x)), (2, .int (Int32.ofInt y))] [.int (Int32.ofInt e8), .ref (A 179)] (Wd A dT s6) 0 0
  refine z_if_eq X (t := 26) (show cdA 277 13 = some (.ifCond .eq 13, 3, 0, 0, 0) from rfl) (by decide) hrs7 (fun g9 => ?_) (fun g9 => ?_)
  ·
    refine z_const X (show cdA 277 26 = some (.iconst 1, 1, 0, 0, 0) from rfl) ?_
    refine z_goto X (t := 31) (show cdA 277 27 = some (.goto 4, 3, 0, 0, 0) from rfl) (by decide) ?_
    refine z_const X (show cdA 277 31 = some (.iconst 1, 1, 0, 0, 0) from rfl) ?_
    refine z_callV X 179 (rm := rmN 187) (As := [.int (Int32.ofInt 1), .int (Int32.ofInt 1)]) (st := []) (show cdA 277 32 = some (.invokevirtual 229, 3, 187, 0, 0) from rfl) rfl (by decide) rfl (by rw [E.1, E.2.1, E.2.2.1]; exact k_bad2 G Is6 (by first | exact Or.inr (by decide) | omega) (by first | exact ⟨by decide, by decide⟩ | omega)) ⟨by rw [E.2.2.2]; exact (show (rmN 187).frames + 1 ≤ (rmN 277).frames by decide), by rw [E.2.2.2]; exact (show 8 + (mNL (miB 187) + 11) + (rmN 187).locals ≤ (rmN 277).locals by decide), by rw [E.2.2.2]; exact (show 0 + (rmN 187).cells ≤ (rmN 277).cells by decide), by rw [E.2.2.2]; exact (show 0 + (rmN 187).slots ≤ (rmN 277).slots by decide)⟩ (Nat.le_of_ble_eq_true rfl) (fun vv s10 hq => ?_) (fun ee s10 hq => ?_)
    rotate_left
    · obtain ⟨Is10, Fs10, e11, hv, hrs10, hps10⟩ := hq; cases hv
    obtain ⟨Is10, Fs10, e11, hv, hrs10, hps10⟩ := hq
    cases hv
    have Gs10 := fm_ts Fs6 Fs10 (by decide) (by decide)
    have JRLx_s10 : RLx s10 := RLx_fm Fs10 (by decide) JRLx_s6
    have JMDJ_s10 : MDJ U s10 := MDJ_fm Fs10 (by decide) JMDJ_s6
    have JMJJ_s10 : MJJ Jn s10 := MJJ_fm Fs10 (by decide) JMJJ_s6
    have b12 : (0 : Int) ≤ iI s10 73 ∧ iI s10 73 ≤ 3 := Is10.1 73
    have ws10_99 : iI s10 99 = iI s6 99 := fm_i Fs10 (by decide)
    have ws10_89 : iI s10 89 = iI s6 89 := fm_i Fs10 (by decide)
    have ws10_96 : iI s10 96 = iI s6 96 := fm_i Fs10 (by decide)
    have ws10_104 : iI s10 104 = iI s6 104 := fm_i Fs10 (by decide)
    show WS k 35 [(0, .ref (A 179)), (1, .int (Int32.ofInt x)), (2, .int (Int32.ofInt y))] [.int (Int32.ofInt e11)] (Wd A dT s10) 0 0
    refine z_if_eq X (t := 40) (show cdA 277 35 = some (.ifCond .eq 5, 3, 0, 0, 0) from rfl) (by decide) hrs10 (fun g13 => ?_) (fun g13 => ?_)
    ·
      refine z_aload_n X (x := A 179) (show cdA 277 40 = some (.aload_n 0, 1, 0, 0, 0) from rfl) (List.Mem.head _) ?_
      refine z_load_n X (x := y) (show cdA 277 41 = some (.iload_n 2, 1, 0, 0, 0) from rfl) (List.Mem.tail _ (List.Mem.tail _ (List.Mem.head _))) ?_
      refine z_callV X 179 (rm := rmN 270) (As := [.int (Int32.ofInt y)]) (st := []) (show cdA 277 42 = some (.invokevirtual 422, 3, 270, 0, 0) from rfl) rfl (by decide) rfl (by rw [E.1, E.2.1, E.2.2.1]; exact k_findPlan7 G Is10 JRLx_s10 JMDJ_s10 JMJJ_s10 (by first | exact ⟨oq_674898f9 g13 hps10 vs6, oq_48516caf g13 hps10 vs6⟩ | omega) (by first | exact oq_f34933ba ws10_89 ws6_89 p2 b3.1 | omega)) ⟨by rw [E.2.2.2]; exact (show (rmN 270).frames + 1 ≤ (rmN 277).frames by decide), by rw [E.2.2.2]; exact (show 8 + (mNL (miB 270) + 11) + (rmN 270).locals ≤ (rmN 277).locals by decide), by rw [E.2.2.2]; exact (show 0 + (rmN 270).cells ≤ (rmN 277).cells by decide), by rw [E.2.2.2]; exact (show 0 + (rmN 270).slots ≤ (rmN 277).slots by decide)⟩ (Nat.le_of_ble_eq_true rfl) (fun vv s14 hq => ?_) (fun ee s14 hq => ?_)
      rotate_left
      · obtain ⟨Is14, Fs14, JRLx_s14, e15, hv, hrs14, hps14⟩ := hq; cases hv
      obtain ⟨Is14, Fs14, JRLx_s14, e15, hv, hrs14, hps14⟩ := hq
      cases hv
      have Gs14 := fm_ts Gs10 Fs14 (by decide) (by decide +kernel)
      have JRLx_s14 : RLx s14 := RLx_fm Fs14 (by decide) JRLx_s10
      have JMDJ_s14 : MDJ U s14 := MDJ_fm Fs14 (by decide) JMDJ_s10
      have JMJJ_s14 : MJJ Jn s14 := MJJ_fm Fs14 (by decide) JMJJ_s10
      have ws14_73 : iI s14 73 = iI s10 73 := fm_i Fs14 (by decide)
      have ws14_99 : iI s14 99 = iI s10 99 := fm_i Fs14 (by decide)
      have b16 : (1 : Int) ≤ iI s14 89 ∧ iI s14 89 ≤ 8 := Is14.1 89
      have ws14_96 : iI s14 96 = iI s10 96 := fm_i Fs14 (by decide)
      have ws14_104 : iI s14 104 = iI s10 104 := fm_i Fs14 (by decide)
      show WS k 45 [(0, .ref (A 179)), (1, .int (Int32.ofInt x)), (2, .int (Int32.ofInt y))] [.int (Int32.ofInt e15)] (Wd A dT s14) 0 0
      have eQ : (QD U Jn (iI s10 99) (iI s10 96) (fun j => iC s10 237 j) (pfM s10) (fun j => iC s10 229 j)) = (QD U Jn (iI s 99) (iI s 96) (fun j => iC s 237 j) (pfM s) (fun j => iC s 229 j)) := qd_c (by omega) (by omega) (fun j _ => fm_c Gs10 (by decide)) (fun j _ => fm_c Gs10 (by decide)) (fun j _ => fm_c Gs10 (by decide))
      have hj := hps14
      rw [eQ] at hj
      refine z_if_ne X (t := 50) (show cdA 277 45 = some (.ifCond .ne 5, 3, 1, 0, 0) from rfl) (by decide) hrs14 (fun g17 => ?_) (fun g17 => ?_)
      ·
        refine z_aload_n X (x := A 179) (show cdA 277 50 = some (.aload_n 0, 1, 0, 0, 0) from rfl) (List.Mem.head _) ?_
        refine z_load_n X (x := x) (show cdA 277 51 = some (.iload_n 1, 1, 0, 0, 0) from rfl) (List.Mem.tail _ (List.Mem.head _)) ?_
        refine z_callV X 179 (rm := rmN 275) (As := [.int (Int32.ofInt x)]) (st := []) (show cdA 277 52 = some (.invokevirtual 428, 3, 275, 0, 0) from rfl) rfl (by decide) rfl (by rw [E.1, E.2.1, E.2.2.1]; exact k_findRota7 G Is14 (by first | exact ⟨oq_9b39ac49 g13 hps10 vs6, oq_e5a72ab8 g13 hps10 vs6⟩ | omega) ((nde_r (nde_m hj.2.2 (by omega)) qd_n))) ⟨by rw [E.2.2.2]; exact (show (rmN 275).frames + 1 ≤ (rmN 277).frames by decide), by rw [E.2.2.2]; exact (show 8 + (mNL (miB 275) + 11) + (rmN 275).locals ≤ (rmN 277).locals by decide), by rw [E.2.2.2]; exact (show 0 + 3 ≤ 3 by omega), by rw [E.2.2.2]; exact (show 0 + 24 ≤ 24 by omega)⟩ (Nat.le_of_ble_eq_true rfl) (fun vv s18 hq => ?_) (fun ee s18 hq => ?_)
        rotate_left
        · obtain ⟨Is18, Fs18, hv, hps18⟩ := hq; cases hv
        obtain ⟨Is18, Fs18, hv, hps18⟩ := hq
        cases hv
        have Gs18 := fm_ts Gs14 Fs18 (by decide) (by decide)
        have JRLx_s18 : RLx s18 := RLx_fm Fs18 (by decide) JRLx_s14
        have JMDJ_s18 : MDJ U s18 := MDJ_fm Fs18 (by decide) JMDJ_s14
        have JMJJ_s18 : MJJ Jn s18 := MJJ_fm Fs18 (by decide) JMJJ_s14
        have ws18_73 : iI s18 73 = iI s14 73 := fm_i Fs18 (by decide)
        have ws18_99 : iI s18 99 = iI s14 99 := fm_i Fs18 (by decide)
        have ws18_89 : iI s18 89 = iI s14 89 := fm_i Fs18 (by decide)
        have ws18_96 : iI s18 96 = iI s14 96 := fm_i Fs18 (by decide)
        have b20 : ((-2147483648) : Int) ≤ iI s18 104 ∧ iI s18 104 ≤ 2147483647 := Is18.1 104
        show WS k 55 [(0, .ref (A 179)), (1, .int (Int32.ofInt x)), (2, .int (Int32.ofInt y))] [] (Wd A dT s18) 3 24
        refine z_aload_n X (x := A 179) (show cdA 277 55 = some (.aload_n 0, 1, 0, 0, 0) from rfl) (List.Mem.head _) ?_
        refine z_getI X 179 (show cdA 277 56 = some (.getfield 425, 3, 12, 65, 0) from rfl) (by decide) rfl rfl ?_
        have b21 : ((-2147483648) : Int) ≤ iI s18 104 ∧ iI s18 104 ≤ 2147483647 := Is18.1 104
        exact w_iret X.1 q hRt rfl (ax_d X (show cdA 277 59 = some (.ireturn, 1, 0, 0, 0) from rfl)) (show 3 ≤ 3 by omega) (show 24 ≤ 24 by omega) ⟨_, rfl, Is18, Gs18, JRLx_s18, (iI s18 104), rfl, (rng_to _), Or.inl ⟨by first | exact ⟨oq_9b39ac49 g13 hps10 vs6, oq_e5a72ab8 g13 hps10 vs6⟩ | omega, by first | exact ⟨oq_674898f9 g13 hps10 vs6, oq_48516caf g13 hps10 vs6⟩ | omega, by first | exact oq_300138af ws18_73 ws14_73 g13 b12.1 hps10 vs6 | omega, by first | exact oq_f2ff104a g13 hps10 vs6 | omega, lka_m hj.2.2 (by omega) hps18 (show iI s14 102 = iI s 102 from fm_i Gs14 (by decide)) (show iI s14 103 = iI s 103 from fm_i Gs14 (by decide)) (fun p => show iC s14 398 p = iC s 398 p from fm_c Gs14 (by decide)) rfl⟩⟩
      ·
        refine z_const X (show cdA 277 48 = some (.iconst (-1), 1, 0, 0, 0) from rfl) ?_
        exact w_iret X.1 q hRt rfl (ax_d X (show cdA 277 49 = some (.ireturn, 1, 0, 0, 0) from rfl)) (Nat.zero_le _) (Nat.zero_le _) ⟨_, rfl, Is14, Gs14, JRLx_s14, (-1), rfl, (by decide), Or.inl ⟨by first | exact ⟨oq_9b39ac49 g13 hps10 vs6, oq_e5a72ab8 g13 hps10 vs6⟩ | omega, by first | exact ⟨oq_674898f9 g13 hps10 vs6, oq_48516caf g13 hps10 vs6⟩ | omega, by first | exact oq_8c407924 ws14_73 g13 b12.1 hps10 vs6 | omega, by first | exact oq_f2ff104a g13 hps10 vs6 | omega, Or.inl ⟨rfl, plt_no hj.2.2 (by omega)⟩⟩⟩
    ·
      refine z_const X (show cdA 277 38 = some (.iconst 0, 1, 0, 0, 0) from rfl) ?_
      exact w_iret X.1 q hRt rfl (ax_d X (show cdA 277 39 = some (.ireturn, 1, 0, 0, 0) from rfl)) (Nat.zero_le _) (Nat.zero_le _) ⟨_, rfl, Is10, Gs10, JRLx_s10, 0, rfl, (by decide), Or.inr ⟨by first | exact oq_473bf851 g9 hps7 | omega, by first | exact oq_faabd673 g13 hps10 vs6 | omega, by first | exact oq_f34933ba ws10_89 ws6_89 p2 b3.1 | omega⟩⟩
  ·
    refine z_load_n X (x := y) (show cdA 277 16 = some (.iload_n 2, 1, 0, 0, 0) from rfl) (List.Mem.tail _ (List.Mem.tail _ (List.Mem.head _))) ?_
    refine z_const X (show cdA 277 17 = some (.iconst 0, 1, 0, 0, 0) from rfl) ?_
    refine z_bipush X (show cdA 277 18 = some (.bipush 23, 2, 0, 0, 23) from rfl) ?_
    refine z_callS X (rm := rmN 188) (As := [.int (Int32.ofInt y), .int (Int32.ofInt 0), .int (Int32.ofInt 23)]) (st := [.ref (A 179)]) (show cdA 277 20 = some (.invokestatic 209, 3, 188, 1, 0) from rfl) rfl (by rw [E.1, E.2.1, E.2.2.1]; exact k_in2 G Is6 (by first | exact ⟨p1.1, p1.2⟩ | omega) (by first | exact ⟨by decide, by decide⟩ | omega) (by first | exact ⟨by decide, by decide⟩ | omega)) ⟨by rw [E.2.2.2]; exact (show (rmN 188).frames + 1 ≤ (rmN 277).frames by decide), by rw [E.2.2.2]; exact (show 8 + (mNL (miB 188) + 11) + (rmN 188).locals ≤ (rmN 277).locals by decide), by rw [E.2.2.2]; exact (show 0 + (rmN 188).cells ≤ (rmN 277).cells by decide), by rw [E.2.2.2]; exact (show 0 + (rmN 188).slots ≤ (rmN 277).slots by decide)⟩ (Nat.le_of_ble_eq_true rfl) (fun vv s22 hq => ?_) (fun ee s22 hq => ?_)
    rotate_left
    · obtain ⟨rfl, e23, hv, hrs22, hps22⟩ := hq; cases hv
    obtain ⟨rfl, e23, hv, hrs22, hps22⟩ := hq
    cases hv
    show WS k 23 [(0, .ref (A 179)), (1, .int (Int32.ofInt x)), (2, .int (Int32.ofInt y))] [.int (Int32.ofInt e23), .ref (A 179)] (Wd A dT s6) 0 0
    refine z_if_ne X (t := 30) (show cdA 277 23 = some (.ifCond .ne 7, 3, 1, 0, 0) from rfl) (by decide) hrs22 (fun g24 => ?_) (fun g24 => ?_)
    ·
      refine z_const X (show cdA 277 30 = some (.iconst 0, 1, 0, 0, 0) from rfl) ?_
      refine z_const X (show cdA 277 31 = some (.iconst 1, 1, 0, 0, 0) from rfl) ?_
      refine z_callV X 179 (rm := rmN 187) (As := [.int (Int32.ofInt 0), .int (Int32.ofInt 1)]) (st := []) (show cdA 277 32 = some (.invokevirtual 229, 3, 187, 0, 0) from rfl) rfl (by decide) rfl (by rw [E.1, E.2.1, E.2.2.1]; exact k_bad2 G Is6 (by first | exact Or.inl (by decide) | omega) (by first | exact ⟨by decide, by decide⟩ | omega)) ⟨by rw [E.2.2.2]; exact (show (rmN 187).frames + 1 ≤ (rmN 277).frames by decide), by rw [E.2.2.2]; exact (show 8 + (mNL (miB 187) + 11) + (rmN 187).locals ≤ (rmN 277).locals by decide), by rw [E.2.2.2]; exact (show 0 + (rmN 187).cells ≤ (rmN 277).cells by decide), by rw [E.2.2.2]; exact (show 0 + (rmN 187).slots ≤ (rmN 277).slots by decide)⟩ (Nat.le_of_ble_eq_true rfl) (fun vv s25 hq => ?_) (fun ee s25 hq => ?_)
      rotate_left
      · obtain ⟨Is25, Fs25, e26, hv, hrs25, hps25⟩ := hq; cases hv
      obtain ⟨Is25, Fs25, e26, hv, hrs25, hps25⟩ := hq
      cases hv
      have Gs25 := fm_ts Fs6 Fs25 (by decide) (by decide)
      have JRLx_s25 : RLx s25 := RLx_fm Fs25 (by decide) JRLx_s6
      have JMDJ_s25 : MDJ U s25 := MDJ_fm Fs25 (by decide) JMDJ_s6
      have JMJJ_s25 : MJJ Jn s25 := MJJ_fm Fs25 (by decide) JMJJ_s6
      have b27 : (0 : Int) ≤ iI s25 73 ∧ iI s25 73 ≤ 3 := Is25.1 73
      have ws25_99 : iI s25 99 = iI s6 99 := fm_i Fs25 (by decide)
      have ws25_89 : iI s25 89 = iI s6 89 := fm_i Fs25 (by decide)
      have ws25_96 : iI s25 96 = iI s6 96 := fm_i Fs25 (by decide)
      have ws25_104 : iI s25 104 = iI s6 104 := fm_i Fs25 (by decide)
      show WS k 35 [(0, .ref (A 179)), (1, .int (Int32.ofInt x)), (2, .int (Int32.ofInt y))] [.int (Int32.ofInt e26)] (Wd A dT s25) 0 0
      refine z_if_eq X (t := 40) (show cdA 277 35 = some (.ifCond .eq 5, 3, 0, 0, 0) from rfl) (by decide) hrs25 (fun g28 => ?_) (fun g28 => ?_)
      ·
        refine z_aload_n X (x := A 179) (show cdA 277 40 = some (.aload_n 0, 1, 0, 0, 0) from rfl) (List.Mem.head _) ?_
        refine z_load_n X (x := y) (show cdA 277 41 = some (.iload_n 2, 1, 0, 0, 0) from rfl) (List.Mem.tail _ (List.Mem.tail _ (List.Mem.head _))) ?_
        refine z_callV X 179 (rm := rmN 270) (As := [.int (Int32.ofInt y)]) (st := []) (show cdA 277 42 = some (.invokevirtual 422, 3, 270, 0, 0) from rfl) rfl (by decide) rfl (by rw [E.1, E.2.1, E.2.2.1]; exact k_findPlan7 G Is25 JRLx_s25 JMDJ_s25 JMJJ_s25 (by first | exact ⟨oq_0159bb48 g24 hps22, oq_8b498cf6 g24 hps22⟩ | omega) (by first | exact oq_f34933ba ws25_89 ws6_89 p2 b3.1 | omega)) ⟨by rw [E.2.2.2]; exact (show (rmN 270).frames + 1 ≤ (rmN 277).frames by decide), by rw [E.2.2.2]; exact (show 8 + (mNL (miB 270) + 11) + (rmN 270).locals ≤ (rmN 277).locals by decide), by rw [E.2.2.2]; exact (show 0 + (rmN 270).cells ≤ (rmN 277).cells by decide), by rw [E.2.2.2]; exact (show 0 + (rmN 270).slots ≤ (rmN 277).slots by decide)⟩ (Nat.le_of_ble_eq_true rfl) (fun vv s29 hq => ?_) (fun ee s29 hq => ?_)
        rotate_left
        · obtain ⟨Is29, Fs29, JRLx_s29, e30, hv, hrs29, hps29⟩ := hq; cases hv
        obtain ⟨Is29, Fs29, JRLx_s29, e30, hv, hrs29, hps29⟩ := hq
        cases hv
        have Gs29 := fm_ts Gs25 Fs29 (by decide) (by decide +kernel)
        have JRLx_s29 : RLx s29 := RLx_fm Fs29 (by decide) JRLx_s25
        have JMDJ_s29 : MDJ U s29 := MDJ_fm Fs29 (by decide) JMDJ_s25
        have JMJJ_s29 : MJJ Jn s29 := MJJ_fm Fs29 (by decide) JMJJ_s25
        have ws29_73 : iI s29 73 = iI s25 73 := fm_i Fs29 (by decide)
        have ws29_99 : iI s29 99 = iI s25 99 := fm_i Fs29 (by decide)
        have b31 : (1 : Int) ≤ iI s29 89 ∧ iI s29 89 ≤ 8 := Is29.1 89
        have ws29_96 : iI s29 96 = iI s25 96 := fm_i Fs29 (by decide)
        have ws29_104 : iI s29 104 = iI s25 104 := fm_i Fs29 (by decide)
        show WS k 45 [(0, .ref (A 179)), (1, .int (Int32.ofInt x)), (2, .int (Int32.ofInt y))] [.int (Int32.ofInt e30)] (Wd A dT s29) 0 0
        have eQ : (QD U Jn (iI s25 99) (iI s25 96) (fun j => iC s25 237 j) (pfM s25) (fun j => iC s25 229 j)) = (QD U Jn (iI s 99) (iI s 96) (fun j => iC s 237 j) (pfM s) (fun j => iC s 229 j)) := qd_c (by omega) (by omega) (fun j _ => fm_c Gs25 (by decide)) (fun j _ => fm_c Gs25 (by decide)) (fun j _ => fm_c Gs25 (by decide))
        have hj := hps29
        rw [eQ] at hj
        refine z_if_ne X (t := 50) (show cdA 277 45 = some (.ifCond .ne 5, 3, 1, 0, 0) from rfl) (by decide) hrs29 (fun g32 => ?_) (fun g32 => ?_)
        ·
          refine z_aload_n X (x := A 179) (show cdA 277 50 = some (.aload_n 0, 1, 0, 0, 0) from rfl) (List.Mem.head _) ?_
          refine z_load_n X (x := x) (show cdA 277 51 = some (.iload_n 1, 1, 0, 0, 0) from rfl) (List.Mem.tail _ (List.Mem.head _)) ?_
          refine z_callV X 179 (rm := rmN 275) (As := [.int (Int32.ofInt x)]) (st := []) (show cdA 277 52 = some (.invokevirtual 428, 3, 275, 0, 0) from rfl) rfl (by decide) rfl (by rw [E.1, E.2.1, E.2.2.1]; exact k_findRota7 G Is29 (by first | exact ⟨oq_fcd95e52 g9 hps7, oq_7e545af9 g9 hps7⟩ | omega) ((nde_r (nde_m hj.2.2 (by omega)) qd_n))) ⟨by rw [E.2.2.2]; exact (show (rmN 275).frames + 1 ≤ (rmN 277).frames by decide), by rw [E.2.2.2]; exact (show 8 + (mNL (miB 275) + 11) + (rmN 275).locals ≤ (rmN 277).locals by decide), by rw [E.2.2.2]; exact (show 0 + 3 ≤ 3 by omega), by rw [E.2.2.2]; exact (show 0 + 24 ≤ 24 by omega)⟩ (Nat.le_of_ble_eq_true rfl) (fun vv s33 hq => ?_) (fun ee s33 hq => ?_)
          rotate_left
          · obtain ⟨Is33, Fs33, hv, hps33⟩ := hq; cases hv
          obtain ⟨Is33, Fs33, hv, hps33⟩ := hq
          cases hv
          have Gs33 := fm_ts Gs29 Fs33 (by decide) (by decide)
          have JRLx_s33 : RLx s33 := RLx_fm Fs33 (by decide) JRLx_s29
          have JMDJ_s33 : MDJ U s33 := MDJ_fm Fs33 (by decide) JMDJ_s29
          have JMJJ_s33 : MJJ Jn s33 := MJJ_fm Fs33 (by decide) JMJJ_s29
          have ws33_73 : iI s33 73 = iI s29 73 := fm_i Fs33 (by decide)
          have ws33_99 : iI s33 99 = iI s29 99 := fm_i Fs33 (by decide)
          have ws33_89 : iI s33 89 = iI s29 89 := fm_i Fs33 (by decide)
          have ws33_96 : iI s33 96 = iI s29 96 := fm_i Fs33 (by decide)
          have b35 : ((-2147483648) : Int) ≤ iI s33 104 ∧ iI s33 104 ≤ 2147483647 := Is33.1 104
          show WS k 55 [(0, .ref (A 179)), (1, .int (Int32.ofInt x)), (2, .int (Int32.ofInt y))] [] (Wd A dT s33) 3 24
          refine z_aload_n X (x := A 179) (show cdA 277 55 = some (.aload_n 0, 1, 0, 0, 0) from rfl) (List.Mem.head _) ?_
          refine z_getI X 179 (show cdA 277 56 = some (.getfield 425, 3, 12, 65, 0) from rfl) (by decide) rfl rfl ?_
          have b36 : ((-2147483648) : Int) ≤ iI s33 104 ∧ iI s33 104 ≤ 2147483647 := Is33.1 104
          exact w_iret X.1 q hRt rfl (ax_d X (show cdA 277 59 = some (.ireturn, 1, 0, 0, 0) from rfl)) (show 3 ≤ 3 by omega) (show 24 ≤ 24 by omega) ⟨_, rfl, Is33, Gs33, JRLx_s33, (iI s33 104), rfl, (rng_to _), Or.inl ⟨by first | exact ⟨oq_fcd95e52 g9 hps7, oq_7e545af9 g9 hps7⟩ | omega, by first | exact ⟨oq_0159bb48 g24 hps22, oq_8b498cf6 g24 hps22⟩ | omega, by first | exact oq_9aa1f5c4 ws33_73 ws29_73 b27.1 hps25 vs6 | omega, by omega, lka_m hj.2.2 (by omega) hps33 (show iI s29 102 = iI s 102 from fm_i Gs29 (by decide)) (show iI s29 103 = iI s 103 from fm_i Gs29 (by decide)) (fun p => show iC s29 398 p = iC s 398 p from fm_c Gs29 (by decide)) rfl⟩⟩
        ·
          refine z_const X (show cdA 277 48 = some (.iconst (-1), 1, 0, 0, 0) from rfl) ?_
          exact w_iret X.1 q hRt rfl (ax_d X (show cdA 277 49 = some (.ireturn, 1, 0, 0, 0) from rfl)) (Nat.zero_le _) (Nat.zero_le _) ⟨_, rfl, Is29, Gs29, JRLx_s29, (-1), rfl, (by decide), Or.inl ⟨by first | exact ⟨oq_fcd95e52 g9 hps7, oq_7e545af9 g9 hps7⟩ | omega, by first | exact ⟨oq_0159bb48 g24 hps22, oq_8b498cf6 g24 hps22⟩ | omega, by first | exact oq_48a52f1b ws29_73 b27.1 hps25 vs6 | omega, by omega, Or.inl ⟨rfl, plt_no hj.2.2 (by omega)⟩⟩⟩
      ·
        refine z_const X (show cdA 277 38 = some (.iconst 0, 1, 0, 0, 0) from rfl) ?_
        exact w_iret X.1 q hRt rfl (ax_d X (show cdA 277 39 = some (.ireturn, 1, 0, 0, 0) from rfl)) (Nat.zero_le _) (Nat.zero_le _) ⟨_, rfl, Is25, Gs25, JRLx_s25, 0, rfl, (by decide), Or.inr ⟨by first | exact oq_98b7a510 g28 hps25 vs6 | omega, by first | exact oq_df0d149a g28 hps25 vs6 | omega, by first | exact oq_f34933ba ws25_89 ws6_89 p2 b3.1 | omega⟩⟩
    ·
      refine z_const X (show cdA 277 26 = some (.iconst 1, 1, 0, 0, 0) from rfl) ?_
      refine z_goto X (t := 31) (show cdA 277 27 = some (.goto 4, 3, 0, 0, 0) from rfl) (by decide) ?_
      refine z_const X (show cdA 277 31 = some (.iconst 1, 1, 0, 0, 0) from rfl) ?_
      refine z_callV X 179 (rm := rmN 187) (As := [.int (Int32.ofInt 1), .int (Int32.ofInt 1)]) (st := []) (show cdA 277 32 = some (.invokevirtual 229, 3, 187, 0, 0) from rfl) rfl (by decide) rfl (by rw [E.1, E.2.1, E.2.2.1]; exact k_bad2 G Is6 (by first | exact Or.inr (by decide) | omega) (by first | exact ⟨by decide, by decide⟩ | omega)) ⟨by rw [E.2.2.2]; exact (show (rmN 187).frames + 1 ≤ (rmN 277).frames by decide), by rw [E.2.2.2]; exact (show 8 + (mNL (miB 187) + 11) + (rmN 187).locals ≤ (rmN 277).locals by decide), by rw [E.2.2.2]; exact (show 0 + (rmN 187).cells ≤ (rmN 277).cells by decide), by rw [E.2.2.2]; exact (show 0 + (rmN 187).slots ≤ (rmN 277).slots by decide)⟩ (Nat.le_of_ble_eq_true rfl) (fun vv s37 hq => ?_) (fun ee s37 hq => ?_)
      rotate_left
      · obtain ⟨Is37, Fs37, e38, hv, hrs37, hps37⟩ := hq; cases hv
      obtain ⟨Is37, Fs37, e38, hv, hrs37, hps37⟩ := hq
      cases hv
      have Gs37 := fm_ts Fs6 Fs37 (by decide) (by decide)
      have JRLx_s37 : RLx s37 := RLx_fm Fs37 (by decide) JRLx_s6
      have JMDJ_s37 : MDJ U s37 := MDJ_fm Fs37 (by decide) JMDJ_s6
      have JMJJ_s37 : MJJ Jn s37 := MJJ_fm Fs37 (by decide) JMJJ_s6
      have b39 : (0 : Int) ≤ iI s37 73 ∧ iI s37 73 ≤ 3 := Is37.1 73
      have ws37_99 : iI s37 99 = iI s6 99 := fm_i Fs37 (by decide)
      have ws37_89 : iI s37 89 = iI s6 89 := fm_i Fs37 (by decide)
      have ws37_96 : iI s37 96 = iI s6 96 := fm_i Fs37 (by decide)
      have ws37_104 : iI s37 104 = iI s6 104 := fm_i Fs37 (by decide)
      show WS k 35 [(0, .ref (A 179)), (1, .int (Int32.ofInt x)), (2, .int (Int32.ofInt y))] [.int (Int32.ofInt e38)] (Wd A dT s37) 0 0
      refine z_if_eq X (t := 40) (show cdA 277 35 = some (.ifCond .eq 5, 3, 0, 0, 0) from rfl) (by decide) hrs37 (fun g40 => ?_) (fun g40 => ?_)
      ·
        refine z_aload_n X (x := A 179) (show cdA 277 40 = some (.aload_n 0, 1, 0, 0, 0) from rfl) (List.Mem.head _) ?_
        refine z_load_n X (x := y) (show cdA 277 41 = some (.iload_n 2, 1, 0, 0, 0) from rfl) (List.Mem.tail _ (List.Mem.tail _ (List.Mem.head _))) ?_
        refine z_callV X 179 (rm := rmN 270) (As := [.int (Int32.ofInt y)]) (st := []) (show cdA 277 42 = some (.invokevirtual 422, 3, 270, 0, 0) from rfl) rfl (by decide) rfl (by rw [E.1, E.2.1, E.2.2.1]; exact k_findPlan7 G Is37 JRLx_s37 JMDJ_s37 JMJJ_s37 (by first | exact ⟨oq_674898f9 g40 hps37 vs6, oq_48516caf g40 hps37 vs6⟩ | omega) (by first | exact oq_f34933ba ws37_89 ws6_89 p2 b3.1 | omega)) ⟨by rw [E.2.2.2]; exact (show (rmN 270).frames + 1 ≤ (rmN 277).frames by decide), by rw [E.2.2.2]; exact (show 8 + (mNL (miB 270) + 11) + (rmN 270).locals ≤ (rmN 277).locals by decide), by rw [E.2.2.2]; exact (show 0 + (rmN 270).cells ≤ (rmN 277).cells by decide), by rw [E.2.2.2]; exact (show 0 + (rmN 270).slots ≤ (rmN 277).slots by decide)⟩ (Nat.le_of_ble_eq_true rfl) (fun vv s41 hq => ?_) (fun ee s41 hq => ?_)
        rotate_left
        · obtain ⟨Is41, Fs41, JRLx_s41, e42, hv, hrs41, hps41⟩ := hq; cases hv
        obtain ⟨Is41, Fs41, JRLx_s41, e42, hv, hrs41, hps41⟩ := hq
        cases hv
        have Gs41 := fm_ts Gs37 Fs41 (by decide) (by decide +kernel)
        have JRLx_s41 : RLx s41 := RLx_fm Fs41 (by decide) JRLx_s37
        have JMDJ_s41 : MDJ U s41 := MDJ_fm Fs41 (by decide) JMDJ_s37
        have JMJJ_s41 : MJJ Jn s41 := MJJ_fm Fs41 (by decide) JMJJ_s37
        have ws41_73 : iI s41 73 = iI s37 73 := fm_i Fs41 (by decide)
        have ws41_99 : iI s41 99 = iI s37 99 := fm_i Fs41 (by decide)
        have b43 : (1 : Int) ≤ iI s41 89 ∧ iI s41 89 ≤ 8 := Is41.1 89
        have ws41_96 : iI s41 96 = iI s37 96 := fm_i Fs41 (by decide)
        have ws41_104 : iI s41 104 = iI s37 104 := fm_i Fs41 (by decide)
        show WS k 45 [(0, .ref (A 179)), (1, .int (Int32.ofInt x)), (2, .int (Int32.ofInt y))] [.int (Int32.ofInt e42)] (Wd A dT s41) 0 0
        have eQ : (QD U Jn (iI s37 99) (iI s37 96) (fun j => iC s37 237 j) (pfM s37) (fun j => iC s37 229 j)) = (QD U Jn (iI s 99) (iI s 96) (fun j => iC s 237 j) (pfM s) (fun j => iC s 229 j)) := qd_c (by omega) (by omega) (fun j _ => fm_c Gs37 (by decide)) (fun j _ => fm_c Gs37 (by decide)) (fun j _ => fm_c Gs37 (by decide))
        have hj := hps41
        rw [eQ] at hj
        refine z_if_ne X (t := 50) (show cdA 277 45 = some (.ifCond .ne 5, 3, 1, 0, 0) from rfl) (by decide) hrs41 (fun g44 => ?_) (fun g44 => ?_)
        ·
          refine z_aload_n X (x := A 179) (show cdA 277 50 = some (.aload_n 0, 1, 0, 0, 0) from rfl) (List.Mem.head _) ?_
          refine z_load_n X (x := x) (show cdA 277 51 = some (.iload_n 1, 1, 0, 0, 0) from rfl) (List.Mem.tail _ (List.Mem.head _)) ?_
          refine z_callV X 179 (rm := rmN 275) (As := [.int (Int32.ofInt x)]) (st := []) (show cdA 277 52 = some (.invokevirtual 428, 3, 275, 0, 0) from rfl) rfl (by decide) rfl (by rw [E.1, E.2.1, E.2.2.1]; exact k_findRota7 G Is41 (by first | exact ⟨oq_fcd95e52 g9 hps7, oq_7e545af9 g9 hps7⟩ | omega) ((nde_r (nde_m hj.2.2 (by omega)) qd_n))) ⟨by rw [E.2.2.2]; exact (show (rmN 275).frames + 1 ≤ (rmN 277).frames by decide), by rw [E.2.2.2]; exact (show 8 + (mNL (miB 275) + 11) + (rmN 275).locals ≤ (rmN 277).locals by decide), by rw [E.2.2.2]; exact (show 0 + 3 ≤ 3 by omega), by rw [E.2.2.2]; exact (show 0 + 24 ≤ 24 by omega)⟩ (Nat.le_of_ble_eq_true rfl) (fun vv s45 hq => ?_) (fun ee s45 hq => ?_)
          rotate_left
          · obtain ⟨Is45, Fs45, hv, hps45⟩ := hq; cases hv
          obtain ⟨Is45, Fs45, hv, hps45⟩ := hq
          cases hv
          have Gs45 := fm_ts Gs41 Fs45 (by decide) (by decide)
          have JRLx_s45 : RLx s45 := RLx_fm Fs45 (by decide) JRLx_s41
          have JMDJ_s45 : MDJ U s45 := MDJ_fm Fs45 (by decide) JMDJ_s41
          have JMJJ_s45 : MJJ Jn s45 := MJJ_fm Fs45 (by decide) JMJJ_s41
          have ws45_73 : iI s45 73 = iI s41 73 := fm_i Fs45 (by decide)
          have ws45_99 : iI s45 99 = iI s41 99 := fm_i Fs45 (by decide)
          have ws45_89 : iI s45 89 = iI s41 89 := fm_i Fs45 (by decide)
          have ws45_96 : iI s45 96 = iI s41 96 := fm_i Fs45 (by decide)
          have b47 : ((-2147483648) : Int) ≤ iI s45 104 ∧ iI s45 104 ≤ 2147483647 := Is45.1 104
          show WS k 55 [(0, .ref (A 179)), (1, .int (Int32.ofInt x)), (2, .int (Int32.ofInt y))] [] (Wd A dT s45) 3 24
          refine z_aload_n X (x := A 179) (show cdA 277 55 = some (.aload_n 0, 1, 0, 0, 0) from rfl) (List.Mem.head _) ?_
          refine z_getI X 179 (show cdA 277 56 = some (.getfield 425, 3, 12, 65, 0) from rfl) (by decide) rfl rfl ?_
          have b48 : ((-2147483648) : Int) ≤ iI s45 104 ∧ iI s45 104 ≤ 2147483647 := Is45.1 104
          exact w_iret X.1 q hRt rfl (ax_d X (show cdA 277 59 = some (.ireturn, 1, 0, 0, 0) from rfl)) (show 3 ≤ 3 by omega) (show 24 ≤ 24 by omega) ⟨_, rfl, Is45, Gs45, JRLx_s45, (iI s45 104), rfl, (rng_to _), Or.inl ⟨by first | exact ⟨oq_fcd95e52 g9 hps7, oq_7e545af9 g9 hps7⟩ | omega, by first | exact ⟨oq_674898f9 g40 hps37 vs6, oq_48516caf g40 hps37 vs6⟩ | omega, by first | exact oq_300138af ws45_73 ws41_73 g40 b39.1 hps37 vs6 | omega, by first | exact oq_f2ff104a g40 hps37 vs6 | omega, lka_m hj.2.2 (by omega) hps45 (show iI s41 102 = iI s 102 from fm_i Gs41 (by decide)) (show iI s41 103 = iI s 103 from fm_i Gs41 (by decide)) (fun p => show iC s41 398 p = iC s 398 p from fm_c Gs41 (by decide)) rfl⟩⟩
        ·
          refine z_const X (show cdA 277 48 = some (.iconst (-1), 1, 0, 0, 0) from rfl) ?_
          exact w_iret X.1 q hRt rfl (ax_d X (show cdA 277 49 = some (.ireturn, 1, 0, 0, 0) from rfl)) (Nat.zero_le _) (Nat.zero_le _) ⟨_, rfl, Is41, Gs41, JRLx_s41, (-1), rfl, (by decide), Or.inl ⟨by first | exact ⟨oq_fcd95e52 g9 hps7, oq_7e545af9 g9 hps7⟩ | omega, by first | exact ⟨oq_674898f9 g40 hps37 vs6, oq_48516caf g40 hps37 vs6⟩ | omega, by first | exact oq_8c407924 ws41_73 g40 b39.1 hps37 vs6 | omega, by first | exact oq_f2ff104a g40 hps37 vs6 | omega, Or.inl ⟨rfl, plt_no hj.2.2 (by omega)⟩⟩⟩
      ·
        refine z_const X (show cdA 277 38 = some (.iconst 0, 1, 0, 0, 0) from rfl) ?_
        exact w_iret X.1 q hRt rfl (ax_d X (show cdA 277 39 = some (.ireturn, 1, 0, 0, 0) from rfl)) (Nat.zero_le _) (Nat.zero_le _) ⟨_, rfl, Is37, Gs37, JRLx_s37, 0, rfl, (by decide), Or.inr ⟨by first | exact oq_e5fa0814 g24 hps22 | omega, by first | exact oq_faabd673 g40 hps37 vs6 | omega, by first | exact oq_f34933ba ws37_89 ws6_89 p2 b3.1 | omega⟩⟩
set_option maxRecDepth 4000 in
theorem k_enough7 (G : GX l s0 D tys a0 dT) {U : AirD} {Jn : List Int → Prop} (I : Bd s) (jRLx : RLx s) (jMDJ : MDJ U s) (jMJJ : MJJ Jn s) {x : Int} (p0 : rng x) (p1 : iI s 89 = 1) : CT l s0 D A dT 278 (rmN 278) [.ref (A 179), .int (Int32.ofInt x)] s (fun o t => Bd t ∧ Fm [73, 89, 104, 77, 75, 78, 79, 80, 81] [161, 202, 203, 204, 205, 206, 207, 208, 209, 210, 211, 212, 213, 214, 215, 216, 217, 218, 219, 220, 221, 222, 223, 224, 225, 226, 227, 230, 395, 396, 245, 246, 247, 248, 249, 250, 251, 252, 253, 254, 255, 256, 257, 258, 259, 260, 261, 262, 263, 264, 265, 266, 267, 268, 269, 270, 271, 272, 273, 274, 275, 276, 277, 278, 279, 280, 281, 282, 283, 284, 285, 286, 287, 288, 289, 290, 291, 292, 293, 294, 295, 296, 297, 298, 299, 300, 301, 302, 303, 304, 305, 306, 307, 308, 309, 310, 311, 312, 313, 314, 315, 316, 317, 318, 319, 320, 321, 322, 323, 324, 325, 326, 327, 328, 329, 330, 331, 332, 333, 334, 335, 336, 337, 338, 339, 340, 341, 342, 343, 344, 345, 346, 347, 348, 349, 350, 351, 352, 353, 354, 355, 356, 357, 358, 359, 360, 361, 362, 363, 364, 365, 366, 367, 368, 369, 370, 371, 372, 373, 374, 375, 376, 377, 378, 379, 380, 381, 382, 383, 384, 385, 386, 387, 388, 389, 390, 391, 392, 393, 394, 397] s t ∧ RLx t ∧ ∃ e, o = .inl (some (.int (Int32.ofInt e))) ∧ rng e ∧ (((0 ≤ x ∧ x ≤ 23) ∧ iI t 73 = 0 ∧ iI t 89 = 1 ∧ ENA (QD U Jn (iI s 99) (iI s 96) (fun j => iC s 237 j) (pfM s) (fun j => iC s 229 j)) (x : Int).toNat (iI s 102) (iI s 103) (fun p => iC s 398 p) e) ∨ ((x < 0 ∨ 23 < x) ∧ iI t 73 = 1 ∧ iI t 89 = 1))) := by
  refine ct_of G (by decide) (Nat.le_of_ble_eq_true rfl) (fun k X E hRt hXt q => ?_)
  show WS k 0 [(0, .ref (A 179)), (1, .int (Int32.ofInt x))] [] _ 0 0
  have F : Fm [73, 89, 104, 77, 75, 78, 79, 80, 81] [161, 202, 203, 204, 205, 206, 207, 208, 209, 210, 211, 212, 213, 214, 215, 216, 217, 218, 219, 220, 221, 222, 223, 224, 225, 226, 227, 230, 395, 396, 245, 246, 247, 248, 249, 250, 251, 252, 253, 254, 255, 256, 257, 258, 259, 260, 261, 262, 263, 264, 265, 266, 267, 268, 269, 270, 271, 272, 273, 274, 275, 276, 277, 278, 279, 280, 281, 282, 283, 284, 285, 286, 287, 288, 289, 290, 291, 292, 293, 294, 295, 296, 297, 298, 299, 300, 301, 302, 303, 304, 305, 306, 307, 308, 309, 310, 311, 312, 313, 314, 315, 316, 317, 318, 319, 320, 321, 322, 323, 324, 325, 326, 327, 328, 329, 330, 331, 332, 333, 334, 335, 336, 337, 338, 339, 340, 341, 342, 343, 344, 345, 346, 347, 348, 349, 350, 351, 352, 353, 354, 355, 356, 357, 358, 359, 360, 361, 362, 363, 364, 365, 366, 367, 368, 369, 370, 371, 372, 373, 374, 375, 376, 377, 378, 379, 380, 381, 382, 383, 384, 385, 386, 387, 388, 389, 390, 391, 392, 393, 394, 397] s s := fm_rf _ _ s
  have b1 : (0 : Int) ≤ iI s 73 ∧ iI s 73 ≤ 3 := I.1 73
  have b2 : (0 : Int) ≤ iI s 99 ∧ iI s 99 ≤ 6 := I.1 99
  have b3 : (1 : Int) ≤ iI s 89 ∧ iI s 89 ≤ 8 := I.1 89
  have b4 : (0 : Int) ≤ iI s 96 ∧ iI s 96 ≤ 100000 := I.1 96
  have b5 : ((-2147483648) : Int) ≤ iI s 104 ∧ iI s 104 ≤ 2147483647 := I.1 104
  have L42 : ∀ (n : Nat) (t : PS) (xv nn : Int), Bd t → Fm [73, 89, 104, 77, 75, 78, 79, 80, 81] [161, 202, 203, 204, 205, 206, 207, 208, 209, 210, 211, 212, 213, 214, 215, 216, 217, 218, 219, 220, 221, 222, 223, 224, 225, 226, 227, 230, 395, 396, 245, 246, 247, 248, 249, 250, 251, 252, 253, 254, 255, 256, 257, 258, 259, 260, 261, 262, 263, 264, 265, 266, 267, 268, 269, 270, 271, 272, 273, 274, 275, 276, 277, 278, 279, 280, 281, 282, 283, 284, 285, 286, 287, 288, 289, 290, 291, 292, 293, 294, 295, 296, 297, 298, 299, 300, 301, 302, 303, 304, 305, 306, 307, 308, 309, 310, 311, 312, 313, 314, 315, 316, 317, 318, 319, 320, 321, 322, 323, 324, 325, 326, 327, 328, 329, 330, 331, 332, 333, 334, 335, 336, 337, 338, 339, 340, 341, 342, 343, 344, 345, 346, 347, 348, 349, 350, 351, 352, 353, 354, 355, 356, 357, 358, 359, 360, 361, 362, 363, 364, 365, 366, 367, 368, 369, 370, 371, 372, 373, 374, 375, 376, 377, 378, 379, 380, 381, 382, 383, 384, 385, 386, 387, 388, 389, 390, 391, 392, 393, 394, 397] s t → RLx t → MDJ U t → MJJ Jn t → (ENM (QD U Jn (iI s 99) (iI s 96) (fun j => iC s 237 j) (pfM s) (fun j => iC s 229 j)) (x : Int).toNat (iI s 102) (iI s 103) (fun p => iC s 398 p) nn t) → ((xv = x ∧ 0 ≤ x ∧ x ≤ 23) ∧ 1 ≤ nn ∧ nn ≤ 9 ∧ iI t 73 = 0 ∧ iI t 89 = 1) → (9 - nn : Int).toNat < n → (∀ (t' : PS) (nn' : Int), Bd t' → Fm [73, 89, 104, 77, 75, 78, 79, 80, 81] [161, 202, 203, 204, 205, 206, 207, 208, 209, 210, 211, 212, 213, 214, 215, 216, 217, 218, 219, 220, 221, 222, 223, 224, 225, 226, 227, 230, 395, 396, 245, 246, 247, 248, 249, 250, 251, 252, 253, 254, 255, 256, 257, 258, 259, 260, 261, 262, 263, 264, 265, 266, 267, 268, 269, 270, 271, 272, 273, 274, 275, 276, 277, 278, 279, 280, 281, 282, 283, 284, 285, 286, 287, 288, 289, 290, 291, 292, 293, 294, 295, 296, 297, 298, 299, 300, 301, 302, 303, 304, 305, 306, 307, 308, 309, 310, 311, 312, 313, 314, 315, 316, 317, 318, 319, 320, 321, 322, 323, 324, 325, 326, 327, 328, 329, 330, 331, 332, 333, 334, 335, 336, 337, 338, 339, 340, 341, 342, 343, 344, 345, 346, 347, 348, 349, 350, 351, 352, 353, 354, 355, 356, 357, 358, 359, 360, 361, 362, 363, 364, 365, 366, 367, 368, 369, 370, 371, 372, 373, 374, 375, 376, 377, 378, 379, 380, 381, 382, 383, 384, 385, 386, 387, 388, 389, 390, 391, 392, 393, 394, 397] s t' → RLx t' → MDJ U t' → MJJ Jn t' → (ENM (QD U Jn (iI s 99) (iI s 96) (fun j => iC s 237 j) (pfM s) (fun j => iC s 229 j)) (x : Int).toNat (iI s 102) (iI s 103) (fun p => iC s 398 p) nn' t') → ((0 ≤ x ∧ x ≤ 23) ∧ nn' = 9 ∧ iI t' 73 = 0 ∧ iI t' 89 = 1) → WS k 68 [(0, .ref (A 179)), (1, .int (Int32.ofInt xv)), (2, .int (Int32.ofInt nn'))] [] (Wd A dT t') (3 * (nn' - 1 : Int).toNat) (24 * (nn' - 1 : Int).toNat)) → WS k 42 [(0, .ref (A 179)), (1, .int (Int32.ofInt xv)), (2, .int (Int32.ofInt nn))] [] (Wd A dT t) (3 * (nn - 1 : Int).toNat) (24 * (nn - 1 : Int).toNat) := by
    intro n
    induction n with
    | zero =>
      intro t xv nn I F jjRLx jjMDJ jjMJJ hq hi hm kx
      exact absurd hm (Nat.not_lt_zero _)
    | succ n ih =>
      intro t xv nn I F jjRLx jjMDJ jjMJJ hq hi hm kx
      have b1001 : (0 : Int) ≤ iI t 73 ∧ iI t 73 ≤ 3 := I.1 73
      have b1002 : (0 : Int) ≤ iI t 99 ∧ iI t 99 ≤ 6 := I.1 99
      have b1003 : (1 : Int) ≤ iI t 89 ∧ iI t 89 ≤ 8 := I.1 89
      have b1004 : (0 : Int) ≤ iI t 96 ∧ iI t 96 ≤ 100000 := I.1 96
      have b1005 : ((-2147483648) : Int) ≤ iI t 104 ∧ iI t 104 ≤ 2147483647 := I.1 104
      refine z_load_n X (x := nn) (show cdA 278 42 = some (.iload_n 2, 1, 0, 0, 0) from rfl) (List.Mem.tail _ (List.Mem.tail _ (List.Mem.head _))) ?_
      refine z_bipush X (show cdA 278 43 = some (.bipush 8, 2, 0, 0, 8) from rfl) ?_
      refine z_icmp_gt X (t := 68) (show cdA 278 45 = some (.if_icmp .gt 23, 3, 4, 0, 0) from rfl) (by decide) ⟨by first | exact oq_9462313e hi.2.1 | omega, by first | exact oq_f7e7bb0e hi.2.2.1 | omega⟩ (by decide) (fun g1006 => ?_) (fun g1006 => ?_)
      ·
        refine WS_lv (lv := [(0, .ref (A 179)), (1, .int (Int32.ofInt xv)), (2, .int (Int32.ofInt nn))]) (List.forall_mem_cons.mpr ⟨(List.Mem.head _), (List.forall_mem_cons.mpr ⟨(List.Mem.tail _ (List.Mem.head _)), (List.forall_mem_cons.mpr ⟨(List.Mem.tail _ (List.Mem.tail _ (List.Mem.head _))), (fun q h => absurd h List.not_mem_nil)⟩)⟩)⟩) ?_
        exact kx _ nn I F jjRLx jjMDJ jjMJJ hq (by first | exact ⟨And.intro (hi.1.2.1) (hi.1.2.2), oq_cbfce7f9 hi.2.2.1 g1006, hi.2.2.2.1, hi.2.2.2.2⟩ | omega)
      ·
        refine z_aload_n X (x := A 179) (show cdA 278 48 = some (.aload_n 0, 1, 0, 0, 0) from rfl) (List.Mem.head _) ?_
        refine z_load_n X (x := nn) (show cdA 278 49 = some (.iload_n 2, 1, 0, 0, 0) from rfl) (List.Mem.tail _ (List.Mem.tail _ (List.Mem.head _))) ?_
        refine z_callV X 179 (rm := rmN 275) (As := [.int (Int32.ofInt nn)]) (st := []) (show cdA 278 50 = some (.invokevirtual 428, 3, 275, 0, 0) from rfl) rfl (by decide) rfl (by rw [E.1, E.2.1, E.2.2.1]; exact k_findRota7 G I (by first | exact ⟨hi.2.1, g1006⟩ | omega) ((enm_nd hq qd_n))) ⟨by rw [E.2.2.2]; exact (show (rmN 275).frames + 1 ≤ (rmN 278).frames by decide), by rw [E.2.2.2]; exact (show 8 + (mNL (miB 275) + 11) + (rmN 275).locals ≤ (rmN 278).locals by decide), by rw [E.2.2.2]; exact (show (3 * (nn - 1 : Int).toNat) + 3 ≤ 24 by omega), by rw [E.2.2.2]; exact (show (24 * (nn - 1 : Int).toNat) + 24 ≤ 192 by omega)⟩ (Nat.le_of_ble_eq_true rfl) (fun vv s1007 hq => ?_) (fun ee s1007 hq => ?_)
        rotate_left
        · obtain ⟨Is1007, Fs1007, hv, hps1007⟩ := hq; cases hv
        obtain ⟨Is1007, Fs1007, hv, hps1007⟩ := hq
        cases hv
        have Gs1007 := fm_ts F Fs1007 (by decide) (by decide)
        have JRLx_s1007 : RLx s1007 := RLx_fm Fs1007 (by decide) jjRLx
        have JMDJ_s1007 : MDJ U s1007 := MDJ_fm Fs1007 (by decide) jjMDJ
        have JMJJ_s1007 : MJJ Jn s1007 := MJJ_fm Fs1007 (by decide) jjMJJ
        have ws1007_73 : iI s1007 73 = iI t 73 := fm_i Fs1007 (by decide)
        have ws1007_99 : iI s1007 99 = iI t 99 := fm_i Fs1007 (by decide)
        have ws1007_89 : iI s1007 89 = iI t 89 := fm_i Fs1007 (by decide)
        have ws1007_96 : iI s1007 96 = iI t 96 := fm_i Fs1007 (by decide)
        have b1009 : ((-2147483648) : Int) ≤ iI s1007 104 ∧ iI s1007 104 ≤ 2147483647 := Is1007.1 104
        show WS k 53 [(0, .ref (A 179)), (1, .int (Int32.ofInt xv)), (2, .int (Int32.ofInt nn))] [] (Wd A dT s1007) ((3 * (nn - 1 : Int).toNat) + 3) ((24 * (nn - 1 : Int).toNat) + 24)
        refine z_aload_n X (x := A 179) (show cdA 278 53 = some (.aload_n 0, 1, 0, 0, 0) from rfl) (List.Mem.head _) ?_
        refine z_getI X 179 (show cdA 278 54 = some (.getfield 425, 3, 12, 65, 0) from rfl) (by decide) rfl rfl ?_
        have b1010 : ((-2147483648) : Int) ≤ iI s1007 104 ∧ iI s1007 104 ≤ 2147483647 := Is1007.1 104
        refine z_if_ne X (t := 62) (show cdA 278 57 = some (.ifCond .ne 5, 3, 1, 0, 0) from rfl) (by decide) (rng_to _) (fun g1011 => ?_) (fun g1011 => ?_)
        ·
          refine z_inc X (x := nn) (lv' := [(2, .int (Int32.ofInt (nn + 1))), (0, .ref (A 179)), (1, .int (Int32.ofInt xv))]) (show cdA 278 62 = some (.iinc 2 1, 3, 0, 0, 0) from rfl) (by decide) (List.Mem.tail _ (List.Mem.tail _ (List.Mem.head _))) (fun _ h => h) ?_
          refine z_goto X (t := 42) (show cdA 278 65 = some (.goto (-23), 3, 0, 0, 0) from rfl) (by decide) ?_
          refine WS_lv (lv := [(0, .ref (A 179)), (1, .int (Int32.ofInt xv)), (2, .int (Int32.ofInt (nn + 1)))]) (List.forall_mem_cons.mpr ⟨(List.Mem.tail _ (List.Mem.head _)), (List.forall_mem_cons.mpr ⟨(List.Mem.tail _ (List.Mem.tail _ (List.Mem.head _))), (List.forall_mem_cons.mpr ⟨(List.Mem.head _), (fun q h => absurd h List.not_mem_nil)⟩)⟩)⟩) ?_
          refine w_widen (ce' := (3 * ((nn + 1) - 1 : Int).toNat)) (sl' := (24 * ((nn + 1) - 1 : Int).toNat)) (by omega) (by omega) ?_
          exact ih _ xv (nn + 1) Is1007 Gs1007 JRLx_s1007 JMDJ_s1007 JMJJ_s1007 (enm_up hq hps1007 (show iI t 102 = iI s 102 from fm_i F (by decide)) (show iI t 103 = iI s 103 from fm_i F (by decide)) (fun p => show iC t 398 p = iC s 398 p from fm_c F (by decide)) (sam_fm Fs1007 (by decide)) (by omega) (by omega)) (by first | exact ⟨And.intro (hi.1.1) (And.intro (hi.1.2.1) (hi.1.2.2)), oq_1e1a2df6 hi.2.1, oq_c5edd56f g1006, oq_333640b7 ws1007_73 hi.2.2.2.1 b1001.1, oq_b44a1c7f ws1007_89 hi.2.2.2.2 b1003.1⟩ | omega) (by first | exact qk_me hm (by decide) (oq_fa1cb672 g1006) | omega) kx
        ·
          refine z_load_n X (x := nn) (show cdA 278 60 = some (.iload_n 2, 1, 0, 0, 0) from rfl) (List.Mem.tail _ (List.Mem.tail _ (List.Mem.head _))) ?_
          exact w_iret X.1 q hRt rfl (ax_d X (show cdA 278 61 = some (.ireturn, 1, 0, 0, 0) from rfl)) (show ((3 * (nn - 1 : Int).toNat) + 3) ≤ 24 by omega) (show ((24 * (nn - 1 : Int).toNat) + 24) ≤ 192 by omega) ⟨_, rfl, Is1007, Gs1007, JRLx_s1007, nn, rfl, ⟨by first | exact oq_9462313e hi.2.1 | omega, by first | exact oq_d3f5d874 g1006 | omega⟩, Or.inl ⟨by first | exact ⟨hi.1.2.1, hi.1.2.2⟩ | omega, by first | exact oq_333640b7 ws1007_73 hi.2.2.2.1 b1001.1 | omega, by first | exact oq_b44a1c7f ws1007_89 hi.2.2.2.2 b1003.1 | omega, enm_y hq hps1007 (show iI t 102 = iI s 102 from fm_i F (by decide)) (show iI t 103 = iI s 103 from fm_i F (by decide)) (fun p => show iC t 398 p = iC s 398 p from fm_c F (by decide)) (by omega) (by omega)⟩⟩
  refine z_aload_n X (x := A 179) (show cdA 278 0 = some (.aload_n 0, 1, 0, 0, 0) from rfl) (List.Mem.head _) ?_
  refine z_const X (show cdA 278 1 = some (.iconst 0, 1, 0, 0, 0) from rfl) ?_
  refine s_putI X 179 (show cdA 278 2 = some (.putfield 172, 3, 12, 0, 0) from rfl) (by decide) rfl rfl (by decide) rfl rfl rfl ?_
  obtain ⟨s6, hs6⟩ : ∃ x0, x0 = uI s 73 (Int32.ofInt 0) := ⟨_, rfl⟩
  rw [← hs6]
  have Is6 : Bd s6 := by rw [hs6]; exact bd_I I (show (0 : Int) ≤ 0 ∧ 0 ≤ 3 by first | exact ⟨by decide, by decide⟩ | omega) (by decide)
  have Fs6 := fm_I (x := Int32.ofInt 0) F (show 73 ∈ _ by decide)
  rw [← hs6] at Fs6
  have vs6 : iI s6 73 = 0 := by rw [hs6]; exact iI_u (by decide)
  have ws6_99 : iI s6 99 = iI s 99 := by rw [hs6]; rfl
  have ws6_89 : iI s6 89 = iI s 89 := by rw [hs6]; rfl
  have ws6_96 : iI s6 96 = iI s 96 := by rw [hs6]; rfl
  have ws6_104 : iI s6 104 = iI s 104 := by rw [hs6]; rfl
  have fs6 : Fm [73] [] s s6 := by rw [hs6]; exact fm_I (fm_rf _ _ _) (show 73 ∈ _ by decide)
  have JRLx_s6 : RLx s6 := RLx_fm fs6 (by decide) jRLx
  have JMDJ_s6 : MDJ U s6 := MDJ_fm fs6 (by decide) jMDJ
  have JMJJ_s6 : MJJ Jn s6 := MJJ_fm fs6 (by decide) jMJJ
  refine z_aload_n X (x := A 179) (show cdA 278 5 = some (.aload_n 0, 1, 0, 0, 0) from rfl) (List.Mem.head _) ?_
  refine z_load_n X (x := x) (show cdA 278 6 = some (.iload_n 1, 1, 0, 0, 0) from rfl) (List.Mem.tail _ (List.Mem.head _)) ?_
  refine z_const X (show cdA 278 7 = some (.iconst 0, 1, 0, 0, 0) from rfl) ?_
  refine z_bipush X (show cdA 278 8 = some (.bipush 23, 2, 0, 0, 23) from rfl) ?_
  refine z_callS X (rm := rmN 188) (As := [.int (Int32.ofInt x), .int (Int32.ofInt 0), .int (Int32.ofInt 23)]) (st := [.ref (A 179)]) (show cdA 278 10 = some (.invokestatic 209, 3, 188, 1, 0) from rfl) rfl (by rw [E.1, E.2.1, E.2.2.1]; exact k_in2 G Is6 (by first | exact ⟨p0.1, p0.2⟩ | omega) (by first | exact ⟨by decide, by decide⟩ | omega) (by first | exact ⟨by decide, by decide⟩ | omega)) ⟨by rw [E.2.2.2]; exact (show (rmN 188).frames + 1 ≤ (rmN 278).frames by decide), by rw [E.2.2.2]; exact (show 8 + (mNL (miB 188) + 11) + (rmN 188).locals ≤ (rmN 278).locals by decide), by rw [E.2.2.2]; exact (show 0 + (rmN 188).cells ≤ (rmN 278).cells by decide), by rw [E.2.2.2]; exact (show 0 + (rmN 188).slots ≤ (rmN 278).slots by decide)⟩ (Nat.le_of_ble_eq_true rfl) (fun vv s7 hq => ?_) (fun ee s7 hq => ?_)
  rotate_left
  · obtain ⟨rfl, e8, hv, hrs7, hps7⟩ := hq; cases hv
  obtain ⟨rfl, e8, hv, hrs7, hps7⟩ := hq
  cases hv
  show WS k 13 [(0, .ref (A 179)), (1, .int (Int32.ofInt x))] [.int (Int32.ofInt e8), .ref (A 179)] (Wd A dT s6) 0 0
  refine z_if_ne X (t := 20) (show cdA 278 13 = some (.ifCond .ne 7, 3, 1, 0, 0) from rfl) (by decide) hrs7 (fun g9 => ?_) (fun g9 => ?_)
  ·
    refine z_const X (show cdA 278 20 = some (.iconst 0, 1, 0, 0, 0) from rfl) ?_
    refine z_const X (show cdA 278 21 = some (.iconst 1, 1, 0, 0, 0) from rfl) ?_
    refine z_callV X 179 (rm := rmN 187) (As := [.int (Int32.ofInt 0), .int (Int32.ofInt 1)]) (st := []) (show cdA 278 22 = some (.invokevirtual 229, 3, 187, 0, 0) from rfl) rfl (by decide) rfl (by rw [E.1, E.2.1, E.2.2.1]; exact k_bad2 G Is6 (by first | exact Or.inl (by decide) | omega) (by first | exact ⟨by decide, by decide⟩ | omega)) ⟨by rw [E.2.2.2]; exact (show (rmN 187).frames + 1 ≤ (rmN 278).frames by decide), by rw [E.2.2.2]; exact (show 8 + (mNL (miB 187) + 11) + (rmN 187).locals ≤ (rmN 278).locals by decide), by rw [E.2.2.2]; exact (show 0 + (rmN 187).cells ≤ (rmN 278).cells by decide), by rw [E.2.2.2]; exact (show 0 + (rmN 187).slots ≤ (rmN 278).slots by decide)⟩ (Nat.le_of_ble_eq_true rfl) (fun vv s10 hq => ?_) (fun ee s10 hq => ?_)
    rotate_left
    · obtain ⟨Is10, Fs10, e11, hv, hrs10, hps10⟩ := hq; cases hv
    obtain ⟨Is10, Fs10, e11, hv, hrs10, hps10⟩ := hq
    cases hv
    have Gs10 := fm_ts Fs6 Fs10 (by decide) (by decide)
    have JRLx_s10 : RLx s10 := RLx_fm Fs10 (by decide) JRLx_s6
    have JMDJ_s10 : MDJ U s10 := MDJ_fm Fs10 (by decide) JMDJ_s6
    have JMJJ_s10 : MJJ Jn s10 := MJJ_fm Fs10 (by decide) JMJJ_s6
    have b12 : (0 : Int) ≤ iI s10 73 ∧ iI s10 73 ≤ 3 := Is10.1 73
    have ws10_99 : iI s10 99 = iI s6 99 := fm_i Fs10 (by decide)
    have ws10_89 : iI s10 89 = iI s6 89 := fm_i Fs10 (by decide)
    have ws10_96 : iI s10 96 = iI s6 96 := fm_i Fs10 (by decide)
    have ws10_104 : iI s10 104 = iI s6 104 := fm_i Fs10 (by decide)
    show WS k 25 [(0, .ref (A 179)), (1, .int (Int32.ofInt x))] [.int (Int32.ofInt e11)] (Wd A dT s10) 0 0
    refine z_if_eq X (t := 30) (show cdA 278 25 = some (.ifCond .eq 5, 3, 0, 0, 0) from rfl) (by decide) hrs10 (fun g13 => ?_) (fun g13 => ?_)
    ·
      refine z_aload_n X (x := A 179) (show cdA 278 30 = some (.aload_n 0, 1, 0, 0, 0) from rfl) (List.Mem.head _) ?_
      refine z_load_n X (x := x) (show cdA 278 31 = some (.iload_n 1, 1, 0, 0, 0) from rfl) (List.Mem.tail _ (List.Mem.head _)) ?_
      refine z_callV X 179 (rm := rmN 270) (As := [.int (Int32.ofInt x)]) (st := []) (show cdA 278 32 = some (.invokevirtual 422, 3, 270, 0, 0) from rfl) rfl (by decide) rfl (by rw [E.1, E.2.1, E.2.2.1]; exact k_findPlan7 G Is10 JRLx_s10 JMDJ_s10 JMJJ_s10 (by first | exact ⟨oq_0159bb48 g9 hps7, oq_8b498cf6 g9 hps7⟩ | omega) (by first | exact oq_f34933ba ws10_89 ws6_89 p1 b3.1 | omega)) ⟨by rw [E.2.2.2]; exact (show (rmN 270).frames + 1 ≤ (rmN 278).frames by decide), by rw [E.2.2.2]; exact (show 8 + (mNL (miB 270) + 11) + (rmN 270).locals ≤ (rmN 278).locals by decide), by rw [E.2.2.2]; exact (show 0 + (rmN 270).cells ≤ (rmN 278).cells by decide), by rw [E.2.2.2]; exact (show 0 + (rmN 270).slots ≤ (rmN 278).slots by decide)⟩ (Nat.le_of_ble_eq_true rfl) (fun vv s14 hq => ?_) (fun ee s14 hq => ?_)
      rotate_left
      · obtain ⟨Is14, Fs14, JRLx_s14, e15, hv, hrs14, hps14⟩ := hq; cases hv
      obtain ⟨Is14, Fs14, JRLx_s14, e15, hv, hrs14, hps14⟩ := hq
      cases hv
      have Gs14 := fm_ts Gs10 Fs14 (by decide) (by decide +kernel)
      have JRLx_s14 : RLx s14 := RLx_fm Fs14 (by decide) JRLx_s10
      have JMDJ_s14 : MDJ U s14 := MDJ_fm Fs14 (by decide) JMDJ_s10
      have JMJJ_s14 : MJJ Jn s14 := MJJ_fm Fs14 (by decide) JMJJ_s10
      have ws14_73 : iI s14 73 = iI s10 73 := fm_i Fs14 (by decide)
      have ws14_99 : iI s14 99 = iI s10 99 := fm_i Fs14 (by decide)
      have b16 : (1 : Int) ≤ iI s14 89 ∧ iI s14 89 ≤ 8 := Is14.1 89
      have ws14_96 : iI s14 96 = iI s10 96 := fm_i Fs14 (by decide)
      have ws14_104 : iI s14 104 = iI s10 104 := fm_i Fs14 (by decide)
      show WS k 35 [(0, .ref (A 179)), (1, .int (Int32.ofInt x))] [.int (Int32.ofInt e15)] (Wd A dT s14) 0 0
      have eQ : (QD U Jn (iI s10 99) (iI s10 96) (fun j => iC s10 237 j) (pfM s10) (fun j => iC s10 229 j)) = (QD U Jn (iI s 99) (iI s 96) (fun j => iC s 237 j) (pfM s) (fun j => iC s 229 j)) := qd_c (by omega) (by omega) (fun j _ => fm_c Gs10 (by decide)) (fun j _ => fm_c Gs10 (by decide)) (fun j _ => fm_c Gs10 (by decide))
      have hj := hps14
      rw [eQ] at hj
      refine z_if_ne X (t := 40) (show cdA 278 35 = some (.ifCond .ne 5, 3, 1, 0, 0) from rfl) (by decide) hrs14 (fun g17 => ?_) (fun g17 => ?_)
      ·
        refine z_const X (show cdA 278 40 = some (.iconst 1, 1, 0, 0, 0) from rfl) ?_
        refine z_store_n X (lv' := [(2, .int (Int32.ofInt 1)), (0, .ref (A 179)), (1, .int (Int32.ofInt x))]) (show cdA 278 41 = some (.istore_n 2, 1, 0, 0, 0) from rfl) (by decide) (fun _ h => h) ?_
        refine WS_lv (lv := [(0, .ref (A 179)), (1, .int (Int32.ofInt x)), (2, .int (Int32.ofInt 1))]) (List.forall_mem_cons.mpr ⟨(List.Mem.tail _ (List.Mem.head _)), (List.forall_mem_cons.mpr ⟨(List.Mem.tail _ (List.Mem.tail _ (List.Mem.head _))), (List.forall_mem_cons.mpr ⟨(List.Mem.head _), (fun q h => absurd h List.not_mem_nil)⟩)⟩)⟩) ?_
        refine w_widen (ce' := (3 * (1 - 1 : Int).toNat)) (sl' := (24 * (1 - 1 : Int).toNat)) (by omega) (by omega) ?_
        refine L42 ((9 - 1 : Int).toNat + 1) s14 x 1 Is14 Gs14 JRLx_s14 JMDJ_s14 JMJJ_s14 (enm_1 (nde_m hj.2.2 (by omega))) (by first | exact ⟨oq_85e7a08f g9 hps7, by decide, by decide, oq_48a52f1b ws14_73 b12.1 hps10 vs6, by omega⟩ | omega) (Nat.lt_succ_self _) ?_
        intro s18 x19 Is18 Fs18 JRLx_s18 JMDJ_s18 JMJJ_s18 Qs18 hs18
        have b20 : (0 : Int) ≤ iI s18 73 ∧ iI s18 73 ≤ 3 := Is18.1 73
        have b21 : (0 : Int) ≤ iI s18 99 ∧ iI s18 99 ≤ 6 := Is18.1 99
        have b22 : (1 : Int) ≤ iI s18 89 ∧ iI s18 89 ≤ 8 := Is18.1 89
        have b23 : (0 : Int) ≤ iI s18 96 ∧ iI s18 96 ≤ 100000 := Is18.1 96
        have b24 : ((-2147483648) : Int) ≤ iI s18 104 ∧ iI s18 104 ≤ 2147483647 := Is18.1 104
        refine z_const X (show cdA 278 68 = some (.iconst (-1), 1, 0, 0, 0) from rfl) ?_
        exact w_iret X.1 q hRt rfl (ax_d X (show cdA 278 69 = some (.ireturn, 1, 0, 0, 0) from rfl)) (show (3 * (x19 - 1 : Int).toNat) ≤ 24 by omega) (show (24 * (x19 - 1 : Int).toNat) ≤ 192 by omega) ⟨_, rfl, Is18, Fs18, JRLx_s18, (-1), rfl, (by decide), Or.inl ⟨by first | exact ⟨hs18.1.1, hs18.1.2⟩ | omega, by first | exact hs18.2.2.1 | omega, by first | exact hs18.2.2.2 | omega, enm_n Qs18 (by omega)⟩⟩
      ·
        refine z_const X (show cdA 278 38 = some (.iconst (-1), 1, 0, 0, 0) from rfl) ?_
        exact w_iret X.1 q hRt rfl (ax_d X (show cdA 278 39 = some (.ireturn, 1, 0, 0, 0) from rfl)) (Nat.zero_le _) (Nat.zero_le _) ⟨_, rfl, Is14, Gs14, JRLx_s14, (-1), rfl, (by decide), Or.inl ⟨by first | exact ⟨oq_0159bb48 g9 hps7, oq_8b498cf6 g9 hps7⟩ | omega, by first | exact oq_48a52f1b ws14_73 b12.1 hps10 vs6 | omega, by omega, Or.inl ⟨rfl, plt_no hj.2.2 (by omega)⟩⟩⟩
    ·
      refine z_const X (show cdA 278 28 = some (.iconst 0, 1, 0, 0, 0) from rfl) ?_
      exact w_iret X.1 q hRt rfl (ax_d X (show cdA 278 29 = some (.ireturn, 1, 0, 0, 0) from rfl)) (Nat.zero_le _) (Nat.zero_le _) ⟨_, rfl, Is10, Gs10, JRLx_s10, 0, rfl, (by decide), Or.inr ⟨by first | exact oq_c7ab5ef4 g13 hps10 vs6 | omega, by first | exact oq_df0d149a g13 hps10 vs6 | omega, by first | exact oq_f34933ba ws10_89 ws6_89 p1 b3.1 | omega⟩⟩
  ·
    refine z_const X (show cdA 278 16 = some (.iconst 1, 1, 0, 0, 0) from rfl) ?_
    refine z_goto X (t := 21) (show cdA 278 17 = some (.goto 4, 3, 0, 0, 0) from rfl) (by decide) ?_
    refine z_const X (show cdA 278 21 = some (.iconst 1, 1, 0, 0, 0) from rfl) ?_
    refine z_callV X 179 (rm := rmN 187) (As := [.int (Int32.ofInt 1), .int (Int32.ofInt 1)]) (st := []) (show cdA 278 22 = some (.invokevirtual 229, 3, 187, 0, 0) from rfl) rfl (by decide) rfl (by rw [E.1, E.2.1, E.2.2.1]; exact k_bad2 G Is6 (by first | exact Or.inr (by decide) | omega) (by first | exact ⟨by decide, by decide⟩ | omega)) ⟨by rw [E.2.2.2]; exact (show (rmN 187).frames + 1 ≤ (rmN 278).frames by decide), by rw [E.2.2.2]; exact (show 8 + (mNL (miB 187) + 11) + (rmN 187).locals ≤ (rmN 278).locals by decide), by rw [E.2.2.2]; exact (show 0 + (rmN 187).cells ≤ (rmN 278).cells by decide), by rw [E.2.2.2]; exact (show 0 + (rmN 187).slots ≤ (rmN 278).slots by decide)⟩ (Nat.le_of_ble_eq_true rfl) (fun vv s25 hq => ?_) (fun ee s25 hq => ?_)
    rotate_left
    · obtain ⟨Is25, Fs25, e26, hv, hrs25, hps25⟩ := hq; cases hv
    obtain ⟨Is25, Fs25, e26, hv, hrs25, hps25⟩ := hq
    cases hv
    have Gs25 := fm_ts Fs6 Fs25 (by decide) (by decide)
    have JRLx_s25 : RLx s25 := RLx_fm Fs25 (by decide) JRLx_s6
    have JMDJ_s25 : MDJ U s25 := MDJ_fm Fs25 (by decide) JMDJ_s6
    have JMJJ_s25 : MJJ Jn s25 := MJJ_fm Fs25 (by decide) JMJJ_s6
    have b27 : (0 : Int) ≤ iI s25 73 ∧ iI s25 73 ≤ 3 := Is25.1 73
    have ws25_99 : iI s25 99 = iI s6 99 := fm_i Fs25 (by decide)
    have ws25_89 : iI s25 89 = iI s6 89 := fm_i Fs25 (by decide)
    have ws25_96 : iI s25 96 = iI s6 96 := fm_i Fs25 (by decide)
    have ws25_104 : iI s25 104 = iI s6 104 := fm_i Fs25 (by decide)
    show WS k 25 [(0, .ref (A 179)), (1, .int (Int32.ofInt x))] [.int (Int32.ofInt e26)] (Wd A dT s25) 0 0
    refine z_if_eq X (t := 30) (show cdA 278 25 = some (.ifCond .eq 5, 3, 0, 0, 0) from rfl) (by decide) hrs25 (fun g28 => ?_) (fun g28 => ?_)
    ·
      refine z_aload_n X (x := A 179) (show cdA 278 30 = some (.aload_n 0, 1, 0, 0, 0) from rfl) (List.Mem.head _) ?_
      refine z_load_n X (x := x) (show cdA 278 31 = some (.iload_n 1, 1, 0, 0, 0) from rfl) (List.Mem.tail _ (List.Mem.head _)) ?_
      refine z_callV X 179 (rm := rmN 270) (As := [.int (Int32.ofInt x)]) (st := []) (show cdA 278 32 = some (.invokevirtual 422, 3, 270, 0, 0) from rfl) rfl (by decide) rfl (by rw [E.1, E.2.1, E.2.2.1]; exact k_findPlan7 G Is25 JRLx_s25 JMDJ_s25 JMJJ_s25 (by first | exact ⟨oq_674898f9 g28 hps25 vs6, oq_48516caf g28 hps25 vs6⟩ | omega) (by first | exact oq_f34933ba ws25_89 ws6_89 p1 b3.1 | omega)) ⟨by rw [E.2.2.2]; exact (show (rmN 270).frames + 1 ≤ (rmN 278).frames by decide), by rw [E.2.2.2]; exact (show 8 + (mNL (miB 270) + 11) + (rmN 270).locals ≤ (rmN 278).locals by decide), by rw [E.2.2.2]; exact (show 0 + (rmN 270).cells ≤ (rmN 278).cells by decide), by rw [E.2.2.2]; exact (show 0 + (rmN 270).slots ≤ (rmN 278).slots by decide)⟩ (Nat.le_of_ble_eq_true rfl) (fun vv s29 hq => ?_) (fun ee s29 hq => ?_)
      rotate_left
      · obtain ⟨Is29, Fs29, JRLx_s29, e30, hv, hrs29, hps29⟩ := hq; cases hv
      obtain ⟨Is29, Fs29, JRLx_s29, e30, hv, hrs29, hps29⟩ := hq
      cases hv
      have Gs29 := fm_ts Gs25 Fs29 (by decide) (by decide +kernel)
      have JRLx_s29 : RLx s29 := RLx_fm Fs29 (by decide) JRLx_s25
      have JMDJ_s29 : MDJ U s29 := MDJ_fm Fs29 (by decide) JMDJ_s25
      have JMJJ_s29 : MJJ Jn s29 := MJJ_fm Fs29 (by decide) JMJJ_s25
      have ws29_73 : iI s29 73 = iI s25 73 := fm_i Fs29 (by decide)
      have ws29_99 : iI s29 99 = iI s25 99 := fm_i Fs29 (by decide)
      have b31 : (1 : Int) ≤ iI s29 89 ∧ iI s29 89 ≤ 8 := Is29.1 89
      have ws29_96 : iI s29 96 = iI s25 96 := fm_i Fs29 (by decide)
      have ws29_104 : iI s29 104 = iI s25 104 := fm_i Fs29 (by decide)
      show WS k 35 [(0, .ref (A 179)), (1, .int (Int32.ofInt x))] [.int (Int32.ofInt e30)] (Wd A dT s29) 0 0
      have eQ : (QD U Jn (iI s25 99) (iI s25 96) (fun j => iC s25 237 j) (pfM s25) (fun j => iC s25 229 j)) = (QD U Jn (iI s 99) (iI s 96) (fun j => iC s 237 j) (pfM s) (fun j => iC s 229 j)) := qd_c (by omega) (by omega) (fun j _ => fm_c Gs25 (by decide)) (fun j _ => fm_c Gs25 (by decide)) (fun j _ => fm_c Gs25 (by decide))
      have hj := hps29
      rw [eQ] at hj
      refine z_if_ne X (t := 40) (show cdA 278 35 = some (.ifCond .ne 5, 3, 1, 0, 0) from rfl) (by decide) hrs29 (fun g32 => ?_) (fun g32 => ?_)
      ·
        refine z_const X (show cdA 278 40 = some (.iconst 1, 1, 0, 0, 0) from rfl) ?_
        refine z_store_n X (lv' := [(2, .int (Int32.ofInt 1)), (0, .ref (A 179)), (1, .int (Int32.ofInt x))]) (show cdA 278 41 = some (.istore_n 2, 1, 0, 0, 0) from rfl) (by decide) (fun _ h => h) ?_
        refine WS_lv (lv := [(0, .ref (A 179)), (1, .int (Int32.ofInt x)), (2, .int (Int32.ofInt 1))]) (List.forall_mem_cons.mpr ⟨(List.Mem.tail _ (List.Mem.head _)), (List.forall_mem_cons.mpr ⟨(List.Mem.tail _ (List.Mem.tail _ (List.Mem.head _))), (List.forall_mem_cons.mpr ⟨(List.Mem.head _), (fun q h => absurd h List.not_mem_nil)⟩)⟩)⟩) ?_
        refine w_widen (ce' := (3 * (1 - 1 : Int).toNat)) (sl' := (24 * (1 - 1 : Int).toNat)) (by omega) (by omega) ?_
        refine L42 ((9 - 1 : Int).toNat + 1) s29 x 1 Is29 Gs29 JRLx_s29 JMDJ_s29 JMJJ_s29 (enm_1 (nde_m hj.2.2 (by omega))) (by first | exact ⟨oq_9eefc06b g28 hps25 vs6, by decide, by decide, oq_8c407924 ws29_73 g28 b27.1 hps25 vs6, oq_f2ff104a g28 hps25 vs6⟩ | omega) (Nat.lt_succ_self _) ?_
        intro s33 x34 Is33 Fs33 JRLx_s33 JMDJ_s33 JMJJ_s33 Qs33 hs33
        have b35 : (0 : Int) ≤ iI s33 73 ∧ iI s33 73 ≤ 3 := Is33.1 73
        have b36 : (0 : Int) ≤ iI s33 99 ∧ iI s33 99 ≤ 6 := Is33.1 99
        have b37 : (1 : Int) ≤ iI s33 89 ∧ iI s33 89 ≤ 8 := Is33.1 89
        have b38 : (0 : Int) ≤ iI s33 96 ∧ iI s33 96 ≤ 100000 := Is33.1 96
        have b39 : ((-2147483648) : Int) ≤ iI s33 104 ∧ iI s33 104 ≤ 2147483647 := Is33.1 104
        refine z_const X (show cdA 278 68 = some (.iconst (-1), 1, 0, 0, 0) from rfl) ?_
        exact w_iret X.1 q hRt rfl (ax_d X (show cdA 278 69 = some (.ireturn, 1, 0, 0, 0) from rfl)) (show (3 * (x34 - 1 : Int).toNat) ≤ 24 by omega) (show (24 * (x34 - 1 : Int).toNat) ≤ 192 by omega) ⟨_, rfl, Is33, Fs33, JRLx_s33, (-1), rfl, (by decide), Or.inl ⟨by first | exact ⟨hs33.1.1, hs33.1.2⟩ | omega, by first | exact hs33.2.2.1 | omega, by first | exact hs33.2.2.2 | omega, enm_n Qs33 (by omega)⟩⟩
      ·
        refine z_const X (show cdA 278 38 = some (.iconst (-1), 1, 0, 0, 0) from rfl) ?_
        exact w_iret X.1 q hRt rfl (ax_d X (show cdA 278 39 = some (.ireturn, 1, 0, 0, 0) from rfl)) (Nat.zero_le _) (Nat.zero_le _) ⟨_, rfl, Is29, Gs29, JRLx_s29, (-1), rfl, (by decide), Or.inl ⟨by first | exact ⟨oq_674898f9 g28 hps25 vs6, oq_48516caf g28 hps25 vs6⟩ | omega, by first | exact oq_8c407924 ws29_73 g28 b27.1 hps25 vs6 | omega, by first | exact oq_f2ff104a g28 hps25 vs6 | omega, Or.inl ⟨rfl, plt_no hj.2.2 (by omega)⟩⟩⟩
    ·
      refine z_const X (show cdA 278 28 = some (.iconst 0, 1, 0, 0, 0) from rfl) ?_
      exact w_iret X.1 q hRt rfl (ax_d X (show cdA 278 29 = some (.ireturn, 1, 0, 0, 0) from rfl)) (Nat.zero_le _) (Nat.zero_le _) ⟨_, rfl, Is25, Gs25, JRLx_s25, 0, rfl, (by decide), Or.inr ⟨by first | exact oq_bbd535f0 g9 hps7 | omega, by first | exact oq_faabd673 g28 hps25 vs6 | omega, by first | exact oq_f34933ba ws25_89 ws6_89 p1 b3.1 | omega⟩⟩
end M87kq
