/-! Narrower bounds -/
def Nar (E F : AE) : Prop := F.length = E.length ∧ ∀ (k : Nat) (b : Int × Int × Nat × Int), F[k]? = some b → ∃ a, E[k]? = some a ∧ b.2.2 = a.2.2
theorem Nar_rf (E : AE) : Nar E E := ⟨rfl, fun _ b h => ⟨b, h, rfl⟩⟩
theorem Nar_tr {E F G : AE} (h : Nar E F) (g : Nar F G) : Nar E G := ⟨g.1.trans h.1, fun k b hb => by
  obtain ⟨c, hc, e1⟩ := g.2 k b hb
  obtain ⟨a, ha, e2⟩ := h.2 k c hc
  exact ⟨a, ha, e1.trans e2⟩⟩
def Rf (E : AE) (v : VL) (r : Option AE) : Prop := ∃ F, r = some F ∧ Nar E F ∧ okE v F
theorem eSet_some {E : AE} {k : Nat} {b : Int × Int × Nat × Int} (h : E[k]? = some b) (lo hi : Int) : eSet E k lo hi = E.set k (lo, hi, b.2.2.1, b.2.2.2) := by
  unfold eSet
  rw [h]
theorem eSet_ok {E : AE} {v : VL} {k : Nat} {b : Int × Int × Nat × Int} (h : okE v E) (he : E[k]? = some b) {lo hi : Int} (h1 : lo ≤ (vI v k).toInt) (h2 : (vI v k).toInt ≤ hi) : Nar E (eSet E k lo hi) ∧ okE v (eSet E k lo hi) := by
  rw [eSet_some he]
  have hk : k < E.length := (List.getElem?_eq_some_iff.mp he).1
  refine ⟨⟨List.length_set, fun j c hc => ?_⟩, fun j c hc => ?_⟩
  · rw [List.getElem?_set] at hc
    by_cases e : k = j
    · subst e
      rw [if_pos rfl, if_pos hk] at hc
      cases hc
      exact ⟨b, he, rfl⟩
    · rw [if_neg e] at hc
      exact ⟨c, hc, rfl⟩
  · rw [List.getElem?_set] at hc
    by_cases e : k = j
    · subst e
      rw [if_pos rfl, if_pos hk] at hc
      cases hc
      exact ⟨h1, h2, (h k b he).2.2⟩
    · rw [if_neg e] at hc
      exact h j c hc
theorem Rf_rf {E : AE} {v : VL} (h : okE v E) : Rf E v (some E) := ⟨E, rfl, Nar_rf E, h⟩
theorem aBd_nar {E F : AE} (h : Nar E F) {a : AV} (hb : (aBd E a).isSome = true) : (aBd F a).isSome = true := by
  rcases a with z | k | n | k | r | k
  · exact hb
  · rw [aBd_s] at hb ⊢
    have hk : k < E.length := by
      cases he : E[k]? with
      | none => rw [he] at hb; cases hb
      | some e => exact (List.getElem?_eq_some_iff.mp he).1
    rw [← h.1] at hk
    rw [List.getElem?_eq_getElem hk]
    rfl
  all_goals cases hb
theorem aBd_cz {E : AE} {v : VL} {z : Int} (hb : (aBd E (.inl z)).isSome = true) : (cZ v (.inl z)).toInt = z := by
  rw [aBd_c] at hb
  by_cases hz : inI z = true
  · exact z_in hz
  · rw [if_neg hz] at hb; cases hb
theorem rLo_c (E : AE) (z lo : Int) : rLo E (.inl z) lo = if lo ≤ z then some E else none := rfl
theorem rLo_s (E : AE) (k : Nat) (lo : Int) : rLo E (.inr (.inl k)) lo = match E[k]? with
    | some b => if lo ≤ b.1 then some E else if lo ≤ b.2.1 then some (eSet E k lo b.2.1) else none
    | none => some E := rfl
theorem rHi_c (E : AE) (z hi : Int) : rHi E (.inl z) hi = if z ≤ hi then some E else none := rfl
theorem rHi_s (E : AE) (k : Nat) (hi : Int) : rHi E (.inr (.inl k)) hi = match E[k]? with
    | some b => if b.2.1 ≤ hi then some E else if b.1 ≤ hi then some (eSet E k b.1 hi) else none
    | none => some E := rfl
theorem rLo_ok {E : AE} {v : VL} (h : okE v E) {a : AV} {lo : Int} (hb : (aBd E a).isSome = true) (hl : lo ≤ (cZ v a).toInt) : Rf E v (rLo E a lo) := by
  rcases a with z | k | n | k | r | k
  · rw [aBd_cz hb] at hl
    rw [rLo_c, if_pos hl]
    exact Rf_rf h
  · rw [rLo_s]
    cases he : E[k]? with
    | none => exact Rf_rf h
    | some b =>
      have hq := h k b he
      have hl : lo ≤ (vI v k).toInt := hl
      simp only []
      by_cases c1 : lo ≤ b.1
      · rw [if_pos c1]; exact Rf_rf h
      · rw [if_neg c1, if_pos (by omega)]
        exact ⟨_, rfl, eSet_ok h he hl hq.2.1⟩
  all_goals exact Rf_rf h
theorem rHi_ok {E : AE} {v : VL} (h : okE v E) {a : AV} {hi : Int} (hb : (aBd E a).isSome = true) (hl : (cZ v a).toInt ≤ hi) : Rf E v (rHi E a hi) := by
  rcases a with z | k | n | k | r | k
  · rw [aBd_cz hb] at hl
    rw [rHi_c, if_pos hl]
    exact Rf_rf h
  · rw [rHi_s]
    cases he : E[k]? with
    | none => exact Rf_rf h
    | some b =>
      have hq := h k b he
      have hl : (vI v k).toInt ≤ hi := hl
      simp only []
      by_cases c1 : b.2.1 ≤ hi
      · rw [if_pos c1]; exact Rf_rf h
      · rw [if_neg c1, if_pos (by omega)]
        exact ⟨_, rfl, eSet_ok h he hq.1 hl⟩
  all_goals exact Rf_rf h
theorem rLe_ok {E : AE} {v : VL} (h : okE v E) {x y : AV} {d : Int} (hl : (cZ v x).toInt + d ≤ (cZ v y).toInt) : Rf E v (rLe E x y d) := by
  unfold rLe
  cases hx : aBd E x with
  | none => exact Rf_rf h
  | some bx =>
    cases hy : aBd E y with
    | none => exact Rf_rf h
    | some b_ =>
      have q1 := aBd_ok h hx
      have q2 := aBd_ok h hy
      obtain ⟨F, e1, n1, o1⟩ := rHi_ok h (a := x) (hi := b_.2 - d) (by rw [hx]; rfl) (by omega)
      obtain ⟨G, e2, n2, o2⟩ := rLo_ok o1 (a := y) (lo := bx.1 + d) (aBd_nar n1 (by rw [hy]; rfl)) (by omega)
      simp only [e1]
      exact ⟨G, e2, Nar_tr n1 n2, o2⟩
theorem rEq_ok {E : AE} {v : VL} (h : okE v E) {x y : AV} (hl : (cZ v x).toInt = (cZ v y).toInt) : Rf E v (rEq E x y) := by
  obtain ⟨F, e1, n1, o1⟩ := rLe_ok h (x := x) (y := y) (d := 0) (by omega)
  obtain ⟨G, e2, n2, o2⟩ := rLe_ok o1 (x := y) (y := x) (d := 0) (by omega)
  unfold rEq
  rw [e1]
  exact ⟨G, e2, Nar_tr n1 n2, o2⟩
theorem rNe1_c (E : AE) (a z : Int) : rNe1 E (.inl a) z = if a = z then none else some E := rfl
theorem rNe1_s (E : AE) (k : Nat) (z : Int) : rNe1 E (.inr (.inl k)) z = match E[k]? with
    | some b => if b.1 = z then (if b.2.1 = z then none else some (eSet E k (z + 1) b.2.1)) else if b.2.1 = z then some (eSet E k b.1 (z - 1)) else some E
    | none => some E := rfl
theorem rNe1_ok {E : AE} {v : VL} (h : okE v E) {a : AV} {z : Int} (hb : (aBd E a).isSome = true) (hl : (cZ v a).toInt ≠ z) : Rf E v (rNe1 E a z) := by
  rcases a with c | k | n | k | r | k
  · rw [aBd_cz hb] at hl
    rw [rNe1_c, if_neg hl]
    exact Rf_rf h
  · rw [rNe1_s]
    cases he : E[k]? with
    | none => exact Rf_rf h
    | some b =>
      have hq := h k b he
      have hl : (vI v k).toInt ≠ z := hl
      simp only []
      by_cases c1 : b.1 = z
      · rw [if_pos c1]
        by_cases c2 : b.2.1 = z
        · omega
        · rw [if_neg c2]
          exact ⟨_, rfl, eSet_ok h he (by omega) hq.2.1⟩
      · rw [if_neg c1]
        by_cases c2 : b.2.1 = z
        · rw [if_pos c2]
          exact ⟨_, rfl, eSet_ok h he hq.1 (by omega)⟩
        · rw [if_neg c2]
          exact Rf_rf h
  all_goals exact Rf_rf h
theorem rNe_ok {E : AE} {v : VL} (h : okE v E) {x y : AV} (hx : (aBd E x).isSome = true) (hy : (aBd E y).isSome = true) (hl : (cZ v x).toInt ≠ (cZ v y).toInt) : Rf E v (rNe E x y) := by
  rcases y with c | k | n | k | r | k
  · rw [aBd_cz hy] at hl
    exact rNe1_ok h hx hl
  all_goals
    rcases x with c | k' | n' | k' | r' | k'
    · rw [aBd_cz hx] at hl
      exact rNe1_ok h hy (Ne.symm hl)
    all_goals exact Rf_rf h
/-- conditions by number -/
def ccP (op : Nat) (x y : Int32) : Prop :=
  match op with
  | 0 => x.toInt = y.toInt
  | 1 => x.toInt ≠ y.toInt
  | 2 => x.toInt < y.toInt
  | 3 => y.toInt ≤ x.toInt
  | 4 => y.toInt < x.toInt
  | _ => x.toInt ≤ y.toInt
theorem rT_ok {E : AE} {v : VL} (h : okE v E) {x y : AV} (op : Nat) (hx : (aBd E x).isSome = true) (hy : (aBd E y).isSome = true) (hl : ccP op (cZ v x) (cZ v y)) : Rf E v (rT E op x y) := by
  match op, hl with
  | 0, hl => exact rEq_ok h hl
  | 1, hl => exact rNe_ok h hx hy hl
  | 2, hl => have hl : _ < _ := hl; exact rLe_ok h (d := 1) (by omega)
  | 3, hl => have hl : _ ≤ _ := hl; exact rLe_ok h (d := 0) (by omega)
  | 4, hl => have hl : _ < _ := hl; exact rLe_ok h (d := 1) (by omega)
  | op + 5, hl => have hl : _ ≤ _ := hl; exact rLe_ok h (d := 0) (by omega)
theorem rF_ok {E : AE} {v : VL} (h : okE v E) {x y : AV} (op : Nat) (hx : (aBd E x).isSome = true) (hy : (aBd E y).isSome = true) (hl : ¬ ccP op (cZ v x) (cZ v y)) : Rf E v (rF E op x y) := by
  match op, hl with
  | 0, hl => exact rNe_ok h hx hy hl
  | 1, hl => exact rEq_ok h (Decidable.of_not_not hl)
  | 2, hl => have hl : ¬ _ < _ := hl; exact rLe_ok h (d := 0) (by omega)
  | 3, hl => have hl : ¬ _ ≤ _ := hl; exact rLe_ok h (d := 1) (by omega)
  | 4, hl => have hl : ¬ _ < _ := hl; exact rLe_ok h (d := 0) (by omega)
  | op + 5, hl => have hl : ¬ _ ≤ _ := hl; exact rLe_ok h (d := 1) (by omega)
/-- a world with narrower bounds -/
theorem okW_nar {B : Nat → AC} {v : VL} {w : AW} {E : AE} (h : okW B v w) (hn : Nar (wE w) E) (hE : okE v E) : okW B v (wEnv w E) ∧ wle w (wEnv w E) := by
  have hl : wle w (wEnv w E) := ⟨Nat.le_of_eq hn.1.symm, Nat.le_refl _, Nat.le_refl _, Nat.le_refl _, Nat.le_refl _⟩
  refine ⟨⟨hE, h.2.1, fun i hi => scC_mono hl (h.2.2.1 i hi), fun k b hb => ?_⟩, hl⟩
  obtain ⟨a, ha, e⟩ := hn.2 k b hb
  show b.2.2.1 ≤ k
  rw [e]
  exact h.2.2.2 k a ha
theorem spl_ok {E : AE} {v : VL} {k : Nat} {b : Int × Int × Nat × Int} (h : okE v E) (he : E[k]? = some b) : ∃ j : Nat, j < (b.2.1 - b.1).toNat + 1 ∧ Nar E (eSet E k (b.1 + (j : Int)) (b.1 + (j : Int))) ∧ okE v (eSet E k (b.1 + (j : Int)) (b.1 + (j : Int))) := by
  have q := h k b he
  refine ⟨((vI v k).toInt - b.1).toNat, by omega, ?_⟩
  have e : b.1 + ((((vI v k).toInt - b.1).toNat : Nat) : Int) = (vI v k).toInt := by omega
  rw [e]
  exact eSet_ok h he (Int.le_refl _) (Int.le_refl _)
