/-! Rows of rows; masks -/
/-- c is a row of n rows of m ints: cells r0 on, arrays a0 on, all within lo and hi -/
def rwB (c r0 a0 n m : Nat) (lo hi : Int) : Bool := match bsS c with
  | .inl (3, n', .inl l) => Nat.beq n' n && Nat.blt c 518 && (List.range n).all (fun j => (match l.getD j (aR none) with | .inr (.inr (.inr (.inr (.inl (some q))))) => Nat.beq q (r0 + j) | _ => false) && Nat.blt (r0 + j) 518 && (match bsS (r0 + j) with | .inl (0, m', .inr (0, 0, a)) => Nat.beq m' m && Nat.beq a (a0 + j) | _ => false) && decide (bA (a0 + j) = (lo, hi, m)))
  | _ => false
section R2
variable {c r0 a0 n m : Nat} {lo hi : Int}
theorem rw_c (hw : rwB c r0 a0 n m lo hi = true) : c < 518 ∧ ∃ l, bsS c = .inl (3, n, .inl l) ∧ ∀ j, j < n → l.getD j (aR none) = aR (some (r0 + j)) ∧ r0 + j < 518 ∧ bsS (r0 + j) = .inl (0, m, .inr (0, 0, a0 + j)) ∧ bA (a0 + j) = (lo, hi, m) := by
  unfold rwB at hw
  split at hw
  · rename_i n' l hb
    simp only [Bool.and_eq_true] at hw
    obtain ⟨⟨h1, h2⟩, h3⟩ := hw
    have e := Nat.eq_of_beq_eq_true h1
    subst e
    refine ⟨Nat.blt_eq.mp h2, l, hb, fun j hj => ?_⟩
    have h4 := List.all_eq_true.mp h3 j (List.mem_range.mpr hj)
    simp only [Bool.and_eq_true] at h4
    obtain ⟨⟨⟨g1, g2⟩, g3⟩, g4⟩ := h4
    refine ⟨?_, Nat.blt_eq.mp g2, ?_, of_decide_eq_true g4⟩
    · split at g1
      · rename_i q hq
        rw [hq, Nat.eq_of_beq_eq_true g1]
      · cases g1
    · split at g3
      · rename_i m' a hq
        rw [Bool.and_eq_true] at g3
        rw [hq, Nat.eq_of_beq_eq_true g3.1, Nat.eq_of_beq_eq_true g3.2]
      · cases g3
  · cases hw
theorem rw_bd (hw : rwB c r0 a0 n m lo hi = true) {s : PS} (I : Bd s) {j i : Nat} (hj : j < n) (hi' : i < m) : lo ≤ iC s (a0 + j) i ∧ iC s (a0 + j) i ≤ hi := by
  obtain ⟨-, l, -, h⟩ := rw_c hw
  have e := (h j hj).2.2.2
  have := I.2 (a0 + j) i (by rw [e]; exact hi')
  rw [e] at this
  exact this
theorem rw_st (hw : rwB c r0 a0 n m lo hi = true) {s : PS} (I : Bd s) {j i : Nat} (hj : j < n) {e : Int} (he : lo ≤ e ∧ e ≤ hi) (hr : rng e) : Bd (uC s (a0 + j) i (Int32.ofInt e)) := by
  obtain ⟨-, l, -, h⟩ := rw_c hw
  exact bd_C I (by rw [(h j hj).2.2.2]; exact he) hr
variable {k : kx_T} {mn pc : Nat} {dT : Nat → ClassId} {lv : List (Nat × Value)} {st : List Value} {ce sl a b : Nat} {z : Int} {A : Nat → Nat} {s : PS}
theorem z_aald (X : AX k mn dT) (hw : rwB c r0 a0 n m lo hi = true) {i : Int} (h : cdA mn pc = some (.aaload, 1, a, b, z)) (h0 : 0 ≤ i) (hi' : i < (n : Int)) (hn : n < 2147483648) (g : WS k (pc + 1) lv (.ref (A (r0 + i.toNat)) :: st) (Wd A dT s) ce sl) : WS k pc lv (.int (Int32.ofInt i) :: .ref (A c) :: st) (Wd A dT s) ce sl := by
  obtain ⟨hc, l, hb, hl⟩ := rw_c hw
  have he := Wd_get (A := A) (dT := dT) (s := s) hc
  rw [hb] at he
  rw [on_of h0]
  refine w_aald X.1 c he (X.2.2.1 3) rfl (on_in (by omega) hn) (ax_d X h) ?_
  have e : va_rf ((fun j => if j < n then cBr (vS A s) (.inl l) j else none) (Int32.ofNat i.toNat).toNatClampNeg) = .ref (A (r0 + i.toNat)) := by
    show va_rf (if (Int32.ofNat i.toNat).toNatClampNeg < n then cR (vS A s) (l.getD (Int32.ofNat i.toNat).toNatClampNeg (aR none)) else none) = _
    rw [on_cl (by omega), if_pos (by omega), (hl i.toNat (by omega)).1]
    rfl
  rw [e]
  exact g
theorem z_ald2 (X : AX k mn dT) (hw : rwB c r0 a0 n m lo hi = true) {j : Nat} {i : Int} (h : cdA mn pc = some (.iaload, 1, 0, 0, 0)) (hj : j < n) (h0 : 0 ≤ i) (hi' : i < (m : Int)) (hm : m < 2147483648) (g : WS k (pc + 1) lv (.int (Int32.ofInt (iC s (a0 + j) i.toNat)) :: st) (Wd A dT s) ce sl) : WS k pc lv (.int (Int32.ofInt i) :: .ref (A (r0 + j)) :: st) (Wd A dT s) ce sl := by
  obtain ⟨-, l, -, hl⟩ := rw_c hw
  exact z_ald X (r0 + j) h (hl j hj).2.1 (hl j hj).2.2.1 h0 hi' hm g
theorem z_ast2 (X : AX k mn dT) (hw : rwB c r0 a0 n m lo hi = true) {j : Nat} {i e : Int} (h : cdA mn pc = some (.iastore, 1, 0, 0, 0)) (hj : j < n) (h0 : 0 ≤ i) (hi' : i < (m : Int)) (hm : m < 2147483648) (g : WS k (pc + 1) lv st (Wd A dT (uC s (a0 + j) i.toNat (Int32.ofInt e))) ce sl) : WS k pc lv (.int (Int32.ofInt e) :: .int (Int32.ofInt i) :: .ref (A (r0 + j)) :: st) (Wd A dT s) ce sl := by
  obtain ⟨-, l, -, hl⟩ := rw_c hw
  exact z_ast X (r0 + j) h (hl j hj).2.1 (hl j hj).2.2.1 h0 hi' hm g
theorem and_le (x : Int32) {q : Int} (h0 : 0 ≤ q) (hq : q ≤ 2147483647) : 0 ≤ (x &&& Int32.ofInt q).toInt ∧ (x &&& Int32.ofInt q).toInt ≤ q := by
  rw [← ofi_to x, ← z_and]
  have e1 : zN q = q.toNat := by unfold zN; omega
  have e2 : Nat.land (zN x.toInt) (zN q) ≤ q.toNat := by rw [e1]; exact Nat.and_le_right
  have e3 : zOf (Nat.land (zN x.toInt) (zN q)) = (Nat.land (zN x.toInt) (zN q) : Int) := by
    unfold zOf
    rw [if_pos (Nat.ble_eq.mpr (by omega))]
  rw [e3, zi ⟨by omega, by omega⟩]
  omega
theorem z_andm (X : AX k mn dT) {ws : va_W} {x : Int32} {q : Int} (h : cdA mn pc = some (.iand, 1, a, b, z)) (h0 : 0 ≤ q) (hq : q ≤ 2147483647) (g : ∀ e : Int, 0 ≤ e → e ≤ q → WS k (pc + 1) lv (.int (Int32.ofInt e) :: st) ws ce sl) : WS k pc lv (.int (Int32.ofInt q) :: .int x :: st) ws ce sl := by
  refine w_iand X.1 (ax_d X h) ?_
  have := g (x &&& Int32.ofInt q).toInt (and_le x h0 hq).1 (and_le x h0 hq).2
  rwa [ofi_to] at this
end R2
