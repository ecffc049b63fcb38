/-! hangsWithout, at the world where neck calls it, cell by cell -/
def eqW (a b : AW) : Bool := qAE (wE a) (wE b) && Nat.beq (wH a).1 (wH b).1 && qLC (wH a).2 (wH b).2 && Nat.beq (wL a) (wL b) && Nat.beq (wA a) (wA b) && Nat.beq (wX a) (wX b)
theorem eqW_ok {a b : AW} (h : eqW a b = true) : a = b := by
  obtain ⟨e1, ⟨n1, c1⟩, u1, a1, x1⟩ := a
  obtain ⟨e2, ⟨n2, c2⟩, u2, a2, x2⟩ := b
  simp only [eqW, Bool.and_eq_true] at h
  obtain ⟨⟨⟨⟨⟨h4, h5⟩, h6⟩, h7⟩, h8⟩, h9⟩ := h
  have g4 : e1 = e2 := qAE_ok h4
  have g5 : n1 = n2 := Nat.eq_of_beq_eq_true h5
  have g6 : c1 = c2 := qLC_ok h6
  have g7 : u1 = u2 := Nat.eq_of_beq_eq_true h7
  have g8 : a1 = a2 := Nat.eq_of_beq_eq_true h8
  have g9 : x1 = x2 := Nat.eq_of_beq_eq_true h9
  clear h4 h5 h6 h7 h8 h9
  rw [g4, g5, g6, g7, g8, g9]
def wN : AW := sW (narS (narS (swS 14) 1 0 0) 2 0 2147483647)
noncomputable def hwB (c : Nat) : Bool := match oMeth cfA (cxM ht0) 50 36 37 [aR (some 25), aI 0, aI (c : Int)] wN with
  | some [(.inl (some (.inl 1)), w)] => eqW w wN
  | _ => false
theorem hwB_ok {c : Nat} (h : hwB c = true) : oMeth cfA (cxM ht0) 50 36 37 [aR (some 25), aI 0, aI (c : Int)] wN = some [(.inl (some (.inl 1)), wN)] := by
  unfold hwB at h
  split at h
  · rename_i w e
    have := eqW_ok h
    subst this
    exact e
  · cases h
theorem hw_0 : (List.range 16).all (fun i => hwB (0 + i)) = true := by decide +kernel
theorem hw_1 : (List.range 16).all (fun i => hwB (16 + i)) = true := by decide +kernel
theorem hw_2 : (List.range 16).all (fun i => hwB (32 + i)) = true := by decide +kernel
theorem hw_3 : (List.range 16).all (fun i => hwB (48 + i)) = true := by decide +kernel
theorem hw_4 : (List.range 16).all (fun i => hwB (64 + i)) = true := by decide +kernel
theorem hw_5 : (List.range 16).all (fun i => hwB (80 + i)) = true := by decide +kernel
theorem hw_6 : (List.range 16).all (fun i => hwB (96 + i)) = true := by decide +kernel
theorem hw_7 : (List.range 16).all (fun i => hwB (112 + i)) = true := by decide +kernel
theorem hw_all {c : Nat} (hc : c < 128) : hwB c = true := by
  have g : ∀ {a : Nat}, (List.range 16).all (fun i => hwB (a + i)) = true → a ≤ c → c < a + 16 → hwB c = true := fun {a} h h1 h2 => by
    have := List.all_eq_true.mp h (c - a) (List.mem_range.mpr (by omega))
    rw [Nat.add_sub_cancel' h1] at this
    exact this
  rcases (show c < 16 ∨ (16 ≤ c ∧ c < 32) ∨ (32 ≤ c ∧ c < 48) ∨ (48 ≤ c ∧ c < 64) ∨ (64 ≤ c ∧ c < 80) ∨ (80 ≤ c ∧ c < 96) ∨ (96 ≤ c ∧ c < 112) ∨ 112 ≤ c by omega) with h | h | h | h | h | h | h | h
  · exact g hw_0 (by omega) (by omega)
  · exact g hw_1 (by omega) (by omega)
  · exact g hw_2 (by omega) (by omega)
  · exact g hw_3 (by omega) (by omega)
  · exact g hw_4 (by omega) (by omega)
  · exact g hw_5 (by omega) (by omega)
  · exact g hw_6 (by omega) (by omega)
  · exact g hw_7 (by omega) (by omega)
def ctW (as : List AV) (w : AW) : Option (List AR) := match as with
  | [.inr (.inr (.inr (.inr (.inl (some 25))))), .inl 0, .inl c] => if 0 ≤ c ∧ c ≤ 127 then (if eqW w wN then some [(.inl (some (.inl 1)), wN)] else none) else none
  | _ => none
section WC
variable {k : kx_T} {dT : Nat → ClassId} {a0 : Array Value} {b L : Nat} {xs : Nat → Int32}
theorem ctW_ok (X : LX k dT a0 b L xs) (h : HT) {v0 : VL} {as : List AV} {w : AW} {rs : List AR} {v : VL} (hc : ctW as w = some rs) (hw : okW bsB v w) (hA : agr wB1 v0 v) (hs : scL w as) (hB : wle wB1 w) : MB (kL k) (kS0 k) (kD k) (yA 37) (cdX (cxM h) yA byA rtA hhA 37) (mRm (xM (cxM h) 37)) (as.map (cv v)) (cW v dT bsB (wH w)) (Kd (cxM h) dT w v rs) := by
  unfold ctW at hc
  split at hc
  · rename_i c
    split at hc
    · rename_i q
      split at hc
      · rename_i e
        cases hc
        have e := eqW_ok e
        subst e
        have ho := hwB_ok (hw_all (c := c.toNat) (by omega))
        rw [Int.toNat_of_nonneg q.1] at ho
        exact meth_ok (x := cxM ht0) (vP := v0) (fun mn pc f (q : cfA mn pc = some f) => cf_ok q) (PXL X ht0) (fun _ => rfl) (ct_no (h := ht0) rfl) 50 36 37 _ _ _ v ho hw hA hs hB (Nat.le_of_ble_eq_true rfl)
      · cases hc
    · cases hc
  · cases hc
/-- the contracts, all together -/
noncomputable def ctA : Nat → List AV → AW → Option (List AR) := fun mn as w => if Nat.beq mn 239 then ctH as w else if Nat.beq mn 230 then ctS as w else if Nat.beq mn 254 then ctF as w else if Nat.beq mn 37 then ctW as w else none
noncomputable def hA : HT := (lhA, smA, ctA)
theorem ctA_ok (X : LX k dT a0 b L xs) {v0 : VL} : CtX hA k dT v0 := fun mn as w rs v q1 q2 q3 q4 q5 q6 => by
  replace q1 : ctA mn as w = some rs := q1
  unfold ctA at q1
  split at q1
  · rename_i e
    rw [Nat.eq_of_beq_eq_true e]
    exact ctH_ok X hA q1 q2
  · split at q1
    · rename_i e
      rw [Nat.eq_of_beq_eq_true e]
      exact ctS_ok X hA q1 q2
    · split at q1
      · rename_i e
        rw [Nat.eq_of_beq_eq_true e]
        exact ctF_ok X hA q1 q2 q3 q5
      · split at q1
        · rename_i e
          rw [Nat.eq_of_beq_eq_true e]
          exact ctW_ok X hA q1 q2 q3 q4 q5
        · cases q1
end WC
