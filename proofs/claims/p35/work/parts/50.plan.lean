/-! Plans: rows of the table, what is determined -/
theorem cu_rw : ∀ q, q < 25 → rwB (275 + 7 * q) (276 + 7 * q) (245 + 6 * q) 6 24 (-2147483648) 2147483647 = true := by decide +kernel
theorem cu_mem {M : List Nat} (h : ∀ j, j < 150 → 245 + j ∈ M) {q c : Nat} (hq : q < 25) (hc : c < 6) : 245 + 6 * q + c ∈ M := by
  have := h (6 * q + c) (by omega)
  rwa [← Nat.add_assoc] at this
def cuB : Bool := match bsS 274 with
  | .inl (4, 25, .inl l) => (List.range 25).all (fun j => match l.getD j (aR none) with | .inr (.inr (.inr (.inr (.inl (some q))))) => Nat.beq q (275 + 7 * j) | _ => false)
  | _ => false
theorem cu_ok : cuB = true := by decide +kernel
theorem cu_c : ∃ l, bsS 274 = .inl (4, 25, .inl l) ∧ ∀ j, j < 25 → l.getD j (aR none) = aR (some (275 + 7 * j)) := by
  have h := cu_ok
  unfold cuB at h
  split at h
  · rename_i l hb
    refine ⟨l, hb, fun j hj => ?_⟩
    have h4 := List.all_eq_true.mp h j (List.mem_range.mpr hj)
    split at h4
    · rename_i q hq
      rw [hq, Nat.eq_of_beq_eq_true h4]
    · cases h4
  · cases h
theorem z_a3 {k : kx_T} {mn pc : Nat} {dT : Nat → ClassId} {lv : List (Nat × Value)} {st : List Value} {ce sl a b : Nat} {z : Int} {A : Nat → Nat} {s : PS} (X : AX k mn dT) {i : Int} (h : cdA mn pc = some (.aaload, 1, a, b, z)) (h0 : 0 ≤ i) (hi' : i < 25) (g : WS k (pc + 1) lv (.ref (A (275 + 7 * i.toNat)) :: st) (Wd A dT s) ce sl) : WS k pc lv (.int (Int32.ofInt i) :: .ref (A 274) :: st) (Wd A dT s) ce sl := by
  obtain ⟨l, hb, hl⟩ := cu_c
  have he := Wd_get (A := A) (dT := dT) (s := s) (show 274 < 518 by decide)
  rw [hb] at he
  rw [on_of h0]
  refine w_aald X.1 274 he (X.2.2.1 4) rfl (on_in (by omega) (by decide)) (ax_d X h) ?_
  have e : va_rf ((fun j => if j < 25 then cBr (vS A s) (.inl l) j else none) (Int32.ofNat i.toNat).toNatClampNeg) = .ref (A (275 + 7 * i.toNat)) := by
    show va_rf (if (Int32.ofNat i.toNat).toNatClampNeg < 25 then cR (vS A s) (l.getD (Int32.ofNat i.toNat).toNatClampNeg (aR none)) else none) = _
    rw [on_cl (by omega), if_pos (by omega), hl i.toNat (by omega)]
    rfl
  rw [e]
  exact g
section M50
variable {l : Launch} {s0 : State} {D : va_G} {tys : List (ClassId × FieldType)} {a0 : Array Value} {A : Nat → Nat} {dT : Nat → ClassId} {s : PS}
end M50
/-! The table of a plan -/
abbrev tb (t : PS) (q c j : Nat) : Int := iC t (245 + 6 * q + c) j