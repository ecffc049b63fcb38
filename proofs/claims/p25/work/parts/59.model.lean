theorem oq_29e5dbe2 {a0 : Int} (h0 : a0 ≤ 255) : a0 < 256 := by omega
theorem oq_c39a26fc {a0 : Int} (h0 : a0 ≤ 255) : (a0 : Int).toNat < 256 := by omega
theorem oq_09cd9fc1 {a0 : Int} (h0 : a0 ≤ 256) : a0 ≤ 2147483647 := by omega
theorem oq_0e4c52fb {a0 : Int} (h0 : a0 ≤ 255) : 0 < (256 - a0) := by omega
theorem oq_861e1648 {a0 : Int} (h0 : a0 ≤ 2) : a0 ≤ 2147483647 := by omega
theorem oq_b4026d49 {a0 : Int} (h0 : a0 < 256) : a0 ≤ 255 := by omega
theorem oq_7f42415e  : (0 : Int).toNat < 8 := by omega
theorem oq_57e4ae5d : 6 + 1 ≤ (12 + (12 + (0))) := by omega
theorem oq_67d961ff : 8 + (7 + 11) + 100 ≤ (500 + 45 * (12 + (0))) := by omega
theorem oq_23161452 (r : Nat) : (12 + (12 + (r))) + 1 ≤ (12 + (12 + (r + 1))) := by omega
theorem oq_5db9f55c (r : Nat) : 8 + (5 + 11) + (500 + 45 * (12 + (r))) ≤ (500 + 45 * (12 + (r + 1))) := by omega
theorem oq_06adfc3a {a0 a1 : Int} (h0 : a0 ≠ a1) (h1 : a0 ≤ a1) (h2 : 0 ≤ a0) : (0 ≤ a0 ∧ a0 < a1) := by omega
theorem oq_895d89e2 (r : Nat) : 6 + 1 ≤ (12 + (12 + (r + 1))) := by omega
theorem oq_41a8610d (r : Nat) : 8 + (7 + 11) + 100 ≤ (500 + 45 * (12 + (r + 1))) := by omega
theorem oq_0f93fca7 {a0 a1 a2 : Int} (h0 : a0 = a1) (h1 : a1 = a2) (h2 : 0 ≤ a2) : 0 ≤ a0 := by omega
theorem oq_869f4868 {a0 a1 a2 : Int} (h0 : a0 = a1) (h1 : a1 = a2) (h2 : a2 ≤ 8) : (a0 - 0) ≤ ((8 : Nat) : Int) := by omega
theorem oq_7efb0865 : 32 + 1 ≤ 38 := by omega
theorem oq_2d6821c8 : 8 + (5 + 11) + 1400 ≤ 1601 := by omega
theorem oq_ce6c459a {a0 a1 : Int} (h0 : a0 ≠ 0) (h1 : ((a0 = 1 ∧ (1 ≤ a1 ∧ a1 ≤ 3)) ∨ (a0 = 0 ∧ (a1 < 1 ∨ 3 < a1)))) : 1 ≤ a1 := by omega
theorem oq_3bba0cb6 {a0 a1 : Int} (h0 : a0 ≠ 0) (h1 : ((a0 = 1 ∧ (1 ≤ a1 ∧ a1 ≤ 3)) ∨ (a0 = 0 ∧ (a1 < 1 ∨ 3 < a1)))) : a1 ≤ 3 := by omega
/-! The model: regions -/
theorem shl1 {y : Int} (h : 0 ≤ y ∧ y ≤ 11) : 1 ≤ (Int32.ofInt 1 <<< (Int32.ofInt y &&& 31)).toInt ∧ (Int32.ofInt 1 <<< (Int32.ofInt y &&& 31)).toInt ≤ 2048 ∧ (y ≤ 8 → (Int32.ofInt 1 <<< (Int32.ofInt y &&& 31)).toInt ≤ 256) ∧ (y ≤ 7 → (Int32.ofInt 1 <<< (Int32.ofInt y &&& 31)).toInt ≤ 128) := by
  have : y = 0 ∨ y = 1 ∨ y = 2 ∨ y = 3 ∨ y = 4 ∨ y = 5 ∨ y = 6 ∨ y = 7 ∨ y = 8 ∨ y = 9 ∨ y = 10 ∨ y = 11 := by omega
  rcases this with e | e | e | e | e | e | e | e | e | e | e | e <;> subst e <;> decide +kernel
theorem or_bd (n : Nat) (hn : n ≤ 30) {x y : Int} (hx : 0 ≤ x ∧ x < 2 ^ n) (hy : 0 ≤ y ∧ y < 2 ^ n) : 0 ≤ (Int32.ofInt x ||| Int32.ofInt y).toInt ∧ (Int32.ofInt x ||| Int32.ofInt y).toInt < 2 ^ n := by
  have hp : (2 : Int) ^ n ≤ 2 ^ 30 := by
    have := Nat.pow_le_pow_right (n := 2) (by decide) hn
    have e : ((2 ^ n : Nat) : Int) = 2 ^ n := by simp
    have e2 : ((2 ^ 30 : Nat) : Int) = 2 ^ 30 := by decide
    omega
  have h30 : (2 : Int) ^ 30 = 1073741824 := by decide
  have hb : x < 1073741824 ∧ y < 1073741824 := by omega
  rw [← z_or]
  have ex : zN x = x.toNat := by unfold zN; omega
  have ey : zN y = y.toNat := by unfold zN; omega
  have e : ((2 ^ n : Nat) : Int) = 2 ^ n := by simp
  have hl : Nat.lor (zN x) (zN y) < 2 ^ n := by
    rw [ex, ey]
    exact Nat.or_lt_two_pow (by omega) (by omega)
  have hl2 : ((Nat.lor (zN x) (zN y) : Nat) : Int) < 2 ^ n := by omega
  have e3 : zOf (Nat.lor (zN x) (zN y)) = (Nat.lor (zN x) (zN y) : Int) := by
    unfold zOf
    rw [if_pos (Nat.ble_eq.mpr (by omega))]
  rw [e3, zi ⟨by omega, by omega⟩]
  omega
section ZX
variable {k : kx_T} {mn pc : Nat} {dT : Nat → ClassId} {lv : List (Nat × Value)} {st : List Value} {ws : va_W} {ce sl a b : Nat} {z : Int}
theorem z_shl1 (X : AX k mn dT) {y : Int} (h : cdA mn pc = some (.ishl, 1, a, b, z)) (hy : 0 ≤ y ∧ y ≤ 11) (g : ∀ e : Int, 1 ≤ e → e ≤ 2048 → (y ≤ 8 → e ≤ 256) → (y ≤ 7 → e ≤ 128) → WS k (pc + 1) lv (.int (Int32.ofInt e) :: st) ws ce sl) : WS k pc lv (.int (Int32.ofInt y) :: .int (Int32.ofInt 1) :: st) ws ce sl := by
  obtain ⟨h1, h2, h3, h4⟩ := shl1 hy
  have := g _ h1 h2 h3 h4
  rw [ofi_to] at this
  exact z_bshl X h this
theorem z_orb (X : AX k mn dT) {x y : Int} (h : cdA mn pc = some (.ior, 1, a, b, z)) (n : Nat) (hn : n ≤ 30) (hx : 0 ≤ x ∧ x < 2 ^ n) (hy : 0 ≤ y ∧ y < 2 ^ n) (g : ∀ e : Int, 0 ≤ e → e < 2 ^ n → WS k (pc + 1) lv (.int (Int32.ofInt e) :: st) ws ce sl) : WS k pc lv (.int (Int32.ofInt y) :: .int (Int32.ofInt x) :: st) ws ce sl := by
  obtain ⟨h1, h2⟩ := or_bd n hn hx hy
  have := g _ h1 h2
  rw [ofi_to] at this
  exact z_bor X h this
end ZX
section M59
variable {l : Launch} {s0 : State} {D : va_G} {tys : List (ClassId × FieldType)} {a0 : Array Value} {A : Nat → Nat} {dT : Nat → ClassId} {s : PS}
end M59
