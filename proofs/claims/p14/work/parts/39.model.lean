theorem oq_58735585 {a0 a1 : Int} (h0 : a0 ≤ ((64 * (a1 / 64)) + 64)) (h1 : a1 ≤ 127) : a0 ≤ 2147483647 := by omega
theorem oq_03182e9e {a0 a1 : Int} (h0 : a0 ≤ a1) : a0 ≤ (a1 + 1) := by omega
theorem oq_36b78649 {a0 a1 : Int} (h0 : a0 ≤ a1) (h1 : 0 ≤ a0) : 0 ≤ (a1 / 8) := by omega
theorem oq_fb4875cb {a0 a1 : Int} (h0 : a0 ≤ a1) (h1 : 0 ≤ a0) : (-2147483648) ≤ (a1 / 8) := by omega
theorem oq_f457fe4f {a0 : Int} (h0 : (-2147483648) ≤ a0) : (-2147483648) ≤ (a0 / 64) := by omega
theorem oq_e42dd4bd {a0 : Int} (h0 : a0 ≤ 2147483647) : (a0 / 64) ≤ 2147483647 := by omega
theorem oq_186a3934 {a0 : Int} (h0 : (-2147483648) ≤ a0) : (-2147483648) ≤ (a0 / 8) := by omega
theorem oq_2590a617 {a0 : Int} (h0 : a0 ≤ 2147483647) : (a0 / 8) ≤ 2147483647 := by omega
theorem oq_77708b6d {a0 a1 : Int} (h0 : a0 ≠ 0) (h1 : ((a0 = 1 ∧ (0 ≤ a1 ∧ a1 ≤ 127)) ∨ (a0 = 0 ∧ (a1 < 0 ∨ 127 < a1)))) : 0 ≤ a1 := by omega
theorem oq_88610498 {a0 a1 : Int} (h0 : a0 ≠ 0) (h1 : ((a0 = 1 ∧ (0 ≤ a1 ∧ a1 ≤ 127)) ∨ (a0 = 0 ∧ (a1 < 0 ∨ 127 < a1)))) : 0 ≤ (a1 / 8) := by omega
/-! The model: paint -/
section M39
variable {l : Launch} {s0 : State} {D : va_G} {tys : List (ClassId × FieldType)} {a0 : Array Value} {A : Nat → Nat} {dT : Nat → ClassId} {s : PS}
end M39
