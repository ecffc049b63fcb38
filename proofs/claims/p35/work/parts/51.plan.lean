theorem oq_0f86e819  : (0 : Int).toNat < 25 := by omega
theorem oq_f35046fc {a0 a1 : Int} (h0 : a0 < a1) (h1 : a1 ≤ 6) : a0 < 6 := by omega
theorem oq_77ac74ee {a0 a1 : Int} (h0 : a0 < a1) (h1 : a1 ≤ 6) : (a0 : Int).toNat < 6 := by omega
theorem oq_7fdb8aa6 {a0 : Int} (h0 : a0 ≤ 23) : a0 < 24 := by omega
theorem oq_d2f4feca {a0 a1 : Int} (h0 : a0 < a1) (h1 : a1 ≤ 6) : (a0 + 1) ≤ 6 := by omega
theorem oq_4619bacb {a0 a1 : Int} (h0 : a0 < a1) (h1 : a1 ≤ 6) : 0 < (6 - a0) := by omega
theorem oq_7c6846ed {a0 a1 : Int} (h0 : a0 ≤ a1) (h1 : a1 ≤ 23) : a0 ≤ 2147483647 := by omega
theorem oq_1f1b09c7 {a0 : Int} (h0 : a0 ≤ 22) : (a0 + 1) < 25 := by omega
theorem oq_399f671c {a0 : Int} (h0 : a0 ≤ 22) : ((a0 + 1) : Int).toNat < 25 := by omega
theorem oq_3b693348 {a0 a1 : Int} (h0 : a0 ≤ a1) (h1 : a1 ≤ 23) : (a0 - 1) < 24 := by omega
theorem oq_14afcb3e {a0 : Int} (h0 : (-2147483648) ≤ a0) : (-2147483648) ≤ (a0 + 1) := by omega
theorem oq_8b7431d5 {a0 a1 : Int} (h0 : a0 = a1) (h1 : a1 ≤ 5) : (a0 + 1) ≤ 6 := by omega
theorem oq_ac916594 {a0 a1 : Int} (h0 : a0 = a1) (h1 : a1 ≤ 5) : 0 < (6 - a0) := by omega
theorem oq_e4712df0 {a0 a1 : Int} (h0 : a0 = a1) (h1 : a1 ≤ 5) : a0 ≤ 5 := by omega
theorem oq_1d70227b {a0 : Int} (h0 : a0 < 24) : a0 ≤ 2147483647 := by omega
theorem oq_a2237a8e {a0 : Int} (h0 : a0 < 24) : a0 < 25 := by omega
theorem oq_783cc934 {a0 : Int} (h0 : a0 < 24) : (a0 : Int).toNat < 25 := by omega
theorem oq_fe271a12 {a0 : Int} (h0 : a0 ≠ 23) (h1 : a0 < 24) (h2 : 0 ≤ a0) : (0 ≤ a0 ∧ a0 ≤ 22) := by omega
/-! The model: how a plan is told -/
section M51
variable {l : Launch} {s0 : State} {D : va_G} {tys : List (ClassId × FieldType)} {a0 : Array Value} {A : Nat → Nat} {dT : Nat → ClassId} {s : PS}
end M51
