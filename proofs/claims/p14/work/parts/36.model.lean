theorem oq_25953902 {a0 : Int} (h0 : a0 ≤ 100000) : a0 ≤ 2147483647 := by omega
theorem oq_02aa5459 {a0 : Int} (h0 : 1 ≤ a0) : 0 ≤ (a0 - 1) := by omega
theorem oq_19cb6f5b {a0 : Int} (h0 : a0 ≤ 24) : (a0 - 1) < 24 := by omega
theorem oq_f976b25c {a0 : Int} (h0 : a0 ≤ 24) : ((a0 - 1) : Int).toNat < 24 := by omega
theorem oq_3a454424 {a0 : Int} (h0 : a0 ≤ 24) : (a0 + 1) ≤ 2147483647 := by omega
theorem oq_52ebc553 {a0 a1 : Int} (h0 : a0 < a1) (h1 : a1 ≤ 100000) : (a0 + 1) ≤ 100000 := by omega
theorem oq_23ac7970 {a0 a1 : Int} (h0 : a0 = (a1 + 1)) (h1 : 0 ≤ a1) : 1 ≤ a0 := by omega
theorem oq_901836cd {a0 a1 : Int} (h0 : a0 < a1) : 0 < (a1 - a0) := by omega
theorem oq_3a225677 {a0 a1 a2 a3 a4 : Int} (h0 : a0 = a1) (h1 : a1 = a2) (h2 : (a2 ≤ (a3 + 1) ∨ a2 ≤ a4)) : (a0 ≤ (a3 + 1) ∨ a0 ≤ a4) := by omega
theorem oq_238e3abb {a0 a1 : Int} (h0 : a0 = a1) (h1 : a1 = 24) : 1 ≤ a0 := by omega
theorem oq_f7e8fb92 {a0 a1 : Int} (h0 : a0 = a1) (h1 : a1 ≠ 24) (h2 : a1 ≤ 24) : a0 < 24 := by omega
theorem oq_6a454d4a {a0 a1 a2 : Int} (h0 : a0 = a1) (h1 : a1 = a2) (h2 : a2 ≠ 24) (h3 : a2 ≤ 24) : (a0 + 1) ≤ 24 := by omega
theorem oq_67b737cd {a0 a1 a2 : Int} (h0 : a0 = 0) (h1 : (a1 ≠ 0 → a0 ≠ 0)) (h2 : 0 ≤ a1) : (a1 ≠ 0 → a2 ≠ 0) := by omega
theorem oq_48a46d4a {a0 a1 a2 : Int} (h0 : a0 = a1) (h1 : a1 = a2) (h2 : 1 ≤ a2) : 1 ≤ a0 := by omega
theorem oq_25e396f8 {a0 a1 a2 a3 a4 a5 : Int} (h0 : a0 = a1) (h1 : a1 = a2) (h2 : a2 = a3) (h3 : (a3 ≤ (a4 + 1) ∨ a3 ≤ a5)) : (a0 ≤ (a4 + 1) ∨ a0 ≤ a5) := by omega
theorem oq_26933c77 {a0 : Int} (h0 : 4 ≤ a0) : 0 ≤ a0 := by omega
theorem oq_161a6600 {a0 a1 : Int} (h0 : a0 < a1) : a0 ≤ a1 := by omega
theorem oq_752b3116 {a0 : Int} (h0 : a0 < 4) (h1 : a0 ≠ (-1)) (h2 : (-1) ≤ a0) : (0 ≤ a0 ∧ a0 ≤ 5) := by omega
/-! The model: one move of a way -/
section M36
variable {l : Launch} {s0 : State} {D : va_G} {tys : List (ClassId × FieldType)} {a0 : Array Value} {A : Nat → Nat} {dT : Nat → ClassId} {s : PS}
end M36
