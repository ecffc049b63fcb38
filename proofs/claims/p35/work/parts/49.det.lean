theorem oq_285ed02d {a0 : Int} (h0 : 0 ≤ a0) : (-1) ≤ (a0 + (-1)) := by omega
theorem oq_40e69522 {a0 : Int} (h0 : a0 ≤ 7) : (a0 + (-1)) ≤ 7 := by omega
theorem oq_256ac20b {a0 a1 : Int} (h0 : a0 ≤ (7 - a1)) : a0 ≤ (7 - (a1 + (-1))) := by omega
theorem oq_7a276f11 {a0 : Int} (h0 : 0 ≤ a0) : 0 < (a0 + 1) := by omega
theorem oq_67a5ea2f {a0 a1 : Int} (h0 : a0 ≤ (7 - a1)) : (a0 + 1) ≤ (8 - a1) := by omega
theorem oq_53cad2b6 {a0 a1 : Int} (h0 : (a0 + 1) ≤ (8 - a1)) : (a0 + 1) ≤ (7 - (a1 + (-1))) := by omega
theorem oq_78c639ed {a0 : Int} (h0 : a0 < 8) : a0 ≤ 7 := by omega
theorem oq_e4db2d1b {a0 : Int} (h0 : a0 ≠ 0) (h1 : 0 ≤ a0) : 1 ≤ a0 := by omega
theorem oq_2a65de14 {a0 a1 : Int} (h0 : a0 ≤ (7 - a1)) (h1 : (-1) ≤ a1) : a0 ≤ 8 := by omega
theorem oq_c19a3aae {a0 : Int} (h0 : a0 ≤ 7) : (a0 : Int).toNat < 8 := by omega
theorem oq_8d48a029 {a0 a1 : Int} (h0 : a0 ≤ a1) : (a0 + 1) ≤ (a1 + 1) := by omega
theorem oq_6bd25173 {a0 : Int} (h0 : a0 ≤ 7) : 0 < (8 - a0) := by omega
theorem oq_b5dbaaed {a0 a1 : Int} (h0 : a0 ≤ a1) (h1 : a1 ≤ 8) : a0 ≤ 2147483647 := by omega
/-! Determined: pairs, busy -/
section M49
variable {l : Launch} {s0 : State} {D : va_G} {tys : List (ClassId × FieldType)} {a0 : Array Value} {A : Nat → Nat} {dT : Nat → ClassId} {s : PS}
end M49
