theorem oq_8bddf595 {a0 a1 : Int} (h0 : a0 ≤ a1) (h1 : a1 ≤ 200) : a0 ≤ 390 := by omega
theorem oq_36461835 {a0 a1 a2 a3 a4 : Int} (h0 : a0 = a1) (h1 : a1 = a2) (h2 : a2 = a3) (h3 : a3 = a4) (h4 : a4 ≠ 8) (h5 : a4 ≤ 8) : (a0 + 1) ≤ 8 := by omega
theorem oq_971796bb {a0 a1 a2 a3 a4 : Int} (h0 : a0 = a1) (h1 : a1 ≠ 0) (h2 : 0 ≤ a1) : (a0 = 0 → (a2 < a3 ∧ a3 ≤ a4)) := by omega
theorem oq_56cdf1d3 {a0 a1 a2 a3 a4 a5 : Int} (h0 : a0 = a1) (h1 : a1 = a2) (h2 : a2 = a3) (h3 : a3 = a4) (h4 : a4 = a5) (h5 : a5 ≠ 8) (h6 : a5 ≤ 8) : (a0 + 1) ≤ 8 := by omega
theorem oq_fa715ff6 {a0 a1 a2 a3 : Int} (h0 : a0 = a1) (h1 : a1 = a2) (h2 : a2 = a3) (h3 : a3 ≠ 8) (h4 : a3 ≤ 8) : (a0 + 1) ≤ 8 := by omega
theorem oq_0f72f93b {a0 a1 a2 a3 : Int} (h0 : a0 = a1) (h1 : a1 = a2) (h2 : a2 = a3) (h3 : a3 = 0) (h4 : 0 ≤ a3) : a0 = 0 := by omega
theorem oq_f7664523 {a0 a1 a2 a3 : Int} (h0 : a0 ≠ 0) (h1 : 0 ≤ a0) : (a0 = 0 → (a1 < a2 ∧ a2 ≤ a3)) := by omega
theorem oq_7f1a346e {a0 a1 a2 a3 a4 a5 a6 a7 : Int} (h0 : a0 = a1) (h1 : a2 = a3) (h2 : a1 = a4) (h3 : a3 = a5) (h4 : a4 = a6) (h5 : a5 = a7) (h6 : a6 ≤ a7) : a0 ≤ a2 := by omega
theorem oq_d0299403 {a0 a1 a2 a3 a4 : Int} (h0 : a0 = a1) (h1 : a1 = a2) (h2 : a2 = a3) (h3 : a3 = a4) (h4 : a4 = 0) (h5 : 0 ≤ a4) : a0 = 0 := by omega
theorem oq_969cff60 {a0 a1 a2 a3 a4 a5 a6 a7 a8 a9 : Int} (h0 : a0 = a1) (h1 : a2 = a3) (h2 : a1 = a4) (h3 : a3 = a5) (h4 : a4 = a6) (h5 : a5 = a7) (h6 : a6 = a8) (h7 : a7 = a9) (h8 : a8 ≤ a9) : a0 ≤ a2 := by omega
theorem oq_7fe879e0 {a0 a1 a2 : Int} (h0 : a0 = a1) (h1 : a1 = a2) (h2 : a2 = 0) (h3 : 0 ≤ a2) : a0 = 0 := by omega
theorem oq_333640b7 {a0 a1 : Int} (h0 : a0 = a1) (h1 : a1 = 0) (h2 : 0 ≤ a1) : a0 = 0 := by omega
theorem oq_e7b9ecab {a0 a1 a2 a3 : Int} (h0 : a0 = a1) (h1 : a2 = a3) (h2 : a3 ≤ a1) : a2 ≤ a0 := by omega
theorem oq_5b7b6df3 {a0 a1 a2 a3 a4 a5 a6 : Int} (h0 : a0 = a1) (h1 : a2 ≤ a3) (h2 : 0 ≤ a1) (h3 : (a1 = 0 → (a4 < a2 ∧ a2 ≤ a5))) (h4 : a4 ≤ a2) (h5 : a6 = 0) : ((400 - a3) + (9 - a0)) < ((400 - a4) + (9 - a6)) := by omega
theorem oq_faaf1092 {a0 a1 : Int} (h0 : a0 = 0) (h1 : a1 ≤ 400) : 0 < ((400 - a1) + (9 - a0)) := by omega
theorem oq_b3df2c6f {a0 a1 : Int} (h0 : a0 = a1) (h1 : 0 ≤ a1) : (-2147483648) ≤ a0 := by omega
theorem oq_b1fe1193 {a0 a1 : Int} (h0 : a0 = a1) (h1 : a1 ≤ 200) : a0 ≤ 200 := by omega
theorem oq_1cee15ac {a0 a1 a2 a3 : Int} (h0 : a0 = a1) (h1 : a1 = a2) (h2 : a2 = a3) (h3 : a3 = 0) : a0 ≤ 390 := by omega
theorem oq_d9a35dd1 {a0 a1 a2 a3 a4 a5 : Int} (h0 : a0 = a1) (h1 : a1 = a2) (h2 : a2 = a3) (h3 : a3 = a4) (h4 : a4 = a5) (h5 : a5 = 0) : a0 = 0 := by omega
theorem oq_606f3a06 {a0 a1 a2 a3 a4 a5 a6 : Int} (h0 : a0 = a1) (h1 : a2 = a3) (h2 : a1 = a4) (h3 : a3 = a5) (h4 : a5 = a6) (h5 : a4 = 0) (h6 : a6 = 0) : a0 ≤ a2 := by omega
theorem oq_9a94ea72 {a0 a1 : Int} (h0 : a0 ≤ a1) (h1 : a1 ≤ 200) : a0 ≤ 200 := by omega
theorem oq_d3c9ade5 {a0 : Int} (h0 : 0 ≤ a0) : (-2147483648) ≤ (a0 - 10) := by omega
theorem oq_71609f9f {a0 : Int} (h0 : a0 ≤ 9) : (a0 - 10) ≤ 2147483647 := by omega
/-! The model: rules -/
section M54
variable {l : Launch} {s0 : State} {D : va_G} {tys : List (ClassId × FieldType)} {a0 : Array Value} {A : Nat → Nat} {dT : Nat → ClassId} {s : PS}
end M54
