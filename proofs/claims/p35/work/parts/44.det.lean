theorem oq_a49e6adf {a0 a1 : Int} (h0 : a0 ≠ 0) (h1 : 0 ≤ a0) : (a0 = 0 → a1 < a1) := by omega
theorem oq_886c3d04 {a0 a1 : Int} (h0 : (a0 = a1 ∨ a0 ≤ 202)) (h1 : a1 ≤ 203) : (a0 + 1) ≤ 400 := by omega
theorem oq_82f073b0 {a0 a1 a2 : Int} {n3 : Nat} (h0 : a0 = a1) (h1 : (a2 + (((n3 + 1) : Nat) : Int)) = 7) (h2 : a1 = a2) : (a0 + (((n3 + 1) : Nat) : Int)) = 7 := by omega
theorem oq_78548c36 (r : Nat) : (12 + (3 * (r + 1) + 2)) + 1 ≤ (12 + (24 + 3 * (r + 1))) := by omega
theorem oq_7957a5e4 (r : Nat) : 8 + (4 + 11) + (500 + 45 * (3 * (r + 1) + 2)) ≤ (500 + 45 * (24 + 3 * (r + 1))) := by omega
theorem oq_36eaf53c (r : Nat) : 7 + 1 ≤ (12 + (24 + 3 * (r + 1))) := by omega
theorem oq_a27e1a18 (r : Nat) : 8 + (1 + 11) + 121 ≤ (500 + 45 * (24 + 3 * (r + 1))) := by omega
theorem oq_51b017a3 (r : Nat) : 6 + 1 ≤ (12 + (24 + 3 * (r + 1))) := by omega
theorem oq_e45c9306 (r : Nat) : 8 + (2 + 11) + 100 ≤ (500 + 45 * (24 + 3 * (r + 1))) := by omega
theorem oq_53e0fa7a (r : Nat) : 8 + (3 + 11) + 100 ≤ (500 + 45 * (24 + 3 * (r + 1))) := by omega
theorem oq_91dbadf4 (r : Nat) : 8 + 1 ≤ (12 + (24 + 3 * (r + 1))) := by omega
theorem oq_2d8c6e6c (r : Nat) : 8 + (3 + 11) + 141 ≤ (500 + 45 * (24 + 3 * (r + 1))) := by omega
theorem oq_22dfea8e (r : Nat) : 8 + (7 + 11) + 100 ≤ (500 + 45 * (24 + 3 * (r + 1))) := by omega
theorem oq_cfa0a9a6 {a0 a1 a2 a3 a4 a5 : Int} (h0 : 0 ≤ a0) (h1 : (a0 = 0 → a1 ≤ a2)) (h2 : a2 = a3) (h3 : a3 = a4) (h4 : a4 = a5) : (a0 = 0 → a1 ≤ a5) := by omega
theorem oq_2520a5c5 (r : Nat) : 8 + (2 + 11) + 122 ≤ (500 + 45 * (24 + 3 * (r + 1))) := by omega
theorem oq_853f7f04 (r : Nat) : (12 + (24 + 3 * (r) + 2)) + 1 ≤ (12 + (24 + 3 * (r + 1))) := by omega
theorem oq_4ce40754 (r : Nat) : 8 + (3 + 11) + (500 + 45 * (24 + 3 * (r) + 2)) ≤ (500 + 45 * (24 + 3 * (r + 1))) := by omega
theorem oq_da5feea9 (r : Nat) : 8 + (2 + 11) + 141 ≤ (500 + 45 * (24 + 3 * (r + 1))) := by omega
theorem oq_02269255 (r : Nat) : (12 + (24 + 3 * (r))) + 1 ≤ (12 + (24 + 3 * (r + 1))) := by omega
theorem oq_bcf847ad (r : Nat) : 8 + (4 + 11) + (500 + 45 * (24 + 3 * (r))) ≤ (500 + 45 * (24 + 3 * (r + 1))) := by omega
theorem oq_78ade64d {a0 a1 : Int} (h0 : a0 ≤ 1) (h1 : 0 ≤ a0) (h2 : ((a1 ≠ 0 ∧ a0 = 0) ∨ (a1 = 0 ∧ a0 = 1))) : (a0 = 0 ∨ a0 = 1) := by omega
theorem oq_179d6548 {a0 a1 : Int} (h0 : (a0 = a1 ∨ a0 ≤ 203)) (h1 : a1 ≤ 203) : a0 ≤ 390 := by omega
theorem oq_39e70b4f (r : Nat) : 8 + 1 ≤ (12 + (24 + 3 * (r) + 1)) := by omega
theorem oq_c22861ba (r : Nat) : 8 + (3 + 11) + 141 ≤ (500 + 45 * (24 + 3 * (r) + 1)) := by omega
theorem oq_daac07eb (r : Nat) : 6 + 1 ≤ (12 + (24 + 3 * (r) + 1)) := by omega
theorem oq_40ed5dd2 (r : Nat) : 8 + (7 + 11) + 100 ≤ (500 + 45 * (24 + 3 * (r) + 1)) := by omega
theorem oq_ede76fc4 (r : Nat) : 7 + 1 ≤ (12 + (24 + 3 * (r) + 1)) := by omega
theorem oq_71ab51d5 (r : Nat) : 8 + (1 + 11) + 121 ≤ (500 + 45 * (24 + 3 * (r) + 1)) := by omega
theorem oq_03e50da9 (r : Nat) : (12 + (24 + 3 * (r))) + 1 ≤ (12 + (24 + 3 * (r) + 1)) := by omega
theorem oq_cc4dfda7 (r : Nat) : 8 + (4 + 11) + (500 + 45 * (24 + 3 * (r))) ≤ (500 + 45 * (24 + 3 * (r) + 1)) := by omega
theorem oq_469c7eaf {a0 a1 a2 a3 a4 a5 : Int} (h0 : a0 = a1) (h1 : a1 = a2) (h2 : a2 = a3) (h3 : a3 = a4) (h4 : a4 = a5) : a0 = a5 := by omega
theorem oq_b9f2246e (r : Nat) : 8 + 1 ≤ (12 + (24 + 3 * (r) + 2)) := by omega
theorem oq_ae9e04d0 (r : Nat) : 8 + (3 + 11) + 141 ≤ (500 + 45 * (24 + 3 * (r) + 2)) := by omega
theorem oq_4491863e (r : Nat) : 6 + 1 ≤ (12 + (24 + 3 * (r) + 2)) := by omega
theorem oq_c822b081 (r : Nat) : 8 + (7 + 11) + 100 ≤ (500 + 45 * (24 + 3 * (r) + 2)) := by omega
theorem oq_9f278ef5 (r : Nat) : 7 + 1 ≤ (12 + (24 + 3 * (r) + 2)) := by omega
theorem oq_6c94e1da (r : Nat) : 8 + (1 + 11) + 121 ≤ (500 + 45 * (24 + 3 * (r) + 2)) := by omega
theorem oq_137d3732 (r : Nat) : (12 + (24 + 3 * (r) + 1)) + 1 ≤ (12 + (24 + 3 * (r) + 2)) := by omega
theorem oq_58b847aa (r : Nat) : 8 + (3 + 11) + (500 + 45 * (24 + 3 * (r) + 1)) ≤ (500 + 45 * (24 + 3 * (r) + 2)) := by omega
/-! Determined: tests -/
section M44
variable {l : Launch} {s0 : State} {D : va_G} {tys : List (ClassId × FieldType)} {a0 : Array Value} {A : Nat → Nat} {dT : Nat → ClassId} {s : PS}
end M44
