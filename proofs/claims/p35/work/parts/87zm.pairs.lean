theorem oq_f66a5b0b {a0 a1 : Int} (h0 : ((a0 = 0 ∧ a1 = 1) ∨ (a0 = 1 ∧ a1 ≠ 1))) : (-2147483648) ≤ a0 := by omega
theorem oq_edc73ca0 {a0 a1 : Int} (h0 : ((a0 = 0 ∧ a1 = 1) ∨ (a0 = 1 ∧ a1 ≠ 1))) : a0 ≤ 2147483647 := by omega
theorem oq_8d1ba3eb {a0 a1 : Int} (h0 : 0 ≤ a0) (h1 : 0 ≤ a1) : 0 ≤ ((a1 * 24) + a0) := by omega
theorem oq_6e3114c9 {a0 : Int} (h0 : a0 < 16777216) : a0 ≤ 16777215 := by omega
theorem oq_cc49ca4d {a0 : Int} (h0 : a0 < 16777216) : a0 ≤ 2147483647 := by omega
theorem oq_b66a42df {a0 : Int} (h0 : a0 < 6) : a0 ≠ 6 := by omega
theorem oq_756b0634 {a0 : Int} (h0 : a0 < 0) : a0 < 16777216 := by omega
theorem oq_300138af {a0 a1 a2 a3 a4 : Int} (h0 : a0 = a1) (h1 : a1 = a2) (h2 : a3 = 0) (h3 : 0 ≤ a2) (h4 : ((1 = 1 ∧ (a4 = 0 ∧ (a2 = 1 ∧ a3 = 1))) ∨ ((1 = 0 ∨ a4 ≠ 0) ∧ (a2 = a4 ∧ ((a3 = 0 ∧ a4 = 0) ∨ (a3 = 1 ∧ a4 ≠ 0)))))) (h5 : a4 = 0) : a0 = 0 := by omega
theorem oq_8651e5d1 {a0 a1 a2 a3 a4 : Int} (h0 : a0 = a1) (h1 : a2 = a0) (h2 : a3 = a2) (h3 : a4 = (a3 + 1)) (h4 : a4 ≤ 6) : a1 ≠ 6 := by omega
theorem oq_d8d7de21 {a0 a1 a2 a3 a4 : Int} (h0 : a0 = a1) (h1 : a2 = (a3 + 1)) (h2 : a4 = a0) (h3 : a3 = a4) : (a2 - 1) = a1 := by omega
theorem oq_5d1b36c5 {a0 a1 a2 a3 a4 : Int} (h0 : a0 = a1) (h1 : a2 = (a3 + 1)) (h2 : a4 = a0) (h3 : a3 = a4) : a2 = (a1 + 1) := by omega
theorem oq_f4d57307 {a0 a1 a2 : Int} (h0 : a0 = 0) (h1 : 0 ≤ a1) (h2 : ((1 = 1 ∧ (a2 = 0 ∧ (a1 = 1 ∧ a0 = 1))) ∨ ((1 = 0 ∨ a2 ≠ 0) ∧ (a1 = a2 ∧ ((a0 = 0 ∧ a2 = 0) ∨ (a0 = 1 ∧ a2 ≠ 0)))))) (h3 : a2 = 0) : a1 = 0 := by omega
theorem oq_5f36277d {a0 a1 a2 : Int} (h0 : a0 ≤ 6) (h1 : a1 = a0) (h2 : a2 = a1) (h3 : a2 = 6) : a0 = 6 := by omega
theorem oq_9aa1f5c4 {a0 a1 a2 a3 a4 : Int} (h0 : a0 = a1) (h1 : a1 = a2) (h2 : 0 ≤ a2) (h3 : ((0 = 1 ∧ (a3 = 0 ∧ (a2 = 1 ∧ a4 = 1))) ∨ ((0 = 0 ∨ a3 ≠ 0) ∧ (a2 = a3 ∧ ((a4 = 0 ∧ a3 = 0) ∨ (a4 = 1 ∧ a3 ≠ 0)))))) (h4 : a3 = 0) : a0 = 0 := by omega
theorem oq_93520411 {a0 a1 a2 : Int} (h0 : 0 ≤ a0) (h1 : ((0 = 1 ∧ (a1 = 0 ∧ (a0 = 1 ∧ a2 = 1))) ∨ ((0 = 0 ∨ a1 ≠ 0) ∧ (a0 = a1 ∧ ((a2 = 0 ∧ a1 = 0) ∨ (a2 = 1 ∧ a1 ≠ 0)))))) (h2 : a1 = 0) : a0 = 0 := by omega
theorem oq_5542692d {a0 a1 a2 a3 : Int} (h0 : a0 ≠ 0) (h1 : ((0 = 1 ∧ (a1 = 0 ∧ (a2 = 1 ∧ a0 = 1))) ∨ ((0 = 0 ∨ a1 ≠ 0) ∧ (a2 = a1 ∧ ((a0 = 0 ∧ a1 = 0) ∨ (a0 = 1 ∧ a1 ≠ 0)))))) (h2 : a1 = 0) : (a3 < 0 ∨ 16777216 ≤ a3) := by omega
theorem oq_ad9b0d65 {a0 a1 a2 a3 : Int} (h0 : a0 = 0) (h1 : ((1 = 1 ∧ (a1 = 0 ∧ (a2 = 1 ∧ a0 = 1))) ∨ ((1 = 0 ∨ a1 ≠ 0) ∧ (a2 = a1 ∧ ((a0 = 0 ∧ a1 = 0) ∨ (a0 = 1 ∧ a1 ≠ 0)))))) (h2 : a1 = 0) : a3 ≤ 16777215 := by omega
theorem oq_b08bdb49 {a0 a1 a2 a3 : Int} (h0 : a0 = 0) (h1 : ((1 = 1 ∧ (a1 = 0 ∧ (a2 = 1 ∧ a0 = 1))) ∨ ((1 = 0 ∨ a1 ≠ 0) ∧ (a2 = a1 ∧ ((a0 = 0 ∧ a1 = 0) ∨ (a0 = 1 ∧ a1 ≠ 0)))))) (h2 : a1 = 0) : a3 < 16777216 := by omega
theorem oq_aceef97b {a0 a1 a2 a3 a4 : Int} (h0 : a0 ≠ 0) (h1 : ((0 = 1 ∧ (a1 = 0 ∧ (a2 = 1 ∧ a0 = 1))) ∨ ((0 = 0 ∨ a1 ≠ 0) ∧ (a2 = a1 ∧ ((a0 = 0 ∧ a1 = 0) ∨ (a0 = 1 ∧ a1 ≠ 0)))))) (h2 : a1 = 0) : (a3 < 0 ∨ a4 ≤ a3) := by omega
theorem oq_0e49e287 {a0 a1 a2 : Int} (h0 : a0 ≠ 0) (h1 : ((a0 = 1 ∧ (0 ≤ a1 ∧ a1 ≤ (a2 - 1))) ∨ (a0 = 0 ∧ (a1 < 0 ∨ (a2 - 1) < a1)))) (h2 : a2 ≤ 6) : a1 ≤ 5 := by omega
theorem oq_66ac7e01 {a0 a1 a2 a3 : Int} (h0 : a0 ≠ 0) (h1 : ((a0 = 1 ∧ (0 ≤ a1 ∧ a1 ≤ (a2 - 1))) ∨ (a0 = 0 ∧ (a1 < 0 ∨ (a2 - 1) < a1)))) (h2 : a2 = a3) : a1 < a3 := by omega
theorem oq_10301d6e {a0 a1 a2 a3 a4 a5 a6 : Int} (h0 : a0 = a1) (h1 : a1 = a2) (h2 : 0 ≤ a2) (h3 : ((0 = 1 ∧ (a3 = 0 ∧ (a2 = 2 ∧ a4 = 1))) ∨ ((0 = 0 ∨ a3 ≠ 0) ∧ (a2 = a3 ∧ ((a4 = 0 ∧ a3 = 0) ∨ (a4 = 1 ∧ a3 ≠ 0)))))) (h4 : ((0 = 1 ∧ (a5 = 0 ∧ (a3 = 1 ∧ a6 = 1))) ∨ ((0 = 0 ∨ a5 ≠ 0) ∧ (a3 = a5 ∧ ((a6 = 0 ∧ a5 = 0) ∨ (a6 = 1 ∧ a5 ≠ 0)))))) (h5 : a5 = 0) : a0 = 0 := by omega
theorem oq_57d20485 {a0 a1 a2 a3 a4 a5 : Int} (h0 : a0 ≠ 0) (h1 : ((0 = 1 ∧ (a1 = 0 ∧ (a2 = 2 ∧ a0 = 1))) ∨ ((0 = 0 ∨ a1 ≠ 0) ∧ (a2 = a1 ∧ ((a0 = 0 ∧ a1 = 0) ∨ (a0 = 1 ∧ a1 ≠ 0)))))) (h2 : 0 ≤ a1) (h3 : ((0 = 1 ∧ (a3 = 0 ∧ (a1 = 1 ∧ a4 = 1))) ∨ ((0 = 0 ∨ a3 ≠ 0) ∧ (a1 = a3 ∧ ((a4 = 0 ∧ a3 = 0) ∨ (a4 = 1 ∧ a3 ≠ 0)))))) (h4 : a3 = 0) : (a5 < 0 ∨ 23 < a5) := by omega
theorem oq_d5561c67 {a0 a1 a2 a3 a4 : Int} (h0 : a0 ≠ 0) (h1 : ((0 = 1 ∧ (a1 = 0 ∧ (a2 = 2 ∧ a0 = 1))) ∨ ((0 = 0 ∨ a1 ≠ 0) ∧ (a2 = a1 ∧ ((a0 = 0 ∧ a1 = 0) ∨ (a0 = 1 ∧ a1 ≠ 0)))))) (h2 : 0 ≤ a1) (h3 : ((0 = 1 ∧ (a3 = 0 ∧ (a1 = 1 ∧ a4 = 1))) ∨ ((0 = 0 ∨ a3 ≠ 0) ∧ (a1 = a3 ∧ ((a4 = 0 ∧ a3 = 0) ∨ (a4 = 1 ∧ a3 ≠ 0)))))) (h4 : a3 = 0) : a2 = 2 := by omega
theorem oq_463bdcff {a0 a1 a2 a3 a4 a5 : Int} (h0 : a0 = 0) (h1 : ((1 = 1 ∧ (a1 = 0 ∧ (a2 = 2 ∧ a0 = 1))) ∨ ((1 = 0 ∨ a1 ≠ 0) ∧ (a2 = a1 ∧ ((a0 = 0 ∧ a1 = 0) ∨ (a0 = 1 ∧ a1 ≠ 0)))))) (h2 : 0 ≤ a1) (h3 : ((0 = 1 ∧ (a3 = 0 ∧ (a1 = 1 ∧ a4 = 1))) ∨ ((0 = 0 ∨ a3 ≠ 0) ∧ (a1 = a3 ∧ ((a4 = 0 ∧ a3 = 0) ∨ (a4 = 1 ∧ a3 ≠ 0)))))) (h4 : a3 = 0) : a5 ≤ 23 := by omega
theorem oq_7f658433 {a0 a1 a2 a3 a4 a5 a6 : Int} (h0 : a0 = a1) (h1 : a1 = a2) (h2 : a3 = 0) (h3 : 0 ≤ a2) (h4 : ((1 = 1 ∧ (a4 = 0 ∧ (a2 = 2 ∧ a3 = 1))) ∨ ((1 = 0 ∨ a4 ≠ 0) ∧ (a2 = a4 ∧ ((a3 = 0 ∧ a4 = 0) ∨ (a3 = 1 ∧ a4 ≠ 0)))))) (h5 : ((0 = 1 ∧ (a5 = 0 ∧ (a4 = 1 ∧ a6 = 1))) ∨ ((0 = 0 ∨ a5 ≠ 0) ∧ (a4 = a5 ∧ ((a6 = 0 ∧ a5 = 0) ∨ (a6 = 1 ∧ a5 ≠ 0)))))) (h6 : a5 = 0) : a0 = 0 := by omega
theorem oq_9b5e108e {a0 a1 a2 a3 a4 a5 : Int} (h0 : a0 = 0) (h1 : ((1 = 1 ∧ (a1 = 0 ∧ (a2 = 2 ∧ a0 = 1))) ∨ ((1 = 0 ∨ a1 ≠ 0) ∧ (a2 = a1 ∧ ((a0 = 0 ∧ a1 = 0) ∨ (a0 = 1 ∧ a1 ≠ 0)))))) (h2 : 0 ≤ a1) (h3 : ((0 = 1 ∧ (a3 = 0 ∧ (a1 = 1 ∧ a4 = 1))) ∨ ((0 = 0 ∨ a3 ≠ 0) ∧ (a1 = a3 ∧ ((a4 = 0 ∧ a3 = 0) ∨ (a4 = 1 ∧ a3 ≠ 0)))))) (h4 : a3 = 0) : a5 = 1 := by omega
theorem oq_bbd535f0 {a0 a1 : Int} (h0 : a0 = 0) (h1 : ((a0 = 1 ∧ (0 ≤ a1 ∧ a1 ≤ 23)) ∨ (a0 = 0 ∧ (a1 < 0 ∨ 23 < a1)))) : (a1 < 0 ∨ 23 < a1) := by omega
theorem oq_58114a90 {a0 a1 a2 a3 a4 : Int} (h0 : a0 ≠ 0) (h1 : ((1 = 1 ∧ (a1 = 0 ∧ (a2 = 2 ∧ a0 = 1))) ∨ ((1 = 0 ∨ a1 ≠ 0) ∧ (a2 = a1 ∧ ((a0 = 0 ∧ a1 = 0) ∨ (a0 = 1 ∧ a1 ≠ 0)))))) (h2 : 0 ≤ a1) (h3 : ((0 = 1 ∧ (a3 = 0 ∧ (a1 = 1 ∧ a4 = 1))) ∨ ((0 = 0 ∨ a3 ≠ 0) ∧ (a1 = a3 ∧ ((a4 = 0 ∧ a3 = 0) ∨ (a4 = 1 ∧ a3 ≠ 0)))))) (h4 : a3 = 0) : a2 = 2 := by omega
theorem oq_37b0c81a {a0 a1 a2 a3 : Int} (h0 : a0 = 0) (h1 : ((a0 = 1 ∧ (0 ≤ a1 ∧ a1 ≤ (a2 - 1))) ∨ (a0 = 0 ∧ (a1 < 0 ∨ (a2 - 1) < a1)))) (h2 : a2 = a3) : (a1 < 0 ∨ a3 ≤ a1) := by omega
theorem oq_83f05759 {a0 a1 a2 a3 : Int} (h0 : a0 = 0) (h1 : ((1 = 1 ∧ (a1 = 0 ∧ (a2 = 1 ∧ a0 = 1))) ∨ ((1 = 0 ∨ a1 ≠ 0) ∧ (a2 = a1 ∧ ((a0 = 0 ∧ a1 = 0) ∨ (a0 = 1 ∧ a1 ≠ 0)))))) (h2 : a1 = 0) : a3 ≤ 5 := by omega
theorem oq_9e014ecb {a0 a1 a2 a3 a4 : Int} (h0 : a0 = 0) (h1 : ((1 = 1 ∧ (a1 = 0 ∧ (a2 = 1 ∧ a0 = 1))) ∨ ((1 = 0 ∨ a1 ≠ 0) ∧ (a2 = a1 ∧ ((a0 = 0 ∧ a1 = 0) ∨ (a0 = 1 ∧ a1 ≠ 0)))))) (h2 : a1 = 0) : a3 < a4 := by omega
theorem oq_93bb5266 {a0 a1 a2 a3 a4 a5 a6 : Int} (h0 : a0 = a1) (h1 : a1 = a2) (h2 : 0 ≤ a2) (h3 : ((0 = 1 ∧ (a3 = 0 ∧ (a2 = 2 ∧ a4 = 1))) ∨ ((0 = 0 ∨ a3 ≠ 0) ∧ (a2 = a3 ∧ ((a4 = 0 ∧ a3 = 0) ∨ (a4 = 1 ∧ a3 ≠ 0)))))) (h4 : a5 = 0) (h5 : ((1 = 1 ∧ (a6 = 0 ∧ (a3 = 1 ∧ a5 = 1))) ∨ ((1 = 0 ∨ a6 ≠ 0) ∧ (a3 = a6 ∧ ((a5 = 0 ∧ a6 = 0) ∨ (a5 = 1 ∧ a6 ≠ 0)))))) (h6 : a6 = 0) : a0 = 0 := by omega
theorem oq_f2ff104a {a0 a1 a2 a3 : Int} (h0 : a0 = 0) (h1 : ((1 = 1 ∧ (a1 = 0 ∧ (a2 = 1 ∧ a0 = 1))) ∨ ((1 = 0 ∨ a1 ≠ 0) ∧ (a2 = a1 ∧ ((a0 = 0 ∧ a1 = 0) ∨ (a0 = 1 ∧ a1 ≠ 0)))))) (h2 : a1 = 0) : a3 = 1 := by omega
theorem oq_73a3fb0e {a0 a1 a2 a3 a4 a5 : Int} (h0 : a0 ≠ 0) (h1 : ((0 = 1 ∧ (a1 = 0 ∧ (a2 = 2 ∧ a0 = 1))) ∨ ((0 = 0 ∨ a1 ≠ 0) ∧ (a2 = a1 ∧ ((a0 = 0 ∧ a1 = 0) ∨ (a0 = 1 ∧ a1 ≠ 0)))))) (h2 : a3 = 0) (h3 : 0 ≤ a1) (h4 : ((1 = 1 ∧ (a4 = 0 ∧ (a1 = 1 ∧ a3 = 1))) ∨ ((1 = 0 ∨ a4 ≠ 0) ∧ (a1 = a4 ∧ ((a3 = 0 ∧ a4 = 0) ∨ (a3 = 1 ∧ a4 ≠ 0)))))) (h5 : a4 = 0) : 0 ≤ a5 := by omega
theorem oq_c3287dae {a0 a1 a2 a3 a4 a5 a6 : Int} (h0 : a0 ≠ 0) (h1 : ((0 = 1 ∧ (a1 = 0 ∧ (a2 = 2 ∧ a0 = 1))) ∨ ((0 = 0 ∨ a1 ≠ 0) ∧ (a2 = a1 ∧ ((a0 = 0 ∧ a1 = 0) ∨ (a0 = 1 ∧ a1 ≠ 0)))))) (h2 : a3 = 0) (h3 : 0 ≤ a1) (h4 : ((1 = 1 ∧ (a4 = 0 ∧ (a1 = 1 ∧ a3 = 1))) ∨ ((1 = 0 ∨ a4 ≠ 0) ∧ (a1 = a4 ∧ ((a3 = 0 ∧ a4 = 0) ∨ (a3 = 1 ∧ a4 ≠ 0)))))) (h5 : a4 = 0) : a5 < a6 := by omega
theorem oq_ed7de2a7 {a0 a1 a2 a3 a4 a5 : Int} (h0 : a0 ≠ 0) (h1 : ((0 = 1 ∧ (a1 = 0 ∧ (a2 = 2 ∧ a0 = 1))) ∨ ((0 = 0 ∨ a1 ≠ 0) ∧ (a2 = a1 ∧ ((a0 = 0 ∧ a1 = 0) ∨ (a0 = 1 ∧ a1 ≠ 0)))))) (h2 : a3 = 0) (h3 : 0 ≤ a1) (h4 : ((1 = 1 ∧ (a4 = 0 ∧ (a1 = 1 ∧ a3 = 1))) ∨ ((1 = 0 ∨ a4 ≠ 0) ∧ (a1 = a4 ∧ ((a3 = 0 ∧ a4 = 0) ∨ (a3 = 1 ∧ a4 ≠ 0)))))) (h5 : a4 = 0) : (a5 < 0 ∨ 23 < a5) := by omega
theorem oq_6832cf95 {a0 a1 a2 a3 a4 : Int} (h0 : a0 ≠ 0) (h1 : ((0 = 1 ∧ (a1 = 0 ∧ (a2 = 2 ∧ a0 = 1))) ∨ ((0 = 0 ∨ a1 ≠ 0) ∧ (a2 = a1 ∧ ((a0 = 0 ∧ a1 = 0) ∨ (a0 = 1 ∧ a1 ≠ 0)))))) (h2 : a3 = 0) (h3 : 0 ≤ a1) (h4 : ((1 = 1 ∧ (a4 = 0 ∧ (a1 = 1 ∧ a3 = 1))) ∨ ((1 = 0 ∨ a4 ≠ 0) ∧ (a1 = a4 ∧ ((a3 = 0 ∧ a4 = 0) ∨ (a3 = 1 ∧ a4 ≠ 0)))))) (h5 : a4 = 0) : a2 = 2 := by omega
theorem oq_ceb05602 {a0 a1 a2 a3 a4 a5 : Int} (h0 : a0 = 0) (h1 : ((1 = 1 ∧ (a1 = 0 ∧ (a2 = 2 ∧ a0 = 1))) ∨ ((1 = 0 ∨ a1 ≠ 0) ∧ (a2 = a1 ∧ ((a0 = 0 ∧ a1 = 0) ∨ (a0 = 1 ∧ a1 ≠ 0)))))) (h2 : a3 = 0) (h3 : 0 ≤ a1) (h4 : ((1 = 1 ∧ (a4 = 0 ∧ (a1 = 1 ∧ a3 = 1))) ∨ ((1 = 0 ∨ a4 ≠ 0) ∧ (a1 = a4 ∧ ((a3 = 0 ∧ a4 = 0) ∨ (a3 = 1 ∧ a4 ≠ 0)))))) (h5 : a4 = 0) : a5 ≤ 23 := by omega
theorem oq_9c97fdf0 {a0 a1 a2 a3 a4 a5 : Int} (h0 : a0 = 0) (h1 : ((1 = 1 ∧ (a1 = 0 ∧ (a2 = 2 ∧ a0 = 1))) ∨ ((1 = 0 ∨ a1 ≠ 0) ∧ (a2 = a1 ∧ ((a0 = 0 ∧ a1 = 0) ∨ (a0 = 1 ∧ a1 ≠ 0)))))) (h2 : a3 = 0) (h3 : 0 ≤ a1) (h4 : ((1 = 1 ∧ (a4 = 0 ∧ (a1 = 1 ∧ a3 = 1))) ∨ ((1 = 0 ∨ a4 ≠ 0) ∧ (a1 = a4 ∧ ((a3 = 0 ∧ a4 = 0) ∨ (a3 = 1 ∧ a4 ≠ 0)))))) (h5 : a4 = 0) : a5 ≤ 5 := by omega
theorem oq_bbcf2221 {a0 a1 a2 a3 a4 a5 a6 : Int} (h0 : a0 = 0) (h1 : ((1 = 1 ∧ (a1 = 0 ∧ (a2 = 2 ∧ a0 = 1))) ∨ ((1 = 0 ∨ a1 ≠ 0) ∧ (a2 = a1 ∧ ((a0 = 0 ∧ a1 = 0) ∨ (a0 = 1 ∧ a1 ≠ 0)))))) (h2 : a3 = 0) (h3 : 0 ≤ a1) (h4 : ((1 = 1 ∧ (a4 = 0 ∧ (a1 = 1 ∧ a3 = 1))) ∨ ((1 = 0 ∨ a4 ≠ 0) ∧ (a1 = a4 ∧ ((a3 = 0 ∧ a4 = 0) ∨ (a3 = 1 ∧ a4 ≠ 0)))))) (h5 : a4 = 0) : a5 < a6 := by omega
theorem oq_6f27d0be {a0 a1 a2 a3 a4 a5 a6 : Int} (h0 : a0 = a1) (h1 : a1 = a2) (h2 : a3 = 0) (h3 : 0 ≤ a2) (h4 : ((1 = 1 ∧ (a4 = 0 ∧ (a2 = 2 ∧ a3 = 1))) ∨ ((1 = 0 ∨ a4 ≠ 0) ∧ (a2 = a4 ∧ ((a3 = 0 ∧ a4 = 0) ∨ (a3 = 1 ∧ a4 ≠ 0)))))) (h5 : a5 = 0) (h6 : ((1 = 1 ∧ (a6 = 0 ∧ (a4 = 1 ∧ a5 = 1))) ∨ ((1 = 0 ∨ a6 ≠ 0) ∧ (a4 = a6 ∧ ((a5 = 0 ∧ a6 = 0) ∨ (a5 = 1 ∧ a6 ≠ 0)))))) (h7 : a6 = 0) : a0 = 0 := by omega
theorem oq_737265e4 {a0 a1 a2 a3 a4 a5 : Int} (h0 : a0 = 0) (h1 : ((1 = 1 ∧ (a1 = 0 ∧ (a2 = 2 ∧ a0 = 1))) ∨ ((1 = 0 ∨ a1 ≠ 0) ∧ (a2 = a1 ∧ ((a0 = 0 ∧ a1 = 0) ∨ (a0 = 1 ∧ a1 ≠ 0)))))) (h2 : a3 = 0) (h3 : 0 ≤ a1) (h4 : ((1 = 1 ∧ (a4 = 0 ∧ (a1 = 1 ∧ a3 = 1))) ∨ ((1 = 0 ∨ a4 ≠ 0) ∧ (a1 = a4 ∧ ((a3 = 0 ∧ a4 = 0) ∨ (a3 = 1 ∧ a4 ≠ 0)))))) (h5 : a4 = 0) : a5 = 1 := by omega
theorem oq_85f1bbdc {a0 a1 a2 a3 a4 : Int} (h0 : a0 ≠ 0) (h1 : ((1 = 1 ∧ (a1 = 0 ∧ (a2 = 2 ∧ a0 = 1))) ∨ ((1 = 0 ∨ a1 ≠ 0) ∧ (a2 = a1 ∧ ((a0 = 0 ∧ a1 = 0) ∨ (a0 = 1 ∧ a1 ≠ 0)))))) (h2 : a3 = 0) (h3 : 0 ≤ a1) (h4 : ((1 = 1 ∧ (a4 = 0 ∧ (a1 = 1 ∧ a3 = 1))) ∨ ((1 = 0 ∨ a4 ≠ 0) ∧ (a1 = a4 ∧ ((a3 = 0 ∧ a4 = 0) ∨ (a3 = 1 ∧ a4 ≠ 0)))))) (h5 : a4 = 0) : a2 = 2 := by omega
/-! The pairs that a configuration needs, where it can be -/
theorem upd_2 {a : Nat} {i x y : Int} {s t u : PS} (h : UPD a i x s t) (g : UPD a i y t u) : UPD a i y s u := ⟨g.1, fun j hj => (g.2 j hj).trans (h.2 j hj)⟩
theorem upd_v {a : Nat} {i x y : Int} {s t : PS} (h : UPD a i x s t) (e : x = y) : UPD a i y s t := e ▸ h
/-- the group of a piece -/
def grD (d p : Int) : Int := ((Int32.ofInt d >>> (Int32.ofInt (3 * p) &&& 31)) &&& Int32.ofInt 7).toInt
theorem grd_of {d p y e : Int} (h1 : Int32.ofInt y = Int32.ofInt d >>> (Int32.ofInt (3 * p) &&& 31)) (h2 : Int32.ofInt e = Int32.ofInt y &&& Int32.ofInt 7) (r : rng e) : e = grD d p := of_to r (by rw [h2, h1])
/-- a piece with cells is of a group -/
def inG (d : Int) (f : Nat → Int) (g : Int) (p : Nat) : Prop := grD d (p : Int) = g ∧ presF f p
/-- the pieces 7, 6 .. of a group: how many, which is the least, their cells -/
noncomputable def gcN (d : Int) (f : Nat → Int) (g : Int) (k : Nat) : Int := sm (fun j => i01 (inG d f g (7 - j))) k
noncomputable def giN (d : Int) (f : Nat → Int) (g : Int) : Nat → Int
  | 0 => -1
  | k + 1 => i01 (inG d f g (7 - k)) * ((7 - k : Nat) : Int) + (1 - i01 (inG d f g (7 - k))) * giN d f g k
def gsN (d : Int) (f : Nat → Int) (g : Int) (k : Nat) (x : Int) : Prop := ∃ j, j < k ∧ inG d f g (7 - j) ∧ pcS f ((7 - j : Nat) : Int) x
theorem gin_y {d : Int} {f : Nat → Int} {g : Int} {k : Nat} (h : inG d f g (7 - k)) : giN d f g (k + 1) = ((7 - k : Nat) : Int) := by
  show i01 (inG d f g (7 - k)) * ((7 - k : Nat) : Int) + (1 - i01 (inG d f g (7 - k))) * giN d f g k = _
  rw [i01_t h, Int.one_mul, Int.sub_self, Int.zero_mul, Int.add_zero]
theorem gin_n {d : Int} {f : Nat → Int} {g : Int} {k : Nat} (h : ¬ inG d f g (7 - k)) : giN d f g (k + 1) = giN d f g k := by
  show i01 (inG d f g (7 - k)) * ((7 - k : Nat) : Int) + (1 - i01 (inG d f g (7 - k))) * giN d f g k = _
  rw [i01_f h, Int.zero_mul, Int.sub_zero, Int.one_mul, Int.zero_add]
theorem gcn_y {d : Int} {f : Nat → Int} {g : Int} {k : Nat} (h : inG d f g (7 - k)) : gcN d f g (k + 1) = gcN d f g k + 1 := by
  show sm _ k + i01 (inG d f g (7 - k)) = _
  rw [i01_t h]; rfl
theorem gcn_n {d : Int} {f : Nat → Int} {g : Int} {k : Nat} (h : ¬ inG d f g (7 - k)) : gcN d f g (k + 1) = gcN d f g k := by
  show sm _ k + i01 (inG d f g (7 - k)) = _
  rw [i01_f h, Int.add_zero]; rfl
theorem gsn_y {d : Int} {f : Nat → Int} {g : Int} {k : Nat} (h : inG d f g (7 - k)) (x : Int) : gsN d f g (k + 1) x ↔ gsN d f g k x ∨ pcS f ((7 - k : Nat) : Int) x := by
  constructor
  · rintro ⟨j, j1, j2, j3⟩
    by_cases e : j = k
    · subst e; exact Or.inr j3
    · exact Or.inl ⟨j, by omega, j2, j3⟩
  · rintro (⟨j, j1, j2, j3⟩ | q)
    · exact ⟨j, by omega, j2, j3⟩
    · exact ⟨k, by omega, h, q⟩
theorem gsn_n {d : Int} {f : Nat → Int} {g : Int} {k : Nat} (h : ¬ inG d f g (7 - k)) (x : Int) : gsN d f g (k + 1) x ↔ gsN d f g k x := by
  constructor
  · rintro ⟨j, j1, j2, j3⟩
    by_cases e : j = k
    · subst e; exact absurd j2 h
    · exact ⟨j, by omega, j2, j3⟩
  · rintro ⟨j, j1, j2, j3⟩
    exact ⟨j, by omega, j2, j3⟩
theorem gsn_cel {d : Int} {f : Nat → Int} {g : Int} {k : Nat} {x : Int} (h : gsN d f g k x) : 0 ≤ x ∧ x ≤ 127 := by
  obtain ⟨j, -, -, h⟩ := h
  exact h.1
theorem gcn_r {d : Int} {f : Nat → Int} {g : Int} : ∀ k : Nat, 0 ≤ gcN d f g k ∧ gcN d f g k ≤ (k : Int)
  | 0 => ⟨Int.le_refl _, Int.le_refl _⟩
  | k + 1 => by
    have a := gcn_r (d := d) (f := f) (g := g) k
    have b := i01_r (p := inG d f g (7 - k))
    have e : gcN d f g (k + 1) = gcN d f g k + i01 (inG d f g (7 - k)) := rfl
    rw [e]
    omega
theorem ing_c {d g : Int} {f f' : Nat → Int} (h : ∀ j, j < 128 → f j = f' j) (p : Nat) : inG d f g p ↔ inG d f' g p := by
  unfold inG
  rw [prs_c h]
theorem ing_f {d g : Int} {f f' : Nat → Int} (h : ∀ j, j < 128 → f j = f' j) : inG d f g = inG d f' g := funext (fun p => propext (ing_c h p))
theorem gcn_c {d g : Int} {f f' : Nat → Int} (h : ∀ j, j < 128 → f j = f' j) (k : Nat) : gcN d f g k = gcN d f' g k := by
  unfold gcN
  rw [ing_f h]
theorem gin_c {d g : Int} {f f' : Nat → Int} (h : ∀ j, j < 128 → f j = f' j) : ∀ k : Nat, giN d f g k = giN d f' g k
  | 0 => rfl
  | k + 1 => by
    show i01 (inG d f g (7 - k)) * ((7 - k : Nat) : Int) + (1 - i01 (inG d f g (7 - k))) * giN d f g k = i01 (inG d f' g (7 - k)) * ((7 - k : Nat) : Int) + (1 - i01 (inG d f' g (7 - k))) * giN d f' g k
    rw [gin_c h k, ing_f h]
theorem gsn_c {d g : Int} {f f' : Nat → Int} (h : ∀ j, j < 128 → f j = f' j) (k : Nat) : gsN d f g k = gsN d f' g k := funext (fun x => by
  unfold gsN
  rw [ing_f h]
  simp only [pcs_c h])
theorem gin_b {d g : Int} {f : Nat → Int} : ∀ k : Nat, k ≤ 8 → (gcN d f g k = 0 ∧ giN d f g k = -1) ∨ (0 < gcN d f g k ∧ 0 ≤ giN d f g k ∧ giN d f g k ≤ 7)
  | 0, _ => Or.inl ⟨rfl, rfl⟩
  | k + 1, hk => by
    have z := gin_b (d := d) (g := g) (f := f) k (by omega)
    have r := gcn_r (d := d) (f := f) (g := g) k
    by_cases h : inG d f g (7 - k)
    · rw [gcn_y h, gin_y h]; omega
    · rw [gcn_n h, gin_n h]; exact z
/-- a set can be: its load, and its joins if it is made of several -/
def OKS (U : AirD) (J : List Int → Prop) (S : Int → Prop) (pc li : Int) (q : Nat) : Prop := (ldH U S pc q (-1)).toInt ≤ li ∧ (pc = 1 ∨ JHO J (nmH S (uW U) (moW U q (-1)) (uN U) pc))
def OKG (U : AirD) (J : List Int → Prop) (d : Int) (f lim : Nat → Int) (g : Int) (q : Nat) : Prop := gcN d f g 8 = 0 ∨ OKS U J (gsN d f g 8) (gcN d f g 8) (lim (giN d f g 8).toNat) q
/-- what speaks of a quarter's mosts alone -/
def TWU (U : AirD) (P : Nat → Prop) : Prop := ∀ q r : Nat, (∀ x, x < uN U → uM U q x = uM U r x) → (P q ↔ P r)
theorem twu_oks {U : AirD} {J : List Int → Prop} {S : Int → Prop} {pc li : Int} : TWU U (OKS U J S pc li) := fun q r h => by
  have e : nmH S (uW U) (moW U q (-1)) (uN U) pc = nmH S (uW U) (moW U r (-1)) (uN U) pc := nmh_c wye_rf (fun x hx => by rw [mow_1, mow_1]; exact h x hx)
  unfold OKS
  rw [ldh_q h, e]
theorem twu_okg {U : AirD} {J : List Int → Prop} {d g : Int} {f lim : Nat → Int} : TWU U (OKG U J d f lim g) := fun q r h => by
  unfold OKG
  rw [twu_oks q r h]
/-- the groups below n can be -/
def PGN (U : AirD) (J : List Int → Prop) (d : Int) (f lim : Nat → Int) (n : Int) (q : Nat) : Prop := ∀ g : Nat, (g : Int) < n → OKG U J d f lim (g : Int) q
theorem twu_pgn {U : AirD} {J : List Int → Prop} {d n : Int} {f lim : Nat → Int} : TWU U (PGN U J d f lim n) := fun q r h => ⟨fun z g hg => (twu_okg q r h).mp (z g hg), fun z g hg => (twu_okg q r h).mpr (z g hg)⟩
theorem pgn_up {U : AirD} {J : List Int → Prop} {d n : Int} {f lim : Nat → Int} (n0 : 0 ≤ n) {q : Nat} : PGN U J d f lim (n + 1) q ↔ PGN U J d f lim n q ∧ OKG U J d f lim n q := by
  have en : ((n.toNat : Nat) : Int) = n := by omega
  have ns : n < n + 1 := by omega
  constructor
  · intro z
    exact ⟨fun g hg => z g (Int.lt_trans hg ns), by have w := z n.toNat (by rw [en]; exact ns); rw [en] at w; exact w⟩
  · intro z g hg
    by_cases c9 : g = n.toNat
    · subst c9
      rw [en]; exact z.2
    · exact z.1 g (nx_lt n0 c9 hg)
/-- how many groups have cells -/
noncomputable def npG (d : Int) (f : Nat → Int) (n : Nat) : Int := sm (fun g => i01 (0 < gcN d f (g : Int) 8)) n
theorem npg_r {d : Int} {f : Nat → Int} : ∀ n : Nat, 0 ≤ npG d f n ∧ npG d f n ≤ (n : Int)
  | 0 => ⟨Int.le_refl _, Int.le_refl _⟩
  | n + 1 => by
    have a := npg_r (d := d) (f := f) n
    have b := i01_r (p := 0 < gcN d f (n : Int) 8)
    have e : npG d f (n + 1) = npG d f n + i01 (0 < gcN d f (n : Int) 8) := rfl
    rw [e]
    omega
theorem npg_y {d n : Int} {f : Nat → Int} (n0 : 0 ≤ n) (h : 0 < gcN d f n 8) : npG d f (n + 1).toNat = npG d f n.toNat + 1 := by
  rw [show (n + 1).toNat = n.toNat + 1 by omega]
  show npG d f n.toNat + i01 (0 < gcN d f ((n.toNat : Nat) : Int) 8) = _
  rw [show ((n.toNat : Nat) : Int) = n by omega, i01_t h]
theorem npg_n {d n : Int} {f : Nat → Int} (n0 : 0 ≤ n) (h : gcN d f n 8 = 0) : npG d f (n + 1).toNat = npG d f n.toNat := by
  rw [show (n + 1).toNat = n.toNat + 1 by omega]
  show npG d f n.toNat + i01 (0 < gcN d f ((n.toNat : Nat) : Int) 8) = _
  rw [show ((n.toNat : Nat) : Int) = n by omega, i01_f (by rw [h]; exact Int.lt_irrefl _), Int.add_zero]
theorem npg_c {d : Int} {f f' : Nat → Int} (h : ∀ j, j < 128 → f j = f' j) (n : Nat) : npG d f n = npG d f' n := sm_eq (fun g _ => by
  show i01 (0 < gcN d f (g : Int) 8) = i01 (0 < gcN d f' (g : Int) 8)
  rw [gcn_c h])
/-- the answer: how many pairs, or that it can not be -/
def PRE (U : AirD) (J : List Int → Prop) (d : Int) (f lim : Nat → Int) (q : Nat) (e : Int) : Prop := (e = npG d f 8 ∧ PGN U J d f lim 8 q) ∨ (e = -1 ∧ ¬ PGN U J d f lim 8 q)
theorem okg_c {U : AirD} {J : List Int → Prop} {d g : Int} {f f' lim lim' : Nat → Int} (h : ∀ j, j < 128 → f j = f' j) (hl : ∀ j, j < 8 → lim j = lim' j) (q : Nat) : OKG U J d f lim g q ↔ OKG U J d f' lim' g q := by
  have z := gin_b (d := d) (g := g) (f := f) 8 (Nat.le_refl _)
  unfold OKG
  rw [← gcn_c h 8, ← gin_c h 8, ← gsn_c h 8]
  rcases z with z | z
  · exact ⟨fun _ => Or.inl z.1, fun _ => Or.inl z.1⟩
  · rw [hl _ (by omega)]
theorem pgn_c {U : AirD} {J : List Int → Prop} {d n : Int} {f f' lim lim' : Nat → Int} (h : ∀ j, j < 128 → f j = f' j) (hl : ∀ j, j < 8 → lim j = lim' j) (q : Nat) : PGN U J d f lim n q ↔ PGN U J d f' lim' n q := ⟨fun z g hg => (okg_c h hl q).mp (z g hg), fun z g hg => (okg_c h hl q).mpr (z g hg)⟩
theorem pre_eq {U : AirD} {J : List Int → Prop} {d d' e e' : Int} {f f' lim lim' : Nat → Int} {q q' : Nat} (h : ∀ j, j < 128 → f j = f' j) (hl : ∀ j, j < 8 → lim j = lim' j) (hd : d = d') (hq : q = q') (a : PRE U J d f lim q e) (b : PRE U J d' f' lim' q' e') : e = e' := by
  subst hd hq
  unfold PRE at b
  rw [← npg_c h 8, ← pgn_c h hl q] at b
  rcases a with ⟨a1, a2⟩ | ⟨a1, a2⟩
  · rcases b with ⟨b1, b2⟩ | ⟨b1, b2⟩
    · exact a1.trans b1.symm
    · exact absurd a2 b2
  · rcases b with ⟨b1, b2⟩ | ⟨b1, b2⟩
    · exact absurd b2 a2
    · exact a1.trans b1.symm
/-! the class's -/
def CNB (c : Int) (q : Nat) (P : Prop) (s : PS) : Prop := (iC s 48 (c * 24 + (q : Int)).toNat = 1 ∧ P) ∨ (iC s 48 (c * 24 + (q : Int)).toNat = 0 ∧ ¬ P)
def CNQ (P : Nat → Prop) (c : Int) (s : PS) : Prop := ∀ q : Nat, q < 24 → CNB c q (P q) s
def CNL (P O : Nat → Prop) (c n : Int) (s : PS) : Prop := ∀ q : Nat, q < 24 → CNB c q (P q ∧ ((q : Int) < n → O q)) s
/-- nothing else is told -/
def CNO (c : Int) (s t : PS) : Prop := ∀ j : Nat, ((j : Int) < c * 24 ∨ c * 24 + 24 ≤ (j : Int)) → iC t 48 j = iC s 48 j
theorem cno_rf {c : Int} {s : PS} : CNO c s s := fun _ _ => rfl
theorem cno_ts {c : Int} {s t u : PS} (h : CNO c s t) (g : CNO c t u) : CNO c s u := fun j hj => (g j hj).trans (h j hj)
theorem cno_sam {c : Int} {s t : PS} (h : SAM 48 s t) : CNO c s t := fun j _ => h j
theorem cno_upd {c n v : Int} {s t : PS} (h : UPD 48 (c * 24 + n) v s t) (n0 : 0 ≤ n ∧ n ≤ 23) (c0 : 0 ≤ c) : CNO c s t := fun j hj => h.2 j (by omega)
theorem cnb_s {c : Int} {q : Nat} {P : Prop} {s t : PS} (h : CNB c q P s) (e : iC t 48 (c * 24 + (q : Int)).toNat = iC s 48 (c * 24 + (q : Int)).toNat) : CNB c q P t := by
  unfold CNB
  rw [e]; exact h
theorem cnb_p {c : Int} {q : Nat} {P Q : Prop} {s : PS} (h : CNB c q P s) (e : P ↔ Q) : CNB c q Q s := h.imp (fun z => ⟨z.1, e.mp z.2⟩) (fun z => ⟨z.1, fun w => z.2 (e.mpr w)⟩)
theorem cnq_s {P : Nat → Prop} {c : Int} {s t : PS} (h : CNQ P c s) (e : SAM 48 s t) : CNQ P c t := fun q hq => cnb_s (h q hq) (e _)
theorem cnl_0 {P O : Nat → Prop} {c : Int} {s : PS} (h : CNQ P c s) : CNL P O c 0 s := fun q hq => cnb_p (h q hq) ⟨fun z => ⟨z, fun w => absurd w (by omega)⟩, fun z => z.1⟩
theorem cnl_e {P O : Nat → Prop} {c n : Int} {s : PS} (h : CNL P O c n s) (hn : n = 24) : CNQ (fun q => P q ∧ O q) c s := fun q hq => cnb_p (h q hq) ⟨fun z => ⟨z.1, z.2 (by omega)⟩, fun z => ⟨z.1, fun _ => z.2⟩⟩
theorem ix_ne {c n : Int} {q : Nat} (c0 : 0 ≤ c) (n0 : 0 ≤ n) (h : q ≠ n.toNat) : (c * 24 + (q : Int)).toNat ≠ (c * 24 + n).toNat := by omega
theorem ix_eq {c n : Int} {q : Nat} (n0 : 0 ≤ n) (h : q = n.toNat) : (c * 24 + (q : Int)).toNat = (c * 24 + n).toNat := by omega
theorem qn_lt {q : Nat} {n : Int} (n0 : 0 ≤ n) (h : q ≠ n.toNat) : (q : Int) < n + 1 ↔ (q : Int) < n := by omega
theorem qn_at {q : Nat} {n : Int} (n0 : 0 ≤ n) (h : q = n.toNat) : (q : Int) < n + 1 ∧ ¬ (q : Int) < n := by omega
theorem cnl_up {P O : Nat → Prop} {c n v : Int} {t u : PS} (h : CNL P O c n t) (n0 : 0 ≤ n ∧ n ≤ 23) (c0 : 0 ≤ c) (hu : UPD 48 (c * 24 + n) v t u) (hv : (v = 1 ∧ P n.toNat ∧ O n.toNat) ∨ (v = 0 ∧ ¬ (P n.toNat ∧ O n.toNat))) : CNL P O c (n + 1) u := fun q hq => by
  by_cases c9 : q = n.toNat
  · have w := (qn_at n0.1 c9).1
    unfold CNB
    rw [ix_eq n0.1 c9, hu.1]
    subst c9
    exact hv.imp (fun z => ⟨z.1, z.2.1, fun _ => z.2.2⟩) (fun z => ⟨z.1, fun y => z.2 ⟨y.1, y.2 w⟩⟩)
  · refine cnb_s (s := t) (cnb_p (h q hq) ?_) (hu.2 _ (ix_ne c0 n0.1 c9))
    rw [qn_lt n0.1 c9]
theorem cnl_no {P O : Nat → Prop} {c n : Int} {t : PS} (h : CNL P O c n t) (n0 : 0 ≤ n ∧ n ≤ 23) (hz : iC t 48 (c * 24 + n).toNat = 0) : CNL P O c (n + 1) t := fun q hq => by
  by_cases c9 : q = n.toNat
  · have w := qn_at n0.1 c9
    have z := h q hq
    unfold CNB at z ⊢
    rw [ix_eq n0.1 c9, hz] at z ⊢
    rcases z with z | z
    · exact absurd z.1 (by decide)
    · exact Or.inr ⟨rfl, fun y => z.2 ⟨y.1, fun q => absurd q w.2⟩⟩
  · refine cnb_p (h q hq) ?_
    rw [qn_lt n0.1 c9]
/-- can it be so far: at n -/
theorem cnl_at {P O : Nat → Prop} {c n : Int} {t : PS} (h : CNL P O c n t) (n0 : 0 ≤ n ∧ n ≤ 23) (hz : iC t 48 (c * 24 + n).toNat ≠ 0) : P n.toNat := by
  have en : ((n.toNat : Nat) : Int) = n := by omega
  have z := h n.toNat (by omega)
  unfold CNB at z
  rw [en] at z
  rcases z with z | z
  · exact z.2.1
  · exact absurd z.1 hz
/-- a quarter with an earlier one's mosts -/
theorem cnl_tw {U : AirD} {P O : Nat → Prop} {c n r v : Int} {t : PS} (h : CNL P O c n t) (hP : TWU U P) (hO : TWU U O) (n0 : 0 ≤ n ∧ n ≤ 23) (r0 : 0 ≤ r ∧ r < n) (hm : ∀ x : Nat, x < uN U → uM U n.toNat x = uM U r.toNat x) (hv : v = iC t 48 (c * 24 + r).toNat) : (v = 1 ∧ P n.toNat ∧ O n.toNat) ∨ (v = 0 ∧ ¬ (P n.toNat ∧ O n.toNat)) := by
  have er : ((r.toNat : Nat) : Int) = r := by omega
  have z := h r.toNat (by omega)
  unfold CNB at z
  rw [er, ← hv] at z
  rw [hP _ _ hm, hO _ _ hm]
  exact z.imp (fun z => ⟨z.1, z.2.1, z.2.2 r0.2⟩) (fun z => ⟨z.1, fun y => z.2 ⟨y.1, fun _ => y.2⟩⟩)
/-- a group is heard in a quarter -/
theorem oks_y {U : AirD} {J : List Int → Prop} {S : Int → Prop} {pc li e : Int} {q : Nat} (hr : rng e) (he : Int32.ofInt e = ldH U S pc q (-1)) (h : e ≤ li) (hj : pc = 1 ∨ JHO J (nmH S (uW U) (moW U q (-1)) (uN U) pc)) : OKS U J S pc li q := ⟨by rw [← of_to hr he]; exact h, hj⟩
theorem oks_n {U : AirD} {J : List Int → Prop} {S : Int → Prop} {pc li e : Int} {q : Nat} (hr : rng e) (he : Int32.ofInt e = ldH U S pc q (-1)) (h : li < e ∨ (pc ≠ 1 ∧ ¬ JHO J (nmH S (uW U) (moW U q (-1)) (uN U) pc))) : ¬ OKS U J S pc li q := fun z => by
  rcases h with h | h
  · have y := z.1
    rw [← of_to hr he] at y
    omega
  · exact z.2.elim h.1 h.2
/-- the pieces of a group, as bits -/
def GPQ (d : Int) (f lim : Nat → Int) (g : Int) (k : Nat) (lo hi : Int64) (m li : Int) : Prop := (∀ x, inL lo hi x ↔ gsN d f g k x) ∧ m = gcN d f g k ∧ (m = 0 ∨ li = lim (giN d f g k).toNat)
theorem inl_or {a b c d : Int64} {x : Int} : inL (a ||| b) (c ||| d) x ↔ inL a c x ∨ inL b d x := by
  unfold inL
  rw [jb_or, jb_or]
  constructor
  · rintro (⟨h1, h2, h3 | h3⟩ | ⟨h1, h2, h3 | h3⟩)
    · exact Or.inl (Or.inl ⟨h1, h2, h3⟩)
    · exact Or.inr (Or.inl ⟨h1, h2, h3⟩)
    · exact Or.inl (Or.inr ⟨h1, h2, h3⟩)
    · exact Or.inr (Or.inr ⟨h1, h2, h3⟩)
  · rintro ((⟨h1, h2, h3⟩ | ⟨h1, h2, h3⟩) | (⟨h1, h2, h3⟩ | ⟨h1, h2, h3⟩))
    · exact Or.inl ⟨h1, h2, Or.inl h3⟩
    · exact Or.inr ⟨h1, h2, Or.inl h3⟩
    · exact Or.inl ⟨h1, h2, Or.inr h3⟩
    · exact Or.inr ⟨h1, h2, Or.inr h3⟩
theorem inl_0 {x : Int} : ¬ inL 0 0 x := by
  have z : ∀ i : Nat, ¬ bJ 0 i := fun i => jb_z
  unfold inL
  rintro (⟨_, _, h⟩ | ⟨_, _, h⟩)
  · exact z _ h
  · exact z _ h
theorem gpq_0 {d g li : Int} {f lim : Nat → Int} : GPQ d f lim g 0 0 0 0 li := ⟨fun x => ⟨fun q => absurd q inl_0, fun ⟨j, hj, _⟩ => absurd hj (Nat.not_lt_zero _)⟩, rfl, Or.inl rfl⟩
theorem gpq_n {d g m li p : Int} {f lim : Nat → Int} {lo hi : Int64} (h : GPQ d f lim g (7 - p).toNat lo hi m li) (p0 : 0 ≤ p ∧ p ≤ 7) (hn : ¬ inG d f g p.toNat) : GPQ d f lim g (7 - (p + (-1))).toNat lo hi m li := by
  have ek : (7 - (p + (-1))).toNat = (7 - p).toNat + 1 := by omega
  have ep : 7 - (7 - p).toNat = p.toNat := by omega
  rw [← ep] at hn
  rw [ek]
  refine ⟨fun x => by rw [gsn_n hn]; exact h.1 x, by rw [gcn_n hn]; exact h.2.1, by rw [gin_n hn]; exact h.2.2⟩
theorem gpq_y {d g m li p : Int} {f lim : Nat → Int} {lo hi a b : Int64} (h : GPQ d f lim g (7 - p).toNat lo hi m li) (p0 : 0 ≤ p ∧ p ≤ 7) (hn : inG d f g p.toNat) (hs : ∀ x, inL a b x ↔ pcS f p x) {l : Int} (hl : l = lim p.toNat) : GPQ d f lim g (7 - (p + (-1))).toNat (lo ||| a) (hi ||| b) (m + 1) l := by
  have ek : (7 - (p + (-1))).toNat = (7 - p).toNat + 1 := by omega
  have ep : 7 - (7 - p).toNat = p.toNat := by omega
  have ec : ((p.toNat : Nat) : Int) = p := by omega
  rw [← ep] at hn
  rw [ek]
  refine ⟨fun x => by rw [gsn_y hn, inl_or, h.1 x, hs x, ep, ec], by rw [gcn_y hn, h.2.1], Or.inr ?_⟩
  rw [gin_y hn, ep, ec]
  exact hl
theorem gpq_e {d g m li p : Int} {f lim : Nat → Int} {lo hi : Int64} (h : GPQ d f lim g (7 - p).toNat lo hi m li) (hp : p = -1) : (inL lo hi = gsN d f g 8) ∧ m = gcN d f g 8 ∧ (m = 0 ∨ li = lim (giN d f g 8).toNat) := by
  rw [show (7 - p).toNat = 8 by omega] at h
  exact ⟨funext (fun x => propext (h.1 x)), h.2.1, h.2.2⟩
theorem okg_0 {U : AirD} {J : List Int → Prop} {d g m : Int} {f lim : Nat → Int} {q : Nat} (h : m = gcN d f g 8) (hm : m = 0) : OKG U J d f lim g q := Or.inl (h.symm.trans hm)
theorem okg_oks {U : AirD} {J : List Int → Prop} {d g m li : Int} {f lim : Nat → Int} {q : Nat} (h : m = gcN d f g 8) (hl : m = 0 ∨ li = lim (giN d f g 8).toNat) (hm : 0 < m) : OKG U J d f lim g q ↔ OKS U J (gsN d f g 8) m li q := by
  have e : li = lim (giN d f g 8).toNat := hl.elim (fun z => absurd z (by omega)) id
  unfold OKG
  rw [← h, ← e]
  exact ⟨fun z => z.elim (fun y => absurd y (by omega)) id, Or.inr⟩
theorem cnq_n {U : AirD} {J : List Int → Prop} {d g m c : Int} {f lim : Nat → Int} {s : PS} (h : CNQ (PGN U J d f lim g) c s) (g0 : 0 ≤ g) (hm : m = gcN d f g 8) (m0 : m = 0) : CNQ (PGN U J d f lim (g + 1)) c s := fun q hq => cnb_p (h q hq) ⟨fun z => (pgn_up g0).mpr ⟨z, okg_0 hm m0⟩, fun z => ((pgn_up g0).mp z).1⟩
theorem cnq_y {U : AirD} {J : List Int → Prop} {d g m li c : Int} {f lim : Nat → Int} {S : Int → Prop} {s : PS} (h : CNQ (fun q => PGN U J d f lim g q ∧ OKS U J S m li q) c s) (g0 : 0 ≤ g) (hS : S = gsN d f g 8) (hm : m = gcN d f g 8) (hl : m = 0 ∨ li = lim (giN d f g 8).toNat) (m0 : 0 < m) : CNQ (PGN U J d f lim (g + 1)) c s := fun q hq => cnb_p (h q hq) (by
  rw [pgn_up g0, okg_oks hm hl m0, hS])
theorem cnq_0 {U : AirD} {J : List Int → Prop} {d c n : Int} {f lim : Nat → Int} {s : PS} (h : ∀ q : Nat, (q : Int) < n → iC s 48 (c * 24 + (q : Int)).toNat = 1) (hn : n = 24) : CNQ (PGN U J d f lim 0) c s := fun q hq => Or.inl ⟨h q (by omega), fun g hg => absurd hg (by omega)⟩
theorem all1_up {c n : Int} {t u : PS} (h : ∀ q : Nat, (q : Int) < n → iC t 48 (c * 24 + (q : Int)).toNat = 1) (n0 : 0 ≤ n) (c0 : 0 ≤ c) (hu : UPD 48 (c * 24 + n) 1 t u) : ∀ q : Nat, (q : Int) < n + 1 → iC u 48 (c * 24 + (q : Int)).toNat = 1 := fun q hq => by
  by_cases c9 : q = n.toNat
  · rw [ix_eq n0 c9]; exact hu.1
  · rw [hu.2 _ (ix_ne c0 n0 c9)]; exact h q ((qn_lt n0 c9).mp hq)
theorem pre_of {U : AirD} {J : List Int → Prop} {d c e n : Int} {f lim : Nat → Int} {q v : Int} {s : PS} (h : CNQ (PGN U J d f lim 8) c s) (q0 : 0 ≤ q ∧ q ≤ 23) (hn : n = npG d f 8) (hv : v = iC s 48 (c * 24 + q).toNat) (he : (v ≠ 0 ∧ e = n) ∨ (v = 0 ∧ e = -1)) : PRE U J d f lim q.toNat e := by
  have eq9 : ((q.toNat : Nat) : Int) = q := by omega
  have z := h q.toNat (by omega)
  unfold CNB at z
  rw [eq9, ← hv] at z
  rcases z with ⟨z1, z2⟩ | ⟨z1, z2⟩
  · exact Or.inl ⟨he.elim (fun w => w.2.trans hn) (fun w => absurd (z1.symm.trans w.1) (by decide)), z2⟩
  · exact Or.inr ⟨he.elim (fun w => absurd z1 w.1) (fun w => w.2), z2⟩
/-! the model's -/
/-- the set is that of the pieces so far -/
def GST (d : Int) (f : Nat → Int) (g : Int) (k : Nat) (t : PS) : Prop := ∀ j : Nat, j < 128 → (iC t 230 j ≠ 0 ↔ gsN d f g k (j : Int))
/-- the piece p comes to it: the cells below n -/
def GSP (d : Int) (f : Nat → Int) (g p : Int) (n : Int) (t : PS) : Prop := ∀ j : Nat, j < 128 → (iC t 230 j ≠ 0 ↔ gsN d f g (7 - p).toNat (j : Int) ∨ ((j : Int) < n ∧ f j = p))
theorem gst_0 {d g n : Int} {f : Nat → Int} {t : PS} (h : ∀ j : Nat, (j : Int) < n → iC t 230 j = 0) (hn : n = 128) : GST d f g 0 t := fun j hj => ⟨fun q => absurd (h j (by omega)) q, fun ⟨i, hi, _⟩ => absurd hi (Nat.not_lt_zero _)⟩
theorem gst_s {d g : Int} {f : Nat → Int} {k : Nat} {s t : PS} (h : GST d f g k s) (e : SAM 230 s t) : GST d f g k t := fun j hj => by rw [e j]; exact h j hj
theorem gsp_0 {d g p : Int} {f : Nat → Int} {t : PS} (h : GST d f g (7 - p).toNat t) : GSP d f g p 0 t := fun j hj => (h j hj).trans ⟨Or.inl, fun q => q.elim id (fun z => absurd z.1 (by omega))⟩
theorem gsp_up {d g p n e : Int} {f : Nat → Int} {t u : PS} (h : GSP d f g p n t) (n0 : 0 ≤ n) (hu : UPD 230 n e t u) (he : (e = 1 ∧ (iC t 230 n.toNat ≠ 0 ∨ f n.toNat = p)) ∨ (e = 0 ∧ iC t 230 n.toNat = 0 ∧ f n.toNat ≠ p)) : GSP d f g p (n + 1) u := fun j hj => by
  by_cases c9 : j = n.toNat
  · have w := qn_at n0 c9
    have z := h j hj
    rw [c9, hu.1]
    rw [c9] at z w
    rcases he with ⟨e1, e2⟩ | ⟨e1, e2, e3⟩
    · refine ⟨fun _ => ?_, fun _ => by rw [e1]; decide⟩
      rcases e2 with e2 | e2
      · exact (z.mp e2).elim Or.inl (fun y => absurd y.1 w.2)
      · exact Or.inr ⟨w.1, e2⟩
    · refine ⟨fun y => absurd e1 y, fun y => ?_⟩
      rcases y with y | y
      · exact absurd e2 (z.mpr (Or.inl y))
      · exact absurd y.2 e3
  · rw [hu.2 j c9, h j hj, qn_lt n0 c9]
theorem gsp_e {d g p n : Int} {f : Nat → Int} {t : PS} (h : GSP d f g p n t) (hn : n = 128) (p0 : 0 ≤ p ∧ p ≤ 7) (hg : inG d f g p.toNat) : GST d f g (7 - (p + (-1))).toNat t := fun j hj => by
  have ek : (7 - (p + (-1))).toNat = (7 - p).toNat + 1 := by omega
  have ep : 7 - (7 - p).toNat = p.toNat := by omega
  have ec : ((p.toNat : Nat) : Int) = p := by omega
  have jb : 0 ≤ (j : Int) ∧ (j : Int) ≤ 127 := by omega
  have jn : (j : Int) < n := by omega
  have ej : ((j : Int)).toNat = j := by omega
  rw [← ep] at hg
  rw [ek, gsn_y hg, ep, ec, h j hj]
  exact or_congr Iff.rfl ⟨fun z => ⟨jb, by rw [ej]; exact z.2⟩, fun z => ⟨jn, by have y := z.2; rw [ej] at y; exact y⟩⟩
/-- the model's pieces of a group so far -/
def GMQ (d : Int) (f : Nat → Int) (g : Int) (k : Nat) (m le : Int) : Prop := m = gcN d f g k ∧ le = giN d f g k
theorem gmq_n {d g m le p : Int} {f : Nat → Int} (h : GMQ d f g (7 - p).toNat m le) (p0 : 0 ≤ p ∧ p ≤ 7) (hn : ¬ inG d f g p.toNat) : GMQ d f g (7 - (p + (-1))).toNat m le := by
  have ek : (7 - (p + (-1))).toNat = (7 - p).toNat + 1 := by omega
  have ep : 7 - (7 - p).toNat = p.toNat := by omega
  rw [← ep] at hn
  rw [ek]
  exact ⟨by rw [gcn_n hn]; exact h.1, by rw [gin_n hn]; exact h.2⟩
theorem gmq_y {d g m le p : Int} {f : Nat → Int} (h : GMQ d f g (7 - p).toNat m le) (p0 : 0 ≤ p ∧ p ≤ 7) (hn : inG d f g p.toNat) : GMQ d f g (7 - (p + (-1))).toNat (m + 1) p := by
  have ek : (7 - (p + (-1))).toNat = (7 - p).toNat + 1 := by omega
  have ep : 7 - (7 - p).toNat = p.toNat := by omega
  have ec : ((p.toNat : Nat) : Int) = p := by omega
  rw [← ep] at hn
  rw [ek]
  exact ⟨by rw [gcn_y hn, h.1], by rw [gin_y hn, ep, ec]⟩
theorem gst_n {d g p : Int} {f : Nat → Int} {t : PS} (h : GST d f g (7 - p).toNat t) (p0 : 0 ≤ p ∧ p ≤ 7) (hn : ¬ inG d f g p.toNat) : GST d f g (7 - (p + (-1))).toNat t := fun j hj => by
  have ek : (7 - (p + (-1))).toNat = (7 - p).toNat + 1 := by omega
  have ep : 7 - (7 - p).toNat = p.toNat := by omega
  rw [← ep] at hn
  rw [ek, gsn_n hn]
  exact h j hj
theorem gst_in {d g p : Int} {f : Nat → Int} {t : PS} (h : GST d f g (7 - p).toNat t) (hp : p = -1) : inS t = gsN d f g 8 := funext (fun x => propext (by
  rw [show (7 - p).toNat = 8 by omega] at h
  unfold inS
  constructor
  · intro q
    have z := (h x.toNat (by have := q.1; omega)).mp q.2
    rw [show ((x.toNat : Nat) : Int) = x by have := q.1; omega] at z
    exact z
  · intro q
    have r := gsn_cel q
    refine ⟨r, (h x.toNat (by omega)).mpr ?_⟩
    rw [show ((x.toNat : Nat) : Int) = x by omega]
    exact q))
theorem gmq_e {d g m le p : Int} {f : Nat → Int} (h : GMQ d f g (7 - p).toNat m le) (hp : p = -1) : (m = gcN d f g 8 ∧ le = giN d f g 8) ∧ ((m = 0 ∧ le = -1) ∨ (0 < m ∧ m ≤ 8 ∧ 0 ≤ le ∧ le ≤ 7)) := by
  rw [show (7 - p).toNat = 8 by omega] at h
  have z := gin_b (d := d) (g := g) (f := f) 8 (Nat.le_refl _)
  have r := gcn_r (d := d) (f := f) (g := g) 8
  obtain ⟨h1, h2⟩ := h
  rw [← h1, ← h2] at z
  rw [← h1] at r
  exact ⟨⟨h1, h2⟩, by omega⟩
theorem mld_of {U : AirD} {S : Int → Prop} {pc e : Int} {q : Nat} (h : Int32.ofInt e = uL U (nmH S (uW U) (uM U q) (uN U) pc)) : Int32.ofInt e = ldH U S pc q (-1) := by
  unfold ldH
  rw [mow_n]
  exact h
theorem pgm_y {U : AirD} {J : List Int → Prop} {d g m le li : Int} {f lim : Nat → Int} {q : Nat} {S : Int → Prop} (h : PGN U J d f lim g q) (g0 : 0 ≤ g) (hS : S = gsN d f g 8) (hm : m = gcN d f g 8) (hl : le = giN d f g 8) (hi : li = lim le.toNat) (m0 : 0 < m) (ho : OKS U J S m li q) : PGN U J d f lim (g + 1) q := (pgn_up g0).mpr ⟨h, (okg_oks hm (Or.inr (show li = lim (giN d f g 8).toNat by rw [hi, hl])) m0).mpr (by rw [← hS]; exact ho)⟩
theorem pgm_0 {U : AirD} {J : List Int → Prop} {d g m : Int} {f lim : Nat → Int} {q : Nat} (h : PGN U J d f lim g q) (g0 : 0 ≤ g) (hm : m = gcN d f g 8) (m0 : m = 0) : PGN U J d f lim (g + 1) q := (pgn_up g0).mpr ⟨h, okg_0 hm m0⟩
theorem pgm_n {U : AirD} {J : List Int → Prop} {d g m le li : Int} {f lim : Nat → Int} {q : Nat} {S : Int → Prop} (g0 : 0 ≤ g ∧ g < 8) (hS : S = gsN d f g 8) (hm : m = gcN d f g 8) (hl : le = giN d f g 8) (hi : li = lim le.toNat) (m0 : 0 < m) (ho : ¬ OKS U J S m li q) : PRE U J d f lim q (-1) := Or.inr ⟨rfl, fun z => ho (by
  have w := z g.toNat (by omega)
  rw [show ((g.toNat : Nat) : Int) = g by omega] at w
  have y := (okg_oks hm (Or.inr (show li = lim (giN d f g 8).toNat by rw [hi, hl])) m0).mp w
  rw [hS]
  exact y)⟩
theorem ing_y {d g p v e : Int} {f : Nat → Int} (p0 : 0 ≤ p) (hg : v = grD d p) (hv : v = g) (hp : HCE (pcS f p) e) (he : e ≠ 0) : inG d f g p.toNat := ⟨by rw [show ((p.toNat : Nat) : Int) = p by omega, ← hg]; exact hv, (prs_hce hp p0).1 he⟩
theorem ing_n1 {d g p v : Int} {f : Nat → Int} (p0 : 0 ≤ p) (hg : v = grD d p) (hv : v ≠ g) : ¬ inG d f g p.toNat := fun z => by
  have y := z.1
  rw [show ((p.toNat : Nat) : Int) = p by omega, ← hg] at y
  exact hv y
theorem ing_n2 {d g p e : Int} {f : Nat → Int} (p0 : 0 ≤ p) (hp : HCE (pcS f p) e) (he : e = 0) : ¬ inG d f g p.toNat := fun z => (prs_hce hp p0).2 he z.2
/-! configurations: the same groups in class and model -/
theorem GRJ_fm {L M : List Nat} {s t : PS} (F : Fm L M s t) (h : 46 ∉ M ∧ 237 ∉ M) (r : AEQ 46 237 6 s) : AEQ 46 237 6 t := aeq_sam r (sam_fm F h.1) (sam_fm F h.2)
theorem grj_cf {v : Int} {s t u : PS} (a : AEQ 46 237 6 s) (h : (iI s 32 = 6 ∧ SAM 46 s t) ∨ (iI s 32 ≠ 6 ∧ UPD 46 (iI s 32) v s t)) (g : (iI t 99 = 6 ∧ SAM 237 t u) ∨ (iI t 99 ≠ 6 ∧ UPD 237 (iI t 99) v t u)) (h2 : SAM 237 s t) (h4 : SAM 46 t u) (e : iI t 99 = iI s 32) : AEQ 46 237 6 u := by
  rw [e] at g
  rcases h with ⟨h0, h⟩ | ⟨h0, h⟩
  · rcases g with ⟨g0, g⟩ | ⟨g0, g⟩
    · exact aeq_sam a (sam_ts h h4) (sam_ts h2 g)
    · exact absurd h0 g0
  · rcases g with ⟨g0, g⟩ | ⟨g0, g⟩
    · exact absurd g0 h0
    · exact aeq_upd a h h2 g h4
theorem al0_up {n : Int} {t u : PS} (h : ∀ j : Nat, (j : Int) < n → iC t 230 j = 0) (n0 : 0 ≤ n) (hu : UPD 230 n 0 t u) : ∀ j : Nat, (j : Int) < n + 1 → iC u 230 j = 0 := fun j hj => by
  by_cases e : j = n.toNat
  · rw [e]; exact hu.1
  · rw [hu.2 j e]; exact h j (nx_lt n0 e hj)
section M87km
variable {l : Launch} {s0 : State} {D : va_G} {tys : List (ClassId × FieldType)} {a0 : Array Value} {A : Nat → Nat} {dT : Nat → ClassId} {s : PS}
set_option maxRecDepth 4000 in
theorem c4_group7 (G : GX l s0 D tys a0 dT) {U : AirD} {aj bj : Int64} {pc : Int} {Jn : List Int → Prop} {Pn : Nat → Prop} (I : Bd s) (jAIR : AIR s) (jCPL : CPL s) (jLSN : LSN aj bj s) (jCDJ : CDJ U s) (jHEH : HEH aj bj pc s) (jCJJ : CJJ Jn s) {x y z : Int} (p0 : 0 ≤ x ∧ x ≤ 5) (p1 : rng y) (p2 : (z = 0 ∧ pc = 1) ∨ (z = 1 ∧ pc ≠ 1)) (p3 : iI s 12 ≤ 8) (p4 : CNQ Pn x s) (p5 : TWU U Pn) : CT l s0 D A dT 46 (rmN 46) [.ref (A 54), .int (Int32.ofInt x), .int (Int32.ofInt y), .int (Int32.ofInt z)] s (fun o t => Bd t ∧ Fm [] [33, 20, 48] s t ∧ o = .inl none ∧ (CNQ (fun q => Pn q ∧ OKS U Jn (inL aj bj) pc y q) x t ∧ CNO x s t)) := by
  refine ct_ofX G (by decide) (Nat.le_of_ble_eq_true rfl) (fun k X E ET hRt hXt q => ?_)
  show WS k 0 [(0, .ref (A 54)), (1, .int (Int32.ofInt x)), (2, .int (Int32.ofInt y)), (3, .int (Int32.ofInt z))] [] _ 0 0
  have F : Fm [] [33, 20, 48] s s := fm_rf _ _ s
  have b1 := bi_12 I
  have L3 : ∀ (n : Nat) (t : PS) (xv yv zv qq : Int), Bd t → Fm [] [33, 20, 48] s t → AIR t → CPL t → LSN aj bj t → CDJ U t → HEH aj bj pc t → CJJ Jn t → (CNL Pn (OKS U Jn (inL aj bj) pc yv) xv qq t ∧ CNO xv s t) → ((0 ≤ xv ∧ xv ≤ 5) ∧ rng yv ∧ ((zv = 0 ∧ pc = 1) ∨ (zv = 1 ∧ pc ≠ 1)) ∧ (0 ≤ qq ∧ qq ≤ 24) ∧ iI t 12 ≤ 8) → (24 - qq : Int).toNat < n → (∀ (t' : PS) (qq' : Int), Bd t' → Fm [] [33, 20, 48] s t' → AIR t' → CPL t' → LSN aj bj t' → CDJ U t' → HEH aj bj pc t' → CJJ Jn t' → (CNL Pn (OKS U Jn (inL aj bj) pc yv) xv qq' t' ∧ CNO xv s t') → (qq' = 24) → WS k 127 [(0, .ref (A 54)), (1, .int (Int32.ofInt xv)), (2, .int (Int32.ofInt yv)), (3, .int (Int32.ofInt zv)), (4, .int (Int32.ofInt qq'))] [] (Wd A dT t') 0 0) → WS k 3 [(0, .ref (A 54)), (1, .int (Int32.ofInt xv)), (2, .int (Int32.ofInt yv)), (3, .int (Int32.ofInt zv)), (4, .int (Int32.ofInt qq))] [] (Wd A dT t) 0 0 := by
    intro n
    induction n with
    | zero =>
      intro t xv yv zv qq I F jjAIR jjCPL jjLSN jjCDJ jjHEH jjCJJ hq hi hm kx
      exact absurd hm (Nat.not_lt_zero _)
    | succ n ih =>
      intro t xv yv zv qq I F jjAIR jjCPL jjLSN jjCDJ jjHEH jjCJJ hq hi hm kx
      have b1001 := bi_12 I
      refine z_load X (x := qq) rfl (List.Mem.tail _ (List.Mem.tail _ (List.Mem.tail _ (List.Mem.tail _ (List.Mem.head _))))) (z_bipush X rfl (z_icmp_ge X (t := 127) rfl rfl ⟨by first | exact oq_fa4e5087 hi.2.2.2.1.1 | omega, by first | exact oq_5bcd337f hi.2.2.2.1.2 | omega⟩ (by decide) (fun g1002 => ?_) (fun g1002 => ?_)))
      ·
        refine WS_pq [0, 1, 2, 3, 4] (lv' := [(0, .ref (A 54)), (1, .int (Int32.ofInt xv)), (2, .int (Int32.ofInt yv)), (3, .int (Int32.ofInt zv)), (4, .int (Int32.ofInt qq))]) rfl ?_
        exact kx _ qq I F jjAIR jjCPL jjLSN jjCDJ jjHEH jjCJJ hq (by first | exact oq_ea1742b3 hi.2.2.2.1.2 g1002 | omega)
      ·
        refine z_load_n X (x := xv) rfl (List.Mem.tail _ (List.Mem.head _)) (z_bipush X rfl (z_mul X rfl (z_load X (x := qq) rfl (List.Mem.tail _ (List.Mem.tail _ (List.Mem.tail _ (List.Mem.tail _ (List.Mem.head _))))) (z_add X rfl (z_store X (lv' := [(5, .int (Int32.ofInt ((xv * 24) + qq))), (0, .ref (A 54)), (1, .int (Int32.ofInt xv)), (2, .int (Int32.ofInt yv)), (3, .int (Int32.ofInt zv)), (4, .int (Int32.ofInt qq))]) rfl (by decide) (fun _ h => h) (z_aload_n X (x := A 54) rfl (List.Mem.tail _ (List.Mem.head _)) (s_getR X 54 rfl (c518_ok rfl) rfl rfl (s_getR X 3 rfl (c518_ok rfl) rfl rfl (z_load X (x := qq) rfl (List.Mem.tail _ (List.Mem.tail _ (List.Mem.tail _ (List.Mem.tail _ (List.Mem.tail _ (List.Mem.head _)))))) (z_ald X 17 rfl (c518_ok rfl) rfl (by first | exact hi.2.2.2.1.1 | omega) (show qq < 24 by first | exact g1002 | omega) (cbig_ok rfl) ?_))))))))))
        have b1003 := bc_14 I (show (qq).toNat < 24 by first | exact oq_797efae6 g1002 | omega)
        refine z_load X (x := qq) rfl (List.Mem.tail _ (List.Mem.tail _ (List.Mem.tail _ (List.Mem.tail _ (List.Mem.tail _ (List.Mem.head _)))))) (z_icmp_eq X (t := 64) rfl rfl (rng_to _) ⟨by first | exact oq_fa4e5087 hi.2.2.2.1.1 | omega, by first | exact oq_1d70227b g1002 | omega⟩ (fun g1004 => ?_) (fun g1004 => ?_))
        ·
          refine z_aload_n X (x := A 54) rfl (List.Mem.tail _ (List.Mem.head _)) (s_getR X 54 rfl (c518_ok rfl) rfl rfl (z_load X (x := ((xv * 24) + qq)) rfl (List.Mem.head _) (z_zald X 57 rfl (c518_ok rfl) rfl (by first | exact oq_4071a75f hi.1.1 hi.2.2.2.1.1 | omega) (show ((xv * 24) + qq) < 144 by first | exact oq_adfddeb6 hi.1.2 g1002 | omega) (cbig_ok rfl) ?_)))
          have b1005 := bc_48 I (show (((xv * 24) + qq)).toNat < 144 by first | exact oq_fda8ee8e hi.1.2 g1002 | omega)
          have ar1006 : iC t 48 (((xv * 24) + qq)).toNat = iC t 48 (((xv * 24) + qq)).toNat := (sam_rf (a := 48) (s := t)) _
          refine z_if_eq X (t := 121) rfl rfl (rng_to _) (fun g1007 => ?_) (fun g1007 => ?_)
          ·
            refine z_inc X (x := qq) (lv' := [(4, .int (Int32.ofInt (qq + 1))), (5, .int (Int32.ofInt ((xv * 24) + qq))), (0, .ref (A 54)), (1, .int (Int32.ofInt xv)), (2, .int (Int32.ofInt yv)), (3, .int (Int32.ofInt zv))]) rfl (by decide) (List.Mem.tail _ (List.Mem.tail _ (List.Mem.tail _ (List.Mem.tail _ (List.Mem.tail _ (List.Mem.head _)))))) (fun _ h => h) (z_goto X (t := 3) rfl rfl (WS_pq [2, 3, 4, 5, 0] (lv' := [(0, .ref (A 54)), (1, .int (Int32.ofInt xv)), (2, .int (Int32.ofInt yv)), (3, .int (Int32.ofInt zv)), (4, .int (Int32.ofInt (qq + 1)))]) rfl ?_))
            exact ih _ xv yv zv (qq + 1) I F jjAIR jjCPL jjLSN jjCDJ jjHEH jjCJJ ⟨cnl_no hq.1 (by first | (clear p2; omega) | omega) (by first | (clear p2; omega) | omega), hq.2⟩ (by first | exact ⟨And.intro (hi.1.1) (hi.1.2), And.intro (hi.2.1.1) (hi.2.1.2), hi.2.2.1, And.intro (oq_54f49eb5 hi.2.2.2.1.1) (oq_cec7cb2e g1002), hi.2.2.2.2⟩ | omega) (by first | exact qk_me hm (by decide) (oq_ffa8317e g1002) | omega) kx
          ·
            have hPn := cnl_at hq.1 (by first | (clear g1007 p2; omega) | (clear p2; omega) | omega) (by first | (clear g1007 p2; omega) | (clear p2; omega) | omega)
            refine z_aload_n X (x := A 54) rfl (List.Mem.tail _ (List.Mem.head _)) (s_getR X 54 rfl (c518_ok rfl) rfl rfl (z_load X (x := ((xv * 24) + qq)) rfl (List.Mem.head _) (z_aload_n X (x := A 54) rfl (List.Mem.tail _ (List.Mem.head _)) (s_getR X 54 rfl (c518_ok rfl) rfl rfl (z_load X (x := qq) rfl (List.Mem.tail _ (List.Mem.tail _ (List.Mem.tail _ (List.Mem.tail _ (List.Mem.tail _ (List.Mem.head _)))))) (z_const X rfl (zcV_i1 X E 31 (As := [.int (Int32.ofInt qq), .int (Int32.ofInt (-1))]) (st := [.int (Int32.ofInt ((xv * 24) + qq)), .ref (A 57)]) rfl rfl rfl rfl (c0_loadAt6 G I jjAIR jjCPL jjLSN jjCDJ jjHEH (by first | exact ⟨hi.2.2.2.1.1, oq_c69fe266 g1002⟩ | omega) (by first | exact ⟨by decide, by decide⟩ | omega)) rfl (Nat.le_of_ble_eq_true rfl) (fun s1008 e1009 Is1008 Fs1008 JHEH_s1008 hrs1008 hps1008 => ?_))))))))
            have Gs1008 := fm_tq F Fs1008 rfl rfl
            have JAIR_s1008 : AIR s1008 := AIR_fm Fs1008 (by decide) jjAIR
            have JCPL_s1008 : CPL s1008 := CPL_fm Fs1008 (by decide) jjCPL
            have JLSN_s1008 : LSN aj bj s1008 := LSN_fm Fs1008 (by decide) jjLSN
            have JCDJ_s1008 : CDJ U s1008 := CDJ_fm Fs1008 (by decide) jjCDJ
            have JCJJ_s1008 : CJJ Jn s1008 := CJJ_fm Fs1008 (by decide) jjCJJ
            have ws1008_12 : iI s1008 12 = iI t 12 := fm_iq Fs1008 rfl
            have aws1008_48 : SAM 48 t s1008 := sam_ts (sam_rf (a := 48) (s := t)) (sam_fm Fs1008 (by decide))
            refine z_load_n X (x := yv) rfl (List.Mem.tail _ (List.Mem.tail _ (List.Mem.tail _ (List.Mem.head _)))) (z_icmp_gt X (t := 119) rfl rfl hrs1008 ⟨by first | exact hi.2.1.1 | omega, by first | exact hi.2.1.2 | omega⟩ (fun g1010 => ?_) (fun g1010 => ?_))
            ·
              refine z_const X rfl (z_zast X 57 rfl (c518_ok rfl) rfl (by first | exact oq_4071a75f hi.1.1 hi.2.2.2.1.1 | omega) (show ((xv * 24) + qq) < 144 by first | exact oq_adfddeb6 hi.1.2 g1002 | omega) (by decide) (by first | exact Or.inl (cbig_ok rfl) | omega) (wd_gen (fun s1011 hs1011 => ?_)))
              have Is1011 : Bd s1011 := eqB hs1011 (bd_C Is1008 (show (0 : Int) ≤ 0 ∧ 0 ≤ 1 by first | exact ⟨by decide, by decide⟩ | omega) (by decide))
              have Fs1011 := eqF hs1011 (fm_C Gs1008 (inl_ok (a := 48) rfl))
              have ws1011_12 : iI s1011 12 = iI s1008 12 := eqI hs1011 rfl
              have aws1011_48 : UPD 48 (((xv * 24) + qq)) 0 t s1011 := by rw [hs1011]; exact upd_put aws1008_48 (by decide)
              have fs1011 : Fm [] [48] s1008 s1011 := by rw [hs1011]; exact fm_C (fm_rf _ _ _) (show 48 ∈ _ by decide)
              have JAIR_s1011 : AIR s1011 := AIR_fm fs1011 (by decide) JAIR_s1008
              have JCPL_s1011 : CPL s1011 := CPL_fm fs1011 (by decide) JCPL_s1008
              have JLSN_s1011 : LSN aj bj s1011 := LSN_fm fs1011 (by decide) JLSN_s1008
              have JCDJ_s1011 : CDJ U s1011 := CDJ_fm fs1011 (by decide) JCDJ_s1008
              have JHEH_s1011 : HEH aj bj pc s1011 := HEH_fm fs1011 (by decide) JHEH_s1008
              have JCJJ_s1011 : CJJ Jn s1011 := CJJ_fm fs1011 (by decide) JCJJ_s1008
              refine z_inc X (x := qq) (lv' := [(4, .int (Int32.ofInt (qq + 1))), (5, .int (Int32.ofInt ((xv * 24) + qq))), (0, .ref (A 54)), (1, .int (Int32.ofInt xv)), (2, .int (Int32.ofInt yv)), (3, .int (Int32.ofInt zv))]) rfl (by decide) (List.Mem.tail _ (List.Mem.tail _ (List.Mem.tail _ (List.Mem.tail _ (List.Mem.tail _ (List.Mem.head _)))))) (fun _ h => h) (z_goto X (t := 3) rfl rfl (WS_pq [2, 3, 4, 5, 0] (lv' := [(0, .ref (A 54)), (1, .int (Int32.ofInt xv)), (2, .int (Int32.ofInt yv)), (3, .int (Int32.ofInt zv)), (4, .int (Int32.ofInt (qq + 1)))]) rfl ?_))
              exact ih _ xv yv zv (qq + 1) Is1011 Fs1011 JAIR_s1011 JCPL_s1011 JLSN_s1011 JCDJ_s1011 JHEH_s1011 JCJJ_s1011 ⟨cnl_up hq.1 (by first | (clear hps1008 g1007 p2; omega) | (clear g1007 p2; omega) | omega) (by first | (clear hps1008 g1007 p2; omega) | (clear g1007 p2; omega) | omega) aws1011_48 (Or.inr ⟨rfl, fun z => oks_n hrs1008 hps1008.1 (Or.inl (by first | (clear hps1008 g1007 p2; omega) | (clear g1007 p2; omega) | omega)) z.2⟩), cno_ts hq.2 (cno_upd aws1011_48 (by first | (clear hps1008 g1007 p2; omega) | (clear g1007 p2; omega) | omega) (by first | (clear hps1008 g1007 p2; omega) | (clear g1007 p2; omega) | omega))⟩ (by first | exact ⟨And.intro (hi.1.1) (hi.1.2), And.intro (hi.2.1.1) (hi.2.1.2), hi.2.2.1, And.intro (oq_54f49eb5 hi.2.2.2.1.1) (oq_cec7cb2e g1002), oq_d7ce4408 ws1011_12 ws1008_12 hi.2.2.2.2⟩ | omega) (by first | exact qk_me hm (by decide) (oq_ffa8317e g1002) | omega) kx
            ·
              refine z_load_n X (x := zv) rfl (List.Mem.tail _ (List.Mem.tail _ (List.Mem.tail _ (List.Mem.tail _ (List.Mem.head _))))) (z_if_eq X (t := 115) rfl rfl ⟨by first | exact oq_f66a5b0b hi.2.2.1 | omega, by first | exact oq_edc73ca0 hi.2.2.1 | omega⟩ (fun g1012 => ?_) (fun g1012 => ?_))
              ·
                refine z_const X rfl (z_goto X (t := 120) rfl rfl (z_zast X 57 rfl (c518_ok rfl) rfl (by first | exact oq_4071a75f hi.1.1 hi.2.2.2.1.1 | omega) (show ((xv * 24) + qq) < 144 by first | exact oq_adfddeb6 hi.1.2 g1002 | omega) (by decide) (by first | exact Or.inr (cbig_ok rfl) | omega) (wd_gen (fun s1013 hs1013 => ?_))))
                have Is1013 : Bd s1013 := eqB hs1013 (bd_C Is1008 (show (0 : Int) ≤ 1 ∧ 1 ≤ 1 by first | exact ⟨by decide, by decide⟩ | omega) (by decide))
                have Fs1013 := eqF hs1013 (fm_C Gs1008 (inl_ok (a := 48) rfl))
                have ws1013_12 : iI s1013 12 = iI s1008 12 := eqI hs1013 rfl
                have aws1013_48 : UPD 48 (((xv * 24) + qq)) 1 t s1013 := by rw [hs1013]; exact upd_put aws1008_48 (by decide)
                have fs1013 : Fm [] [48] s1008 s1013 := by rw [hs1013]; exact fm_C (fm_rf _ _ _) (show 48 ∈ _ by decide)
                have JAIR_s1013 : AIR s1013 := AIR_fm fs1013 (by decide) JAIR_s1008
                have JCPL_s1013 : CPL s1013 := CPL_fm fs1013 (by decide) JCPL_s1008
                have JLSN_s1013 : LSN aj bj s1013 := LSN_fm fs1013 (by decide) JLSN_s1008
                have JCDJ_s1013 : CDJ U s1013 := CDJ_fm fs1013 (by decide) JCDJ_s1008
                have JHEH_s1013 : HEH aj bj pc s1013 := HEH_fm fs1013 (by decide) JHEH_s1008
                have JCJJ_s1013 : CJJ Jn s1013 := CJJ_fm fs1013 (by decide) JCJJ_s1008
                refine z_inc X (x := qq) (lv' := [(4, .int (Int32.ofInt (qq + 1))), (5, .int (Int32.ofInt ((xv * 24) + qq))), (0, .ref (A 54)), (1, .int (Int32.ofInt xv)), (2, .int (Int32.ofInt yv)), (3, .int (Int32.ofInt zv))]) rfl (by decide) (List.Mem.tail _ (List.Mem.tail _ (List.Mem.tail _ (List.Mem.tail _ (List.Mem.tail _ (List.Mem.head _)))))) (fun _ h => h) (z_goto X (t := 3) rfl rfl (WS_pq [2, 3, 4, 5, 0] (lv' := [(0, .ref (A 54)), (1, .int (Int32.ofInt xv)), (2, .int (Int32.ofInt yv)), (3, .int (Int32.ofInt zv)), (4, .int (Int32.ofInt (qq + 1)))]) rfl ?_))
                exact ih _ xv yv zv (qq + 1) Is1013 Fs1013 JAIR_s1013 JCPL_s1013 JLSN_s1013 JCDJ_s1013 JHEH_s1013 JCJJ_s1013 ⟨cnl_up hq.1 (by first | (clear hps1008 g1007 p2; omega) | (clear g1007 p2; omega) | omega) (by first | (clear hps1008 g1007 p2; omega) | (clear g1007 p2; omega) | omega) aws1013_48 (Or.inl ⟨rfl, hPn, oks_y hrs1008 hps1008.1 (by first | (clear hps1008 g1007 p2; omega) | (clear g1007 p2; omega) | omega) (Or.inl (by first | (clear hps1008 g1007 p2; omega) | (clear g1007 p2; omega) | omega))⟩), cno_ts hq.2 (cno_upd aws1013_48 (by first | (clear hps1008 g1007 p2; omega) | (clear g1007 p2; omega) | omega) (by first | (clear hps1008 g1007 p2; omega) | (clear g1007 p2; omega) | omega))⟩ (by first | exact ⟨And.intro (hi.1.1) (hi.1.2), And.intro (hi.2.1.1) (hi.2.1.2), hi.2.2.1, And.intro (oq_54f49eb5 hi.2.2.2.1.1) (oq_cec7cb2e g1002), oq_d7ce4408 ws1013_12 ws1008_12 hi.2.2.2.2⟩ | omega) (by first | exact qk_me hm (by decide) (oq_ffa8317e g1002) | omega) kx
              ·
                refine z_aload_n X (x := A 54) rfl (List.Mem.tail _ (List.Mem.head _)) (s_getR X 54 rfl (c518_ok rfl) rfl rfl (z_aload_n X (x := A 54) rfl (List.Mem.tail _ (List.Mem.head _)) (s_getR X 54 rfl (c518_ok rfl) rfl rfl (s_getR X 31 rfl (c518_ok rfl) rfl rfl (zcV_i0 X E 19 (As := [.ref (A 39)]) (st := [.int (Int32.ofInt ((xv * 24) + qq)), .ref (A 57)]) rfl rfl rfl rfl (c7_joins7 G Is1008 JCJJ_s1008 (by first | exact oq_86ef0b17 ws1008_12 hi.2.2.2.2 | omega)) rfl (Nat.le_of_ble_eq_true rfl) (fun s1014 e1015 Is1014 Fs1014 hrs1014 hps1014 => ?_))))))
                have hps1014p := hps1014.2
                have Gs1014 := fm_tq Gs1008 Fs1014 rfl rfl
                have JAIR_s1014 : AIR s1014 := AIR_fm Fs1014 (by decide) JAIR_s1008
                have JCPL_s1014 : CPL s1014 := CPL_fm Fs1014 (by decide) JCPL_s1008
                have JLSN_s1014 : LSN aj bj s1014 := LSN_fm Fs1014 (by decide) JLSN_s1008
                have JCDJ_s1014 : CDJ U s1014 := CDJ_fm Fs1014 (by decide) JCDJ_s1008
                have JHEH_s1014 : HEH aj bj pc s1014 := HEH_fm Fs1014 (by decide) JHEH_s1008
                have JCJJ_s1014 : CJJ Jn s1014 := CJJ_fm Fs1014 (by decide) JCJJ_s1008
                have ws1014_12 : iI s1014 12 = iI s1008 12 := fm_iq Fs1014 rfl
                have aws1014_48 : SAM 48 t s1014 := sam_ts aws1008_48 (sam_fm Fs1014 (by decide))
                have hJ := jhe_e (jhe_ext jjCJJ.1 (fun j hj => hps1008.2 j hj) hps1014.2)
                refine z_if_eq X (t := 119) rfl rfl hrs1014 (fun g1016 => ?_) (fun g1016 => ?_)
                ·
                  refine z_const X rfl (z_zast X 57 rfl (c518_ok rfl) rfl (by first | exact oq_4071a75f hi.1.1 hi.2.2.2.1.1 | omega) (show ((xv * 24) + qq) < 144 by first | exact oq_adfddeb6 hi.1.2 g1002 | omega) (by decide) (by first | exact Or.inl (cbig_ok rfl) | omega) (wd_gen (fun s1017 hs1017 => ?_)))
                  have Is1017 : Bd s1017 := eqB hs1017 (bd_C Is1014 (show (0 : Int) ≤ 0 ∧ 0 ≤ 1 by first | exact ⟨by decide, by decide⟩ | omega) (by decide))
                  have Fs1017 := eqF hs1017 (fm_C Gs1014 (inl_ok (a := 48) rfl))
                  have ws1017_12 : iI s1017 12 = iI s1014 12 := eqI hs1017 rfl
                  have aws1017_48 : UPD 48 (((xv * 24) + qq)) 0 t s1017 := by rw [hs1017]; exact upd_put aws1014_48 (by decide)
                  have fs1017 : Fm [] [48] s1014 s1017 := by rw [hs1017]; exact fm_C (fm_rf _ _ _) (show 48 ∈ _ by decide)
                  have JAIR_s1017 : AIR s1017 := AIR_fm fs1017 (by decide) JAIR_s1014
                  have JCPL_s1017 : CPL s1017 := CPL_fm fs1017 (by decide) JCPL_s1014
                  have JLSN_s1017 : LSN aj bj s1017 := LSN_fm fs1017 (by decide) JLSN_s1014
                  have JCDJ_s1017 : CDJ U s1017 := CDJ_fm fs1017 (by decide) JCDJ_s1014
                  have JHEH_s1017 : HEH aj bj pc s1017 := HEH_fm fs1017 (by decide) JHEH_s1014
                  have JCJJ_s1017 : CJJ Jn s1017 := CJJ_fm fs1017 (by decide) JCJJ_s1014
                  refine z_inc X (x := qq) (lv' := [(4, .int (Int32.ofInt (qq + 1))), (5, .int (Int32.ofInt ((xv * 24) + qq))), (0, .ref (A 54)), (1, .int (Int32.ofInt xv)), (2, .int (Int32.ofInt yv)), (3, .int (Int32.ofInt zv))]) rfl (by decide) (List.Mem.tail _ (List.Mem.tail _ (List.Mem.tail _ (List.Mem.tail _ (List.Mem.tail _ (List.Mem.head _)))))) (fun _ h => h) (z_goto X (t := 3) rfl rfl (WS_pq [2, 3, 4, 5, 0] (lv' := [(0, .ref (A 54)), (1, .int (Int32.ofInt xv)), (2, .int (Int32.ofInt yv)), (3, .int (Int32.ofInt zv)), (4, .int (Int32.ofInt (qq + 1)))]) rfl ?_))
                  exact ih _ xv yv zv (qq + 1) Is1017 Fs1017 JAIR_s1017 JCPL_s1017 JLSN_s1017 JCDJ_s1017 JHEH_s1017 JCJJ_s1017 ⟨cnl_up hq.1 (by first | (clear hps1014 g1012 hps1008 g1007 p2; omega) | (clear g1012 hps1008 g1007 p2; omega) | omega) (by first | (clear hps1014 g1012 hps1008 g1007 p2; omega) | (clear g1012 hps1008 g1007 p2; omega) | omega) aws1017_48 (Or.inr ⟨rfl, fun z => oks_n hrs1008 hps1008.1 (Or.inr ⟨by first | (clear hps1014 g1012 hps1008 g1007 p2; omega) | (clear g1012 hps1008 g1007 p2; omega) | omega, hJ.2 (by first | (clear hps1014 g1012 hps1008 g1007 p2; omega) | (clear g1012 hps1008 g1007 p2; omega) | omega)⟩) z.2⟩), cno_ts hq.2 (cno_upd aws1017_48 (by first | (clear hps1014 g1012 hps1008 g1007 p2; omega) | (clear g1012 hps1008 g1007 p2; omega) | omega) (by first | (clear hps1014 g1012 hps1008 g1007 p2; omega) | (clear g1012 hps1008 g1007 p2; omega) | omega))⟩ (by first | exact ⟨And.intro (hi.1.1) (hi.1.2), And.intro (hi.2.1.1) (hi.2.1.2), hi.2.2.1, And.intro (oq_54f49eb5 hi.2.2.2.1.1) (oq_cec7cb2e g1002), oq_e14d47df ws1017_12 ws1014_12 ws1008_12 hi.2.2.2.2⟩ | omega) (by first | exact qk_me hm (by decide) (oq_ffa8317e g1002) | omega) kx
                ·
                  refine z_const X rfl (z_goto X (t := 120) rfl rfl (z_zast X 57 rfl (c518_ok rfl) rfl (by first | exact oq_4071a75f hi.1.1 hi.2.2.2.1.1 | omega) (show ((xv * 24) + qq) < 144 by first | exact oq_adfddeb6 hi.1.2 g1002 | omega) (by decide) (by first | exact Or.inr (cbig_ok rfl) | omega) (wd_gen (fun s1018 hs1018 => ?_))))
                  have Is1018 : Bd s1018 := eqB hs1018 (bd_C Is1014 (show (0 : Int) ≤ 1 ∧ 1 ≤ 1 by first | exact ⟨by decide, by decide⟩ | omega) (by decide))
                  have Fs1018 := eqF hs1018 (fm_C Gs1014 (inl_ok (a := 48) rfl))
                  have ws1018_12 : iI s1018 12 = iI s1014 12 := eqI hs1018 rfl
                  have aws1018_48 : UPD 48 (((xv * 24) + qq)) 1 t s1018 := by rw [hs1018]; exact upd_put aws1014_48 (by decide)
                  have fs1018 : Fm [] [48] s1014 s1018 := by rw [hs1018]; exact fm_C (fm_rf _ _ _) (show 48 ∈ _ by decide)
                  have JAIR_s1018 : AIR s1018 := AIR_fm fs1018 (by decide) JAIR_s1014
                  have JCPL_s1018 : CPL s1018 := CPL_fm fs1018 (by decide) JCPL_s1014
                  have JLSN_s1018 : LSN aj bj s1018 := LSN_fm fs1018 (by decide) JLSN_s1014
                  have JCDJ_s1018 : CDJ U s1018 := CDJ_fm fs1018 (by decide) JCDJ_s1014
                  have JHEH_s1018 : HEH aj bj pc s1018 := HEH_fm fs1018 (by decide) JHEH_s1014
                  have JCJJ_s1018 : CJJ Jn s1018 := CJJ_fm fs1018 (by decide) JCJJ_s1014
                  refine z_inc X (x := qq) (lv' := [(4, .int (Int32.ofInt (qq + 1))), (5, .int (Int32.ofInt ((xv * 24) + qq))), (0, .ref (A 54)), (1, .int (Int32.ofInt xv)), (2, .int (Int32.ofInt yv)), (3, .int (Int32.ofInt zv))]) rfl (by decide) (List.Mem.tail _ (List.Mem.tail _ (List.Mem.tail _ (List.Mem.tail _ (List.Mem.tail _ (List.Mem.head _)))))) (fun _ h => h) (z_goto X (t := 3) rfl rfl (WS_pq [2, 3, 4, 5, 0] (lv' := [(0, .ref (A 54)), (1, .int (Int32.ofInt xv)), (2, .int (Int32.ofInt yv)), (3, .int (Int32.ofInt zv)), (4, .int (Int32.ofInt (qq + 1)))]) rfl ?_))
                  exact ih _ xv yv zv (qq + 1) Is1018 Fs1018 JAIR_s1018 JCPL_s1018 JLSN_s1018 JCDJ_s1018 JHEH_s1018 JCJJ_s1018 ⟨cnl_up hq.1 (by first | (clear g1016 hps1014 g1012 hps1008 g1007 p2; omega) | (clear hps1014 g1012 hps1008 g1007 p2; omega) | omega) (by first | (clear g1016 hps1014 g1012 hps1008 g1007 p2; omega) | (clear hps1014 g1012 hps1008 g1007 p2; omega) | omega) aws1018_48 (Or.inl ⟨rfl, hPn, oks_y hrs1008 hps1008.1 (by first | (clear g1016 hps1014 g1012 hps1008 g1007 p2; omega) | (clear hps1014 g1012 hps1008 g1007 p2; omega) | omega) (Or.inr (hJ.1 (by first | (clear g1016 hps1014 g1012 hps1008 g1007 p2; omega) | (clear hps1014 g1012 hps1008 g1007 p2; omega) | omega)))⟩), cno_ts hq.2 (cno_upd aws1018_48 (by first | (clear g1016 hps1014 g1012 hps1008 g1007 p2; omega) | (clear hps1014 g1012 hps1008 g1007 p2; omega) | omega) (by first | (clear g1016 hps1014 g1012 hps1008 g1007 p2; omega) | (clear hps1014 g1012 hps1008 g1007 p2; omega) | omega))⟩ (by first | exact ⟨And.intro (hi.1.1) (hi.1.2), And.intro (hi.2.1.1) (hi.2.1.2), hi.2.2.1, And.intro (oq_54f49eb5 hi.2.2.2.1.1) (oq_cec7cb2e g1002), oq_e14d47df ws1018_12 ws1014_12 ws1008_12 hi.2.2.2.2⟩ | omega) (by first | exact qk_me hm (by decide) (oq_ffa8317e g1002) | omega) kx
        ·
          have htw := jjCDJ.2.2.2.2.1 (qq : Int).toNat (by first | (clear g1004 p2; omega) | (clear p2; omega) | omega)
          refine z_aload_n X (x := A 54) rfl (List.Mem.tail _ (List.Mem.head _)) (s_getR X 54 rfl (c518_ok rfl) rfl rfl (z_load X (x := ((xv * 24) + qq)) rfl (List.Mem.head _) (z_aload_n X (x := A 54) rfl (List.Mem.tail _ (List.Mem.head _)) (s_getR X 54 rfl (c518_ok rfl) rfl rfl (z_load_n X (x := xv) rfl (List.Mem.tail _ (List.Mem.tail _ (List.Mem.head _))) (z_bipush X rfl (z_mul X rfl (z_aload_n X (x := A 54) rfl (List.Mem.tail _ (List.Mem.head _)) (s_getR X 54 rfl (c518_ok rfl) rfl rfl (s_getR X 3 rfl (c518_ok rfl) rfl rfl (z_load X (x := qq) rfl (List.Mem.tail _ (List.Mem.tail _ (List.Mem.tail _ (List.Mem.tail _ (List.Mem.tail _ (List.Mem.head _)))))) ?_)))))))))))
          refine z_ald X 17 rfl (c518_ok rfl) rfl (by first | exact hi.2.2.2.1.1 | omega) (show qq < 24 by first | exact g1002 | omega) (cbig_ok rfl) ?_
          have b1019 := bc_14 I (show (qq).toNat < 24 by first | exact oq_797efae6 g1002 | omega)
          refine z_add X rfl (z_zald X 57 rfl (c518_ok rfl) rfl (by first | exact oq_4071a75f hi.1.1 b1019.1 | omega) (show ((xv * 24) + (iC t 14 (qq).toNat)) < 144 by first | exact oq_ceab338e hi.1.2 b1019.2 | omega) (cbig_ok rfl) ?_)
          have b1020 := bc_48 I (show (((xv * 24) + (iC t 14 (qq).toNat))).toNat < 144 by first | exact oq_ab7254e1 hi.1.2 b1019.2 | omega)
          have ar1021 : iC t 48 (((xv * 24) + (iC t 14 (qq).toNat))).toNat = iC t 48 (((xv * 24) + (iC t 14 (qq).toNat))).toNat := (sam_rf (a := 48) (s := t)) _
          refine z_zast X 57 rfl (c518_ok rfl) rfl (by first | exact oq_4071a75f hi.1.1 hi.2.2.2.1.1 | omega) (show ((xv * 24) + qq) < 144 by first | exact oq_adfddeb6 hi.1.2 g1002 | omega) (cbig_ok rfl) (by first | exact oq_31e518ae b1020.2 b1020.1 | omega) (wd_gen (fun s1022 hs1022 => ?_))
          have Is1022 : Bd s1022 := eqB hs1022 (bd_C I (show (0 : Int) ≤ (iC t 48 (((xv * 24) + (iC t 14 (qq).toNat))).toNat) ∧ (iC t 48 (((xv * 24) + (iC t 14 (qq).toNat))).toNat) ≤ 1 by first | exact ⟨b1020.1, b1020.2⟩ | omega) (rng_to _))
          have Fs1022 := eqF hs1022 (fm_C F (inl_ok (a := 48) rfl))
          have ws1022_12 : iI s1022 12 = iI t 12 := eqI hs1022 rfl
          have aws1022_48 : UPD 48 (((xv * 24) + qq)) (iC t 48 (((xv * 24) + (iC t 14 (qq).toNat))).toNat) t s1022 := by rw [hs1022]; exact upd_put (sam_rf (a := 48) (s := t)) (rng_to _)
          have fs1022 : Fm [] [48] t s1022 := by rw [hs1022]; exact fm_C (fm_rf _ _ _) (show 48 ∈ _ by decide)
          have JAIR_s1022 : AIR s1022 := AIR_fm fs1022 (by decide) jjAIR
          have JCPL_s1022 : CPL s1022 := CPL_fm fs1022 (by decide) jjCPL
          have JLSN_s1022 : LSN aj bj s1022 := LSN_fm fs1022 (by decide) jjLSN
          have JCDJ_s1022 : CDJ U s1022 := CDJ_fm fs1022 (by decide) jjCDJ
          have JHEH_s1022 : HEH aj bj pc s1022 := HEH_fm fs1022 (by decide) jjHEH
          have JCJJ_s1022 : CJJ Jn s1022 := CJJ_fm fs1022 (by decide) jjCJJ
          refine z_goto X (t := 121) rfl rfl (z_inc X (x := qq) (lv' := [(4, .int (Int32.ofInt (qq + 1))), (5, .int (Int32.ofInt ((xv * 24) + qq))), (0, .ref (A 54)), (1, .int (Int32.ofInt xv)), (2, .int (Int32.ofInt yv)), (3, .int (Int32.ofInt zv))]) rfl (by decide) (List.Mem.tail _ (List.Mem.tail _ (List.Mem.tail _ (List.Mem.tail _ (List.Mem.tail _ (List.Mem.head _)))))) (fun _ h => h) (z_goto X (t := 3) rfl rfl (WS_pq [2, 3, 4, 5, 0] (lv' := [(0, .ref (A 54)), (1, .int (Int32.ofInt xv)), (2, .int (Int32.ofInt yv)), (3, .int (Int32.ofInt zv)), (4, .int (Int32.ofInt (qq + 1)))]) rfl ?_)))
          exact ih _ xv yv zv (qq + 1) Is1022 Fs1022 JAIR_s1022 JCPL_s1022 JLSN_s1022 JCDJ_s1022 JHEH_s1022 JCJJ_s1022 ⟨cnl_up hq.1 (by first | (clear g1004 p2; omega) | (clear p2; omega) | omega) (by first | (clear g1004 p2; omega) | (clear p2; omega) | omega) aws1022_48 (cnl_tw (U := U) (r := iC t 14 (qq : Int).toNat) hq.1 p5 twu_oks (by first | (clear g1004 p2; omega) | (clear p2; omega) | omega) (by first | (clear g1004 p2; omega) | (clear p2; omega) | omega) htw.2 rfl), cno_ts hq.2 (cno_upd aws1022_48 (by first | (clear g1004 p2; omega) | (clear p2; omega) | omega) (by first | (clear g1004 p2; omega) | (clear p2; omega) | omega))⟩ (by first | exact ⟨And.intro (hi.1.1) (hi.1.2), And.intro (hi.2.1.1) (hi.2.1.2), hi.2.2.1, And.intro (oq_54f49eb5 hi.2.2.2.1.1) (oq_cec7cb2e g1002), oq_86ef0b17 ws1022_12 hi.2.2.2.2⟩ | omega) (by first | exact qk_me hm (by decide) (oq_ffa8317e g1002) | omega) kx
  refine z_const X rfl (z_store X (lv' := [(4, .int (Int32.ofInt 0)), (0, .ref (A 54)), (1, .int (Int32.ofInt x)), (2, .int (Int32.ofInt y)), (3, .int (Int32.ofInt z))]) rfl (by decide) (fun _ h => h) (WS_pq [1, 2, 3, 4, 0] (lv' := [(0, .ref (A 54)), (1, .int (Int32.ofInt x)), (2, .int (Int32.ofInt y)), (3, .int (Int32.ofInt z)), (4, .int (Int32.ofInt 0))]) rfl (L3 ((24 - 0 : Int).toNat + 1) s x y z 0 I F jAIR jCPL jLSN jCDJ jHEH jCJJ ⟨cnl_0 p4, cno_rf⟩ (by first | exact ⟨And.intro (p0.1) (p0.2), And.intro (p1.1) (p1.2), p2, And.intro (by decide) (by decide), p3⟩ | omega) (Nat.lt_succ_self _) ?_)))
  intro s2 x3 Is2 Fs2 JAIR_s2 JCPL_s2 JLSN_s2 JCDJ_s2 JHEH_s2 JCJJ_s2 Qs2 hs2
  have b4 := bi_12 Is2
  exact w_vret X.1 q hRt (ax_d X (show cdA 46 127 = some (.return_, 1, 0, 0, 0) from rfl)) (Nat.zero_le _) (Nat.zero_le _) ⟨_, rfl, Is2, Fs2, rfl, ⟨cnl_e Qs2.1 (by first | (clear p2; omega) | omega), Qs2.2⟩⟩
set_option maxRecDepth 4000 in
theorem c4_judge7 (G : GX l s0 D tys a0 dT) {U : AirD} {Jn : List Int → Prop} (I : Bd s) (jAIR : AIR s) (jCPL : CPL s) (jCDJ : CDJ U s) (jPMJ : PMJ s) (jCJJ : CJJ Jn s) {x : Int} (p0 : 0 ≤ x ∧ x ≤ 5) (p1 : iI s 12 ≤ 8) : CT l s0 D A dT 45 (rmN 45) [.ref (A 54), .int (Int32.ofInt x)] s (fun o t => Bd t ∧ Fm [22, 23, 24] [33, 26, 27, 28, 29, 30, 31, 32, 20, 48, 47] s t ∧ o = .inl none ∧ (UPD 47 x (npG (iC s 46 (x : Int).toNat) (pfC s) 8) s t ∧ CNQ (PGN U Jn (iC s 46 (x : Int).toNat) (pfC s) (fun j => iC s 24 j) 8) x t ∧ CNO x s t)) := by
  refine ct_ofX G (by decide) (Nat.le_of_ble_eq_true rfl) (fun k X E ET hRt hXt q => ?_)
  show WS k 0 [(0, .ref (A 54)), (1, .int (Int32.ofInt x))] [] _ 0 0
  have F : Fm [22, 23, 24] [33, 26, 27, 28, 29, 30, 31, 32, 20, 48, 47] s s := fm_rf _ _ s
  have aw0_47 : SAM 47 s s := sam_rf
  have aw0_48 : SAM 48 s s := sam_rf
  have b1 := bi_12 I
  have L9 : ∀ (n : Nat) (t : PS) (xv qq : Int), Bd t → Fm [22, 23, 24] [33, 26, 27, 28, 29, 30, 31, 32, 20, 48, 47] s t → AIR t → CPL t → CDJ U t → PMJ t → CJJ Jn t → (UPD 47 xv 0 s t ∧ (∀ q : Nat, (q : Int) < qq → iC t 48 (xv * 24 + (q : Int)).toNat = 1) ∧ CNO xv s t) → ((xv = x ∧ 0 ≤ xv ∧ xv ≤ 5) ∧ (0 ≤ qq ∧ qq ≤ 24) ∧ iI t 12 ≤ 8) → (24 - qq : Int).toNat < n → (∀ (t' : PS) (qq' : Int), Bd t' → Fm [22, 23, 24] [33, 26, 27, 28, 29, 30, 31, 32, 20, 48, 47] s t' → AIR t' → CPL t' → CDJ U t' → PMJ t' → CJJ Jn t' → (UPD 47 xv 0 s t' ∧ (∀ q : Nat, (q : Int) < qq' → iC t' 48 (xv * 24 + (q : Int)).toNat = 1) ∧ CNO xv s t') → ((xv = x ∧ 0 ≤ xv ∧ xv ≤ 5) ∧ qq' = 24 ∧ iI t' 12 ≤ 8) → WS k 33 [(0, .ref (A 54)), (1, .int (Int32.ofInt xv)), (2, .int (Int32.ofInt qq'))] [] (Wd A dT t') 0 0) → WS k 9 [(0, .ref (A 54)), (1, .int (Int32.ofInt xv)), (2, .int (Int32.ofInt qq))] [] (Wd A dT t) 0 0 := by
    intro n
    induction n with
    | zero =>
      intro t xv qq I F jjAIR jjCPL jjCDJ jjPMJ jjCJJ hq hi hm kx
      exact absurd hm (Nat.not_lt_zero _)
    | succ n ih =>
      intro t xv qq I F jjAIR jjCPL jjCDJ jjPMJ jjCJJ hq hi hm kx
      have b1001 := bi_12 I
      refine z_load_n X (x := qq) rfl (List.Mem.tail _ (List.Mem.tail _ (List.Mem.head _))) (z_bipush X rfl (z_icmp_ge X (t := 33) rfl rfl ⟨by first | exact oq_fa4e5087 hi.2.1.1 | omega, by first | exact oq_5bcd337f hi.2.1.2 | omega⟩ (by decide) (fun g1002 => ?_) (fun g1002 => ?_)))
      ·
        refine WS_pq [0, 1, 2] (lv' := [(0, .ref (A 54)), (1, .int (Int32.ofInt xv)), (2, .int (Int32.ofInt qq))]) rfl ?_
        exact kx _ qq I F jjAIR jjCPL jjCDJ jjPMJ jjCJJ hq (by first | exact ⟨And.intro (hi.1.1) (And.intro (hi.1.2.1) (hi.1.2.2)), oq_ea1742b3 hi.2.1.2 g1002, hi.2.2⟩ | omega)
      ·
        refine z_aload_n X (x := A 54) rfl (List.Mem.head _) (s_getR X 54 rfl (c518_ok rfl) rfl rfl (z_load_n X (x := xv) rfl (List.Mem.tail _ (List.Mem.head _)) (z_bipush X rfl (z_mul X rfl (z_load_n X (x := qq) rfl (List.Mem.tail _ (List.Mem.tail _ (List.Mem.head _))) (z_add X rfl (z_const X rfl (z_zast X 57 rfl (c518_ok rfl) rfl (by first | exact oq_8d1ba3eb hi.2.1.1 hi.1.2.1 | omega) (show ((xv * 24) + qq) < 144 by first | exact oq_adfddeb6 hi.1.2.2 g1002 | omega) (by decide) (by first | exact Or.inr (cbig_ok rfl) | omega) (wd_gen (fun s1003 hs1003 => ?_))))))))))
        have Is1003 : Bd s1003 := eqB hs1003 (bd_C I (show (0 : Int) ≤ 1 ∧ 1 ≤ 1 by first | exact ⟨by decide, by decide⟩ | omega) (by decide))
        have Fs1003 := eqF hs1003 (fm_C F (inl_ok (a := 48) rfl))
        have ws1003_12 : iI s1003 12 = iI t 12 := eqI hs1003 rfl
        have aws1003_47 : SAM 47 t s1003 := by rw [hs1003]; exact sam_C (by decide) (sam_rf (a := 47) (s := t))
        have aws1003_48 : UPD 48 (((xv * 24) + qq)) 1 t s1003 := by rw [hs1003]; exact upd_put (sam_rf (a := 48) (s := t)) (by decide)
        have fs1003 : Fm [] [48] t s1003 := by rw [hs1003]; exact fm_C (fm_rf _ _ _) (show 48 ∈ _ by decide)
        have JAIR_s1003 : AIR s1003 := AIR_fm fs1003 (by decide) jjAIR
        have JCPL_s1003 : CPL s1003 := CPL_fm fs1003 (by decide) jjCPL
        have JCDJ_s1003 : CDJ U s1003 := CDJ_fm fs1003 (by decide) jjCDJ
        have JPMJ_s1003 : PMJ s1003 := PMJ_fm fs1003 (by decide) jjPMJ
        have JCJJ_s1003 : CJJ Jn s1003 := CJJ_fm fs1003 (by decide) jjCJJ
        refine z_inc X (x := qq) (lv' := [(2, .int (Int32.ofInt (qq + 1))), (0, .ref (A 54)), (1, .int (Int32.ofInt xv))]) rfl (by decide) (List.Mem.tail _ (List.Mem.tail _ (List.Mem.head _))) (fun _ h => h) (z_goto X (t := 9) rfl rfl (WS_pq [1, 2, 0] (lv' := [(0, .ref (A 54)), (1, .int (Int32.ofInt xv)), (2, .int (Int32.ofInt (qq + 1)))]) rfl ?_))
        exact ih _ xv (qq + 1) Is1003 Fs1003 JAIR_s1003 JCPL_s1003 JCDJ_s1003 JPMJ_s1003 JCJJ_s1003 ⟨upd_ts hq.1 aws1003_47, all1_up hq.2.1 (by omega) (by omega) aws1003_48, cno_ts hq.2.2 (cno_upd aws1003_48 (by omega) (by omega))⟩ (by first | exact ⟨And.intro (hi.1.1) (And.intro (hi.1.2.1) (hi.1.2.2)), And.intro (oq_54f49eb5 hi.2.1.1) (oq_cec7cb2e g1002), oq_86ef0b17 ws1003_12 hi.2.2⟩ | omega) (by first | exact qk_me hm (by decide) (oq_ffa8317e g1002) | omega) kx
  have L56 : ∀ (n : Nat) (t : PS) (xv : Int) (gp : Int) (lw : Int64) (hw : Int64) (mm : Int) (li : Int) (p : Int), Bd t → Fm [22, 23, 24] [33, 26, 27, 28, 29, 30, 31, 32, 20, 48, 47] s t → AIR t → CPL t → CDJ U t → PMJ t → CJJ Jn t → (GPQ (iC s 46 (x : Int).toNat) (pfC s) (fun j => iC s 24 j) gp (7 - p : Int).toNat lw hw mm li ∧ UPD 47 xv (npG (iC s 46 (x : Int).toNat) (pfC s) (gp : Int).toNat) s t ∧ CNQ (PGN U Jn (iC s 46 (x : Int).toNat) (pfC s) (fun j => iC s 24 j) gp) xv t ∧ CNO xv s t) → ((xv = x ∧ 0 ≤ xv ∧ xv ≤ 5) ∧ (0 ≤ gp ∧ gp ≤ 7) ∧ (0 ≤ mm ∧ mm ≤ 7 - p) ∧ rng li ∧ (-1 ≤ p ∧ p ≤ 7) ∧ iI t 12 ≤ 8) → (p + 1 : Int).toNat < n → (∀ (t' : PS) (lw' : Int64) (hw' : Int64) (mm' : Int) (li' : Int) (p' : Int), Bd t' → Fm [22, 23, 24] [33, 26, 27, 28, 29, 30, 31, 32, 20, 48, 47] s t' → AIR t' → CPL t' → CDJ U t' → PMJ t' → CJJ Jn t' → (GPQ (iC s 46 (x : Int).toNat) (pfC s) (fun j => iC s 24 j) gp (7 - p' : Int).toNat lw' hw' mm' li' ∧ UPD 47 xv (npG (iC s 46 (x : Int).toNat) (pfC s) (gp : Int).toNat) s t' ∧ CNQ (PGN U Jn (iC s 46 (x : Int).toNat) (pfC s) (fun j => iC s 24 j) gp) xv t' ∧ CNO xv s t') → ((xv = x ∧ 0 ≤ xv ∧ xv ≤ 5) ∧ (0 ≤ gp ∧ gp ≤ 7) ∧ (0 ≤ mm' ∧ mm' ≤ 8) ∧ rng li' ∧ p' = -1 ∧ iI t' 12 ≤ 8) → WS k 140 [(0, .ref (A 54)), (1, .int (Int32.ofInt xv)), (2, .int (Int32.ofInt gp)), (3, .long lw'), (5, .long hw'), (7, .int (Int32.ofInt mm')), (8, .int (Int32.ofInt li')), (9, .int (Int32.ofInt p'))] [] (Wd A dT t') 0 0) → WS k 56 [(0, .ref (A 54)), (1, .int (Int32.ofInt xv)), (2, .int (Int32.ofInt gp)), (3, .long lw), (5, .long hw), (7, .int (Int32.ofInt mm)), (8, .int (Int32.ofInt li)), (9, .int (Int32.ofInt p))] [] (Wd A dT t) 0 0 := by
    intro n
    induction n with
    | zero =>
      intro t xv gp lw hw mm li p I F jjAIR jjCPL jjCDJ jjPMJ jjCJJ hq hi hm kx
      exact absurd hm (Nat.not_lt_zero _)
    | succ n ih =>
      intro t xv gp lw hw mm li p I F jjAIR jjCPL jjCDJ jjPMJ jjCJJ hq hi hm kx
      have b2001 := bi_12 I
      have hPf : pfC t = pfC s := funext (fun j => fm_c F (by decide))
      refine z_load X (x := p) rfl (List.Mem.tail _ (List.Mem.tail _ (List.Mem.tail _ (List.Mem.tail _ (List.Mem.tail _ (List.Mem.tail _ (List.Mem.tail _ (List.Mem.head _)))))))) (z_if_lt X (t := 140) rfl rfl ⟨by first | exact oq_97ee2c2a hi.2.2.2.2.1.1 | omega, by first | exact oq_0e78ca7d hi.2.2.2.2.1.2 | omega⟩ (fun g2002 => ?_) (fun g2002 => ?_))
      ·
        refine WS_pq [0, 1, 2, 3, 4, 5, 6, 7] (lv' := [(0, .ref (A 54)), (1, .int (Int32.ofInt xv)), (2, .int (Int32.ofInt gp)), (3, .long lw), (5, .long hw), (7, .int (Int32.ofInt mm)), (8, .int (Int32.ofInt li)), (9, .int (Int32.ofInt p))]) rfl ?_
        exact kx _ lw hw mm li p I F jjAIR jjCPL jjCDJ jjPMJ jjCJJ hq (by first | exact ⟨And.intro (hi.1.1) (And.intro (hi.1.2.1) (hi.1.2.2)), And.intro (hi.2.1.1) (hi.2.1.2), And.intro (hi.2.2.1.1) (oq_2a65de14 hi.2.2.1.2 hi.2.2.2.2.1.1), And.intro (hi.2.2.2.1.1) (hi.2.2.2.1.2), oq_076ebabd g2002 hi.2.2.2.2.1.1, hi.2.2.2.2.2⟩ | omega)
      ·
        refine z_aload_n X (x := A 54) rfl (List.Mem.head _) (s_getR X 54 rfl (c518_ok rfl) rfl rfl (z_load_n X (x := xv) rfl (List.Mem.tail _ (List.Mem.head _)) (z_ald X 55 rfl (c518_ok rfl) rfl (by first | exact hi.1.2.1 | omega) (show xv < 6 by first | exact oq_9207f8f8 hi.1.2.2 | omega) (cbig_ok rfl) ?_)))
        have b2003 := bc_46 I (show (xv).toNat < 6 by first | exact oq_78f9cd89 hi.1.2.2 | omega)
        refine z_const X rfl (z_load X (x := p) rfl (List.Mem.tail _ (List.Mem.tail _ (List.Mem.tail _ (List.Mem.tail _ (List.Mem.tail _ (List.Mem.tail _ (List.Mem.tail _ (List.Mem.head _)))))))) (z_mul X rfl (z_bshr X rfl (z_anyV (fun y2004 hy2004 ey2004 => ?_)))))
        refine z_bipush X rfl (w_iand X.1 (ax_d X (show cdA 45 74 = some (.iand, 1, 0, 0, 0) from rfl)) (z_anyV (fun y2005 hy2005 ey2005 => ?_)))
        have hd9 : iC t 46 (xv : Int).toNat = (iC s 46 (x : Int).toNat) := by rw [show xv = x by omega]; exact fm_c F (by decide)
        have hgr : y2005 = grD (iC s 46 (x : Int).toNat) p := by rw [← hd9]; exact grd_of ey2004 ey2005 hy2005
        refine z_load_n X (x := gp) rfl (List.Mem.tail _ (List.Mem.tail _ (List.Mem.head _))) (z_icmp_ne X (t := 134) rfl rfl hy2005 ⟨by first | exact oq_fa4e5087 hi.2.1.1 | omega, by first | exact oq_0e78ca7d hi.2.1.2 | omega⟩ (fun g2006 => ?_) (fun g2006 => ?_))
        ·
          refine z_inc X (x := p) (lv' := [(9, .int (Int32.ofInt (p + (-1)))), (0, .ref (A 54)), (1, .int (Int32.ofInt xv)), (2, .int (Int32.ofInt gp)), (3, .long lw), (5, .long hw), (7, .int (Int32.ofInt mm)), (8, .int (Int32.ofInt li))]) rfl (by decide) (List.Mem.tail _ (List.Mem.tail _ (List.Mem.tail _ (List.Mem.tail _ (List.Mem.tail _ (List.Mem.tail _ (List.Mem.tail _ (List.Mem.head _)))))))) (fun _ h => h) (z_goto X (t := 56) rfl rfl (WS_pq [1, 2, 3, 4, 5, 6, 7, 0] (lv' := [(0, .ref (A 54)), (1, .int (Int32.ofInt xv)), (2, .int (Int32.ofInt gp)), (3, .long lw), (5, .long hw), (7, .int (Int32.ofInt mm)), (8, .int (Int32.ofInt li)), (9, .int (Int32.ofInt (p + (-1))))]) rfl ?_))
          exact ih _ xv gp lw hw mm li (p + (-1)) I F jjAIR jjCPL jjCDJ jjPMJ jjCJJ ⟨gpq_n hq.1 (by first | (clear g2006; omega) | omega) (ing_n1 (by first | (clear g2006; omega) | omega) hgr (by first | (clear g2006; omega) | omega)), hq.2⟩ (by first | exact ⟨And.intro (hi.1.1) (And.intro (hi.1.2.1) (hi.1.2.2)), And.intro (hi.2.1.1) (hi.2.1.2), And.intro (hi.2.2.1.1) (oq_256ac20b hi.2.2.1.2), And.intro (hi.2.2.2.1.1) (hi.2.2.2.1.2), And.intro (oq_285ed02d g2002) (oq_40e69522 hi.2.2.2.2.1.2), hi.2.2.2.2.2⟩ | omega) (by first | exact qk_me hm (by decide) (oq_7a276f11 g2002) | omega) kx
        ·
          refine z_aload_n X (x := A 54) rfl (List.Mem.head _) (s_getR X 54 rfl (c518_ok rfl) rfl rfl (z_load X (x := p) rfl (List.Mem.tail _ (List.Mem.tail _ (List.Mem.tail _ (List.Mem.tail _ (List.Mem.tail _ (List.Mem.tail _ (List.Mem.tail _ (List.Mem.head _)))))))) (z_callV X 25 (rm := rmN 30) (As := [.int (Int32.ofInt p)]) (st := []) rfl rfl (by decide) rfl (by rw [E.1, E.2.1, E.2.2.1]; exact c3_has3 G I jjPMJ (by first | exact ⟨g2002, hi.2.2.2.2.1.2⟩ | omega)) ⟨by rw [E.2.2.2]; exact (show (rmN 30).frames + 1 ≤ (rmN 45).frames by decide), by rw [E.2.2.2]; exact (show 8 + (mNL (miB 30) + 11) + (rmN 30).locals ≤ (rmN 45).locals by decide), by rw [E.2.2.2]; exact (show 0 + (rmN 30).cells ≤ (rmN 45).cells by decide), by rw [E.2.2.2]; exact (show 0 + (rmN 30).slots ≤ (rmN 45).slots by decide)⟩ (Nat.le_of_ble_eq_true rfl) (fun vv s2007 hq => ?_) (fun ee s2007 hq => ?_))))
          rotate_left
          · obtain ⟨rfl, e2008, hv, hrs2007, hps2007⟩ := hq; cases hv
          obtain ⟨rfl, e2008, hv, hrs2007, hps2007⟩ := hq
          have hps2007p := hps2007.2
          cases hv
          show WS k 88 [(0, .ref (A 54)), (1, .int (Int32.ofInt xv)), (2, .int (Int32.ofInt gp)), (3, .long lw), (5, .long hw), (7, .int (Int32.ofInt mm)), (8, .int (Int32.ofInt li)), (9, .int (Int32.ofInt p))] [.int (Int32.ofInt e2008)] (Wd A dT t) 0 0
          have hHc : HCE (pcS (pfC s) p) e2008 := by have z := hps2007.2; rw [hPf] at z; exact z
          refine z_if_eq X (t := 134) rfl rfl hrs2007 (fun g2009 => ?_) (fun g2009 => ?_)
          ·
            refine z_inc X (x := p) (lv' := [(9, .int (Int32.ofInt (p + (-1)))), (0, .ref (A 54)), (1, .int (Int32.ofInt xv)), (2, .int (Int32.ofInt gp)), (3, .long lw), (5, .long hw), (7, .int (Int32.ofInt mm)), (8, .int (Int32.ofInt li))]) rfl (by decide) (List.Mem.tail _ (List.Mem.tail _ (List.Mem.tail _ (List.Mem.tail _ (List.Mem.tail _ (List.Mem.tail _ (List.Mem.tail _ (List.Mem.head _)))))))) (fun _ h => h) (z_goto X (t := 56) rfl rfl (WS_pq [1, 2, 3, 4, 5, 6, 7, 0] (lv' := [(0, .ref (A 54)), (1, .int (Int32.ofInt xv)), (2, .int (Int32.ofInt gp)), (3, .long lw), (5, .long hw), (7, .int (Int32.ofInt mm)), (8, .int (Int32.ofInt li)), (9, .int (Int32.ofInt (p + (-1))))]) rfl ?_))
            exact ih _ xv gp lw hw mm li (p + (-1)) I F jjAIR jjCPL jjCDJ jjPMJ jjCJJ ⟨gpq_n hq.1 (by first | (clear hps2007; omega) | omega) (ing_n2 (by first | (clear hps2007; omega) | omega) hHc (by first | (clear hps2007; omega) | omega)), hq.2⟩ (by first | exact ⟨And.intro (hi.1.1) (And.intro (hi.1.2.1) (hi.1.2.2)), And.intro (hi.2.1.1) (hi.2.1.2), And.intro (hi.2.2.1.1) (oq_256ac20b hi.2.2.1.2), And.intro (hi.2.2.2.1.1) (hi.2.2.2.1.2), And.intro (oq_285ed02d g2002) (oq_40e69522 hi.2.2.2.2.1.2), hi.2.2.2.2.2⟩ | omega) (by first | exact qk_me hm (by decide) (oq_7a276f11 g2002) | omega) kx
          ·
            refine w_lload_n X.1 (ax_d X (show cdA 45 91 = some (.lload_n 3, 1, 0, 0, 0) from rfl)) (x := lw) (List.Mem.tail _ (List.Mem.tail _ (List.Mem.tail _ (List.Mem.head _)))) (z_aload_n X (x := A 54) rfl (List.Mem.head _) (s_getR X 54 rfl (c518_ok rfl) rfl rfl (s_getR X 25 rfl (c518_ok rfl) rfl rfl (z_load X (x := p) rfl (List.Mem.tail _ (List.Mem.tail _ (List.Mem.tail _ (List.Mem.tail _ (List.Mem.tail _ (List.Mem.tail _ (List.Mem.tail _ (List.Mem.head _)))))))) (z_lalE X 27 rfl (by decide) rfl (by first | exact g2002 | omega) (show p < 8 by first | exact oq_aaea290e hi.2.2.2.2.1.2 | omega) (by decide) (w_lor X.1 (ax_d X (show cdA 45 102 = some (.lor, 1, 0, 0, 0) from rfl)) (w_lstore_n X.1 (lv' := [(3, .long (lw ||| (gD t 22 (p).toNat))), (0, .ref (A 54)), (1, .int (Int32.ofInt xv)), (2, .int (Int32.ofInt gp)), (5, .long hw), (7, .int (Int32.ofInt mm)), (8, .int (Int32.ofInt li)), (9, .int (Int32.ofInt p))]) (ax_d X (show cdA 45 103 = some (.lstore_n 3, 1, 0, 0, 0) from rfl)) (by rw [X.2.1.2.2]; decide) (fun _ h => h) (w_lload X.1 (ax_d X (show cdA 45 104 = some (.lload 5, 2, 0, 0, 0) from rfl)) (x := hw) (List.Mem.tail _ (List.Mem.tail _ (List.Mem.tail _ (List.Mem.tail _ (List.Mem.head _))))) (z_aload_n X (x := A 54) rfl (List.Mem.tail _ (List.Mem.head _)) (s_getR X 54 rfl (c518_ok rfl) rfl rfl (s_getR X 25 rfl (c518_ok rfl) rfl rfl ?_)))))))))))
            refine z_load X (x := p) rfl (List.Mem.tail _ (List.Mem.tail _ (List.Mem.tail _ (List.Mem.tail _ (List.Mem.tail _ (List.Mem.tail _ (List.Mem.tail _ (List.Mem.head _)))))))) (z_lalE X 28 rfl (by decide) rfl (by first | exact g2002 | omega) (show p < 8 by first | exact oq_aaea290e hi.2.2.2.2.1.2 | omega) (by decide) (w_lor X.1 (ax_d X (show cdA 45 116 = some (.lor, 1, 0, 0, 0) from rfl)) (w_lstore X.1 (lv' := [(5, .long (hw ||| (gD t 23 (p).toNat))), (3, .long (lw ||| (gD t 22 (p).toNat))), (0, .ref (A 54)), (1, .int (Int32.ofInt xv)), (2, .int (Int32.ofInt gp)), (7, .int (Int32.ofInt mm)), (8, .int (Int32.ofInt li)), (9, .int (Int32.ofInt p))]) (ax_d X (show cdA 45 117 = some (.lstore 5, 2, 0, 0, 0) from rfl)) (by rw [X.2.1.2.2]; decide) (fun _ h => h) (z_inc X (x := mm) (lv' := [(7, .int (Int32.ofInt (mm + 1))), (5, .long (hw ||| (gD t 23 (p).toNat))), (3, .long (lw ||| (gD t 22 (p).toNat))), (0, .ref (A 54)), (1, .int (Int32.ofInt xv)), (2, .int (Int32.ofInt gp)), (8, .int (Int32.ofInt li)), (9, .int (Int32.ofInt p))]) rfl (by decide) (List.Mem.tail _ (List.Mem.tail _ (List.Mem.tail _ (List.Mem.tail _ (List.Mem.tail _ (List.Mem.head _)))))) (fun _ h => h) (z_aload_n X (x := A 54) rfl (List.Mem.tail _ (List.Mem.tail _ (List.Mem.tail _ (List.Mem.head _)))) (s_getR X 54 rfl (c518_ok rfl) rfl rfl (s_getR X 25 rfl (c518_ok rfl) rfl rfl (z_load X (x := p) rfl (List.Mem.tail _ (List.Mem.tail _ (List.Mem.tail _ (List.Mem.tail _ (List.Mem.tail _ (List.Mem.tail _ (List.Mem.tail _ (List.Mem.head _)))))))) (z_ald X 29 rfl (c518_ok rfl) rfl (by first | exact g2002 | omega) (show p < 8 by first | exact oq_aaea290e hi.2.2.2.2.1.2 | omega) (cbig_ok rfl) ?_)))))))))
            have b2010 := bc_24 I (show (p).toNat < 8 by first | exact oq_c19a3aae hi.2.2.2.2.1.2 | omega)
            refine z_store X (lv' := [(8, .int (Int32.ofInt (iC t 24 (p).toNat))), (7, .int (Int32.ofInt (mm + 1))), (5, .long (hw ||| (gD t 23 (p).toNat))), (3, .long (lw ||| (gD t 22 (p).toNat))), (0, .ref (A 54)), (1, .int (Int32.ofInt xv)), (2, .int (Int32.ofInt gp)), (9, .int (Int32.ofInt p))]) rfl (by decide) (fun _ h => h) (z_inc X (x := p) (lv' := [(9, .int (Int32.ofInt (p + (-1)))), (8, .int (Int32.ofInt (iC t 24 (p).toNat))), (7, .int (Int32.ofInt (mm + 1))), (5, .long (hw ||| (gD t 23 (p).toNat))), (3, .long (lw ||| (gD t 22 (p).toNat))), (0, .ref (A 54)), (1, .int (Int32.ofInt xv)), (2, .int (Int32.ofInt gp))]) rfl (by decide) (List.Mem.tail _ (List.Mem.tail _ (List.Mem.tail _ (List.Mem.tail _ (List.Mem.tail _ (List.Mem.tail _ (List.Mem.tail _ (List.Mem.head _)))))))) (fun _ h => h) (z_goto X (t := 56) rfl rfl (WS_pq [5, 6, 7, 4, 3, 2, 1, 0] (lv' := [(0, .ref (A 54)), (1, .int (Int32.ofInt xv)), (2, .int (Int32.ofInt gp)), (3, .long (lw ||| (gD t 22 (p).toNat))), (5, .long (hw ||| (gD t 23 (p).toNat))), (7, .int (Int32.ofInt (mm + 1))), (8, .int (Int32.ofInt (iC t 24 (p).toNat))), (9, .int (Int32.ofInt (p + (-1))))]) rfl ?_)))
            exact ih _ xv gp (lw ||| (gD t 22 (p).toNat)) (hw ||| (gD t 23 (p).toNat)) (mm + 1) (iC t 24 (p).toNat) (p + (-1)) I F jjAIR jjCPL jjCDJ jjPMJ jjCJJ ⟨gpq_y hq.1 (by first | (clear g2009 hps2007; omega) | (clear hps2007; omega) | omega) (ing_y (by first | (clear g2009 hps2007; omega) | (clear hps2007; omega) | omega) hgr (by first | (clear g2009 hps2007; omega) | (clear hps2007; omega) | omega) hHc (by first | (clear g2009 hps2007; omega) | (clear hps2007; omega) | omega)) (fun x => by have z := pm_in jjPMJ (p := p) (by first | (clear g2009 hps2007; omega) | (clear hps2007; omega) | omega) x; rw [hPf] at z; exact z) (show iC t 24 (p : Int).toNat = iC s 24 (p : Int).toNat from fm_c F (by decide)), hq.2⟩ (by first | exact ⟨And.intro (hi.1.1) (And.intro (hi.1.2.1) (hi.1.2.2)), And.intro (hi.2.1.1) (hi.2.1.2), And.intro (oq_54f49eb5 hi.2.2.1.1) (oq_dd3f4b9e hi.2.2.1.2), And.intro (oq_fa4e5087 b2010.1) (oq_a11a259b b2010.2), And.intro (oq_285ed02d g2002) (oq_40e69522 hi.2.2.2.2.1.2), hi.2.2.2.2.2⟩ | omega) (by first | exact qk_me hm (by decide) (oq_7a276f11 g2002) | omega) kx
  have L35 : ∀ (n : Nat) (t : PS) (xv gp : Int), Bd t → Fm [22, 23, 24] [33, 26, 27, 28, 29, 30, 31, 32, 20, 48, 47] s t → AIR t → CPL t → CDJ U t → PMJ t → CJJ Jn t → (UPD 47 xv (npG (iC s 46 (x : Int).toNat) (pfC s) (gp : Int).toNat) s t ∧ CNQ (PGN U Jn (iC s 46 (x : Int).toNat) (pfC s) (fun j => iC s 24 j) gp) xv t ∧ CNO xv s t) → ((xv = x ∧ 0 ≤ xv ∧ xv ≤ 5) ∧ (0 ≤ gp ∧ gp ≤ 8) ∧ iI t 12 ≤ 8) → (8 - gp : Int).toNat < n → (∀ (t' : PS) (gp' : Int), Bd t' → Fm [22, 23, 24] [33, 26, 27, 28, 29, 30, 31, 32, 20, 48, 47] s t' → AIR t' → CPL t' → CDJ U t' → PMJ t' → CJJ Jn t' → (UPD 47 xv (npG (iC s 46 (x : Int).toNat) (pfC s) (gp' : Int).toNat) s t' ∧ CNQ (PGN U Jn (iC s 46 (x : Int).toNat) (pfC s) (fun j => iC s 24 j) gp') xv t' ∧ CNO xv s t') → (gp' = 8) → WS k 191 [(0, .ref (A 54)), (1, .int (Int32.ofInt xv)), (2, .int (Int32.ofInt gp'))] [] (Wd A dT t') 0 0) → WS k 35 [(0, .ref (A 54)), (1, .int (Int32.ofInt xv)), (2, .int (Int32.ofInt gp))] [] (Wd A dT t) 0 0 := by
    intro n
    induction n with
    | zero =>
      intro t xv gp I F jjAIR jjCPL jjCDJ jjPMJ jjCJJ hq hi hm kx
      exact absurd hm (Nat.not_lt_zero _)
    | succ n ih =>
      intro t xv gp I F jjAIR jjCPL jjCDJ jjPMJ jjCJJ hq hi hm kx
      have b3001 := bi_12 I
      refine z_load_n X (x := gp) rfl (List.Mem.tail _ (List.Mem.tail _ (List.Mem.head _))) (z_bipush X rfl (z_icmp_ge X (t := 191) rfl rfl ⟨by first | exact oq_fa4e5087 hi.2.1.1 | omega, by first | exact oq_d3f5d874 hi.2.1.2 | omega⟩ (by decide) (fun g3002 => ?_) (fun g3002 => ?_)))
      ·
        refine WS_pq [0, 1, 2] (lv' := [(0, .ref (A 54)), (1, .int (Int32.ofInt xv)), (2, .int (Int32.ofInt gp))]) rfl ?_
        exact kx _ gp I F jjAIR jjCPL jjCDJ jjPMJ jjCJJ hq (by first | exact oq_73d3719d hi.2.1.2 g3002 | omega)
      ·
        refine w_lconst X.1 (ax_d X (show cdA 45 41 = some (.lconst 0, 1, 0, 0, 0) from rfl)) (z := (0 : Int64)) (by decide) (w_lstore_n X.1 (lv' := [(3, .long (0 : Int64)), (0, .ref (A 54)), (1, .int (Int32.ofInt xv)), (2, .int (Int32.ofInt gp))]) (ax_d X (show cdA 45 42 = some (.lstore_n 3, 1, 0, 0, 0) from rfl)) (by rw [X.2.1.2.2]; decide) (fun _ h => h) (w_lconst X.1 (ax_d X (show cdA 45 43 = some (.lconst 0, 1, 0, 0, 0) from rfl)) (z := (0 : Int64)) (by decide) (w_lstore X.1 (lv' := [(5, .long (0 : Int64)), (3, .long (0 : Int64)), (0, .ref (A 54)), (1, .int (Int32.ofInt xv)), (2, .int (Int32.ofInt gp))]) (ax_d X (show cdA 45 44 = some (.lstore 5, 2, 0, 0, 0) from rfl)) (by rw [X.2.1.2.2]; decide) (fun _ h => h) (z_const X rfl (z_store X (lv' := [(7, .int (Int32.ofInt 0)), (5, .long (0 : Int64)), (3, .long (0 : Int64)), (0, .ref (A 54)), (1, .int (Int32.ofInt xv)), (2, .int (Int32.ofInt gp))]) rfl (by decide) (fun _ h => h) (z_const X rfl (z_store X (lv' := [(8, .int (Int32.ofInt 0)), (7, .int (Int32.ofInt 0)), (5, .long (0 : Int64)), (3, .long (0 : Int64)), (0, .ref (A 54)), (1, .int (Int32.ofInt xv)), (2, .int (Int32.ofInt gp))]) rfl (by decide) (fun _ h => h) (z_bipush X rfl (z_store X (lv' := [(9, .int (Int32.ofInt 7)), (8, .int (Int32.ofInt 0)), (7, .int (Int32.ofInt 0)), (5, .long (0 : Int64)), (3, .long (0 : Int64)), (0, .ref (A 54)), (1, .int (Int32.ofInt xv)), (2, .int (Int32.ofInt gp))]) rfl (by decide) (fun _ h => h) (WS_pq [5, 6, 7, 4, 3, 2, 1, 0] (lv' := [(0, .ref (A 54)), (1, .int (Int32.ofInt xv)), (2, .int (Int32.ofInt gp)), (3, .long (0 : Int64)), (5, .long (0 : Int64)), (7, .int (Int32.ofInt 0)), (8, .int (Int32.ofInt 0)), (9, .int (Int32.ofInt 7))]) rfl (L56 ((7 + 1 : Int).toNat + 1) t xv gp (0 : Int64) (0 : Int64) 0 0 7 I F jjAIR jjCPL jjCDJ jjPMJ jjCJJ ⟨(by rw [show (7 - 7 : Int).toNat = 0 by omega]; exact gpq_0), hq⟩ (by first | exact ⟨And.intro (hi.1.1) (And.intro (hi.1.2.1) (hi.1.2.2)), And.intro (hi.2.1.1) (oq_78c639ed g3002), And.intro (by decide) (by decide), And.intro (by decide) (by decide), And.intro (by decide) (by decide), hi.2.2⟩ | omega) (Nat.lt_succ_self _) ?_)))))))))))
        intro s3003 x3004 x3005 x3006 x3007 x3008 Is3003 Fs3003 JAIR_s3003 JCPL_s3003 JCDJ_s3003 JPMJ_s3003 JCJJ_s3003 Qs3003 hs3003
        have b3009 := bi_12 Is3003
        have hge := gpq_e Qs3003.1 (by omega)
        refine z_load X (x := x3006) rfl (List.Mem.tail _ (List.Mem.tail _ (List.Mem.tail _ (List.Mem.tail _ (List.Mem.tail _ (List.Mem.head _)))))) (z_if_le X (t := 185) rfl rfl ⟨by first | exact oq_fa4e5087 hs3003.2.2.1.1 | omega, by first | exact oq_d3f5d874 hs3003.2.2.1.2 | omega⟩ (fun g3010 => ?_) (fun g3010 => ?_))
        ·
          refine z_inc X (x := gp) (lv' := [(2, .int (Int32.ofInt (gp + 1))), (0, .ref (A 54)), (1, .int (Int32.ofInt xv)), (3, .long x3004), (5, .long x3005), (7, .int (Int32.ofInt x3006)), (8, .int (Int32.ofInt x3007)), (9, .int (Int32.ofInt x3008))]) rfl (by decide) (List.Mem.tail _ (List.Mem.tail _ (List.Mem.head _))) (fun _ h => h) (z_goto X (t := 35) rfl rfl (WS_pq [1, 2, 0] (lv' := [(0, .ref (A 54)), (1, .int (Int32.ofInt xv)), (2, .int (Int32.ofInt (gp + 1)))]) rfl ?_))
          exact ih _ xv (gp + 1) Is3003 Fs3003 JAIR_s3003 JCPL_s3003 JCDJ_s3003 JPMJ_s3003 JCJJ_s3003 ⟨upd_v Qs3003.2.1 (npg_n (by omega) (hge.2.1.symm.trans (by omega))).symm, cnq_n Qs3003.2.2.1 (by omega) hge.2.1 (by omega), Qs3003.2.2.2⟩ (by first | exact ⟨And.intro (hs3003.1.1) (And.intro (hs3003.1.2.1) (hs3003.1.2.2)), And.intro (oq_54f49eb5 hs3003.2.1.1) (oq_18969492 hs3003.2.1.2), hs3003.2.2.2.2.2⟩ | omega) (by first | exact qk_me hm (by decide) (oq_6bd25173 hs3003.2.1.2) | omega) kx
        ·
          have hmp : 0 < gcN (iC s 46 (x : Int).toNat) (pfC s) gp 8 := by rw [← hge.2.1]; omega
          refine z_aload_n X (x := A 54) rfl (List.Mem.head _) (s_getR X 54 rfl (c518_ok rfl) rfl rfl (z_load_n X (x := xv) rfl (List.Mem.tail _ (List.Mem.head _)) (w_dup2_11 X.1 (ax_d X (show cdA 45 150 = some (.dup2, 1, 0, 0, 0) from rfl)) rfl rfl ?_)))
          have hne := Qs3003.2.1.1
          have hnr := npg_r (d := (iC s 46 (x : Int).toNat)) (f := (pfC s)) (gp : Int).toNat
          refine z_ald X 56 rfl (c518_ok rfl) rfl (by first | exact hs3003.1.2.1 | omega) (show xv < 6 by first | exact oq_9207f8f8 hs3003.1.2.2 | omega) (cbig_ok rfl) ?_
          have b3011 := bc_47 Is3003 (show (xv).toNat < 6 by first | exact oq_78f9cd89 hs3003.1.2.2 | omega)
          have ar3012 : iC s3003 47 (xv).toNat = iC s3003 47 (xv).toNat := (sam_rf (a := 47) (s := s3003)) _
          refine z_const X rfl (z_add X rfl (z_ast X 56 rfl (c518_ok rfl) rfl (by first | exact hs3003.1.2.1 | omega) (show xv < 6 by first | exact oq_9207f8f8 hs3003.1.2.2 | omega) (cbig_ok rfl) (wd_gen (fun s3013 hs3013 => ?_))))
          have Is3013 : Bd s3013 := eqB hs3013 (bd_C Is3003 (show ((-2147483648) : Int) ≤ ((iC s3003 47 (xv).toNat) + 1) ∧ ((iC s3003 47 (xv).toNat) + 1) ≤ 2147483647 by first | exact ⟨oq_14afcb3e b3011.1, by omega⟩ | omega) ⟨by first | exact oq_14afcb3e b3011.1 | omega, by omega⟩)
          have Fs3013 := eqF hs3013 (fm_C Fs3003 (inl_ok (a := 47) rfl))
          have ws3013_12 : iI s3013 12 = iI s3003 12 := eqI hs3013 rfl
          have aws3013_47 : UPD 47 (xv) ((iC s3003 47 (xv).toNat) + 1) s3003 s3013 := by rw [hs3013]; exact upd_put (sam_rf (a := 47) (s := s3003)) ⟨by first | exact oq_14afcb3e b3011.1 | omega, by omega⟩
          have aws3013_48 : SAM 48 s3003 s3013 := by rw [hs3013]; exact sam_C (by decide) (sam_rf (a := 48) (s := s3003))
          have fs3013 : Fm [] [47] s3003 s3013 := by rw [hs3013]; exact fm_C (fm_rf _ _ _) (show 47 ∈ _ by decide)
          have JAIR_s3013 : AIR s3013 := AIR_fm fs3013 (by decide) JAIR_s3003
          have JCPL_s3013 : CPL s3013 := CPL_fm fs3013 (by decide) JCPL_s3003
          have JCDJ_s3013 : CDJ U s3013 := CDJ_fm fs3013 (by decide) JCDJ_s3003
          have JPMJ_s3013 : PMJ s3013 := PMJ_fm fs3013 (by decide) JPMJ_s3003
          have JCJJ_s3013 : CJJ Jn s3013 := CJJ_fm fs3013 (by decide) JCJJ_s3003
          refine z_aload_n X (x := A 54) rfl (List.Mem.head _) (s_getR X 54 rfl (c518_ok rfl) rfl rfl (w_lload_n X.1 (ax_d X (show cdA 45 159 = some (.lload_n 3, 1, 0, 0, 0) from rfl)) (x := x3004) (List.Mem.tail _ (List.Mem.tail _ (List.Mem.tail _ (List.Mem.head _)))) (w_lload X.1 (ax_d X (show cdA 45 160 = some (.lload 5, 2, 0, 0, 0) from rfl)) (x := x3005) (List.Mem.tail _ (List.Mem.tail _ (List.Mem.tail _ (List.Mem.tail _ (List.Mem.head _))))) (z_load X (x := x3006) rfl (List.Mem.tail _ (List.Mem.tail _ (List.Mem.tail _ (List.Mem.tail _ (List.Mem.tail _ (List.Mem.head _)))))) (zcV_v0 X E 31 (As := [.long x3004, .long x3005, .int (Int32.ofInt x3006)]) (st := []) rfl rfl rfl rfl (c0_listen3 G Is3013 (by first | exact ⟨oq_97e58444 g3010, oq_d3f5d874 hs3003.2.2.1.2⟩ | omega)) rfl (Nat.le_of_ble_eq_true rfl) (fun s3014 Is3014 Fs3014 hps3014 => ?_))))))
          have Gs3014 := fm_tq Fs3013 Fs3014 rfl rfl
          have JAIR_s3014 : AIR s3014 := AIR_fm Fs3014 (by decide) JAIR_s3013
          have JCPL_s3014 : CPL s3014 := CPL_fm Fs3014 (by decide) JCPL_s3013
          have JCDJ_s3014 : CDJ U s3014 := CDJ_fm Fs3014 (by decide) JCDJ_s3013
          have JPMJ_s3014 : PMJ s3014 := PMJ_fm Fs3014 (by decide) JPMJ_s3013
          have JCJJ_s3014 : CJJ Jn s3014 := CJJ_fm Fs3014 (by decide) JCJJ_s3013
          have ws3014_12 : iI s3014 12 = iI s3013 12 := fm_iq Fs3014 rfl
          have aws3014_47 : UPD 47 (xv) ((iC s3003 47 (xv).toNat) + 1) s3003 s3014 := upd_ts aws3013_47 (sam_fm Fs3014 (by decide))
          have aws3014_48 : SAM 48 s3003 s3014 := sam_ts aws3013_48 (sam_fm Fs3014 (by decide))
          refine z_aload_n X (x := A 54) rfl (List.Mem.head _) (z_load_n X (x := xv) rfl (List.Mem.tail _ (List.Mem.head _)) (z_load X (x := x3007) rfl (List.Mem.tail _ (List.Mem.tail _ (List.Mem.tail _ (List.Mem.tail _ (List.Mem.tail _ (List.Mem.tail _ (List.Mem.head _))))))) (z_load X (x := x3006) rfl (List.Mem.tail _ (List.Mem.tail _ (List.Mem.tail _ (List.Mem.tail _ (List.Mem.tail _ (List.Mem.head _)))))) (z_const X rfl (z_icmp_le X (t := 181) rfl rfl ⟨by first | exact oq_97e58444 g3010 | omega, by first | exact oq_d3f5d874 hs3003.2.2.1.2 | omega⟩ (by decide) (fun g3016 => ?_) (fun g3016 => ?_))))))
          ·
            refine z_const X rfl (zcV_v0 X E 54 (As := [.int (Int32.ofInt xv), .int (Int32.ofInt x3007), .int (Int32.ofInt 0)]) (st := []) rfl rfl rfl rfl (c4_group7 G Is3014 JAIR_s3014 JCPL_s3014 hps3014.1 JCDJ_s3014 hps3014.2 JCJJ_s3014 (by first | exact ⟨hs3003.1.2.1, hs3003.1.2.2⟩ | omega) (by first | exact ⟨hs3003.2.2.2.1.1, hs3003.2.2.2.1.2⟩ | omega) (by omega) (by first | exact oq_d7ce4408 ws3014_12 ws3013_12 hs3003.2.2.2.2.2 | omega) (cnq_s Qs3003.2.2.1 aws3014_48) (twu_pgn)) rfl (Nat.le_of_ble_eq_true rfl) (fun s3017 Is3017 Fs3017 hps3017 => ?_))
            have Gs3017 := fm_tq Gs3014 Fs3017 rfl rfl
            have JAIR_s3017 : AIR s3017 := AIR_fm Fs3017 (by decide) JAIR_s3014
            have JCPL_s3017 : CPL s3017 := CPL_fm Fs3017 (by decide) JCPL_s3014
            have JCDJ_s3017 : CDJ U s3017 := CDJ_fm Fs3017 (by decide) JCDJ_s3014
            have JPMJ_s3017 : PMJ s3017 := PMJ_fm Fs3017 (by decide) JPMJ_s3014
            have JCJJ_s3017 : CJJ Jn s3017 := CJJ_fm Fs3017 (by decide) JCJJ_s3014
            have JLSN_s3017 : LSN x3004 x3005 s3017 := LSN_fm Fs3017 (by decide) hps3014.1
            have ws3017_12 : iI s3017 12 = iI s3014 12 := fm_iq Fs3017 rfl
            have aws3017_47 : UPD 47 (xv) ((iC s3003 47 (xv).toNat) + 1) s3003 s3017 := upd_ts aws3014_47 (sam_fm Fs3017 (by decide))
            refine z_inc X (x := gp) (lv' := [(2, .int (Int32.ofInt (gp + 1))), (0, .ref (A 54)), (1, .int (Int32.ofInt xv)), (3, .long x3004), (5, .long x3005), (7, .int (Int32.ofInt x3006)), (8, .int (Int32.ofInt x3007)), (9, .int (Int32.ofInt x3008))]) rfl (by decide) (List.Mem.tail _ (List.Mem.tail _ (List.Mem.head _))) (fun _ h => h) (z_goto X (t := 35) rfl rfl (WS_pq [1, 2, 0] (lv' := [(0, .ref (A 54)), (1, .int (Int32.ofInt xv)), (2, .int (Int32.ofInt (gp + 1)))]) rfl ?_))
            exact ih _ xv (gp + 1) Is3017 Gs3017 JAIR_s3017 JCPL_s3017 JCDJ_s3017 JPMJ_s3017 JCJJ_s3017 ⟨upd_v (upd_2 Qs3003.2.1 aws3017_47) (by rw [npg_y (by omega) hmp]; omega), cnq_y hps3017.1 (by omega) hge.1 hge.2.1 hge.2.2 (by omega), cno_ts (cno_ts Qs3003.2.2.2 (cno_sam aws3014_48)) hps3017.2⟩ (by first | exact ⟨And.intro (hs3003.1.1) (And.intro (hs3003.1.2.1) (hs3003.1.2.2)), And.intro (oq_54f49eb5 hs3003.2.1.1) (oq_18969492 hs3003.2.1.2), oq_e14d47df ws3017_12 ws3014_12 ws3013_12 hs3003.2.2.2.2.2⟩ | omega) (by first | exact qk_me hm (by decide) (oq_6bd25173 hs3003.2.1.2) | omega) kx
          ·
            refine z_const X rfl (z_goto X (t := 182) rfl rfl (zcV_v0 X E 54 (As := [.int (Int32.ofInt xv), .int (Int32.ofInt x3007), .int (Int32.ofInt 1)]) (st := []) rfl rfl rfl rfl (c4_group7 G Is3014 JAIR_s3014 JCPL_s3014 hps3014.1 JCDJ_s3014 hps3014.2 JCJJ_s3014 (by first | exact ⟨hs3003.1.2.1, hs3003.1.2.2⟩ | omega) (by first | exact ⟨hs3003.2.2.2.1.1, hs3003.2.2.2.1.2⟩ | omega) (by omega) (by first | exact oq_d7ce4408 ws3014_12 ws3013_12 hs3003.2.2.2.2.2 | omega) (cnq_s Qs3003.2.2.1 aws3014_48) (twu_pgn)) rfl (Nat.le_of_ble_eq_true rfl) (fun s3019 Is3019 Fs3019 hps3019 => ?_)))
            have Gs3019 := fm_tq Gs3014 Fs3019 rfl rfl
            have JAIR_s3019 : AIR s3019 := AIR_fm Fs3019 (by decide) JAIR_s3014
            have JCPL_s3019 : CPL s3019 := CPL_fm Fs3019 (by decide) JCPL_s3014
            have JCDJ_s3019 : CDJ U s3019 := CDJ_fm Fs3019 (by decide) JCDJ_s3014
            have JPMJ_s3019 : PMJ s3019 := PMJ_fm Fs3019 (by decide) JPMJ_s3014
            have JCJJ_s3019 : CJJ Jn s3019 := CJJ_fm Fs3019 (by decide) JCJJ_s3014
            have JLSN_s3019 : LSN x3004 x3005 s3019 := LSN_fm Fs3019 (by decide) hps3014.1
            have ws3019_12 : iI s3019 12 = iI s3014 12 := fm_iq Fs3019 rfl
            have aws3019_47 : UPD 47 (xv) ((iC s3003 47 (xv).toNat) + 1) s3003 s3019 := upd_ts aws3014_47 (sam_fm Fs3019 (by decide))
            refine z_inc X (x := gp) (lv' := [(2, .int (Int32.ofInt (gp + 1))), (0, .ref (A 54)), (1, .int (Int32.ofInt xv)), (3, .long x3004), (5, .long x3005), (7, .int (Int32.ofInt x3006)), (8, .int (Int32.ofInt x3007)), (9, .int (Int32.ofInt x3008))]) rfl (by decide) (List.Mem.tail _ (List.Mem.tail _ (List.Mem.head _))) (fun _ h => h) (z_goto X (t := 35) rfl rfl (WS_pq [1, 2, 0] (lv' := [(0, .ref (A 54)), (1, .int (Int32.ofInt xv)), (2, .int (Int32.ofInt (gp + 1)))]) rfl ?_))
            exact ih _ xv (gp + 1) Is3019 Gs3019 JAIR_s3019 JCPL_s3019 JCDJ_s3019 JPMJ_s3019 JCJJ_s3019 ⟨upd_v (upd_2 Qs3003.2.1 aws3019_47) (by rw [npg_y (by omega) hmp]; omega), cnq_y hps3019.1 (by omega) hge.1 hge.2.1 hge.2.2 (by omega), cno_ts (cno_ts Qs3003.2.2.2 (cno_sam aws3014_48)) hps3019.2⟩ (by first | exact ⟨And.intro (hs3003.1.1) (And.intro (hs3003.1.2.1) (hs3003.1.2.2)), And.intro (oq_54f49eb5 hs3003.2.1.1) (oq_18969492 hs3003.2.1.2), oq_e14d47df ws3019_12 ws3014_12 ws3013_12 hs3003.2.2.2.2.2⟩ | omega) (by first | exact qk_me hm (by decide) (oq_6bd25173 hs3003.2.1.2) | omega) kx
  refine z_aload_n X (x := A 54) rfl (List.Mem.head _) (s_getR X 54 rfl (c518_ok rfl) rfl rfl (z_load_n X (x := x) rfl (List.Mem.tail _ (List.Mem.head _)) (z_const X rfl (z_ast X 56 rfl (c518_ok rfl) rfl (by first | exact p0.1 | omega) (show x < 6 by first | exact oq_9207f8f8 p0.2 | omega) (cbig_ok rfl) (wd_gen (fun s2 hs2 => ?_))))))
  have Is2 : Bd s2 := eqB hs2 (bd_C I (show ((-2147483648) : Int) ≤ 0 ∧ 0 ≤ 2147483647 by first | exact ⟨by decide, by decide⟩ | omega) (by decide))
  have Fs2 := eqF hs2 (fm_C F (inl_ok (a := 47) rfl))
  have ws2_12 : iI s2 12 = iI s 12 := eqI hs2 rfl
  have aws2_47 : UPD 47 (x) 0 s s2 := by rw [hs2]; exact upd_put aw0_47 (by decide)
  have aws2_48 : SAM 48 s s2 := by rw [hs2]; exact sam_C (by decide) aw0_48
  have fs2 : Fm [] [47] s s2 := by rw [hs2]; exact fm_C (fm_rf _ _ _) (show 47 ∈ _ by decide)
  have JAIR_s2 : AIR s2 := AIR_fm fs2 (by decide) jAIR
  have JCPL_s2 : CPL s2 := CPL_fm fs2 (by decide) jCPL
  have JCDJ_s2 : CDJ U s2 := CDJ_fm fs2 (by decide) jCDJ
  have JPMJ_s2 : PMJ s2 := PMJ_fm fs2 (by decide) jPMJ
  have JCJJ_s2 : CJJ Jn s2 := CJJ_fm fs2 (by decide) jCJJ
  refine z_const X rfl (z_store_n X (lv' := [(2, .int (Int32.ofInt 0)), (0, .ref (A 54)), (1, .int (Int32.ofInt x))]) rfl (by decide) (fun _ h => h) (WS_pq [1, 2, 0] (lv' := [(0, .ref (A 54)), (1, .int (Int32.ofInt x)), (2, .int (Int32.ofInt 0))]) rfl (L9 ((24 - 0 : Int).toNat + 1) s2 x 0 Is2 Fs2 JAIR_s2 JCPL_s2 JCDJ_s2 JPMJ_s2 JCJJ_s2 ⟨aws2_47, fun q hq => absurd hq (by omega), cno_sam aws2_48⟩ (by first | exact ⟨And.intro (by decide) (And.intro (p0.1) (p0.2)), And.intro (by decide) (by decide), oq_86ef0b17 ws2_12 p1⟩ | omega) (Nat.lt_succ_self _) ?_)))
  intro s3 x4 Is3 Fs3 JAIR_s3 JCPL_s3 JCDJ_s3 JPMJ_s3 JCJJ_s3 Qs3 hs3
  have b5 := bi_12 Is3
  refine z_const X rfl (z_store_n X (lv' := [(2, .int (Int32.ofInt 0)), (0, .ref (A 54)), (1, .int (Int32.ofInt x))]) rfl (by decide) (fun _ h => h) (WS_pq [1, 2, 0] (lv' := [(0, .ref (A 54)), (1, .int (Int32.ofInt x)), (2, .int (Int32.ofInt 0))]) rfl (L35 ((8 - 0 : Int).toNat + 1) s3 x 0 Is3 Fs3 JAIR_s3 JCPL_s3 JCDJ_s3 JPMJ_s3 JCJJ_s3 ⟨Qs3.1, cnq_0 Qs3.2.1 (by omega), Qs3.2.2⟩ (by first | exact ⟨And.intro (by decide) (And.intro (hs3.1.2.1) (hs3.1.2.2)), And.intro (by decide) (by decide), hs3.2.2⟩ | omega) (Nat.lt_succ_self _) ?_)))
  intro s6 x7 Is6 Fs6 JAIR_s6 JCPL_s6 JCDJ_s6 JPMJ_s6 JCJJ_s6 Qs6 hs6
  have b8 := bi_12 Is6
  exact w_vret X.1 q hRt (ax_d X (show cdA 45 191 = some (.return_, 1, 0, 0, 0) from rfl)) (Nat.zero_le _) (Nat.zero_le _) ⟨_, rfl, Is6, Fs6, rfl, (by have z := Qs6; rw [show (x7 : Int).toNat = 8 by omega, show x7 = 8 by omega] at z; exact z)⟩
set_option maxRecDepth 4000 in
theorem cs_pairs7 (G : GX l s0 D tys a0 dT) {U : AirD} {Jn : List Int → Prop} (I : Bd s) (jAIR : AIR s) (jCPL : CPL s) (jCDJ : CDJ U s) (jPMJ : PMJ s) (jCJJ : CJJ Jn s) {u v : Int} (p0 : rng u) (p1 : rng v) (p2 : iI s 12 ≤ 8) : CT l s0 D A dT 161 (rmN 161) [.ref (A 0), .int (Int32.ofInt u), .int (Int32.ofInt v)] s (fun o t => Bd t ∧ Fm [22, 23, 24] [33, 26, 27, 28, 29, 30, 31, 32, 20, 48, 47] s t ∧ ((∃ e, o = .inl (some (.int (Int32.ofInt e))) ∧ rng e ∧ (0 ≤ u ∧ u < iI s 32 ∧ 0 ≤ v ∧ v ≤ 23 ∧ PRE U Jn (iC s 46 (u : Int).toNat) (pfC s) (fun j => iC s 24 j) (v : Int).toNat e)) ∨ ∃ x : Nat, o = .inr (exN x) ∧ (((x = 1 ∧ (u < 0 ∨ iI s 32 ≤ u)) ∨ (x = 0 ∧ 0 ≤ u ∧ u < iI s 32 ∧ (v < 0 ∨ 23 < v)))))) := by
  refine ct_ofX G (by decide) (Nat.le_of_ble_eq_true rfl) (fun k X E ET hRt hXt q => ?_)
  show WS k 0 [(0, .ref (A 0)), (1, .int (Int32.ofInt u)), (2, .int (Int32.ofInt v))] [] _ 0 0
  have F : Fm [22, 23, 24] [33, 26, 27, 28, 29, 30, 31, 32, 20, 48, 47] s s := fm_rf _ _ s
  have b1 := bi_32 I
  have b2 := bi_12 I
  refine z_load_n X (x := u) rfl (List.Mem.tail _ (List.Mem.head _)) (z_if_lt X (t := 15) rfl rfl ⟨by first | exact p0.1 | omega, by first | exact p0.2 | omega⟩ (fun g3 => ?_) (fun g3 => ?_))
  ·
    exact z_throw G X E ET hXt q (st := []) rfl (by decide) (by decide) (Nat.le_of_ble_eq_true rfl) (show 0 + 1 ≤ 2 by decide) (show 0 + 6 ≤ 12 by decide) (show 0 + 1 ≤ 2 by decide) (show 0 + 6 ≤ 12 by decide) ⟨_, rfl, I, F, Or.inr ⟨1, rfl, by omega⟩⟩
  ·
    refine z_load_n X (x := u) rfl (List.Mem.tail _ (List.Mem.head _)) (z_aload_n X (x := A 0) rfl (List.Mem.head _) (s_getR X 0 rfl (c518_ok rfl) rfl rfl (z_getI X 54 rfl (c518_ok rfl) rfl rfl ?_)))
    have b4 := bi_32 I
    refine z_icmp_lt X (t := 26) rfl rfl ⟨by first | exact p0.1 | omega, by first | exact p0.2 | omega⟩ (rng_to _) (fun g5 => ?_) (fun g5 => ?_)
    ·
      refine z_aload_n X (x := A 0) rfl (List.Mem.head _) (z_load_n X (x := v) rfl (List.Mem.tail _ (List.Mem.tail _ (List.Mem.head _))) (z_callV X 0 (rm := rmN 183) (As := [.int (Int32.ofInt v)]) (st := []) rfl rfl (by decide) rfl (by rw [E.1, E.2.1, E.2.2.1]; exact cs_needQuarter6 G I (by first | exact ⟨p1.1, p1.2⟩ | omega)) ⟨by rw [E.2.2.2]; exact (show (rmN 183).frames + 1 ≤ (rmN 161).frames by decide), by rw [E.2.2.2]; exact (show 8 + (mNL (miB 183) + 11) + (rmN 183).locals ≤ (rmN 161).locals by decide), by rw [E.2.2.2]; exact (show 0 + 1 ≤ 2 by decide), by rw [E.2.2.2]; exact (show 0 + 6 ≤ 12 by decide)⟩ (Nat.le_of_ble_eq_true rfl) (fun vv s6 hq => ?_) (fun ee s6 hq => ?_)))
      rotate_left
      · obtain ⟨Is6, Fs6, (⟨hv, hps6⟩ | ⟨xx, hv, hps6⟩)⟩ := hq
        · cases hv
        · cases hv
          have Gs6 := fm_tq F Fs6 rfl rfl
          have JAIR_s6 : AIR s6 := AIR_fm Fs6 (by decide) jAIR
          have JCPL_s6 : CPL s6 := CPL_fm Fs6 (by decide) jCPL
          have JCDJ_s6 : CDJ U s6 := CDJ_fm Fs6 (by decide) jCDJ
          have JPMJ_s6 : PMJ s6 := PMJ_fm Fs6 (by decide) jPMJ
          have JCJJ_s6 : CJJ Jn s6 := CJJ_fm Fs6 (by decide) jCJJ
          have ws6_32 : iI s6 32 = iI s 32 := fm_iq Fs6 rfl
          have ws6_12 : iI s6 12 = iI s 12 := fm_iq Fs6 rfl
          exact x_out X.1 q (fun x hx => (hXt x hx).elim) (show 1 ≤ 2 by decide) (show 6 ≤ 12 by decide) ⟨_, rfl, Is6, Gs6, Or.inr ⟨xx, rfl, by omega⟩⟩
      obtain ⟨Is6, Fs6, (⟨hv, hps6⟩ | ⟨xx, hv, hps6⟩)⟩ := hq
      rotate_left
      · cases hv
      cases hv
      have Gs6 := fm_tq F Fs6 rfl rfl
      have JAIR_s6 : AIR s6 := AIR_fm Fs6 (by decide) jAIR
      have JCPL_s6 : CPL s6 := CPL_fm Fs6 (by decide) jCPL
      have JCDJ_s6 : CDJ U s6 := CDJ_fm Fs6 (by decide) jCDJ
      have JPMJ_s6 : PMJ s6 := PMJ_fm Fs6 (by decide) jPMJ
      have JCJJ_s6 : CJJ Jn s6 := CJJ_fm Fs6 (by decide) jCJJ
      have ws6_32 : iI s6 32 = iI s 32 := fm_iq Fs6 rfl
      have ws6_12 : iI s6 12 = iI s 12 := fm_iq Fs6 rfl
      show WS k 31 [(0, .ref (A 0)), (1, .int (Int32.ofInt u)), (2, .int (Int32.ofInt v))] [] (Wd A dT s6) 1 6
      refine z_aload_n X (x := A 0) rfl (List.Mem.head _) (s_getR X 0 rfl (c518_ok rfl) rfl rfl (z_load_n X (x := u) rfl (List.Mem.tail _ (List.Mem.head _)) (z_callV X 54 (rm := rmN 45) (As := [.int (Int32.ofInt u)]) (st := []) rfl rfl (by decide) rfl (by rw [E.1, E.2.1, E.2.2.1]; exact c4_judge7 G Is6 JAIR_s6 JCPL_s6 JCDJ_s6 JPMJ_s6 JCJJ_s6 (by first | exact ⟨g3, oq_4af6a0a9 g5 b4.2⟩ | omega) (by first | exact oq_86ef0b17 ws6_12 p2 | omega)) ⟨by rw [E.2.2.2]; exact (show (rmN 45).frames + 1 ≤ (rmN 161).frames by decide), by rw [E.2.2.2]; exact (show 8 + (mNL (miB 45) + 11) + (rmN 45).locals ≤ (rmN 161).locals by decide), by rw [E.2.2.2]; exact (show 1 + 0 ≤ 2 by decide), by rw [E.2.2.2]; exact (show 6 + 0 ≤ 12 by decide)⟩ (Nat.le_of_ble_eq_true rfl) (fun vv s8 hq => ?_) (fun ee s8 hq => ?_))))
      rotate_left
      · obtain ⟨Is8, Fs8, hv, hps8⟩ := hq; cases hv
      obtain ⟨Is8, Fs8, hv, hps8⟩ := hq
      cases hv
      have Gs8 := fm_tq Gs6 Fs8 rfl rfl
      have JAIR_s8 : AIR s8 := AIR_fm Fs8 (by decide) JAIR_s6
      have JCPL_s8 : CPL s8 := CPL_fm Fs8 (by decide) JCPL_s6
      have JCDJ_s8 : CDJ U s8 := CDJ_fm Fs8 (by decide) JCDJ_s6
      have JPMJ_s8 : PMJ s8 := PMJ_fm Fs8 (by decide) JPMJ_s6
      have JCJJ_s8 : CJJ Jn s8 := CJJ_fm Fs8 (by decide) JCJJ_s6
      have ws8_32 : iI s8 32 = iI s6 32 := fm_iq Fs8 rfl
      have ws8_12 : iI s8 12 = iI s6 12 := fm_iq Fs8 rfl
      show WS k 39 [(0, .ref (A 0)), (1, .int (Int32.ofInt u)), (2, .int (Int32.ofInt v))] [] (Wd A dT s8) 1 6
      have e1 : iC s6 46 (u : Int).toNat = iC s 46 (u : Int).toNat := fm_c Gs6 (by decide)
      have e2 : pfC s6 = pfC s := funext (fun j => fm_c Gs6 (by decide))
      have e3 : (fun j => iC s6 24 j) = (fun j => iC s 24 j) := funext (fun j => fm_c Gs6 (by decide))
      have hj := hps8
      rw [e1, e2, e3] at hj
      refine z_aload_n X (x := A 0) rfl (List.Mem.head _) (s_getR X 0 rfl (c518_ok rfl) rfl rfl (s_getR X 54 rfl (c518_ok rfl) rfl rfl (z_load_n X (x := u) rfl (List.Mem.tail _ (List.Mem.head _)) (z_bipush X rfl (z_mul X rfl (z_load_n X (x := v) rfl (List.Mem.tail _ (List.Mem.tail _ (List.Mem.head _))) (z_add X rfl (z_zald X 57 rfl (c518_ok rfl) rfl (by first | exact oq_4071a75f g3 hps6.1 | omega) (show ((u * 24) + v) < 144 by first | exact oq_b7e30c53 g5 hps6.2 b4.2 | omega) (cbig_ok rfl) ?_))))))))
      have b10 := bc_48 Is8 (show (((u * 24) + v)).toNat < 144 by first | exact oq_8c922985 g5 hps6.2 b4.2 | omega)
      refine z_if_eq X (t := 68) rfl rfl (rng_to _) (fun g11 => ?_) (fun g11 => ?_)
      ·
        refine z_const X rfl ?_
        exact w_iret X.1 q hRt rfl (ax_d X (show cdA 161 69 = some (.ireturn, 1, 0, 0, 0) from rfl)) (show 1 ≤ 2 by decide) (show 6 ≤ 12 by decide) ⟨_, rfl, Is8, Gs8, Or.inl ⟨(-1), rfl, (by decide), ⟨by first | exact g3 | omega, by first | exact g5 | omega, by first | exact hps6.1 | omega, by first | exact hps6.2 | omega, pre_of hj.2.1 (by first | (clear hps6; omega) | omega) hj.1.1 rfl (Or.inr ⟨by first | (clear hps6; omega) | omega, rfl⟩)⟩⟩⟩
      ·
        refine z_aload_n X (x := A 0) rfl (List.Mem.head _) (s_getR X 0 rfl (c518_ok rfl) rfl rfl (s_getR X 54 rfl (c518_ok rfl) rfl rfl (z_load_n X (x := u) rfl (List.Mem.tail _ (List.Mem.head _)) (z_ald X 56 rfl (c518_ok rfl) rfl (by first | exact g3 | omega) (show u < 6 by first | exact oq_f35046fc g5 b4.2 | omega) (cbig_ok rfl) ?_))))
        have b12 := bc_47 Is8 (show (u).toNat < 6 by first | exact oq_77ac74ee g5 b4.2 | omega)
        refine z_goto X (t := 69) rfl rfl ?_
        exact w_iret X.1 q hRt rfl (ax_d X (show cdA 161 69 = some (.ireturn, 1, 0, 0, 0) from rfl)) (show 1 ≤ 2 by decide) (show 6 ≤ 12 by decide) ⟨_, rfl, Is8, Gs8, Or.inl ⟨(iC s8 47 (u).toNat), rfl, (rng_to _), ⟨by first | exact g3 | omega, by first | exact g5 | omega, by first | exact hps6.1 | omega, by first | exact hps6.2 | omega, pre_of hj.2.1 (by first | (clear g11 hps6; omega) | (clear hps6; omega) | omega) hj.1.1 rfl (Or.inl ⟨by first | (clear g11 hps6; omega) | (clear hps6; omega) | omega, rfl⟩)⟩⟩⟩
    ·
      exact z_throw G X E ET hXt q (st := []) rfl (by decide) (by decide) (Nat.le_of_ble_eq_true rfl) (show 0 + 1 ≤ 2 by decide) (show 0 + 6 ≤ 12 by decide) (show 0 + 1 ≤ 2 by decide) (show 0 + 6 ≤ 12 by decide) ⟨_, rfl, I, F, Or.inr ⟨1, rfl, by omega⟩⟩
set_option maxRecDepth 4000 in
theorem lw_pairs7 (G : GX l s0 D tys a0 dT) {U : AirD} {Jn : List Int → Prop} (I : Bd s) (jAIR : AIR s) (jCPL : CPL s) (jCDJ : CDJ U s) (jPMJ : PMJ s) (jCJJ : CJJ Jn s) {u v : Int} (p0 : rng u) (p1 : rng v) (p2 : iI s 12 ≤ 8) : CTL l s0 D A dT 335 (rmN 335) [.ref (A 0), .int (Int32.ofInt u), .int (Int32.ofInt v), .ref (A 517)] s (fun o t => Bd t ∧ Fm [22, 23, 24] [33, 26, 27, 28, 29, 30, 31, 32, 20, 48, 47, 1460] s t ∧ ∃ e, o = .inl (some (.int (Int32.ofInt e))) ∧ rng e ∧ ((e = 0 ∧ 0 ≤ u ∧ u < iI s 32 ∧ 0 ≤ v ∧ v ≤ 23 ∧ PRE U Jn (iC s 46 (u : Int).toNat) (pfC s) (fun j => iC s 24 j) (v : Int).toNat (iO t)) ∨ (e = 1 ∧ (u < 0 ∨ iI s 32 ≤ u)) ∨ (e = 2 ∧ 0 ≤ u ∧ u < iI s 32 ∧ (v < 0 ∨ 23 < v)))) := by
  refine ctL_of G (by decide) (Nat.le_of_ble_eq_true rfl) (by decide) rfl (fun k X E ET hRt hEx q => ?_)
  show WS k 0 [(0, .ref (A 0)), (1, .int (Int32.ofInt u)), (2, .int (Int32.ofInt v)), (3, .ref (A 517))] [] _ 0 0
  have F : Fm [22, 23, 24] [33, 26, 27, 28, 29, 30, 31, 32, 20, 48, 47, 1460] s s := fm_rf _ _ s
  have hA := swA_rf A
  have b1 := bi_32 I
  have b2 := bi_12 I
  refine z_aload_n X (x := A 517) rfl (List.Mem.tail _ (List.Mem.tail _ (List.Mem.tail _ (List.Mem.head _)))) (z_const X rfl (z_aload_n X (x := A 0) rfl (List.Mem.head _) (z_load_n X (x := u) rfl (List.Mem.tail _ (List.Mem.head _)) (z_load_n X (x := v) rfl (List.Mem.tail _ (List.Mem.tail _ (List.Mem.head _))) (z_callV X 0 (rm := rmN 161) (As := [.int (Int32.ofInt u), .int (Int32.ofInt v)]) (st := [.int (Int32.ofInt 0), .ref (A 517)]) rfl rfl (by decide) rfl (by rw [E.1, E.2.1, E.2.2.1]; exact cs_pairs7 G I jAIR jCPL jCDJ jPMJ jCJJ (by omega) (by omega) (by omega)) ⟨by rw [E.2.2.2]; exact (show (rmN 161).frames + 1 ≤ (rmN 335).frames by decide), by rw [E.2.2.2]; exact (show 8 + (mNL (miB 161) + 11) + (rmN 161).locals ≤ (rmN 335).locals by decide), by rw [E.2.2.2]; exact (show 0 + (rmN 161).cells ≤ (rmN 335).cells by decide), by rw [E.2.2.2]; exact (show 0 + (rmN 161).slots ≤ (rmN 335).slots by decide)⟩ (Nat.le_of_ble_eq_true rfl) (fun vv s3 hq => ?_) (fun ee s3 hq => ?_))))))
  rotate_left
  · obtain ⟨Is3, Fs3, (⟨e4, hv, hrs3, hps3⟩ | ⟨xx, hv, hps3⟩)⟩ := hq
    · cases hv
    · cases hv
      rcases (show xx = 0 ∨ xx = 1 by omega) with gx | gx
      ·
        subst gx
        have Gs3 := fm_tq F Fs3 rfl rfl
        have ws3_32 : iI s3 32 = iI s 32 := fm_iq Fs3 rfl
        have ws3_12 : iI s3 12 = iI s 12 := fm_iq Fs3 rfl
        refine (hEx 5 0).2 17 rfl _ _ _ _ _ (fun q1 => ?_)
        show WS k 17 [(0, .ref (A 0)), (1, .int (Int32.ofInt u)), (2, .int (Int32.ofInt v)), (3, .ref (A 517))] [.ref q1] (Wd A dT s3) 2 12
        refine z_astore X (lv' := [(4, .ref q1), (0, .ref (A 0)), (1, .int (Int32.ofInt u)), (2, .int (Int32.ofInt v)), (3, .ref (A 517))]) rfl (by decide) (fun _ h => h) (z_const X rfl ?_)
        exact w_iret X.1 q hRt rfl (ax_d X (show cdA 335 20 = some (.ireturn, 1, 0, 0, 0) from rfl)) (show 2 ≤ 2 by decide) (show 12 ≤ 12 by decide) ⟨A, _, hA, rfl, Is3, Gs3, 2, rfl, (by decide), Or.inr (Or.inr ⟨by decide, by omega, by omega, by omega⟩)⟩
      ·
        subst gx
        have Gs3 := fm_tq F Fs3 rfl rfl
        have ws3_32 : iI s3 32 = iI s 32 := fm_iq Fs3 rfl
        have ws3_12 : iI s3 12 = iI s 12 := fm_iq Fs3 rfl
        refine (hEx 5 1).2 13 rfl _ _ _ _ _ (fun q1 => ?_)
        show WS k 13 [(0, .ref (A 0)), (1, .int (Int32.ofInt u)), (2, .int (Int32.ofInt v)), (3, .ref (A 517))] [.ref q1] (Wd A dT s3) 2 12
        refine z_astore X (lv' := [(4, .ref q1), (0, .ref (A 0)), (1, .int (Int32.ofInt u)), (2, .int (Int32.ofInt v)), (3, .ref (A 517))]) rfl (by decide) (fun _ h => h) (z_const X rfl ?_)
        exact w_iret X.1 q hRt rfl (ax_d X (show cdA 335 16 = some (.ireturn, 1, 0, 0, 0) from rfl)) (show 2 ≤ 2 by decide) (show 12 ≤ 12 by decide) ⟨A, _, hA, rfl, Is3, Gs3, 1, rfl, (by decide), Or.inr (Or.inl ⟨by decide, by omega⟩)⟩
  obtain ⟨Is3, Fs3, (⟨e4, hv, hrs3, hps3⟩ | ⟨xx, hv, hps3⟩)⟩ := hq
  rotate_left
  · cases hv
  cases hv
  have Gs3 := fm_tq F Fs3 rfl rfl
  have ws3_32 : iI s3 32 = iI s 32 := fm_iq Fs3 rfl
  have ws3_12 : iI s3 12 = iI s 12 := fm_iq Fs3 rfl
  show WS k 8 [(0, .ref (A 0)), (1, .int (Int32.ofInt u)), (2, .int (Int32.ofInt v)), (3, .ref (A 517))] [.int (Int32.ofInt e4), .int (Int32.ofInt 0), .ref (A 517)] (Wd A dT s3) 2 12
  refine w_i2l X.1 (ax_d X (show cdA 335 8 = some (.i2l, 1, 0, 0, 0) from rfl)) (z_last X 517 rfl (c518_ok rfl) rfl (by first | (clear hps3; omega) | omega) (show 0 < 1 by first | (clear hps3; omega) | omega) (cbig_ok rfl) (wd_gen (fun s5 hs5 => ?_)))
  have Is5 : Bd s5 := eqB hs5 (bd_D Is3)
  have Fs5 : Fm [22, 23, 24] [33, 26, 27, 28, 29, 30, 31, 32, 20, 48, 47, 1460] s s5 := by rw [hs5]; exact fm_D Gs3 (show 460 + 1000 ∈ _ by decide)
  have ws5_32 : iI s5 32 = iI s3 32 := eqI hs5 rfl
  have ws5_12 : iI s5 12 = iI s3 12 := eqI hs5 rfl
  have oos5 : iO s5 = e4 := by rw [hs5]; exact iO_u (by first | (clear hps3; omega) | omega)
  refine z_goto X (t := 21) rfl rfl (z_const X rfl ?_)
  exact w_iret X.1 q hRt rfl (ax_d X (show cdA 335 22 = some (.ireturn, 1, 0, 0, 0) from rfl)) (show 2 ≤ 2 by decide) (show 12 ≤ 12 by decide) ⟨A, _, hA, rfl, Is5, Fs5, 0, rfl, (by decide), Or.inl ⟨by decide, by first | (clear hps3; omega) | omega, by first | (clear hps3; omega) | omega, by first | (clear hps3; omega) | omega, by first | (clear hps3; omega) | omega, by rw [show iO s5 = e4 by first | (clear hps3; omega) | omega]; exact hps3.2.2.2.2⟩⟩
set_option maxRecDepth 4000 in
theorem c4_add7 (G : GX l s0 D tys a0 dT) (I : Bd s) {x : Int} (p0 : 0 ≤ x ∧ x < 16777216) : CT l s0 D A dT 43 (rmN 43) [.ref (A 54), .int (Int32.ofInt x)] s (fun o t => Bd t ∧ Fm [32] [46] s t ∧ ∃ e, o = .inl (some (.int (Int32.ofInt e))) ∧ rng e ∧ ((iI s 32 = 6 ∧ e = -1 ∧ iI t 32 = 6 ∧ SAM 46 s t) ∨ (iI s 32 ≠ 6 ∧ e = iI s 32 ∧ iI t 32 = iI s 32 + 1 ∧ UPD 46 (iI s 32) x s t))) := by
  refine ct_ofX G (by decide) (Nat.le_of_ble_eq_true rfl) (fun k X E ET hRt hXt q => ?_)
  show WS k 0 [(0, .ref (A 54)), (1, .int (Int32.ofInt x))] [] _ 0 0
  have F : Fm [32] [46] s s := fm_rf _ _ s
  have aw0_46 : SAM 46 s s := sam_rf
  have b1 := bi_32 I
  refine z_aload_n X (x := A 54) rfl (List.Mem.head _) (z_getI X 54 rfl (c518_ok rfl) rfl rfl ?_)
  have b2 := bi_32 I
  refine z_bipush X rfl (z_icmp_lt X (t := 11) rfl rfl (rng_to _) (by decide) (fun g3 => ?_) (fun g3 => ?_))
  ·
    refine z_aload_n X (x := A 54) rfl (List.Mem.head _) (s_getR X 54 rfl (c518_ok rfl) rfl rfl (z_aload_n X (x := A 54) rfl (List.Mem.head _) (z_getI X 54 rfl (c518_ok rfl) rfl rfl ?_)))
    have b4 := bi_32 I
    refine z_load_n X (x := x) rfl (List.Mem.tail _ (List.Mem.head _)) (z_ast X 55 rfl (c518_ok rfl) rfl (by first | exact b4.1 | omega) (show (iI s 32) < 6 by first | exact g3 | omega) (cbig_ok rfl) (wd_gen (fun s5 hs5 => ?_)))
    have Is5 : Bd s5 := eqB hs5 (bd_C I (show (0 : Int) ≤ x ∧ x ≤ 16777215 by first | exact ⟨p0.1, oq_6e3114c9 p0.2⟩ | omega) ⟨by first | exact oq_fa4e5087 p0.1 | omega, by first | exact oq_cc49ca4d p0.2 | omega⟩)
    have Fs5 := eqF hs5 (fm_C F (inl_ok (a := 46) rfl))
    have ws5_32 : iI s5 32 = iI s 32 := eqI hs5 rfl
    have aws5_46 : UPD 46 ((iI s 32)) x s s5 := by rw [hs5]; exact upd_put aw0_46 ⟨by first | exact oq_fa4e5087 p0.1 | omega, by first | exact oq_cc49ca4d p0.2 | omega⟩
    refine z_aload_n X (x := A 54) rfl (List.Mem.head _) (w_dup X.1 (ax_d X (show cdA 43 22 = some (.dup, 1, 0, 0, 0) from rfl)) rfl (z_getI X 54 rfl (c518_ok rfl) rfl rfl ?_))
    have b6 := bi_32 Is5
    refine z_const X rfl (z_add X rfl (s_putI X 54 rfl (c518_ok rfl) rfl rfl (by decide) rfl rfl rfl (wd_gen (fun s7 hs7 => ?_))))
    have Is7 : Bd s7 := eqB hs7 (bd_I Is5 (show (0 : Int) ≤ ((iI s5 32) + 1) ∧ ((iI s5 32) + 1) ≤ 6 by first | exact ⟨oq_54f49eb5 b6.1, oq_d8f0483d ws5_32 g3⟩ | omega) ⟨by first | exact oq_74de1e16 b6.1 | omega, by first | exact oq_5fe14c36 b6.2 | omega⟩)
    have Fs7 := eqF hs7 (fm_I Fs5 (inl_ok (a := 32) rfl))
    have vs7 : iI s7 32 = ((iI s5 32) + 1) := eqI hs7 (iI_u ⟨by first | exact oq_74de1e16 b6.1 | omega, by first | exact oq_5fe14c36 b6.2 | omega⟩)
    have aws7_46 : UPD 46 ((iI s 32)) x s s7 := by rw [hs7]; exact aws5_46
    refine z_aload_n X (x := A 54) rfl (List.Mem.head _) (z_getI X 54 rfl (c518_ok rfl) rfl rfl ?_)
    have b8 := bi_32 Is7
    refine z_const X rfl (z_sub X rfl ?_)
    exact w_iret X.1 q hRt rfl (ax_d X (show cdA 43 37 = some (.ireturn, 1, 0, 0, 0) from rfl)) (Nat.zero_le _) (Nat.zero_le _) ⟨_, rfl, Is7, Fs7, ((iI s7 32) - 1), rfl, ⟨by first | exact oq_c1e961c7 b8.1 | omega, by first | exact oq_b383b26c b8.2 | omega⟩, Or.inr ⟨by first | exact oq_b66a42df g3 | omega, by first | exact oq_5e19d6ec vs7 ws5_32 | omega, by first | exact oq_665cd23d vs7 ws5_32 | omega, upd_ix aws7_46 (by omega)⟩⟩
  ·
    refine z_const X rfl ?_
    exact w_iret X.1 q hRt rfl (ax_d X (show cdA 43 10 = some (.ireturn, 1, 0, 0, 0) from rfl)) (Nat.zero_le _) (Nat.zero_le _) ⟨_, rfl, I, F, (-1), rfl, (by decide), Or.inl ⟨by first | exact oq_0dbc568f b2.2 g3 | omega, by decide, by first | exact oq_0dbc568f b2.2 g3 | omega, aw0_46⟩⟩
set_option maxRecDepth 4000 in
theorem cs_configure7 (G : GX l s0 D tys a0 dT) (I : Bd s) {v : Int} (p0 : rng v) : CT l s0 D A dT 160 (rmN 160) [.ref (A 0), .int (Int32.ofInt v)] s (fun o t => Bd t ∧ Fm [32] [46] s t ∧ ((∃ e, o = .inl (some (.int (Int32.ofInt e))) ∧ rng e ∧ (0 ≤ v ∧ v < 16777216 ∧ ((iI s 32 = 6 ∧ e = -1 ∧ iI t 32 = 6 ∧ SAM 46 s t) ∨ (iI s 32 ≠ 6 ∧ e = iI s 32 ∧ iI t 32 = iI s 32 + 1 ∧ UPD 46 (iI s 32) v s t)))) ∨ ∃ x : Nat, o = .inr (exN x) ∧ (x = 0 ∧ (v < 0 ∨ 16777216 ≤ v) ∧ iI t 32 = iI s 32 ∧ SAM 46 s t))) := by
  refine ct_ofX G (by decide) (Nat.le_of_ble_eq_true rfl) (fun k X E ET hRt hXt q => ?_)
  show WS k 0 [(0, .ref (A 0)), (1, .int (Int32.ofInt v))] [] _ 0 0
  have F : Fm [32] [46] s s := fm_rf _ _ s
  have aw0_46 : SAM 46 s s := sam_rf
  have b1 := bi_32 I
  refine z_aload_n X (x := A 0) rfl (List.Mem.head _) (z_load_n X (x := v) rfl (List.Mem.tail _ (List.Mem.head _)) (z_const X rfl (z_ldcw X rfl (z_callV X 0 (rm := rmN 184) (As := [.int (Int32.ofInt v), .int (Int32.ofInt 0), .int (Int32.ofInt 16777215)]) (st := []) rfl rfl (by decide) rfl (by rw [E.1, E.2.1, E.2.2.1]; exact cs_needWithin2 G I (by first | exact ⟨p0.1, p0.2⟩ | omega) (by first | exact ⟨by decide, by decide⟩ | omega) (by first | exact ⟨by decide, by decide⟩ | omega)) ⟨by rw [E.2.2.2]; exact (show (rmN 184).frames + 1 ≤ (rmN 160).frames by decide), by rw [E.2.2.2]; exact (show 8 + (mNL (miB 184) + 11) + (rmN 184).locals ≤ (rmN 160).locals by decide), by rw [E.2.2.2]; exact (show 0 + 1 ≤ 1 by decide), by rw [E.2.2.2]; exact (show 0 + 6 ≤ 6 by decide)⟩ (Nat.le_of_ble_eq_true rfl) (fun vv s2 hq => ?_) (fun ee s2 hq => ?_)))))
  rotate_left
  · obtain ⟨Is2, Fs2, (⟨hv, hps2⟩ | ⟨xx, hv, hps2⟩)⟩ := hq
    · cases hv
    · cases hv
      have Gs2 := fm_tq F Fs2 rfl rfl
      have ws2_32 : iI s2 32 = iI s 32 := fm_iq Fs2 rfl
      have aws2_46 : SAM 46 s s2 := sam_ts aw0_46 (sam_fm Fs2 (by decide))
      exact x_out X.1 q (fun x hx => (hXt x hx).elim) (show 1 ≤ 1 by decide) (show 6 ≤ 6 by decide) ⟨_, rfl, Is2, Gs2, Or.inr ⟨xx, rfl, ⟨by omega, by omega, by omega, aws2_46⟩⟩⟩
  obtain ⟨Is2, Fs2, (⟨hv, hps2⟩ | ⟨xx, hv, hps2⟩)⟩ := hq
  rotate_left
  · cases hv
  cases hv
  have Gs2 := fm_tq F Fs2 rfl rfl
  have ws2_32 : iI s2 32 = iI s 32 := fm_iq Fs2 rfl
  have aws2_46 : SAM 46 s s2 := sam_ts aw0_46 (sam_fm Fs2 (by decide))
  show WS k 9 [(0, .ref (A 0)), (1, .int (Int32.ofInt v))] [] (Wd A dT s2) 1 6
  refine z_aload_n X (x := A 0) rfl (List.Mem.head _) (s_getR X 0 rfl (c518_ok rfl) rfl rfl (z_load_n X (x := v) rfl (List.Mem.tail _ (List.Mem.head _)) (z_callV X 54 (rm := rmN 43) (As := [.int (Int32.ofInt v)]) (st := []) rfl rfl (by decide) rfl (by rw [E.1, E.2.1, E.2.2.1]; exact c4_add7 G Is2 (by first | exact ⟨hps2.1, oq_87396caf hps2.2⟩ | omega)) ⟨by rw [E.2.2.2]; exact (show (rmN 43).frames + 1 ≤ (rmN 160).frames by decide), by rw [E.2.2.2]; exact (show 8 + (mNL (miB 43) + 11) + (rmN 43).locals ≤ (rmN 160).locals by decide), by rw [E.2.2.2]; exact (show 1 + 0 ≤ 1 by decide), by rw [E.2.2.2]; exact (show 6 + 0 ≤ 6 by decide)⟩ (Nat.le_of_ble_eq_true rfl) (fun vv s4 hq => ?_) (fun ee s4 hq => ?_))))
  rotate_left
  · obtain ⟨Is4, Fs4, e5, hv, hrs4, hps4⟩ := hq; cases hv
  obtain ⟨Is4, Fs4, e5, hv, hrs4, hps4⟩ := hq
  cases hv
  have Gs4 := fm_tq Gs2 Fs4 rfl rfl
  have b6 := bi_32 Is4
  show WS k 17 [(0, .ref (A 0)), (1, .int (Int32.ofInt v))] [.int (Int32.ofInt e5)] (Wd A dT s4) 1 6
  exact w_iret X.1 q hRt rfl (ax_d X (show cdA 160 17 = some (.ireturn, 1, 0, 0, 0) from rfl)) (show 1 ≤ 1 by decide) (show 6 ≤ 6 by decide) ⟨_, rfl, Is4, Gs4, Or.inl ⟨e5, rfl, hrs4, ⟨by first | exact hps2.1 | omega, by first | exact oq_87396caf hps2.2 | omega, hps4.elim (fun q => Or.inl ⟨by first | (clear hps4 hps2; omega) | (clear hps2; omega) | omega, by first | (clear hps4 hps2; omega) | (clear hps2; omega) | omega, by first | (clear hps4 hps2; omega) | (clear hps2; omega) | omega, sam_ts aws2_46 q.2.2.2⟩) (fun q => Or.inr ⟨by first | (clear hps4 hps2; omega) | (clear hps2; omega) | omega, by first | (clear hps4 hps2; omega) | (clear hps2; omega) | omega, by first | (clear hps4 hps2; omega) | (clear hps2; omega) | omega, upd_st aws2_46 (upd_ix q.2.2.2 (by first | (clear hps4 hps2; omega) | (clear hps2; omega) | omega))⟩)⟩⟩⟩
set_option maxRecDepth 4000 in
theorem lw_configure7 (G : GX l s0 D tys a0 dT) (I : Bd s) {v : Int} (p0 : rng v) : CTL l s0 D A dT 334 (rmN 334) [.ref (A 0), .int (Int32.ofInt v), .ref (A 517)] s (fun o t => Bd t ∧ Fm [32] [46, 1460] s t ∧ ∃ e, o = .inl (some (.int (Int32.ofInt e))) ∧ rng e ∧ ((e = 0 ∧ 0 ≤ v ∧ v < 16777216 ∧ ((iI s 32 = 6 ∧ iO t = -1 ∧ iI t 32 = 6 ∧ SAM 46 s t) ∨ (iI s 32 ≠ 6 ∧ iO t = iI s 32 ∧ iI t 32 = iI s 32 + 1 ∧ UPD 46 (iI s 32) v s t))) ∨ (e = 1 ∧ (v < 0 ∨ 16777216 ≤ v) ∧ iI t 32 = iI s 32 ∧ SAM 46 s t))) := by
  refine ctL_of G (by decide) (Nat.le_of_ble_eq_true rfl) (by decide) rfl (fun k X E ET hRt hEx q => ?_)
  show WS k 0 [(0, .ref (A 0)), (1, .int (Int32.ofInt v)), (2, .ref (A 517))] [] _ 0 0
  have F : Fm [32] [46, 1460] s s := fm_rf _ _ s
  have hA := swA_rf A
  have b1 := bi_32 I
  refine z_aload_n X (x := A 517) rfl (List.Mem.tail _ (List.Mem.tail _ (List.Mem.head _))) (z_const X rfl (z_aload_n X (x := A 0) rfl (List.Mem.head _) (z_load_n X (x := v) rfl (List.Mem.tail _ (List.Mem.head _)) (z_callV X 0 (rm := rmN 160) (As := [.int (Int32.ofInt v)]) (st := [.int (Int32.ofInt 0), .ref (A 517)]) rfl rfl (by decide) rfl (by rw [E.1, E.2.1, E.2.2.1]; exact cs_configure7 G I (by omega)) ⟨by rw [E.2.2.2]; exact (show (rmN 160).frames + 1 ≤ (rmN 334).frames by decide), by rw [E.2.2.2]; exact (show 8 + (mNL (miB 160) + 11) + (rmN 160).locals ≤ (rmN 334).locals by decide), by rw [E.2.2.2]; exact (show 0 + (rmN 160).cells ≤ (rmN 334).cells by decide), by rw [E.2.2.2]; exact (show 0 + (rmN 160).slots ≤ (rmN 334).slots by decide)⟩ (Nat.le_of_ble_eq_true rfl) (fun vv s2 hq => ?_) (fun ee s2 hq => ?_)))))
  rotate_left
  · obtain ⟨Is2, Fs2, (⟨e3, hv, hrs2, hps2⟩ | ⟨xx, hv, hps2⟩)⟩ := hq
    · cases hv
    · cases hv
      rcases (show xx = 0 by omega) with gx
      ·
        subst gx
        have Gs2 := fm_tq F Fs2 rfl rfl
        have b4 := bi_32 Is2
        refine (hEx 4 0).2 12 rfl _ _ _ _ _ (fun q1 => ?_)
        show WS k 12 [(0, .ref (A 0)), (1, .int (Int32.ofInt v)), (2, .ref (A 517))] [.ref q1] (Wd A dT s2) 1 6
        refine z_astore_n X (lv' := [(3, .ref q1), (0, .ref (A 0)), (1, .int (Int32.ofInt v)), (2, .ref (A 517))]) rfl (by decide) (fun _ h => h) (z_const X rfl ?_)
        exact w_iret X.1 q hRt rfl (ax_d X (show cdA 334 14 = some (.ireturn, 1, 0, 0, 0) from rfl)) (show 1 ≤ 1 by decide) (show 6 ≤ 6 by decide) ⟨A, _, hA, rfl, Is2, Gs2, 1, rfl, (by decide), Or.inr ⟨by decide, by omega, by omega, hps2.2.2.2⟩⟩
  obtain ⟨Is2, Fs2, (⟨e3, hv, hrs2, hps2⟩ | ⟨xx, hv, hps2⟩)⟩ := hq
  rotate_left
  · cases hv
  cases hv
  have Gs2 := fm_tq F Fs2 rfl rfl
  have b5 := bi_32 Is2
  show WS k 7 [(0, .ref (A 0)), (1, .int (Int32.ofInt v)), (2, .ref (A 517))] [.int (Int32.ofInt e3), .int (Int32.ofInt 0), .ref (A 517)] (Wd A dT s2) 1 6
  refine w_i2l X.1 (ax_d X (show cdA 334 7 = some (.i2l, 1, 0, 0, 0) from rfl)) (z_last X 517 rfl (c518_ok rfl) rfl (by first | (clear hps2; omega) | omega) (show 0 < 1 by first | (clear hps2; omega) | omega) (cbig_ok rfl) (wd_gen (fun s6 hs6 => ?_)))
  have Is6 : Bd s6 := eqB hs6 (bd_D Is2)
  have Fs6 : Fm [32] [46, 1460] s s6 := by rw [hs6]; exact fm_D Gs2 (show 460 + 1000 ∈ _ by decide)
  have ws6_32 : iI s6 32 = iI s2 32 := eqI hs6 rfl
  have oos6 : iO s6 = e3 := by rw [hs6]; exact iO_u (by first | (clear hps2; omega) | omega)
  refine z_goto X (t := 15) rfl rfl (z_const X rfl ?_)
  exact w_iret X.1 q hRt rfl (ax_d X (show cdA 334 16 = some (.ireturn, 1, 0, 0, 0) from rfl)) (show 1 ≤ 1 by decide) (show 6 ≤ 6 by decide) ⟨A, _, hA, rfl, Is6, Fs6, 0, rfl, (by decide), Or.inl ⟨by decide, by first | (clear hps2; omega) | omega, by first | (clear hps2; omega) | omega, hps2.2.2.elim (fun q => Or.inl ⟨by first | (clear hps2; omega) | omega, by first | (clear hps2; omega) | omega, by first | (clear hps2; omega) | omega, sam_ts q.2.2.2 (fun j => by rw [hs6]; rfl)⟩) (fun q => Or.inr ⟨by first | (clear hps2; omega) | omega, by first | (clear hps2; omega) | omega, by first | (clear hps2; omega) | omega, upd_ts q.2.2.2 (fun j => by rw [hs6]; rfl)⟩)⟩⟩
set_option maxRecDepth 4000 in
theorem k_configure7 (G : GX l s0 D tys a0 dT) (I : Bd s) {x : Int} (p0 : rng x) : CT l s0 D A dT 264 (rmN 264) [.ref (A 179), .int (Int32.ofInt x)] s (fun o t => Bd t ∧ Fm [73, 99] [237] s t ∧ ∃ e, o = .inl (some (.int (Int32.ofInt e))) ∧ rng e ∧ ((0 ≤ x ∧ x < 16777216 ∧ iI t 73 = 0 ∧ ((iI s 99 = 6 ∧ e = -1 ∧ iI t 99 = 6 ∧ SAM 237 s t) ∨ (iI s 99 ≠ 6 ∧ e = iI s 99 ∧ iI t 99 = iI s 99 + 1 ∧ UPD 237 (iI s 99) x s t))) ∨ ((x < 0 ∨ 16777216 ≤ x) ∧ iI t 73 = 1 ∧ iI t 99 = iI s 99 ∧ SAM 237 s t))) := by
  refine ct_of G (by decide) (Nat.le_of_ble_eq_true rfl) (fun k X E hRt hXt q => ?_)
  show WS k 0 [(0, .ref (A 179)), (1, .int (Int32.ofInt x))] [] _ 0 0
  have F : Fm [73, 99] [237] s s := fm_rf _ _ s
  have aw0_237 : SAM 237 s s := sam_rf
  have b1 := bi_73 I
  have b2 := bi_99 I
  refine z_aload_n X (x := A 179) rfl (List.Mem.head _) (z_const X rfl (s_putI X 179 rfl (c518_ok rfl) rfl rfl (by decide) rfl rfl rfl (wd_gen (fun s3 hs3 => ?_))))
  have Is3 : Bd s3 := eqB hs3 (bd_I I (show (0 : Int) ≤ 0 ∧ 0 ≤ 3 by first | exact ⟨by decide, by decide⟩ | omega) (by decide))
  have Fs3 := eqF hs3 (fm_I F (inl_ok (a := 73) rfl))
  have vs3 : iI s3 73 = 0 := eqI hs3 (iI_u (by decide))
  have ws3_99 : iI s3 99 = iI s 99 := eqI hs3 rfl
  have aws3_237 : SAM 237 s s3 := by rw [hs3]; exact aw0_237
  refine z_aload_n X (x := A 179) rfl (List.Mem.head _) (z_load_n X (x := x) rfl (List.Mem.tail _ (List.Mem.head _)) (z_if_lt X (t := 17) rfl rfl ⟨by first | exact p0.1 | omega, by first | exact p0.2 | omega⟩ (fun g4 => ?_) (fun g4 => ?_)))
  ·
    refine z_const X rfl (z_goto X (t := 22) rfl rfl (z_const X rfl (zcV_i0 X E 179 (As := [.int (Int32.ofInt 1), .int (Int32.ofInt 1)]) (st := []) rfl rfl rfl rfl (k_bad2 G Is3 (by first | exact Or.inr (by decide) | omega) (by first | exact ⟨by decide, by decide⟩ | omega)) rfl (Nat.le_of_ble_eq_true rfl) (fun s5 e6 Is5 Fs5 hrs5 hps5 => ?_))))
    have Gs5 := fm_tq Fs3 Fs5 rfl rfl
    have b7 := bi_73 Is5
    have ws5_99 : iI s5 99 = iI s3 99 := fm_iq Fs5 rfl
    have aws5_237 : SAM 237 s s5 := sam_ts aws3_237 (sam_fm Fs5 (by decide))
    refine z_if_eq X (t := 31) rfl rfl hrs5 (fun g8 => ?_) (fun g8 => ?_)
    ·
      refine z_aload_n X (x := A 179) rfl (List.Mem.head _) (z_getI X 179 rfl (c518_ok rfl) rfl rfl ?_)
      have b9 := bi_99 Is5
      refine z_bipush X rfl (z_icmp_ne X (t := 42) rfl rfl (rng_to _) (by decide) (fun g10 => ?_) (fun g10 => ?_))
      ·
        refine z_aload_n X (x := A 179) rfl (List.Mem.head _) (s_getR X 179 rfl (c518_ok rfl) rfl rfl (z_aload_n X (x := A 179) rfl (List.Mem.head _) (z_getI X 179 rfl (c518_ok rfl) rfl rfl ?_)))
        have b11 := bi_99 Is5
        refine z_load_n X (x := x) rfl (List.Mem.tail _ (List.Mem.head _)) (z_ast X 265 rfl (c518_ok rfl) rfl (by first | exact b11.1 | omega) (show (iI s5 99) < 6 by first | exact oq_fac8de0c b11.2 g10 | omega) (cbig_ok rfl) (wd_gen (fun s12 hs12 => ?_)))
        have Is12 : Bd s12 := eqB hs12 (bd_C Is5 (show (0 : Int) ≤ x ∧ x ≤ 16777215 by first | exact ⟨oq_674898f9 g8 hps5 vs3, oq_c2c3ef0b g4⟩ | omega) ⟨by first | exact p0.1 | omega, by first | exact p0.2 | omega⟩)
        have Fs12 := eqF hs12 (fm_C Gs5 (inl_ok (a := 237) rfl))
        have ws12_73 : iI s12 73 = iI s5 73 := eqI hs12 rfl
        have ws12_99 : iI s12 99 = iI s5 99 := eqI hs12 rfl
        have aws12_237 : UPD 237 ((iI s5 99)) x s s12 := by rw [hs12]; exact upd_put aws5_237 ⟨by first | exact p0.1 | omega, by first | exact p0.2 | omega⟩
        refine z_aload_n X (x := A 179) rfl (List.Mem.head _) (w_dup X.1 (ax_d X (show cdA 264 53 = some (.dup, 1, 0, 0, 0) from rfl)) rfl (z_getI X 179 rfl (c518_ok rfl) rfl rfl ?_))
        have b13 := bi_99 Is12
        refine z_const X rfl (z_add X rfl (s_putI X 179 rfl (c518_ok rfl) rfl rfl (by decide) rfl rfl rfl (wd_gen (fun s14 hs14 => ?_))))
        have Is14 : Bd s14 := eqB hs14 (bd_I Is12 (show (0 : Int) ≤ ((iI s12 99) + 1) ∧ ((iI s12 99) + 1) ≤ 6 by first | exact ⟨oq_54f49eb5 b13.1, oq_6c19c907 ws12_99 b11.2 g10⟩ | omega) ⟨by first | exact oq_74de1e16 b13.1 | omega, by first | exact oq_5fe14c36 b13.2 | omega⟩)
        have Fs14 := eqF hs14 (fm_I Fs12 (inl_ok (a := 99) rfl))
        have vs14 : iI s14 99 = ((iI s12 99) + 1) := eqI hs14 (iI_u ⟨by first | exact oq_74de1e16 b13.1 | omega, by first | exact oq_5fe14c36 b13.2 | omega⟩)
        have ws14_73 : iI s14 73 = iI s12 73 := eqI hs14 rfl
        have aws14_237 : UPD 237 ((iI s5 99)) x s s14 := by rw [hs14]; exact aws12_237
        refine z_aload_n X (x := A 179) rfl (List.Mem.head _) (z_getI X 179 rfl (c518_ok rfl) rfl rfl ?_)
        have b15 := bi_99 Is14
        refine z_const X rfl (z_sub X rfl ?_)
        exact w_iret X.1 q hRt rfl (ax_d X (show cdA 264 68 = some (.ireturn, 1, 0, 0, 0) from rfl)) (Nat.zero_le _) (Nat.zero_le _) ⟨_, rfl, Is14, Fs14, ((iI s14 99) - 1), rfl, ⟨by first | exact oq_c1e961c7 b15.1 | omega, by first | exact oq_b383b26c b15.2 | omega⟩, Or.inl ⟨by first | exact oq_674898f9 g8 hps5 vs3 | omega, by first | exact oq_756b0634 g4 | omega, by first | exact oq_300138af ws14_73 ws12_73 g8 b7.1 hps5 vs3 | omega, Or.inr ⟨by first | exact oq_8651e5d1 ws3_99 ws5_99 ws12_99 vs14 b15.2 | omega, by first | exact oq_d8d7de21 ws3_99 vs14 ws5_99 ws12_99 | omega, by first | exact oq_5d1b36c5 ws3_99 vs14 ws5_99 ws12_99 | omega, upd_ix aws14_237 (by first | (clear g10 hps5; omega) | (clear hps5; omega) | omega)⟩⟩⟩
      ·
        refine z_const X rfl ?_
        exact w_iret X.1 q hRt rfl (ax_d X (show cdA 264 41 = some (.ireturn, 1, 0, 0, 0) from rfl)) (Nat.zero_le _) (Nat.zero_le _) ⟨_, rfl, Is5, Gs5, (-1), rfl, (by decide), Or.inl ⟨by first | exact oq_674898f9 g8 hps5 vs3 | omega, by first | exact oq_756b0634 g4 | omega, by first | exact oq_f4d57307 g8 b7.1 hps5 vs3 | omega, Or.inl ⟨by first | exact oq_5f36277d b2.2 ws3_99 ws5_99 g10 | omega, by decide, by first | exact g10 | omega, aws5_237⟩⟩⟩
    ·
      refine z_const X rfl ?_
      exact w_iret X.1 q hRt rfl (ax_d X (show cdA 264 30 = some (.ireturn, 1, 0, 0, 0) from rfl)) (Nat.zero_le _) (Nat.zero_le _) ⟨_, rfl, Is5, Gs5, 0, rfl, (by decide), Or.inr ⟨by first | exact Or.inl (g4) | omega, by first | exact oq_faabd673 g8 hps5 vs3 | omega, by first | exact oq_1aa5be9e ws5_99 ws3_99 | omega, aws5_237⟩⟩
  ·
    refine z_load_n X (x := x) rfl (List.Mem.tail _ (List.Mem.head _)) (z_ldcw X rfl (z_icmp_lt X (t := 21) rfl rfl ⟨by first | exact p0.1 | omega, by first | exact p0.2 | omega⟩ (by decide) (fun g16 => ?_) (fun g16 => ?_)))
    ·
      refine z_const X rfl (z_const X rfl (zcV_i0 X E 179 (As := [.int (Int32.ofInt 0), .int (Int32.ofInt 1)]) (st := []) rfl rfl rfl rfl (k_bad2 G Is3 (by first | exact Or.inl (by decide) | omega) (by first | exact ⟨by decide, by decide⟩ | omega)) rfl (Nat.le_of_ble_eq_true rfl) (fun s17 e18 Is17 Fs17 hrs17 hps17 => ?_)))
      have Gs17 := fm_tq Fs3 Fs17 rfl rfl
      have b19 := bi_73 Is17
      have ws17_99 : iI s17 99 = iI s3 99 := fm_iq Fs17 rfl
      have aws17_237 : SAM 237 s s17 := sam_ts aws3_237 (sam_fm Fs17 (by decide))
      refine z_if_eq X (t := 31) rfl rfl hrs17 (fun g20 => ?_) (fun g20 => ?_)
      ·
        refine z_aload_n X (x := A 179) rfl (List.Mem.head _) (z_getI X 179 rfl (c518_ok rfl) rfl rfl ?_)
        have b21 := bi_99 Is17
        refine z_bipush X rfl (z_icmp_ne X (t := 42) rfl rfl (rng_to _) (by decide) (fun g22 => ?_) (fun g22 => ?_))
        ·
          refine z_aload_n X (x := A 179) rfl (List.Mem.head _) (s_getR X 179 rfl (c518_ok rfl) rfl rfl (z_aload_n X (x := A 179) rfl (List.Mem.head _) (z_getI X 179 rfl (c518_ok rfl) rfl rfl ?_)))
          have b23 := bi_99 Is17
          refine z_load_n X (x := x) rfl (List.Mem.tail _ (List.Mem.head _)) (z_ast X 265 rfl (c518_ok rfl) rfl (by first | exact b23.1 | omega) (show (iI s17 99) < 6 by first | exact oq_fac8de0c b23.2 g22 | omega) (cbig_ok rfl) (wd_gen (fun s24 hs24 => ?_)))
          have Is24 : Bd s24 := eqB hs24 (bd_C Is17 (show (0 : Int) ≤ x ∧ x ≤ 16777215 by first | exact ⟨g4, oq_6e3114c9 g16⟩ | omega) ⟨by first | exact p0.1 | omega, by first | exact p0.2 | omega⟩)
          have Fs24 := eqF hs24 (fm_C Gs17 (inl_ok (a := 237) rfl))
          have ws24_73 : iI s24 73 = iI s17 73 := eqI hs24 rfl
          have ws24_99 : iI s24 99 = iI s17 99 := eqI hs24 rfl
          have aws24_237 : UPD 237 ((iI s17 99)) x s s24 := by rw [hs24]; exact upd_put aws17_237 ⟨by first | exact p0.1 | omega, by first | exact p0.2 | omega⟩
          refine z_aload_n X (x := A 179) rfl (List.Mem.head _) (w_dup X.1 (ax_d X (show cdA 264 53 = some (.dup, 1, 0, 0, 0) from rfl)) rfl (z_getI X 179 rfl (c518_ok rfl) rfl rfl ?_))
          have b25 := bi_99 Is24
          refine z_const X rfl (z_add X rfl (s_putI X 179 rfl (c518_ok rfl) rfl rfl (by decide) rfl rfl rfl (wd_gen (fun s26 hs26 => ?_))))
          have Is26 : Bd s26 := eqB hs26 (bd_I Is24 (show (0 : Int) ≤ ((iI s24 99) + 1) ∧ ((iI s24 99) + 1) ≤ 6 by first | exact ⟨oq_54f49eb5 b25.1, oq_6c19c907 ws24_99 b23.2 g22⟩ | omega) ⟨by first | exact oq_74de1e16 b25.1 | omega, by first | exact oq_5fe14c36 b25.2 | omega⟩)
          have Fs26 := eqF hs26 (fm_I Fs24 (inl_ok (a := 99) rfl))
          have vs26 : iI s26 99 = ((iI s24 99) + 1) := eqI hs26 (iI_u ⟨by first | exact oq_74de1e16 b25.1 | omega, by first | exact oq_5fe14c36 b25.2 | omega⟩)
          have ws26_73 : iI s26 73 = iI s24 73 := eqI hs26 rfl
          have aws26_237 : UPD 237 ((iI s17 99)) x s s26 := by rw [hs26]; exact aws24_237
          refine z_aload_n X (x := A 179) rfl (List.Mem.head _) (z_getI X 179 rfl (c518_ok rfl) rfl rfl ?_)
          have b27 := bi_99 Is26
          refine z_const X rfl (z_sub X rfl ?_)
          exact w_iret X.1 q hRt rfl (ax_d X (show cdA 264 68 = some (.ireturn, 1, 0, 0, 0) from rfl)) (Nat.zero_le _) (Nat.zero_le _) ⟨_, rfl, Is26, Fs26, ((iI s26 99) - 1), rfl, ⟨by first | exact oq_c1e961c7 b27.1 | omega, by first | exact oq_b383b26c b27.2 | omega⟩, Or.inl ⟨by first | exact g4 | omega, by first | exact g16 | omega, by first | exact oq_9aa1f5c4 ws26_73 ws24_73 b19.1 hps17 vs3 | omega, Or.inr ⟨by first | exact oq_8651e5d1 ws3_99 ws17_99 ws24_99 vs26 b27.2 | omega, by first | exact oq_d8d7de21 ws3_99 vs26 ws17_99 ws24_99 | omega, by first | exact oq_5d1b36c5 ws3_99 vs26 ws17_99 ws24_99 | omega, upd_ix aws26_237 (by first | (clear g22 hps17; omega) | (clear hps17; omega) | omega)⟩⟩⟩
        ·
          refine z_const X rfl ?_
          exact w_iret X.1 q hRt rfl (ax_d X (show cdA 264 41 = some (.ireturn, 1, 0, 0, 0) from rfl)) (Nat.zero_le _) (Nat.zero_le _) ⟨_, rfl, Is17, Gs17, (-1), rfl, (by decide), Or.inl ⟨by first | exact g4 | omega, by first | exact g16 | omega, by first | exact oq_93520411 b19.1 hps17 vs3 | omega, Or.inl ⟨by first | exact oq_5f36277d b2.2 ws3_99 ws17_99 g22 | omega, by decide, by first | exact g22 | omega, aws17_237⟩⟩⟩
      ·
        refine z_const X rfl ?_
        exact w_iret X.1 q hRt rfl (ax_d X (show cdA 264 30 = some (.ireturn, 1, 0, 0, 0) from rfl)) (Nat.zero_le _) (Nat.zero_le _) ⟨_, rfl, Is17, Gs17, 0, rfl, (by decide), Or.inr ⟨by first | exact oq_5542692d g20 hps17 vs3 | omega, by first | exact oq_df0d149a g20 hps17 vs3 | omega, by first | exact oq_1aa5be9e ws17_99 ws3_99 | omega, aws17_237⟩⟩
    ·
      refine z_const X rfl (z_goto X (t := 22) rfl rfl (z_const X rfl (zcV_i0 X E 179 (As := [.int (Int32.ofInt 1), .int (Int32.ofInt 1)]) (st := []) rfl rfl rfl rfl (k_bad2 G Is3 (by first | exact Or.inr (by decide) | omega) (by first | exact ⟨by decide, by decide⟩ | omega)) rfl (Nat.le_of_ble_eq_true rfl) (fun s28 e29 Is28 Fs28 hrs28 hps28 => ?_))))
      have Gs28 := fm_tq Fs3 Fs28 rfl rfl
      have b30 := bi_73 Is28
      have ws28_99 : iI s28 99 = iI s3 99 := fm_iq Fs28 rfl
      have aws28_237 : SAM 237 s s28 := sam_ts aws3_237 (sam_fm Fs28 (by decide))
      refine z_if_eq X (t := 31) rfl rfl hrs28 (fun g31 => ?_) (fun g31 => ?_)
      ·
        refine z_aload_n X (x := A 179) rfl (List.Mem.head _) (z_getI X 179 rfl (c518_ok rfl) rfl rfl ?_)
        have b32 := bi_99 Is28
        refine z_bipush X rfl (z_icmp_ne X (t := 42) rfl rfl (rng_to _) (by decide) (fun g33 => ?_) (fun g33 => ?_))
        ·
          refine z_aload_n X (x := A 179) rfl (List.Mem.head _) (s_getR X 179 rfl (c518_ok rfl) rfl rfl (z_aload_n X (x := A 179) rfl (List.Mem.head _) (z_getI X 179 rfl (c518_ok rfl) rfl rfl ?_)))
          have b34 := bi_99 Is28
          refine z_load_n X (x := x) rfl (List.Mem.tail _ (List.Mem.head _)) (z_ast X 265 rfl (c518_ok rfl) rfl (by first | exact b34.1 | omega) (show (iI s28 99) < 6 by first | exact oq_fac8de0c b34.2 g33 | omega) (cbig_ok rfl) (wd_gen (fun s35 hs35 => ?_)))
          have Is35 : Bd s35 := eqB hs35 (bd_C Is28 (show (0 : Int) ≤ x ∧ x ≤ 16777215 by first | exact ⟨g4, oq_ad9b0d65 g31 hps28 vs3⟩ | omega) ⟨by first | exact p0.1 | omega, by first | exact p0.2 | omega⟩)
          have Fs35 := eqF hs35 (fm_C Gs28 (inl_ok (a := 237) rfl))
          have ws35_73 : iI s35 73 = iI s28 73 := eqI hs35 rfl
          have ws35_99 : iI s35 99 = iI s28 99 := eqI hs35 rfl
          have aws35_237 : UPD 237 ((iI s28 99)) x s s35 := by rw [hs35]; exact upd_put aws28_237 ⟨by first | exact p0.1 | omega, by first | exact p0.2 | omega⟩
          refine z_aload_n X (x := A 179) rfl (List.Mem.head _) (w_dup X.1 (ax_d X (show cdA 264 53 = some (.dup, 1, 0, 0, 0) from rfl)) rfl (z_getI X 179 rfl (c518_ok rfl) rfl rfl ?_))
          have b36 := bi_99 Is35
          refine z_const X rfl (z_add X rfl (s_putI X 179 rfl (c518_ok rfl) rfl rfl (by decide) rfl rfl rfl (wd_gen (fun s37 hs37 => ?_))))
          have Is37 : Bd s37 := eqB hs37 (bd_I Is35 (show (0 : Int) ≤ ((iI s35 99) + 1) ∧ ((iI s35 99) + 1) ≤ 6 by first | exact ⟨oq_54f49eb5 b36.1, oq_6c19c907 ws35_99 b34.2 g33⟩ | omega) ⟨by first | exact oq_74de1e16 b36.1 | omega, by first | exact oq_5fe14c36 b36.2 | omega⟩)
          have Fs37 := eqF hs37 (fm_I Fs35 (inl_ok (a := 99) rfl))
          have vs37 : iI s37 99 = ((iI s35 99) + 1) := eqI hs37 (iI_u ⟨by first | exact oq_74de1e16 b36.1 | omega, by first | exact oq_5fe14c36 b36.2 | omega⟩)
          have ws37_73 : iI s37 73 = iI s35 73 := eqI hs37 rfl
          have aws37_237 : UPD 237 ((iI s28 99)) x s s37 := by rw [hs37]; exact aws35_237
          refine z_aload_n X (x := A 179) rfl (List.Mem.head _) (z_getI X 179 rfl (c518_ok rfl) rfl rfl ?_)
          have b38 := bi_99 Is37
          refine z_const X rfl (z_sub X rfl ?_)
          exact w_iret X.1 q hRt rfl (ax_d X (show cdA 264 68 = some (.ireturn, 1, 0, 0, 0) from rfl)) (Nat.zero_le _) (Nat.zero_le _) ⟨_, rfl, Is37, Fs37, ((iI s37 99) - 1), rfl, ⟨by first | exact oq_c1e961c7 b38.1 | omega, by first | exact oq_b383b26c b38.2 | omega⟩, Or.inl ⟨by first | exact g4 | omega, by first | exact oq_b08bdb49 g31 hps28 vs3 | omega, by first | exact oq_300138af ws37_73 ws35_73 g31 b30.1 hps28 vs3 | omega, Or.inr ⟨by first | exact oq_8651e5d1 ws3_99 ws28_99 ws35_99 vs37 b38.2 | omega, by first | exact oq_d8d7de21 ws3_99 vs37 ws28_99 ws35_99 | omega, by first | exact oq_5d1b36c5 ws3_99 vs37 ws28_99 ws35_99 | omega, upd_ix aws37_237 (by first | (clear g33 hps28; omega) | (clear hps28; omega) | omega)⟩⟩⟩
        ·
          refine z_const X rfl ?_
          exact w_iret X.1 q hRt rfl (ax_d X (show cdA 264 41 = some (.ireturn, 1, 0, 0, 0) from rfl)) (Nat.zero_le _) (Nat.zero_le _) ⟨_, rfl, Is28, Gs28, (-1), rfl, (by decide), Or.inl ⟨by first | exact g4 | omega, by first | exact oq_b08bdb49 g31 hps28 vs3 | omega, by first | exact oq_f4d57307 g31 b30.1 hps28 vs3 | omega, Or.inl ⟨by first | exact oq_5f36277d b2.2 ws3_99 ws28_99 g33 | omega, by decide, by first | exact g33 | omega, aws28_237⟩⟩⟩
      ·
        refine z_const X rfl ?_
        exact w_iret X.1 q hRt rfl (ax_d X (show cdA 264 30 = some (.ireturn, 1, 0, 0, 0) from rfl)) (Nat.zero_le _) (Nat.zero_le _) ⟨_, rfl, Is28, Gs28, 0, rfl, (by decide), Or.inr ⟨by first | exact Or.inr (g16) | omega, by first | exact oq_faabd673 g31 hps28 vs3 | omega, by first | exact oq_1aa5be9e ws28_99 ws3_99 | omega, aws28_237⟩⟩
set_option maxRecDepth 4000 in
theorem k_group7 (G : GX l s0 D tys a0 dT) (I : Bd s) {x y : Int} (p0 : 0 ≤ x ∧ x ≤ 5) (p1 : 0 ≤ y ∧ y ≤ 7) : CT l s0 D A dT 265 (rmN 265) [.ref (A 179), .int (Int32.ofInt x), .int (Int32.ofInt y)] s (fun o t => s = t ∧ ∃ e, o = .inl (some (.int (Int32.ofInt e))) ∧ rng e ∧ (e = grD (iC s 237 (x : Int).toNat) y)) := by
  refine ct_of G (by decide) (Nat.le_of_ble_eq_true rfl) (fun k X E hRt hXt q => ?_)
  show WS k 0 [(0, .ref (A 179)), (1, .int (Int32.ofInt x)), (2, .int (Int32.ofInt y))] [] _ 0 0
  have F : Fm [] [] s s := fm_rf _ _ s
  refine z_aload_n X (x := A 179) rfl (List.Mem.head _) (s_getR X 179 rfl (c518_ok rfl) rfl rfl (z_load_n X (x := x) rfl (List.Mem.tail _ (List.Mem.head _)) (z_ald X 265 rfl (c518_ok rfl) rfl (by first | exact p0.1 | omega) (show x < 6 by first | exact oq_9207f8f8 p0.2 | omega) (cbig_ok rfl) ?_)))
  have b1 := bc_237 I (show (x).toNat < 6 by first | exact oq_78f9cd89 p0.2 | omega)
  refine z_const X rfl (z_load_n X (x := y) rfl (List.Mem.tail _ (List.Mem.tail _ (List.Mem.head _))) (z_mul X rfl (z_bshr X rfl (z_anyV (fun y2 hy2 ey2 => ?_)))))
  refine z_bipush X rfl (w_iand X.1 (ax_d X (show cdA 265 12 = some (.iand, 1, 0, 0, 0) from rfl)) (z_anyV (fun y3 hy3 ey3 => ?_)))
  exact w_iret X.1 q hRt rfl (ax_d X (show cdA 265 13 = some (.ireturn, 1, 0, 0, 0) from rfl)) (Nat.zero_le _) (Nat.zero_le _) ⟨_, rfl, rfl, y3, rfl, hy3, grd_of ey2 ey3 hy3⟩
set_option maxRecDepth 4000 in
theorem k_pairsOf7 (G : GX l s0 D tys a0 dT) {U : AirD} {qn : Nat} {Jn : List Int → Prop} (I : Bd s) (jNW : NW s) (jNWL : NWL s) (jMDJ : MDJ U s) (jNWE : NWE U s) (jNMQ : NMQ (uM U qn) (uN U : Int) s) (jMJJ : MJJ Jn s) {x : Int} (p0 : 0 ≤ x ∧ x ≤ 5) (p1 : iI s 89 = 1) : CT l s0 D A dT 266 (rmN 266) [.ref (A 179), .int (Int32.ofInt x)] s (fun o t => Bd t ∧ Fm [77, 75, 78, 79, 80, 81, 89] [161, 230] s t ∧ NW t ∧ ∃ e, o = .inl (some (.int (Int32.ofInt e))) ∧ rng e ∧ (iI t 89 = 1 ∧ PRE U Jn (iC s 237 (x : Int).toNat) (pfM s) (fun j => iC s 229 j) qn e)) := by
  refine ct_of G (by decide) (Nat.le_of_ble_eq_true rfl) (fun k X E hRt hXt q => ?_)
  show WS k 0 [(0, .ref (A 179)), (1, .int (Int32.ofInt x))] [] _ 0 0
  have F : Fm [77, 75, 78, 79, 80, 81, 89] [161, 230] s s := fm_rf _ _ s
  have b1 := bi_89 I
  have L19 : ∀ (n : Nat) (t : PS) (cf pr gg le pm c : Int), Bd t → Fm [77, 75, 78, 79, 80, 81, 89] [161, 230] s t → NW t → NWL t → MDJ U t → NWE U t → NMQ (uM U qn) (uN U : Int) t → MJJ Jn t → ((∀ j : Nat, (j : Int) < c → iC t 230 j = 0) ∧ pr = npG (iC s 237 (x : Int).toNat) (pfM s) (gg : Int).toNat ∧ PGN U Jn (iC s 237 (x : Int).toNat) (pfM s) (fun j => iC s 229 j) gg qn) → ((cf = x ∧ 0 ≤ cf ∧ cf ≤ 5) ∧ (0 ≤ pr ∧ pr ≤ gg) ∧ (0 ≤ gg ∧ gg ≤ 7) ∧ iI t 89 = 1 ∧ le = -1 ∧ pm = 0 ∧ 0 ≤ c ∧ c ≤ 128) → (128 - c : Int).toNat < n → (∀ (t' : PS) (c' : Int), Bd t' → Fm [77, 75, 78, 79, 80, 81, 89] [161, 230] s t' → NW t' → NWL t' → MDJ U t' → NWE U t' → NMQ (uM U qn) (uN U : Int) t' → MJJ Jn t' → ((∀ j : Nat, (j : Int) < c' → iC t' 230 j = 0) ∧ pr = npG (iC s 237 (x : Int).toNat) (pfM s) (gg : Int).toNat ∧ PGN U Jn (iC s 237 (x : Int).toNat) (pfM s) (fun j => iC s 229 j) gg qn) → ((cf = x ∧ 0 ≤ cf ∧ cf ≤ 5) ∧ (0 ≤ pr ∧ pr ≤ gg) ∧ (0 ≤ gg ∧ gg ≤ 7) ∧ iI t' 89 = 1 ∧ le = -1 ∧ pm = 0 ∧ c' = 128) → WS k 41 [(0, .ref (A 179)), (1, .int (Int32.ofInt cf)), (2, .int (Int32.ofInt pr)), (3, .int (Int32.ofInt gg)), (4, .int (Int32.ofInt le)), (5, .int (Int32.ofInt pm)), (6, .int (Int32.ofInt c'))] [] (Wd A dT t') 0 0) → WS k 19 [(0, .ref (A 179)), (1, .int (Int32.ofInt cf)), (2, .int (Int32.ofInt pr)), (3, .int (Int32.ofInt gg)), (4, .int (Int32.ofInt le)), (5, .int (Int32.ofInt pm)), (6, .int (Int32.ofInt c))] [] (Wd A dT t) 0 0 := by
    intro n
    induction n with
    | zero =>
      intro t cf pr gg le pm c I F jjNW jjNWL jjMDJ jjNWE jjNMQ jjMJJ hq hi hm kx
      exact absurd hm (Nat.not_lt_zero _)
    | succ n ih =>
      intro t cf pr gg le pm c I F jjNW jjNWL jjMDJ jjNWE jjNMQ jjMJJ hq hi hm kx
      have b1001 := bi_89 I
      refine z_load X (x := c) rfl (List.Mem.tail _ (List.Mem.tail _ (List.Mem.tail _ (List.Mem.tail _ (List.Mem.tail _ (List.Mem.tail _ (List.Mem.head _))))))) (z_sipush X rfl (z_icmp_ge X (t := 41) rfl rfl ⟨by first | exact oq_fa4e5087 hi.2.2.2.2.2.2.1 | omega, by first | exact oq_4ee82282 hi.2.2.2.2.2.2.2 | omega⟩ (by decide) (fun g1002 => ?_) (fun g1002 => ?_)))
      ·
        refine WS_pq [0, 1, 2, 3, 4, 5, 6] (lv' := [(0, .ref (A 179)), (1, .int (Int32.ofInt cf)), (2, .int (Int32.ofInt pr)), (3, .int (Int32.ofInt gg)), (4, .int (Int32.ofInt le)), (5, .int (Int32.ofInt pm)), (6, .int (Int32.ofInt c))]) rfl ?_
        exact kx _ c I F jjNW jjNWL jjMDJ jjNWE jjNMQ jjMJJ hq (by first | exact ⟨And.intro (hi.1.1) (And.intro (hi.1.2.1) (hi.1.2.2)), And.intro (hi.2.1.1) (hi.2.1.2), And.intro (hi.2.2.1.1) (hi.2.2.1.2), hi.2.2.2.1, hi.2.2.2.2.1, hi.2.2.2.2.2.1, oq_42fe298a hi.2.2.2.2.2.2.2 g1002⟩ | omega)
      ·
        refine z_aload_n X (x := A 179) rfl (List.Mem.head _) (s_getR X 179 rfl (c518_ok rfl) rfl rfl (z_load X (x := c) rfl (List.Mem.tail _ (List.Mem.tail _ (List.Mem.tail _ (List.Mem.tail _ (List.Mem.tail _ (List.Mem.tail _ (List.Mem.head _))))))) (z_const X rfl (z_zast X 258 rfl (c518_ok rfl) rfl (by first | exact hi.2.2.2.2.2.2.1 | omega) (show c < 128 by first | exact g1002 | omega) (by decide) (by first | exact Or.inl (cbig_ok rfl) | omega) (wd_gen (fun s1003 hs1003 => ?_))))))
        have Is1003 : Bd s1003 := eqB hs1003 (bd_C I (show (0 : Int) ≤ 0 ∧ 0 ≤ 1 by first | exact ⟨by decide, by decide⟩ | omega) (by decide))
        have Fs1003 := eqF hs1003 (fm_C F (inl_ok (a := 230) rfl))
        have ws1003_89 : iI s1003 89 = iI t 89 := eqI hs1003 rfl
        have aws1003_230 : UPD 230 (c) 0 t s1003 := by rw [hs1003]; exact upd_put (sam_rf (a := 230) (s := t)) (by decide)
        have fs1003 : Fm [] [230] t s1003 := by rw [hs1003]; exact fm_C (fm_rf _ _ _) (show 230 ∈ _ by decide)
        have JNW_s1003 : NW s1003 := NW_fm fs1003 (by decide) jjNW
        have JNWL_s1003 : NWL s1003 := NWL_fm fs1003 (by decide) jjNWL
        have JMDJ_s1003 : MDJ U s1003 := MDJ_fm fs1003 (by decide) jjMDJ
        have JNWE_s1003 : NWE U s1003 := NWE_fm fs1003 (by decide) jjNWE
        have JNMQ_s1003 : NMQ (uM U qn) (uN U : Int) s1003 := NMQ_fm fs1003 (by decide) jjNMQ
        have JMJJ_s1003 : MJJ Jn s1003 := MJJ_fm fs1003 (by decide) jjMJJ
        refine z_inc X (x := c) (lv' := [(6, .int (Int32.ofInt (c + 1))), (0, .ref (A 179)), (1, .int (Int32.ofInt cf)), (2, .int (Int32.ofInt pr)), (3, .int (Int32.ofInt gg)), (4, .int (Int32.ofInt le)), (5, .int (Int32.ofInt pm))]) rfl (by decide) (List.Mem.tail _ (List.Mem.tail _ (List.Mem.tail _ (List.Mem.tail _ (List.Mem.tail _ (List.Mem.tail _ (List.Mem.head _))))))) (fun _ h => h) (z_goto X (t := 19) rfl rfl (WS_pq [1, 2, 3, 4, 5, 6, 0] (lv' := [(0, .ref (A 179)), (1, .int (Int32.ofInt cf)), (2, .int (Int32.ofInt pr)), (3, .int (Int32.ofInt gg)), (4, .int (Int32.ofInt le)), (5, .int (Int32.ofInt pm)), (6, .int (Int32.ofInt (c + 1)))]) rfl ?_))
        exact ih _ cf pr gg le pm (c + 1) Is1003 Fs1003 JNW_s1003 JNWL_s1003 JMDJ_s1003 JNWE_s1003 JNMQ_s1003 JMJJ_s1003 ⟨al0_up hq.1 (by omega) aws1003_230, hq.2⟩ (by first | exact ⟨And.intro (hi.1.1) (And.intro (hi.1.2.1) (hi.1.2.2)), And.intro (hi.2.1.1) (hi.2.1.2), And.intro (hi.2.2.1.1) (hi.2.2.1.2), oq_b44a1c7f ws1003_89 hi.2.2.2.1 b1001.1, hi.2.2.2.2.1, hi.2.2.2.2.2.1, oq_54f49eb5 hi.2.2.2.2.2.2.1, oq_d2afb425 g1002⟩ | omega) (by first | exact qk_me hm (by decide) (oq_c268b7bd g1002) | omega) kx
  have L83 : ∀ (n : Nat) (t : PS) (cf pr gg le pm p c : Int), Bd t → Fm [77, 75, 78, 79, 80, 81, 89] [161, 230] s t → NW t → NWL t → MDJ U t → NWE U t → NMQ (uM U qn) (uN U : Int) t → MJJ Jn t → (GSP (iC s 237 (x : Int).toNat) (pfM s) gg p c t ∧ GMQ (iC s 237 (x : Int).toNat) (pfM s) gg (7 - (p + (-1)) : Int).toNat pm le ∧ inG (iC s 237 (x : Int).toNat) (pfM s) gg (p : Int).toNat ∧ pr = npG (iC s 237 (x : Int).toNat) (pfM s) (gg : Int).toNat ∧ PGN U Jn (iC s 237 (x : Int).toNat) (pfM s) (fun j => iC s 229 j) gg qn) → ((cf = x ∧ 0 ≤ cf ∧ cf ≤ 5) ∧ (0 ≤ pr ∧ pr ≤ gg) ∧ (0 ≤ gg ∧ gg ≤ 7) ∧ iI t 89 = 1 ∧ (0 ≤ p ∧ p ≤ 7 ∧ le = p) ∧ (0 ≤ pm ∧ pm ≤ 8 - p) ∧ 0 ≤ c ∧ c ≤ 128) → (128 - c : Int).toNat < n → (∀ (t' : PS) (c' : Int), Bd t' → Fm [77, 75, 78, 79, 80, 81, 89] [161, 230] s t' → NW t' → NWL t' → MDJ U t' → NWE U t' → NMQ (uM U qn) (uN U : Int) t' → MJJ Jn t' → (GSP (iC s 237 (x : Int).toNat) (pfM s) gg p c' t' ∧ GMQ (iC s 237 (x : Int).toNat) (pfM s) gg (7 - (p + (-1)) : Int).toNat pm le ∧ inG (iC s 237 (x : Int).toNat) (pfM s) gg (p : Int).toNat ∧ pr = npG (iC s 237 (x : Int).toNat) (pfM s) (gg : Int).toNat ∧ PGN U Jn (iC s 237 (x : Int).toNat) (pfM s) (fun j => iC s 229 j) gg qn) → ((cf = x ∧ 0 ≤ cf ∧ cf ≤ 5) ∧ (0 ≤ pr ∧ pr ≤ gg) ∧ (0 ≤ gg ∧ gg ≤ 7) ∧ iI t' 89 = 1 ∧ (0 ≤ p ∧ p ≤ 7 ∧ le = p) ∧ (0 ≤ pm ∧ pm ≤ 8 - p) ∧ c' = 128) → WS k 131 [(0, .ref (A 179)), (1, .int (Int32.ofInt cf)), (2, .int (Int32.ofInt pr)), (3, .int (Int32.ofInt gg)), (4, .int (Int32.ofInt le)), (5, .int (Int32.ofInt pm)), (6, .int (Int32.ofInt p)), (7, .int (Int32.ofInt c'))] [] (Wd A dT t') 0 0) → WS k 83 [(0, .ref (A 179)), (1, .int (Int32.ofInt cf)), (2, .int (Int32.ofInt pr)), (3, .int (Int32.ofInt gg)), (4, .int (Int32.ofInt le)), (5, .int (Int32.ofInt pm)), (6, .int (Int32.ofInt p)), (7, .int (Int32.ofInt c))] [] (Wd A dT t) 0 0 := by
    intro n
    induction n with
    | zero =>
      intro t cf pr gg le pm p c I F jjNW jjNWL jjMDJ jjNWE jjNMQ jjMJJ hq hi hm kx
      exact absurd hm (Nat.not_lt_zero _)
    | succ n ih =>
      intro t cf pr gg le pm p c I F jjNW jjNWL jjMDJ jjNWE jjNMQ jjMJJ hq hi hm kx
      have b2001 := bi_89 I
      have hpc : iC t 228 (c : Int).toNat = iC s 228 (c : Int).toNat := fm_c F (by decide)
      refine z_load X (x := c) rfl (List.Mem.tail _ (List.Mem.tail _ (List.Mem.tail _ (List.Mem.tail _ (List.Mem.tail _ (List.Mem.tail _ (List.Mem.tail _ (List.Mem.head _)))))))) (z_sipush X rfl (z_icmp_ge X (t := 131) rfl rfl ⟨by first | exact oq_fa4e5087 hi.2.2.2.2.2.2.1 | omega, by first | exact oq_4ee82282 hi.2.2.2.2.2.2.2 | omega⟩ (by decide) (fun g2002 => ?_) (fun g2002 => ?_)))
      ·
        refine WS_pq [0, 1, 2, 3, 4, 5, 6, 7] (lv' := [(0, .ref (A 179)), (1, .int (Int32.ofInt cf)), (2, .int (Int32.ofInt pr)), (3, .int (Int32.ofInt gg)), (4, .int (Int32.ofInt le)), (5, .int (Int32.ofInt pm)), (6, .int (Int32.ofInt p)), (7, .int (Int32.ofInt c))]) rfl ?_
        exact kx _ c I F jjNW jjNWL jjMDJ jjNWE jjNMQ jjMJJ hq (by first | exact ⟨And.intro (hi.1.1) (And.intro (hi.1.2.1) (hi.1.2.2)), And.intro (hi.2.1.1) (hi.2.1.2), And.intro (hi.2.2.1.1) (hi.2.2.1.2), hi.2.2.2.1, And.intro (hi.2.2.2.2.1.1) (And.intro (hi.2.2.2.2.1.2.1) (hi.2.2.2.2.1.2.2)), And.intro (hi.2.2.2.2.2.1.1) (hi.2.2.2.2.2.1.2), oq_42fe298a hi.2.2.2.2.2.2.2 g2002⟩ | omega)
      ·
        refine z_aload_n X (x := A 179) rfl (List.Mem.head _) (s_getR X 179 rfl (c518_ok rfl) rfl rfl (z_load X (x := c) rfl (List.Mem.tail _ (List.Mem.tail _ (List.Mem.tail _ (List.Mem.tail _ (List.Mem.tail _ (List.Mem.tail _ (List.Mem.tail _ (List.Mem.head _)))))))) (z_aload_n X (x := A 179) rfl (List.Mem.head _) (s_getR X 179 rfl (c518_ok rfl) rfl rfl (z_load X (x := c) rfl (List.Mem.tail _ (List.Mem.tail _ (List.Mem.tail _ (List.Mem.tail _ (List.Mem.tail _ (List.Mem.tail _ (List.Mem.tail _ (List.Mem.head _)))))))) (z_zald X 258 rfl (c518_ok rfl) rfl (by first | exact hi.2.2.2.2.2.2.1 | omega) (show c < 128 by first | exact g2002 | omega) (cbig_ok rfl) ?_))))))
        have b2003 := bc_230 I (show (c).toNat < 128 by first | exact oq_afb89947 g2002 | omega)
        have ar2004 : iC t 230 (c).toNat = iC t 230 (c).toNat := (sam_rf (a := 230) (s := t)) _
        refine z_if_ne X (t := 119) rfl rfl (rng_to _) (fun g2005 => ?_) (fun g2005 => ?_)
        ·
          refine z_const X rfl (z_goto X (t := 124) rfl rfl (z_zast X 258 rfl (c518_ok rfl) rfl (by first | exact hi.2.2.2.2.2.2.1 | omega) (show c < 128 by first | exact g2002 | omega) (by decide) (by first | exact Or.inr (cbig_ok rfl) | omega) (wd_gen (fun s2006 hs2006 => ?_))))
          have Is2006 : Bd s2006 := eqB hs2006 (bd_C I (show (0 : Int) ≤ 1 ∧ 1 ≤ 1 by first | exact ⟨by decide, by decide⟩ | omega) (by decide))
          have Fs2006 := eqF hs2006 (fm_C F (inl_ok (a := 230) rfl))
          have ws2006_89 : iI s2006 89 = iI t 89 := eqI hs2006 rfl
          have aws2006_230 : UPD 230 (c) 1 t s2006 := by rw [hs2006]; exact upd_put (sam_rf (a := 230) (s := t)) (by decide)
          have fs2006 : Fm [] [230] t s2006 := by rw [hs2006]; exact fm_C (fm_rf _ _ _) (show 230 ∈ _ by decide)
          have JNW_s2006 : NW s2006 := NW_fm fs2006 (by decide) jjNW
          have JNWL_s2006 : NWL s2006 := NWL_fm fs2006 (by decide) jjNWL
          have JMDJ_s2006 : MDJ U s2006 := MDJ_fm fs2006 (by decide) jjMDJ
          have JNWE_s2006 : NWE U s2006 := NWE_fm fs2006 (by decide) jjNWE
          have JNMQ_s2006 : NMQ (uM U qn) (uN U : Int) s2006 := NMQ_fm fs2006 (by decide) jjNMQ
          have JMJJ_s2006 : MJJ Jn s2006 := MJJ_fm fs2006 (by decide) jjMJJ
          refine z_inc X (x := c) (lv' := [(7, .int (Int32.ofInt (c + 1))), (0, .ref (A 179)), (1, .int (Int32.ofInt cf)), (2, .int (Int32.ofInt pr)), (3, .int (Int32.ofInt gg)), (4, .int (Int32.ofInt le)), (5, .int (Int32.ofInt pm)), (6, .int (Int32.ofInt p))]) rfl (by decide) (List.Mem.tail _ (List.Mem.tail _ (List.Mem.tail _ (List.Mem.tail _ (List.Mem.tail _ (List.Mem.tail _ (List.Mem.tail _ (List.Mem.head _)))))))) (fun _ h => h) (z_goto X (t := 83) rfl rfl (WS_pq [1, 2, 3, 4, 5, 6, 7, 0] (lv' := [(0, .ref (A 179)), (1, .int (Int32.ofInt cf)), (2, .int (Int32.ofInt pr)), (3, .int (Int32.ofInt gg)), (4, .int (Int32.ofInt le)), (5, .int (Int32.ofInt pm)), (6, .int (Int32.ofInt p)), (7, .int (Int32.ofInt (c + 1)))]) rfl ?_))
          exact ih _ cf pr gg le pm p (c + 1) Is2006 Fs2006 JNW_s2006 JNWL_s2006 JMDJ_s2006 JNWE_s2006 JNMQ_s2006 JMJJ_s2006 ⟨gsp_up hq.1 (by first | (clear g2005; omega) | omega) aws2006_230 (show ((1 : Int) = 1 ∧ (iC t 230 (c : Int).toNat ≠ 0 ∨ iC s 228 (c : Int).toNat = p)) ∨ ((1 : Int) = 0 ∧ iC t 230 (c : Int).toNat = 0 ∧ iC s 228 (c : Int).toNat ≠ p) by first | (clear g2005; omega) | omega), hq.2⟩ (by first | exact ⟨And.intro (hi.1.1) (And.intro (hi.1.2.1) (hi.1.2.2)), And.intro (hi.2.1.1) (hi.2.1.2), And.intro (hi.2.2.1.1) (hi.2.2.1.2), oq_b44a1c7f ws2006_89 hi.2.2.2.1 b2001.1, And.intro (hi.2.2.2.2.1.1) (And.intro (hi.2.2.2.2.1.2.1) (hi.2.2.2.2.1.2.2)), And.intro (hi.2.2.2.2.2.1.1) (hi.2.2.2.2.2.1.2), oq_54f49eb5 hi.2.2.2.2.2.2.1, oq_d2afb425 g2002⟩ | omega) (by first | exact qk_me hm (by decide) (oq_c268b7bd g2002) | omega) kx
        ·
          refine z_aload_n X (x := A 179) rfl (List.Mem.head _) (s_getR X 179 rfl (c518_ok rfl) rfl rfl (z_load X (x := c) rfl (List.Mem.tail _ (List.Mem.tail _ (List.Mem.tail _ (List.Mem.tail _ (List.Mem.tail _ (List.Mem.tail _ (List.Mem.tail _ (List.Mem.head _)))))))) (z_ald X 256 rfl (c518_ok rfl) rfl (by first | exact hi.2.2.2.2.2.2.1 | omega) (show c < 128 by first | exact g2002 | omega) (cbig_ok rfl) ?_)))
          have b2007 := bc_228 I (show (c).toNat < 128 by first | exact oq_afb89947 g2002 | omega)
          refine z_load X (x := p) rfl (List.Mem.tail _ (List.Mem.tail _ (List.Mem.tail _ (List.Mem.tail _ (List.Mem.tail _ (List.Mem.tail _ (List.Mem.head _))))))) (z_icmp_ne X (t := 123) rfl rfl (rng_to _) ⟨by first | exact oq_fa4e5087 hi.2.2.2.2.1.1 | omega, by first | exact oq_0e78ca7d hi.2.2.2.2.1.2.1 | omega⟩ (fun g2008 => ?_) (fun g2008 => ?_))
          ·
            refine z_const X rfl (z_zast X 258 rfl (c518_ok rfl) rfl (by first | exact hi.2.2.2.2.2.2.1 | omega) (show c < 128 by first | exact g2002 | omega) (by decide) (by first | exact Or.inl (cbig_ok rfl) | omega) (wd_gen (fun s2009 hs2009 => ?_)))
            have Is2009 : Bd s2009 := eqB hs2009 (bd_C I (show (0 : Int) ≤ 0 ∧ 0 ≤ 1 by first | exact ⟨by decide, by decide⟩ | omega) (by decide))
            have Fs2009 := eqF hs2009 (fm_C F (inl_ok (a := 230) rfl))
            have ws2009_89 : iI s2009 89 = iI t 89 := eqI hs2009 rfl
            have aws2009_230 : UPD 230 (c) 0 t s2009 := by rw [hs2009]; exact upd_put (sam_rf (a := 230) (s := t)) (by decide)
            have fs2009 : Fm [] [230] t s2009 := by rw [hs2009]; exact fm_C (fm_rf _ _ _) (show 230 ∈ _ by decide)
            have JNW_s2009 : NW s2009 := NW_fm fs2009 (by decide) jjNW
            have JNWL_s2009 : NWL s2009 := NWL_fm fs2009 (by decide) jjNWL
            have JMDJ_s2009 : MDJ U s2009 := MDJ_fm fs2009 (by decide) jjMDJ
            have JNWE_s2009 : NWE U s2009 := NWE_fm fs2009 (by decide) jjNWE
            have JNMQ_s2009 : NMQ (uM U qn) (uN U : Int) s2009 := NMQ_fm fs2009 (by decide) jjNMQ
            have JMJJ_s2009 : MJJ Jn s2009 := MJJ_fm fs2009 (by decide) jjMJJ
            refine z_inc X (x := c) (lv' := [(7, .int (Int32.ofInt (c + 1))), (0, .ref (A 179)), (1, .int (Int32.ofInt cf)), (2, .int (Int32.ofInt pr)), (3, .int (Int32.ofInt gg)), (4, .int (Int32.ofInt le)), (5, .int (Int32.ofInt pm)), (6, .int (Int32.ofInt p))]) rfl (by decide) (List.Mem.tail _ (List.Mem.tail _ (List.Mem.tail _ (List.Mem.tail _ (List.Mem.tail _ (List.Mem.tail _ (List.Mem.tail _ (List.Mem.head _)))))))) (fun _ h => h) (z_goto X (t := 83) rfl rfl (WS_pq [1, 2, 3, 4, 5, 6, 7, 0] (lv' := [(0, .ref (A 179)), (1, .int (Int32.ofInt cf)), (2, .int (Int32.ofInt pr)), (3, .int (Int32.ofInt gg)), (4, .int (Int32.ofInt le)), (5, .int (Int32.ofInt pm)), (6, .int (Int32.ofInt p)), (7, .int (Int32.ofInt (c + 1)))]) rfl ?_))
            exact ih _ cf pr gg le pm p (c + 1) Is2009 Fs2009 JNW_s2009 JNWL_s2009 JMDJ_s2009 JNWE_s2009 JNMQ_s2009 JMJJ_s2009 ⟨gsp_up hq.1 (by first | (clear g2008; omega) | omega) aws2009_230 (show ((0 : Int) = 1 ∧ (iC t 230 (c : Int).toNat ≠ 0 ∨ iC s 228 (c : Int).toNat = p)) ∨ ((0 : Int) = 0 ∧ iC t 230 (c : Int).toNat = 0 ∧ iC s 228 (c : Int).toNat ≠ p) by first | (clear g2008; omega) | omega), hq.2⟩ (by first | exact ⟨And.intro (hi.1.1) (And.intro (hi.1.2.1) (hi.1.2.2)), And.intro (hi.2.1.1) (hi.2.1.2), And.intro (hi.2.2.1.1) (hi.2.2.1.2), oq_b44a1c7f ws2009_89 hi.2.2.2.1 b2001.1, And.intro (hi.2.2.2.2.1.1) (And.intro (hi.2.2.2.2.1.2.1) (hi.2.2.2.2.1.2.2)), And.intro (hi.2.2.2.2.2.1.1) (hi.2.2.2.2.2.1.2), oq_54f49eb5 hi.2.2.2.2.2.2.1, oq_d2afb425 g2002⟩ | omega) (by first | exact qk_me hm (by decide) (oq_c268b7bd g2002) | omega) kx
          ·
            refine z_const X rfl (z_goto X (t := 124) rfl rfl (z_zast X 258 rfl (c518_ok rfl) rfl (by first | exact hi.2.2.2.2.2.2.1 | omega) (show c < 128 by first | exact g2002 | omega) (by decide) (by first | exact Or.inr (cbig_ok rfl) | omega) (wd_gen (fun s2010 hs2010 => ?_))))
            have Is2010 : Bd s2010 := eqB hs2010 (bd_C I (show (0 : Int) ≤ 1 ∧ 1 ≤ 1 by first | exact ⟨by decide, by decide⟩ | omega) (by decide))
            have Fs2010 := eqF hs2010 (fm_C F (inl_ok (a := 230) rfl))
            have ws2010_89 : iI s2010 89 = iI t 89 := eqI hs2010 rfl
            have aws2010_230 : UPD 230 (c) 1 t s2010 := by rw [hs2010]; exact upd_put (sam_rf (a := 230) (s := t)) (by decide)
            have fs2010 : Fm [] [230] t s2010 := by rw [hs2010]; exact fm_C (fm_rf _ _ _) (show 230 ∈ _ by decide)
            have JNW_s2010 : NW s2010 := NW_fm fs2010 (by decide) jjNW
            have JNWL_s2010 : NWL s2010 := NWL_fm fs2010 (by decide) jjNWL
            have JMDJ_s2010 : MDJ U s2010 := MDJ_fm fs2010 (by decide) jjMDJ
            have JNWE_s2010 : NWE U s2010 := NWE_fm fs2010 (by decide) jjNWE
            have JNMQ_s2010 : NMQ (uM U qn) (uN U : Int) s2010 := NMQ_fm fs2010 (by decide) jjNMQ
            have JMJJ_s2010 : MJJ Jn s2010 := MJJ_fm fs2010 (by decide) jjMJJ
            refine z_inc X (x := c) (lv' := [(7, .int (Int32.ofInt (c + 1))), (0, .ref (A 179)), (1, .int (Int32.ofInt cf)), (2, .int (Int32.ofInt pr)), (3, .int (Int32.ofInt gg)), (4, .int (Int32.ofInt le)), (5, .int (Int32.ofInt pm)), (6, .int (Int32.ofInt p))]) rfl (by decide) (List.Mem.tail _ (List.Mem.tail _ (List.Mem.tail _ (List.Mem.tail _ (List.Mem.tail _ (List.Mem.tail _ (List.Mem.tail _ (List.Mem.head _)))))))) (fun _ h => h) (z_goto X (t := 83) rfl rfl (WS_pq [1, 2, 3, 4, 5, 6, 7, 0] (lv' := [(0, .ref (A 179)), (1, .int (Int32.ofInt cf)), (2, .int (Int32.ofInt pr)), (3, .int (Int32.ofInt gg)), (4, .int (Int32.ofInt le)), (5, .int (Int32.ofInt pm)), (6, .int (Int32.ofInt p)), (7, .int (Int32.ofInt (c + 1)))]) rfl ?_))
            exact ih _ cf pr gg le pm p (c + 1) Is2010 Fs2010 JNW_s2010 JNWL_s2010 JMDJ_s2010 JNWE_s2010 JNMQ_s2010 JMJJ_s2010 ⟨gsp_up hq.1 (by omega) aws2010_230 (show ((1 : Int) = 1 ∧ (iC t 230 (c : Int).toNat ≠ 0 ∨ iC s 228 (c : Int).toNat = p)) ∨ ((1 : Int) = 0 ∧ iC t 230 (c : Int).toNat = 0 ∧ iC s 228 (c : Int).toNat ≠ p) by omega), hq.2⟩ (by first | exact ⟨And.intro (hi.1.1) (And.intro (hi.1.2.1) (hi.1.2.2)), And.intro (hi.2.1.1) (hi.2.1.2), And.intro (hi.2.2.1.1) (hi.2.2.1.2), oq_b44a1c7f ws2010_89 hi.2.2.2.1 b2001.1, And.intro (hi.2.2.2.2.1.1) (And.intro (hi.2.2.2.2.1.2.1) (hi.2.2.2.2.1.2.2)), And.intro (hi.2.2.2.2.2.1.1) (hi.2.2.2.2.2.1.2), oq_54f49eb5 hi.2.2.2.2.2.2.1, oq_d2afb425 g2002⟩ | omega) (by first | exact qk_me hm (by decide) (oq_c268b7bd g2002) | omega) kx
  have L45 : ∀ (n : Nat) (t : PS) (cf pr gg le pm p : Int), Bd t → Fm [77, 75, 78, 79, 80, 81, 89] [161, 230] s t → NW t → NWL t → MDJ U t → NWE U t → NMQ (uM U qn) (uN U : Int) t → MJJ Jn t → (GST (iC s 237 (x : Int).toNat) (pfM s) gg (7 - p : Int).toNat t ∧ GMQ (iC s 237 (x : Int).toNat) (pfM s) gg (7 - p : Int).toNat pm le ∧ pr = npG (iC s 237 (x : Int).toNat) (pfM s) (gg : Int).toNat ∧ PGN U Jn (iC s 237 (x : Int).toNat) (pfM s) (fun j => iC s 229 j) gg qn) → ((cf = x ∧ 0 ≤ cf ∧ cf ≤ 5) ∧ (0 ≤ pr ∧ pr ≤ gg) ∧ (0 ≤ gg ∧ gg ≤ 7) ∧ iI t 89 = 1 ∧ (-1 ≤ le ∧ le ≤ 7) ∧ (0 ≤ pm ∧ pm ≤ 7 - p) ∧ (-1 ≤ p ∧ p ≤ 7)) → (p + 1 : Int).toNat < n → (∀ (t' : PS) (le' pm' p' : Int), Bd t' → Fm [77, 75, 78, 79, 80, 81, 89] [161, 230] s t' → NW t' → NWL t' → MDJ U t' → NWE U t' → NMQ (uM U qn) (uN U : Int) t' → MJJ Jn t' → (GST (iC s 237 (x : Int).toNat) (pfM s) gg (7 - p' : Int).toNat t' ∧ GMQ (iC s 237 (x : Int).toNat) (pfM s) gg (7 - p' : Int).toNat pm' le' ∧ pr = npG (iC s 237 (x : Int).toNat) (pfM s) (gg : Int).toNat ∧ PGN U Jn (iC s 237 (x : Int).toNat) (pfM s) (fun j => iC s 229 j) gg qn) → ((cf = x ∧ 0 ≤ cf ∧ cf ≤ 5) ∧ (0 ≤ pr ∧ pr ≤ gg) ∧ (0 ≤ gg ∧ gg ≤ 7) ∧ iI t' 89 = 1 ∧ (-1 ≤ le' ∧ le' ≤ 7) ∧ (0 ≤ pm' ∧ pm' ≤ 8) ∧ p' = -1) → WS k 137 [(0, .ref (A 179)), (1, .int (Int32.ofInt cf)), (2, .int (Int32.ofInt pr)), (3, .int (Int32.ofInt gg)), (4, .int (Int32.ofInt le')), (5, .int (Int32.ofInt pm')), (6, .int (Int32.ofInt p'))] [] (Wd A dT t') 0 0) → WS k 45 [(0, .ref (A 179)), (1, .int (Int32.ofInt cf)), (2, .int (Int32.ofInt pr)), (3, .int (Int32.ofInt gg)), (4, .int (Int32.ofInt le)), (5, .int (Int32.ofInt pm)), (6, .int (Int32.ofInt p))] [] (Wd A dT t) 0 0 := by
    intro n
    induction n with
    | zero =>
      intro t cf pr gg le pm p I F jjNW jjNWL jjMDJ jjNWE jjNMQ jjMJJ hq hi hm kx
      exact absurd hm (Nat.not_lt_zero _)
    | succ n ih =>
      intro t cf pr gg le pm p I F jjNW jjNWL jjMDJ jjNWE jjNMQ jjMJJ hq hi hm kx
      have b3001 := bi_89 I
      refine z_load X (x := p) rfl (List.Mem.tail _ (List.Mem.tail _ (List.Mem.tail _ (List.Mem.tail _ (List.Mem.tail _ (List.Mem.tail _ (List.Mem.head _))))))) (z_if_lt X (t := 137) rfl rfl ⟨by first | exact oq_97ee2c2a hi.2.2.2.2.2.2.1 | omega, by first | exact oq_0e78ca7d hi.2.2.2.2.2.2.2 | omega⟩ (fun g3002 => ?_) (fun g3002 => ?_))
      ·
        refine WS_pq [0, 1, 2, 3, 4, 5, 6] (lv' := [(0, .ref (A 179)), (1, .int (Int32.ofInt cf)), (2, .int (Int32.ofInt pr)), (3, .int (Int32.ofInt gg)), (4, .int (Int32.ofInt le)), (5, .int (Int32.ofInt pm)), (6, .int (Int32.ofInt p))]) rfl ?_
        exact kx _ le pm p I F jjNW jjNWL jjMDJ jjNWE jjNMQ jjMJJ hq (by first | exact ⟨And.intro (hi.1.1) (And.intro (hi.1.2.1) (hi.1.2.2)), And.intro (hi.2.1.1) (hi.2.1.2), And.intro (hi.2.2.1.1) (hi.2.2.1.2), hi.2.2.2.1, And.intro (hi.2.2.2.2.1.1) (hi.2.2.2.2.1.2), And.intro (hi.2.2.2.2.2.1.1) (oq_2a65de14 hi.2.2.2.2.2.1.2 hi.2.2.2.2.2.2.1), oq_076ebabd g3002 hi.2.2.2.2.2.2.1⟩ | omega)
      ·
        refine z_aload_n X (x := A 179) rfl (List.Mem.head _) (z_load_n X (x := cf) rfl (List.Mem.tail _ (List.Mem.head _)) (z_load X (x := p) rfl (List.Mem.tail _ (List.Mem.tail _ (List.Mem.tail _ (List.Mem.tail _ (List.Mem.tail _ (List.Mem.tail _ (List.Mem.head _))))))) (z_callV X 179 (rm := rmN 265) (As := [.int (Int32.ofInt cf), .int (Int32.ofInt p)]) (st := []) rfl rfl (by decide) rfl (by rw [E.1, E.2.1, E.2.2.1]; exact k_group7 G I (by first | exact ⟨hi.1.2.1, hi.1.2.2⟩ | omega) (by first | exact ⟨g3002, hi.2.2.2.2.2.2.2⟩ | omega)) ⟨by rw [E.2.2.2]; exact (show (rmN 265).frames + 1 ≤ (rmN 266).frames by decide), by rw [E.2.2.2]; exact (show 8 + (mNL (miB 265) + 11) + (rmN 265).locals ≤ (rmN 266).locals by decide), by rw [E.2.2.2]; exact (show 0 + (rmN 265).cells ≤ (rmN 266).cells by decide), by rw [E.2.2.2]; exact (show 0 + (rmN 265).slots ≤ (rmN 266).slots by decide)⟩ (Nat.le_of_ble_eq_true rfl) (fun vv s3003 hq => ?_) (fun ee s3003 hq => ?_))))
        rotate_left
        · obtain ⟨rfl, e3004, hv, hrs3003, hps3003⟩ := hq; cases hv
        obtain ⟨rfl, e3004, hv, hrs3003, hps3003⟩ := hq
        cases hv
        show WS k 57 [(0, .ref (A 179)), (1, .int (Int32.ofInt cf)), (2, .int (Int32.ofInt pr)), (3, .int (Int32.ofInt gg)), (4, .int (Int32.ofInt le)), (5, .int (Int32.ofInt pm)), (6, .int (Int32.ofInt p))] [.int (Int32.ofInt e3004)] (Wd A dT t) 0 0
        have hd9 : iC t 237 (cf : Int).toNat = (iC s 237 (x : Int).toNat) := by rw [show cf = x by omega]; exact fm_c F (by decide)
        have hgr : e3004 = grD (iC s 237 (x : Int).toNat) p := by rw [← hd9]; exact hps3003
        refine z_load_n X (x := gg) rfl (List.Mem.tail _ (List.Mem.tail _ (List.Mem.tail _ (List.Mem.head _)))) (z_icmp_ne X (t := 131) rfl rfl hrs3003 ⟨by first | exact oq_fa4e5087 hi.2.2.1.1 | omega, by first | exact oq_0e78ca7d hi.2.2.1.2 | omega⟩ (fun g3005 => ?_) (fun g3005 => ?_))
        ·
          refine z_inc X (x := p) (lv' := [(6, .int (Int32.ofInt (p + (-1)))), (0, .ref (A 179)), (1, .int (Int32.ofInt cf)), (2, .int (Int32.ofInt pr)), (3, .int (Int32.ofInt gg)), (4, .int (Int32.ofInt le)), (5, .int (Int32.ofInt pm))]) rfl (by decide) (List.Mem.tail _ (List.Mem.tail _ (List.Mem.tail _ (List.Mem.tail _ (List.Mem.tail _ (List.Mem.tail _ (List.Mem.head _))))))) (fun _ h => h) (z_goto X (t := 45) rfl rfl (WS_pq [1, 2, 3, 4, 5, 6, 0] (lv' := [(0, .ref (A 179)), (1, .int (Int32.ofInt cf)), (2, .int (Int32.ofInt pr)), (3, .int (Int32.ofInt gg)), (4, .int (Int32.ofInt le)), (5, .int (Int32.ofInt pm)), (6, .int (Int32.ofInt (p + (-1))))]) rfl ?_))
          exact ih _ cf pr gg le pm (p + (-1)) I F jjNW jjNWL jjMDJ jjNWE jjNMQ jjMJJ ⟨gst_n hq.1 (by first | (clear g3005; omega) | omega) (ing_n1 (by first | (clear g3005; omega) | omega) hgr (by first | (clear g3005; omega) | omega)), gmq_n hq.2.1 (by first | (clear g3005; omega) | omega) (ing_n1 (by first | (clear g3005; omega) | omega) hgr (by first | (clear g3005; omega) | omega)), hq.2.2⟩ (by first | exact ⟨And.intro (hi.1.1) (And.intro (hi.1.2.1) (hi.1.2.2)), And.intro (hi.2.1.1) (hi.2.1.2), And.intro (hi.2.2.1.1) (hi.2.2.1.2), hi.2.2.2.1, And.intro (hi.2.2.2.2.1.1) (hi.2.2.2.2.1.2), And.intro (hi.2.2.2.2.2.1.1) (oq_256ac20b hi.2.2.2.2.2.1.2), oq_285ed02d g3002, oq_40e69522 hi.2.2.2.2.2.2.2⟩ | omega) (by first | exact qk_me hm (by decide) (oq_7a276f11 g3002) | omega) kx
        ·
          refine z_aload_n X (x := A 179) rfl (List.Mem.head _) (z_load X (x := p) rfl (List.Mem.tail _ (List.Mem.tail _ (List.Mem.tail _ (List.Mem.tail _ (List.Mem.tail _ (List.Mem.tail _ (List.Mem.head _))))))) (zcV_i0 X E 179 (As := [.int (Int32.ofInt p)]) (st := []) rfl rfl rfl rfl (k_has3 G I (by first | exact ⟨oq_fa4e5087 g3002, oq_0e78ca7d hi.2.2.2.2.2.2.2⟩ | omega)) rfl (Nat.le_of_ble_eq_true rfl) (fun s3006 e3007 Is3006 Fs3006 hrs3006 hps3006 => ?_)))
          have hps3006p := hps3006.2
          have Gs3006 := fm_tq F Fs3006 rfl rfl
          have JNW_s3006 : NW s3006 := NW_fm Fs3006 (by decide) jjNW
          have JNWL_s3006 : NWL s3006 := NWL_fm Fs3006 (by decide) jjNWL
          have JMDJ_s3006 : MDJ U s3006 := MDJ_fm Fs3006 (by decide) jjMDJ
          have JNWE_s3006 : NWE U s3006 := NWE_fm Fs3006 (by decide) jjNWE
          have JNMQ_s3006 : NMQ (uM U qn) (uN U : Int) s3006 := NMQ_fm Fs3006 (by decide) jjNMQ
          have JMJJ_s3006 : MJJ Jn s3006 := MJJ_fm Fs3006 (by decide) jjMJJ
          have ws3006_89 : iI s3006 89 = iI t 89 := fm_iq Fs3006 rfl
          have aws3006_230 : SAM 230 t s3006 := sam_ts (sam_rf (a := 230) (s := t)) (sam_fm Fs3006 (by decide))
          have hHc : HCE (pcS (pfM s) p) e3007 := by have z := hps3006.2; rw [show pfM t = pfM s from funext (fun j => fm_c F (by decide))] at z; exact z
          refine z_if_ne X (t := 73) rfl rfl hrs3006 (fun g3008 => ?_) (fun g3008 => ?_)
          ·
            have hIn : inG (iC s 237 (x : Int).toNat) (pfM s) gg (p : Int).toNat := ing_y (by first | (clear g3008 hps3006; omega) | (clear hps3006; omega) | omega) hgr (by first | (clear g3008 hps3006; omega) | (clear hps3006; omega) | omega) hHc (by first | (clear g3008 hps3006; omega) | (clear hps3006; omega) | omega)
            refine z_load X (x := p) rfl (List.Mem.tail _ (List.Mem.tail _ (List.Mem.tail _ (List.Mem.tail _ (List.Mem.tail _ (List.Mem.tail _ (List.Mem.head _))))))) (z_store X (lv' := [(4, .int (Int32.ofInt p)), (0, .ref (A 179)), (1, .int (Int32.ofInt cf)), (2, .int (Int32.ofInt pr)), (3, .int (Int32.ofInt gg)), (5, .int (Int32.ofInt pm)), (6, .int (Int32.ofInt p))]) rfl (by decide) (fun _ h => h) (z_inc X (x := pm) (lv' := [(5, .int (Int32.ofInt (pm + 1))), (4, .int (Int32.ofInt p)), (0, .ref (A 179)), (1, .int (Int32.ofInt cf)), (2, .int (Int32.ofInt pr)), (3, .int (Int32.ofInt gg)), (6, .int (Int32.ofInt p))]) rfl (by decide) (List.Mem.tail _ (List.Mem.tail _ (List.Mem.tail _ (List.Mem.tail _ (List.Mem.tail _ (List.Mem.head _)))))) (fun _ h => h) (z_const X rfl (z_store X (lv' := [(7, .int (Int32.ofInt 0)), (5, .int (Int32.ofInt (pm + 1))), (4, .int (Int32.ofInt p)), (0, .ref (A 179)), (1, .int (Int32.ofInt cf)), (2, .int (Int32.ofInt pr)), (3, .int (Int32.ofInt gg)), (6, .int (Int32.ofInt p))]) rfl (by decide) (fun _ h => h) (WS_pq [3, 4, 5, 6, 2, 1, 7, 0] (lv' := [(0, .ref (A 179)), (1, .int (Int32.ofInt cf)), (2, .int (Int32.ofInt pr)), (3, .int (Int32.ofInt gg)), (4, .int (Int32.ofInt p)), (5, .int (Int32.ofInt (pm + 1))), (6, .int (Int32.ofInt p)), (7, .int (Int32.ofInt 0))]) rfl (L83 ((128 - 0 : Int).toNat + 1) s3006 cf pr gg p (pm + 1) p 0 Is3006 Gs3006 JNW_s3006 JNWL_s3006 JMDJ_s3006 JNWE_s3006 JNMQ_s3006 JMJJ_s3006 ⟨gsp_0 (gst_s hq.1 (sam_fm Fs3006 (by decide))), gmq_y hq.2.1 (by first | (clear g3008 hps3006; omega) | (clear hps3006; omega) | omega) hIn, hIn, hq.2.2⟩ (by first | exact ⟨And.intro (hi.1.1) (And.intro (hi.1.2.1) (hi.1.2.2)), And.intro (hi.2.1.1) (hi.2.1.2), And.intro (hi.2.2.1.1) (hi.2.2.1.2), oq_b44a1c7f ws3006_89 hi.2.2.2.1 b3001.1, And.intro (g3002) (And.intro (hi.2.2.2.2.2.2.2) (by decide)), And.intro (oq_54f49eb5 hi.2.2.2.2.2.1.1) (oq_67a5ea2f hi.2.2.2.2.2.1.2), by decide, by decide⟩ | omega) (Nat.lt_succ_self _) ?_))))))
            intro s3009 x3010 Is3009 Fs3009 JNW_s3009 JNWL_s3009 JMDJ_s3009 JNWE_s3009 JNMQ_s3009 JMJJ_s3009 Qs3009 hs3009
            have b3011 := bi_89 Is3009
            refine z_inc X (x := p) (lv' := [(6, .int (Int32.ofInt (p + (-1)))), (0, .ref (A 179)), (1, .int (Int32.ofInt cf)), (2, .int (Int32.ofInt pr)), (3, .int (Int32.ofInt gg)), (4, .int (Int32.ofInt p)), (5, .int (Int32.ofInt (pm + 1))), (7, .int (Int32.ofInt x3010))]) rfl (by decide) (List.Mem.tail _ (List.Mem.tail _ (List.Mem.tail _ (List.Mem.tail _ (List.Mem.tail _ (List.Mem.tail _ (List.Mem.head _))))))) (fun _ h => h) (z_goto X (t := 45) rfl rfl (WS_pq [1, 2, 3, 4, 5, 6, 0] (lv' := [(0, .ref (A 179)), (1, .int (Int32.ofInt cf)), (2, .int (Int32.ofInt pr)), (3, .int (Int32.ofInt gg)), (4, .int (Int32.ofInt p)), (5, .int (Int32.ofInt (pm + 1))), (6, .int (Int32.ofInt (p + (-1))))]) rfl ?_))
            exact ih _ cf pr gg p (pm + 1) (p + (-1)) Is3009 Fs3009 JNW_s3009 JNWL_s3009 JMDJ_s3009 JNWE_s3009 JNMQ_s3009 JMJJ_s3009 ⟨gsp_e Qs3009.1 (by first | (clear g3008 hps3006; omega) | (clear hps3006; omega) | omega) (by first | (clear g3008 hps3006; omega) | (clear hps3006; omega) | omega) Qs3009.2.2.1, Qs3009.2.1, Qs3009.2.2.2⟩ (by first | exact ⟨And.intro (hs3009.1.1) (And.intro (hs3009.1.2.1) (hs3009.1.2.2)), And.intro (hs3009.2.1.1) (hs3009.2.1.2), And.intro (hs3009.2.2.1.1) (hs3009.2.2.1.2), hs3009.2.2.2.1, And.intro (hi.2.2.2.2.2.2.1) (hs3009.2.2.2.2.1.2.1), And.intro (hs3009.2.2.2.2.2.1.1) (oq_53cad2b6 hs3009.2.2.2.2.2.1.2), oq_285ed02d hs3009.2.2.2.2.1.1, oq_40e69522 hs3009.2.2.2.2.1.2.1⟩ | omega) (by first | exact qk_me hm (by decide) (oq_7a276f11 hs3009.2.2.2.2.1.1) | omega) kx
          ·
            refine z_goto X (t := 131) rfl rfl (z_inc X (x := p) (lv' := [(6, .int (Int32.ofInt (p + (-1)))), (0, .ref (A 179)), (1, .int (Int32.ofInt cf)), (2, .int (Int32.ofInt pr)), (3, .int (Int32.ofInt gg)), (4, .int (Int32.ofInt le)), (5, .int (Int32.ofInt pm))]) rfl (by decide) (List.Mem.tail _ (List.Mem.tail _ (List.Mem.tail _ (List.Mem.tail _ (List.Mem.tail _ (List.Mem.tail _ (List.Mem.head _))))))) (fun _ h => h) (z_goto X (t := 45) rfl rfl (WS_pq [1, 2, 3, 4, 5, 6, 0] (lv' := [(0, .ref (A 179)), (1, .int (Int32.ofInt cf)), (2, .int (Int32.ofInt pr)), (3, .int (Int32.ofInt gg)), (4, .int (Int32.ofInt le)), (5, .int (Int32.ofInt pm)), (6, .int (Int32.ofInt (p + (-1))))]) rfl ?_)))
            exact ih _ cf pr gg le pm (p + (-1)) Is3006 Gs3006 JNW_s3006 JNWL_s3006 JMDJ_s3006 JNWE_s3006 JNMQ_s3006 JMJJ_s3006 ⟨gst_n (gst_s hq.1 (sam_fm Fs3006 (by decide))) (by first | (clear hps3006; omega) | omega) (ing_n2 (by first | (clear hps3006; omega) | omega) hHc (by first | (clear hps3006; omega) | omega)), gmq_n hq.2.1 (by first | (clear hps3006; omega) | omega) (ing_n2 (by first | (clear hps3006; omega) | omega) hHc (by first | (clear hps3006; omega) | omega)), hq.2.2⟩ (by first | exact ⟨And.intro (hi.1.1) (And.intro (hi.1.2.1) (hi.1.2.2)), And.intro (hi.2.1.1) (hi.2.1.2), And.intro (hi.2.2.1.1) (hi.2.2.1.2), oq_b44a1c7f ws3006_89 hi.2.2.2.1 b3001.1, And.intro (hi.2.2.2.2.1.1) (hi.2.2.2.2.1.2), And.intro (hi.2.2.2.2.2.1.1) (oq_256ac20b hi.2.2.2.2.2.1.2), oq_285ed02d g3002, oq_40e69522 hi.2.2.2.2.2.2.2⟩ | omega) (by first | exact qk_me hm (by decide) (oq_7a276f11 g3002) | omega) kx
  have L4 : ∀ (n : Nat) (t : PS) (cf pr gg : Int), Bd t → Fm [77, 75, 78, 79, 80, 81, 89] [161, 230] s t → NW t → NWL t → MDJ U t → NWE U t → NMQ (uM U qn) (uN U : Int) t → MJJ Jn t → (pr = npG (iC s 237 (x : Int).toNat) (pfM s) (gg : Int).toNat ∧ PGN U Jn (iC s 237 (x : Int).toNat) (pfM s) (fun j => iC s 229 j) gg qn) → ((cf = x ∧ 0 ≤ cf ∧ cf ≤ 5) ∧ (0 ≤ pr ∧ pr ≤ gg) ∧ (0 ≤ gg ∧ gg ≤ 8) ∧ iI t 89 = 1) → (8 - gg : Int).toNat < n → (∀ (t' : PS) (pr' gg' : Int), Bd t' → Fm [77, 75, 78, 79, 80, 81, 89] [161, 230] s t' → NW t' → NWL t' → MDJ U t' → NWE U t' → NMQ (uM U qn) (uN U : Int) t' → MJJ Jn t' → (pr' = npG (iC s 237 (x : Int).toNat) (pfM s) (gg' : Int).toNat ∧ PGN U Jn (iC s 237 (x : Int).toNat) (pfM s) (fun j => iC s 229 j) gg' qn) → ((0 ≤ pr' ∧ pr' ≤ 8) ∧ gg' = 8 ∧ iI t' 89 = 1) → WS k 206 [(0, .ref (A 179)), (1, .int (Int32.ofInt cf)), (2, .int (Int32.ofInt pr')), (3, .int (Int32.ofInt gg'))] [] (Wd A dT t') 0 0) → WS k 4 [(0, .ref (A 179)), (1, .int (Int32.ofInt cf)), (2, .int (Int32.ofInt pr)), (3, .int (Int32.ofInt gg))] [] (Wd A dT t) 0 0 := by
    intro n
    induction n with
    | zero =>
      intro t cf pr gg I F jjNW jjNWL jjMDJ jjNWE jjNMQ jjMJJ hq hi hm kx
      exact absurd hm (Nat.not_lt_zero _)
    | succ n ih =>
      intro t cf pr gg I F jjNW jjNWL jjMDJ jjNWE jjNMQ jjMJJ hq hi hm kx
      have b4001 := bi_89 I
      refine z_load_n X (x := gg) rfl (List.Mem.tail _ (List.Mem.tail _ (List.Mem.tail _ (List.Mem.head _)))) (z_bipush X rfl (z_icmp_ge X (t := 206) rfl rfl ⟨by first | exact oq_fa4e5087 hi.2.2.1.1 | omega, by first | exact oq_d3f5d874 hi.2.2.1.2 | omega⟩ (by decide) (fun g4002 => ?_) (fun g4002 => ?_)))
      ·
        refine WS_pq [0, 1, 2, 3] (lv' := [(0, .ref (A 179)), (1, .int (Int32.ofInt cf)), (2, .int (Int32.ofInt pr)), (3, .int (Int32.ofInt gg))]) rfl ?_
        exact kx _ pr gg I F jjNW jjNWL jjMDJ jjNWE jjNMQ jjMJJ hq (by first | exact ⟨And.intro (hi.2.1.1) (oq_fe8b3247 hi.2.1.2 hi.2.2.1.2), oq_73d3719d hi.2.2.1.2 g4002, hi.2.2.2⟩ | omega)
      ·
        refine z_const X rfl (z_store X (lv' := [(4, .int (Int32.ofInt (-1))), (0, .ref (A 179)), (1, .int (Int32.ofInt cf)), (2, .int (Int32.ofInt pr)), (3, .int (Int32.ofInt gg))]) rfl (by decide) (fun _ h => h) (z_const X rfl (z_store X (lv' := [(5, .int (Int32.ofInt 0)), (4, .int (Int32.ofInt (-1))), (0, .ref (A 179)), (1, .int (Int32.ofInt cf)), (2, .int (Int32.ofInt pr)), (3, .int (Int32.ofInt gg))]) rfl (by decide) (fun _ h => h) (z_const X rfl (z_store X (lv' := [(6, .int (Int32.ofInt 0)), (5, .int (Int32.ofInt 0)), (4, .int (Int32.ofInt (-1))), (0, .ref (A 179)), (1, .int (Int32.ofInt cf)), (2, .int (Int32.ofInt pr)), (3, .int (Int32.ofInt gg))]) rfl (by decide) (fun _ h => h) (WS_pq [3, 4, 5, 6, 2, 1, 0] (lv' := [(0, .ref (A 179)), (1, .int (Int32.ofInt cf)), (2, .int (Int32.ofInt pr)), (3, .int (Int32.ofInt gg)), (4, .int (Int32.ofInt (-1))), (5, .int (Int32.ofInt 0)), (6, .int (Int32.ofInt 0))]) rfl (L19 ((128 - 0 : Int).toNat + 1) t cf pr gg (-1) 0 0 I F jjNW jjNWL jjMDJ jjNWE jjNMQ jjMJJ ⟨fun j hj => absurd hj (by omega), hq⟩ (by first | exact ⟨And.intro (hi.1.1) (And.intro (hi.1.2.1) (hi.1.2.2)), And.intro (hi.2.1.1) (hi.2.1.2), And.intro (hi.2.2.1.1) (oq_78c639ed g4002), hi.2.2.2, by decide, by decide, by decide, by decide⟩ | omega) (Nat.lt_succ_self _) ?_)))))))
        intro s4003 x4004 Is4003 Fs4003 JNW_s4003 JNWL_s4003 JMDJ_s4003 JNWE_s4003 JNMQ_s4003 JMJJ_s4003 Qs4003 hs4003
        have b4005 := bi_89 Is4003
        refine z_bipush X rfl (z_store X (lv' := [(6, .int (Int32.ofInt 7)), (0, .ref (A 179)), (1, .int (Int32.ofInt cf)), (2, .int (Int32.ofInt pr)), (3, .int (Int32.ofInt gg)), (4, .int (Int32.ofInt (-1))), (5, .int (Int32.ofInt 0))]) rfl (by decide) (fun _ h => h) (WS_pq [1, 2, 3, 4, 5, 6, 0] (lv' := [(0, .ref (A 179)), (1, .int (Int32.ofInt cf)), (2, .int (Int32.ofInt pr)), (3, .int (Int32.ofInt gg)), (4, .int (Int32.ofInt (-1))), (5, .int (Int32.ofInt 0)), (6, .int (Int32.ofInt 7))]) rfl (L45 ((7 + 1 : Int).toNat + 1) s4003 cf pr gg (-1) 0 7 Is4003 Fs4003 JNW_s4003 JNWL_s4003 JMDJ_s4003 JNWE_s4003 JNMQ_s4003 JMJJ_s4003 ⟨(by rw [show (7 - 7 : Int).toNat = 0 by omega]; exact gst_0 Qs4003.1 (by omega)), (by rw [show (7 - 7 : Int).toNat = 0 by omega]; exact ⟨rfl, rfl⟩), Qs4003.2⟩ (by first | exact ⟨And.intro (hs4003.1.1) (And.intro (hs4003.1.2.1) (hs4003.1.2.2)), And.intro (hs4003.2.1.1) (hs4003.2.1.2), And.intro (hs4003.2.2.1.1) (hs4003.2.2.1.2), hs4003.2.2.2.1, And.intro (by decide) (by decide), And.intro (by decide) (by decide), by decide, by decide⟩ | omega) (Nat.lt_succ_self _) ?_)))
        intro s4006 x4007 x4008 x4009 Is4006 Fs4006 JNW_s4006 JNWL_s4006 JMDJ_s4006 JNWE_s4006 JNMQ_s4006 JMJJ_s4006 Qs4006 hs4006
        have b4010 := bi_89 Is4006
        have hge := gmq_e Qs4006.2.1 (by omega)
        have hin := gst_in Qs4006.1 (by omega)
        refine z_load X (x := x4008) rfl (List.Mem.tail _ (List.Mem.tail _ (List.Mem.tail _ (List.Mem.tail _ (List.Mem.tail _ (List.Mem.head _)))))) (z_if_ne X (t := 145) rfl rfl ⟨by first | exact oq_fa4e5087 hs4006.2.2.2.2.2.1.1 | omega, by first | exact oq_d3f5d874 hs4006.2.2.2.2.2.1.2 | omega⟩ (fun g4011 => ?_) (fun g4011 => ?_))
        ·
          have hmp : 0 < gcN (iC s 237 (x : Int).toNat) (pfM s) gg 8 := by rw [← hge.1.1]; omega
          refine z_aload_n X (x := A 179) rfl (List.Mem.head _) (z_load X (x := x4008) rfl (List.Mem.tail _ (List.Mem.tail _ (List.Mem.tail _ (List.Mem.tail _ (List.Mem.tail _ (List.Mem.head _)))))) (s_putI X 179 rfl (c518_ok rfl) rfl rfl (by decide) rfl rfl rfl (wd_gen (fun s4012 hs4012 => ?_))))
          have Is4012 : Bd s4012 := eqB hs4012 (bd_I Is4006 (show (1 : Int) ≤ x4008 ∧ x4008 ≤ 8 by first | exact ⟨oq_e4db2d1b g4011 hs4006.2.2.2.2.2.1.1, hs4006.2.2.2.2.2.1.2⟩ | omega) ⟨by first | exact oq_fa4e5087 hs4006.2.2.2.2.2.1.1 | omega, by first | exact oq_d3f5d874 hs4006.2.2.2.2.2.1.2 | omega⟩)
          have Fs4012 := eqF hs4012 (fm_I Fs4006 (inl_ok (a := 89) rfl))
          have vs4012 : iI s4012 89 = x4008 := eqI hs4012 (iI_u ⟨by first | exact oq_fa4e5087 hs4006.2.2.2.2.2.1.1 | omega, by first | exact oq_d3f5d874 hs4006.2.2.2.2.2.1.2 | omega⟩)
          have aws4012_230 : SAM 230 s4006 s4012 := by rw [hs4012]; exact (sam_rf (a := 230) (s := s4006))
          have fs4012 : Fm [89] [] s4006 s4012 := by rw [hs4012]; exact fm_I (fm_rf _ _ _) (show 89 ∈ _ by decide)
          have JNW_s4012 : NW s4012 := NW_fm fs4012 (by decide) JNW_s4006
          have JNWL_s4012 : NWL s4012 := NWL_fm fs4012 (by decide) JNWL_s4006
          have JMDJ_s4012 : MDJ U s4012 := MDJ_fm fs4012 (by decide) JMDJ_s4006
          have JNWE_s4012 : NWE U s4012 := NWE_fm fs4012 (by decide) JNWE_s4006
          have JNMQ_s4012 : NMQ (uM U qn) (uN U : Int) s4012 := NMQ_fm fs4012 (by decide) JNMQ_s4006
          have JMJJ_s4012 : MJJ Jn s4012 := MJJ_fm fs4012 (by decide) JMJJ_s4006
          refine z_aload_n X (x := A 179) rfl (List.Mem.head _) ?_
          have hI1 : inS s4012 = gsN (iC s 237 (x : Int).toNat) (pfM s) gg 8 := by rw [hs4012]; exact hin
          refine zcV_i0 X E 179 (As := []) (st := []) rfl rfl rfl rfl (k_load6 G Is4012 JNW_s4012 JNWL_s4012 JMDJ_s4012 JNWE_s4012 JNMQ_s4012 ) rfl (Nat.le_of_ble_eq_true rfl) (fun s4013 e4014 Is4013 Fs4013 hrs4013 hps4013 => ?_)
          have Gs4013 := fm_tq Fs4012 Fs4013 rfl rfl
          have JNW_s4013 : NW s4013 := NW_fm Fs4013 (by decide) JNW_s4012
          have JNWL_s4013 : NWL s4013 := NWL_fm Fs4013 (by decide) JNWL_s4012
          have JMDJ_s4013 : MDJ U s4013 := MDJ_fm Fs4013 (by decide) JMDJ_s4012
          have JNWE_s4013 : NWE U s4013 := NWE_fm Fs4013 (by decide) JNWE_s4012
          have JNMQ_s4013 : NMQ (uM U qn) (uN U : Int) s4013 := NMQ_fm Fs4013 (by decide) JNMQ_s4012
          have JMJJ_s4013 : MJJ Jn s4013 := MJJ_fm Fs4013 (by decide) JMJJ_s4012
          have ws4013_89 : iI s4013 89 = iI s4012 89 := fm_iq Fs4013 rfl
          have aws4013_230 : SAM 230 s4006 s4013 := sam_ts aws4012_230 (sam_fm Fs4013 (by decide))
          have hld : Int32.ofInt e4014 = ldH U (gsN (iC s 237 (x : Int).toNat) (pfM s) gg 8) x4008 qn (-1) := mld_of (by have z := hps4013.1; rw [hI1, show iI s4012 89 = x4008 by first | (clear hps4013 g4011; omega) | (clear g4011; omega) | omega] at z; exact z)
          have hnm : ∀ j, j < 7 → NMr s4013 j = nmH (gsN (iC s 237 (x : Int).toNat) (pfM s) gg 8) (uW U) (moW U qn (-1)) (uN U) x4008 j := by have z := hps4013.2; rw [hI1, show iI s4012 89 = x4008 by first | (clear hps4013 g4011; omega) | (clear g4011; omega) | omega, ← mow_n] at z; exact z
          have hli : iC s4013 229 (x4007 : Int).toNat = iC s 229 (x4007 : Int).toNat := fm_c Gs4013 (by decide)
          refine z_aload_n X (x := A 179) rfl (List.Mem.head _) (s_getR X 179 rfl (c518_ok rfl) rfl rfl (z_load X (x := x4007) rfl (List.Mem.tail _ (List.Mem.tail _ (List.Mem.tail _ (List.Mem.tail _ (List.Mem.head _))))) (z_ald X 257 rfl (c518_ok rfl) rfl (by first | (clear hps4013 g4011; omega) | (clear g4011; omega) | omega) (show x4007 < 8 by first | exact oq_aaea290e hs4006.2.2.2.2.1.2 | omega) (cbig_ok rfl) ?_)))
          have b4015 := bc_229 Is4013 (show (x4007).toNat < 8 by first | exact oq_c19a3aae hs4006.2.2.2.2.1.2 | omega)
          refine z_icmp_gt X (t := 182) rfl rfl hrs4013 (rng_to _) (fun g4016 => ?_) (fun g4016 => ?_)
          ·
            refine z_const X rfl (z_store X (lv' := [(6, .int (Int32.ofInt 0)), (0, .ref (A 179)), (1, .int (Int32.ofInt cf)), (2, .int (Int32.ofInt pr)), (3, .int (Int32.ofInt gg)), (4, .int (Int32.ofInt x4007)), (5, .int (Int32.ofInt x4008))]) rfl (by decide) (fun _ h => h) (z_aload_n X (x := A 179) rfl (List.Mem.tail _ (List.Mem.head _)) (z_const X rfl (s_putI X 179 rfl (c518_ok rfl) rfl rfl (by decide) rfl rfl rfl (wd_gen (fun s4017 hs4017 => ?_))))))
            have Is4017 : Bd s4017 := eqB hs4017 (bd_I Is4013 (show (1 : Int) ≤ 1 ∧ 1 ≤ 8 by first | exact ⟨by decide, by decide⟩ | omega) (by decide))
            have Fs4017 := eqF hs4017 (fm_I Gs4013 (inl_ok (a := 89) rfl))
            have vs4017 : iI s4017 89 = 1 := eqI hs4017 (iI_u (by decide))
            have aws4017_230 : SAM 230 s4006 s4017 := by rw [hs4017]; exact aws4013_230
            have fs4017 : Fm [89] [] s4013 s4017 := by rw [hs4017]; exact fm_I (fm_rf _ _ _) (show 89 ∈ _ by decide)
            have JNW_s4017 : NW s4017 := NW_fm fs4017 (by decide) JNW_s4013
            have JNWL_s4017 : NWL s4017 := NWL_fm fs4017 (by decide) JNWL_s4013
            have JMDJ_s4017 : MDJ U s4017 := MDJ_fm fs4017 (by decide) JMDJ_s4013
            have JNWE_s4017 : NWE U s4017 := NWE_fm fs4017 (by decide) JNWE_s4013
            have JNMQ_s4017 : NMQ (uM U qn) (uN U : Int) s4017 := NMQ_fm fs4017 (by decide) JNMQ_s4013
            have JMJJ_s4017 : MJJ Jn s4017 := MJJ_fm fs4017 (by decide) JMJJ_s4013
            refine z_load X (x := 0) rfl (List.Mem.head _) (z_if_ne X (t := 197) rfl rfl (by decide) (fun g4018 => ?_) (fun g4018 => ?_))
            ·
              exfalso
              omega
            ·
              refine z_const X rfl ?_
              exact w_iret X.1 q hRt rfl (ax_d X (show cdA 266 196 = some (.ireturn, 1, 0, 0, 0) from rfl)) (Nat.zero_le _) (Nat.zero_le _) ⟨_, rfl, Is4017, Fs4017, JNW_s4017, (-1), rfl, (by decide), ⟨by first | exact vs4017 | omega, pgm_n (by first | (clear hps4013 g4011; omega) | (clear g4011; omega) | omega) rfl hge.1.1 hge.1.2 hli (by first | (clear hps4013 g4011; omega) | (clear g4011; omega) | omega) (oks_n hrs4013 hld (Or.inl (by first | (clear hps4013 g4011; omega) | (clear g4011; omega) | omega)))⟩⟩
          ·
            refine z_load X (x := x4008) rfl (List.Mem.tail _ (List.Mem.tail _ (List.Mem.tail _ (List.Mem.tail _ (List.Mem.tail _ (List.Mem.head _)))))) (z_const X rfl (z_icmp_eq X (t := 178) rfl rfl ⟨by first | exact oq_fa4e5087 hs4006.2.2.2.2.2.1.1 | omega, by first | exact oq_d3f5d874 hs4006.2.2.2.2.2.1.2 | omega⟩ (by decide) (fun g4019 => ?_) (fun g4019 => ?_)))
            ·
              refine z_const X rfl (z_goto X (t := 183) rfl rfl (z_store X (lv' := [(6, .int (Int32.ofInt 1)), (0, .ref (A 179)), (1, .int (Int32.ofInt cf)), (2, .int (Int32.ofInt pr)), (3, .int (Int32.ofInt gg)), (4, .int (Int32.ofInt x4007)), (5, .int (Int32.ofInt x4008))]) rfl (by decide) (fun _ h => h) (z_aload_n X (x := A 179) rfl (List.Mem.tail _ (List.Mem.head _)) (z_const X rfl (s_putI X 179 rfl (c518_ok rfl) rfl rfl (by decide) rfl rfl rfl (wd_gen (fun s4020 hs4020 => ?_)))))))
              have Is4020 : Bd s4020 := eqB hs4020 (bd_I Is4013 (show (1 : Int) ≤ 1 ∧ 1 ≤ 8 by first | exact ⟨by decide, by decide⟩ | omega) (by decide))
              have Fs4020 := eqF hs4020 (fm_I Gs4013 (inl_ok (a := 89) rfl))
              have vs4020 : iI s4020 89 = 1 := eqI hs4020 (iI_u (by decide))
              have aws4020_230 : SAM 230 s4006 s4020 := by rw [hs4020]; exact aws4013_230
              have fs4020 : Fm [89] [] s4013 s4020 := by rw [hs4020]; exact fm_I (fm_rf _ _ _) (show 89 ∈ _ by decide)
              have JNW_s4020 : NW s4020 := NW_fm fs4020 (by decide) JNW_s4013
              have JNWL_s4020 : NWL s4020 := NWL_fm fs4020 (by decide) JNWL_s4013
              have JMDJ_s4020 : MDJ U s4020 := MDJ_fm fs4020 (by decide) JMDJ_s4013
              have JNWE_s4020 : NWE U s4020 := NWE_fm fs4020 (by decide) JNWE_s4013
              have JNMQ_s4020 : NMQ (uM U qn) (uN U : Int) s4020 := NMQ_fm fs4020 (by decide) JNMQ_s4013
              have JMJJ_s4020 : MJJ Jn s4020 := MJJ_fm fs4020 (by decide) JMJJ_s4013
              refine z_load X (x := 1) rfl (List.Mem.head _) (z_if_ne X (t := 197) rfl rfl (by decide) (fun g4021 => ?_) (fun g4021 => ?_))
              ·
                refine z_inc X (x := pr) (lv' := [(2, .int (Int32.ofInt (pr + 1))), (6, .int (Int32.ofInt 1)), (0, .ref (A 179)), (1, .int (Int32.ofInt cf)), (3, .int (Int32.ofInt gg)), (4, .int (Int32.ofInt x4007)), (5, .int (Int32.ofInt x4008))]) rfl (by decide) (List.Mem.tail _ (List.Mem.tail _ (List.Mem.tail _ (List.Mem.head _)))) (fun _ h => h) (z_inc X (x := gg) (lv' := [(3, .int (Int32.ofInt (gg + 1))), (2, .int (Int32.ofInt (pr + 1))), (6, .int (Int32.ofInt 1)), (0, .ref (A 179)), (1, .int (Int32.ofInt cf)), (4, .int (Int32.ofInt x4007)), (5, .int (Int32.ofInt x4008))]) rfl (by decide) (List.Mem.tail _ (List.Mem.tail _ (List.Mem.tail _ (List.Mem.tail _ (List.Mem.head _))))) (fun _ h => h) (z_goto X (t := 4) rfl rfl (WS_pq [3, 4, 1, 0] (lv' := [(0, .ref (A 179)), (1, .int (Int32.ofInt cf)), (2, .int (Int32.ofInt (pr + 1))), (3, .int (Int32.ofInt (gg + 1)))]) rfl ?_)))
                exact ih _ cf (pr + 1) (gg + 1) Is4020 Fs4020 JNW_s4020 JNWL_s4020 JMDJ_s4020 JNWE_s4020 JNMQ_s4020 JMJJ_s4020 ⟨by rw [npg_y (by first | (clear g4021 hps4013 g4011; omega) | (clear hps4013 g4011; omega) | omega) hmp, ← Qs4006.2.2.1], pgm_y Qs4006.2.2.2 (by first | (clear g4021 hps4013 g4011; omega) | (clear hps4013 g4011; omega) | omega) rfl hge.1.1 hge.1.2 hli (by first | (clear g4021 hps4013 g4011; omega) | (clear hps4013 g4011; omega) | omega) (oks_y hrs4013 hld (by first | (clear g4021 hps4013 g4011; omega) | (clear hps4013 g4011; omega) | omega) (Or.inl (by first | (clear g4021 hps4013 g4011; omega) | (clear hps4013 g4011; omega) | omega)))⟩ (by first | exact ⟨And.intro (hs4006.1.1) (And.intro (hs4006.1.2.1) (hs4006.1.2.2)), And.intro (oq_54f49eb5 hs4006.2.1.1) (oq_8d48a029 hs4006.2.1.2), And.intro (oq_54f49eb5 hs4006.2.2.1.1) (oq_18969492 hs4006.2.2.1.2), vs4020⟩ | omega) (by first | exact qk_me hm (by decide) (oq_6bd25173 hs4006.2.2.1.2) | omega) kx
              ·
                exfalso
                omega
            ·
              refine z_aload_n X (x := A 179) rfl (List.Mem.head _) (zcV_i0 X E 179 (As := []) (st := []) rfl rfl rfl rfl (k_joins7 G Is4013 JMJJ_s4013 ) rfl (Nat.le_of_ble_eq_true rfl) (fun s4022 e4023 Is4022 Fs4022 hrs4022 hps4022 => ?_))
              have hps4022p := hps4022.2
              have Gs4022 := fm_tq Gs4013 Fs4022 rfl rfl
              have JNW_s4022 : NW s4022 := NW_fm Fs4022 (by decide) JNW_s4013
              have JNWL_s4022 : NWL s4022 := NWL_fm Fs4022 (by decide) JNWL_s4013
              have JMDJ_s4022 : MDJ U s4022 := MDJ_fm Fs4022 (by decide) JMDJ_s4013
              have JNWE_s4022 : NWE U s4022 := NWE_fm Fs4022 (by decide) JNWE_s4013
              have JNMQ_s4022 : NMQ (uM U qn) (uN U : Int) s4022 := NMQ_fm Fs4022 (by decide) JNMQ_s4013
              have JMJJ_s4022 : MJJ Jn s4022 := MJJ_fm Fs4022 (by decide) JMJJ_s4013
              have ws4022_89 : iI s4022 89 = iI s4013 89 := fm_iq Fs4022 rfl
              have aws4022_230 : SAM 230 s4006 s4022 := sam_ts aws4013_230 (sam_fm Fs4022 (by decide))
              have hJ := jhe_e (jhe_ext jMJJ.1 hnm hps4022.2)
              refine z_if_eq X (t := 182) rfl rfl hrs4022 (fun g4024 => ?_) (fun g4024 => ?_)
              ·
                refine z_const X rfl (z_store X (lv' := [(6, .int (Int32.ofInt 0)), (0, .ref (A 179)), (1, .int (Int32.ofInt cf)), (2, .int (Int32.ofInt pr)), (3, .int (Int32.ofInt gg)), (4, .int (Int32.ofInt x4007)), (5, .int (Int32.ofInt x4008))]) rfl (by decide) (fun _ h => h) (z_aload_n X (x := A 179) rfl (List.Mem.tail _ (List.Mem.head _)) (z_const X rfl (s_putI X 179 rfl (c518_ok rfl) rfl rfl (by decide) rfl rfl rfl (wd_gen (fun s4025 hs4025 => ?_))))))
                have Is4025 : Bd s4025 := eqB hs4025 (bd_I Is4022 (show (1 : Int) ≤ 1 ∧ 1 ≤ 8 by first | exact ⟨by decide, by decide⟩ | omega) (by decide))
                have Fs4025 := eqF hs4025 (fm_I Gs4022 (inl_ok (a := 89) rfl))
                have vs4025 : iI s4025 89 = 1 := eqI hs4025 (iI_u (by decide))
                have aws4025_230 : SAM 230 s4006 s4025 := by rw [hs4025]; exact aws4022_230
                have fs4025 : Fm [89] [] s4022 s4025 := by rw [hs4025]; exact fm_I (fm_rf _ _ _) (show 89 ∈ _ by decide)
                have JNW_s4025 : NW s4025 := NW_fm fs4025 (by decide) JNW_s4022
                have JNWL_s4025 : NWL s4025 := NWL_fm fs4025 (by decide) JNWL_s4022
                have JMDJ_s4025 : MDJ U s4025 := MDJ_fm fs4025 (by decide) JMDJ_s4022
                have JNWE_s4025 : NWE U s4025 := NWE_fm fs4025 (by decide) JNWE_s4022
                have JNMQ_s4025 : NMQ (uM U qn) (uN U : Int) s4025 := NMQ_fm fs4025 (by decide) JNMQ_s4022
                have JMJJ_s4025 : MJJ Jn s4025 := MJJ_fm fs4025 (by decide) JMJJ_s4022
                refine z_load X (x := 0) rfl (List.Mem.head _) (z_if_ne X (t := 197) rfl rfl (by decide) (fun g4026 => ?_) (fun g4026 => ?_))
                ·
                  exfalso
                  omega
                ·
                  refine z_const X rfl ?_
                  exact w_iret X.1 q hRt rfl (ax_d X (show cdA 266 196 = some (.ireturn, 1, 0, 0, 0) from rfl)) (Nat.zero_le _) (Nat.zero_le _) ⟨_, rfl, Is4025, Fs4025, JNW_s4025, (-1), rfl, (by decide), ⟨by first | exact vs4025 | omega, pgm_n (by first | (clear hps4022 g4019 hps4013 g4011; omega) | (clear g4019 hps4013 g4011; omega) | omega) rfl hge.1.1 hge.1.2 hli (by first | (clear hps4022 g4019 hps4013 g4011; omega) | (clear g4019 hps4013 g4011; omega) | omega) (oks_n hrs4013 hld (Or.inr ⟨by first | (clear hps4022 g4019 hps4013 g4011; omega) | (clear g4019 hps4013 g4011; omega) | omega, hJ.2 (by first | (clear hps4022 g4019 hps4013 g4011; omega) | (clear g4019 hps4013 g4011; omega) | omega)⟩))⟩⟩
              ·
                refine z_const X rfl (z_goto X (t := 183) rfl rfl (z_store X (lv' := [(6, .int (Int32.ofInt 1)), (0, .ref (A 179)), (1, .int (Int32.ofInt cf)), (2, .int (Int32.ofInt pr)), (3, .int (Int32.ofInt gg)), (4, .int (Int32.ofInt x4007)), (5, .int (Int32.ofInt x4008))]) rfl (by decide) (fun _ h => h) (z_aload_n X (x := A 179) rfl (List.Mem.tail _ (List.Mem.head _)) (z_const X rfl (s_putI X 179 rfl (c518_ok rfl) rfl rfl (by decide) rfl rfl rfl (wd_gen (fun s4027 hs4027 => ?_)))))))
                have Is4027 : Bd s4027 := eqB hs4027 (bd_I Is4022 (show (1 : Int) ≤ 1 ∧ 1 ≤ 8 by first | exact ⟨by decide, by decide⟩ | omega) (by decide))
                have Fs4027 := eqF hs4027 (fm_I Gs4022 (inl_ok (a := 89) rfl))
                have vs4027 : iI s4027 89 = 1 := eqI hs4027 (iI_u (by decide))
                have aws4027_230 : SAM 230 s4006 s4027 := by rw [hs4027]; exact aws4022_230
                have fs4027 : Fm [89] [] s4022 s4027 := by rw [hs4027]; exact fm_I (fm_rf _ _ _) (show 89 ∈ _ by decide)
                have JNW_s4027 : NW s4027 := NW_fm fs4027 (by decide) JNW_s4022
                have JNWL_s4027 : NWL s4027 := NWL_fm fs4027 (by decide) JNWL_s4022
                have JMDJ_s4027 : MDJ U s4027 := MDJ_fm fs4027 (by decide) JMDJ_s4022
                have JNWE_s4027 : NWE U s4027 := NWE_fm fs4027 (by decide) JNWE_s4022
                have JNMQ_s4027 : NMQ (uM U qn) (uN U : Int) s4027 := NMQ_fm fs4027 (by decide) JNMQ_s4022
                have JMJJ_s4027 : MJJ Jn s4027 := MJJ_fm fs4027 (by decide) JMJJ_s4022
                refine z_load X (x := 1) rfl (List.Mem.head _) (z_if_ne X (t := 197) rfl rfl (by decide) (fun g4028 => ?_) (fun g4028 => ?_))
                ·
                  refine z_inc X (x := pr) (lv' := [(2, .int (Int32.ofInt (pr + 1))), (6, .int (Int32.ofInt 1)), (0, .ref (A 179)), (1, .int (Int32.ofInt cf)), (3, .int (Int32.ofInt gg)), (4, .int (Int32.ofInt x4007)), (5, .int (Int32.ofInt x4008))]) rfl (by decide) (List.Mem.tail _ (List.Mem.tail _ (List.Mem.tail _ (List.Mem.head _)))) (fun _ h => h) (z_inc X (x := gg) (lv' := [(3, .int (Int32.ofInt (gg + 1))), (2, .int (Int32.ofInt (pr + 1))), (6, .int (Int32.ofInt 1)), (0, .ref (A 179)), (1, .int (Int32.ofInt cf)), (4, .int (Int32.ofInt x4007)), (5, .int (Int32.ofInt x4008))]) rfl (by decide) (List.Mem.tail _ (List.Mem.tail _ (List.Mem.tail _ (List.Mem.tail _ (List.Mem.head _))))) (fun _ h => h) (z_goto X (t := 4) rfl rfl (WS_pq [3, 4, 1, 0] (lv' := [(0, .ref (A 179)), (1, .int (Int32.ofInt cf)), (2, .int (Int32.ofInt (pr + 1))), (3, .int (Int32.ofInt (gg + 1)))]) rfl ?_)))
                  exact ih _ cf (pr + 1) (gg + 1) Is4027 Fs4027 JNW_s4027 JNWL_s4027 JMDJ_s4027 JNWE_s4027 JNMQ_s4027 JMJJ_s4027 ⟨by rw [npg_y (by first | (clear g4028 g4024 hps4022 g4019 hps4013 g4011; omega) | (clear g4024 hps4022 g4019 hps4013 g4011; omega) | omega) hmp, ← Qs4006.2.2.1], pgm_y Qs4006.2.2.2 (by first | (clear g4028 g4024 hps4022 g4019 hps4013 g4011; omega) | (clear g4024 hps4022 g4019 hps4013 g4011; omega) | omega) rfl hge.1.1 hge.1.2 hli (by first | (clear g4028 g4024 hps4022 g4019 hps4013 g4011; omega) | (clear g4024 hps4022 g4019 hps4013 g4011; omega) | omega) (oks_y hrs4013 hld (by first | (clear g4028 g4024 hps4022 g4019 hps4013 g4011; omega) | (clear g4024 hps4022 g4019 hps4013 g4011; omega) | omega) (Or.inr (hJ.1 (by first | (clear g4028 g4024 hps4022 g4019 hps4013 g4011; omega) | (clear g4024 hps4022 g4019 hps4013 g4011; omega) | omega))))⟩ (by first | exact ⟨And.intro (hs4006.1.1) (And.intro (hs4006.1.2.1) (hs4006.1.2.2)), And.intro (oq_54f49eb5 hs4006.2.1.1) (oq_8d48a029 hs4006.2.1.2), And.intro (oq_54f49eb5 hs4006.2.2.1.1) (oq_18969492 hs4006.2.2.1.2), vs4027⟩ | omega) (by first | exact qk_me hm (by decide) (oq_6bd25173 hs4006.2.2.1.2) | omega) kx
                ·
                  exfalso
                  omega
        ·
          refine z_goto X (t := 200) rfl rfl (z_inc X (x := gg) (lv' := [(3, .int (Int32.ofInt (gg + 1))), (0, .ref (A 179)), (1, .int (Int32.ofInt cf)), (2, .int (Int32.ofInt pr)), (4, .int (Int32.ofInt x4007)), (5, .int (Int32.ofInt x4008)), (6, .int (Int32.ofInt x4009))]) rfl (by decide) (List.Mem.tail _ (List.Mem.tail _ (List.Mem.tail _ (List.Mem.head _)))) (fun _ h => h) (z_goto X (t := 4) rfl rfl (WS_pq [1, 2, 3, 0] (lv' := [(0, .ref (A 179)), (1, .int (Int32.ofInt cf)), (2, .int (Int32.ofInt pr)), (3, .int (Int32.ofInt (gg + 1)))]) rfl ?_)))
          exact ih _ cf pr (gg + 1) Is4006 Fs4006 JNW_s4006 JNWL_s4006 JMDJ_s4006 JNWE_s4006 JNMQ_s4006 JMJJ_s4006 ⟨Qs4006.2.2.1.trans (npg_n (by omega) (hge.1.1.symm.trans (by omega))).symm, pgm_0 Qs4006.2.2.2 (by omega) hge.1.1 (by omega)⟩ (by first | exact ⟨And.intro (hs4006.1.1) (And.intro (hs4006.1.2.1) (hs4006.1.2.2)), And.intro (hs4006.2.1.1) (oq_03182e9e hs4006.2.1.2), And.intro (oq_54f49eb5 hs4006.2.2.1.1) (oq_18969492 hs4006.2.2.1.2), hs4006.2.2.2.1⟩ | omega) (by first | exact qk_me hm (by decide) (oq_6bd25173 hs4006.2.2.1.2) | omega) kx
  refine z_const X rfl (z_store_n X (lv' := [(2, .int (Int32.ofInt 0)), (0, .ref (A 179)), (1, .int (Int32.ofInt x))]) rfl (by decide) (fun _ h => h) (z_const X rfl (z_store_n X (lv' := [(3, .int (Int32.ofInt 0)), (2, .int (Int32.ofInt 0)), (0, .ref (A 179)), (1, .int (Int32.ofInt x))]) rfl (by decide) (fun _ h => h) (WS_pq [2, 3, 1, 0] (lv' := [(0, .ref (A 179)), (1, .int (Int32.ofInt x)), (2, .int (Int32.ofInt 0)), (3, .int (Int32.ofInt 0))]) rfl (L4 ((8 - 0 : Int).toNat + 1) s x 0 0 I F jNW jNWL jMDJ jNWE jNMQ jMJJ ⟨rfl, fun g hg => absurd hg (by omega)⟩ (by first | exact ⟨And.intro (by decide) (And.intro (p0.1) (p0.2)), And.intro (by decide) (by decide), And.intro (by decide) (by decide), p1⟩ | omega) (Nat.lt_succ_self _) ?_)))))
  intro s2 x3 x4 Is2 Fs2 JNW_s2 JNWL_s2 JMDJ_s2 JNWE_s2 JNMQ_s2 JMJJ_s2 Qs2 hs2
  have b5 := bi_89 Is2
  refine z_load_n X (x := x3) rfl (List.Mem.tail _ (List.Mem.tail _ (List.Mem.head _))) ?_
  exact w_iret X.1 q hRt rfl (ax_d X (show cdA 266 207 = some (.ireturn, 1, 0, 0, 0) from rfl)) (Nat.zero_le _) (Nat.zero_le _) ⟨_, rfl, Is2, Fs2, JNW_s2, x3, rfl, ⟨by first | exact oq_fa4e5087 hs2.1.1 | omega, by first | exact oq_d3f5d874 hs2.1.2 | omega⟩, ⟨by first | exact hs2.2.2 | omega, by have z := Qs2; rw [show (x4 : Int).toNat = 8 by omega, show x4 = 8 by omega] at z; exact Or.inl z⟩⟩
set_option maxRecDepth 4000 in
theorem k_pairs7 (G : GX l s0 D tys a0 dT) {U : AirD} {Jn : List Int → Prop} (I : Bd s) (jRLx : RLx s) (jMDJ : MDJ U s) (jMJJ : MJJ Jn s) {x y : Int} (p0 : rng x) (p1 : rng y) (p2 : iI s 89 = 1) : CT l s0 D A dT 267 (rmN 267) [.ref (A 179), .int (Int32.ofInt x), .int (Int32.ofInt y)] s (fun o t => Bd t ∧ Fm [73, 89, 77, 75, 78, 79, 80, 81] [161, 202, 203, 204, 205, 206, 207, 208, 209, 210, 211, 212, 213, 214, 215, 216, 217, 218, 219, 220, 221, 222, 223, 224, 225, 226, 227, 230] s t ∧ RLx t ∧ ∃ e, o = .inl (some (.int (Int32.ofInt e))) ∧ rng e ∧ ((0 ≤ x ∧ x < iI s 99 ∧ 0 ≤ y ∧ y ≤ 23 ∧ iI t 73 = 0 ∧ iI t 89 = 1 ∧ PRE U Jn (iC s 237 (x : Int).toNat) (pfM s) (fun j => iC s 229 j) (y : Int).toNat e) ∨ ((x < 0 ∨ iI s 99 ≤ x) ∧ iI t 73 = 1 ∧ iI t 89 = 1) ∨ (0 ≤ x ∧ x < iI s 99 ∧ (y < 0 ∨ 23 < y) ∧ iI t 73 = 2 ∧ iI t 89 = 1))) := by
  refine ct_of G (by decide) (Nat.le_of_ble_eq_true rfl) (fun k X E hRt hXt q => ?_)
  show WS k 0 [(0, .ref (A 179)), (1, .int (Int32.ofInt x)), (2, .int (Int32.ofInt y))] [] _ 0 0
  have F : Fm [73, 89, 77, 75, 78, 79, 80, 81] [161, 202, 203, 204, 205, 206, 207, 208, 209, 210, 211, 212, 213, 214, 215, 216, 217, 218, 219, 220, 221, 222, 223, 224, 225, 226, 227, 230] s s := fm_rf _ _ s
  have b1 := bi_73 I
  have b2 := bi_99 I
  have b3 := bi_89 I
  refine z_aload_n X (x := A 179) rfl (List.Mem.head _) (z_const X rfl (s_putI X 179 rfl (c518_ok rfl) rfl rfl (by decide) rfl rfl rfl (wd_gen (fun s4 hs4 => ?_))))
  have Is4 : Bd s4 := eqB hs4 (bd_I I (show (0 : Int) ≤ 0 ∧ 0 ≤ 3 by first | exact ⟨by decide, by decide⟩ | omega) (by decide))
  have Fs4 := eqF hs4 (fm_I F (inl_ok (a := 73) rfl))
  have vs4 : iI s4 73 = 0 := eqI hs4 (iI_u (by decide))
  have ws4_99 : iI s4 99 = iI s 99 := eqI hs4 rfl
  have ws4_89 : iI s4 89 = iI s 89 := eqI hs4 rfl
  have fs4 : Fm [73] [] s s4 := by rw [hs4]; exact fm_I (fm_rf _ _ _) (show 73 ∈ _ by decide)
  have JRLx_s4 : RLx s4 := RLx_fm fs4 (by decide) jRLx
  have JMDJ_s4 : MDJ U s4 := MDJ_fm fs4 (by decide) jMDJ
  have JMJJ_s4 : MJJ Jn s4 := MJJ_fm fs4 (by decide) jMJJ
  refine z_aload_n X (x := A 179) rfl (List.Mem.head _) (z_load_n X (x := x) rfl (List.Mem.tail _ (List.Mem.head _)) (z_const X rfl (z_aload_n X (x := A 179) rfl (List.Mem.head _) (z_getI X 179 rfl (c518_ok rfl) rfl rfl ?_))))
  have b5 := bi_99 Is4
  refine z_const X rfl (z_sub X rfl (z_callS X (rm := rmN 188) (As := [.int (Int32.ofInt x), .int (Int32.ofInt 0), .int (Int32.ofInt ((iI s4 99) - 1))]) (st := [.ref (A 179)]) rfl rfl (by rw [E.1, E.2.1, E.2.2.1]; exact k_in2 G Is4 (by first | exact ⟨p0.1, p0.2⟩ | omega) (by first | exact ⟨by decide, by decide⟩ | omega) (by first | exact ⟨oq_c1e961c7 b5.1, oq_b383b26c b5.2⟩ | omega)) ⟨by rw [E.2.2.2]; exact (show (rmN 188).frames + 1 ≤ (rmN 267).frames by decide), by rw [E.2.2.2]; exact (show 8 + (mNL (miB 188) + 11) + (rmN 188).locals ≤ (rmN 267).locals by decide), by rw [E.2.2.2]; exact (show 0 + (rmN 188).cells ≤ (rmN 267).cells by decide), by rw [E.2.2.2]; exact (show 0 + (rmN 188).slots ≤ (rmN 267).slots by decide)⟩ (Nat.le_of_ble_eq_true rfl) (fun vv s6 hq => ?_) (fun ee s6 hq => ?_)))
  rotate_left
  · obtain ⟨rfl, e7, hv, hrs6, hps6⟩ := hq; cases hv
  obtain ⟨rfl, e7, hv, hrs6, hps6⟩ := hq
  cases hv
  show WS k 17 [(0, .ref (A 179)), (1, .int (Int32.ofInt x)), (2, .int (Int32.ofInt y))] [.int (Int32.ofInt e7), .ref (A 179)] (Wd A dT s4) 0 0
  refine z_if_ne X (t := 24) rfl rfl hrs6 (fun g8 => ?_) (fun g8 => ?_)
  ·
    refine z_const X rfl (z_const X rfl (zcV_i0 X E 179 (As := [.int (Int32.ofInt 0), .int (Int32.ofInt 1)]) (st := []) rfl rfl rfl rfl (k_bad2 G Is4 (by first | exact Or.inl (by decide) | omega) (by first | exact ⟨by decide, by decide⟩ | omega)) rfl (Nat.le_of_ble_eq_true rfl) (fun s9 e10 Is9 Fs9 hrs9 hps9 => ?_)))
    have Gs9 := fm_tq Fs4 Fs9 rfl rfl
    have JRLx_s9 : RLx s9 := RLx_fm Fs9 (by decide) JRLx_s4
    have JMDJ_s9 : MDJ U s9 := MDJ_fm Fs9 (by decide) JMDJ_s4
    have JMJJ_s9 : MJJ Jn s9 := MJJ_fm Fs9 (by decide) JMJJ_s4
    have b11 := bi_73 Is9
    have ws9_99 : iI s9 99 = iI s4 99 := fm_iq Fs9 rfl
    have ws9_89 : iI s9 89 = iI s4 89 := fm_iq Fs9 rfl
    refine z_if_ne X (t := 55) rfl rfl hrs9 (fun g12 => ?_) (fun g12 => ?_)
    ·
      refine z_const X rfl ?_
      exact w_iret X.1 q hRt rfl (ax_d X (show cdA 267 56 = some (.ireturn, 1, 0, 0, 0) from rfl)) (Nat.zero_le _) (Nat.zero_le _) ⟨_, rfl, Is9, Gs9, JRLx_s9, 0, rfl, (by decide), Or.inr (Or.inl ⟨by first | exact oq_aceef97b g12 hps9 vs4 | omega, by first | exact oq_df0d149a g12 hps9 vs4 | omega, by first | exact oq_f34933ba ws9_89 ws4_89 p2 b3.1 | omega⟩)⟩
    ·
      refine z_aload_n X (x := A 179) rfl (List.Mem.head _) (z_load_n X (x := y) rfl (List.Mem.tail _ (List.Mem.tail _ (List.Mem.head _))) (z_const X rfl (z_bipush X rfl (z_callS X (rm := rmN 188) (As := [.int (Int32.ofInt y), .int (Int32.ofInt 0), .int (Int32.ofInt 23)]) (st := [.ref (A 179)]) rfl rfl (by rw [E.1, E.2.1, E.2.2.1]; exact k_in2 G Is9 (by first | exact ⟨p1.1, p1.2⟩ | omega) (by first | exact ⟨by decide, by decide⟩ | omega) (by first | exact ⟨by decide, by decide⟩ | omega)) ⟨by rw [E.2.2.2]; exact (show (rmN 188).frames + 1 ≤ (rmN 267).frames by decide), by rw [E.2.2.2]; exact (show 8 + (mNL (miB 188) + 11) + (rmN 188).locals ≤ (rmN 267).locals by decide), by rw [E.2.2.2]; exact (show 0 + (rmN 188).cells ≤ (rmN 267).cells by decide), by rw [E.2.2.2]; exact (show 0 + (rmN 188).slots ≤ (rmN 267).slots by decide)⟩ (Nat.le_of_ble_eq_true rfl) (fun vv s13 hq => ?_) (fun ee s13 hq => ?_)))))
      rotate_left
      · obtain ⟨rfl, e14, hv, hrs13, hps13⟩ := hq; cases hv
      obtain ⟨rfl, e14, hv, hrs13, hps13⟩ := hq
      cases hv
      show WS k 40 [(0, .ref (A 179)), (1, .int (Int32.ofInt x)), (2, .int (Int32.ofInt y))] [.int (Int32.ofInt e14), .ref (A 179)] (Wd A dT s9) 0 0
      refine z_if_ne X (t := 47) rfl rfl hrs13 (fun g15 => ?_) (fun g15 => ?_)
      ·
        refine z_const X rfl (z_const X rfl (zcV_i0 X E 179 (As := [.int (Int32.ofInt 0), .int (Int32.ofInt 2)]) (st := []) rfl rfl rfl rfl (k_bad2 G Is9 (by first | exact Or.inl (by decide) | omega) (by first | exact ⟨by decide, by decide⟩ | omega)) rfl (Nat.le_of_ble_eq_true rfl) (fun s16 e17 Is16 Fs16 hrs16 hps16 => ?_)))
        have Gs16 := fm_tq Gs9 Fs16 rfl rfl
        have JRLx_s16 : RLx s16 := RLx_fm Fs16 (by decide) JRLx_s9
        have JMDJ_s16 : MDJ U s16 := MDJ_fm Fs16 (by decide) JMDJ_s9
        have JMJJ_s16 : MJJ Jn s16 := MJJ_fm Fs16 (by decide) JMJJ_s9
        have b18 := bi_73 Is16
        have ws16_99 : iI s16 99 = iI s9 99 := fm_iq Fs16 rfl
        have ws16_89 : iI s16 89 = iI s9 89 := fm_iq Fs16 rfl
        refine z_if_eq X (t := 57) rfl rfl hrs16 (fun g19 => ?_) (fun g19 => ?_)
        ·
          refine z_aload_n X (x := A 179) rfl (List.Mem.head _) (z_load_n X (x := y) rfl (List.Mem.tail _ (List.Mem.tail _ (List.Mem.head _))) (zcV_v2 X E 179 (As := [.int (Int32.ofInt y)]) (st := []) rfl rfl rfl rfl (k_asTold6 G Is16 JRLx_s16 JMDJ_s16 (by first | exact ⟨oq_0159bb48 g15 hps13, oq_8b498cf6 g15 hps13⟩ | omega)) rfl (Nat.le_of_ble_eq_true rfl) (fun s20 Is20 Fs20 JRLx_s20 JNQ_s20 hps20 => ?_)))
          have Gs20 := fm_tq Gs16 Fs20 rfl rfl
          have JRLx_s20 : RLx s20 := RLx_fm Fs20 (by decide) JRLx_s16
          have JMDJ_s20 : MDJ U s20 := MDJ_fm Fs20 (by decide) JMDJ_s16
          have JMJJ_s20 : MJJ Jn s20 := MJJ_fm Fs20 (by decide) JMJJ_s16
          have ws20_73 : iI s20 73 = iI s16 73 := fm_iq Fs20 rfl
          have ws20_99 : iI s20 99 = iI s16 99 := fm_iq Fs20 rfl
          have ws20_89 : iI s20 89 = iI s16 89 := fm_iq Fs20 rfl
          have JNW_s20 : NW s20 := NW_of JNQ_s20 JRLx_s20
          have hNW9 := nq_w JMDJ_s20 JNQ_s20
          have hNE9 : NWE U s20 := ⟨JMDJ_s20.1.2, hNW9.1⟩
          refine z_aload_n X (x := A 179) rfl (List.Mem.head _) (z_load_n X (x := x) rfl (List.Mem.tail _ (List.Mem.head _)) (zcV_i1 X E 179 (As := [.int (Int32.ofInt x)]) (st := []) rfl rfl rfl rfl (k_pairsOf7 G Is20 JNW_s20 hNW9.2 JMDJ_s20 hNE9 hps20 JMJJ_s20 (by first | exact ⟨oq_5dfe5e68 g8 hps6, oq_0e49e287 g8 hps6 b5.2⟩ | omega) (by first | exact oq_094d069b ws20_89 ws16_89 ws9_89 ws4_89 p2 b3.1 | omega)) rfl (Nat.le_of_ble_eq_true rfl) (fun s22 e23 Is22 Fs22 JNW_s22 hrs22 hps22 => ?_)))
          have Gs22 := fm_tq Gs20 Fs22 rfl rfl
          have JRLx_s22 : RLx s22 := RLx_fm Fs22 (by decide) JRLx_s20
          have JMDJ_s22 : MDJ U s22 := MDJ_fm Fs22 (by decide) JMDJ_s20
          have JMJJ_s22 : MJJ Jn s22 := MJJ_fm Fs22 (by decide) JMJJ_s20
          have JNQ_s22 : NQ s22 := NQ_fm Fs22 (by decide) JNQ_s20
          have JNW_s22 : NW s22 := NW_fm Fs22 (by decide) JNW_s20
          have JNWL_s22 : NWL s22 := NWL_fm Fs22 (by decide) hNW9.2
          have JNWE_s22 : NWE U s22 := NWE_fm Fs22 (by decide) hNE9
          have JNMQ_s22 : NMQ (uM U (y : Int).toNat) (uN U : Int) s22 := NMQ_fm Fs22 (by decide) hps20
          have ws22_73 : iI s22 73 = iI s20 73 := fm_iq Fs22 rfl
          have ws22_99 : iI s22 99 = iI s20 99 := fm_iq Fs22 rfl
          have b24 := bi_89 Is22
          have e1 : iC s20 237 (x : Int).toNat = iC s 237 (x : Int).toNat := fm_c Gs20 (by decide)
          have e2 : pfM s20 = pfM s := funext (fun j => fm_c Gs20 (by decide))
          have e3 : (fun j => iC s20 229 j) = (fun j => iC s 229 j) := funext (fun j => fm_c Gs20 (by decide))
          have hj := hps22.2
          rw [e1, e2, e3] at hj
          exact w_iret X.1 q hRt rfl (ax_d X (show cdA 267 67 = some (.ireturn, 1, 0, 0, 0) from rfl)) (Nat.zero_le _) (Nat.zero_le _) ⟨_, rfl, Is22, Gs22, JRLx_s22, e23, rfl, hrs22, Or.inl ⟨by first | exact oq_5dfe5e68 g8 hps6 | omega, by first | exact oq_66ac7e01 g8 hps6 ws4_99 | omega, by first | exact oq_0159bb48 g15 hps13 | omega, by first | exact oq_8b498cf6 g15 hps13 | omega, by first | exact oq_10301d6e ws22_73 ws20_73 b18.1 hps16 hps9 vs4 | omega, by first | (clear hps16 g15 hps13 hps9 g8 hps6; omega) | (clear g15 hps13 hps9 g8 hps6; omega) | omega, hj⟩⟩
        ·
          refine z_const X rfl ?_
          exact w_iret X.1 q hRt rfl (ax_d X (show cdA 267 56 = some (.ireturn, 1, 0, 0, 0) from rfl)) (Nat.zero_le _) (Nat.zero_le _) ⟨_, rfl, Is16, Gs16, JRLx_s16, 0, rfl, (by decide), Or.inr (Or.inr ⟨by first | exact oq_5dfe5e68 g8 hps6 | omega, by first | exact oq_66ac7e01 g8 hps6 ws4_99 | omega, by first | exact oq_57d20485 g19 hps16 b11.1 hps9 vs4 | omega, by first | exact oq_d5561c67 g19 hps16 b11.1 hps9 vs4 | omega, by first | exact oq_29301542 ws16_89 ws9_89 ws4_89 p2 b3.1 | omega⟩)⟩
      ·
        refine z_const X rfl (z_goto X (t := 48) rfl rfl (z_const X rfl (zcV_i0 X E 179 (As := [.int (Int32.ofInt 1), .int (Int32.ofInt 2)]) (st := []) rfl rfl rfl rfl (k_bad2 G Is9 (by first | exact Or.inr (by decide) | omega) (by first | exact ⟨by decide, by decide⟩ | omega)) rfl (Nat.le_of_ble_eq_true rfl) (fun s25 e26 Is25 Fs25 hrs25 hps25 => ?_))))
        have Gs25 := fm_tq Gs9 Fs25 rfl rfl
        have JRLx_s25 : RLx s25 := RLx_fm Fs25 (by decide) JRLx_s9
        have JMDJ_s25 : MDJ U s25 := MDJ_fm Fs25 (by decide) JMDJ_s9
        have JMJJ_s25 : MJJ Jn s25 := MJJ_fm Fs25 (by decide) JMJJ_s9
        have b27 := bi_73 Is25
        have ws25_99 : iI s25 99 = iI s9 99 := fm_iq Fs25 rfl
        have ws25_89 : iI s25 89 = iI s9 89 := fm_iq Fs25 rfl
        refine z_if_eq X (t := 57) rfl rfl hrs25 (fun g28 => ?_) (fun g28 => ?_)
        ·
          refine z_aload_n X (x := A 179) rfl (List.Mem.head _) (z_load_n X (x := y) rfl (List.Mem.tail _ (List.Mem.tail _ (List.Mem.head _))) (zcV_v2 X E 179 (As := [.int (Int32.ofInt y)]) (st := []) rfl rfl rfl rfl (k_asTold6 G Is25 JRLx_s25 JMDJ_s25 (by first | exact ⟨oq_9e1cecb0 g28 hps25 b11.1 hps9 vs4, oq_463bdcff g28 hps25 b11.1 hps9 vs4⟩ | omega)) rfl (Nat.le_of_ble_eq_true rfl) (fun s29 Is29 Fs29 JRLx_s29 JNQ_s29 hps29 => ?_)))
          have Gs29 := fm_tq Gs25 Fs29 rfl rfl
          have JRLx_s29 : RLx s29 := RLx_fm Fs29 (by decide) JRLx_s25
          have JMDJ_s29 : MDJ U s29 := MDJ_fm Fs29 (by decide) JMDJ_s25
          have JMJJ_s29 : MJJ Jn s29 := MJJ_fm Fs29 (by decide) JMJJ_s25
          have ws29_73 : iI s29 73 = iI s25 73 := fm_iq Fs29 rfl
          have ws29_99 : iI s29 99 = iI s25 99 := fm_iq Fs29 rfl
          have ws29_89 : iI s29 89 = iI s25 89 := fm_iq Fs29 rfl
          have JNW_s29 : NW s29 := NW_of JNQ_s29 JRLx_s29
          have hNW9 := nq_w JMDJ_s29 JNQ_s29
          have hNE9 : NWE U s29 := ⟨JMDJ_s29.1.2, hNW9.1⟩
          refine z_aload_n X (x := A 179) rfl (List.Mem.head _) (z_load_n X (x := x) rfl (List.Mem.tail _ (List.Mem.head _)) (zcV_i1 X E 179 (As := [.int (Int32.ofInt x)]) (st := []) rfl rfl rfl rfl (k_pairsOf7 G Is29 JNW_s29 hNW9.2 JMDJ_s29 hNE9 hps29 JMJJ_s29 (by first | exact ⟨oq_5dfe5e68 g8 hps6, oq_0e49e287 g8 hps6 b5.2⟩ | omega) (by first | exact oq_094d069b ws29_89 ws25_89 ws9_89 ws4_89 p2 b3.1 | omega)) rfl (Nat.le_of_ble_eq_true rfl) (fun s31 e32 Is31 Fs31 JNW_s31 hrs31 hps31 => ?_)))
          have Gs31 := fm_tq Gs29 Fs31 rfl rfl
          have JRLx_s31 : RLx s31 := RLx_fm Fs31 (by decide) JRLx_s29
          have JMDJ_s31 : MDJ U s31 := MDJ_fm Fs31 (by decide) JMDJ_s29
          have JMJJ_s31 : MJJ Jn s31 := MJJ_fm Fs31 (by decide) JMJJ_s29
          have JNQ_s31 : NQ s31 := NQ_fm Fs31 (by decide) JNQ_s29
          have JNW_s31 : NW s31 := NW_fm Fs31 (by decide) JNW_s29
          have JNWL_s31 : NWL s31 := NWL_fm Fs31 (by decide) hNW9.2
          have JNWE_s31 : NWE U s31 := NWE_fm Fs31 (by decide) hNE9
          have JNMQ_s31 : NMQ (uM U (y : Int).toNat) (uN U : Int) s31 := NMQ_fm Fs31 (by decide) hps29
          have ws31_73 : iI s31 73 = iI s29 73 := fm_iq Fs31 rfl
          have ws31_99 : iI s31 99 = iI s29 99 := fm_iq Fs31 rfl
          have b33 := bi_89 Is31
          have e1 : iC s29 237 (x : Int).toNat = iC s 237 (x : Int).toNat := fm_c Gs29 (by decide)
          have e2 : pfM s29 = pfM s := funext (fun j => fm_c Gs29 (by decide))
          have e3 : (fun j => iC s29 229 j) = (fun j => iC s 229 j) := funext (fun j => fm_c Gs29 (by decide))
          have hj := hps31.2
          rw [e1, e2, e3] at hj
          exact w_iret X.1 q hRt rfl (ax_d X (show cdA 267 67 = some (.ireturn, 1, 0, 0, 0) from rfl)) (Nat.zero_le _) (Nat.zero_le _) ⟨_, rfl, Is31, Gs31, JRLx_s31, e32, rfl, hrs31, Or.inl ⟨by first | exact oq_5dfe5e68 g8 hps6 | omega, by first | exact oq_66ac7e01 g8 hps6 ws4_99 | omega, by first | exact oq_9e1cecb0 g28 hps25 b11.1 hps9 vs4 | omega, by first | exact oq_463bdcff g28 hps25 b11.1 hps9 vs4 | omega, by first | exact oq_7f658433 ws31_73 ws29_73 g28 b27.1 hps25 hps9 vs4 | omega, by first | exact oq_9b5e108e g28 hps25 b11.1 hps9 vs4 | omega, hj⟩⟩
        ·
          refine z_const X rfl ?_
          exact w_iret X.1 q hRt rfl (ax_d X (show cdA 267 56 = some (.ireturn, 1, 0, 0, 0) from rfl)) (Nat.zero_le _) (Nat.zero_le _) ⟨_, rfl, Is25, Gs25, JRLx_s25, 0, rfl, (by decide), Or.inr (Or.inr ⟨by first | exact oq_5dfe5e68 g8 hps6 | omega, by first | exact oq_66ac7e01 g8 hps6 ws4_99 | omega, by first | exact oq_bbd535f0 g15 hps13 | omega, by first | exact oq_58114a90 g28 hps25 b11.1 hps9 vs4 | omega, by first | exact oq_29301542 ws25_89 ws9_89 ws4_89 p2 b3.1 | omega⟩)⟩
  ·
    refine z_const X rfl (z_goto X (t := 25) rfl rfl (z_const X rfl (zcV_i0 X E 179 (As := [.int (Int32.ofInt 1), .int (Int32.ofInt 1)]) (st := []) rfl rfl rfl rfl (k_bad2 G Is4 (by first | exact Or.inr (by decide) | omega) (by first | exact ⟨by decide, by decide⟩ | omega)) rfl (Nat.le_of_ble_eq_true rfl) (fun s34 e35 Is34 Fs34 hrs34 hps34 => ?_))))
    have Gs34 := fm_tq Fs4 Fs34 rfl rfl
    have JRLx_s34 : RLx s34 := RLx_fm Fs34 (by decide) JRLx_s4
    have JMDJ_s34 : MDJ U s34 := MDJ_fm Fs34 (by decide) JMDJ_s4
    have JMJJ_s34 : MJJ Jn s34 := MJJ_fm Fs34 (by decide) JMJJ_s4
    have b36 := bi_73 Is34
    have ws34_99 : iI s34 99 = iI s4 99 := fm_iq Fs34 rfl
    have ws34_89 : iI s34 89 = iI s4 89 := fm_iq Fs34 rfl
    refine z_if_ne X (t := 55) rfl rfl hrs34 (fun g37 => ?_) (fun g37 => ?_)
    ·
      refine z_const X rfl ?_
      exact w_iret X.1 q hRt rfl (ax_d X (show cdA 267 56 = some (.ireturn, 1, 0, 0, 0) from rfl)) (Nat.zero_le _) (Nat.zero_le _) ⟨_, rfl, Is34, Gs34, JRLx_s34, 0, rfl, (by decide), Or.inr (Or.inl ⟨by first | exact oq_37b0c81a g8 hps6 ws4_99 | omega, by first | exact oq_faabd673 g37 hps34 vs4 | omega, by first | exact oq_f34933ba ws34_89 ws4_89 p2 b3.1 | omega⟩)⟩
    ·
      refine z_aload_n X (x := A 179) rfl (List.Mem.head _) (z_load_n X (x := y) rfl (List.Mem.tail _ (List.Mem.tail _ (List.Mem.head _))) (z_const X rfl (z_bipush X rfl (z_callS X (rm := rmN 188) (As := [.int (Int32.ofInt y), .int (Int32.ofInt 0), .int (Int32.ofInt 23)]) (st := [.ref (A 179)]) rfl rfl (by rw [E.1, E.2.1, E.2.2.1]; exact k_in2 G Is34 (by first | exact ⟨p1.1, p1.2⟩ | omega) (by first | exact ⟨by decide, by decide⟩ | omega) (by first | exact ⟨by decide, by decide⟩ | omega)) ⟨by rw [E.2.2.2]; exact (show (rmN 188).frames + 1 ≤ (rmN 267).frames by decide), by rw [E.2.2.2]; exact (show 8 + (mNL (miB 188) + 11) + (rmN 188).locals ≤ (rmN 267).locals by decide), by rw [E.2.2.2]; exact (show 0 + (rmN 188).cells ≤ (rmN 267).cells by decide), by rw [E.2.2.2]; exact (show 0 + (rmN 188).slots ≤ (rmN 267).slots by decide)⟩ (Nat.le_of_ble_eq_true rfl) (fun vv s38 hq => ?_) (fun ee s38 hq => ?_)))))
      rotate_left
      · obtain ⟨rfl, e39, hv, hrs38, hps38⟩ := hq; cases hv
      obtain ⟨rfl, e39, hv, hrs38, hps38⟩ := hq
      cases hv
      show WS k 40 [(0, .ref (A 179)), (1, .int (Int32.ofInt x)), (2, .int (Int32.ofInt y))] [.int (Int32.ofInt e39), .ref (A 179)] (Wd A dT s34) 0 0
      refine z_if_ne X (t := 47) rfl rfl hrs38 (fun g40 => ?_) (fun g40 => ?_)
      ·
        refine z_const X rfl (z_const X rfl (zcV_i0 X E 179 (As := [.int (Int32.ofInt 0), .int (Int32.ofInt 2)]) (st := []) rfl rfl rfl rfl (k_bad2 G Is34 (by first | exact Or.inl (by decide) | omega) (by first | exact ⟨by decide, by decide⟩ | omega)) rfl (Nat.le_of_ble_eq_true rfl) (fun s41 e42 Is41 Fs41 hrs41 hps41 => ?_)))
        have Gs41 := fm_tq Gs34 Fs41 rfl rfl
        have JRLx_s41 : RLx s41 := RLx_fm Fs41 (by decide) JRLx_s34
        have JMDJ_s41 : MDJ U s41 := MDJ_fm Fs41 (by decide) JMDJ_s34
        have JMJJ_s41 : MJJ Jn s41 := MJJ_fm Fs41 (by decide) JMJJ_s34
        have b43 := bi_73 Is41
        have ws41_99 : iI s41 99 = iI s34 99 := fm_iq Fs41 rfl
        have ws41_89 : iI s41 89 = iI s34 89 := fm_iq Fs41 rfl
        refine z_if_eq X (t := 57) rfl rfl hrs41 (fun g44 => ?_) (fun g44 => ?_)
        ·
          refine z_aload_n X (x := A 179) rfl (List.Mem.head _) (z_load_n X (x := y) rfl (List.Mem.tail _ (List.Mem.tail _ (List.Mem.head _))) (zcV_v2 X E 179 (As := [.int (Int32.ofInt y)]) (st := []) rfl rfl rfl rfl (k_asTold6 G Is41 JRLx_s41 JMDJ_s41 (by first | exact ⟨oq_0159bb48 g40 hps38, oq_8b498cf6 g40 hps38⟩ | omega)) rfl (Nat.le_of_ble_eq_true rfl) (fun s45 Is45 Fs45 JRLx_s45 JNQ_s45 hps45 => ?_)))
          have Gs45 := fm_tq Gs41 Fs45 rfl rfl
          have JRLx_s45 : RLx s45 := RLx_fm Fs45 (by decide) JRLx_s41
          have JMDJ_s45 : MDJ U s45 := MDJ_fm Fs45 (by decide) JMDJ_s41
          have JMJJ_s45 : MJJ Jn s45 := MJJ_fm Fs45 (by decide) JMJJ_s41
          have ws45_73 : iI s45 73 = iI s41 73 := fm_iq Fs45 rfl
          have ws45_99 : iI s45 99 = iI s41 99 := fm_iq Fs45 rfl
          have ws45_89 : iI s45 89 = iI s41 89 := fm_iq Fs45 rfl
          have JNW_s45 : NW s45 := NW_of JNQ_s45 JRLx_s45
          have hNW9 := nq_w JMDJ_s45 JNQ_s45
          have hNE9 : NWE U s45 := ⟨JMDJ_s45.1.2, hNW9.1⟩
          refine z_aload_n X (x := A 179) rfl (List.Mem.head _) (z_load_n X (x := x) rfl (List.Mem.tail _ (List.Mem.head _)) (zcV_i1 X E 179 (As := [.int (Int32.ofInt x)]) (st := []) rfl rfl rfl rfl (k_pairsOf7 G Is45 JNW_s45 hNW9.2 JMDJ_s45 hNE9 hps45 JMJJ_s45 (by first | exact ⟨oq_674898f9 g37 hps34 vs4, oq_83f05759 g37 hps34 vs4⟩ | omega) (by first | exact oq_094d069b ws45_89 ws41_89 ws34_89 ws4_89 p2 b3.1 | omega)) rfl (Nat.le_of_ble_eq_true rfl) (fun s47 e48 Is47 Fs47 JNW_s47 hrs47 hps47 => ?_)))
          have Gs47 := fm_tq Gs45 Fs47 rfl rfl
          have JRLx_s47 : RLx s47 := RLx_fm Fs47 (by decide) JRLx_s45
          have JMDJ_s47 : MDJ U s47 := MDJ_fm Fs47 (by decide) JMDJ_s45
          have JMJJ_s47 : MJJ Jn s47 := MJJ_fm Fs47 (by decide) JMJJ_s45
          have JNQ_s47 : NQ s47 := NQ_fm Fs47 (by decide) JNQ_s45
          have JNW_s47 : NW s47 := NW_fm Fs47 (by decide) JNW_s45
          have JNWL_s47 : NWL s47 := NWL_fm Fs47 (by decide) hNW9.2
          have JNWE_s47 : NWE U s47 := NWE_fm Fs47 (by decide) hNE9
          have JNMQ_s47 : NMQ (uM U (y : Int).toNat) (uN U : Int) s47 := NMQ_fm Fs47 (by decide) hps45
          have ws47_73 : iI s47 73 = iI s45 73 := fm_iq Fs47 rfl
          have ws47_99 : iI s47 99 = iI s45 99 := fm_iq Fs47 rfl
          have b49 := bi_89 Is47
          have e1 : iC s45 237 (x : Int).toNat = iC s 237 (x : Int).toNat := fm_c Gs45 (by decide)
          have e2 : pfM s45 = pfM s := funext (fun j => fm_c Gs45 (by decide))
          have e3 : (fun j => iC s45 229 j) = (fun j => iC s 229 j) := funext (fun j => fm_c Gs45 (by decide))
          have hj := hps47.2
          rw [e1, e2, e3] at hj
          exact w_iret X.1 q hRt rfl (ax_d X (show cdA 267 67 = some (.ireturn, 1, 0, 0, 0) from rfl)) (Nat.zero_le _) (Nat.zero_le _) ⟨_, rfl, Is47, Gs47, JRLx_s47, e48, rfl, hrs47, Or.inl ⟨by first | exact oq_674898f9 g37 hps34 vs4 | omega, by first | exact oq_9e014ecb g37 hps34 vs4 | omega, by first | exact oq_0159bb48 g40 hps38 | omega, by first | exact oq_8b498cf6 g40 hps38 | omega, by first | exact oq_93bb5266 ws47_73 ws45_73 b43.1 hps41 g37 hps34 vs4 | omega, by first | exact oq_f2ff104a g37 hps34 vs4 | omega, hj⟩⟩
        ·
          refine z_const X rfl ?_
          exact w_iret X.1 q hRt rfl (ax_d X (show cdA 267 56 = some (.ireturn, 1, 0, 0, 0) from rfl)) (Nat.zero_le _) (Nat.zero_le _) ⟨_, rfl, Is41, Gs41, JRLx_s41, 0, rfl, (by decide), Or.inr (Or.inr ⟨by first | exact oq_73a3fb0e g44 hps41 g37 b36.1 hps34 vs4 | omega, by first | exact oq_c3287dae g44 hps41 g37 b36.1 hps34 vs4 | omega, by first | exact oq_ed7de2a7 g44 hps41 g37 b36.1 hps34 vs4 | omega, by first | exact oq_6832cf95 g44 hps41 g37 b36.1 hps34 vs4 | omega, by first | exact oq_29301542 ws41_89 ws34_89 ws4_89 p2 b3.1 | omega⟩)⟩
      ·
        refine z_const X rfl (z_goto X (t := 48) rfl rfl (z_const X rfl (zcV_i0 X E 179 (As := [.int (Int32.ofInt 1), .int (Int32.ofInt 2)]) (st := []) rfl rfl rfl rfl (k_bad2 G Is34 (by first | exact Or.inr (by decide) | omega) (by first | exact ⟨by decide, by decide⟩ | omega)) rfl (Nat.le_of_ble_eq_true rfl) (fun s50 e51 Is50 Fs50 hrs50 hps50 => ?_))))
        have Gs50 := fm_tq Gs34 Fs50 rfl rfl
        have JRLx_s50 : RLx s50 := RLx_fm Fs50 (by decide) JRLx_s34
        have JMDJ_s50 : MDJ U s50 := MDJ_fm Fs50 (by decide) JMDJ_s34
        have JMJJ_s50 : MJJ Jn s50 := MJJ_fm Fs50 (by decide) JMJJ_s34
        have b52 := bi_73 Is50
        have ws50_99 : iI s50 99 = iI s34 99 := fm_iq Fs50 rfl
        have ws50_89 : iI s50 89 = iI s34 89 := fm_iq Fs50 rfl
        refine z_if_eq X (t := 57) rfl rfl hrs50 (fun g53 => ?_) (fun g53 => ?_)
        ·
          refine z_aload_n X (x := A 179) rfl (List.Mem.head _) (z_load_n X (x := y) rfl (List.Mem.tail _ (List.Mem.tail _ (List.Mem.head _))) (zcV_v2 X E 179 (As := [.int (Int32.ofInt y)]) (st := []) rfl rfl rfl rfl (k_asTold6 G Is50 JRLx_s50 JMDJ_s50 (by first | exact ⟨oq_7bca4f44 g53 hps50 g37 b36.1 hps34 vs4, oq_ceb05602 g53 hps50 g37 b36.1 hps34 vs4⟩ | omega)) rfl (Nat.le_of_ble_eq_true rfl) (fun s54 Is54 Fs54 JRLx_s54 JNQ_s54 hps54 => ?_)))
          have Gs54 := fm_tq Gs50 Fs54 rfl rfl
          have JRLx_s54 : RLx s54 := RLx_fm Fs54 (by decide) JRLx_s50
          have JMDJ_s54 : MDJ U s54 := MDJ_fm Fs54 (by decide) JMDJ_s50
          have JMJJ_s54 : MJJ Jn s54 := MJJ_fm Fs54 (by decide) JMJJ_s50
          have ws54_73 : iI s54 73 = iI s50 73 := fm_iq Fs54 rfl
          have ws54_99 : iI s54 99 = iI s50 99 := fm_iq Fs54 rfl
          have ws54_89 : iI s54 89 = iI s50 89 := fm_iq Fs54 rfl
          have JNW_s54 : NW s54 := NW_of JNQ_s54 JRLx_s54
          have hNW9 := nq_w JMDJ_s54 JNQ_s54
          have hNE9 : NWE U s54 := ⟨JMDJ_s54.1.2, hNW9.1⟩
          refine z_aload_n X (x := A 179) rfl (List.Mem.head _) (z_load_n X (x := x) rfl (List.Mem.tail _ (List.Mem.head _)) (zcV_i1 X E 179 (As := [.int (Int32.ofInt x)]) (st := []) rfl rfl rfl rfl (k_pairsOf7 G Is54 JNW_s54 hNW9.2 JMDJ_s54 hNE9 hps54 JMJJ_s54 (by first | exact ⟨oq_7bca4f44 g53 hps50 g37 b36.1 hps34 vs4, oq_9c97fdf0 g53 hps50 g37 b36.1 hps34 vs4⟩ | omega) (by first | exact oq_094d069b ws54_89 ws50_89 ws34_89 ws4_89 p2 b3.1 | omega)) rfl (Nat.le_of_ble_eq_true rfl) (fun s56 e57 Is56 Fs56 JNW_s56 hrs56 hps56 => ?_)))
          have Gs56 := fm_tq Gs54 Fs56 rfl rfl
          have JRLx_s56 : RLx s56 := RLx_fm Fs56 (by decide) JRLx_s54
          have JMDJ_s56 : MDJ U s56 := MDJ_fm Fs56 (by decide) JMDJ_s54
          have JMJJ_s56 : MJJ Jn s56 := MJJ_fm Fs56 (by decide) JMJJ_s54
          have JNQ_s56 : NQ s56 := NQ_fm Fs56 (by decide) JNQ_s54
          have JNW_s56 : NW s56 := NW_fm Fs56 (by decide) JNW_s54
          have JNWL_s56 : NWL s56 := NWL_fm Fs56 (by decide) hNW9.2
          have JNWE_s56 : NWE U s56 := NWE_fm Fs56 (by decide) hNE9
          have JNMQ_s56 : NMQ (uM U (y : Int).toNat) (uN U : Int) s56 := NMQ_fm Fs56 (by decide) hps54
          have ws56_73 : iI s56 73 = iI s54 73 := fm_iq Fs56 rfl
          have ws56_99 : iI s56 99 = iI s54 99 := fm_iq Fs56 rfl
          have b58 := bi_89 Is56
          have e1 : iC s54 237 (x : Int).toNat = iC s 237 (x : Int).toNat := fm_c Gs54 (by decide)
          have e2 : pfM s54 = pfM s := funext (fun j => fm_c Gs54 (by decide))
          have e3 : (fun j => iC s54 229 j) = (fun j => iC s 229 j) := funext (fun j => fm_c Gs54 (by decide))
          have hj := hps56.2
          rw [e1, e2, e3] at hj
          exact w_iret X.1 q hRt rfl (ax_d X (show cdA 267 67 = some (.ireturn, 1, 0, 0, 0) from rfl)) (Nat.zero_le _) (Nat.zero_le _) ⟨_, rfl, Is56, Gs56, JRLx_s56, e57, rfl, hrs56, Or.inl ⟨by first | exact oq_7bca4f44 g53 hps50 g37 b36.1 hps34 vs4 | omega, by first | exact oq_bbcf2221 g53 hps50 g37 b36.1 hps34 vs4 | omega, by first | exact oq_7bca4f44 g53 hps50 g37 b36.1 hps34 vs4 | omega, by first | exact oq_ceb05602 g53 hps50 g37 b36.1 hps34 vs4 | omega, by first | exact oq_6f27d0be ws56_73 ws54_73 g53 b52.1 hps50 g37 hps34 vs4 | omega, by first | exact oq_737265e4 g53 hps50 g37 b36.1 hps34 vs4 | omega, hj⟩⟩
        ·
          refine z_const X rfl ?_
          exact w_iret X.1 q hRt rfl (ax_d X (show cdA 267 56 = some (.ireturn, 1, 0, 0, 0) from rfl)) (Nat.zero_le _) (Nat.zero_le _) ⟨_, rfl, Is50, Gs50, JRLx_s50, 0, rfl, (by decide), Or.inr (Or.inr ⟨by first | exact oq_674898f9 g37 hps34 vs4 | omega, by first | exact oq_9e014ecb g37 hps34 vs4 | omega, by first | exact oq_bbd535f0 g40 hps38 | omega, by first | exact oq_85f1bbdc g53 hps50 g37 b36.1 hps34 vs4 | omega, by first | exact oq_29301542 ws50_89 ws34_89 ws4_89 p2 b3.1 | omega⟩)⟩
end M87km
