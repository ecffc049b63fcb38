theorem oq_8bddf595 {a0 a1 : Int} (h0 : a0 ≤ a1) (h1 : a1 ≤ 200) : a0 ≤ 390 := by omega
theorem oq_0b450759 {a0 a1 a2 a3 a4 a5 a6 : Int} (h0 : a0 ≠ 0) (h1 : a1 = a2) (h2 : 0 ≤ a0) (h3 : ((a3 ≠ a4 ∧ a0 = 0) ∨ (a3 = a4 ∧ a0 = 1))) (h4 : a2 = a5) (h5 : 1 ≤ a4) (h6 : (a3 ≠ 0 → a5 < a6)) (h7 : a6 ≤ 200) : a1 ≤ 390 := by omega
theorem oq_bcb93356 {a0 a1 a2 a3 a4 a5 a6 a7 a8 : Int} (h0 : a0 = a1) (h1 : a2 ≠ 8) (h2 : a2 ≤ 8) (h3 : a1 = a3) (h4 : a2 = a4) (h5 : a3 = a5) (h6 : a4 = a6) (h7 : a5 = a7) (h8 : a6 = a8) (h9 : a7 ≤ a8) : a0 < 8 := by omega
theorem oq_ca61092c {a0 a1 : Int} (h0 : a0 = 0) (h1 : a0 ≠ 0) : a1 ≤ 200 := by omega
theorem oq_b692c601 {a0 a1 a2 a3 a4 a5 a6 a7 a8 a9 : Int} (h0 : a0 = a1) (h1 : a1 = a2) (h2 : a3 ≠ 8) (h3 : a3 ≤ 8) (h4 : a2 = a4) (h5 : a3 = a5) (h6 : a4 = a6) (h7 : a5 = a7) (h8 : a6 = a8) (h9 : a7 = a9) (h10 : a8 ≤ a9) : (a0 + 1) ≤ 8 := by omega
theorem oq_4322fef3 {a0 a1 : Int} (h0 : a0 = 0) (h1 : a0 ≠ 0) : a1 ≤ 203 := by omega
theorem oq_02f5ae4d {a0 a1 : Int} (h0 : a0 = 0) (h1 : a0 ≠ 0) : (a1 + ((7 : Nat) : Int)) = 7 := by omega
theorem oq_5e64b0f9 {a0 a1 a2 a3 a4 a5 a6 a7 : Int} (h0 : a0 = a1) (h1 : a1 = a2) (h2 : a2 = a3) (h3 : a3 = a4) (h4 : a4 = a5) (h5 : a5 = a6) (h6 : a6 = 0) : (a0 = 7 → a7 ≠ 0) := by omega
theorem oq_05144e14 {a0 a1 a2 : Int} (h0 : a0 = 0) (h1 : a0 ≠ 0) : (a1 = 0 → a2 ≤ 202) := by omega
theorem oq_36461835 {a0 a1 a2 a3 a4 : Int} (h0 : a0 = a1) (h1 : a1 = a2) (h2 : a2 = a3) (h3 : a3 = a4) (h4 : a4 ≠ 8) (h5 : a4 ≤ 8) : (a0 + 1) ≤ 8 := by omega
theorem oq_a5b19105 {a0 a1 : Int} (h0 : a0 = 0) (h1 : a0 ≠ 0) : a1 = 0 := by omega
theorem oq_6a8ceb7b {a0 a1 a2 a3 a4 a5 a6 a7 a8 : Int} (h0 : a0 = a1) (h1 : a2 ≤ a1) (h2 : a2 = a3) (h3 : a3 = a4) (h4 : a5 ≤ a4) (h5 : a5 = a6) (h6 : a6 = a7) (h7 : a8 ≤ a7) : a8 ≤ a0 := by omega
theorem oq_971796bb {a0 a1 a2 a3 a4 : Int} (h0 : a0 = a1) (h1 : a1 ≠ 0) (h2 : 0 ≤ a1) : (a0 = 0 → (a2 < a3 ∧ a3 ≤ a4)) := by omega
theorem oq_07428765 {a0 a1 a2 a3 a4 a5 a6 a7 a8 a9 a10 a11 a12 a13 a14 a15 a16 a17 : Int} (h0 : a0 = a1) (h1 : a2 = (a3 + 1)) (h2 : a1 = a4) (h3 : a3 = a5) (h4 : a5 = a6) (h5 : a4 = (a7 + 1)) (h6 : a7 = a8) (h7 : a6 = a9) (h8 : a8 = a10) (h9 : a9 = a11) (h10 : a10 = a12) (h11 : a11 = a13) (h12 : a12 = a14) (h13 : a13 = a15) (h14 : a14 = a16) (h15 : a15 = a17) (h16 : a16 ≤ a17) : a0 ≤ a2 := by omega
theorem oq_6db829a8 {a0 a1 : Int} (h0 : a0 = 0) (h1 : a0 ≠ 0) : a1 ≤ 380 := by omega
theorem oq_56cdf1d3 {a0 a1 a2 a3 a4 a5 : Int} (h0 : a0 = a1) (h1 : a1 = a2) (h2 : a2 = a3) (h3 : a3 = a4) (h4 : a4 = a5) (h5 : a5 ≠ 8) (h6 : a5 ≤ 8) : (a0 + 1) ≤ 8 := by omega
theorem oq_5c2efc3f {a0 a1 a2 a3 a4 a5 a6 a7 a8 a9 : Int} (h0 : a0 = a1) (h1 : a2 ≤ a1) (h2 : a3 ≤ a2) (h3 : a3 = a4) (h4 : a4 = a5) (h5 : a6 ≤ a5) (h6 : a6 = a7) (h7 : a7 = a8) (h8 : a9 ≤ a8) : a9 ≤ a0 := by omega
theorem oq_243ee8ff {a0 a1 a2 a3 a4 : Int} (h0 : a0 = 0) (h1 : a0 ≠ 0) : (a1 = 0 → (a2 < a3 ∧ a3 ≤ a4)) := by omega
theorem oq_14de5e60 {a0 a1 a2 a3 a4 a5 a6 a7 a8 a9 a10 a11 a12 a13 a14 a15 a16 a17 a18 a19 : Int} (h0 : a0 = a1) (h1 : a2 = (a3 + 1)) (h2 : a1 = a4) (h3 : a3 = a5) (h4 : a4 = a6) (h5 : a5 = a7) (h6 : a7 = a8) (h7 : a6 = (a9 + 1)) (h8 : a9 = a10) (h9 : a8 = a11) (h10 : a10 = a12) (h11 : a11 = a13) (h12 : a12 = a14) (h13 : a13 = a15) (h14 : a14 = a16) (h15 : a15 = a17) (h16 : a16 = a18) (h17 : a17 = a19) (h18 : a18 ≤ a19) : a0 ≤ a2 := by omega
theorem oq_cae1c890 {a0 a1 a2 a3 a4 a5 a6 a7 a8 a9 a10 : Int} (h0 : a0 ≠ 0) (h1 : (a1 = a2 ∨ a1 ≤ a3)) (h2 : a3 = a4) (h3 : a2 = a5) (h4 : 0 ≤ a0) (h5 : ((a6 ≠ a7 ∧ a0 = 0) ∨ (a6 = a7 ∧ a0 = 1))) (h6 : a4 = a8) (h7 : a5 = a9) (h8 : 1 ≤ a7) (h9 : a8 = a10) (h10 : (a6 ≠ 0 → a9 < a10)) (h11 : a10 ≤ 200) : a1 ≤ 200 := by omega
theorem oq_09fe36a6 {a0 a1 a2 a3 a4 a5 a6 a7 a8 a9 a10 a11 : Int} (h0 : a0 = a1) (h1 : a2 ≠ 0) (h2 : (a1 = a3 ∨ a1 ≤ a4)) (h3 : a4 = a5) (h4 : a3 = a6) (h5 : 0 ≤ a2) (h6 : ((a7 ≠ a8 ∧ a2 = 0) ∨ (a7 = a8 ∧ a2 = 1))) (h7 : a5 = a9) (h8 : a6 = a10) (h9 : 1 ≤ a8) (h10 : a9 = a11) (h11 : (a7 ≠ 0 → a10 < a11)) (h12 : a11 ≤ 200) : a0 ≤ 203 := by omega
theorem oq_3ce50407 {a0 a1 a2 a3 a4 a5 a6 : Int} (h0 : a0 = a1) (h1 : a1 = a2) (h2 : a2 = a3) (h3 : a3 = a4) (h4 : a4 = a5) (h5 : a5 = 0) : (a0 = 7 → a6 ≠ 0) := by omega
theorem oq_fa715ff6 {a0 a1 a2 a3 : Int} (h0 : a0 = a1) (h1 : a1 = a2) (h2 : a2 = a3) (h3 : a3 ≠ 8) (h4 : a3 ≤ 8) : (a0 + 1) ≤ 8 := by omega
theorem oq_09c04f1e {a0 a1 a2 a3 a4 a5 a6 a7 : Int} (h0 : a0 = a1) (h1 : 0 ≤ a1) (h2 : a1 = a2) (h3 : a2 = a3) (h4 : a3 = a4) (h5 : a4 = a5) (h6 : a5 = a6) (h7 : a6 = a7) (h8 : a7 = 0) : a0 = 0 := by omega
theorem oq_a39082a4 {a0 a1 a2 a3 a4 a5 a6 a7 : Int} (h0 : a0 = a1) (h1 : a2 ≤ a1) (h2 : a2 = a3) (h3 : a4 ≤ a3) (h4 : a4 = a5) (h5 : a5 = a6) (h6 : a7 ≤ a6) : a7 ≤ a0 := by omega
theorem oq_f01a7dd9 {a0 a1 a2 a3 a4 a5 a6 a7 a8 a9 a10 a11 a12 a13 : Int} (h0 : a0 = a1) (h1 : (a1 = a2 ∨ a1 ≤ 202)) (h2 : a2 = a3) (h3 : a4 ≠ 0) (h4 : (a3 = a5 ∨ a3 ≤ a6)) (h5 : a6 = a7) (h6 : a5 = a8) (h7 : 0 ≤ a4) (h8 : ((a9 ≠ a10 ∧ a4 = 0) ∨ (a9 = a10 ∧ a4 = 1))) (h9 : a7 = a11) (h10 : a8 = a12) (h11 : 1 ≤ a10) (h12 : a11 = a13) (h13 : (a9 ≠ 0 → a12 < a13)) (h14 : a13 ≤ 200) : a0 ≤ 203 := by omega
theorem oq_31a90a69 {a0 a1 a2 a3 a4 a5 a6 a7 a8 a9 a10 a11 a12 a13 a14 a15 : Int} (h0 : a0 = a1) (h1 : a2 = (a3 + 1)) (h2 : a1 = a4) (h3 : a3 = a5) (h4 : a4 = a6) (h5 : a5 = a7) (h6 : a6 = a8) (h7 : a7 = a9) (h8 : a8 = a10) (h9 : a9 = a11) (h10 : a10 = a12) (h11 : a11 = a13) (h12 : a12 = a14) (h13 : a13 = a15) (h14 : a14 ≤ a15) : a0 ≤ a2 := by omega
theorem oq_f37bb96e {a0 a1 a2 a3 a4 a5 a6 a7 a8 a9 a10 a11 a12 : Int} (h0 : (a0 = a1 ∨ a0 ≤ 202)) (h1 : a1 = a2) (h2 : a3 ≠ 0) (h3 : (a2 = a4 ∨ a2 ≤ a5)) (h4 : a5 = a6) (h5 : a4 = a7) (h6 : 0 ≤ a3) (h7 : ((a8 ≠ a9 ∧ a3 = 0) ∨ (a8 = a9 ∧ a3 = 1))) (h8 : a6 = a10) (h9 : a7 = a11) (h10 : 1 ≤ a9) (h11 : a10 = a12) (h12 : (a8 ≠ 0 → a11 < a12)) (h13 : a12 ≤ 200) : a0 ≤ 380 := by omega
theorem oq_a232ee13 {a0 a1 a2 a3 a4 a5 a6 a7 a8 : Int} (h0 : a0 = a1) (h1 : a1 = a2) (h2 : 0 ≤ a2) (h3 : a2 = a3) (h4 : a3 = a4) (h5 : a4 = a5) (h6 : a5 = a6) (h7 : a6 = a7) (h8 : a7 = a8) (h9 : a8 = 0) : a0 = 0 := by omega
theorem oq_ab675376 {a0 a1 a2 a3 a4 a5 a6 a7 a8 : Int} (h0 : a0 = a1) (h1 : a2 ≤ a1) (h2 : a3 ≤ a2) (h3 : a3 = a4) (h4 : a5 ≤ a4) (h5 : a5 = a6) (h6 : a6 = a7) (h7 : a8 ≤ a7) : a8 ≤ a0 := by omega
theorem oq_629d975c {a0 a1 a2 a3 a4 a5 a6 a7 a8 a9 a10 a11 a12 a13 a14 a15 a16 a17 : Int} (h0 : a0 = a1) (h1 : (a1 = a2 ∨ a1 ≤ a3)) (h2 : a3 = a4) (h3 : (a2 = a5 ∨ a2 ≤ 202)) (h4 : a4 = a6) (h5 : a5 = a7) (h6 : a8 ≠ 0) (h7 : a6 = a9) (h8 : (a7 = a10 ∨ a7 ≤ a9)) (h9 : a9 = a11) (h10 : a10 = a12) (h11 : 0 ≤ a8) (h12 : ((a13 ≠ a14 ∧ a8 = 0) ∨ (a13 = a14 ∧ a8 = 1))) (h13 : a11 = a15) (h14 : a12 = a16) (h15 : 1 ≤ a14) (h16 : a15 = a17) (h17 : (a13 ≠ 0 → a16 < a17)) (h18 : a17 ≤ 200) : a0 ≤ 203 := by omega
theorem oq_34976221 {a0 a1 a2 a3 a4 a5 a6 a7 a8 a9 a10 a11 a12 a13 a14 a15 a16 a17 : Int} (h0 : a0 = a1) (h1 : a2 = a3) (h2 : 0 ≤ a1) (h3 : (a1 = 0 → (a4 < a3 ∧ a3 ≤ a5))) (h4 : (a3 = a4 ∨ a3 ≤ a5)) (h5 : a5 = a6) (h6 : a7 ≤ a4) (h7 : a6 = a8) (h8 : a7 = a9) (h9 : a8 = a10) (h10 : a11 ≤ a9) (h11 : a10 = a12) (h12 : a11 = a13) (h13 : a12 = a14) (h14 : a13 = a15) (h15 : a14 = a16) (h16 : a17 ≤ a15) : (a0 = 0 → (a17 < a2 ∧ a2 ≤ a16)) := by omega
theorem oq_a4ea2c38 {a0 a1 a2 a3 a4 a5 a6 a7 a8 a9 a10 a11 a12 a13 a14 a15 a16 a17 : Int} (h0 : a0 = a1) (h1 : a2 = (a3 + 1)) (h2 : a1 = a4) (h3 : a3 = a5) (h4 : a4 = a6) (h5 : a5 = a7) (h6 : a6 = a8) (h7 : a7 = a9) (h8 : a8 = a10) (h9 : a9 = a11) (h10 : a10 = a12) (h11 : a11 = a13) (h12 : a12 = a14) (h13 : a13 = a15) (h14 : a14 = a16) (h15 : a15 = a17) (h16 : a16 ≤ a17) : a0 ≤ a2 := by omega
theorem oq_0f72f93b {a0 a1 a2 a3 : Int} (h0 : a0 = a1) (h1 : a1 = a2) (h2 : a2 = a3) (h3 : a3 = 0) (h4 : 0 ≤ a3) : a0 = 0 := by omega
theorem oq_6d2c2237 {a0 a1 a2 a3 a4 : Int} (h0 : a0 ≠ 0) (h1 : 0 ≤ a0) (h2 : a0 = a1) (h3 : a1 = a2) (h4 : a2 = a3) (h5 : a3 = 0) : a4 ≤ 203 := by omega
theorem oq_f7664523 {a0 a1 a2 a3 : Int} (h0 : a0 ≠ 0) (h1 : 0 ≤ a0) : (a0 = 0 → (a1 < a2 ∧ a2 ≤ a3)) := by omega
theorem oq_7f1a346e {a0 a1 a2 a3 a4 a5 a6 a7 : Int} (h0 : a0 = a1) (h1 : a2 = a3) (h2 : a1 = a4) (h3 : a3 = a5) (h4 : a4 = a6) (h5 : a5 = a7) (h6 : a6 ≤ a7) : a0 ≤ a2 := by omega
theorem oq_fe813e1a {a0 a1 : Int} (h0 : a0 = 0) (h1 : a0 ≠ 0) : a1 ≤ 390 := by omega
theorem oq_115b8e31 {a0 a1 : Int} (h0 : a0 = 0) (h1 : a0 ≠ 0) : a1 < 8 := by omega
theorem oq_519a4a1d {a0 a1 : Int} (h0 : a0 = 0) (h1 : a0 ≠ 0) : (a1 + 1) ≤ 8 := by omega
theorem oq_8bd23233 {a0 a1 a2 a3 a4 a5 a6 a7 a8 : Int} (h0 : a0 = a1) (h1 : a1 = a2) (h2 : a2 = a3) (h3 : a3 = a4) (h4 : a4 = a5) (h5 : a5 = a6) (h6 : a6 = a7) (h7 : a7 = 0) : (a0 = 7 → a8 ≠ 0) := by omega
theorem oq_f6078872 {a0 a1 a2 a3 a4 a5 a6 a7 a8 a9 : Int} (h0 : a0 = a1) (h1 : a2 ≤ a1) (h2 : a2 = a3) (h3 : a3 = a4) (h4 : a5 ≤ a4) (h5 : a5 = a6) (h6 : a6 = a7) (h7 : a7 = a8) (h8 : a9 ≤ a8) : a9 ≤ a0 := by omega
theorem oq_9a49b549 {a0 a1 a2 a3 a4 a5 a6 a7 a8 a9 a10 : Int} (h0 : a0 = a1) (h1 : a2 = (a3 + 1)) (h2 : a1 = a4) (h3 : a3 = a5) (h4 : a5 = a6) (h5 : a4 = (a7 + 1)) (h6 : a7 ≤ 8) (h7 : a6 = a8) (h8 : a8 = a9) (h9 : a9 = a10) (h10 : a10 = 8) : a0 ≤ a2 := by omega
theorem oq_7153c7f3 {a0 a1 a2 a3 a4 a5 a6 a7 a8 a9 a10 : Int} (h0 : a0 = a1) (h1 : a2 ≤ a1) (h2 : a3 ≤ a2) (h3 : a3 = a4) (h4 : a4 = a5) (h5 : a6 ≤ a5) (h6 : a6 = a7) (h7 : a7 = a8) (h8 : a8 = a9) (h9 : a10 ≤ a9) : a10 ≤ a0 := by omega
theorem oq_99f5ad6f {a0 a1 a2 a3 a4 a5 a6 a7 a8 a9 a10 a11 a12 : Int} (h0 : a0 = a1) (h1 : a2 = (a3 + 1)) (h2 : a1 = a4) (h3 : a3 = a5) (h4 : a4 = a6) (h5 : a5 = a7) (h6 : a7 = a8) (h7 : a6 = (a9 + 1)) (h8 : a9 ≤ 8) (h9 : a8 = a10) (h10 : a10 = a11) (h11 : a11 = a12) (h12 : a12 = 8) : a0 ≤ a2 := by omega
theorem oq_3d9f5183 {a0 a1 a2 a3 a4 a5 a6 a7 a8 : Int} (h0 : a0 = a1) (h1 : a2 ≤ a1) (h2 : a2 = a3) (h3 : a4 ≤ a3) (h4 : a4 = a5) (h5 : a5 = a6) (h6 : a6 = a7) (h7 : a8 ≤ a7) : a8 ≤ a0 := by omega
theorem oq_e1d63144 {a0 a1 a2 a3 a4 a5 a6 a7 a8 a9 a10 a11 a12 a13 a14 : Int} (h0 : a0 = a1) (h1 : a2 = (a3 + 1)) (h2 : a1 = a4) (h3 : a3 = a5) (h4 : a4 = a6) (h5 : a5 = a7) (h6 : a6 = a8) (h7 : a7 = a9) (h8 : a8 = a10) (h9 : a9 = a11) (h10 : a11 = 8) (h11 : a10 = a12) (h12 : a12 = a13) (h13 : a13 = a14) (h14 : a14 ≤ 8) : a0 ≤ a2 := by omega
theorem oq_fac99100 {a0 a1 a2 a3 a4 a5 a6 a7 a8 a9 : Int} (h0 : a0 = a1) (h1 : a2 ≤ a1) (h2 : a3 ≤ a2) (h3 : a3 = a4) (h4 : a5 ≤ a4) (h5 : a5 = a6) (h6 : a6 = a7) (h7 : a7 = a8) (h8 : a9 ≤ a8) : a9 ≤ a0 := by omega
theorem oq_27685c07 {a0 a1 a2 a3 a4 a5 a6 a7 a8 a9 a10 a11 a12 a13 a14 a15 a16 : Int} (h0 : a0 = a1) (h1 : a2 = (a3 + 1)) (h2 : a1 = a4) (h3 : a3 = a5) (h4 : a4 = a6) (h5 : a5 = a7) (h6 : a6 = a8) (h7 : a7 = a9) (h8 : a8 = a10) (h9 : a9 = a11) (h10 : a10 = a12) (h11 : a11 = a13) (h12 : a13 = 8) (h13 : a12 = a14) (h14 : a14 = a15) (h15 : a15 = a16) (h16 : a16 ≤ 8) : a0 ≤ a2 := by omega
theorem oq_d0299403 {a0 a1 a2 a3 a4 : Int} (h0 : a0 = a1) (h1 : a1 = a2) (h2 : a2 = a3) (h3 : a3 = a4) (h4 : a4 = 0) (h5 : 0 ≤ a4) : a0 = 0 := by omega
theorem oq_3b5dd946 {a0 a1 a2 a3 a4 : Int} (h0 : a0 = a1) (h1 : a2 ≤ a3) (h2 : a4 = a3) (h3 : a1 = a4) : a2 ≤ a0 := by omega
theorem oq_130b47e8 {a0 a1 a2 a3 a4 a5 a6 a7 : Int} (h0 : a0 = a1) (h1 : a2 ≠ 0) (h2 : a1 = a3) (h3 : 0 ≤ a2) (h4 : ((a4 ≠ a5 ∧ a2 = 0) ∨ (a4 = a5 ∧ a2 = 1))) (h5 : a3 = a6) (h6 : 1 ≤ a5) (h7 : (a4 ≠ 0 → a6 < a7)) (h8 : a7 ≤ 200) : a0 ≤ 203 := by omega
theorem oq_641a7aee {a0 a1 a2 a3 a4 a5 a6 : Int} (h0 : a0 = a1) (h1 : a2 = a3) (h2 : a3 = 8) (h3 : a1 = a4) (h4 : a4 = a5) (h5 : a5 = a6) (h6 : a6 ≤ 8) : a0 ≤ a2 := by omega
theorem oq_4059ac16 {a0 a1 a2 a3 a4 a5 a6 : Int} (h0 : a0 ≠ 0) (h1 : 0 ≤ a0) (h2 : ((a1 ≠ a2 ∧ a0 = 0) ∨ (a1 = a2 ∧ a0 = 1))) (h3 : a3 = a4) (h4 : 1 ≤ a2) (h5 : a4 = a5) (h6 : (a1 ≠ 0 → a5 < a6)) (h7 : a6 ≤ 200) : a3 ≤ 390 := by omega
theorem oq_a1d11eb1 {a0 a1 a2 a3 a4 a5 a6 a7 a8 a9 a10 : Int} (h0 : (a0 = a1 ∨ a0 ≤ a2)) (h1 : a3 ≠ 0) (h2 : 0 ≤ a3) (h3 : ((a4 ≠ a5 ∧ a3 = 0) ∨ (a4 = a5 ∧ a3 = 1))) (h4 : a2 = a6) (h5 : a1 = a7) (h6 : 1 ≤ a5) (h7 : a6 = a8) (h8 : a7 = a9) (h9 : a8 = a10) (h10 : (a4 ≠ 0 → a9 < a10)) (h11 : a10 ≤ 200) : a0 ≤ 200 := by omega
theorem oq_cd23130a {a0 a1 a2 a3 a4 a5 a6 a7 a8 a9 a10 a11 a12 : Int} (h0 : a0 = a1) (h1 : a1 = a2) (h2 : (a2 = a3 ∨ a2 ≤ a4)) (h3 : a5 ≠ 0) (h4 : 0 ≤ a5) (h5 : ((a6 ≠ a7 ∧ a5 = 0) ∨ (a6 = a7 ∧ a5 = 1))) (h6 : a4 = a8) (h7 : a3 = a9) (h8 : 1 ≤ a7) (h9 : a8 = a10) (h10 : a9 = a11) (h11 : a10 = a12) (h12 : (a6 ≠ 0 → a11 < a12)) (h13 : a12 ≤ 200) : a0 ≤ 203 := by omega
theorem oq_aeed1cd5 {a0 a1 a2 a3 a4 a5 a6 a7 a8 a9 a10 a11 a12 a13 : Int} (h0 : a0 = a1) (h1 : a1 = a2) (h2 : (a2 = a3 ∨ a2 ≤ a4)) (h3 : a5 ≠ 0) (h4 : 0 ≤ a5) (h5 : ((a6 ≠ a7 ∧ a5 = 0) ∨ (a6 = a7 ∧ a5 = 1))) (h6 : a4 = a8) (h7 : a3 = a9) (h8 : 1 ≤ a7) (h9 : a8 = a10) (h10 : a9 = a11) (h11 : a10 = a12) (h12 : (a6 ≠ 0 → a11 < a12)) (h13 : a12 ≤ 200) : (a13 = 0 → a0 ≤ 202) := by omega
theorem oq_3db77ff9 {a0 a1 a2 a3 a4 a5 a6 a7 a8 : Int} (h0 : a0 = a1) (h1 : 0 ≤ a1) (h2 : a1 = a2) (h3 : a2 = a3) (h4 : a3 = a4) (h5 : a4 = a5) (h6 : a5 = a6) (h7 : a6 = a7) (h8 : a7 = a8) (h9 : a8 = 0) : a0 = 0 := by omega
theorem oq_93b88a81 {a0 a1 a2 a3 a4 a5 a6 a7 a8 a9 a10 a11 a12 a13 a14 : Int} (h0 : a0 = a1) (h1 : (a1 = a2 ∨ a1 ≤ 203)) (h2 : a2 = a3) (h3 : a3 = a4) (h4 : (a4 = a5 ∨ a4 ≤ a6)) (h5 : a7 ≠ 0) (h6 : 0 ≤ a7) (h7 : ((a8 ≠ a9 ∧ a7 = 0) ∨ (a8 = a9 ∧ a7 = 1))) (h8 : a6 = a10) (h9 : a5 = a11) (h10 : 1 ≤ a9) (h11 : a10 = a12) (h12 : a11 = a13) (h13 : a12 = a14) (h14 : (a8 ≠ 0 → a13 < a14)) (h15 : a14 ≤ 200) : a0 ≤ 203 := by omega
theorem oq_12dc81b8 {a0 a1 a2 a3 a4 a5 a6 a7 a8 a9 a10 a11 a12 a13 : Int} (h0 : (a0 = a1 ∨ a0 ≤ 203)) (h1 : a1 = a2) (h2 : a2 = a3) (h3 : (a3 = a4 ∨ a3 ≤ a5)) (h4 : a6 ≠ 0) (h5 : 0 ≤ a6) (h6 : ((a7 ≠ a8 ∧ a6 = 0) ∨ (a7 = a8 ∧ a6 = 1))) (h7 : a5 = a9) (h8 : a4 = a10) (h9 : 1 ≤ a8) (h10 : a9 = a11) (h11 : a10 = a12) (h12 : a11 = a13) (h13 : (a7 ≠ 0 → a12 < a13)) (h14 : a13 ≤ 200) : a0 ≤ 380 := by omega
theorem oq_f0f4d0db {a0 a1 a2 a3 a4 a5 a6 a7 a8 a9 : Int} (h0 : a0 = a1) (h1 : a1 = a2) (h2 : 0 ≤ a2) (h3 : a2 = a3) (h4 : a3 = a4) (h5 : a4 = a5) (h6 : a5 = a6) (h7 : a6 = a7) (h8 : a7 = a8) (h9 : a8 = a9) (h10 : a9 = 0) : a0 = 0 := by omega
theorem oq_03beb927 {a0 a1 a2 a3 a4 a5 a6 a7 a8 a9 a10 a11 a12 a13 a14 a15 a16 a17 a18 a19 : Int} (h0 : a0 = a1) (h1 : (a1 = a2 ∨ a1 ≤ a3)) (h2 : a3 = a4) (h3 : (a2 = a5 ∨ a2 ≤ 203)) (h4 : a4 = a6) (h5 : a5 = a7) (h6 : a6 = a8) (h7 : a7 = a9) (h8 : a8 = a10) (h9 : (a9 = a11 ∨ a9 ≤ a10)) (h10 : a12 ≠ 0) (h11 : 0 ≤ a12) (h12 : ((a13 ≠ a14 ∧ a12 = 0) ∨ (a13 = a14 ∧ a12 = 1))) (h13 : a10 = a15) (h14 : a11 = a16) (h15 : 1 ≤ a14) (h16 : a15 = a17) (h17 : a16 = a18) (h18 : a17 = a19) (h19 : (a13 ≠ 0 → a18 < a19)) (h20 : a19 ≤ 200) : a0 ≤ 203 := by omega
theorem oq_9edaf74e {a0 a1 a2 a3 a4 a5 a6 a7 a8 a9 a10 a11 a12 a13 a14 a15 a16 a17 a18 a19 : Int} (h0 : a0 = a1) (h1 : a2 = a3) (h2 : 0 ≤ a1) (h3 : (a1 = 0 → (a4 < a3 ∧ a3 ≤ a5))) (h4 : (a3 = a4 ∨ a3 ≤ a5)) (h5 : a5 = a6) (h6 : a7 ≤ a4) (h7 : a6 = a8) (h8 : a7 = a9) (h9 : a8 = a10) (h10 : a9 = a11) (h11 : a10 = a12) (h12 : a13 ≤ a11) (h13 : a12 = a14) (h14 : a13 = a15) (h15 : a14 = a16) (h16 : a15 = a17) (h17 : a16 = a18) (h18 : a19 ≤ a17) : (a0 = 0 → (a19 < a2 ∧ a2 ≤ a18)) := by omega
theorem oq_56becbdc {a0 a1 : Int} (h0 : a0 ≠ 0) (h1 : a0 = 0) : a1 ≤ 200 := by omega
theorem oq_3fd14443 {a0 a1 : Int} (h0 : a0 ≠ 0) (h1 : a0 = 0) : a1 ≤ 203 := by omega
theorem oq_222d1dad {a0 a1 : Int} (h0 : a0 ≠ 0) (h1 : a0 = 0) : (a1 + ((7 : Nat) : Int)) = 7 := by omega
theorem oq_d8928268 {a0 a1 : Int} (h0 : a0 ≠ 0) (h1 : a0 = 0) : (a1 + 1) ≤ 8 := by omega
theorem oq_fe04bf4e {a0 a1 : Int} (h0 : a0 ≠ 0) (h1 : a0 = 0) : a1 = 0 := by omega
theorem oq_1594de10 {a0 a1 : Int} (h0 : a0 ≠ 0) (h1 : a0 = 0) : a1 ≤ 380 := by omega
theorem oq_3e825001 {a0 a1 a2 a3 a4 : Int} (h0 : a0 ≠ 0) (h1 : a0 = 0) : (a1 = 0 → (a2 < a3 ∧ a3 ≤ a4)) := by omega
theorem oq_1acd77f7 {a0 a1 a2 a3 a4 a5 a6 a7 : Int} (h0 : a0 = a1) (h1 : a2 ≠ 0) (h2 : 0 ≤ a2) (h3 : ((a3 ≠ a4 ∧ a2 = 0) ∨ (a3 = a4 ∧ a2 = 1))) (h4 : a1 = a5) (h5 : 1 ≤ a4) (h6 : a5 = a6) (h7 : (a3 ≠ 0 → a6 < a7)) (h8 : a7 ≤ 200) : a0 ≤ 203 := by omega
theorem oq_4297ca08 {a0 a1 a2 a3 a4 a5 a6 a7 a8 a9 a10 a11 a12 a13 a14 a15 a16 a17 a18 a19 : Int} (h0 : a0 = a1) (h1 : a2 = (a3 + 1)) (h2 : a1 = a4) (h3 : a3 = a5) (h4 : a5 = a6) (h5 : a4 = (a7 + 1)) (h6 : a7 = a8) (h7 : a6 = a9) (h8 : a8 = a10) (h9 : a9 = a11) (h10 : a10 = a12) (h11 : a11 = a13) (h12 : a12 = a14) (h13 : a13 = a15) (h14 : a14 = a16) (h15 : a15 = a17) (h16 : a16 = a18) (h17 : a17 = a19) (h18 : a18 ≤ a19) : a0 ≤ a2 := by omega
theorem oq_ba81b00c {a0 a1 a2 a3 a4 a5 a6 a7 a8 a9 a10 a11 a12 a13 a14 a15 a16 a17 a18 a19 a20 a21 : Int} (h0 : a0 = a1) (h1 : a2 = (a3 + 1)) (h2 : a1 = a4) (h3 : a3 = a5) (h4 : a4 = a6) (h5 : a5 = a7) (h6 : a7 = a8) (h7 : a6 = (a9 + 1)) (h8 : a9 = a10) (h9 : a8 = a11) (h10 : a10 = a12) (h11 : a11 = a13) (h12 : a12 = a14) (h13 : a13 = a15) (h14 : a14 = a16) (h15 : a15 = a17) (h16 : a16 = a18) (h17 : a17 = a19) (h18 : a18 = a20) (h19 : a19 = a21) (h20 : a20 ≤ a21) : a0 ≤ a2 := by omega
theorem oq_ed925733 {a0 a1 a2 a3 a4 a5 a6 a7 a8 a9 a10 a11 a12 a13 a14 a15 a16 a17 a18 a19 : Int} (h0 : a0 = a1) (h1 : a2 = (a3 + 1)) (h2 : a1 = a4) (h3 : a3 = a5) (h4 : a4 = a6) (h5 : a5 = a7) (h6 : a6 = a8) (h7 : a7 = a9) (h8 : a8 = a10) (h9 : a9 = a11) (h10 : a10 = a12) (h11 : a11 = a13) (h12 : a12 = a14) (h13 : a13 = a15) (h14 : a14 = a16) (h15 : a15 = a17) (h16 : a16 = a18) (h17 : a17 = a19) (h18 : a18 ≤ a19) : a0 ≤ a2 := by omega
theorem oq_03163c14 {a0 a1 a2 a3 a4 a5 : Int} (h0 : a0 = a1) (h1 : a1 = a2) (h2 : a2 = a3) (h3 : (a3 = a4 ∨ a3 ≤ a5)) (h4 : a5 ≤ 200) (h5 : a4 ≤ a5) : a0 ≤ 203 := by omega
theorem oq_969cff60 {a0 a1 a2 a3 a4 a5 a6 a7 a8 a9 : Int} (h0 : a0 = a1) (h1 : a2 = a3) (h2 : a1 = a4) (h3 : a3 = a5) (h4 : a4 = a6) (h5 : a5 = a7) (h6 : a6 = a8) (h7 : a7 = a9) (h8 : a8 ≤ a9) : a0 ≤ a2 := by omega
theorem oq_7fe879e0 {a0 a1 a2 : Int} (h0 : a0 = a1) (h1 : a1 = a2) (h2 : a2 = 0) (h3 : 0 ≤ a2) : a0 = 0 := by omega
theorem oq_333640b7 {a0 a1 : Int} (h0 : a0 = a1) (h1 : a1 = 0) (h2 : 0 ≤ a1) : a0 = 0 := by omega
theorem oq_208ad85f {a0 a1 a2 a3 : Int} (h0 : (a0 = a1 ∨ a0 ≤ a2)) (h1 : a2 = a3) (h2 : a1 ≤ 203) (h3 : a3 ≤ 200) : a0 ≤ 203 := by omega
theorem oq_722b4cb2 {a0 a1 a2 a3 a4 a5 a6 a7 : Int} (h0 : a0 = a1) (h1 : a2 = a3) (h2 : (a4 = a5 ∨ a4 ≤ a3)) (h3 : 0 ≤ a1) (h4 : a3 = a6) (h5 : (a1 = 0 → (a7 < a5 ∧ a5 ≤ a6))) : (a0 = 0 → a4 ≤ a2) := by omega
theorem oq_e7b9ecab {a0 a1 a2 a3 : Int} (h0 : a0 = a1) (h1 : a2 = a3) (h2 : a3 ≤ a1) : a2 ≤ a0 := by omega
theorem oq_5b7b6df3 {a0 a1 a2 a3 a4 a5 a6 : Int} (h0 : a0 = a1) (h1 : a2 ≤ a3) (h2 : 0 ≤ a1) (h3 : (a1 = 0 → (a4 < a2 ∧ a2 ≤ a5))) (h4 : a4 ≤ a2) (h5 : a6 = 0) : ((400 - a3) + (9 - a0)) < ((400 - a4) + (9 - a6)) := by omega
theorem oq_faaf1092 {a0 a1 : Int} (h0 : a0 = 0) (h1 : a1 ≤ 400) : 0 < ((400 - a1) + (9 - a0)) := by omega
theorem oq_b3df2c6f {a0 a1 : Int} (h0 : a0 = a1) (h1 : 0 ≤ a1) : (-2147483648) ≤ a0 := by omega
theorem oq_aa587420 {a0 a1 a2 a3 : Int} (h0 : a0 < a1) (h1 : a1 = a2) (h2 : a2 ≤ a3) (h3 : a3 ≤ 200) : a0 < 200 := by omega
theorem oq_379144f0 {a0 a1 a2 a3 : Int} (h0 : a0 < a1) (h1 : a1 = a2) (h2 : a2 ≤ a3) (h3 : a3 ≤ 200) : (a0 : Int).toNat < 200 := by omega
theorem oq_ab052403 {a0 a1 a2 a3 : Int} (h0 : a0 < a1) (h1 : a1 = a2) (h2 : a2 ≤ a3) (h3 : a3 ≤ 200) : (a0 + 1) ≤ 200 := by omega
theorem oq_b1fe1193 {a0 a1 : Int} (h0 : a0 = a1) (h1 : a1 ≤ 200) : a0 ≤ 200 := by omega
theorem oq_6d25f473 {a0 a1 a2 a3 : Int} (h0 : a0 < a1) (h1 : a1 = a2) (h2 : a2 ≤ a3) (h3 : a3 ≤ 200) : 0 < (200 - a0) := by omega
theorem oq_802cfd8b {a0 a1 a2 a3 a4 : Int} (h0 : a0 = 0) (h1 : (a1 = 1 → a0 = 1)) (h2 : a1 ≤ 1) (h3 : ((a2 ≠ 0 ∧ a1 = 0) ∨ (a2 = 0 ∧ a1 = 1))) (h4 : ((a2 = 1 ∧ (0 ≤ a3 ∧ a3 ≤ a4)) ∨ (a2 = 0 ∧ (a3 < 0 ∨ a4 < a3)))) : 0 ≤ a3 := by omega
theorem oq_1dd7f250 {a0 a1 a2 a3 a4 : Int} (h0 : a0 = 0) (h1 : (a1 = 1 → a0 = 1)) (h2 : a1 ≤ 1) (h3 : ((a2 ≠ 0 ∧ a1 = 0) ∨ (a2 = 0 ∧ a1 = 1))) (h4 : ((a2 = 1 ∧ (0 ≤ a3 ∧ a3 ≤ a4)) ∨ (a2 = 0 ∧ (a3 < 0 ∨ a4 < a3)))) (h5 : a4 ≤ 200) : a3 ≤ 200 := by omega
theorem oq_1cee15ac {a0 a1 a2 a3 : Int} (h0 : a0 = a1) (h1 : a1 = a2) (h2 : a2 = a3) (h3 : a3 = 0) : a0 ≤ 390 := by omega
theorem oq_891312a5 {a0 a1 a2 a3 a4 a5 : Int} (h0 : a0 = 0) (h1 : (a1 = 1 → a0 = 1)) (h2 : a1 ≤ 1) (h3 : ((a2 ≠ 0 ∧ a1 = 0) ∨ (a2 = 0 ∧ a1 = 1))) (h4 : ((a2 = 1 ∧ (0 ≤ a3 ∧ a3 ≤ a4)) ∨ (a2 = 0 ∧ (a3 < 0 ∨ a4 < a3)))) (h5 : a4 = a5) : (0 ≤ a3 ∧ a3 ≤ a5) := by omega
theorem oq_d9a35dd1 {a0 a1 a2 a3 a4 a5 : Int} (h0 : a0 = a1) (h1 : a1 = a2) (h2 : a2 = a3) (h3 : a3 = a4) (h4 : a4 = a5) (h5 : a5 = 0) : a0 = 0 := by omega
theorem oq_d2a9c83d {a0 a1 a2 a3 a4 a5 a6 a7 a8 : Int} (h0 : (a0 = a1 ∨ a0 ≤ a2)) (h1 : a2 = a3) (h2 : a1 = a4) (h3 : a3 = a5) (h4 : a4 = a6) (h5 : a5 = a7) (h6 : a6 = a8) (h7 : a7 ≤ 200) (h8 : a8 = 0) : a0 ≤ 203 := by omega
theorem oq_0fb212fc {a0 a1 a2 a3 a4 a5 a6 a7 a8 a9 a10 : Int} (h0 : a0 = a1) (h1 : (a2 = a3 ∨ a2 ≤ a1)) (h2 : a1 = a4) (h3 : a3 = a5) (h4 : a4 = a6) (h5 : a5 = a7) (h6 : a6 = a8) (h7 : a7 = a9) (h8 : 0 ≤ a8) (h9 : a9 = 0) : (a10 = 0 → a2 ≤ a0) := by omega
theorem oq_606f3a06 {a0 a1 a2 a3 a4 a5 a6 : Int} (h0 : a0 = a1) (h1 : a2 = a3) (h2 : a1 = a4) (h3 : a3 = a5) (h4 : a5 = a6) (h5 : a4 = 0) (h6 : a6 = 0) : a0 ≤ a2 := by omega
theorem oq_9a94ea72 {a0 a1 : Int} (h0 : a0 ≤ a1) (h1 : a1 ≤ 200) : a0 ≤ 200 := by omega
theorem oq_d3c9ade5 {a0 : Int} (h0 : 0 ≤ a0) : (-2147483648) ≤ (a0 - 10) := by omega
theorem oq_71609f9f {a0 : Int} (h0 : a0 ≤ 9) : (a0 - 10) ≤ 2147483647 := by omega
theorem oq_9bde5726 {a0 a1 a2 a3 a4 a5 a6 a7 a8 a9 a10 : Int} (h0 : a0 ≠ 0) (h1 : a1 = a2) (h2 : 0 ≤ a3) (h3 : (a4 = 0 → a3 = a5)) (h4 : ((a0 = 0 ∧ a3 = 0) ∨ (a0 = 1 ∧ a3 ≠ 0))) (h5 : 0 ≤ a4) (h6 : ((a6 ≠ 0 ∧ a4 = 0) ∨ (a6 = 0 ∧ a4 = 1))) (h7 : a2 = a7) (h8 : a5 = a8) (h9 : ((a6 = 1 ∧ (0 ≤ a9 ∧ a9 ≤ a7)) ∨ (a6 = 0 ∧ (a9 < 0 ∨ a7 < a9)))) (h10 : a7 = a10) (h11 : a8 = 0) : ((0 ≤ a9 ∧ (a9 ≤ a10 ∧ a1 = 0)) ∨ ((a9 < 0 ∨ a10 < a9) ∧ a1 = a10)) := by omega
/-! The model: rules -/
section M54
variable {l : Launch} {s0 : State} {D : va_G} {tys : List (ClassId × FieldType)} {a0 : Array Value} {A : Nat → Nat} {dT : Nat → ClassId} {s : PS}
theorem k_clause (G : GX l s0 D tys a0 dT) (I : Bd s) (p0 : iI s 79 = 0) (p1 : iI s 78 = 0) (p2 : iI s 77 ≤ iI s 75) (p3 : iI s 87 ≤ iI s 86) : CT l s0 D A dT 213 (rmN 213) [.ref (A 179)] s (fun o t => Bd t ∧ Fm [77, 79, 80, 78, 86, 87, 88] [160] s t ∧ o = .inl none ∧ (iI t 78 = 0 ∧ iI s 77 ≤ iI t 77 ∧ iI t 77 ≤ 203 ∧ (iI t 79 = 0 → iI s 77 < iI t 77 ∧ iI t 77 ≤ iI s 75) ∧ iI t 87 ≤ iI t 86)) := by
  refine ct_of G (by decide) (Nat.le_of_ble_eq_true rfl) (fun k X E hRt hXt q => ?_)
  show WS k 0 [(0, .ref (A 179))] [] _ 0 0
  have F : Fm [77, 79, 80, 78, 86, 87, 88] [160] s s := fm_rf _ _ s
  have b1 := bi_77 I
  have b2 := bi_75 I
  have b3 := bi_79 I
  have b4 := bi_78 I
  have b5 := bi_86 I
  have b6 := bi_87 I
  have b7 := bi_88 I
  refine z_aload_n X (x := A 179) rfl (List.Mem.head _) (zcV_i0 X E 179 (As := []) (st := []) rfl rfl rfl rfl (k_wordHere G I (by first | exact oq_8bddf595 p2 b2.2 | omega)) rfl (Nat.le_of_ble_eq_true rfl) (fun s8 e9 Is8 Fs8 hrs8 hps8 => ?_))
  have hps8p := hps8.1
  have Gs8 := fm_tq F Fs8 rfl rfl
  have b10 := bi_77 Is8
  have ws8_75 : iI s8 75 = iI s 75 := fm_iq Fs8 rfl
  have ws8_79 : iI s8 79 = iI s 79 := fm_iq Fs8 rfl
  have ws8_78 : iI s8 78 = iI s 78 := fm_iq Fs8 rfl
  have ws8_86 : iI s8 86 = iI s 86 := fm_iq Fs8 rfl
  have ws8_87 : iI s8 87 = iI s 87 := fm_iq Fs8 rfl
  have ws8_88 : iI s8 88 = iI s 88 := fm_iq Fs8 rfl
  refine z_store_n X (lv' := [(1, .int (Int32.ofInt e9)), (0, .ref (A 179))]) rfl (by decide) (fun _ h => h) (z_load_n X (x := e9) rfl (List.Mem.head _) (z_bipush X rfl (z_bipush X rfl (z_const X rfl (z_const X rfl (z_const X rfl (z_const X rfl (zcS_i0 X E (As := [.int (Int32.ofInt 12), .int (Int32.ofInt 15), .int (Int32.ofInt 1), .int (Int32.ofInt 4), .int (Int32.ofInt 0), .int (Int32.ofInt 0)]) (st := [.int (Int32.ofInt e9)]) rfl rfl (k_word G Is8 (by first | exact ⟨by decide, by decide⟩ | omega) (by first | exact ⟨by decide, by decide⟩ | omega) (by first | exact ⟨by decide, by decide⟩ | omega) (by first | exact ⟨by decide, by decide⟩ | omega) (by first | exact ⟨by decide, by decide⟩ | omega) (by first | exact ⟨by decide, by decide⟩ | omega)) rfl (Nat.le_of_ble_eq_true rfl) (fun s11 e12 Is11 Fs11 hrs11 hps11 => ?_)))))))))
  have Gs11 := fm_tq Gs8 Fs11 rfl rfl
  have ws11_77 : iI s11 77 = iI s8 77 := fm_iq Fs11 rfl
  have ws11_75 : iI s11 75 = iI s8 75 := fm_iq Fs11 rfl
  have ws11_79 : iI s11 79 = iI s8 79 := fm_iq Fs11 rfl
  have ws11_78 : iI s11 78 = iI s8 78 := fm_iq Fs11 rfl
  have ws11_86 : iI s11 86 = iI s8 86 := fm_iq Fs11 rfl
  have ws11_87 : iI s11 87 = iI s8 87 := fm_iq Fs11 rfl
  have ws11_88 : iI s11 88 = iI s8 88 := fm_iq Fs11 rfl
  have N13 : ∀ e14 : Int, (((e9 ≠ e12) ∧ e14 = 0) ∨ ((e9 = e12) ∧ e14 = 1)) → WS k 25 [(1, .int (Int32.ofInt e9)), (0, .ref (A 179))] [.int (Int32.ofInt e14)] (Wd A dT s11) 0 0 := by
    intro e14 he14
    have re14 : 0 ≤ e14 ∧ e14 ≤ 1 := by first | (clear he14 hps8; omega) | (clear hps8; omega) | omega
    refine z_store_n X (lv' := [(2, .int (Int32.ofInt e14)), (1, .int (Int32.ofInt e9)), (0, .ref (A 179))]) rfl (by decide) (fun _ h => h) (z_load_n X (x := e9) rfl (List.Mem.tail _ (List.Mem.head _)) (z_bipush X rfl (z_bipush X rfl (z_bipush X rfl (z_bipush X rfl (z_const X rfl (z_const X rfl (zcS_i0 X E (As := [.int (Int32.ofInt 10), .int (Int32.ofInt 15), .int (Int32.ofInt 9), .int (Int32.ofInt 14), .int (Int32.ofInt 0), .int (Int32.ofInt 0)]) (st := [.int (Int32.ofInt e9)]) rfl rfl (k_word G Is11 (by first | exact ⟨by decide, by decide⟩ | omega) (by first | exact ⟨by decide, by decide⟩ | omega) (by first | exact ⟨by decide, by decide⟩ | omega) (by first | exact ⟨by decide, by decide⟩ | omega) (by first | exact ⟨by decide, by decide⟩ | omega) (by first | exact ⟨by decide, by decide⟩ | omega)) rfl (Nat.le_of_ble_eq_true rfl) (fun s15 e16 Is15 Fs15 hrs15 hps15 => ?_)))))))))
    have Gs15 := fm_tq Gs11 Fs15 rfl rfl
    have ws15_77 : iI s15 77 = iI s11 77 := fm_iq Fs15 rfl
    have ws15_75 : iI s15 75 = iI s11 75 := fm_iq Fs15 rfl
    have ws15_79 : iI s15 79 = iI s11 79 := fm_iq Fs15 rfl
    have ws15_78 : iI s15 78 = iI s11 78 := fm_iq Fs15 rfl
    have ws15_86 : iI s15 86 = iI s11 86 := fm_iq Fs15 rfl
    have ws15_87 : iI s15 87 = iI s11 87 := fm_iq Fs15 rfl
    have ws15_88 : iI s15 88 = iI s11 88 := fm_iq Fs15 rfl
    have N17 : ∀ e18 : Int, (((e9 ≠ e16) ∧ e18 = 0) ∨ ((e9 = e16) ∧ e18 = 1)) → WS k 48 [(2, .int (Int32.ofInt e14)), (1, .int (Int32.ofInt e9)), (0, .ref (A 179))] [.int (Int32.ofInt e18)] (Wd A dT s15) 0 0 := by
      intro e18 he18
      have re18 : 0 ≤ e18 ∧ e18 ≤ 1 := by first | (clear he18 he14 hps8; omega) | (clear he14 hps8; omega) | omega
      refine z_store_n X (lv' := [(3, .int (Int32.ofInt e18)), (2, .int (Int32.ofInt e14)), (1, .int (Int32.ofInt e9)), (0, .ref (A 179))]) rfl (by decide) (fun _ h => h) (z_load_n X (x := e14) rfl (List.Mem.tail _ (List.Mem.head _)) (z_if_ne X (t := 69) rfl rfl ⟨by first | exact oq_fa4e5087 re14.1 | omega, by first | exact oq_22e1e6b0 re14.2 | omega⟩ (fun g19 => ?_) (fun g19 => ?_)))
      ·
        refine z_aload_n X (x := A 179) rfl (List.Mem.tail _ (List.Mem.tail _ (List.Mem.tail _ (List.Mem.head _)))) (z_getI X 179 rfl (c518_ok rfl) rfl rfl ?_)
        have b20 := bi_86 Is15
        refine z_bipush X rfl (z_icmp_ne X (t := 87) rfl rfl (rng_to _) (by decide) (fun g21 => ?_) (fun g21 => ?_))
        ·
          refine z_aload_n X (x := A 179) rfl (List.Mem.tail _ (List.Mem.tail _ (List.Mem.tail _ (List.Mem.head _)))) (z_getI X 179 rfl (c518_ok rfl) rfl rfl ?_)
          have b22 := bi_79 Is15
          refine z_if_eq X (t := 95) rfl rfl (rng_to _) (fun g23 => ?_) (fun g23 => ?_)
          ·
            refine z_aload_n X (x := A 179) rfl (List.Mem.tail _ (List.Mem.tail _ (List.Mem.tail _ (List.Mem.head _)))) (zcV_v0 X E 179 (As := []) (st := []) rfl rfl rfl rfl (k_skipWord G Is15 (by first | exact oq_0b450759 g19 ws15_77 re14.1 he14 ws11_77 hps11 hps8.2.2 b2.2 | omega)) rfl (Nat.le_of_ble_eq_true rfl) (fun s24 Is24 Fs24 hps24 => ?_))
            have hps24p := hps24.1
            have Gs24 := fm_tq Gs15 Fs24 rfl rfl
            have b26 := bi_77 Is24
            have ws24_75 : iI s24 75 = iI s15 75 := fm_iq Fs24 rfl
            have ws24_79 : iI s24 79 = iI s15 79 := fm_iq Fs24 rfl
            have ws24_78 : iI s24 78 = iI s15 78 := fm_iq Fs24 rfl
            have ws24_86 : iI s24 86 = iI s15 86 := fm_iq Fs24 rfl
            have ws24_87 : iI s24 87 = iI s15 87 := fm_iq Fs24 rfl
            have ws24_88 : iI s24 88 = iI s15 88 := fm_iq Fs24 rfl
            refine z_load_n X (x := e14) rfl (List.Mem.tail _ (List.Mem.head _)) (z_if_eq X (t := 119) rfl rfl ⟨by first | exact oq_fa4e5087 re14.1 | omega, by first | exact oq_22e1e6b0 re14.2 | omega⟩ (fun g27 => ?_) (fun g27 => ?_))
            ·
              refine z_aload_n X (x := A 179) rfl (List.Mem.tail _ (List.Mem.tail _ (List.Mem.tail _ (List.Mem.head _)))) (s_getR X 179 rfl (c518_ok rfl) rfl rfl (z_aload_n X (x := A 179) rfl (List.Mem.tail _ (List.Mem.tail _ (List.Mem.tail _ (List.Mem.head _)))) (z_getI X 179 rfl (c518_ok rfl) rfl rfl ?_)))
              have b28 := bi_87 Is24
              refine z_aload_n X (x := A 179) rfl (List.Mem.tail _ (List.Mem.tail _ (List.Mem.tail _ (List.Mem.head _)))) (z_getI X 179 rfl (c518_ok rfl) rfl rfl ?_)
              have b29 := bi_77 Is24
              refine z_ast X 183 rfl (c518_ok rfl) rfl (by first | exact b28.1 | omega) (show (iI s24 87) < 8 by first | exact oq_bcb93356 ws24_87 g21 b20.2 ws15_87 ws15_86 ws11_87 ws11_86 ws8_87 ws8_86 p3 | omega) (cbig_ok rfl) (wd_gen (fun s30 hs30 => ?_))
              have Is30 : Bd s30 := eqB hs30 (bd_C Is24 (show (0 : Int) ≤ (iI s24 77) ∧ (iI s24 77) ≤ 200 by first | exact ⟨b29.1, oq_ca61092c g27 g19⟩ | omega) (rng_to _))
              have Fs30 := eqF hs30 (fm_C Gs24 (inl_ok (a := 160) rfl))
              have ws30_77 : iI s30 77 = iI s24 77 := eqI hs30 rfl
              have ws30_75 : iI s30 75 = iI s24 75 := eqI hs30 rfl
              have ws30_79 : iI s30 79 = iI s24 79 := eqI hs30 rfl
              have ws30_78 : iI s30 78 = iI s24 78 := eqI hs30 rfl
              have ws30_86 : iI s30 86 = iI s24 86 := eqI hs30 rfl
              have ws30_87 : iI s30 87 = iI s24 87 := eqI hs30 rfl
              have ws30_88 : iI s30 88 = iI s24 88 := eqI hs30 rfl
              refine z_aload_n X (x := A 179) rfl (List.Mem.tail _ (List.Mem.tail _ (List.Mem.tail _ (List.Mem.head _)))) (w_dup X.1 (ax_d X (show cdA 213 133 = some (.dup, 1, 0, 0, 0) from rfl)) rfl (z_getI X 179 rfl (c518_ok rfl) rfl rfl ?_))
              have b31 := bi_87 Is30
              refine z_const X rfl (z_add X rfl (s_putI X 179 rfl (c518_ok rfl) rfl rfl (by decide) rfl rfl rfl (wd_gen (fun s32 hs32 => ?_))))
              have Is32 : Bd s32 := eqB hs32 (bd_I Is30 (show (0 : Int) ≤ ((iI s30 87) + 1) ∧ ((iI s30 87) + 1) ≤ 8 by first | exact ⟨oq_54f49eb5 b31.1, oq_b692c601 ws30_87 ws24_87 g21 b20.2 ws15_87 ws15_86 ws11_87 ws11_86 ws8_87 ws8_86 p3⟩ | omega) ⟨by first | exact oq_74de1e16 b31.1 | omega, by first | exact oq_3762dfb5 b31.2 | omega⟩)
              have Fs32 := eqF hs32 (fm_I Fs30 (inl_ok (a := 87) rfl))
              have vs32 : iI s32 87 = ((iI s30 87) + 1) := eqI hs32 (iI_u ⟨by first | exact oq_74de1e16 b31.1 | omega, by first | exact oq_3762dfb5 b31.2 | omega⟩)
              have ws32_77 : iI s32 77 = iI s30 77 := eqI hs32 rfl
              have ws32_75 : iI s32 75 = iI s30 75 := eqI hs32 rfl
              have ws32_79 : iI s32 79 = iI s30 79 := eqI hs32 rfl
              have ws32_78 : iI s32 78 = iI s30 78 := eqI hs32 rfl
              have ws32_86 : iI s32 86 = iI s30 86 := eqI hs32 rfl
              have ws32_88 : iI s32 88 = iI s30 88 := eqI hs32 rfl
              refine z_aload_n X (x := A 179) rfl (List.Mem.tail _ (List.Mem.tail _ (List.Mem.tail _ (List.Mem.head _)))) (zcV_i0 X E 179 (As := []) (st := []) rfl rfl rfl rfl (k_ors G Is32 (by first | exact oq_4322fef3 g27 g19 | omega) (by first | exact oq_02f5ae4d g27 g19 | omega) (by first | exact oq_5e64b0f9 ws32_78 ws30_78 ws24_78 ws15_78 ws11_78 ws8_78 p1 | omega) (by first | exact oq_05144e14 g27 g19 | omega)) rfl (Nat.le_of_ble_eq_true rfl) (fun s33 e34 Is33 Fs33 hrs33 hps33 => ?_))
              have hps33p := And.intro hps33.1 (hps33.2.1)
              have Gs33 := fm_tq Fs32 Fs33 rfl rfl
              have b35 := bi_77 Is33
              have ws33_75 : iI s33 75 = iI s32 75 := fm_iq Fs33 rfl
              have b36 := bi_79 Is33
              have b37 := bi_78 Is33
              have ws33_86 : iI s33 86 = iI s32 86 := fm_iq Fs33 rfl
              have ws33_87 : iI s33 87 = iI s32 87 := fm_iq Fs33 rfl
              have ws33_88 : iI s33 88 = iI s32 88 := fm_iq Fs33 rfl
              refine w_pop X.1 (ax_d X (show cdA 213 146 = some (.pop, 1, 0, 0, 0) from rfl)) rfl (z_aload_n X (x := A 179) rfl (List.Mem.tail _ (List.Mem.tail _ (List.Mem.tail _ (List.Mem.head _)))) (z_getI X 179 rfl (c518_ok rfl) rfl rfl ?_))
              have b38 := bi_79 Is33
              refine z_if_ne X (t := 160) rfl rfl (rng_to _) (fun g39 => ?_) (fun g39 => ?_)
              ·
                refine z_aload_n X (x := A 179) rfl (List.Mem.tail _ (List.Mem.tail _ (List.Mem.tail _ (List.Mem.head _)))) (w_dup X.1 (ax_d X (show cdA 213 161 = some (.dup, 1, 0, 0, 0) from rfl)) rfl (z_getI X 179 rfl (c518_ok rfl) rfl rfl ?_))
                have b40 := bi_86 Is33
                refine z_const X rfl (z_add X rfl (s_putI X 179 rfl (c518_ok rfl) rfl rfl (by decide) rfl rfl rfl (wd_gen (fun s41 hs41 => ?_))))
                have Is41 : Bd s41 := eqB hs41 (bd_I Is33 (show (0 : Int) ≤ ((iI s33 86) + 1) ∧ ((iI s33 86) + 1) ≤ 8 by first | exact ⟨oq_54f49eb5 b40.1, oq_36461835 ws33_86 ws32_86 ws30_86 ws24_86 g21 b20.2⟩ | omega) ⟨by first | exact oq_74de1e16 b40.1 | omega, by first | exact oq_3762dfb5 b40.2 | omega⟩)
                have Fs41 := eqF hs41 (fm_I Gs33 (inl_ok (a := 86) rfl))
                have vs41 : iI s41 86 = ((iI s33 86) + 1) := eqI hs41 (iI_u ⟨by first | exact oq_74de1e16 b40.1 | omega, by first | exact oq_3762dfb5 b40.2 | omega⟩)
                have ws41_77 : iI s41 77 = iI s33 77 := eqI hs41 rfl
                have ws41_75 : iI s41 75 = iI s33 75 := eqI hs41 rfl
                have ws41_79 : iI s41 79 = iI s33 79 := eqI hs41 rfl
                have ws41_78 : iI s41 78 = iI s33 78 := eqI hs41 rfl
                have ws41_87 : iI s41 87 = iI s33 87 := eqI hs41 rfl
                have ws41_88 : iI s41 88 = iI s33 88 := eqI hs41 rfl
                exact w_vret X.1 q hRt (ax_d X (show cdA 213 170 = some (.return_, 1, 0, 0, 0) from rfl)) (Nat.zero_le _) (Nat.zero_le _) ⟨_, rfl, Is41, Fs41, rfl, by first | exact ⟨oq_a5b19105 g27 g19, oq_6a8ceb7b ws41_77 hps33.2.1 ws32_77 ws30_77 hps24.1 ws15_77 ws11_77 hps8.1, oq_4322fef3 g27 g19, oq_971796bb ws41_79 g39 b38.1, oq_07428765 ws41_87 vs41 ws33_87 ws33_86 ws32_86 vs32 ws30_87 ws30_86 ws24_87 ws24_86 ws15_87 ws15_86 ws11_87 ws11_86 ws8_87 ws8_86 p3⟩ | omega⟩
              ·
                refine z_aload_n X (x := A 179) rfl (List.Mem.tail _ (List.Mem.tail _ (List.Mem.tail _ (List.Mem.head _)))) (z_bipush X rfl (zcV_v0 X E 179 (As := [.int (Int32.ofInt 59)]) (st := []) rfl rfl rfl rfl (k_sign G Is33 (by first | exact ⟨by decide, by decide⟩ | omega) (by first | exact oq_6db829a8 g27 g19 | omega)) rfl (Nat.le_of_ble_eq_true rfl) (fun s42 Is42 Fs42 hps42 => ?_)))
                have hps42p := hps42.1
                have Gs42 := fm_tq Gs33 Fs42 rfl rfl
                have b44 := bi_77 Is42
                have ws42_75 : iI s42 75 = iI s33 75 := fm_iq Fs42 rfl
                have b45 := bi_79 Is42
                have ws42_78 : iI s42 78 = iI s33 78 := fm_iq Fs42 rfl
                have ws42_86 : iI s42 86 = iI s33 86 := fm_iq Fs42 rfl
                have ws42_87 : iI s42 87 = iI s33 87 := fm_iq Fs42 rfl
                have ws42_88 : iI s42 88 = iI s33 88 := fm_iq Fs42 rfl
                refine z_aload_n X (x := A 179) rfl (List.Mem.tail _ (List.Mem.tail _ (List.Mem.tail _ (List.Mem.head _)))) (w_dup X.1 (ax_d X (show cdA 213 161 = some (.dup, 1, 0, 0, 0) from rfl)) rfl (z_getI X 179 rfl (c518_ok rfl) rfl rfl ?_))
                have b46 := bi_86 Is42
                refine z_const X rfl (z_add X rfl (s_putI X 179 rfl (c518_ok rfl) rfl rfl (by decide) rfl rfl rfl (wd_gen (fun s47 hs47 => ?_))))
                have Is47 : Bd s47 := eqB hs47 (bd_I Is42 (show (0 : Int) ≤ ((iI s42 86) + 1) ∧ ((iI s42 86) + 1) ≤ 8 by first | exact ⟨oq_54f49eb5 b46.1, oq_56cdf1d3 ws42_86 ws33_86 ws32_86 ws30_86 ws24_86 g21 b20.2⟩ | omega) ⟨by first | exact oq_74de1e16 b46.1 | omega, by first | exact oq_3762dfb5 b46.2 | omega⟩)
                have Fs47 := eqF hs47 (fm_I Gs42 (inl_ok (a := 86) rfl))
                have vs47 : iI s47 86 = ((iI s42 86) + 1) := eqI hs47 (iI_u ⟨by first | exact oq_74de1e16 b46.1 | omega, by first | exact oq_3762dfb5 b46.2 | omega⟩)
                have ws47_77 : iI s47 77 = iI s42 77 := eqI hs47 rfl
                have ws47_75 : iI s47 75 = iI s42 75 := eqI hs47 rfl
                have ws47_79 : iI s47 79 = iI s42 79 := eqI hs47 rfl
                have ws47_78 : iI s47 78 = iI s42 78 := eqI hs47 rfl
                have ws47_87 : iI s47 87 = iI s42 87 := eqI hs47 rfl
                have ws47_88 : iI s47 88 = iI s42 88 := eqI hs47 rfl
                exact w_vret X.1 q hRt (ax_d X (show cdA 213 170 = some (.return_, 1, 0, 0, 0) from rfl)) (Nat.zero_le _) (Nat.zero_le _) ⟨_, rfl, Is47, Fs47, rfl, by first | exact ⟨oq_a5b19105 g27 g19, oq_5c2efc3f ws47_77 hps42.1 hps33.2.1 ws32_77 ws30_77 hps24.1 ws15_77 ws11_77 hps8.1, oq_4322fef3 g27 g19, oq_243ee8ff g27 g19, oq_14de5e60 ws47_87 vs47 ws42_87 ws42_86 ws33_87 ws33_86 ws32_86 vs32 ws30_87 ws30_86 ws24_87 ws24_86 ws15_87 ws15_86 ws11_87 ws11_86 ws8_87 ws8_86 p3⟩ | omega⟩
            ·
              refine z_aload_n X (x := A 179) rfl (List.Mem.tail _ (List.Mem.tail _ (List.Mem.tail _ (List.Mem.head _)))) (z_aload_n X (x := A 179) rfl (List.Mem.tail _ (List.Mem.tail _ (List.Mem.tail _ (List.Mem.head _)))) (z_getI X 179 rfl (c518_ok rfl) rfl rfl ?_))
              have b48 := bi_77 Is24
              refine s_putI X 179 rfl (c518_ok rfl) rfl rfl (by decide) rfl rfl rfl (wd_gen (fun s49 hs49 => ?_))
              have Is49 : Bd s49 := eqB hs49 (bd_I Is24 (show ((-1) : Int) ≤ (iI s24 77) ∧ (iI s24 77) ≤ 200 by first | exact ⟨oq_ca54ea22 b48.1, oq_cae1c890 g27 hps24.2 ws15_75 ws15_77 re14.1 he14 ws11_75 ws11_77 hps11 ws8_75 hps8.2.2 b2.2⟩ | omega) (rng_to _))
              have Fs49 := eqF hs49 (fm_I Gs24 (inl_ok (a := 88) rfl))
              have vs49 : iI s49 88 = (iI s24 77) := eqI hs49 (iI_u (rng_to _))
              have ws49_77 : iI s49 77 = iI s24 77 := eqI hs49 rfl
              have ws49_75 : iI s49 75 = iI s24 75 := eqI hs49 rfl
              have ws49_79 : iI s49 79 = iI s24 79 := eqI hs49 rfl
              have ws49_78 : iI s49 78 = iI s24 78 := eqI hs49 rfl
              have ws49_86 : iI s49 86 = iI s24 86 := eqI hs49 rfl
              have ws49_87 : iI s49 87 = iI s24 87 := eqI hs49 rfl
              refine z_aload_n X (x := A 179) rfl (List.Mem.tail _ (List.Mem.tail _ (List.Mem.tail _ (List.Mem.head _)))) (zcV_i0 X E 179 (As := []) (st := []) rfl rfl rfl rfl (k_sum G Is49 (by first | exact oq_09fe36a6 ws49_77 g27 hps24.2 ws15_75 ws15_77 re14.1 he14 ws11_75 ws11_77 hps11 ws8_75 hps8.2.2 b2.2 | omega) (by first | (clear g27 hps24 g21 g19 he18 he14 hps8; omega) | (clear hps24 g21 g19 he18 he14 hps8; omega) | omega) (by first | exact oq_3ce50407 ws49_78 ws24_78 ws15_78 ws11_78 ws8_78 p1 | omega)) rfl (Nat.le_of_ble_eq_true rfl) (fun s50 e51 Is50 Fs50 hrs50 hps50 => ?_))
              have hps50p := And.intro hps50.1 (hps50.2.1)
              have Gs50 := fm_tq Fs49 Fs50 rfl rfl
              have b52 := bi_77 Is50
              have ws50_75 : iI s50 75 = iI s49 75 := fm_iq Fs50 rfl
              have b53 := bi_79 Is50
              have b54 := bi_78 Is50
              have ws50_86 : iI s50 86 = iI s49 86 := fm_iq Fs50 rfl
              have ws50_87 : iI s50 87 = iI s49 87 := fm_iq Fs50 rfl
              have ws50_88 : iI s50 88 = iI s49 88 := fm_iq Fs50 rfl
              refine w_pop X.1 (ax_d X (show cdA 213 115 = some (.pop, 1, 0, 0, 0) from rfl)) rfl (z_goto X (t := 147) rfl rfl (z_aload_n X (x := A 179) rfl (List.Mem.tail _ (List.Mem.tail _ (List.Mem.tail _ (List.Mem.head _)))) (z_getI X 179 rfl (c518_ok rfl) rfl rfl ?_)))
              have b55 := bi_79 Is50
              refine z_if_ne X (t := 160) rfl rfl (rng_to _) (fun g56 => ?_) (fun g56 => ?_)
              ·
                refine z_aload_n X (x := A 179) rfl (List.Mem.tail _ (List.Mem.tail _ (List.Mem.tail _ (List.Mem.head _)))) (w_dup X.1 (ax_d X (show cdA 213 161 = some (.dup, 1, 0, 0, 0) from rfl)) rfl (z_getI X 179 rfl (c518_ok rfl) rfl rfl ?_))
                have b57 := bi_86 Is50
                refine z_const X rfl (z_add X rfl (s_putI X 179 rfl (c518_ok rfl) rfl rfl (by decide) rfl rfl rfl (wd_gen (fun s58 hs58 => ?_))))
                have Is58 : Bd s58 := eqB hs58 (bd_I Is50 (show (0 : Int) ≤ ((iI s50 86) + 1) ∧ ((iI s50 86) + 1) ≤ 8 by first | exact ⟨oq_54f49eb5 b57.1, oq_fa715ff6 ws50_86 ws49_86 ws24_86 g21 b20.2⟩ | omega) ⟨by first | exact oq_74de1e16 b57.1 | omega, by first | exact oq_3762dfb5 b57.2 | omega⟩)
                have Fs58 := eqF hs58 (fm_I Gs50 (inl_ok (a := 86) rfl))
                have vs58 : iI s58 86 = ((iI s50 86) + 1) := eqI hs58 (iI_u ⟨by first | exact oq_74de1e16 b57.1 | omega, by first | exact oq_3762dfb5 b57.2 | omega⟩)
                have ws58_77 : iI s58 77 = iI s50 77 := eqI hs58 rfl
                have ws58_75 : iI s58 75 = iI s50 75 := eqI hs58 rfl
                have ws58_79 : iI s58 79 = iI s50 79 := eqI hs58 rfl
                have ws58_78 : iI s58 78 = iI s50 78 := eqI hs58 rfl
                have ws58_87 : iI s58 87 = iI s50 87 := eqI hs58 rfl
                have ws58_88 : iI s58 88 = iI s50 88 := eqI hs58 rfl
                exact w_vret X.1 q hRt (ax_d X (show cdA 213 170 = some (.return_, 1, 0, 0, 0) from rfl)) (Nat.zero_le _) (Nat.zero_le _) ⟨_, rfl, Is58, Fs58, rfl, by first | exact ⟨oq_09c04f1e ws58_78 b54.1 hps50.1 ws49_78 ws24_78 ws15_78 ws11_78 ws8_78 p1, oq_a39082a4 ws58_77 hps50.2.1 ws49_77 hps24.1 ws15_77 ws11_77 hps8.1, oq_f01a7dd9 ws58_77 hps50.2.2.1 ws49_77 g27 hps24.2 ws15_75 ws15_77 re14.1 he14 ws11_75 ws11_77 hps11 ws8_75 hps8.2.2 b2.2, oq_971796bb ws58_79 g56 b55.1, oq_31a90a69 ws58_87 vs58 ws50_87 ws50_86 ws49_87 ws49_86 ws24_87 ws24_86 ws15_87 ws15_86 ws11_87 ws11_86 ws8_87 ws8_86 p3⟩ | omega⟩
              ·
                refine z_aload_n X (x := A 179) rfl (List.Mem.tail _ (List.Mem.tail _ (List.Mem.tail _ (List.Mem.head _)))) (z_bipush X rfl (zcV_v0 X E 179 (As := [.int (Int32.ofInt 59)]) (st := []) rfl rfl rfl rfl (k_sign G Is50 (by first | exact ⟨by decide, by decide⟩ | omega) (by first | exact oq_f37bb96e hps50.2.2.1 ws49_77 g27 hps24.2 ws15_75 ws15_77 re14.1 he14 ws11_75 ws11_77 hps11 ws8_75 hps8.2.2 b2.2 | omega)) rfl (Nat.le_of_ble_eq_true rfl) (fun s59 Is59 Fs59 hps59 => ?_)))
                have hps59p := hps59.1
                have Gs59 := fm_tq Gs50 Fs59 rfl rfl
                have b61 := bi_77 Is59
                have ws59_75 : iI s59 75 = iI s50 75 := fm_iq Fs59 rfl
                have b62 := bi_79 Is59
                have ws59_78 : iI s59 78 = iI s50 78 := fm_iq Fs59 rfl
                have ws59_86 : iI s59 86 = iI s50 86 := fm_iq Fs59 rfl
                have ws59_87 : iI s59 87 = iI s50 87 := fm_iq Fs59 rfl
                have ws59_88 : iI s59 88 = iI s50 88 := fm_iq Fs59 rfl
                refine z_aload_n X (x := A 179) rfl (List.Mem.tail _ (List.Mem.tail _ (List.Mem.tail _ (List.Mem.head _)))) (w_dup X.1 (ax_d X (show cdA 213 161 = some (.dup, 1, 0, 0, 0) from rfl)) rfl (z_getI X 179 rfl (c518_ok rfl) rfl rfl ?_))
                have b63 := bi_86 Is59
                refine z_const X rfl (z_add X rfl (s_putI X 179 rfl (c518_ok rfl) rfl rfl (by decide) rfl rfl rfl (wd_gen (fun s64 hs64 => ?_))))
                have Is64 : Bd s64 := eqB hs64 (bd_I Is59 (show (0 : Int) ≤ ((iI s59 86) + 1) ∧ ((iI s59 86) + 1) ≤ 8 by first | exact ⟨oq_54f49eb5 b63.1, oq_36461835 ws59_86 ws50_86 ws49_86 ws24_86 g21 b20.2⟩ | omega) ⟨by first | exact oq_74de1e16 b63.1 | omega, by first | exact oq_3762dfb5 b63.2 | omega⟩)
                have Fs64 := eqF hs64 (fm_I Gs59 (inl_ok (a := 86) rfl))
                have vs64 : iI s64 86 = ((iI s59 86) + 1) := eqI hs64 (iI_u ⟨by first | exact oq_74de1e16 b63.1 | omega, by first | exact oq_3762dfb5 b63.2 | omega⟩)
                have ws64_77 : iI s64 77 = iI s59 77 := eqI hs64 rfl
                have ws64_75 : iI s64 75 = iI s59 75 := eqI hs64 rfl
                have ws64_79 : iI s64 79 = iI s59 79 := eqI hs64 rfl
                have ws64_78 : iI s64 78 = iI s59 78 := eqI hs64 rfl
                have ws64_87 : iI s64 87 = iI s59 87 := eqI hs64 rfl
                have ws64_88 : iI s64 88 = iI s59 88 := eqI hs64 rfl
                exact w_vret X.1 q hRt (ax_d X (show cdA 213 170 = some (.return_, 1, 0, 0, 0) from rfl)) (Nat.zero_le _) (Nat.zero_le _) ⟨_, rfl, Is64, Fs64, rfl, by first | exact ⟨oq_a232ee13 ws64_78 ws59_78 b54.1 hps50.1 ws49_78 ws24_78 ws15_78 ws11_78 ws8_78 p1, oq_ab675376 ws64_77 hps59.1 hps50.2.1 ws49_77 hps24.1 ws15_77 ws11_77 hps8.1, oq_629d975c ws64_77 hps59.2.1 ws50_75 hps50.2.2.1 ws49_75 ws49_77 g27 ws24_75 hps24.2 ws15_75 ws15_77 re14.1 he14 ws11_75 ws11_77 hps11 ws8_75 hps8.2.2 b2.2, oq_34976221 ws64_79 ws64_77 b62.1 hps59.2.2.2 hps59.2.1 ws50_75 hps50.2.1 ws49_75 ws49_77 ws24_75 hps24.1 ws15_75 ws15_77 ws11_75 ws11_77 ws8_75 hps8.1, oq_a4ea2c38 ws64_87 vs64 ws59_87 ws59_86 ws50_87 ws50_86 ws49_87 ws49_86 ws24_87 ws24_86 ws15_87 ws15_86 ws11_87 ws11_86 ws8_87 ws8_86 p3⟩ | omega⟩
          ·
            exact w_vret X.1 q hRt (ax_d X (show cdA 213 94 = some (.return_, 1, 0, 0, 0) from rfl)) (Nat.zero_le _) (Nat.zero_le _) ⟨_, rfl, Is15, Gs15, rfl, by first | exact ⟨oq_0f72f93b ws15_78 ws11_78 ws8_78 p1 b4.1, oq_2954f754 ws15_77 ws11_77 hps8.1, oq_6d2c2237 g23 b22.1 ws15_79 ws11_79 ws8_79 p0, oq_f7664523 g23 b22.1, oq_7f1a346e ws15_87 ws15_86 ws11_87 ws11_86 ws8_87 ws8_86 p3⟩ | omega⟩
        ·
          refine z_aload_n X (x := A 179) rfl (List.Mem.tail _ (List.Mem.tail _ (List.Mem.tail _ (List.Mem.head _)))) (z_const X rfl (z_aload_n X (x := A 179) rfl (List.Mem.tail _ (List.Mem.tail _ (List.Mem.tail _ (List.Mem.head _)))) (z_getI X 179 rfl (c518_ok rfl) rfl rfl ?_)))
          have b65 := bi_77 Is15
          refine zcV_v0 X E 179 (As := [.int (Int32.ofInt 3), .int (Int32.ofInt (iI s15 77))]) (st := []) rfl rfl rfl rfl (k_wrong G Is15 (by first | exact ⟨by decide, by decide⟩ | omega) (by first | exact ⟨oq_ca54ea22 b65.1, b65.2⟩ | omega)) rfl (Nat.le_of_ble_eq_true rfl) (fun s66 Is66 Fs66 hps66 => ?_)
          have Gs66 := fm_tq Gs15 Fs66 rfl rfl
          have ws66_77 : iI s66 77 = iI s15 77 := fm_iq Fs66 rfl
          have ws66_75 : iI s66 75 = iI s15 75 := fm_iq Fs66 rfl
          have b68 := bi_79 Is66
          have ws66_78 : iI s66 78 = iI s15 78 := fm_iq Fs66 rfl
          have ws66_86 : iI s66 86 = iI s15 86 := fm_iq Fs66 rfl
          have ws66_87 : iI s66 87 = iI s15 87 := fm_iq Fs66 rfl
          have ws66_88 : iI s66 88 = iI s15 88 := fm_iq Fs66 rfl
          refine z_aload_n X (x := A 179) rfl (List.Mem.tail _ (List.Mem.tail _ (List.Mem.tail _ (List.Mem.head _)))) (z_getI X 179 rfl (c518_ok rfl) rfl rfl ?_)
          have b69 := bi_79 Is66
          refine z_if_eq X (t := 95) rfl rfl (rng_to _) (fun g70 => ?_) (fun g70 => ?_)
          ·
            refine z_aload_n X (x := A 179) rfl (List.Mem.tail _ (List.Mem.tail _ (List.Mem.tail _ (List.Mem.head _)))) (zcV_v0 X E 179 (As := []) (st := []) rfl rfl rfl rfl (k_skipWord G Is66 (by first | exact oq_fe813e1a g70 hps66 | omega)) rfl (Nat.le_of_ble_eq_true rfl) (fun s71 Is71 Fs71 hps71 => ?_))
            have hps71p := hps71.1
            have Gs71 := fm_tq Gs66 Fs71 rfl rfl
            have b73 := bi_77 Is71
            have ws71_75 : iI s71 75 = iI s66 75 := fm_iq Fs71 rfl
            have ws71_79 : iI s71 79 = iI s66 79 := fm_iq Fs71 rfl
            have ws71_78 : iI s71 78 = iI s66 78 := fm_iq Fs71 rfl
            have ws71_86 : iI s71 86 = iI s66 86 := fm_iq Fs71 rfl
            have ws71_87 : iI s71 87 = iI s66 87 := fm_iq Fs71 rfl
            have ws71_88 : iI s71 88 = iI s66 88 := fm_iq Fs71 rfl
            refine z_load_n X (x := e14) rfl (List.Mem.tail _ (List.Mem.head _)) (z_if_eq X (t := 119) rfl rfl ⟨by first | exact oq_fa4e5087 re14.1 | omega, by first | exact oq_22e1e6b0 re14.2 | omega⟩ (fun g74 => ?_) (fun g74 => ?_))
            ·
              refine z_aload_n X (x := A 179) rfl (List.Mem.tail _ (List.Mem.tail _ (List.Mem.tail _ (List.Mem.head _)))) (s_getR X 179 rfl (c518_ok rfl) rfl rfl (z_aload_n X (x := A 179) rfl (List.Mem.tail _ (List.Mem.tail _ (List.Mem.tail _ (List.Mem.head _)))) (z_getI X 179 rfl (c518_ok rfl) rfl rfl ?_)))
              have b75 := bi_87 Is71
              refine z_aload_n X (x := A 179) rfl (List.Mem.tail _ (List.Mem.tail _ (List.Mem.tail _ (List.Mem.head _)))) (z_getI X 179 rfl (c518_ok rfl) rfl rfl ?_)
              have b76 := bi_77 Is71
              refine z_ast X 183 rfl (c518_ok rfl) rfl (by first | exact b75.1 | omega) (show (iI s71 87) < 8 by first | exact oq_115b8e31 g70 hps66 | omega) (cbig_ok rfl) (wd_gen (fun s77 hs77 => ?_))
              have Is77 : Bd s77 := eqB hs77 (bd_C Is71 (show (0 : Int) ≤ (iI s71 77) ∧ (iI s71 77) ≤ 200 by first | exact ⟨b76.1, oq_ca61092c g70 hps66⟩ | omega) (rng_to _))
              have Fs77 := eqF hs77 (fm_C Gs71 (inl_ok (a := 160) rfl))
              have ws77_77 : iI s77 77 = iI s71 77 := eqI hs77 rfl
              have ws77_75 : iI s77 75 = iI s71 75 := eqI hs77 rfl
              have ws77_79 : iI s77 79 = iI s71 79 := eqI hs77 rfl
              have ws77_78 : iI s77 78 = iI s71 78 := eqI hs77 rfl
              have ws77_86 : iI s77 86 = iI s71 86 := eqI hs77 rfl
              have ws77_87 : iI s77 87 = iI s71 87 := eqI hs77 rfl
              have ws77_88 : iI s77 88 = iI s71 88 := eqI hs77 rfl
              refine z_aload_n X (x := A 179) rfl (List.Mem.tail _ (List.Mem.tail _ (List.Mem.tail _ (List.Mem.head _)))) (w_dup X.1 (ax_d X (show cdA 213 133 = some (.dup, 1, 0, 0, 0) from rfl)) rfl (z_getI X 179 rfl (c518_ok rfl) rfl rfl ?_))
              have b78 := bi_87 Is77
              refine z_const X rfl (z_add X rfl (s_putI X 179 rfl (c518_ok rfl) rfl rfl (by decide) rfl rfl rfl (wd_gen (fun s79 hs79 => ?_))))
              have Is79 : Bd s79 := eqB hs79 (bd_I Is77 (show (0 : Int) ≤ ((iI s77 87) + 1) ∧ ((iI s77 87) + 1) ≤ 8 by first | exact ⟨oq_54f49eb5 b78.1, oq_519a4a1d g70 hps66⟩ | omega) ⟨by first | exact oq_74de1e16 b78.1 | omega, by first | exact oq_3762dfb5 b78.2 | omega⟩)
              have Fs79 := eqF hs79 (fm_I Fs77 (inl_ok (a := 87) rfl))
              have vs79 : iI s79 87 = ((iI s77 87) + 1) := eqI hs79 (iI_u ⟨by first | exact oq_74de1e16 b78.1 | omega, by first | exact oq_3762dfb5 b78.2 | omega⟩)
              have ws79_77 : iI s79 77 = iI s77 77 := eqI hs79 rfl
              have ws79_75 : iI s79 75 = iI s77 75 := eqI hs79 rfl
              have ws79_79 : iI s79 79 = iI s77 79 := eqI hs79 rfl
              have ws79_78 : iI s79 78 = iI s77 78 := eqI hs79 rfl
              have ws79_86 : iI s79 86 = iI s77 86 := eqI hs79 rfl
              have ws79_88 : iI s79 88 = iI s77 88 := eqI hs79 rfl
              refine z_aload_n X (x := A 179) rfl (List.Mem.tail _ (List.Mem.tail _ (List.Mem.tail _ (List.Mem.head _)))) (zcV_i0 X E 179 (As := []) (st := []) rfl rfl rfl rfl (k_ors G Is79 (by first | exact oq_4322fef3 g70 hps66 | omega) (by first | exact oq_02f5ae4d g70 hps66 | omega) (by first | exact oq_8bd23233 ws79_78 ws77_78 ws71_78 ws66_78 ws15_78 ws11_78 ws8_78 p1 | omega) (by first | exact oq_05144e14 g70 hps66 | omega)) rfl (Nat.le_of_ble_eq_true rfl) (fun s80 e81 Is80 Fs80 hrs80 hps80 => ?_))
              have hps80p := And.intro hps80.1 (hps80.2.1)
              have Gs80 := fm_tq Fs79 Fs80 rfl rfl
              have b82 := bi_77 Is80
              have ws80_75 : iI s80 75 = iI s79 75 := fm_iq Fs80 rfl
              have b83 := bi_79 Is80
              have b84 := bi_78 Is80
              have ws80_86 : iI s80 86 = iI s79 86 := fm_iq Fs80 rfl
              have ws80_87 : iI s80 87 = iI s79 87 := fm_iq Fs80 rfl
              have ws80_88 : iI s80 88 = iI s79 88 := fm_iq Fs80 rfl
              refine w_pop X.1 (ax_d X (show cdA 213 146 = some (.pop, 1, 0, 0, 0) from rfl)) rfl (z_aload_n X (x := A 179) rfl (List.Mem.tail _ (List.Mem.tail _ (List.Mem.tail _ (List.Mem.head _)))) (z_getI X 179 rfl (c518_ok rfl) rfl rfl ?_))
              have b85 := bi_79 Is80
              refine z_if_ne X (t := 160) rfl rfl (rng_to _) (fun g86 => ?_) (fun g86 => ?_)
              ·
                refine z_aload_n X (x := A 179) rfl (List.Mem.tail _ (List.Mem.tail _ (List.Mem.tail _ (List.Mem.head _)))) (w_dup X.1 (ax_d X (show cdA 213 161 = some (.dup, 1, 0, 0, 0) from rfl)) rfl (z_getI X 179 rfl (c518_ok rfl) rfl rfl ?_))
                have b87 := bi_86 Is80
                refine z_const X rfl (z_add X rfl (s_putI X 179 rfl (c518_ok rfl) rfl rfl (by decide) rfl rfl rfl (wd_gen (fun s88 hs88 => ?_))))
                have Is88 : Bd s88 := eqB hs88 (bd_I Is80 (show (0 : Int) ≤ ((iI s80 86) + 1) ∧ ((iI s80 86) + 1) ≤ 8 by first | exact ⟨oq_54f49eb5 b87.1, oq_519a4a1d g70 hps66⟩ | omega) ⟨by first | exact oq_74de1e16 b87.1 | omega, by first | exact oq_3762dfb5 b87.2 | omega⟩)
                have Fs88 := eqF hs88 (fm_I Gs80 (inl_ok (a := 86) rfl))
                have vs88 : iI s88 86 = ((iI s80 86) + 1) := eqI hs88 (iI_u ⟨by first | exact oq_74de1e16 b87.1 | omega, by first | exact oq_3762dfb5 b87.2 | omega⟩)
                have ws88_77 : iI s88 77 = iI s80 77 := eqI hs88 rfl
                have ws88_75 : iI s88 75 = iI s80 75 := eqI hs88 rfl
                have ws88_79 : iI s88 79 = iI s80 79 := eqI hs88 rfl
                have ws88_78 : iI s88 78 = iI s80 78 := eqI hs88 rfl
                have ws88_87 : iI s88 87 = iI s80 87 := eqI hs88 rfl
                have ws88_88 : iI s88 88 = iI s80 88 := eqI hs88 rfl
                exact w_vret X.1 q hRt (ax_d X (show cdA 213 170 = some (.return_, 1, 0, 0, 0) from rfl)) (Nat.zero_le _) (Nat.zero_le _) ⟨_, rfl, Is88, Fs88, rfl, by first | exact ⟨oq_a5b19105 g70 hps66, oq_f6078872 ws88_77 hps80.2.1 ws79_77 ws77_77 hps71.1 ws66_77 ws15_77 ws11_77 hps8.1, oq_4322fef3 g70 hps66, oq_971796bb ws88_79 g86 b85.1, oq_9a49b549 ws88_87 vs88 ws80_87 ws80_86 ws79_86 vs79 b78.2 ws77_86 ws71_86 ws66_86 g21⟩ | omega⟩
              ·
                refine z_aload_n X (x := A 179) rfl (List.Mem.tail _ (List.Mem.tail _ (List.Mem.tail _ (List.Mem.head _)))) (z_bipush X rfl (zcV_v0 X E 179 (As := [.int (Int32.ofInt 59)]) (st := []) rfl rfl rfl rfl (k_sign G Is80 (by first | exact ⟨by decide, by decide⟩ | omega) (by first | exact oq_6db829a8 g70 hps66 | omega)) rfl (Nat.le_of_ble_eq_true rfl) (fun s89 Is89 Fs89 hps89 => ?_)))
                have hps89p := hps89.1
                have Gs89 := fm_tq Gs80 Fs89 rfl rfl
                have b91 := bi_77 Is89
                have ws89_75 : iI s89 75 = iI s80 75 := fm_iq Fs89 rfl
                have b92 := bi_79 Is89
                have ws89_78 : iI s89 78 = iI s80 78 := fm_iq Fs89 rfl
                have ws89_86 : iI s89 86 = iI s80 86 := fm_iq Fs89 rfl
                have ws89_87 : iI s89 87 = iI s80 87 := fm_iq Fs89 rfl
                have ws89_88 : iI s89 88 = iI s80 88 := fm_iq Fs89 rfl
                refine z_aload_n X (x := A 179) rfl (List.Mem.tail _ (List.Mem.tail _ (List.Mem.tail _ (List.Mem.head _)))) (w_dup X.1 (ax_d X (show cdA 213 161 = some (.dup, 1, 0, 0, 0) from rfl)) rfl (z_getI X 179 rfl (c518_ok rfl) rfl rfl ?_))
                have b93 := bi_86 Is89
                refine z_const X rfl (z_add X rfl (s_putI X 179 rfl (c518_ok rfl) rfl rfl (by decide) rfl rfl rfl (wd_gen (fun s94 hs94 => ?_))))
                have Is94 : Bd s94 := eqB hs94 (bd_I Is89 (show (0 : Int) ≤ ((iI s89 86) + 1) ∧ ((iI s89 86) + 1) ≤ 8 by first | exact ⟨oq_54f49eb5 b93.1, oq_519a4a1d g70 hps66⟩ | omega) ⟨by first | exact oq_74de1e16 b93.1 | omega, by first | exact oq_3762dfb5 b93.2 | omega⟩)
                have Fs94 := eqF hs94 (fm_I Gs89 (inl_ok (a := 86) rfl))
                have vs94 : iI s94 86 = ((iI s89 86) + 1) := eqI hs94 (iI_u ⟨by first | exact oq_74de1e16 b93.1 | omega, by first | exact oq_3762dfb5 b93.2 | omega⟩)
                have ws94_77 : iI s94 77 = iI s89 77 := eqI hs94 rfl
                have ws94_75 : iI s94 75 = iI s89 75 := eqI hs94 rfl
                have ws94_79 : iI s94 79 = iI s89 79 := eqI hs94 rfl
                have ws94_78 : iI s94 78 = iI s89 78 := eqI hs94 rfl
                have ws94_87 : iI s94 87 = iI s89 87 := eqI hs94 rfl
                have ws94_88 : iI s94 88 = iI s89 88 := eqI hs94 rfl
                exact w_vret X.1 q hRt (ax_d X (show cdA 213 170 = some (.return_, 1, 0, 0, 0) from rfl)) (Nat.zero_le _) (Nat.zero_le _) ⟨_, rfl, Is94, Fs94, rfl, by first | exact ⟨oq_a5b19105 g70 hps66, oq_7153c7f3 ws94_77 hps89.1 hps80.2.1 ws79_77 ws77_77 hps71.1 ws66_77 ws15_77 ws11_77 hps8.1, oq_4322fef3 g70 hps66, oq_243ee8ff g70 hps66, oq_99f5ad6f ws94_87 vs94 ws89_87 ws89_86 ws80_87 ws80_86 ws79_86 vs79 b78.2 ws77_86 ws71_86 ws66_86 g21⟩ | omega⟩
            ·
              refine z_aload_n X (x := A 179) rfl (List.Mem.tail _ (List.Mem.tail _ (List.Mem.tail _ (List.Mem.head _)))) (z_aload_n X (x := A 179) rfl (List.Mem.tail _ (List.Mem.tail _ (List.Mem.tail _ (List.Mem.head _)))) (z_getI X 179 rfl (c518_ok rfl) rfl rfl ?_))
              have b95 := bi_77 Is71
              refine s_putI X 179 rfl (c518_ok rfl) rfl rfl (by decide) rfl rfl rfl (wd_gen (fun s96 hs96 => ?_))
              have Is96 : Bd s96 := eqB hs96 (bd_I Is71 (show ((-1) : Int) ≤ (iI s71 77) ∧ (iI s71 77) ≤ 200 by first | exact ⟨oq_ca54ea22 b95.1, oq_ca61092c g70 hps66⟩ | omega) (rng_to _))
              have Fs96 := eqF hs96 (fm_I Gs71 (inl_ok (a := 88) rfl))
              have vs96 : iI s96 88 = (iI s71 77) := eqI hs96 (iI_u (rng_to _))
              have ws96_77 : iI s96 77 = iI s71 77 := eqI hs96 rfl
              have ws96_75 : iI s96 75 = iI s71 75 := eqI hs96 rfl
              have ws96_79 : iI s96 79 = iI s71 79 := eqI hs96 rfl
              have ws96_78 : iI s96 78 = iI s71 78 := eqI hs96 rfl
              have ws96_86 : iI s96 86 = iI s71 86 := eqI hs96 rfl
              have ws96_87 : iI s96 87 = iI s71 87 := eqI hs96 rfl
              refine z_aload_n X (x := A 179) rfl (List.Mem.tail _ (List.Mem.tail _ (List.Mem.tail _ (List.Mem.head _)))) (zcV_i0 X E 179 (As := []) (st := []) rfl rfl rfl rfl (k_sum G Is96 (by first | exact oq_4322fef3 g70 hps66 | omega) (by first | exact oq_02f5ae4d g70 hps66 | omega) (by first | exact oq_5e64b0f9 ws96_78 ws71_78 ws66_78 ws15_78 ws11_78 ws8_78 p1 | omega)) rfl (Nat.le_of_ble_eq_true rfl) (fun s97 e98 Is97 Fs97 hrs97 hps97 => ?_))
              have hps97p := And.intro hps97.1 (hps97.2.1)
              have Gs97 := fm_tq Fs96 Fs97 rfl rfl
              have b99 := bi_77 Is97
              have ws97_75 : iI s97 75 = iI s96 75 := fm_iq Fs97 rfl
              have b100 := bi_79 Is97
              have b101 := bi_78 Is97
              have ws97_86 : iI s97 86 = iI s96 86 := fm_iq Fs97 rfl
              have ws97_87 : iI s97 87 = iI s96 87 := fm_iq Fs97 rfl
              have ws97_88 : iI s97 88 = iI s96 88 := fm_iq Fs97 rfl
              refine w_pop X.1 (ax_d X (show cdA 213 115 = some (.pop, 1, 0, 0, 0) from rfl)) rfl (z_goto X (t := 147) rfl rfl (z_aload_n X (x := A 179) rfl (List.Mem.tail _ (List.Mem.tail _ (List.Mem.tail _ (List.Mem.head _)))) (z_getI X 179 rfl (c518_ok rfl) rfl rfl ?_)))
              have b102 := bi_79 Is97
              refine z_if_ne X (t := 160) rfl rfl (rng_to _) (fun g103 => ?_) (fun g103 => ?_)
              ·
                refine z_aload_n X (x := A 179) rfl (List.Mem.tail _ (List.Mem.tail _ (List.Mem.tail _ (List.Mem.head _)))) (w_dup X.1 (ax_d X (show cdA 213 161 = some (.dup, 1, 0, 0, 0) from rfl)) rfl (z_getI X 179 rfl (c518_ok rfl) rfl rfl ?_))
                have b104 := bi_86 Is97
                refine z_const X rfl (z_add X rfl (s_putI X 179 rfl (c518_ok rfl) rfl rfl (by decide) rfl rfl rfl (wd_gen (fun s105 hs105 => ?_))))
                have Is105 : Bd s105 := eqB hs105 (bd_I Is97 (show (0 : Int) ≤ ((iI s97 86) + 1) ∧ ((iI s97 86) + 1) ≤ 8 by first | exact ⟨oq_54f49eb5 b104.1, oq_519a4a1d g70 hps66⟩ | omega) ⟨by first | exact oq_74de1e16 b104.1 | omega, by first | exact oq_3762dfb5 b104.2 | omega⟩)
                have Fs105 := eqF hs105 (fm_I Gs97 (inl_ok (a := 86) rfl))
                have vs105 : iI s105 86 = ((iI s97 86) + 1) := eqI hs105 (iI_u ⟨by first | exact oq_74de1e16 b104.1 | omega, by first | exact oq_3762dfb5 b104.2 | omega⟩)
                have ws105_77 : iI s105 77 = iI s97 77 := eqI hs105 rfl
                have ws105_75 : iI s105 75 = iI s97 75 := eqI hs105 rfl
                have ws105_79 : iI s105 79 = iI s97 79 := eqI hs105 rfl
                have ws105_78 : iI s105 78 = iI s97 78 := eqI hs105 rfl
                have ws105_87 : iI s105 87 = iI s97 87 := eqI hs105 rfl
                have ws105_88 : iI s105 88 = iI s97 88 := eqI hs105 rfl
                exact w_vret X.1 q hRt (ax_d X (show cdA 213 170 = some (.return_, 1, 0, 0, 0) from rfl)) (Nat.zero_le _) (Nat.zero_le _) ⟨_, rfl, Is105, Fs105, rfl, by first | exact ⟨oq_a5b19105 g70 hps66, oq_3d9f5183 ws105_77 hps97.2.1 ws96_77 hps71.1 ws66_77 ws15_77 ws11_77 hps8.1, oq_4322fef3 g70 hps66, oq_971796bb ws105_79 g103 b102.1, oq_e1d63144 ws105_87 vs105 ws97_87 ws97_86 ws96_87 ws96_86 ws71_87 ws71_86 ws66_87 ws66_86 g21 ws15_87 ws11_87 ws8_87 b6.2⟩ | omega⟩
              ·
                refine z_aload_n X (x := A 179) rfl (List.Mem.tail _ (List.Mem.tail _ (List.Mem.tail _ (List.Mem.head _)))) (z_bipush X rfl (zcV_v0 X E 179 (As := [.int (Int32.ofInt 59)]) (st := []) rfl rfl rfl rfl (k_sign G Is97 (by first | exact ⟨by decide, by decide⟩ | omega) (by first | exact oq_6db829a8 g70 hps66 | omega)) rfl (Nat.le_of_ble_eq_true rfl) (fun s106 Is106 Fs106 hps106 => ?_)))
                have hps106p := hps106.1
                have Gs106 := fm_tq Gs97 Fs106 rfl rfl
                have b108 := bi_77 Is106
                have ws106_75 : iI s106 75 = iI s97 75 := fm_iq Fs106 rfl
                have b109 := bi_79 Is106
                have ws106_78 : iI s106 78 = iI s97 78 := fm_iq Fs106 rfl
                have ws106_86 : iI s106 86 = iI s97 86 := fm_iq Fs106 rfl
                have ws106_87 : iI s106 87 = iI s97 87 := fm_iq Fs106 rfl
                have ws106_88 : iI s106 88 = iI s97 88 := fm_iq Fs106 rfl
                refine z_aload_n X (x := A 179) rfl (List.Mem.tail _ (List.Mem.tail _ (List.Mem.tail _ (List.Mem.head _)))) (w_dup X.1 (ax_d X (show cdA 213 161 = some (.dup, 1, 0, 0, 0) from rfl)) rfl (z_getI X 179 rfl (c518_ok rfl) rfl rfl ?_))
                have b110 := bi_86 Is106
                refine z_const X rfl (z_add X rfl (s_putI X 179 rfl (c518_ok rfl) rfl rfl (by decide) rfl rfl rfl (wd_gen (fun s111 hs111 => ?_))))
                have Is111 : Bd s111 := eqB hs111 (bd_I Is106 (show (0 : Int) ≤ ((iI s106 86) + 1) ∧ ((iI s106 86) + 1) ≤ 8 by first | exact ⟨oq_54f49eb5 b110.1, oq_519a4a1d g70 hps66⟩ | omega) ⟨by first | exact oq_74de1e16 b110.1 | omega, by first | exact oq_3762dfb5 b110.2 | omega⟩)
                have Fs111 := eqF hs111 (fm_I Gs106 (inl_ok (a := 86) rfl))
                have vs111 : iI s111 86 = ((iI s106 86) + 1) := eqI hs111 (iI_u ⟨by first | exact oq_74de1e16 b110.1 | omega, by first | exact oq_3762dfb5 b110.2 | omega⟩)
                have ws111_77 : iI s111 77 = iI s106 77 := eqI hs111 rfl
                have ws111_75 : iI s111 75 = iI s106 75 := eqI hs111 rfl
                have ws111_79 : iI s111 79 = iI s106 79 := eqI hs111 rfl
                have ws111_78 : iI s111 78 = iI s106 78 := eqI hs111 rfl
                have ws111_87 : iI s111 87 = iI s106 87 := eqI hs111 rfl
                have ws111_88 : iI s111 88 = iI s106 88 := eqI hs111 rfl
                exact w_vret X.1 q hRt (ax_d X (show cdA 213 170 = some (.return_, 1, 0, 0, 0) from rfl)) (Nat.zero_le _) (Nat.zero_le _) ⟨_, rfl, Is111, Fs111, rfl, by first | exact ⟨oq_a5b19105 g70 hps66, oq_fac99100 ws111_77 hps106.1 hps97.2.1 ws96_77 hps71.1 ws66_77 ws15_77 ws11_77 hps8.1, oq_4322fef3 g70 hps66, oq_243ee8ff g70 hps66, oq_27685c07 ws111_87 vs111 ws106_87 ws106_86 ws97_87 ws97_86 ws96_87 ws96_86 ws71_87 ws71_86 ws66_87 ws66_86 g21 ws15_87 ws11_87 ws8_87 b6.2⟩ | omega⟩
          ·
            exact w_vret X.1 q hRt (ax_d X (show cdA 213 94 = some (.return_, 1, 0, 0, 0) from rfl)) (Nat.zero_le _) (Nat.zero_le _) ⟨_, rfl, Is66, Gs66, rfl, by first | exact ⟨oq_d0299403 ws66_78 ws15_78 ws11_78 ws8_78 p1 b4.1, oq_3b5dd946 ws66_77 hps8.1 ws11_77 ws15_77, oq_130b47e8 ws66_77 g19 ws15_77 re14.1 he14 ws11_77 hps11 hps8.2.2 b2.2, oq_f7664523 g70 b69.1, oq_641a7aee ws66_87 ws66_86 g21 ws15_87 ws11_87 ws8_87 b6.2⟩ | omega⟩
      ·
        refine z_load_n X (x := e18) rfl (List.Mem.head _) (z_if_ne X (t := 69) rfl rfl ⟨by first | exact oq_fa4e5087 re18.1 | omega, by first | exact oq_22e1e6b0 re18.2 | omega⟩ (fun g112 => ?_) (fun g112 => ?_))
        ·
          refine z_aload_n X (x := A 179) rfl (List.Mem.tail _ (List.Mem.tail _ (List.Mem.tail _ (List.Mem.head _)))) (z_getI X 179 rfl (c518_ok rfl) rfl rfl ?_)
          have b113 := bi_86 Is15
          refine z_bipush X rfl (z_icmp_ne X (t := 87) rfl rfl (rng_to _) (by decide) (fun g114 => ?_) (fun g114 => ?_))
          ·
            refine z_aload_n X (x := A 179) rfl (List.Mem.tail _ (List.Mem.tail _ (List.Mem.tail _ (List.Mem.head _)))) (z_getI X 179 rfl (c518_ok rfl) rfl rfl ?_)
            have b115 := bi_79 Is15
            refine z_if_eq X (t := 95) rfl rfl (rng_to _) (fun g116 => ?_) (fun g116 => ?_)
            ·
              refine z_aload_n X (x := A 179) rfl (List.Mem.tail _ (List.Mem.tail _ (List.Mem.tail _ (List.Mem.head _)))) (zcV_v0 X E 179 (As := []) (st := []) rfl rfl rfl rfl (k_skipWord G Is15 (by first | exact oq_4059ac16 g112 re18.1 he18 ws15_77 hps15 ws11_77 hps8.2.2 b2.2 | omega)) rfl (Nat.le_of_ble_eq_true rfl) (fun s117 Is117 Fs117 hps117 => ?_))
              have hps117p := hps117.1
              have Gs117 := fm_tq Gs15 Fs117 rfl rfl
              have b119 := bi_77 Is117
              have ws117_75 : iI s117 75 = iI s15 75 := fm_iq Fs117 rfl
              have ws117_79 : iI s117 79 = iI s15 79 := fm_iq Fs117 rfl
              have ws117_78 : iI s117 78 = iI s15 78 := fm_iq Fs117 rfl
              have ws117_86 : iI s117 86 = iI s15 86 := fm_iq Fs117 rfl
              have ws117_87 : iI s117 87 = iI s15 87 := fm_iq Fs117 rfl
              have ws117_88 : iI s117 88 = iI s15 88 := fm_iq Fs117 rfl
              refine z_load_n X (x := e14) rfl (List.Mem.tail _ (List.Mem.head _)) (z_if_eq X (t := 119) rfl rfl ⟨by first | exact oq_6ab4c69f g19 | omega, by first | exact oq_3b8a080c g19 | omega⟩ (fun g120 => ?_) (fun g120 => ?_))
              ·
                refine z_aload_n X (x := A 179) rfl (List.Mem.tail _ (List.Mem.tail _ (List.Mem.tail _ (List.Mem.head _)))) (s_getR X 179 rfl (c518_ok rfl) rfl rfl (z_aload_n X (x := A 179) rfl (List.Mem.tail _ (List.Mem.tail _ (List.Mem.tail _ (List.Mem.head _)))) (z_getI X 179 rfl (c518_ok rfl) rfl rfl ?_)))
                have b121 := bi_87 Is117
                refine z_aload_n X (x := A 179) rfl (List.Mem.tail _ (List.Mem.tail _ (List.Mem.tail _ (List.Mem.head _)))) (z_getI X 179 rfl (c518_ok rfl) rfl rfl ?_)
                have b122 := bi_77 Is117
                refine z_ast X 183 rfl (c518_ok rfl) rfl (by first | exact b121.1 | omega) (show (iI s117 87) < 8 by first | exact oq_bcb93356 ws117_87 g114 b113.2 ws15_87 ws15_86 ws11_87 ws11_86 ws8_87 ws8_86 p3 | omega) (cbig_ok rfl) (wd_gen (fun s123 hs123 => ?_))
                have Is123 : Bd s123 := eqB hs123 (bd_C Is117 (show (0 : Int) ≤ (iI s117 77) ∧ (iI s117 77) ≤ 200 by first | exact ⟨b122.1, oq_a1d11eb1 hps117.2 g112 re18.1 he18 ws15_75 ws15_77 hps15 ws11_75 ws11_77 ws8_75 hps8.2.2 b2.2⟩ | omega) (rng_to _))
                have Fs123 := eqF hs123 (fm_C Gs117 (inl_ok (a := 160) rfl))
                have ws123_77 : iI s123 77 = iI s117 77 := eqI hs123 rfl
                have ws123_75 : iI s123 75 = iI s117 75 := eqI hs123 rfl
                have ws123_79 : iI s123 79 = iI s117 79 := eqI hs123 rfl
                have ws123_78 : iI s123 78 = iI s117 78 := eqI hs123 rfl
                have ws123_86 : iI s123 86 = iI s117 86 := eqI hs123 rfl
                have ws123_87 : iI s123 87 = iI s117 87 := eqI hs123 rfl
                have ws123_88 : iI s123 88 = iI s117 88 := eqI hs123 rfl
                refine z_aload_n X (x := A 179) rfl (List.Mem.tail _ (List.Mem.tail _ (List.Mem.tail _ (List.Mem.head _)))) (w_dup X.1 (ax_d X (show cdA 213 133 = some (.dup, 1, 0, 0, 0) from rfl)) rfl (z_getI X 179 rfl (c518_ok rfl) rfl rfl ?_))
                have b124 := bi_87 Is123
                refine z_const X rfl (z_add X rfl (s_putI X 179 rfl (c518_ok rfl) rfl rfl (by decide) rfl rfl rfl (wd_gen (fun s125 hs125 => ?_))))
                have Is125 : Bd s125 := eqB hs125 (bd_I Is123 (show (0 : Int) ≤ ((iI s123 87) + 1) ∧ ((iI s123 87) + 1) ≤ 8 by first | exact ⟨oq_54f49eb5 b124.1, oq_b692c601 ws123_87 ws117_87 g114 b113.2 ws15_87 ws15_86 ws11_87 ws11_86 ws8_87 ws8_86 p3⟩ | omega) ⟨by first | exact oq_74de1e16 b124.1 | omega, by first | exact oq_3762dfb5 b124.2 | omega⟩)
                have Fs125 := eqF hs125 (fm_I Fs123 (inl_ok (a := 87) rfl))
                have vs125 : iI s125 87 = ((iI s123 87) + 1) := eqI hs125 (iI_u ⟨by first | exact oq_74de1e16 b124.1 | omega, by first | exact oq_3762dfb5 b124.2 | omega⟩)
                have ws125_77 : iI s125 77 = iI s123 77 := eqI hs125 rfl
                have ws125_75 : iI s125 75 = iI s123 75 := eqI hs125 rfl
                have ws125_79 : iI s125 79 = iI s123 79 := eqI hs125 rfl
                have ws125_78 : iI s125 78 = iI s123 78 := eqI hs125 rfl
                have ws125_86 : iI s125 86 = iI s123 86 := eqI hs125 rfl
                have ws125_88 : iI s125 88 = iI s123 88 := eqI hs125 rfl
                refine z_aload_n X (x := A 179) rfl (List.Mem.tail _ (List.Mem.tail _ (List.Mem.tail _ (List.Mem.head _)))) (zcV_i0 X E 179 (As := []) (st := []) rfl rfl rfl rfl (k_ors G Is125 (by first | exact oq_cd23130a ws125_77 ws123_77 hps117.2 g112 re18.1 he18 ws15_75 ws15_77 hps15 ws11_75 ws11_77 ws8_75 hps8.2.2 b2.2 | omega) (by first | (clear hps117 g114 g112 he18 he14 hps8; omega) | (clear g114 g112 he18 he14 hps8; omega) | omega) (by first | exact oq_5e64b0f9 ws125_78 ws123_78 ws117_78 ws15_78 ws11_78 ws8_78 p1 | omega) (by first | exact oq_aeed1cd5 ws125_77 ws123_77 hps117.2 g112 re18.1 he18 ws15_75 ws15_77 hps15 ws11_75 ws11_77 ws8_75 hps8.2.2 b2.2 | omega)) rfl (Nat.le_of_ble_eq_true rfl) (fun s126 e127 Is126 Fs126 hrs126 hps126 => ?_))
                have hps126p := And.intro hps126.1 (hps126.2.1)
                have Gs126 := fm_tq Fs125 Fs126 rfl rfl
                have b128 := bi_77 Is126
                have ws126_75 : iI s126 75 = iI s125 75 := fm_iq Fs126 rfl
                have b129 := bi_79 Is126
                have b130 := bi_78 Is126
                have ws126_86 : iI s126 86 = iI s125 86 := fm_iq Fs126 rfl
                have ws126_87 : iI s126 87 = iI s125 87 := fm_iq Fs126 rfl
                have ws126_88 : iI s126 88 = iI s125 88 := fm_iq Fs126 rfl
                refine w_pop X.1 (ax_d X (show cdA 213 146 = some (.pop, 1, 0, 0, 0) from rfl)) rfl (z_aload_n X (x := A 179) rfl (List.Mem.tail _ (List.Mem.tail _ (List.Mem.tail _ (List.Mem.head _)))) (z_getI X 179 rfl (c518_ok rfl) rfl rfl ?_))
                have b131 := bi_79 Is126
                refine z_if_ne X (t := 160) rfl rfl (rng_to _) (fun g132 => ?_) (fun g132 => ?_)
                ·
                  refine z_aload_n X (x := A 179) rfl (List.Mem.tail _ (List.Mem.tail _ (List.Mem.tail _ (List.Mem.head _)))) (w_dup X.1 (ax_d X (show cdA 213 161 = some (.dup, 1, 0, 0, 0) from rfl)) rfl (z_getI X 179 rfl (c518_ok rfl) rfl rfl ?_))
                  have b133 := bi_86 Is126
                  refine z_const X rfl (z_add X rfl (s_putI X 179 rfl (c518_ok rfl) rfl rfl (by decide) rfl rfl rfl (wd_gen (fun s134 hs134 => ?_))))
                  have Is134 : Bd s134 := eqB hs134 (bd_I Is126 (show (0 : Int) ≤ ((iI s126 86) + 1) ∧ ((iI s126 86) + 1) ≤ 8 by first | exact ⟨oq_54f49eb5 b133.1, oq_36461835 ws126_86 ws125_86 ws123_86 ws117_86 g114 b113.2⟩ | omega) ⟨by first | exact oq_74de1e16 b133.1 | omega, by first | exact oq_3762dfb5 b133.2 | omega⟩)
                  have Fs134 := eqF hs134 (fm_I Gs126 (inl_ok (a := 86) rfl))
                  have vs134 : iI s134 86 = ((iI s126 86) + 1) := eqI hs134 (iI_u ⟨by first | exact oq_74de1e16 b133.1 | omega, by first | exact oq_3762dfb5 b133.2 | omega⟩)
                  have ws134_77 : iI s134 77 = iI s126 77 := eqI hs134 rfl
                  have ws134_75 : iI s134 75 = iI s126 75 := eqI hs134 rfl
                  have ws134_79 : iI s134 79 = iI s126 79 := eqI hs134 rfl
                  have ws134_78 : iI s134 78 = iI s126 78 := eqI hs134 rfl
                  have ws134_87 : iI s134 87 = iI s126 87 := eqI hs134 rfl
                  have ws134_88 : iI s134 88 = iI s126 88 := eqI hs134 rfl
                  exact w_vret X.1 q hRt (ax_d X (show cdA 213 170 = some (.return_, 1, 0, 0, 0) from rfl)) (Nat.zero_le _) (Nat.zero_le _) ⟨_, rfl, Is134, Fs134, rfl, by first | exact ⟨oq_3db77ff9 ws134_78 b130.1 hps126.1 ws125_78 ws123_78 ws117_78 ws15_78 ws11_78 ws8_78 p1, oq_6a8ceb7b ws134_77 hps126.2.1 ws125_77 ws123_77 hps117.1 ws15_77 ws11_77 hps8.1, oq_93b88a81 ws134_77 hps126.2.2.1 ws125_77 ws123_77 hps117.2 g112 re18.1 he18 ws15_75 ws15_77 hps15 ws11_75 ws11_77 ws8_75 hps8.2.2 b2.2, oq_971796bb ws134_79 g132 b131.1, oq_07428765 ws134_87 vs134 ws126_87 ws126_86 ws125_86 vs125 ws123_87 ws123_86 ws117_87 ws117_86 ws15_87 ws15_86 ws11_87 ws11_86 ws8_87 ws8_86 p3⟩ | omega⟩
                ·
                  refine z_aload_n X (x := A 179) rfl (List.Mem.tail _ (List.Mem.tail _ (List.Mem.tail _ (List.Mem.head _)))) (z_bipush X rfl (zcV_v0 X E 179 (As := [.int (Int32.ofInt 59)]) (st := []) rfl rfl rfl rfl (k_sign G Is126 (by first | exact ⟨by decide, by decide⟩ | omega) (by first | exact oq_12dc81b8 hps126.2.2.1 ws125_77 ws123_77 hps117.2 g112 re18.1 he18 ws15_75 ws15_77 hps15 ws11_75 ws11_77 ws8_75 hps8.2.2 b2.2 | omega)) rfl (Nat.le_of_ble_eq_true rfl) (fun s135 Is135 Fs135 hps135 => ?_)))
                  have hps135p := hps135.1
                  have Gs135 := fm_tq Gs126 Fs135 rfl rfl
                  have b137 := bi_77 Is135
                  have ws135_75 : iI s135 75 = iI s126 75 := fm_iq Fs135 rfl
                  have b138 := bi_79 Is135
                  have ws135_78 : iI s135 78 = iI s126 78 := fm_iq Fs135 rfl
                  have ws135_86 : iI s135 86 = iI s126 86 := fm_iq Fs135 rfl
                  have ws135_87 : iI s135 87 = iI s126 87 := fm_iq Fs135 rfl
                  have ws135_88 : iI s135 88 = iI s126 88 := fm_iq Fs135 rfl
                  refine z_aload_n X (x := A 179) rfl (List.Mem.tail _ (List.Mem.tail _ (List.Mem.tail _ (List.Mem.head _)))) (w_dup X.1 (ax_d X (show cdA 213 161 = some (.dup, 1, 0, 0, 0) from rfl)) rfl (z_getI X 179 rfl (c518_ok rfl) rfl rfl ?_))
                  have b139 := bi_86 Is135
                  refine z_const X rfl (z_add X rfl (s_putI X 179 rfl (c518_ok rfl) rfl rfl (by decide) rfl rfl rfl (wd_gen (fun s140 hs140 => ?_))))
                  have Is140 : Bd s140 := eqB hs140 (bd_I Is135 (show (0 : Int) ≤ ((iI s135 86) + 1) ∧ ((iI s135 86) + 1) ≤ 8 by first | exact ⟨oq_54f49eb5 b139.1, oq_56cdf1d3 ws135_86 ws126_86 ws125_86 ws123_86 ws117_86 g114 b113.2⟩ | omega) ⟨by first | exact oq_74de1e16 b139.1 | omega, by first | exact oq_3762dfb5 b139.2 | omega⟩)
                  have Fs140 := eqF hs140 (fm_I Gs135 (inl_ok (a := 86) rfl))
                  have vs140 : iI s140 86 = ((iI s135 86) + 1) := eqI hs140 (iI_u ⟨by first | exact oq_74de1e16 b139.1 | omega, by first | exact oq_3762dfb5 b139.2 | omega⟩)
                  have ws140_77 : iI s140 77 = iI s135 77 := eqI hs140 rfl
                  have ws140_75 : iI s140 75 = iI s135 75 := eqI hs140 rfl
                  have ws140_79 : iI s140 79 = iI s135 79 := eqI hs140 rfl
                  have ws140_78 : iI s140 78 = iI s135 78 := eqI hs140 rfl
                  have ws140_87 : iI s140 87 = iI s135 87 := eqI hs140 rfl
                  have ws140_88 : iI s140 88 = iI s135 88 := eqI hs140 rfl
                  exact w_vret X.1 q hRt (ax_d X (show cdA 213 170 = some (.return_, 1, 0, 0, 0) from rfl)) (Nat.zero_le _) (Nat.zero_le _) ⟨_, rfl, Is140, Fs140, rfl, by first | exact ⟨oq_f0f4d0db ws140_78 ws135_78 b130.1 hps126.1 ws125_78 ws123_78 ws117_78 ws15_78 ws11_78 ws8_78 p1, oq_5c2efc3f ws140_77 hps135.1 hps126.2.1 ws125_77 ws123_77 hps117.1 ws15_77 ws11_77 hps8.1, oq_03beb927 ws140_77 hps135.2.1 ws126_75 hps126.2.2.1 ws125_75 ws125_77 ws123_75 ws123_77 ws117_75 hps117.2 g112 re18.1 he18 ws15_75 ws15_77 hps15 ws11_75 ws11_77 ws8_75 hps8.2.2 b2.2, oq_9edaf74e ws140_79 ws140_77 b138.1 hps135.2.2.2 hps135.2.1 ws126_75 hps126.2.1 ws125_75 ws125_77 ws123_75 ws123_77 ws117_75 hps117.1 ws15_75 ws15_77 ws11_75 ws11_77 ws8_75 hps8.1, oq_14de5e60 ws140_87 vs140 ws135_87 ws135_86 ws126_87 ws126_86 ws125_86 vs125 ws123_87 ws123_86 ws117_87 ws117_86 ws15_87 ws15_86 ws11_87 ws11_86 ws8_87 ws8_86 p3⟩ | omega⟩
              ·
                refine z_aload_n X (x := A 179) rfl (List.Mem.tail _ (List.Mem.tail _ (List.Mem.tail _ (List.Mem.head _)))) (z_aload_n X (x := A 179) rfl (List.Mem.tail _ (List.Mem.tail _ (List.Mem.tail _ (List.Mem.head _)))) (z_getI X 179 rfl (c518_ok rfl) rfl rfl ?_))
                have b141 := bi_77 Is117
                refine s_putI X 179 rfl (c518_ok rfl) rfl rfl (by decide) rfl rfl rfl (wd_gen (fun s142 hs142 => ?_))
                have Is142 : Bd s142 := eqB hs142 (bd_I Is117 (show ((-1) : Int) ≤ (iI s117 77) ∧ (iI s117 77) ≤ 200 by first | exact ⟨oq_ca54ea22 b141.1, oq_56becbdc g120 g19⟩ | omega) (rng_to _))
                have Fs142 := eqF hs142 (fm_I Gs117 (inl_ok (a := 88) rfl))
                have vs142 : iI s142 88 = (iI s117 77) := eqI hs142 (iI_u (rng_to _))
                have ws142_77 : iI s142 77 = iI s117 77 := eqI hs142 rfl
                have ws142_75 : iI s142 75 = iI s117 75 := eqI hs142 rfl
                have ws142_79 : iI s142 79 = iI s117 79 := eqI hs142 rfl
                have ws142_78 : iI s142 78 = iI s117 78 := eqI hs142 rfl
                have ws142_86 : iI s142 86 = iI s117 86 := eqI hs142 rfl
                have ws142_87 : iI s142 87 = iI s117 87 := eqI hs142 rfl
                refine z_aload_n X (x := A 179) rfl (List.Mem.tail _ (List.Mem.tail _ (List.Mem.tail _ (List.Mem.head _)))) (zcV_i0 X E 179 (As := []) (st := []) rfl rfl rfl rfl (k_sum G Is142 (by first | exact oq_3fd14443 g120 g19 | omega) (by first | exact oq_222d1dad g120 g19 | omega) (by first | exact oq_3ce50407 ws142_78 ws117_78 ws15_78 ws11_78 ws8_78 p1 | omega)) rfl (Nat.le_of_ble_eq_true rfl) (fun s143 e144 Is143 Fs143 hrs143 hps143 => ?_))
                have hps143p := And.intro hps143.1 (hps143.2.1)
                have Gs143 := fm_tq Fs142 Fs143 rfl rfl
                have b145 := bi_77 Is143
                have ws143_75 : iI s143 75 = iI s142 75 := fm_iq Fs143 rfl
                have b146 := bi_79 Is143
                have b147 := bi_78 Is143
                have ws143_86 : iI s143 86 = iI s142 86 := fm_iq Fs143 rfl
                have ws143_87 : iI s143 87 = iI s142 87 := fm_iq Fs143 rfl
                have ws143_88 : iI s143 88 = iI s142 88 := fm_iq Fs143 rfl
                refine w_pop X.1 (ax_d X (show cdA 213 115 = some (.pop, 1, 0, 0, 0) from rfl)) rfl (z_goto X (t := 147) rfl rfl (z_aload_n X (x := A 179) rfl (List.Mem.tail _ (List.Mem.tail _ (List.Mem.tail _ (List.Mem.head _)))) (z_getI X 179 rfl (c518_ok rfl) rfl rfl ?_)))
                have b148 := bi_79 Is143
                refine z_if_ne X (t := 160) rfl rfl (rng_to _) (fun g149 => ?_) (fun g149 => ?_)
                ·
                  refine z_aload_n X (x := A 179) rfl (List.Mem.tail _ (List.Mem.tail _ (List.Mem.tail _ (List.Mem.head _)))) (w_dup X.1 (ax_d X (show cdA 213 161 = some (.dup, 1, 0, 0, 0) from rfl)) rfl (z_getI X 179 rfl (c518_ok rfl) rfl rfl ?_))
                  have b150 := bi_86 Is143
                  refine z_const X rfl (z_add X rfl (s_putI X 179 rfl (c518_ok rfl) rfl rfl (by decide) rfl rfl rfl (wd_gen (fun s151 hs151 => ?_))))
                  have Is151 : Bd s151 := eqB hs151 (bd_I Is143 (show (0 : Int) ≤ ((iI s143 86) + 1) ∧ ((iI s143 86) + 1) ≤ 8 by first | exact ⟨oq_54f49eb5 b150.1, oq_d8928268 g120 g19⟩ | omega) ⟨by first | exact oq_74de1e16 b150.1 | omega, by first | exact oq_3762dfb5 b150.2 | omega⟩)
                  have Fs151 := eqF hs151 (fm_I Gs143 (inl_ok (a := 86) rfl))
                  have vs151 : iI s151 86 = ((iI s143 86) + 1) := eqI hs151 (iI_u ⟨by first | exact oq_74de1e16 b150.1 | omega, by first | exact oq_3762dfb5 b150.2 | omega⟩)
                  have ws151_77 : iI s151 77 = iI s143 77 := eqI hs151 rfl
                  have ws151_75 : iI s151 75 = iI s143 75 := eqI hs151 rfl
                  have ws151_79 : iI s151 79 = iI s143 79 := eqI hs151 rfl
                  have ws151_78 : iI s151 78 = iI s143 78 := eqI hs151 rfl
                  have ws151_87 : iI s151 87 = iI s143 87 := eqI hs151 rfl
                  have ws151_88 : iI s151 88 = iI s143 88 := eqI hs151 rfl
                  exact w_vret X.1 q hRt (ax_d X (show cdA 213 170 = some (.return_, 1, 0, 0, 0) from rfl)) (Nat.zero_le _) (Nat.zero_le _) ⟨_, rfl, Is151, Fs151, rfl, by first | exact ⟨oq_fe04bf4e g120 g19, oq_a39082a4 ws151_77 hps143.2.1 ws142_77 hps117.1 ws15_77 ws11_77 hps8.1, oq_3fd14443 g120 g19, oq_971796bb ws151_79 g149 b148.1, oq_31a90a69 ws151_87 vs151 ws143_87 ws143_86 ws142_87 ws142_86 ws117_87 ws117_86 ws15_87 ws15_86 ws11_87 ws11_86 ws8_87 ws8_86 p3⟩ | omega⟩
                ·
                  refine z_aload_n X (x := A 179) rfl (List.Mem.tail _ (List.Mem.tail _ (List.Mem.tail _ (List.Mem.head _)))) (z_bipush X rfl (zcV_v0 X E 179 (As := [.int (Int32.ofInt 59)]) (st := []) rfl rfl rfl rfl (k_sign G Is143 (by first | exact ⟨by decide, by decide⟩ | omega) (by first | exact oq_1594de10 g120 g19 | omega)) rfl (Nat.le_of_ble_eq_true rfl) (fun s152 Is152 Fs152 hps152 => ?_)))
                  have hps152p := hps152.1
                  have Gs152 := fm_tq Gs143 Fs152 rfl rfl
                  have b154 := bi_77 Is152
                  have ws152_75 : iI s152 75 = iI s143 75 := fm_iq Fs152 rfl
                  have b155 := bi_79 Is152
                  have ws152_78 : iI s152 78 = iI s143 78 := fm_iq Fs152 rfl
                  have ws152_86 : iI s152 86 = iI s143 86 := fm_iq Fs152 rfl
                  have ws152_87 : iI s152 87 = iI s143 87 := fm_iq Fs152 rfl
                  have ws152_88 : iI s152 88 = iI s143 88 := fm_iq Fs152 rfl
                  refine z_aload_n X (x := A 179) rfl (List.Mem.tail _ (List.Mem.tail _ (List.Mem.tail _ (List.Mem.head _)))) (w_dup X.1 (ax_d X (show cdA 213 161 = some (.dup, 1, 0, 0, 0) from rfl)) rfl (z_getI X 179 rfl (c518_ok rfl) rfl rfl ?_))
                  have b156 := bi_86 Is152
                  refine z_const X rfl (z_add X rfl (s_putI X 179 rfl (c518_ok rfl) rfl rfl (by decide) rfl rfl rfl (wd_gen (fun s157 hs157 => ?_))))
                  have Is157 : Bd s157 := eqB hs157 (bd_I Is152 (show (0 : Int) ≤ ((iI s152 86) + 1) ∧ ((iI s152 86) + 1) ≤ 8 by first | exact ⟨oq_54f49eb5 b156.1, oq_d8928268 g120 g19⟩ | omega) ⟨by first | exact oq_74de1e16 b156.1 | omega, by first | exact oq_3762dfb5 b156.2 | omega⟩)
                  have Fs157 := eqF hs157 (fm_I Gs152 (inl_ok (a := 86) rfl))
                  have vs157 : iI s157 86 = ((iI s152 86) + 1) := eqI hs157 (iI_u ⟨by first | exact oq_74de1e16 b156.1 | omega, by first | exact oq_3762dfb5 b156.2 | omega⟩)
                  have ws157_77 : iI s157 77 = iI s152 77 := eqI hs157 rfl
                  have ws157_75 : iI s157 75 = iI s152 75 := eqI hs157 rfl
                  have ws157_79 : iI s157 79 = iI s152 79 := eqI hs157 rfl
                  have ws157_78 : iI s157 78 = iI s152 78 := eqI hs157 rfl
                  have ws157_87 : iI s157 87 = iI s152 87 := eqI hs157 rfl
                  have ws157_88 : iI s157 88 = iI s152 88 := eqI hs157 rfl
                  exact w_vret X.1 q hRt (ax_d X (show cdA 213 170 = some (.return_, 1, 0, 0, 0) from rfl)) (Nat.zero_le _) (Nat.zero_le _) ⟨_, rfl, Is157, Fs157, rfl, by first | exact ⟨oq_fe04bf4e g120 g19, oq_ab675376 ws157_77 hps152.1 hps143.2.1 ws142_77 hps117.1 ws15_77 ws11_77 hps8.1, oq_3fd14443 g120 g19, oq_3e825001 g120 g19, oq_a4ea2c38 ws157_87 vs157 ws152_87 ws152_86 ws143_87 ws143_86 ws142_87 ws142_86 ws117_87 ws117_86 ws15_87 ws15_86 ws11_87 ws11_86 ws8_87 ws8_86 p3⟩ | omega⟩
            ·
              exact w_vret X.1 q hRt (ax_d X (show cdA 213 94 = some (.return_, 1, 0, 0, 0) from rfl)) (Nat.zero_le _) (Nat.zero_le _) ⟨_, rfl, Is15, Gs15, rfl, by first | exact ⟨oq_0f72f93b ws15_78 ws11_78 ws8_78 p1 b4.1, oq_2954f754 ws15_77 ws11_77 hps8.1, oq_6d2c2237 g116 b115.1 ws15_79 ws11_79 ws8_79 p0, oq_f7664523 g116 b115.1, oq_7f1a346e ws15_87 ws15_86 ws11_87 ws11_86 ws8_87 ws8_86 p3⟩ | omega⟩
          ·
            refine z_aload_n X (x := A 179) rfl (List.Mem.tail _ (List.Mem.tail _ (List.Mem.tail _ (List.Mem.head _)))) (z_const X rfl (z_aload_n X (x := A 179) rfl (List.Mem.tail _ (List.Mem.tail _ (List.Mem.tail _ (List.Mem.head _)))) (z_getI X 179 rfl (c518_ok rfl) rfl rfl ?_)))
            have b158 := bi_77 Is15
            refine zcV_v0 X E 179 (As := [.int (Int32.ofInt 3), .int (Int32.ofInt (iI s15 77))]) (st := []) rfl rfl rfl rfl (k_wrong G Is15 (by first | exact ⟨by decide, by decide⟩ | omega) (by first | exact ⟨oq_ca54ea22 b158.1, b158.2⟩ | omega)) rfl (Nat.le_of_ble_eq_true rfl) (fun s159 Is159 Fs159 hps159 => ?_)
            have Gs159 := fm_tq Gs15 Fs159 rfl rfl
            have ws159_77 : iI s159 77 = iI s15 77 := fm_iq Fs159 rfl
            have ws159_75 : iI s159 75 = iI s15 75 := fm_iq Fs159 rfl
            have b161 := bi_79 Is159
            have ws159_78 : iI s159 78 = iI s15 78 := fm_iq Fs159 rfl
            have ws159_86 : iI s159 86 = iI s15 86 := fm_iq Fs159 rfl
            have ws159_87 : iI s159 87 = iI s15 87 := fm_iq Fs159 rfl
            have ws159_88 : iI s159 88 = iI s15 88 := fm_iq Fs159 rfl
            refine z_aload_n X (x := A 179) rfl (List.Mem.tail _ (List.Mem.tail _ (List.Mem.tail _ (List.Mem.head _)))) (z_getI X 179 rfl (c518_ok rfl) rfl rfl ?_)
            have b162 := bi_79 Is159
            refine z_if_eq X (t := 95) rfl rfl (rng_to _) (fun g163 => ?_) (fun g163 => ?_)
            ·
              refine z_aload_n X (x := A 179) rfl (List.Mem.tail _ (List.Mem.tail _ (List.Mem.tail _ (List.Mem.head _)))) (zcV_v0 X E 179 (As := []) (st := []) rfl rfl rfl rfl (k_skipWord G Is159 (by first | exact oq_fe813e1a g163 hps159 | omega)) rfl (Nat.le_of_ble_eq_true rfl) (fun s164 Is164 Fs164 hps164 => ?_))
              have hps164p := hps164.1
              have Gs164 := fm_tq Gs159 Fs164 rfl rfl
              have b166 := bi_77 Is164
              have ws164_75 : iI s164 75 = iI s159 75 := fm_iq Fs164 rfl
              have ws164_79 : iI s164 79 = iI s159 79 := fm_iq Fs164 rfl
              have ws164_78 : iI s164 78 = iI s159 78 := fm_iq Fs164 rfl
              have ws164_86 : iI s164 86 = iI s159 86 := fm_iq Fs164 rfl
              have ws164_87 : iI s164 87 = iI s159 87 := fm_iq Fs164 rfl
              have ws164_88 : iI s164 88 = iI s159 88 := fm_iq Fs164 rfl
              refine z_load_n X (x := e14) rfl (List.Mem.tail _ (List.Mem.head _)) (z_if_eq X (t := 119) rfl rfl ⟨by first | exact oq_6ab4c69f g19 | omega, by first | exact oq_3b8a080c g19 | omega⟩ (fun g167 => ?_) (fun g167 => ?_))
              ·
                refine z_aload_n X (x := A 179) rfl (List.Mem.tail _ (List.Mem.tail _ (List.Mem.tail _ (List.Mem.head _)))) (s_getR X 179 rfl (c518_ok rfl) rfl rfl (z_aload_n X (x := A 179) rfl (List.Mem.tail _ (List.Mem.tail _ (List.Mem.tail _ (List.Mem.head _)))) (z_getI X 179 rfl (c518_ok rfl) rfl rfl ?_)))
                have b168 := bi_87 Is164
                refine z_aload_n X (x := A 179) rfl (List.Mem.tail _ (List.Mem.tail _ (List.Mem.tail _ (List.Mem.head _)))) (z_getI X 179 rfl (c518_ok rfl) rfl rfl ?_)
                have b169 := bi_77 Is164
                refine z_ast X 183 rfl (c518_ok rfl) rfl (by first | exact b168.1 | omega) (show (iI s164 87) < 8 by first | exact oq_115b8e31 g163 hps159 | omega) (cbig_ok rfl) (wd_gen (fun s170 hs170 => ?_))
                have Is170 : Bd s170 := eqB hs170 (bd_C Is164 (show (0 : Int) ≤ (iI s164 77) ∧ (iI s164 77) ≤ 200 by first | exact ⟨b169.1, oq_ca61092c g163 hps159⟩ | omega) (rng_to _))
                have Fs170 := eqF hs170 (fm_C Gs164 (inl_ok (a := 160) rfl))
                have ws170_77 : iI s170 77 = iI s164 77 := eqI hs170 rfl
                have ws170_75 : iI s170 75 = iI s164 75 := eqI hs170 rfl
                have ws170_79 : iI s170 79 = iI s164 79 := eqI hs170 rfl
                have ws170_78 : iI s170 78 = iI s164 78 := eqI hs170 rfl
                have ws170_86 : iI s170 86 = iI s164 86 := eqI hs170 rfl
                have ws170_87 : iI s170 87 = iI s164 87 := eqI hs170 rfl
                have ws170_88 : iI s170 88 = iI s164 88 := eqI hs170 rfl
                refine z_aload_n X (x := A 179) rfl (List.Mem.tail _ (List.Mem.tail _ (List.Mem.tail _ (List.Mem.head _)))) (w_dup X.1 (ax_d X (show cdA 213 133 = some (.dup, 1, 0, 0, 0) from rfl)) rfl (z_getI X 179 rfl (c518_ok rfl) rfl rfl ?_))
                have b171 := bi_87 Is170
                refine z_const X rfl (z_add X rfl (s_putI X 179 rfl (c518_ok rfl) rfl rfl (by decide) rfl rfl rfl (wd_gen (fun s172 hs172 => ?_))))
                have Is172 : Bd s172 := eqB hs172 (bd_I Is170 (show (0 : Int) ≤ ((iI s170 87) + 1) ∧ ((iI s170 87) + 1) ≤ 8 by first | exact ⟨oq_54f49eb5 b171.1, oq_519a4a1d g163 hps159⟩ | omega) ⟨by first | exact oq_74de1e16 b171.1 | omega, by first | exact oq_3762dfb5 b171.2 | omega⟩)
                have Fs172 := eqF hs172 (fm_I Fs170 (inl_ok (a := 87) rfl))
                have vs172 : iI s172 87 = ((iI s170 87) + 1) := eqI hs172 (iI_u ⟨by first | exact oq_74de1e16 b171.1 | omega, by first | exact oq_3762dfb5 b171.2 | omega⟩)
                have ws172_77 : iI s172 77 = iI s170 77 := eqI hs172 rfl
                have ws172_75 : iI s172 75 = iI s170 75 := eqI hs172 rfl
                have ws172_79 : iI s172 79 = iI s170 79 := eqI hs172 rfl
                have ws172_78 : iI s172 78 = iI s170 78 := eqI hs172 rfl
                have ws172_86 : iI s172 86 = iI s170 86 := eqI hs172 rfl
                have ws172_88 : iI s172 88 = iI s170 88 := eqI hs172 rfl
                refine z_aload_n X (x := A 179) rfl (List.Mem.tail _ (List.Mem.tail _ (List.Mem.tail _ (List.Mem.head _)))) (zcV_i0 X E 179 (As := []) (st := []) rfl rfl rfl rfl (k_ors G Is172 (by first | exact oq_4322fef3 g163 hps159 | omega) (by first | exact oq_02f5ae4d g163 hps159 | omega) (by first | exact oq_8bd23233 ws172_78 ws170_78 ws164_78 ws159_78 ws15_78 ws11_78 ws8_78 p1 | omega) (by first | exact oq_05144e14 g163 hps159 | omega)) rfl (Nat.le_of_ble_eq_true rfl) (fun s173 e174 Is173 Fs173 hrs173 hps173 => ?_))
                have hps173p := And.intro hps173.1 (hps173.2.1)
                have Gs173 := fm_tq Fs172 Fs173 rfl rfl
                have b175 := bi_77 Is173
                have ws173_75 : iI s173 75 = iI s172 75 := fm_iq Fs173 rfl
                have b176 := bi_79 Is173
                have b177 := bi_78 Is173
                have ws173_86 : iI s173 86 = iI s172 86 := fm_iq Fs173 rfl
                have ws173_87 : iI s173 87 = iI s172 87 := fm_iq Fs173 rfl
                have ws173_88 : iI s173 88 = iI s172 88 := fm_iq Fs173 rfl
                refine w_pop X.1 (ax_d X (show cdA 213 146 = some (.pop, 1, 0, 0, 0) from rfl)) rfl (z_aload_n X (x := A 179) rfl (List.Mem.tail _ (List.Mem.tail _ (List.Mem.tail _ (List.Mem.head _)))) (z_getI X 179 rfl (c518_ok rfl) rfl rfl ?_))
                have b178 := bi_79 Is173
                refine z_if_ne X (t := 160) rfl rfl (rng_to _) (fun g179 => ?_) (fun g179 => ?_)
                ·
                  refine z_aload_n X (x := A 179) rfl (List.Mem.tail _ (List.Mem.tail _ (List.Mem.tail _ (List.Mem.head _)))) (w_dup X.1 (ax_d X (show cdA 213 161 = some (.dup, 1, 0, 0, 0) from rfl)) rfl (z_getI X 179 rfl (c518_ok rfl) rfl rfl ?_))
                  have b180 := bi_86 Is173
                  refine z_const X rfl (z_add X rfl (s_putI X 179 rfl (c518_ok rfl) rfl rfl (by decide) rfl rfl rfl (wd_gen (fun s181 hs181 => ?_))))
                  have Is181 : Bd s181 := eqB hs181 (bd_I Is173 (show (0 : Int) ≤ ((iI s173 86) + 1) ∧ ((iI s173 86) + 1) ≤ 8 by first | exact ⟨oq_54f49eb5 b180.1, oq_519a4a1d g163 hps159⟩ | omega) ⟨by first | exact oq_74de1e16 b180.1 | omega, by first | exact oq_3762dfb5 b180.2 | omega⟩)
                  have Fs181 := eqF hs181 (fm_I Gs173 (inl_ok (a := 86) rfl))
                  have vs181 : iI s181 86 = ((iI s173 86) + 1) := eqI hs181 (iI_u ⟨by first | exact oq_74de1e16 b180.1 | omega, by first | exact oq_3762dfb5 b180.2 | omega⟩)
                  have ws181_77 : iI s181 77 = iI s173 77 := eqI hs181 rfl
                  have ws181_75 : iI s181 75 = iI s173 75 := eqI hs181 rfl
                  have ws181_79 : iI s181 79 = iI s173 79 := eqI hs181 rfl
                  have ws181_78 : iI s181 78 = iI s173 78 := eqI hs181 rfl
                  have ws181_87 : iI s181 87 = iI s173 87 := eqI hs181 rfl
                  have ws181_88 : iI s181 88 = iI s173 88 := eqI hs181 rfl
                  exact w_vret X.1 q hRt (ax_d X (show cdA 213 170 = some (.return_, 1, 0, 0, 0) from rfl)) (Nat.zero_le _) (Nat.zero_le _) ⟨_, rfl, Is181, Fs181, rfl, by first | exact ⟨oq_a5b19105 g163 hps159, oq_f6078872 ws181_77 hps173.2.1 ws172_77 ws170_77 hps164.1 ws159_77 ws15_77 ws11_77 hps8.1, oq_4322fef3 g163 hps159, oq_971796bb ws181_79 g179 b178.1, oq_9a49b549 ws181_87 vs181 ws173_87 ws173_86 ws172_86 vs172 b171.2 ws170_86 ws164_86 ws159_86 g114⟩ | omega⟩
                ·
                  refine z_aload_n X (x := A 179) rfl (List.Mem.tail _ (List.Mem.tail _ (List.Mem.tail _ (List.Mem.head _)))) (z_bipush X rfl (zcV_v0 X E 179 (As := [.int (Int32.ofInt 59)]) (st := []) rfl rfl rfl rfl (k_sign G Is173 (by first | exact ⟨by decide, by decide⟩ | omega) (by first | exact oq_6db829a8 g163 hps159 | omega)) rfl (Nat.le_of_ble_eq_true rfl) (fun s182 Is182 Fs182 hps182 => ?_)))
                  have hps182p := hps182.1
                  have Gs182 := fm_tq Gs173 Fs182 rfl rfl
                  have b184 := bi_77 Is182
                  have ws182_75 : iI s182 75 = iI s173 75 := fm_iq Fs182 rfl
                  have b185 := bi_79 Is182
                  have ws182_78 : iI s182 78 = iI s173 78 := fm_iq Fs182 rfl
                  have ws182_86 : iI s182 86 = iI s173 86 := fm_iq Fs182 rfl
                  have ws182_87 : iI s182 87 = iI s173 87 := fm_iq Fs182 rfl
                  have ws182_88 : iI s182 88 = iI s173 88 := fm_iq Fs182 rfl
                  refine z_aload_n X (x := A 179) rfl (List.Mem.tail _ (List.Mem.tail _ (List.Mem.tail _ (List.Mem.head _)))) (w_dup X.1 (ax_d X (show cdA 213 161 = some (.dup, 1, 0, 0, 0) from rfl)) rfl (z_getI X 179 rfl (c518_ok rfl) rfl rfl ?_))
                  have b186 := bi_86 Is182
                  refine z_const X rfl (z_add X rfl (s_putI X 179 rfl (c518_ok rfl) rfl rfl (by decide) rfl rfl rfl (wd_gen (fun s187 hs187 => ?_))))
                  have Is187 : Bd s187 := eqB hs187 (bd_I Is182 (show (0 : Int) ≤ ((iI s182 86) + 1) ∧ ((iI s182 86) + 1) ≤ 8 by first | exact ⟨oq_54f49eb5 b186.1, oq_519a4a1d g163 hps159⟩ | omega) ⟨by first | exact oq_74de1e16 b186.1 | omega, by first | exact oq_3762dfb5 b186.2 | omega⟩)
                  have Fs187 := eqF hs187 (fm_I Gs182 (inl_ok (a := 86) rfl))
                  have vs187 : iI s187 86 = ((iI s182 86) + 1) := eqI hs187 (iI_u ⟨by first | exact oq_74de1e16 b186.1 | omega, by first | exact oq_3762dfb5 b186.2 | omega⟩)
                  have ws187_77 : iI s187 77 = iI s182 77 := eqI hs187 rfl
                  have ws187_75 : iI s187 75 = iI s182 75 := eqI hs187 rfl
                  have ws187_79 : iI s187 79 = iI s182 79 := eqI hs187 rfl
                  have ws187_78 : iI s187 78 = iI s182 78 := eqI hs187 rfl
                  have ws187_87 : iI s187 87 = iI s182 87 := eqI hs187 rfl
                  have ws187_88 : iI s187 88 = iI s182 88 := eqI hs187 rfl
                  exact w_vret X.1 q hRt (ax_d X (show cdA 213 170 = some (.return_, 1, 0, 0, 0) from rfl)) (Nat.zero_le _) (Nat.zero_le _) ⟨_, rfl, Is187, Fs187, rfl, by first | exact ⟨oq_a5b19105 g163 hps159, oq_7153c7f3 ws187_77 hps182.1 hps173.2.1 ws172_77 ws170_77 hps164.1 ws159_77 ws15_77 ws11_77 hps8.1, oq_4322fef3 g163 hps159, oq_243ee8ff g163 hps159, oq_99f5ad6f ws187_87 vs187 ws182_87 ws182_86 ws173_87 ws173_86 ws172_86 vs172 b171.2 ws170_86 ws164_86 ws159_86 g114⟩ | omega⟩
              ·
                refine z_aload_n X (x := A 179) rfl (List.Mem.tail _ (List.Mem.tail _ (List.Mem.tail _ (List.Mem.head _)))) (z_aload_n X (x := A 179) rfl (List.Mem.tail _ (List.Mem.tail _ (List.Mem.tail _ (List.Mem.head _)))) (z_getI X 179 rfl (c518_ok rfl) rfl rfl ?_))
                have b188 := bi_77 Is164
                refine s_putI X 179 rfl (c518_ok rfl) rfl rfl (by decide) rfl rfl rfl (wd_gen (fun s189 hs189 => ?_))
                have Is189 : Bd s189 := eqB hs189 (bd_I Is164 (show ((-1) : Int) ≤ (iI s164 77) ∧ (iI s164 77) ≤ 200 by first | exact ⟨oq_ca54ea22 b188.1, oq_56becbdc g167 g19⟩ | omega) (rng_to _))
                have Fs189 := eqF hs189 (fm_I Gs164 (inl_ok (a := 88) rfl))
                have vs189 : iI s189 88 = (iI s164 77) := eqI hs189 (iI_u (rng_to _))
                have ws189_77 : iI s189 77 = iI s164 77 := eqI hs189 rfl
                have ws189_75 : iI s189 75 = iI s164 75 := eqI hs189 rfl
                have ws189_79 : iI s189 79 = iI s164 79 := eqI hs189 rfl
                have ws189_78 : iI s189 78 = iI s164 78 := eqI hs189 rfl
                have ws189_86 : iI s189 86 = iI s164 86 := eqI hs189 rfl
                have ws189_87 : iI s189 87 = iI s164 87 := eqI hs189 rfl
                refine z_aload_n X (x := A 179) rfl (List.Mem.tail _ (List.Mem.tail _ (List.Mem.tail _ (List.Mem.head _)))) (zcV_i0 X E 179 (As := []) (st := []) rfl rfl rfl rfl (k_sum G Is189 (by first | exact oq_3fd14443 g167 g19 | omega) (by first | exact oq_222d1dad g167 g19 | omega) (by first | exact oq_5e64b0f9 ws189_78 ws164_78 ws159_78 ws15_78 ws11_78 ws8_78 p1 | omega)) rfl (Nat.le_of_ble_eq_true rfl) (fun s190 e191 Is190 Fs190 hrs190 hps190 => ?_))
                have hps190p := And.intro hps190.1 (hps190.2.1)
                have Gs190 := fm_tq Fs189 Fs190 rfl rfl
                have b192 := bi_77 Is190
                have ws190_75 : iI s190 75 = iI s189 75 := fm_iq Fs190 rfl
                have b193 := bi_79 Is190
                have b194 := bi_78 Is190
                have ws190_86 : iI s190 86 = iI s189 86 := fm_iq Fs190 rfl
                have ws190_87 : iI s190 87 = iI s189 87 := fm_iq Fs190 rfl
                have ws190_88 : iI s190 88 = iI s189 88 := fm_iq Fs190 rfl
                refine w_pop X.1 (ax_d X (show cdA 213 115 = some (.pop, 1, 0, 0, 0) from rfl)) rfl (z_goto X (t := 147) rfl rfl (z_aload_n X (x := A 179) rfl (List.Mem.tail _ (List.Mem.tail _ (List.Mem.tail _ (List.Mem.head _)))) (z_getI X 179 rfl (c518_ok rfl) rfl rfl ?_)))
                have b195 := bi_79 Is190
                refine z_if_ne X (t := 160) rfl rfl (rng_to _) (fun g196 => ?_) (fun g196 => ?_)
                ·
                  refine z_aload_n X (x := A 179) rfl (List.Mem.tail _ (List.Mem.tail _ (List.Mem.tail _ (List.Mem.head _)))) (w_dup X.1 (ax_d X (show cdA 213 161 = some (.dup, 1, 0, 0, 0) from rfl)) rfl (z_getI X 179 rfl (c518_ok rfl) rfl rfl ?_))
                  have b197 := bi_86 Is190
                  refine z_const X rfl (z_add X rfl (s_putI X 179 rfl (c518_ok rfl) rfl rfl (by decide) rfl rfl rfl (wd_gen (fun s198 hs198 => ?_))))
                  have Is198 : Bd s198 := eqB hs198 (bd_I Is190 (show (0 : Int) ≤ ((iI s190 86) + 1) ∧ ((iI s190 86) + 1) ≤ 8 by first | exact ⟨oq_54f49eb5 b197.1, oq_d8928268 g167 g19⟩ | omega) ⟨by first | exact oq_74de1e16 b197.1 | omega, by first | exact oq_3762dfb5 b197.2 | omega⟩)
                  have Fs198 := eqF hs198 (fm_I Gs190 (inl_ok (a := 86) rfl))
                  have vs198 : iI s198 86 = ((iI s190 86) + 1) := eqI hs198 (iI_u ⟨by first | exact oq_74de1e16 b197.1 | omega, by first | exact oq_3762dfb5 b197.2 | omega⟩)
                  have ws198_77 : iI s198 77 = iI s190 77 := eqI hs198 rfl
                  have ws198_75 : iI s198 75 = iI s190 75 := eqI hs198 rfl
                  have ws198_79 : iI s198 79 = iI s190 79 := eqI hs198 rfl
                  have ws198_78 : iI s198 78 = iI s190 78 := eqI hs198 rfl
                  have ws198_87 : iI s198 87 = iI s190 87 := eqI hs198 rfl
                  have ws198_88 : iI s198 88 = iI s190 88 := eqI hs198 rfl
                  exact w_vret X.1 q hRt (ax_d X (show cdA 213 170 = some (.return_, 1, 0, 0, 0) from rfl)) (Nat.zero_le _) (Nat.zero_le _) ⟨_, rfl, Is198, Fs198, rfl, by first | exact ⟨oq_fe04bf4e g167 g19, oq_3d9f5183 ws198_77 hps190.2.1 ws189_77 hps164.1 ws159_77 ws15_77 ws11_77 hps8.1, oq_3fd14443 g167 g19, oq_971796bb ws198_79 g196 b195.1, oq_e1d63144 ws198_87 vs198 ws190_87 ws190_86 ws189_87 ws189_86 ws164_87 ws164_86 ws159_87 ws159_86 g114 ws15_87 ws11_87 ws8_87 b6.2⟩ | omega⟩
                ·
                  refine z_aload_n X (x := A 179) rfl (List.Mem.tail _ (List.Mem.tail _ (List.Mem.tail _ (List.Mem.head _)))) (z_bipush X rfl (zcV_v0 X E 179 (As := [.int (Int32.ofInt 59)]) (st := []) rfl rfl rfl rfl (k_sign G Is190 (by first | exact ⟨by decide, by decide⟩ | omega) (by first | exact oq_1594de10 g167 g19 | omega)) rfl (Nat.le_of_ble_eq_true rfl) (fun s199 Is199 Fs199 hps199 => ?_)))
                  have hps199p := hps199.1
                  have Gs199 := fm_tq Gs190 Fs199 rfl rfl
                  have b201 := bi_77 Is199
                  have ws199_75 : iI s199 75 = iI s190 75 := fm_iq Fs199 rfl
                  have b202 := bi_79 Is199
                  have ws199_78 : iI s199 78 = iI s190 78 := fm_iq Fs199 rfl
                  have ws199_86 : iI s199 86 = iI s190 86 := fm_iq Fs199 rfl
                  have ws199_87 : iI s199 87 = iI s190 87 := fm_iq Fs199 rfl
                  have ws199_88 : iI s199 88 = iI s190 88 := fm_iq Fs199 rfl
                  refine z_aload_n X (x := A 179) rfl (List.Mem.tail _ (List.Mem.tail _ (List.Mem.tail _ (List.Mem.head _)))) (w_dup X.1 (ax_d X (show cdA 213 161 = some (.dup, 1, 0, 0, 0) from rfl)) rfl (z_getI X 179 rfl (c518_ok rfl) rfl rfl ?_))
                  have b203 := bi_86 Is199
                  refine z_const X rfl (z_add X rfl (s_putI X 179 rfl (c518_ok rfl) rfl rfl (by decide) rfl rfl rfl (wd_gen (fun s204 hs204 => ?_))))
                  have Is204 : Bd s204 := eqB hs204 (bd_I Is199 (show (0 : Int) ≤ ((iI s199 86) + 1) ∧ ((iI s199 86) + 1) ≤ 8 by first | exact ⟨oq_54f49eb5 b203.1, oq_d8928268 g167 g19⟩ | omega) ⟨by first | exact oq_74de1e16 b203.1 | omega, by first | exact oq_3762dfb5 b203.2 | omega⟩)
                  have Fs204 := eqF hs204 (fm_I Gs199 (inl_ok (a := 86) rfl))
                  have vs204 : iI s204 86 = ((iI s199 86) + 1) := eqI hs204 (iI_u ⟨by first | exact oq_74de1e16 b203.1 | omega, by first | exact oq_3762dfb5 b203.2 | omega⟩)
                  have ws204_77 : iI s204 77 = iI s199 77 := eqI hs204 rfl
                  have ws204_75 : iI s204 75 = iI s199 75 := eqI hs204 rfl
                  have ws204_79 : iI s204 79 = iI s199 79 := eqI hs204 rfl
                  have ws204_78 : iI s204 78 = iI s199 78 := eqI hs204 rfl
                  have ws204_87 : iI s204 87 = iI s199 87 := eqI hs204 rfl
                  have ws204_88 : iI s204 88 = iI s199 88 := eqI hs204 rfl
                  exact w_vret X.1 q hRt (ax_d X (show cdA 213 170 = some (.return_, 1, 0, 0, 0) from rfl)) (Nat.zero_le _) (Nat.zero_le _) ⟨_, rfl, Is204, Fs204, rfl, by first | exact ⟨oq_fe04bf4e g167 g19, oq_fac99100 ws204_77 hps199.1 hps190.2.1 ws189_77 hps164.1 ws159_77 ws15_77 ws11_77 hps8.1, oq_3fd14443 g167 g19, oq_3e825001 g167 g19, oq_27685c07 ws204_87 vs204 ws199_87 ws199_86 ws190_87 ws190_86 ws189_87 ws189_86 ws164_87 ws164_86 ws159_87 ws159_86 g114 ws15_87 ws11_87 ws8_87 b6.2⟩ | omega⟩
            ·
              exact w_vret X.1 q hRt (ax_d X (show cdA 213 94 = some (.return_, 1, 0, 0, 0) from rfl)) (Nat.zero_le _) (Nat.zero_le _) ⟨_, rfl, Is159, Gs159, rfl, by first | exact ⟨oq_d0299403 ws159_78 ws15_78 ws11_78 ws8_78 p1 b4.1, oq_3b5dd946 ws159_77 hps8.1 ws11_77 ws15_77, oq_1acd77f7 ws159_77 g112 re18.1 he18 ws15_77 hps15 ws11_77 hps8.2.2 b2.2, oq_f7664523 g163 b162.1, oq_641a7aee ws159_87 ws159_86 g114 ws15_87 ws11_87 ws8_87 b6.2⟩ | omega⟩
        ·
          refine z_aload_n X (x := A 179) rfl (List.Mem.tail _ (List.Mem.tail _ (List.Mem.tail _ (List.Mem.head _)))) (z_const X rfl (z_aload_n X (x := A 179) rfl (List.Mem.tail _ (List.Mem.tail _ (List.Mem.tail _ (List.Mem.head _)))) (z_getI X 179 rfl (c518_ok rfl) rfl rfl ?_)))
          have b205 := bi_77 Is15
          refine zcV_v0 X E 179 (As := [.int (Int32.ofInt 1), .int (Int32.ofInt (iI s15 77))]) (st := []) rfl rfl rfl rfl (k_wrong G Is15 (by first | exact ⟨by decide, by decide⟩ | omega) (by first | exact ⟨oq_ca54ea22 b205.1, b205.2⟩ | omega)) rfl (Nat.le_of_ble_eq_true rfl) (fun s206 Is206 Fs206 hps206 => ?_)
          have Gs206 := fm_tq Gs15 Fs206 rfl rfl
          have ws206_77 : iI s206 77 = iI s15 77 := fm_iq Fs206 rfl
          have ws206_75 : iI s206 75 = iI s15 75 := fm_iq Fs206 rfl
          have b208 := bi_79 Is206
          have ws206_78 : iI s206 78 = iI s15 78 := fm_iq Fs206 rfl
          have ws206_86 : iI s206 86 = iI s15 86 := fm_iq Fs206 rfl
          have ws206_87 : iI s206 87 = iI s15 87 := fm_iq Fs206 rfl
          have ws206_88 : iI s206 88 = iI s15 88 := fm_iq Fs206 rfl
          refine z_goto X (t := 87) rfl rfl (z_aload_n X (x := A 179) rfl (List.Mem.tail _ (List.Mem.tail _ (List.Mem.tail _ (List.Mem.head _)))) (z_getI X 179 rfl (c518_ok rfl) rfl rfl ?_))
          have b209 := bi_79 Is206
          refine z_if_eq X (t := 95) rfl rfl (rng_to _) (fun g210 => ?_) (fun g210 => ?_)
          ·
            refine z_aload_n X (x := A 179) rfl (List.Mem.tail _ (List.Mem.tail _ (List.Mem.tail _ (List.Mem.head _)))) (zcV_v0 X E 179 (As := []) (st := []) rfl rfl rfl rfl (k_skipWord G Is206 (by first | exact oq_fe813e1a g210 hps206 | omega)) rfl (Nat.le_of_ble_eq_true rfl) (fun s211 Is211 Fs211 hps211 => ?_))
            have hps211p := hps211.1
            have Gs211 := fm_tq Gs206 Fs211 rfl rfl
            have b213 := bi_77 Is211
            have ws211_75 : iI s211 75 = iI s206 75 := fm_iq Fs211 rfl
            have ws211_79 : iI s211 79 = iI s206 79 := fm_iq Fs211 rfl
            have ws211_78 : iI s211 78 = iI s206 78 := fm_iq Fs211 rfl
            have ws211_86 : iI s211 86 = iI s206 86 := fm_iq Fs211 rfl
            have ws211_87 : iI s211 87 = iI s206 87 := fm_iq Fs211 rfl
            have ws211_88 : iI s211 88 = iI s206 88 := fm_iq Fs211 rfl
            refine z_load_n X (x := e14) rfl (List.Mem.tail _ (List.Mem.head _)) (z_if_eq X (t := 119) rfl rfl ⟨by first | exact oq_6ab4c69f g19 | omega, by first | exact oq_3b8a080c g19 | omega⟩ (fun g214 => ?_) (fun g214 => ?_))
            ·
              refine z_aload_n X (x := A 179) rfl (List.Mem.tail _ (List.Mem.tail _ (List.Mem.tail _ (List.Mem.head _)))) (s_getR X 179 rfl (c518_ok rfl) rfl rfl (z_aload_n X (x := A 179) rfl (List.Mem.tail _ (List.Mem.tail _ (List.Mem.tail _ (List.Mem.head _)))) (z_getI X 179 rfl (c518_ok rfl) rfl rfl ?_)))
              have b215 := bi_87 Is211
              refine z_aload_n X (x := A 179) rfl (List.Mem.tail _ (List.Mem.tail _ (List.Mem.tail _ (List.Mem.head _)))) (z_getI X 179 rfl (c518_ok rfl) rfl rfl ?_)
              have b216 := bi_77 Is211
              refine z_ast X 183 rfl (c518_ok rfl) rfl (by first | exact b215.1 | omega) (show (iI s211 87) < 8 by first | exact oq_115b8e31 g210 hps206 | omega) (cbig_ok rfl) (wd_gen (fun s217 hs217 => ?_))
              have Is217 : Bd s217 := eqB hs217 (bd_C Is211 (show (0 : Int) ≤ (iI s211 77) ∧ (iI s211 77) ≤ 200 by first | exact ⟨b216.1, oq_ca61092c g210 hps206⟩ | omega) (rng_to _))
              have Fs217 := eqF hs217 (fm_C Gs211 (inl_ok (a := 160) rfl))
              have ws217_77 : iI s217 77 = iI s211 77 := eqI hs217 rfl
              have ws217_75 : iI s217 75 = iI s211 75 := eqI hs217 rfl
              have ws217_79 : iI s217 79 = iI s211 79 := eqI hs217 rfl
              have ws217_78 : iI s217 78 = iI s211 78 := eqI hs217 rfl
              have ws217_86 : iI s217 86 = iI s211 86 := eqI hs217 rfl
              have ws217_87 : iI s217 87 = iI s211 87 := eqI hs217 rfl
              have ws217_88 : iI s217 88 = iI s211 88 := eqI hs217 rfl
              refine z_aload_n X (x := A 179) rfl (List.Mem.tail _ (List.Mem.tail _ (List.Mem.tail _ (List.Mem.head _)))) (w_dup X.1 (ax_d X (show cdA 213 133 = some (.dup, 1, 0, 0, 0) from rfl)) rfl (z_getI X 179 rfl (c518_ok rfl) rfl rfl ?_))
              have b218 := bi_87 Is217
              refine z_const X rfl (z_add X rfl (s_putI X 179 rfl (c518_ok rfl) rfl rfl (by decide) rfl rfl rfl (wd_gen (fun s219 hs219 => ?_))))
              have Is219 : Bd s219 := eqB hs219 (bd_I Is217 (show (0 : Int) ≤ ((iI s217 87) + 1) ∧ ((iI s217 87) + 1) ≤ 8 by first | exact ⟨oq_54f49eb5 b218.1, oq_519a4a1d g210 hps206⟩ | omega) ⟨by first | exact oq_74de1e16 b218.1 | omega, by first | exact oq_3762dfb5 b218.2 | omega⟩)
              have Fs219 := eqF hs219 (fm_I Fs217 (inl_ok (a := 87) rfl))
              have vs219 : iI s219 87 = ((iI s217 87) + 1) := eqI hs219 (iI_u ⟨by first | exact oq_74de1e16 b218.1 | omega, by first | exact oq_3762dfb5 b218.2 | omega⟩)
              have ws219_77 : iI s219 77 = iI s217 77 := eqI hs219 rfl
              have ws219_75 : iI s219 75 = iI s217 75 := eqI hs219 rfl
              have ws219_79 : iI s219 79 = iI s217 79 := eqI hs219 rfl
              have ws219_78 : iI s219 78 = iI s217 78 := eqI hs219 rfl
              have ws219_86 : iI s219 86 = iI s217 86 := eqI hs219 rfl
              have ws219_88 : iI s219 88 = iI s217 88 := eqI hs219 rfl
              refine z_aload_n X (x := A 179) rfl (List.Mem.tail _ (List.Mem.tail _ (List.Mem.tail _ (List.Mem.head _)))) (zcV_i0 X E 179 (As := []) (st := []) rfl rfl rfl rfl (k_ors G Is219 (by first | exact oq_4322fef3 g210 hps206 | omega) (by first | exact oq_02f5ae4d g210 hps206 | omega) (by first | exact oq_8bd23233 ws219_78 ws217_78 ws211_78 ws206_78 ws15_78 ws11_78 ws8_78 p1 | omega) (by first | exact oq_05144e14 g210 hps206 | omega)) rfl (Nat.le_of_ble_eq_true rfl) (fun s220 e221 Is220 Fs220 hrs220 hps220 => ?_))
              have hps220p := And.intro hps220.1 (hps220.2.1)
              have Gs220 := fm_tq Fs219 Fs220 rfl rfl
              have b222 := bi_77 Is220
              have ws220_75 : iI s220 75 = iI s219 75 := fm_iq Fs220 rfl
              have b223 := bi_79 Is220
              have b224 := bi_78 Is220
              have ws220_86 : iI s220 86 = iI s219 86 := fm_iq Fs220 rfl
              have ws220_87 : iI s220 87 = iI s219 87 := fm_iq Fs220 rfl
              have ws220_88 : iI s220 88 = iI s219 88 := fm_iq Fs220 rfl
              refine w_pop X.1 (ax_d X (show cdA 213 146 = some (.pop, 1, 0, 0, 0) from rfl)) rfl (z_aload_n X (x := A 179) rfl (List.Mem.tail _ (List.Mem.tail _ (List.Mem.tail _ (List.Mem.head _)))) (z_getI X 179 rfl (c518_ok rfl) rfl rfl ?_))
              have b225 := bi_79 Is220
              refine z_if_ne X (t := 160) rfl rfl (rng_to _) (fun g226 => ?_) (fun g226 => ?_)
              ·
                refine z_aload_n X (x := A 179) rfl (List.Mem.tail _ (List.Mem.tail _ (List.Mem.tail _ (List.Mem.head _)))) (w_dup X.1 (ax_d X (show cdA 213 161 = some (.dup, 1, 0, 0, 0) from rfl)) rfl (z_getI X 179 rfl (c518_ok rfl) rfl rfl ?_))
                have b227 := bi_86 Is220
                refine z_const X rfl (z_add X rfl (s_putI X 179 rfl (c518_ok rfl) rfl rfl (by decide) rfl rfl rfl (wd_gen (fun s228 hs228 => ?_))))
                have Is228 : Bd s228 := eqB hs228 (bd_I Is220 (show (0 : Int) ≤ ((iI s220 86) + 1) ∧ ((iI s220 86) + 1) ≤ 8 by first | exact ⟨oq_54f49eb5 b227.1, oq_519a4a1d g210 hps206⟩ | omega) ⟨by first | exact oq_74de1e16 b227.1 | omega, by first | exact oq_3762dfb5 b227.2 | omega⟩)
                have Fs228 := eqF hs228 (fm_I Gs220 (inl_ok (a := 86) rfl))
                have vs228 : iI s228 86 = ((iI s220 86) + 1) := eqI hs228 (iI_u ⟨by first | exact oq_74de1e16 b227.1 | omega, by first | exact oq_3762dfb5 b227.2 | omega⟩)
                have ws228_77 : iI s228 77 = iI s220 77 := eqI hs228 rfl
                have ws228_75 : iI s228 75 = iI s220 75 := eqI hs228 rfl
                have ws228_79 : iI s228 79 = iI s220 79 := eqI hs228 rfl
                have ws228_78 : iI s228 78 = iI s220 78 := eqI hs228 rfl
                have ws228_87 : iI s228 87 = iI s220 87 := eqI hs228 rfl
                have ws228_88 : iI s228 88 = iI s220 88 := eqI hs228 rfl
                exact w_vret X.1 q hRt (ax_d X (show cdA 213 170 = some (.return_, 1, 0, 0, 0) from rfl)) (Nat.zero_le _) (Nat.zero_le _) ⟨_, rfl, Is228, Fs228, rfl, by first | exact ⟨oq_a5b19105 g210 hps206, oq_f6078872 ws228_77 hps220.2.1 ws219_77 ws217_77 hps211.1 ws206_77 ws15_77 ws11_77 hps8.1, oq_4322fef3 g210 hps206, oq_971796bb ws228_79 g226 b225.1, oq_4297ca08 ws228_87 vs228 ws220_87 ws220_86 ws219_86 vs219 ws217_87 ws217_86 ws211_87 ws211_86 ws206_87 ws206_86 ws15_87 ws15_86 ws11_87 ws11_86 ws8_87 ws8_86 p3⟩ | omega⟩
              ·
                refine z_aload_n X (x := A 179) rfl (List.Mem.tail _ (List.Mem.tail _ (List.Mem.tail _ (List.Mem.head _)))) (z_bipush X rfl (zcV_v0 X E 179 (As := [.int (Int32.ofInt 59)]) (st := []) rfl rfl rfl rfl (k_sign G Is220 (by first | exact ⟨by decide, by decide⟩ | omega) (by first | exact oq_6db829a8 g210 hps206 | omega)) rfl (Nat.le_of_ble_eq_true rfl) (fun s229 Is229 Fs229 hps229 => ?_)))
                have hps229p := hps229.1
                have Gs229 := fm_tq Gs220 Fs229 rfl rfl
                have b231 := bi_77 Is229
                have ws229_75 : iI s229 75 = iI s220 75 := fm_iq Fs229 rfl
                have b232 := bi_79 Is229
                have ws229_78 : iI s229 78 = iI s220 78 := fm_iq Fs229 rfl
                have ws229_86 : iI s229 86 = iI s220 86 := fm_iq Fs229 rfl
                have ws229_87 : iI s229 87 = iI s220 87 := fm_iq Fs229 rfl
                have ws229_88 : iI s229 88 = iI s220 88 := fm_iq Fs229 rfl
                refine z_aload_n X (x := A 179) rfl (List.Mem.tail _ (List.Mem.tail _ (List.Mem.tail _ (List.Mem.head _)))) (w_dup X.1 (ax_d X (show cdA 213 161 = some (.dup, 1, 0, 0, 0) from rfl)) rfl (z_getI X 179 rfl (c518_ok rfl) rfl rfl ?_))
                have b233 := bi_86 Is229
                refine z_const X rfl (z_add X rfl (s_putI X 179 rfl (c518_ok rfl) rfl rfl (by decide) rfl rfl rfl (wd_gen (fun s234 hs234 => ?_))))
                have Is234 : Bd s234 := eqB hs234 (bd_I Is229 (show (0 : Int) ≤ ((iI s229 86) + 1) ∧ ((iI s229 86) + 1) ≤ 8 by first | exact ⟨oq_54f49eb5 b233.1, oq_519a4a1d g210 hps206⟩ | omega) ⟨by first | exact oq_74de1e16 b233.1 | omega, by first | exact oq_3762dfb5 b233.2 | omega⟩)
                have Fs234 := eqF hs234 (fm_I Gs229 (inl_ok (a := 86) rfl))
                have vs234 : iI s234 86 = ((iI s229 86) + 1) := eqI hs234 (iI_u ⟨by first | exact oq_74de1e16 b233.1 | omega, by first | exact oq_3762dfb5 b233.2 | omega⟩)
                have ws234_77 : iI s234 77 = iI s229 77 := eqI hs234 rfl
                have ws234_75 : iI s234 75 = iI s229 75 := eqI hs234 rfl
                have ws234_79 : iI s234 79 = iI s229 79 := eqI hs234 rfl
                have ws234_78 : iI s234 78 = iI s229 78 := eqI hs234 rfl
                have ws234_87 : iI s234 87 = iI s229 87 := eqI hs234 rfl
                have ws234_88 : iI s234 88 = iI s229 88 := eqI hs234 rfl
                exact w_vret X.1 q hRt (ax_d X (show cdA 213 170 = some (.return_, 1, 0, 0, 0) from rfl)) (Nat.zero_le _) (Nat.zero_le _) ⟨_, rfl, Is234, Fs234, rfl, by first | exact ⟨oq_a5b19105 g210 hps206, oq_7153c7f3 ws234_77 hps229.1 hps220.2.1 ws219_77 ws217_77 hps211.1 ws206_77 ws15_77 ws11_77 hps8.1, oq_4322fef3 g210 hps206, oq_243ee8ff g210 hps206, oq_ba81b00c ws234_87 vs234 ws229_87 ws229_86 ws220_87 ws220_86 ws219_86 vs219 ws217_87 ws217_86 ws211_87 ws211_86 ws206_87 ws206_86 ws15_87 ws15_86 ws11_87 ws11_86 ws8_87 ws8_86 p3⟩ | omega⟩
            ·
              refine z_aload_n X (x := A 179) rfl (List.Mem.tail _ (List.Mem.tail _ (List.Mem.tail _ (List.Mem.head _)))) (z_aload_n X (x := A 179) rfl (List.Mem.tail _ (List.Mem.tail _ (List.Mem.tail _ (List.Mem.head _)))) (z_getI X 179 rfl (c518_ok rfl) rfl rfl ?_))
              have b235 := bi_77 Is211
              refine s_putI X 179 rfl (c518_ok rfl) rfl rfl (by decide) rfl rfl rfl (wd_gen (fun s236 hs236 => ?_))
              have Is236 : Bd s236 := eqB hs236 (bd_I Is211 (show ((-1) : Int) ≤ (iI s211 77) ∧ (iI s211 77) ≤ 200 by first | exact ⟨oq_ca54ea22 b235.1, oq_56becbdc g214 g19⟩ | omega) (rng_to _))
              have Fs236 := eqF hs236 (fm_I Gs211 (inl_ok (a := 88) rfl))
              have vs236 : iI s236 88 = (iI s211 77) := eqI hs236 (iI_u (rng_to _))
              have ws236_77 : iI s236 77 = iI s211 77 := eqI hs236 rfl
              have ws236_75 : iI s236 75 = iI s211 75 := eqI hs236 rfl
              have ws236_79 : iI s236 79 = iI s211 79 := eqI hs236 rfl
              have ws236_78 : iI s236 78 = iI s211 78 := eqI hs236 rfl
              have ws236_86 : iI s236 86 = iI s211 86 := eqI hs236 rfl
              have ws236_87 : iI s236 87 = iI s211 87 := eqI hs236 rfl
              refine z_aload_n X (x := A 179) rfl (List.Mem.tail _ (List.Mem.tail _ (List.Mem.tail _ (List.Mem.head _)))) (zcV_i0 X E 179 (As := []) (st := []) rfl rfl rfl rfl (k_sum G Is236 (by first | exact oq_3fd14443 g214 g19 | omega) (by first | exact oq_222d1dad g214 g19 | omega) (by first | exact oq_5e64b0f9 ws236_78 ws211_78 ws206_78 ws15_78 ws11_78 ws8_78 p1 | omega)) rfl (Nat.le_of_ble_eq_true rfl) (fun s237 e238 Is237 Fs237 hrs237 hps237 => ?_))
              have hps237p := And.intro hps237.1 (hps237.2.1)
              have Gs237 := fm_tq Fs236 Fs237 rfl rfl
              have b239 := bi_77 Is237
              have ws237_75 : iI s237 75 = iI s236 75 := fm_iq Fs237 rfl
              have b240 := bi_79 Is237
              have b241 := bi_78 Is237
              have ws237_86 : iI s237 86 = iI s236 86 := fm_iq Fs237 rfl
              have ws237_87 : iI s237 87 = iI s236 87 := fm_iq Fs237 rfl
              have ws237_88 : iI s237 88 = iI s236 88 := fm_iq Fs237 rfl
              refine w_pop X.1 (ax_d X (show cdA 213 115 = some (.pop, 1, 0, 0, 0) from rfl)) rfl (z_goto X (t := 147) rfl rfl (z_aload_n X (x := A 179) rfl (List.Mem.tail _ (List.Mem.tail _ (List.Mem.tail _ (List.Mem.head _)))) (z_getI X 179 rfl (c518_ok rfl) rfl rfl ?_)))
              have b242 := bi_79 Is237
              refine z_if_ne X (t := 160) rfl rfl (rng_to _) (fun g243 => ?_) (fun g243 => ?_)
              ·
                refine z_aload_n X (x := A 179) rfl (List.Mem.tail _ (List.Mem.tail _ (List.Mem.tail _ (List.Mem.head _)))) (w_dup X.1 (ax_d X (show cdA 213 161 = some (.dup, 1, 0, 0, 0) from rfl)) rfl (z_getI X 179 rfl (c518_ok rfl) rfl rfl ?_))
                have b244 := bi_86 Is237
                refine z_const X rfl (z_add X rfl (s_putI X 179 rfl (c518_ok rfl) rfl rfl (by decide) rfl rfl rfl (wd_gen (fun s245 hs245 => ?_))))
                have Is245 : Bd s245 := eqB hs245 (bd_I Is237 (show (0 : Int) ≤ ((iI s237 86) + 1) ∧ ((iI s237 86) + 1) ≤ 8 by first | exact ⟨oq_54f49eb5 b244.1, oq_d8928268 g214 g19⟩ | omega) ⟨by first | exact oq_74de1e16 b244.1 | omega, by first | exact oq_3762dfb5 b244.2 | omega⟩)
                have Fs245 := eqF hs245 (fm_I Gs237 (inl_ok (a := 86) rfl))
                have vs245 : iI s245 86 = ((iI s237 86) + 1) := eqI hs245 (iI_u ⟨by first | exact oq_74de1e16 b244.1 | omega, by first | exact oq_3762dfb5 b244.2 | omega⟩)
                have ws245_77 : iI s245 77 = iI s237 77 := eqI hs245 rfl
                have ws245_75 : iI s245 75 = iI s237 75 := eqI hs245 rfl
                have ws245_79 : iI s245 79 = iI s237 79 := eqI hs245 rfl
                have ws245_78 : iI s245 78 = iI s237 78 := eqI hs245 rfl
                have ws245_87 : iI s245 87 = iI s237 87 := eqI hs245 rfl
                have ws245_88 : iI s245 88 = iI s237 88 := eqI hs245 rfl
                exact w_vret X.1 q hRt (ax_d X (show cdA 213 170 = some (.return_, 1, 0, 0, 0) from rfl)) (Nat.zero_le _) (Nat.zero_le _) ⟨_, rfl, Is245, Fs245, rfl, by first | exact ⟨oq_fe04bf4e g214 g19, oq_3d9f5183 ws245_77 hps237.2.1 ws236_77 hps211.1 ws206_77 ws15_77 ws11_77 hps8.1, oq_3fd14443 g214 g19, oq_971796bb ws245_79 g243 b242.1, oq_a4ea2c38 ws245_87 vs245 ws237_87 ws237_86 ws236_87 ws236_86 ws211_87 ws211_86 ws206_87 ws206_86 ws15_87 ws15_86 ws11_87 ws11_86 ws8_87 ws8_86 p3⟩ | omega⟩
              ·
                refine z_aload_n X (x := A 179) rfl (List.Mem.tail _ (List.Mem.tail _ (List.Mem.tail _ (List.Mem.head _)))) (z_bipush X rfl (zcV_v0 X E 179 (As := [.int (Int32.ofInt 59)]) (st := []) rfl rfl rfl rfl (k_sign G Is237 (by first | exact ⟨by decide, by decide⟩ | omega) (by first | exact oq_1594de10 g214 g19 | omega)) rfl (Nat.le_of_ble_eq_true rfl) (fun s246 Is246 Fs246 hps246 => ?_)))
                have hps246p := hps246.1
                have Gs246 := fm_tq Gs237 Fs246 rfl rfl
                have b248 := bi_77 Is246
                have ws246_75 : iI s246 75 = iI s237 75 := fm_iq Fs246 rfl
                have b249 := bi_79 Is246
                have ws246_78 : iI s246 78 = iI s237 78 := fm_iq Fs246 rfl
                have ws246_86 : iI s246 86 = iI s237 86 := fm_iq Fs246 rfl
                have ws246_87 : iI s246 87 = iI s237 87 := fm_iq Fs246 rfl
                have ws246_88 : iI s246 88 = iI s237 88 := fm_iq Fs246 rfl
                refine z_aload_n X (x := A 179) rfl (List.Mem.tail _ (List.Mem.tail _ (List.Mem.tail _ (List.Mem.head _)))) (w_dup X.1 (ax_d X (show cdA 213 161 = some (.dup, 1, 0, 0, 0) from rfl)) rfl (z_getI X 179 rfl (c518_ok rfl) rfl rfl ?_))
                have b250 := bi_86 Is246
                refine z_const X rfl (z_add X rfl (s_putI X 179 rfl (c518_ok rfl) rfl rfl (by decide) rfl rfl rfl (wd_gen (fun s251 hs251 => ?_))))
                have Is251 : Bd s251 := eqB hs251 (bd_I Is246 (show (0 : Int) ≤ ((iI s246 86) + 1) ∧ ((iI s246 86) + 1) ≤ 8 by first | exact ⟨oq_54f49eb5 b250.1, oq_d8928268 g214 g19⟩ | omega) ⟨by first | exact oq_74de1e16 b250.1 | omega, by first | exact oq_3762dfb5 b250.2 | omega⟩)
                have Fs251 := eqF hs251 (fm_I Gs246 (inl_ok (a := 86) rfl))
                have vs251 : iI s251 86 = ((iI s246 86) + 1) := eqI hs251 (iI_u ⟨by first | exact oq_74de1e16 b250.1 | omega, by first | exact oq_3762dfb5 b250.2 | omega⟩)
                have ws251_77 : iI s251 77 = iI s246 77 := eqI hs251 rfl
                have ws251_75 : iI s251 75 = iI s246 75 := eqI hs251 rfl
                have ws251_79 : iI s251 79 = iI s246 79 := eqI hs251 rfl
                have ws251_78 : iI s251 78 = iI s246 78 := eqI hs251 rfl
                have ws251_87 : iI s251 87 = iI s246 87 := eqI hs251 rfl
                have ws251_88 : iI s251 88 = iI s246 88 := eqI hs251 rfl
                exact w_vret X.1 q hRt (ax_d X (show cdA 213 170 = some (.return_, 1, 0, 0, 0) from rfl)) (Nat.zero_le _) (Nat.zero_le _) ⟨_, rfl, Is251, Fs251, rfl, by first | exact ⟨oq_fe04bf4e g214 g19, oq_fac99100 ws251_77 hps246.1 hps237.2.1 ws236_77 hps211.1 ws206_77 ws15_77 ws11_77 hps8.1, oq_3fd14443 g214 g19, oq_3e825001 g214 g19, oq_ed925733 ws251_87 vs251 ws246_87 ws246_86 ws237_87 ws237_86 ws236_87 ws236_86 ws211_87 ws211_86 ws206_87 ws206_86 ws15_87 ws15_86 ws11_87 ws11_86 ws8_87 ws8_86 p3⟩ | omega⟩
          ·
            exact w_vret X.1 q hRt (ax_d X (show cdA 213 94 = some (.return_, 1, 0, 0, 0) from rfl)) (Nat.zero_le _) (Nat.zero_le _) ⟨_, rfl, Is206, Gs206, rfl, by first | exact ⟨oq_d0299403 ws206_78 ws15_78 ws11_78 ws8_78 p1 b4.1, oq_3b5dd946 ws206_77 hps8.1 ws11_77 ws15_77, oq_03163c14 ws206_77 ws15_77 ws11_77 hps8.2.1 b2.2 p2, oq_f7664523 g210 b209.1, oq_969cff60 ws206_87 ws206_86 ws15_87 ws15_86 ws11_87 ws11_86 ws8_87 ws8_86 p3⟩ | omega⟩
    refine z_icmp_ne X (t := 47) rfl rfl hrs8 hrs15 (fun g252 => ?_) (fun g252 => ?_)
    ·
      exact z_const X rfl (N17 _ (Or.inl ⟨g252, rfl⟩))
    ·
      exact z_const X rfl (z_goto X (t := 48) rfl rfl (N17 _ (Or.inr (⟨g252, rfl⟩))))
  refine z_icmp_ne X (t := 24) rfl rfl hrs8 hrs11 (fun g253 => ?_) (fun g253 => ?_)
  ·
    exact z_const X rfl (N13 _ (Or.inl ⟨g253, rfl⟩))
  ·
    exact z_const X rfl (z_goto X (t := 25) rfl rfl (N13 _ (Or.inr (⟨g253, rfl⟩))))
theorem k_rules (G : GX l s0 D tys a0 dT) (I : Bd s) {x : Int} (p0 : rng x) : CT l s0 D A dT 214 (rmN 214) [.ref (A 179), .int (Int32.ofInt x)] s (fun o t => Bd t ∧ Fm [73, 74, 76, 82, 83, 84, 85, 77, 75, 78, 79, 80, 81, 86, 87, 88] [160, 159, 158] s t ∧ ∃ e, o = .inl (some (.int (Int32.ofInt e))) ∧ rng e ∧ ((0 ≤ x ∧ x ≤ iI s 74 ∧ iI t 74 = 0) ∨ ((x < 0 ∨ iI s 74 < x) ∧ iI t 74 = iI s 74))) := by
  refine ct_of G (by decide) (Nat.le_of_ble_eq_true rfl) (fun k X E hRt hXt q => ?_)
  show WS k 0 [(0, .ref (A 179)), (1, .int (Int32.ofInt x))] [] _ 0 0
  have F : Fm [73, 74, 76, 82, 83, 84, 85, 77, 75, 78, 79, 80, 81, 86, 87, 88] [160, 159, 158] s s := fm_rf _ _ s
  have b1 := bi_73 I
  have b2 := bi_74 I
  have b3 := bi_77 I
  have b4 := bi_75 I
  have b5 := bi_79 I
  have b6 := bi_78 I
  have b7 := bi_86 I
  have b8 := bi_87 I
  have b9 := bi_88 I
  have L61 : ∀ (n : Nat) (t : PS) (xv : Int), Bd t → Fm [73, 74, 76, 82, 83, 84, 85, 77, 75, 78, 79, 80, 81, 86, 87, 88] [160, 159, 158] s t → (xv = x ∧ (0 ≤ x ∧ x ≤ iI s 74) ∧ iI t 74 = 0 ∧ iI t 75 = x ∧ iI t 78 = 0 ∧ iI t 77 ≤ 203 ∧ (iI t 79 = 0 → iI t 77 ≤ iI t 75) ∧ iI t 87 ≤ iI t 86) → (400 - iI t 77 + (9 - iI t 79) : Int).toNat < n → (∀ (t' : PS), Bd t' → Fm [73, 74, 76, 82, 83, 84, 85, 77, 75, 78, 79, 80, 81, 86, 87, 88] [160, 159, 158] s t' → (xv = x ∧ (0 ≤ x ∧ x ≤ iI s 74) ∧ iI t' 74 = 0 ∧ iI t' 75 = x ∧ iI t' 78 = 0 ∧ iI t' 77 ≤ 203 ∧ (iI t' 79 = 0 → iI t' 77 ≤ iI t' 75) ∧ iI t' 87 ≤ iI t' 86) → WS k 90 [(0, .ref (A 179)), (1, .int (Int32.ofInt xv))] [] (Wd A dT t') 0 0) → WS k 61 [(0, .ref (A 179)), (1, .int (Int32.ofInt xv))] [] (Wd A dT t) 0 0 := by
    intro n
    induction n with
    | zero =>
      intro t xv I F hi hm kx
      exact absurd hm (Nat.not_lt_zero _)
    | succ n ih =>
      intro t xv I F hi hm kx
      have b1001 := bi_73 I
      have b1002 := bi_74 I
      have b1003 := bi_77 I
      have b1004 := bi_75 I
      have b1005 := bi_79 I
      have b1006 := bi_78 I
      have b1007 := bi_86 I
      have b1008 := bi_87 I
      have b1009 := bi_88 I
      refine z_aload_n X (x := A 179) rfl (List.Mem.head _) (z_getI X 179 rfl (c518_ok rfl) rfl rfl ?_)
      have b1010 := bi_79 I
      refine z_if_ne X (t := 90) rfl rfl (rng_to _) (fun g1011 => ?_) (fun g1011 => ?_)
      ·
        refine WS_pq [0, 1] (lv' := [(0, .ref (A 179)), (1, .int (Int32.ofInt xv))]) rfl ?_
        exact kx _  I F (by first | exact ⟨hi.1, And.intro (hi.2.1.1) (hi.2.1.2), hi.2.2.1, hi.2.2.2.1, hi.2.2.2.2.1, hi.2.2.2.2.2.1, hi.2.2.2.2.2.2.1, hi.2.2.2.2.2.2.2⟩ | omega)
      ·
        refine z_aload_n X (x := A 179) rfl (List.Mem.head _) (z_getI X 179 rfl (c518_ok rfl) rfl rfl ?_)
        have b1012 := bi_77 I
        refine z_aload_n X (x := A 179) rfl (List.Mem.head _) (z_getI X 179 rfl (c518_ok rfl) rfl rfl ?_)
        have b1013 := bi_75 I
        refine z_icmp_ge X (t := 90) rfl rfl (rng_to _) (rng_to _) (fun g1014 => ?_) (fun g1014 => ?_)
        ·
          refine WS_pq [0, 1] (lv' := [(0, .ref (A 179)), (1, .int (Int32.ofInt xv))]) rfl ?_
          exact kx _  I F (by first | exact ⟨hi.1, And.intro (hi.2.1.1) (hi.2.1.2), hi.2.2.1, hi.2.2.2.1, hi.2.2.2.2.1, hi.2.2.2.2.2.1, hi.2.2.2.2.2.2.1, hi.2.2.2.2.2.2.2⟩ | omega)
        ·
          refine z_aload_n X (x := A 179) rfl (List.Mem.head _) (zcV_v0 X E 179 (As := []) (st := []) rfl rfl rfl rfl (k_clause G I (by first | exact g1011 | omega) (by first | exact hi.2.2.2.2.1 | omega) (by first | exact oq_161a6600 g1014 | omega) (by first | exact hi.2.2.2.2.2.2.2 | omega)) rfl (Nat.le_of_ble_eq_true rfl) (fun s1015 Is1015 Fs1015 hps1015 => ?_))
          have hps1015p := And.intro hps1015.1 (And.intro hps1015.2.1 (And.intro hps1015.2.2.1 (hps1015.2.2.2.2)))
          have Gs1015 := fm_tq F Fs1015 rfl rfl
          have ws1015_73 : iI s1015 73 = iI t 73 := fm_iq Fs1015 rfl
          have ws1015_74 : iI s1015 74 = iI t 74 := fm_iq Fs1015 rfl
          have b1017 := bi_77 Is1015
          have ws1015_75 : iI s1015 75 = iI t 75 := fm_iq Fs1015 rfl
          have b1018 := bi_79 Is1015
          have b1019 := bi_78 Is1015
          have b1020 := bi_86 Is1015
          have b1021 := bi_87 Is1015
          have b1022 := bi_88 Is1015
          refine z_aload_n X (x := A 179) rfl (List.Mem.head _) (zcV_v0 X E 179 (As := []) (st := []) rfl rfl rfl rfl (k_blanks G Is1015 (by first | exact oq_2ebc9f52 hps1015.2.2.1 | omega)) rfl (Nat.le_of_ble_eq_true rfl) (fun s1023 Is1023 Fs1023 hps1023 => ?_))
          have hps1023p := hps1023.1
          have Gs1023 := fm_tq Gs1015 Fs1023 rfl rfl
          have ws1023_73 : iI s1023 73 = iI s1015 73 := fm_iq Fs1023 rfl
          have ws1023_74 : iI s1023 74 = iI s1015 74 := fm_iq Fs1023 rfl
          have b1025 := bi_77 Is1023
          have ws1023_75 : iI s1023 75 = iI s1015 75 := fm_iq Fs1023 rfl
          have ws1023_79 : iI s1023 79 = iI s1015 79 := fm_iq Fs1023 rfl
          have ws1023_78 : iI s1023 78 = iI s1015 78 := fm_iq Fs1023 rfl
          have ws1023_86 : iI s1023 86 = iI s1015 86 := fm_iq Fs1023 rfl
          have ws1023_87 : iI s1023 87 = iI s1015 87 := fm_iq Fs1023 rfl
          have ws1023_88 : iI s1023 88 = iI s1015 88 := fm_iq Fs1023 rfl
          refine z_goto X (t := 61) rfl rfl (WS_pq [0, 1] (lv' := [(0, .ref (A 179)), (1, .int (Int32.ofInt xv))]) rfl ?_)
          exact ih _ xv Is1023 Gs1023 (by first | exact ⟨hi.1, And.intro (hi.2.1.1) (hi.2.1.2), oq_7fe879e0 ws1023_74 ws1015_74 hi.2.2.1 b1002.1, oq_878618b1 ws1023_75 ws1015_75 hi.2.2.2.1, oq_333640b7 ws1023_78 hps1015.1 b1019.1, oq_208ad85f hps1023.2 ws1015_75 hps1015.2.2.1 b1013.2, oq_722b4cb2 ws1023_79 ws1023_75 hps1023.2 b1018.1 ws1015_75 hps1015.2.2.2.1, oq_e7b9ecab ws1023_86 ws1023_87 hps1015.2.2.2.2⟩ | omega) (by first | exact qk_me hm (oq_5b7b6df3 ws1023_79 hps1023.1 b1018.1 hps1015.2.2.2.1 hps1015.2.1 g1011) (oq_faaf1092 g1011 b1012.2) | omega) kx
  have L115 : ∀ (n : Nat) (t : PS) (xv c : Int), Bd t → Fm [73, 74, 76, 82, 83, 84, 85, 77, 75, 78, 79, 80, 81, 86, 87, 88] [160, 159, 158] s t → (xv = x ∧ (0 ≤ x ∧ x ≤ iI s 74) ∧ iI t 74 = 0 ∧ 0 ≤ c ∧ c ≤ 200 ∧ iI t 87 ≤ iI t 86 ∧ iI t 75 ≤ 200) → (200 - c : Int).toNat < n → (∀ (t' : PS) (c' : Int), Bd t' → Fm [73, 74, 76, 82, 83, 84, 85, 77, 75, 78, 79, 80, 81, 86, 87, 88] [160, 159, 158] s t' → (xv = x ∧ (0 ≤ x ∧ x ≤ iI s 74) ∧ iI t' 74 = 0 ∧ 0 ≤ c' ∧ c' ≤ 200 ∧ iI t' 87 ≤ iI t' 86 ∧ iI t' 75 ≤ 200) → WS k 138 [(0, .ref (A 179)), (1, .int (Int32.ofInt xv)), (2, .int (Int32.ofInt c'))] [] (Wd A dT t') 0 0) → WS k 115 [(0, .ref (A 179)), (1, .int (Int32.ofInt xv)), (2, .int (Int32.ofInt c))] [] (Wd A dT t) 0 0 := by
    intro n
    induction n with
    | zero =>
      intro t xv c I F hi hm kx
      exact absurd hm (Nat.not_lt_zero _)
    | succ n ih =>
      intro t xv c I F hi hm kx
      have b2001 := bi_73 I
      have b2002 := bi_74 I
      have b2003 := bi_77 I
      have b2004 := bi_75 I
      have b2005 := bi_79 I
      have b2006 := bi_78 I
      have b2007 := bi_86 I
      have b2008 := bi_87 I
      have b2009 := bi_88 I
      refine z_load_n X (x := c) rfl (List.Mem.tail _ (List.Mem.tail _ (List.Mem.head _))) (z_load_n X (x := xv) rfl (List.Mem.tail _ (List.Mem.head _)) (z_icmp_ge X (t := 138) rfl rfl ⟨by first | exact oq_fa4e5087 hi.2.2.2.1 | omega, by first | exact oq_52af2b96 hi.2.2.2.2.1 | omega⟩ ⟨by first | exact oq_b3df2c6f hi.1 hi.2.1.1 | omega, by first | exact oq_60a194f9 hi.1 p0.2 | omega⟩ (fun g2010 => ?_) (fun g2010 => ?_)))
      ·
        refine WS_pq [0, 1, 2] (lv' := [(0, .ref (A 179)), (1, .int (Int32.ofInt xv)), (2, .int (Int32.ofInt c))]) rfl ?_
        exact kx _ c I F (by first | exact ⟨hi.1, And.intro (hi.2.1.1) (hi.2.1.2), hi.2.2.1, hi.2.2.2.1, hi.2.2.2.2.1, hi.2.2.2.2.2.1, b2004.2⟩ | omega)
      ·
        refine z_aload_n X (x := A 179) rfl (List.Mem.head _) (s_getR X 179 rfl (c518_ok rfl) rfl rfl (z_load_n X (x := c) rfl (List.Mem.tail _ (List.Mem.tail _ (List.Mem.head _))) (z_aload_n X (x := A 179) rfl (List.Mem.head _) (s_getR X 179 rfl (c518_ok rfl) rfl rfl (z_load_n X (x := c) rfl (List.Mem.tail _ (List.Mem.tail _ (List.Mem.head _))) (z_ald X 180 rfl (c518_ok rfl) rfl (by first | exact hi.2.2.2.1 | omega) (show c < 200 by first | exact oq_aa587420 g2010 hi.1 hi.2.1.2 b2.2 | omega) (cbig_ok rfl) ?_))))))
        have b2011 := bc_157 I (show (c).toNat < 200 by first | exact oq_379144f0 g2010 hi.1 hi.2.1.2 b2.2 | omega)
        refine z_ast X 181 rfl (c518_ok rfl) rfl (by first | exact hi.2.2.2.1 | omega) (show c < 200 by first | exact oq_aa587420 g2010 hi.1 hi.2.1.2 b2.2 | omega) (cbig_ok rfl) (wd_gen (fun s2012 hs2012 => ?_))
        have Is2012 : Bd s2012 := eqB hs2012 (bd_C I (show (0 : Int) ≤ (iC t 157 (c).toNat) ∧ (iC t 157 (c).toNat) ≤ 255 by first | exact ⟨b2011.1, b2011.2⟩ | omega) (rng_to _))
        have Fs2012 := eqF hs2012 (fm_C F (inl_ok (a := 158) rfl))
        have ws2012_73 : iI s2012 73 = iI t 73 := eqI hs2012 rfl
        have ws2012_74 : iI s2012 74 = iI t 74 := eqI hs2012 rfl
        have ws2012_77 : iI s2012 77 = iI t 77 := eqI hs2012 rfl
        have ws2012_75 : iI s2012 75 = iI t 75 := eqI hs2012 rfl
        have ws2012_79 : iI s2012 79 = iI t 79 := eqI hs2012 rfl
        have ws2012_78 : iI s2012 78 = iI t 78 := eqI hs2012 rfl
        have ws2012_86 : iI s2012 86 = iI t 86 := eqI hs2012 rfl
        have ws2012_87 : iI s2012 87 = iI t 87 := eqI hs2012 rfl
        have ws2012_88 : iI s2012 88 = iI t 88 := eqI hs2012 rfl
        refine z_inc X (x := c) (lv' := [(2, .int (Int32.ofInt (c + 1))), (0, .ref (A 179)), (1, .int (Int32.ofInt xv))]) rfl (by decide) (List.Mem.tail _ (List.Mem.tail _ (List.Mem.head _))) (fun _ h => h) (z_goto X (t := 115) rfl rfl (WS_pq [1, 2, 0] (lv' := [(0, .ref (A 179)), (1, .int (Int32.ofInt xv)), (2, .int (Int32.ofInt (c + 1)))]) rfl ?_))
        exact ih _ xv (c + 1) Is2012 Fs2012 (by first | exact ⟨hi.1, And.intro (hi.2.1.1) (hi.2.1.2), oq_333640b7 ws2012_74 hi.2.2.1 b2002.1, oq_54f49eb5 hi.2.2.2.1, oq_ab052403 g2010 hi.1 hi.2.1.2 b2.2, oq_e7b9ecab ws2012_86 ws2012_87 hi.2.2.2.2.2.1, oq_b1fe1193 ws2012_75 b2004.2⟩ | omega) (by first | exact qk_me hm (by decide) (oq_6d25f473 g2010 hi.1 hi.2.1.2 b2.2) | omega) kx
  have L169 : ∀ (n : Nat) (t : PS) (xv c : Int), Bd t → Fm [73, 74, 76, 82, 83, 84, 85, 77, 75, 78, 79, 80, 81, 86, 87, 88] [160, 159, 158] s t → (xv = x ∧ (0 ≤ x ∧ x ≤ iI s 74) ∧ iI t 74 = 0 ∧ 0 ≤ c ∧ c ≤ 8) → (8 - c : Int).toNat < n → (∀ (t' : PS) (c' : Int), Bd t' → Fm [73, 74, 76, 82, 83, 84, 85, 77, 75, 78, 79, 80, 81, 86, 87, 88] [160, 159, 158] s t' → (xv = x ∧ (0 ≤ x ∧ x ≤ iI s 74) ∧ iI t' 74 = 0 ∧ 0 ≤ c' ∧ c' ≤ 8) → WS k 195 [(0, .ref (A 179)), (1, .int (Int32.ofInt xv)), (2, .int (Int32.ofInt c'))] [] (Wd A dT t') 0 0) → WS k 169 [(0, .ref (A 179)), (1, .int (Int32.ofInt xv)), (2, .int (Int32.ofInt c))] [] (Wd A dT t) 0 0 := by
    intro n
    induction n with
    | zero =>
      intro t xv c I F hi hm kx
      exact absurd hm (Nat.not_lt_zero _)
    | succ n ih =>
      intro t xv c I F hi hm kx
      have b3001 := bi_73 I
      have b3002 := bi_74 I
      have b3003 := bi_77 I
      have b3004 := bi_75 I
      have b3005 := bi_79 I
      have b3006 := bi_78 I
      have b3007 := bi_86 I
      have b3008 := bi_87 I
      have b3009 := bi_88 I
      refine z_load_n X (x := c) rfl (List.Mem.tail _ (List.Mem.tail _ (List.Mem.head _))) (z_aload_n X (x := A 179) rfl (List.Mem.head _) (z_getI X 179 rfl (c518_ok rfl) rfl rfl ?_))
      have b3010 := bi_84 I
      refine z_icmp_ge X (t := 195) rfl rfl ⟨by first | exact oq_fa4e5087 hi.2.2.2.1 | omega, by first | exact oq_d3f5d874 hi.2.2.2.2 | omega⟩ (rng_to _) (fun g3011 => ?_) (fun g3011 => ?_)
      ·
        refine WS_pq [0, 1, 2] (lv' := [(0, .ref (A 179)), (1, .int (Int32.ofInt xv)), (2, .int (Int32.ofInt c))]) rfl ?_
        exact kx _ c I F (by first | exact ⟨hi.1, And.intro (hi.2.1.1) (hi.2.1.2), hi.2.2.1, hi.2.2.2.1, hi.2.2.2.2⟩ | omega)
      ·
        refine z_aload_n X (x := A 179) rfl (List.Mem.head _) (s_getR X 179 rfl (c518_ok rfl) rfl rfl (z_load_n X (x := c) rfl (List.Mem.tail _ (List.Mem.tail _ (List.Mem.head _))) (z_aload_n X (x := A 179) rfl (List.Mem.head _) (s_getR X 179 rfl (c518_ok rfl) rfl rfl (z_load_n X (x := c) rfl (List.Mem.tail _ (List.Mem.tail _ (List.Mem.head _))) (z_ald X 183 rfl (c518_ok rfl) rfl (by first | exact hi.2.2.2.1 | omega) (show c < 8 by first | exact oq_7f5b2e79 g3011 b3010.2 | omega) (cbig_ok rfl) ?_))))))
        have b3012 := bc_160 I (show (c).toNat < 8 by first | exact oq_67be0351 g3011 b3010.2 | omega)
        refine z_ast X 182 rfl (c518_ok rfl) rfl (by first | exact hi.2.2.2.1 | omega) (show c < 8 by first | exact oq_7f5b2e79 g3011 b3010.2 | omega) (cbig_ok rfl) (wd_gen (fun s3013 hs3013 => ?_))
        have Is3013 : Bd s3013 := eqB hs3013 (bd_C I (show (0 : Int) ≤ (iC t 160 (c).toNat) ∧ (iC t 160 (c).toNat) ≤ 200 by first | exact ⟨b3012.1, b3012.2⟩ | omega) (rng_to _))
        have Fs3013 := eqF hs3013 (fm_C F (inl_ok (a := 159) rfl))
        have ws3013_73 : iI s3013 73 = iI t 73 := eqI hs3013 rfl
        have ws3013_74 : iI s3013 74 = iI t 74 := eqI hs3013 rfl
        have ws3013_77 : iI s3013 77 = iI t 77 := eqI hs3013 rfl
        have ws3013_75 : iI s3013 75 = iI t 75 := eqI hs3013 rfl
        have ws3013_79 : iI s3013 79 = iI t 79 := eqI hs3013 rfl
        have ws3013_78 : iI s3013 78 = iI t 78 := eqI hs3013 rfl
        have ws3013_86 : iI s3013 86 = iI t 86 := eqI hs3013 rfl
        have ws3013_87 : iI s3013 87 = iI t 87 := eqI hs3013 rfl
        have ws3013_88 : iI s3013 88 = iI t 88 := eqI hs3013 rfl
        refine z_inc X (x := c) (lv' := [(2, .int (Int32.ofInt (c + 1))), (0, .ref (A 179)), (1, .int (Int32.ofInt xv))]) rfl (by decide) (List.Mem.tail _ (List.Mem.tail _ (List.Mem.head _))) (fun _ h => h) (z_goto X (t := 169) rfl rfl (WS_pq [1, 2, 0] (lv' := [(0, .ref (A 179)), (1, .int (Int32.ofInt xv)), (2, .int (Int32.ofInt (c + 1)))]) rfl ?_))
        exact ih _ xv (c + 1) Is3013 Fs3013 (by first | exact ⟨hi.1, And.intro (hi.2.1.1) (hi.2.1.2), oq_333640b7 ws3013_74 hi.2.2.1 b3002.1, oq_54f49eb5 hi.2.2.2.1, oq_f6204d84 g3011 b3010.2⟩ | omega) (by first | exact qk_me hm (by decide) (oq_ccc5e5e0 g3011 b3010.2) | omega) kx
  refine z_aload_n X (x := A 179) rfl (List.Mem.head _) (z_const X rfl (s_putI X 179 rfl (c518_ok rfl) rfl rfl (by decide) rfl rfl rfl (wd_gen (fun s10 hs10 => ?_))))
  have Is10 : Bd s10 := eqB hs10 (bd_I I (show (0 : Int) ≤ 0 ∧ 0 ≤ 3 by first | exact ⟨by decide, by decide⟩ | omega) (by decide))
  have Fs10 := eqF hs10 (fm_I F (inl_ok (a := 73) rfl))
  have vs10 : iI s10 73 = 0 := eqI hs10 (iI_u (by decide))
  have ws10_74 : iI s10 74 = iI s 74 := eqI hs10 rfl
  have ws10_77 : iI s10 77 = iI s 77 := eqI hs10 rfl
  have ws10_75 : iI s10 75 = iI s 75 := eqI hs10 rfl
  have ws10_79 : iI s10 79 = iI s 79 := eqI hs10 rfl
  have ws10_78 : iI s10 78 = iI s 78 := eqI hs10 rfl
  have ws10_86 : iI s10 86 = iI s 86 := eqI hs10 rfl
  have ws10_87 : iI s10 87 = iI s 87 := eqI hs10 rfl
  have ws10_88 : iI s10 88 = iI s 88 := eqI hs10 rfl
  refine z_aload_n X (x := A 179) rfl (List.Mem.head _) (z_load_n X (x := x) rfl (List.Mem.tail _ (List.Mem.head _)) (z_const X rfl (z_aload_n X (x := A 179) rfl (List.Mem.head _) (z_getI X 179 rfl (c518_ok rfl) rfl rfl ?_))))
  have b11 := bi_74 Is10
  refine zcS_i0 X E (As := [.int (Int32.ofInt x), .int (Int32.ofInt 0), .int (Int32.ofInt (iI s10 74))]) (st := [.ref (A 179)]) rfl rfl (k_in G Is10 (by first | exact ⟨p0.1, p0.2⟩ | omega) (by first | exact ⟨by decide, by decide⟩ | omega) (by first | exact ⟨oq_fa4e5087 b11.1, oq_52af2b96 b11.2⟩ | omega)) rfl (Nat.le_of_ble_eq_true rfl) (fun s12 e13 Is12 Fs12 hrs12 hps12 => ?_)
  have Gs12 := fm_tq Fs10 Fs12 rfl rfl
  have ws12_73 : iI s12 73 = iI s10 73 := fm_iq Fs12 rfl
  have ws12_74 : iI s12 74 = iI s10 74 := fm_iq Fs12 rfl
  have ws12_77 : iI s12 77 = iI s10 77 := fm_iq Fs12 rfl
  have ws12_75 : iI s12 75 = iI s10 75 := fm_iq Fs12 rfl
  have ws12_79 : iI s12 79 = iI s10 79 := fm_iq Fs12 rfl
  have ws12_78 : iI s12 78 = iI s10 78 := fm_iq Fs12 rfl
  have ws12_86 : iI s12 86 = iI s10 86 := fm_iq Fs12 rfl
  have ws12_87 : iI s12 87 = iI s10 87 := fm_iq Fs12 rfl
  have ws12_88 : iI s12 88 = iI s10 88 := fm_iq Fs12 rfl
  have N14 : ∀ e15 : Int, (((e13 ≠ 0) ∧ e15 = 0) ∨ ((e13 = 0) ∧ e15 = 1)) → WS k 23 [(0, .ref (A 179)), (1, .int (Int32.ofInt x))] [.int (Int32.ofInt e15), .ref (A 179)] (Wd A dT s12) 0 0 := by
    intro e15 he15
    have re15 : 0 ≤ e15 ∧ e15 ≤ 1 := by first | (clear he15 hps12; omega) | (clear hps12; omega) | omega
    refine z_const X rfl (zcV_i0 X E 179 (As := [.int (Int32.ofInt e15), .int (Int32.ofInt 1)]) (st := []) rfl rfl rfl rfl (k_bad G Is12 (by first | exact oq_31e518ae re15.2 re15.1 | omega) (by first | exact ⟨by decide, by decide⟩ | omega)) rfl (Nat.le_of_ble_eq_true rfl) (fun s16 e17 Is16 Fs16 hrs16 hps16 => ?_))
    have Gs16 := fm_tq Gs12 Fs16 rfl rfl
    have b18 := bi_73 Is16
    have ws16_74 : iI s16 74 = iI s12 74 := fm_iq Fs16 rfl
    have ws16_77 : iI s16 77 = iI s12 77 := fm_iq Fs16 rfl
    have ws16_75 : iI s16 75 = iI s12 75 := fm_iq Fs16 rfl
    have ws16_79 : iI s16 79 = iI s12 79 := fm_iq Fs16 rfl
    have ws16_78 : iI s16 78 = iI s12 78 := fm_iq Fs16 rfl
    have ws16_86 : iI s16 86 = iI s12 86 := fm_iq Fs16 rfl
    have ws16_87 : iI s16 87 = iI s12 87 := fm_iq Fs16 rfl
    have ws16_88 : iI s16 88 = iI s12 88 := fm_iq Fs16 rfl
    refine z_if_eq X (t := 32) rfl rfl hrs16 (fun g19 => ?_) (fun g19 => ?_)
    ·
      refine z_aload_n X (x := A 179) rfl (List.Mem.head _) (z_const X rfl (s_putI X 179 rfl (c518_ok rfl) rfl rfl (by decide) rfl rfl rfl (wd_gen (fun s20 hs20 => ?_))))
      have Is20 : Bd s20 := eqB hs20 (bd_I Is16 (show (0 : Int) ≤ 0 ∧ 0 ≤ 200 by first | exact ⟨by decide, by decide⟩ | omega) (by decide))
      have Fs20 := eqF hs20 (fm_I Gs16 (inl_ok (a := 74) rfl))
      have vs20 : iI s20 74 = 0 := eqI hs20 (iI_u (by decide))
      have ws20_73 : iI s20 73 = iI s16 73 := eqI hs20 rfl
      have ws20_77 : iI s20 77 = iI s16 77 := eqI hs20 rfl
      have ws20_75 : iI s20 75 = iI s16 75 := eqI hs20 rfl
      have ws20_79 : iI s20 79 = iI s16 79 := eqI hs20 rfl
      have ws20_78 : iI s20 78 = iI s16 78 := eqI hs20 rfl
      have ws20_86 : iI s20 86 = iI s16 86 := eqI hs20 rfl
      have ws20_87 : iI s20 87 = iI s16 87 := eqI hs20 rfl
      have ws20_88 : iI s20 88 = iI s16 88 := eqI hs20 rfl
      refine z_aload_n X (x := A 179) rfl (List.Mem.head _) (z_load_n X (x := x) rfl (List.Mem.tail _ (List.Mem.head _)) (zcV_v0 X E 179 (As := [.int (Int32.ofInt x)]) (st := []) rfl rfl rfl rfl (k_beginText G Is20 (by first | exact ⟨oq_802cfd8b g19 hps16.2.1 re15.2 he15 hps12, oq_1dd7f250 g19 hps16.2.1 re15.2 he15 hps12 b11.2⟩ | omega)) rfl (Nat.le_of_ble_eq_true rfl) (fun s21 Is21 Fs21 hps21 => ?_)))
      have Gs21 := fm_tq Fs20 Fs21 rfl rfl
      have ws21_73 : iI s21 73 = iI s20 73 := fm_iq Fs21 rfl
      have ws21_74 : iI s21 74 = iI s20 74 := fm_iq Fs21 rfl
      have b23 := bi_77 Is21
      have b24 := bi_75 Is21
      have b25 := bi_79 Is21
      have b26 := bi_78 Is21
      have ws21_86 : iI s21 86 = iI s20 86 := fm_iq Fs21 rfl
      have ws21_87 : iI s21 87 = iI s20 87 := fm_iq Fs21 rfl
      have ws21_88 : iI s21 88 = iI s20 88 := fm_iq Fs21 rfl
      refine z_aload_n X (x := A 179) rfl (List.Mem.head _) (z_const X rfl (s_putI X 179 rfl (c518_ok rfl) rfl rfl (by decide) rfl rfl rfl (wd_gen (fun s27 hs27 => ?_))))
      have Is27 : Bd s27 := eqB hs27 (bd_I Is21 (show (0 : Int) ≤ 0 ∧ 0 ≤ 8 by first | exact ⟨by decide, by decide⟩ | omega) (by decide))
      have Fs27 := eqF hs27 (fm_I Gs21 (inl_ok (a := 86) rfl))
      have vs27 : iI s27 86 = 0 := eqI hs27 (iI_u (by decide))
      have ws27_73 : iI s27 73 = iI s21 73 := eqI hs27 rfl
      have ws27_74 : iI s27 74 = iI s21 74 := eqI hs27 rfl
      have ws27_77 : iI s27 77 = iI s21 77 := eqI hs27 rfl
      have ws27_75 : iI s27 75 = iI s21 75 := eqI hs27 rfl
      have ws27_79 : iI s27 79 = iI s21 79 := eqI hs27 rfl
      have ws27_78 : iI s27 78 = iI s21 78 := eqI hs27 rfl
      have ws27_87 : iI s27 87 = iI s21 87 := eqI hs27 rfl
      have ws27_88 : iI s27 88 = iI s21 88 := eqI hs27 rfl
      refine z_aload_n X (x := A 179) rfl (List.Mem.head _) (z_const X rfl (s_putI X 179 rfl (c518_ok rfl) rfl rfl (by decide) rfl rfl rfl (wd_gen (fun s28 hs28 => ?_))))
      have Is28 : Bd s28 := eqB hs28 (bd_I Is27 (show (0 : Int) ≤ 0 ∧ 0 ≤ 8 by first | exact ⟨by decide, by decide⟩ | omega) (by decide))
      have Fs28 := eqF hs28 (fm_I Fs27 (inl_ok (a := 87) rfl))
      have vs28 : iI s28 87 = 0 := eqI hs28 (iI_u (by decide))
      have ws28_73 : iI s28 73 = iI s27 73 := eqI hs28 rfl
      have ws28_74 : iI s28 74 = iI s27 74 := eqI hs28 rfl
      have ws28_77 : iI s28 77 = iI s27 77 := eqI hs28 rfl
      have ws28_75 : iI s28 75 = iI s27 75 := eqI hs28 rfl
      have ws28_79 : iI s28 79 = iI s27 79 := eqI hs28 rfl
      have ws28_78 : iI s28 78 = iI s27 78 := eqI hs28 rfl
      have ws28_86 : iI s28 86 = iI s27 86 := eqI hs28 rfl
      have ws28_88 : iI s28 88 = iI s27 88 := eqI hs28 rfl
      refine z_aload_n X (x := A 179) rfl (List.Mem.head _) (z_const X rfl (s_putI X 179 rfl (c518_ok rfl) rfl rfl (by decide) rfl rfl rfl (wd_gen (fun s29 hs29 => ?_))))
      have Is29 : Bd s29 := eqB hs29 (bd_I Is28 (show ((-1) : Int) ≤ (-1) ∧ (-1) ≤ 200 by first | exact ⟨by decide, by decide⟩ | omega) (by decide))
      have Fs29 := eqF hs29 (fm_I Fs28 (inl_ok (a := 88) rfl))
      have vs29 : iI s29 88 = (-1) := eqI hs29 (iI_u (by decide))
      have ws29_73 : iI s29 73 = iI s28 73 := eqI hs29 rfl
      have ws29_74 : iI s29 74 = iI s28 74 := eqI hs29 rfl
      have ws29_77 : iI s29 77 = iI s28 77 := eqI hs29 rfl
      have ws29_75 : iI s29 75 = iI s28 75 := eqI hs29 rfl
      have ws29_79 : iI s29 79 = iI s28 79 := eqI hs29 rfl
      have ws29_78 : iI s29 78 = iI s28 78 := eqI hs29 rfl
      have ws29_86 : iI s29 86 = iI s28 86 := eqI hs29 rfl
      have ws29_87 : iI s29 87 = iI s28 87 := eqI hs29 rfl
      refine z_aload_n X (x := A 179) rfl (List.Mem.head _) (zcV_v0 X E 179 (As := []) (st := []) rfl rfl rfl rfl (k_blanks G Is29 (by first | exact oq_1cee15ac ws29_77 ws28_77 ws27_77 hps21.2.1 | omega)) rfl (Nat.le_of_ble_eq_true rfl) (fun s30 Is30 Fs30 hps30 => ?_))
      have hps30p := hps30.1
      have Gs30 := fm_tq Fs29 Fs30 rfl rfl
      have ws30_73 : iI s30 73 = iI s29 73 := fm_iq Fs30 rfl
      have ws30_74 : iI s30 74 = iI s29 74 := fm_iq Fs30 rfl
      have b32 := bi_77 Is30
      have ws30_75 : iI s30 75 = iI s29 75 := fm_iq Fs30 rfl
      have ws30_79 : iI s30 79 = iI s29 79 := fm_iq Fs30 rfl
      have ws30_78 : iI s30 78 = iI s29 78 := fm_iq Fs30 rfl
      have ws30_86 : iI s30 86 = iI s29 86 := fm_iq Fs30 rfl
      have ws30_87 : iI s30 87 = iI s29 87 := fm_iq Fs30 rfl
      have ws30_88 : iI s30 88 = iI s29 88 := fm_iq Fs30 rfl
      refine WS_pq [0, 1] (lv' := [(0, .ref (A 179)), (1, .int (Int32.ofInt x))]) rfl (L61 ((400 - iI s30 77 + (9 - iI s30 79) : Int).toNat + 1) s30 x Is30 Gs30 (by first | exact ⟨by decide, oq_891312a5 g19 hps16.2.1 re15.2 he15 hps12 ws10_74, oq_d9a35dd1 ws30_74 ws29_74 ws28_74 ws27_74 ws21_74 vs20, oq_b4d295d9 ws30_75 hps21.1 ws29_75 ws28_75 ws27_75, oq_d0299403 ws30_78 ws29_78 ws28_78 ws27_78 hps21.2.2.1 b26.1, oq_d2a9c83d hps30.2 ws29_75 ws29_77 ws28_75 ws28_77 ws27_75 ws27_77 b24.2 hps21.2.1, oq_0fb212fc ws30_75 hps30.2 ws29_75 ws29_77 ws28_75 ws28_77 ws27_75 ws27_77 b24.1 hps21.2.1, oq_606f3a06 ws30_87 ws30_86 ws29_87 ws29_86 ws28_86 vs28 vs27⟩ | omega) (Nat.lt_succ_self _) ?_)
      intro s33  Is33 Fs33 hs33
      have b34 := bi_73 Is33
      have b35 := bi_74 Is33
      have b36 := bi_77 Is33
      have b37 := bi_75 Is33
      have b38 := bi_79 Is33
      have b39 := bi_78 Is33
      have b40 := bi_86 Is33
      have b41 := bi_87 Is33
      have b42 := bi_88 Is33
      refine z_aload_n X (x := A 179) rfl (List.Mem.head _) (z_aload_n X (x := A 179) rfl (List.Mem.head _) (z_getI X 179 rfl (c518_ok rfl) rfl rfl ?_))
      have b43 := bi_80 Is33
      refine s_putI X 179 rfl (c518_ok rfl) rfl rfl (by decide) rfl rfl rfl (wd_gen (fun s44 hs44 => ?_))
      have Is44 : Bd s44 := eqB hs44 (bd_I Is33 (show ((-1) : Int) ≤ (iI s33 80) ∧ (iI s33 80) ≤ 400 by first | exact ⟨b43.1, b43.2⟩ | omega) (rng_to _))
      have Fs44 := eqF hs44 (fm_I Fs33 (inl_ok (a := 76) rfl))
      have vs44 : iI s44 76 = (iI s33 80) := eqI hs44 (iI_u (rng_to _))
      have ws44_73 : iI s44 73 = iI s33 73 := eqI hs44 rfl
      have ws44_74 : iI s44 74 = iI s33 74 := eqI hs44 rfl
      have ws44_77 : iI s44 77 = iI s33 77 := eqI hs44 rfl
      have ws44_75 : iI s44 75 = iI s33 75 := eqI hs44 rfl
      have ws44_79 : iI s44 79 = iI s33 79 := eqI hs44 rfl
      have ws44_78 : iI s44 78 = iI s33 78 := eqI hs44 rfl
      have ws44_86 : iI s44 86 = iI s33 86 := eqI hs44 rfl
      have ws44_87 : iI s44 87 = iI s33 87 := eqI hs44 rfl
      have ws44_88 : iI s44 88 = iI s33 88 := eqI hs44 rfl
      refine z_aload_n X (x := A 179) rfl (List.Mem.head _) (z_getI X 179 rfl (c518_ok rfl) rfl rfl ?_)
      have b45 := bi_79 Is44
      refine z_if_eq X (t := 113) rfl rfl (rng_to _) (fun g46 => ?_) (fun g46 => ?_)
      ·
        refine z_const X rfl (z_store_n X (lv' := [(2, .int (Int32.ofInt 0)), (0, .ref (A 179)), (1, .int (Int32.ofInt x))]) rfl (by decide) (fun _ h => h) (WS_pq [1, 2, 0] (lv' := [(0, .ref (A 179)), (1, .int (Int32.ofInt x)), (2, .int (Int32.ofInt 0))]) rfl (L115 ((200 - 0 : Int).toNat + 1) s44 x 0 Is44 Fs44 (by first | exact ⟨by decide, And.intro (hs33.2.1.1) (hs33.2.1.2), oq_333640b7 ws44_74 hs33.2.2.1 b35.1, by decide, by decide, oq_e7b9ecab ws44_86 ws44_87 hs33.2.2.2.2.2.2.2, oq_b1fe1193 ws44_75 b37.2⟩ | omega) (Nat.lt_succ_self _) ?_)))
        intro s47 x48 Is47 Fs47 hs47
        have b49 := bi_73 Is47
        have b50 := bi_74 Is47
        have b51 := bi_77 Is47
        have b52 := bi_75 Is47
        have b53 := bi_79 Is47
        have b54 := bi_78 Is47
        have b55 := bi_86 Is47
        have b56 := bi_87 Is47
        have b57 := bi_88 Is47
        refine z_aload_n X (x := A 179) rfl (List.Mem.head _) (z_load_n X (x := x) rfl (List.Mem.tail _ (List.Mem.head _)) (s_putI X 179 rfl (c518_ok rfl) rfl rfl (by decide) rfl rfl rfl (wd_gen (fun s58 hs58 => ?_))))
        have Is58 : Bd s58 := eqB hs58 (bd_I Is47 (show (0 : Int) ≤ x ∧ x ≤ 200 by first | exact ⟨hs47.2.1.1, oq_9a94ea72 hs47.2.1.2 b2.2⟩ | omega) ⟨by first | exact p0.1 | omega, by first | exact p0.2 | omega⟩)
        have Fs58 := eqF hs58 (fm_I Fs47 (inl_ok (a := 82) rfl))
        have vs58 : iI s58 82 = x := eqI hs58 (iI_u ⟨by first | exact p0.1 | omega, by first | exact p0.2 | omega⟩)
        have ws58_73 : iI s58 73 = iI s47 73 := eqI hs58 rfl
        have ws58_74 : iI s58 74 = iI s47 74 := eqI hs58 rfl
        have ws58_77 : iI s58 77 = iI s47 77 := eqI hs58 rfl
        have ws58_75 : iI s58 75 = iI s47 75 := eqI hs58 rfl
        have ws58_79 : iI s58 79 = iI s47 79 := eqI hs58 rfl
        have ws58_78 : iI s58 78 = iI s47 78 := eqI hs58 rfl
        have ws58_86 : iI s58 86 = iI s47 86 := eqI hs58 rfl
        have ws58_87 : iI s58 87 = iI s47 87 := eqI hs58 rfl
        have ws58_88 : iI s58 88 = iI s47 88 := eqI hs58 rfl
        refine z_aload_n X (x := A 179) rfl (List.Mem.head _) (z_aload_n X (x := A 179) rfl (List.Mem.head _) (z_getI X 179 rfl (c518_ok rfl) rfl rfl ?_))
        have b59 := bi_86 Is58
        refine s_putI X 179 rfl (c518_ok rfl) rfl rfl (by decide) rfl rfl rfl (wd_gen (fun s60 hs60 => ?_))
        have Is60 : Bd s60 := eqB hs60 (bd_I Is58 (show (0 : Int) ≤ (iI s58 86) ∧ (iI s58 86) ≤ 8 by first | exact ⟨b59.1, b59.2⟩ | omega) (rng_to _))
        have Fs60 := eqF hs60 (fm_I Fs58 (inl_ok (a := 83) rfl))
        have vs60 : iI s60 83 = (iI s58 86) := eqI hs60 (iI_u (rng_to _))
        have ws60_73 : iI s60 73 = iI s58 73 := eqI hs60 rfl
        have ws60_74 : iI s60 74 = iI s58 74 := eqI hs60 rfl
        have ws60_77 : iI s60 77 = iI s58 77 := eqI hs60 rfl
        have ws60_75 : iI s60 75 = iI s58 75 := eqI hs60 rfl
        have ws60_79 : iI s60 79 = iI s58 79 := eqI hs60 rfl
        have ws60_78 : iI s60 78 = iI s58 78 := eqI hs60 rfl
        have ws60_86 : iI s60 86 = iI s58 86 := eqI hs60 rfl
        have ws60_87 : iI s60 87 = iI s58 87 := eqI hs60 rfl
        have ws60_88 : iI s60 88 = iI s58 88 := eqI hs60 rfl
        refine z_aload_n X (x := A 179) rfl (List.Mem.head _) (z_aload_n X (x := A 179) rfl (List.Mem.head _) (z_getI X 179 rfl (c518_ok rfl) rfl rfl ?_))
        have b61 := bi_87 Is60
        refine s_putI X 179 rfl (c518_ok rfl) rfl rfl (by decide) rfl rfl rfl (wd_gen (fun s62 hs62 => ?_))
        have Is62 : Bd s62 := eqB hs62 (bd_I Is60 (show (0 : Int) ≤ (iI s60 87) ∧ (iI s60 87) ≤ 8 by first | exact ⟨b61.1, b61.2⟩ | omega) (rng_to _))
        have Fs62 := eqF hs62 (fm_I Fs60 (inl_ok (a := 84) rfl))
        have vs62 : iI s62 84 = (iI s60 87) := eqI hs62 (iI_u (rng_to _))
        have ws62_73 : iI s62 73 = iI s60 73 := eqI hs62 rfl
        have ws62_74 : iI s62 74 = iI s60 74 := eqI hs62 rfl
        have ws62_77 : iI s62 77 = iI s60 77 := eqI hs62 rfl
        have ws62_75 : iI s62 75 = iI s60 75 := eqI hs62 rfl
        have ws62_79 : iI s62 79 = iI s60 79 := eqI hs62 rfl
        have ws62_78 : iI s62 78 = iI s60 78 := eqI hs62 rfl
        have ws62_86 : iI s62 86 = iI s60 86 := eqI hs62 rfl
        have ws62_87 : iI s62 87 = iI s60 87 := eqI hs62 rfl
        have ws62_88 : iI s62 88 = iI s60 88 := eqI hs62 rfl
        refine z_aload_n X (x := A 179) rfl (List.Mem.head _) (z_aload_n X (x := A 179) rfl (List.Mem.head _) (z_getI X 179 rfl (c518_ok rfl) rfl rfl ?_))
        have b63 := bi_88 Is62
        refine s_putI X 179 rfl (c518_ok rfl) rfl rfl (by decide) rfl rfl rfl (wd_gen (fun s64 hs64 => ?_))
        have Is64 : Bd s64 := eqB hs64 (bd_I Is62 (show ((-1) : Int) ≤ (iI s62 88) ∧ (iI s62 88) ≤ 200 by first | exact ⟨b63.1, b63.2⟩ | omega) (rng_to _))
        have Fs64 := eqF hs64 (fm_I Fs62 (inl_ok (a := 85) rfl))
        have vs64 : iI s64 85 = (iI s62 88) := eqI hs64 (iI_u (rng_to _))
        have ws64_73 : iI s64 73 = iI s62 73 := eqI hs64 rfl
        have ws64_74 : iI s64 74 = iI s62 74 := eqI hs64 rfl
        have ws64_77 : iI s64 77 = iI s62 77 := eqI hs64 rfl
        have ws64_75 : iI s64 75 = iI s62 75 := eqI hs64 rfl
        have ws64_79 : iI s64 79 = iI s62 79 := eqI hs64 rfl
        have ws64_78 : iI s64 78 = iI s62 78 := eqI hs64 rfl
        have ws64_86 : iI s64 86 = iI s62 86 := eqI hs64 rfl
        have ws64_87 : iI s64 87 = iI s62 87 := eqI hs64 rfl
        have ws64_88 : iI s64 88 = iI s62 88 := eqI hs64 rfl
        refine z_const X rfl (z_store_n X (lv' := [(2, .int (Int32.ofInt 0)), (0, .ref (A 179)), (1, .int (Int32.ofInt x))]) rfl (by decide) (fun _ h => h) (WS_pq [1, 2, 0] (lv' := [(0, .ref (A 179)), (1, .int (Int32.ofInt x)), (2, .int (Int32.ofInt 0))]) rfl (L169 ((8 - 0 : Int).toNat + 1) s64 x 0 Is64 Fs64 (by first | exact ⟨by decide, And.intro (hs47.2.1.1) (hs47.2.1.2), oq_d0299403 ws64_74 ws62_74 ws60_74 ws58_74 hs47.2.2.1 b50.1, by decide, by decide⟩ | omega) (Nat.lt_succ_self _) ?_)))
        intro s65 x66 Is65 Fs65 hs65
        have b67 := bi_73 Is65
        have b68 := bi_74 Is65
        have b69 := bi_77 Is65
        have b70 := bi_75 Is65
        have b71 := bi_79 Is65
        have b72 := bi_78 Is65
        have b73 := bi_86 Is65
        have b74 := bi_87 Is65
        have b75 := bi_88 Is65
        refine z_aload_n X (x := A 179) rfl (List.Mem.head _) (z_getI X 179 rfl (c518_ok rfl) rfl rfl ?_)
        have b76 := bi_83 Is65
        exact w_iret X.1 q hRt rfl (ax_d X (show cdA 214 199 = some (.ireturn, 1, 0, 0, 0) from rfl)) (Nat.zero_le _) (Nat.zero_le _) ⟨_, rfl, Is65, Fs65, (iI s65 83), rfl, (rng_to _), by first | exact Or.inl (And.intro (hs65.2.1.1) (And.intro (hs65.2.1.2) (hs65.2.2.1))) | omega⟩
      ·
        refine z_aload_n X (x := A 179) rfl (List.Mem.head _) (z_getI X 179 rfl (c518_ok rfl) rfl rfl ?_)
        have b77 := bi_79 Is44
        refine z_bipush X rfl (z_sub X rfl ?_)
        exact w_iret X.1 q hRt rfl (ax_d X (show cdA 214 112 = some (.ireturn, 1, 0, 0, 0) from rfl)) (Nat.zero_le _) (Nat.zero_le _) ⟨_, rfl, Is44, Fs44, ((iI s44 79) - 10), rfl, ⟨by first | exact oq_d3c9ade5 b77.1 | omega, by first | exact oq_71609f9f b77.2 | omega⟩, by first | exact Or.inl (And.intro (hs33.2.1.1) (And.intro (hs33.2.1.2) (oq_333640b7 ws44_74 hs33.2.2.1 b35.1))) | omega⟩
    ·
      refine z_const X rfl ?_
      exact w_iret X.1 q hRt rfl (ax_d X (show cdA 214 31 = some (.ireturn, 1, 0, 0, 0) from rfl)) (Nat.zero_le _) (Nat.zero_le _) ⟨_, rfl, Is16, Gs16, 0, rfl, (by decide), by first | exact oq_9bde5726 g19 ws16_74 b18.1 hps16.2.2 hps16.1 re15.1 he15 ws12_74 ws12_73 hps12 ws10_74 vs10 | omega⟩
  refine z_if_ne X (t := 22) rfl rfl hrs12 (fun g78 => ?_) (fun g78 => ?_)
  ·
    exact z_const X rfl (N14 _ (Or.inl ⟨g78, rfl⟩))
  ·
    exact z_const X rfl (z_goto X (t := 23) rfl rfl (N14 _ (Or.inr (⟨g78, rfl⟩))))
end M54
