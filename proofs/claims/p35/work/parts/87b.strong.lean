theorem oq_0fa7b120 {a0 a1 a2 a3 : Int} (h0 : a0 ≤ 1) (h1 : 0 ≤ a0) (h2 : ((a1 = 0 ∧ a0 = 0) ∨ (a1 ≠ 0 ∧ a0 = 1))) (h3 : 0 ≤ a1) (h4 : a2 = 0) : ((a2 = 1 ∧ (a1 = 0 ∧ (a1 = a3 ∧ a0 = 1))) ∨ ((a2 = 0 ∨ a1 ≠ 0) ∧ (a1 = a1 ∧ ((a0 = 0 ∧ a1 = 0) ∨ (a0 = 1 ∧ a1 ≠ 0))))) := by omega
theorem oq_7136ffd4 {a0 a1 a2 a3 : Int} (h0 : a0 ≤ 1) (h1 : ((a1 = 0 ∧ a0 = 0) ∨ (a1 ≠ 0 ∧ a0 = 1))) (h2 : 0 ≤ a1) (h3 : a1 ≠ 0) : ((a2 = 1 ∧ (a1 = 0 ∧ (a1 = a3 ∧ a0 = 1))) ∨ ((a2 = 0 ∨ a1 ≠ 0) ∧ (a1 = a1 ∧ ((a0 = 0 ∧ a1 = 0) ∨ (a0 = 1 ∧ a1 ≠ 0))))) := by omega
theorem oq_add61c1a {a0 a1 a2 a3 a4 : Int} (h0 : a0 ≤ 1) (h1 : ((a1 = 0 ∧ a0 = 0) ∨ (a1 ≠ 0 ∧ a0 = 1))) (h2 : a1 = a2) (h3 : a3 = 0) (h4 : a4 ≠ 0) (h5 : 1 ≤ a2) (h6 : (a4 = 0 ∨ a4 = 1)) : ((a4 = 1 ∧ (a3 = 0 ∧ (a1 = a2 ∧ a0 = 1))) ∨ ((a4 = 0 ∨ a3 ≠ 0) ∧ (a1 = a3 ∧ ((a0 = 0 ∧ a3 = 0) ∨ (a0 = 1 ∧ a3 ≠ 0))))) := by omega
theorem oq_8580d82e {a0 a1 a2 a3 a4 a5 : Int} (h0 : a0 = 0) (h1 : ((a1 = 1 ∧ (a2 = 0 ∧ (a3 = 1 ∧ a0 = 1))) ∨ ((a1 = 0 ∨ a2 ≠ 0) ∧ (a3 = a2 ∧ ((a0 = 0 ∧ a2 = 0) ∨ (a0 = 1 ∧ a2 ≠ 0)))))) (h2 : ((a4 ≠ 0 ∧ a1 = 0) ∨ (a4 = 0 ∧ a1 = 1))) (h3 : ((a4 = 1 ∧ (0 ≤ a5 ∧ a5 ≤ 100000)) ∨ (a4 = 0 ∧ (a5 < 0 ∨ 100000 < a5)))) (h4 : a2 = 0) : 0 ≤ a5 := by omega
theorem oq_a8f51996 {a0 a1 a2 a3 a4 a5 : Int} (h0 : a0 = 0) (h1 : ((a1 = 1 ∧ (a2 = 0 ∧ (a3 = 1 ∧ a0 = 1))) ∨ ((a1 = 0 ∨ a2 ≠ 0) ∧ (a3 = a2 ∧ ((a0 = 0 ∧ a2 = 0) ∨ (a0 = 1 ∧ a2 ≠ 0)))))) (h2 : ((a4 ≠ 0 ∧ a1 = 0) ∨ (a4 = 0 ∧ a1 = 1))) (h3 : ((a4 = 1 ∧ (0 ≤ a5 ∧ a5 ≤ 100000)) ∨ (a4 = 0 ∧ (a5 < 0 ∨ 100000 < a5)))) (h4 : a2 = 0) : a5 ≤ 100000 := by omega
theorem oq_28d6abd1 {a0 a1 a2 a3 a4 a5 a6 a7 a8 a9 a10 : Int} (h0 : a0 = a1) (h1 : a2 = a3) (h2 : a4 = 0) (h3 : a5 = a6) (h4 : 0 ≤ a1) (h5 : ((a7 = 1 ∧ (a8 = 0 ∧ (a1 = 1 ∧ a4 = 1))) ∨ ((a7 = 0 ∨ a8 ≠ 0) ∧ (a1 = a8 ∧ ((a4 = 0 ∧ a8 = 0) ∨ (a4 = 1 ∧ a8 ≠ 0)))))) (h6 : ((a9 ≠ 0 ∧ a7 = 0) ∨ (a9 = 0 ∧ a7 = 1))) (h7 : ((a9 = 1 ∧ (0 ≤ a3 ∧ a3 ≤ 100000)) ∨ (a9 = 0 ∧ (a3 < 0 ∨ 100000 < a3)))) (h8 : a6 = a10) (h9 : a8 = 0) : ((0 ≤ a3 ∧ (a3 ≤ 100000 ∧ (a0 = 0 ∧ (a5 = a10 ∧ a2 = a3)))) ∨ ((a3 < 0 ∨ 100000 < a3) ∧ (a0 = 1 ∧ a2 = a10))) := by omega
theorem oq_613a2f50 {a0 a1 a2 a3 a4 a5 a6 a7 a8 : Int} (h0 : a0 ≠ 0) (h1 : a1 = a2) (h2 : ((a3 = 1 ∧ (a4 = 0 ∧ (a5 = 1 ∧ a0 = 1))) ∨ ((a3 = 0 ∨ a4 ≠ 0) ∧ (a5 = a4 ∧ ((a0 = 0 ∧ a4 = 0) ∨ (a0 = 1 ∧ a4 ≠ 0)))))) (h3 : ((a6 ≠ 0 ∧ a3 = 0) ∨ (a6 = 0 ∧ a3 = 1))) (h4 : ((a6 = 1 ∧ (0 ≤ a7 ∧ a7 ≤ 100000)) ∨ (a6 = 0 ∧ (a7 < 0 ∨ 100000 < a7)))) (h5 : a2 = a8) (h6 : a4 = 0) : ((0 ≤ a7 ∧ (a7 ≤ 100000 ∧ (a5 = 0 ∧ (0 = a8 ∧ a1 = a7)))) ∨ ((a7 < 0 ∨ 100000 < a7) ∧ (a5 = 1 ∧ a1 = a8))) := by omega
theorem oq_9b39ac49 {a0 a1 a2 a3 : Int} (h0 : a0 = 0) (h1 : ((1 = 1 ∧ (a1 = 0 ∧ (a2 = 1 ∧ a0 = 1))) ∨ ((1 = 0 ∨ a1 ≠ 0) ∧ (a2 = a1 ∧ ((a0 = 0 ∧ a1 = 0) ∨ (a0 = 1 ∧ a1 ≠ 0)))))) (h2 : a1 = 0) : 1 ≤ a3 := by omega
theorem oq_e5a72ab8 {a0 a1 a2 a3 : Int} (h0 : a0 = 0) (h1 : ((1 = 1 ∧ (a1 = 0 ∧ (a2 = 1 ∧ a0 = 1))) ∨ ((1 = 0 ∨ a1 ≠ 0) ∧ (a2 = a1 ∧ ((a0 = 0 ∧ a1 = 0) ∨ (a0 = 1 ∧ a1 ≠ 0)))))) (h2 : a1 = 0) : a3 ≤ 8 := by omega
theorem oq_c9e17522 {a0 a1 a2 a3 a4 a5 a6 a7 a8 a9 a10 : Int} (h0 : a0 = 0) (h1 : ((1 = 1 ∧ (a1 = 0 ∧ (a2 = 1 ∧ a0 = 1))) ∨ ((1 = 0 ∨ a1 ≠ 0) ∧ (a2 = a1 ∧ ((a0 = 0 ∧ a1 = 0) ∨ (a0 = 1 ∧ a1 ≠ 0)))))) (h2 : a1 = 0) : ((a3 = 0 ∧ (1 ≤ a4 ∧ (a4 ≤ 24 ∧ (a5 = 0 ∧ (a6 = a7 ∧ (a8 = a4 ∧ a9 = a10)))))) ∨ ((a3 = 1 ∧ (1 ≤ a4 ∧ (a4 ≤ 8 ∧ (a5 = 0 ∧ (a6 = a10 ∧ (a9 = a4 ∧ a8 = a7)))))) ∨ ((a3 < 0 ∨ (1 < a3 ∨ (a4 < 1 ∨ ((a3 = 0 ∧ 24 < a4) ∨ (a3 = 1 ∧ 8 < a4))))) ∧ (a5 = 1 ∧ (a8 = a7 ∧ a9 = a10))))) := by omega
theorem oq_f46bafd9 {a0 a1 a2 a3 a4 a5 a6 a7 a8 : Int} (h0 : a0 = 0) (h1 : a1 = 0) (h2 : ((a1 = 1 ∧ (0 ≤ a0 ∧ a0 ≤ 1)) ∨ (a1 = 0 ∧ (a0 < 0 ∨ 1 < a0)))) : ((a0 = 0 ∧ (1 ≤ a2 ∧ (a2 ≤ 24 ∧ (a3 = 0 ∧ (a4 = a5 ∧ (a6 = a2 ∧ a7 = a8)))))) ∨ ((a0 = 1 ∧ (1 ≤ a2 ∧ (a2 ≤ 8 ∧ (a3 = 0 ∧ (a4 = a8 ∧ (a7 = a2 ∧ a6 = a5)))))) ∨ ((a0 < 0 ∨ (1 < a0 ∨ (a2 < 1 ∨ ((a0 = 0 ∧ 24 < a2) ∨ (a0 = 1 ∧ 8 < a2))))) ∧ (a3 = 1 ∧ (a6 = a5 ∧ a7 = a8))))) := by omega
theorem oq_fe5360f9 {a0 a1 a2 a3 a4 a5 a6 a7 a8 a9 a10 a11 : Int} (h0 : a0 ≠ 0) (h1 : a1 = a2) (h2 : a3 = a4) (h3 : ((1 = 1 ∧ (a5 = 0 ∧ (a6 = 1 ∧ a0 = 1))) ∨ ((1 = 0 ∨ a5 ≠ 0) ∧ (a6 = a5 ∧ ((a0 = 0 ∧ a5 = 0) ∨ (a0 = 1 ∧ a5 ≠ 0)))))) (h4 : a7 = 0) (h5 : ((a7 = 1 ∧ (0 ≤ a8 ∧ a8 ≤ 1)) ∨ (a7 = 0 ∧ (a8 < 0 ∨ 1 < a8)))) (h6 : a2 = a9) (h7 : a4 = a10) (h8 : a5 = 0) : ((a8 = 0 ∧ (1 ≤ a11 ∧ (a11 ≤ 24 ∧ (a6 = 0 ∧ (0 = a10 ∧ (a3 = a11 ∧ a1 = a9)))))) ∨ ((a8 = 1 ∧ (1 ≤ a11 ∧ (a11 ≤ 8 ∧ (a6 = 0 ∧ (0 = a9 ∧ (a1 = a11 ∧ a3 = a10)))))) ∨ ((a8 < 0 ∨ (1 < a8 ∨ (a11 < 1 ∨ ((a8 = 0 ∧ 24 < a11) ∨ (a8 = 1 ∧ 8 < a11))))) ∧ (a6 = 1 ∧ (a3 = a10 ∧ a1 = a9))))) := by omega
theorem oq_ce4216d5 {a0 a1 a2 a3 a4 a5 a6 : Int} (h0 : a0 = 0) (h1 : ((a1 = 1 ∧ (a2 = 0 ∧ (a3 = 1 ∧ a0 = 1))) ∨ ((a1 = 0 ∨ a2 ≠ 0) ∧ (a3 = a2 ∧ ((a0 = 0 ∧ a2 = 0) ∨ (a0 = 1 ∧ a2 ≠ 0)))))) (h2 : ((a4 ≠ 0 ∧ a1 = 0) ∨ (a4 = 0 ∧ a1 = 1))) (h3 : ((a4 = 1 ∧ (1 ≤ a5 ∧ a5 ≤ a6)) ∨ (a4 = 0 ∧ (a5 < 1 ∨ a6 < a5)))) (h4 : a2 = 0) : 1 ≤ a5 := by omega
theorem oq_880c914d {a0 a1 a2 a3 a4 a5 a6 a7 a8 : Int} (h0 : a0 ≠ 0) (h1 : a1 = 0) (h2 : ((a2 = 1 ∧ (a3 = 0 ∧ (a4 = 1 ∧ a1 = 1))) ∨ ((a2 = 0 ∨ a3 ≠ 0) ∧ (a4 = a3 ∧ ((a1 = 0 ∧ a3 = 0) ∨ (a1 = 1 ∧ a3 ≠ 0)))))) (h3 : ((a5 ≠ 0 ∧ a2 = 0) ∨ (a5 = 0 ∧ a2 = 1))) (h4 : ((a5 = 1 ∧ (1 ≤ a6 ∧ a6 ≤ a7)) ∨ (a5 = 0 ∧ (a6 < 1 ∨ a7 < a6)))) (h5 : ((a0 ≠ 0 ∧ a7 = 8) ∨ (a0 = 0 ∧ a7 = 24))) (h6 : a8 ≠ 0) (h7 : ((a8 = 1 ∧ (0 ≤ a0 ∧ a0 ≤ 1)) ∨ (a8 = 0 ∧ (a0 < 0 ∨ 1 < a0)))) (h8 : a3 = 0) : a6 ≤ 8 := by omega
theorem oq_60133a6a {a0 a1 a2 a3 a4 a5 a6 : Int} (h0 : a0 = 0) (h1 : ((a1 = 1 ∧ (a2 = 0 ∧ (a3 = 1 ∧ a0 = 1))) ∨ ((a1 = 0 ∨ a2 ≠ 0) ∧ (a3 = a2 ∧ ((a0 = 0 ∧ a2 = 0) ∨ (a0 = 1 ∧ a2 ≠ 0)))))) (h2 : ((a4 ≠ 0 ∧ a1 = 0) ∨ (a4 = 0 ∧ a1 = 1))) (h3 : ((a4 = 1 ∧ (1 ≤ a5 ∧ a5 ≤ a6)) ∨ (a4 = 0 ∧ (a5 < 1 ∨ a6 < a5)))) (h4 : a6 ≤ 24) (h5 : a2 = 0) : a5 ≤ 24 := by omega
theorem oq_1d2c940e {a0 a1 a2 a3 a4 a5 a6 a7 a8 a9 a10 a11 a12 a13 a14 a15 a16 a17 : Int} (h0 : a0 = a1) (h1 : a2 = a3) (h2 : a4 = a5) (h3 : a6 = 0) (h4 : ((a6 ≠ 0 ∧ ((1 ≤ a1 ∧ a1 ≤ 8) ∧ a7 = a1)) ∨ (a6 = 0 ∧ ((1 ≤ a8 ∧ a8 ≤ 24) ∧ a7 = a8)))) (h5 : a9 = 0) (h6 : a1 = a10) (h7 : a8 = a11) (h8 : 0 ≤ a3) (h9 : ((a12 = 1 ∧ (a13 = 0 ∧ (a3 = 1 ∧ a9 = 1))) ∨ ((a12 = 0 ∨ a13 ≠ 0) ∧ (a3 = a13 ∧ ((a9 = 0 ∧ a13 = 0) ∨ (a9 = 1 ∧ a13 ≠ 0)))))) (h10 : ((a14 ≠ 0 ∧ a12 = 0) ∨ (a14 = 0 ∧ a12 = 1))) (h11 : ((a14 = 1 ∧ (1 ≤ a5 ∧ a5 ≤ a15)) ∨ (a14 = 0 ∧ (a5 < 1 ∨ a15 < a5)))) (h12 : a15 ≤ 24) (h13 : a10 = a16) (h14 : a11 = a17) (h15 : a13 = 0) : ((a6 = 0 ∧ (1 ≤ a5 ∧ (a5 ≤ 24 ∧ (a2 = 0 ∧ (a7 = a17 ∧ (a4 = a5 ∧ a0 = a16)))))) ∨ ((a6 = 1 ∧ (1 ≤ a5 ∧ (a5 ≤ 8 ∧ (a2 = 0 ∧ (a7 = a16 ∧ (a0 = a5 ∧ a4 = a17)))))) ∨ ((a6 < 0 ∨ (1 < a6 ∨ (a5 < 1 ∨ ((a6 = 0 ∧ 24 < a5) ∨ (a6 = 1 ∧ 8 < a5))))) ∧ (a2 = 1 ∧ (a4 = a17 ∧ a0 = a16))))) := by omega
theorem oq_674898f9 {a0 a1 a2 a3 : Int} (h0 : a0 = 0) (h1 : ((1 = 1 ∧ (a1 = 0 ∧ (a2 = 1 ∧ a0 = 1))) ∨ ((1 = 0 ∨ a1 ≠ 0) ∧ (a2 = a1 ∧ ((a0 = 0 ∧ a1 = 0) ∨ (a0 = 1 ∧ a1 ≠ 0)))))) (h2 : a1 = 0) : 0 ≤ a3 := by omega
theorem oq_8e84b2bd {a0 a1 a2 a3 a4 a5 a6 a7 a8 a9 a10 a11 : Int} (h0 : a0 = a1) (h1 : a2 = a3) (h2 : a4 = a5) (h3 : a6 ≠ 0) (h4 : a5 = a7) (h5 : a1 = a8) (h6 : a3 ≤ a9) (h7 : 1 ≤ a3) (h8 : ((a6 ≠ 0 ∧ a9 = 8) ∨ (a6 = 0 ∧ a9 = 24))) (h9 : a7 = a10) (h10 : a8 = a11) (h11 : a6 ≤ 1) (h12 : 0 ≤ a6) : ((a6 = 0 ∧ (1 ≤ a3 ∧ (a3 ≤ 24 ∧ (a4 = a11 ∧ (a0 = a3 ∧ a2 = a10))))) ∨ (a6 = 1 ∧ (1 ≤ a3 ∧ (a3 ≤ 8 ∧ (a4 = a10 ∧ (a2 = a3 ∧ a0 = a11)))))) := by omega
theorem oq_b1cdf24c {a0 a1 : Int} (h0 : a0 = a1) (h1 : a0 ≤ 24) : a1 ≤ 24 := by omega
theorem oq_87396caf {a0 : Int} (h0 : a0 ≤ 16777215) : a0 < 16777216 := by omega
theorem oq_46361496 {a0 a1 a2 a3 : Int} (h0 : a0 = 0) (h1 : ((1 = 1 ∧ (a1 = 0 ∧ (a2 = 1 ∧ a0 = 1))) ∨ ((1 = 0 ∨ a1 ≠ 0) ∧ (a2 = a1 ∧ ((a0 = 0 ∧ a1 = 0) ∨ (a0 = 1 ∧ a1 ≠ 0)))))) (h2 : a1 = 0) : a3 < 8 := by omega
theorem oq_086235ae {a0 a1 a2 a3 : Int} (h0 : a0 = 0) (h1 : ((1 = 1 ∧ (a1 = 0 ∧ (a2 = 1 ∧ a0 = 1))) ∨ ((1 = 0 ∨ a1 ≠ 0) ∧ (a2 = a1 ∧ ((a0 = 0 ∧ a1 = 0) ∨ (a0 = 1 ∧ a1 ≠ 0)))))) (h2 : a1 = 0) : (a3 : Int).toNat < 8 := by omega
theorem oq_e48faaef {a0 a1 a2 a3 : Int} (h0 : a0 = 0) (h1 : ((1 = 1 ∧ (a1 = 0 ∧ (a2 = 1 ∧ a0 = 1))) ∨ ((1 = 0 ∨ a1 ≠ 0) ∧ (a2 = a1 ∧ ((a0 = 0 ∧ a1 = 0) ∨ (a0 = 1 ∧ a1 ≠ 0)))))) (h2 : a1 = 0) : a3 ≤ 9999 := by omega
theorem oq_7d7a532a {a0 a1 a2 a3 : Int} (h0 : a0 = 0) (h1 : ((1 = 1 ∧ (a1 = 0 ∧ (a2 = 1 ∧ a0 = 1))) ∨ ((1 = 0 ∨ a1 ≠ 0) ∧ (a2 = a1 ∧ ((a0 = 0 ∧ a1 = 0) ∨ (a0 = 1 ∧ a1 ≠ 0)))))) (h2 : a1 = 0) : a3 ≤ 7 := by omega
theorem oq_8c407924 {a0 a1 a2 a3 : Int} (h0 : a0 = a1) (h1 : a2 = 0) (h2 : 0 ≤ a1) (h3 : ((1 = 1 ∧ (a3 = 0 ∧ (a1 = 1 ∧ a2 = 1))) ∨ ((1 = 0 ∨ a3 ≠ 0) ∧ (a1 = a3 ∧ ((a2 = 0 ∧ a3 = 0) ∨ (a2 = 1 ∧ a3 ≠ 0)))))) (h4 : a3 = 0) : a0 = 0 := by omega
theorem oq_791d66b1 {a0 a1 a2 : Int} (h0 : a0 = 0) (h1 : ((a0 = 1 ∧ (0 ≤ a1 ∧ a1 ≤ 7)) ∨ (a0 = 0 ∧ (a1 < 0 ∨ 7 < a1)))) : (a1 < 0 ∨ (7 < a1 ∨ (a2 < 0 ∨ 9999 < a2))) := by omega
theorem oq_faabd673 {a0 a1 a2 : Int} (h0 : a0 ≠ 0) (h1 : ((1 = 1 ∧ (a1 = 0 ∧ (a2 = 1 ∧ a0 = 1))) ∨ ((1 = 0 ∨ a1 ≠ 0) ∧ (a2 = a1 ∧ ((a0 = 0 ∧ a1 = 0) ∨ (a0 = 1 ∧ a1 ≠ 0)))))) (h2 : a1 = 0) : a2 = 1 := by omega
theorem oq_7f8ce9be {a0 a1 a2 a3 a4 a5 : Int} (h0 : a0 = 0) (h1 : ((a1 = 1 ∧ (a2 = 0 ∧ (a3 = 1 ∧ a0 = 1))) ∨ ((a1 = 0 ∨ a2 ≠ 0) ∧ (a3 = a2 ∧ ((a0 = 0 ∧ a2 = 0) ∨ (a0 = 1 ∧ a2 ≠ 0)))))) (h2 : ((a4 ≠ 0 ∧ a1 = 0) ∨ (a4 = 0 ∧ a1 = 1))) (h3 : ((a4 = 1 ∧ (0 ≤ a5 ∧ a5 ≤ 9999)) ∨ (a4 = 0 ∧ (a5 < 0 ∨ 9999 < a5)))) (h4 : a2 = 0) : 0 ≤ a5 := by omega
theorem oq_7cd554bd {a0 a1 a2 a3 a4 a5 : Int} (h0 : a0 = 0) (h1 : ((a1 = 1 ∧ (a2 = 0 ∧ (a3 = 1 ∧ a0 = 1))) ∨ ((a1 = 0 ∨ a2 ≠ 0) ∧ (a3 = a2 ∧ ((a0 = 0 ∧ a2 = 0) ∨ (a0 = 1 ∧ a2 ≠ 0)))))) (h2 : ((a4 ≠ 0 ∧ a1 = 0) ∨ (a4 = 0 ∧ a1 = 1))) (h3 : ((a4 = 1 ∧ (0 ≤ a5 ∧ a5 ≤ 9999)) ∨ (a4 = 0 ∧ (a5 < 0 ∨ 9999 < a5)))) (h4 : a2 = 0) : a5 ≤ 9999 := by omega
theorem oq_ca823699 {a0 a1 : Int} (h0 : a0 ≠ 0) (h1 : ((a0 = 1 ∧ (0 ≤ a1 ∧ a1 ≤ 7)) ∨ (a0 = 0 ∧ (a1 < 0 ∨ 7 < a1)))) : a1 ≤ 7 := by omega
theorem oq_36baa0f5 {a0 a1 a2 a3 a4 : Int} (h0 : a0 = a1) (h1 : a2 = 0) (h2 : 0 ≤ a1) (h3 : ((a3 = 1 ∧ (a4 = 0 ∧ (a1 = 1 ∧ a2 = 1))) ∨ ((a3 = 0 ∨ a4 ≠ 0) ∧ (a1 = a4 ∧ ((a2 = 0 ∧ a4 = 0) ∨ (a2 = 1 ∧ a4 ≠ 0)))))) (h4 : a4 = 0) : a0 = 0 := by omega
theorem oq_bc7378e0 {a0 a1 a2 a3 a4 a5 a6 : Int} (h0 : a0 ≠ 0) (h1 : ((a1 = 1 ∧ (a2 = 0 ∧ (a3 = 1 ∧ a0 = 1))) ∨ ((a1 = 0 ∨ a2 ≠ 0) ∧ (a3 = a2 ∧ ((a0 = 0 ∧ a2 = 0) ∨ (a0 = 1 ∧ a2 ≠ 0)))))) (h2 : ((a4 ≠ 0 ∧ a1 = 0) ∨ (a4 = 0 ∧ a1 = 1))) (h3 : ((a4 = 1 ∧ (0 ≤ a5 ∧ a5 ≤ 9999)) ∨ (a4 = 0 ∧ (a5 < 0 ∨ 9999 < a5)))) (h4 : a2 = 0) : (a6 < 0 ∨ (7 < a6 ∨ (a5 < 0 ∨ 9999 < a5))) := by omega
theorem oq_58a3c280 {a0 a1 a2 a3 : Int} (h0 : a0 ≠ 0) (h1 : ((a1 = 1 ∧ (a2 = 0 ∧ (a3 = 1 ∧ a0 = 1))) ∨ ((a1 = 0 ∨ a2 ≠ 0) ∧ (a3 = a2 ∧ ((a0 = 0 ∧ a2 = 0) ∨ (a0 = 1 ∧ a2 ≠ 0)))))) (h2 : a2 = 0) : a3 = 1 := by omega
theorem oq_45013339 {a0 a1 a2 a3 a4 a5 a6 : Int} (h0 : a0 ≠ 0) (h1 : ((a1 = 1 ∧ (a2 = 0 ∧ (a3 = 1 ∧ a0 = 1))) ∨ ((a1 = 0 ∨ a2 ≠ 0) ∧ (a3 = a2 ∧ ((a0 = 0 ∧ a2 = 0) ∨ (a0 = 1 ∧ a2 ≠ 0)))))) (h2 : ((a4 ≠ 0 ∧ a1 = 0) ∨ (a4 = 0 ∧ a1 = 1))) (h3 : ((a4 = 1 ∧ (0 ≤ a5 ∧ a5 ≤ 7)) ∨ (a4 = 0 ∧ (a5 < 0 ∨ 7 < a5)))) (h4 : a2 = 0) : (((a5 < 0 ∨ 7 < a5) ∧ a3 = 1) ∨ ((0 ≤ a5 ∧ (a5 ≤ 7 ∧ (a6 < 0 ∨ 24 < a6))) ∧ a3 = 2)) := by omega
theorem oq_07b36d6e {a0 a1 a2 a3 a4 a5 : Int} (h0 : a0 = 0) (h1 : ((a1 = 1 ∧ (a2 = 0 ∧ (a3 = 1 ∧ a0 = 1))) ∨ ((a1 = 0 ∨ a2 ≠ 0) ∧ (a3 = a2 ∧ ((a0 = 0 ∧ a2 = 0) ∨ (a0 = 1 ∧ a2 ≠ 0)))))) (h2 : ((a4 ≠ 0 ∧ a1 = 0) ∨ (a4 = 0 ∧ a1 = 1))) (h3 : ((a4 = 1 ∧ (0 ≤ a5 ∧ a5 ≤ 7)) ∨ (a4 = 0 ∧ (a5 < 0 ∨ 7 < a5)))) (h4 : a2 = 0) : 0 ≤ a5 := by omega
theorem oq_ae0abf0b {a0 a1 a2 a3 a4 a5 : Int} (h0 : a0 = 0) (h1 : ((a1 = 1 ∧ (a2 = 0 ∧ (a3 = 1 ∧ a0 = 1))) ∨ ((a1 = 0 ∨ a2 ≠ 0) ∧ (a3 = a2 ∧ ((a0 = 0 ∧ a2 = 0) ∨ (a0 = 1 ∧ a2 ≠ 0)))))) (h2 : ((a4 ≠ 0 ∧ a1 = 0) ∨ (a4 = 0 ∧ a1 = 1))) (h3 : ((a4 = 1 ∧ (0 ≤ a5 ∧ a5 ≤ 7)) ∨ (a4 = 0 ∧ (a5 < 0 ∨ 7 < a5)))) (h4 : a2 = 0) : a5 < 8 := by omega
theorem oq_cb6943f3 {a0 a1 a2 a3 a4 a5 : Int} (h0 : a0 = 0) (h1 : ((a1 = 1 ∧ (a2 = 0 ∧ (a3 = 1 ∧ a0 = 1))) ∨ ((a1 = 0 ∨ a2 ≠ 0) ∧ (a3 = a2 ∧ ((a0 = 0 ∧ a2 = 0) ∨ (a0 = 1 ∧ a2 ≠ 0)))))) (h2 : ((a4 ≠ 0 ∧ a1 = 0) ∨ (a4 = 0 ∧ a1 = 1))) (h3 : ((a4 = 1 ∧ (0 ≤ a5 ∧ a5 ≤ 7)) ∨ (a4 = 0 ∧ (a5 < 0 ∨ 7 < a5)))) (h4 : a2 = 0) : (a5 : Int).toNat < 8 := by omega
theorem oq_6f2c8602 {a0 a1 a2 a3 a4 a5 a6 a7 a8 : Int} (h0 : a0 = 0) (h1 : ((a1 = 1 ∧ (a2 = 0 ∧ (a3 = 2 ∧ a0 = 1))) ∨ ((a1 = 0 ∨ a2 ≠ 0) ∧ (a3 = a2 ∧ ((a0 = 0 ∧ a2 = 0) ∨ (a0 = 1 ∧ a2 ≠ 0)))))) (h2 : ((a4 ≠ 0 ∧ a1 = 0) ∨ (a4 = 0 ∧ a1 = 1))) (h3 : ((a4 = 1 ∧ (0 ≤ a5 ∧ a5 ≤ 24)) ∨ (a4 = 0 ∧ (a5 < 0 ∨ 24 < a5)))) (h4 : a6 = 0) (h5 : 0 ≤ a2) (h6 : ((a7 = 1 ∧ (a8 = 0 ∧ (a2 = 1 ∧ a6 = 1))) ∨ ((a7 = 0 ∨ a8 ≠ 0) ∧ (a2 = a8 ∧ ((a6 = 0 ∧ a8 = 0) ∨ (a6 = 1 ∧ a8 ≠ 0)))))) (h7 : a8 = 0) : 0 ≤ a5 := by omega
theorem oq_8112572f {a0 a1 a2 a3 a4 a5 a6 a7 a8 : Int} (h0 : a0 = 0) (h1 : ((a1 = 1 ∧ (a2 = 0 ∧ (a3 = 2 ∧ a0 = 1))) ∨ ((a1 = 0 ∨ a2 ≠ 0) ∧ (a3 = a2 ∧ ((a0 = 0 ∧ a2 = 0) ∨ (a0 = 1 ∧ a2 ≠ 0)))))) (h2 : ((a4 ≠ 0 ∧ a1 = 0) ∨ (a4 = 0 ∧ a1 = 1))) (h3 : ((a4 = 1 ∧ (0 ≤ a5 ∧ a5 ≤ 24)) ∨ (a4 = 0 ∧ (a5 < 0 ∨ 24 < a5)))) (h4 : a6 = 0) (h5 : 0 ≤ a2) (h6 : ((a7 = 1 ∧ (a8 = 0 ∧ (a2 = 1 ∧ a6 = 1))) ∨ ((a7 = 0 ∨ a8 ≠ 0) ∧ (a2 = a8 ∧ ((a6 = 0 ∧ a8 = 0) ∨ (a6 = 1 ∧ a8 ≠ 0)))))) (h7 : a8 = 0) : a5 ≤ 24 := by omega
theorem oq_63710938 {a0 a1 a2 a3 a4 a5 : Int} (h0 : a0 = 0) (h1 : ((a1 = 1 ∧ (a2 = 0 ∧ (a3 = 1 ∧ a0 = 1))) ∨ ((a1 = 0 ∨ a2 ≠ 0) ∧ (a3 = a2 ∧ ((a0 = 0 ∧ a2 = 0) ∨ (a0 = 1 ∧ a2 ≠ 0)))))) (h2 : ((a4 ≠ 0 ∧ a1 = 0) ∨ (a4 = 0 ∧ a1 = 1))) (h3 : ((a4 = 1 ∧ (0 ≤ a5 ∧ a5 ≤ 7)) ∨ (a4 = 0 ∧ (a5 < 0 ∨ 7 < a5)))) (h4 : a2 = 0) : a5 ≤ 7 := by omega
theorem oq_24676001 {a0 a1 a2 a3 a4 a5 a6 a7 : Int} (h0 : a0 = a1) (h1 : a2 = 0) (h2 : 0 ≤ a1) (h3 : ((a3 = 1 ∧ (a4 = 0 ∧ (a1 = 2 ∧ a2 = 1))) ∨ ((a3 = 0 ∨ a4 ≠ 0) ∧ (a1 = a4 ∧ ((a2 = 0 ∧ a4 = 0) ∨ (a2 = 1 ∧ a4 ≠ 0)))))) (h4 : a5 = 0) (h5 : ((a6 = 1 ∧ (a7 = 0 ∧ (a4 = 1 ∧ a5 = 1))) ∨ ((a6 = 0 ∨ a7 ≠ 0) ∧ (a4 = a7 ∧ ((a5 = 0 ∧ a7 = 0) ∨ (a5 = 1 ∧ a7 ≠ 0)))))) (h6 : a7 = 0) : a0 = 0 := by omega
theorem oq_c990f8a1 {a0 a1 a2 a3 a4 a5 a6 a7 a8 a9 a10 : Int} (h0 : a0 ≠ 0) (h1 : ((a1 = 1 ∧ (a2 = 0 ∧ (a3 = 2 ∧ a0 = 1))) ∨ ((a1 = 0 ∨ a2 ≠ 0) ∧ (a3 = a2 ∧ ((a0 = 0 ∧ a2 = 0) ∨ (a0 = 1 ∧ a2 ≠ 0)))))) (h2 : ((a4 ≠ 0 ∧ a1 = 0) ∨ (a4 = 0 ∧ a1 = 1))) (h3 : ((a4 = 1 ∧ (0 ≤ a5 ∧ a5 ≤ 24)) ∨ (a4 = 0 ∧ (a5 < 0 ∨ 24 < a5)))) (h4 : a6 = 0) (h5 : 0 ≤ a2) (h6 : ((a7 = 1 ∧ (a8 = 0 ∧ (a2 = 1 ∧ a6 = 1))) ∨ ((a7 = 0 ∨ a8 ≠ 0) ∧ (a2 = a8 ∧ ((a6 = 0 ∧ a8 = 0) ∨ (a6 = 1 ∧ a8 ≠ 0)))))) (h7 : ((a9 ≠ 0 ∧ a7 = 0) ∨ (a9 = 0 ∧ a7 = 1))) (h8 : ((a9 = 1 ∧ (0 ≤ a10 ∧ a10 ≤ 7)) ∨ (a9 = 0 ∧ (a10 < 0 ∨ 7 < a10)))) (h9 : a8 = 0) : (((a10 < 0 ∨ 7 < a10) ∧ a3 = 1) ∨ ((0 ≤ a10 ∧ (a10 ≤ 7 ∧ (a5 < 0 ∨ 24 < a5))) ∧ a3 = 2)) := by omega
/-! Contracts that say what is answered -/
/-- the law's long -/
def iO (t : PS) : Int := (gD t 460 0).toInt
theorem iO_u {s : PS} {e : Int} (h : rng e) : iO (uD s 460 (0 : Int).toNat (Int32.ofInt e).toInt64) = e := by
  show ((if 460 = 460 then vp_updL (s.2.2.2.1 460) (0 : Int).toNat (Int32.ofInt e).toInt64 else s.2.2.2.1 460) 0).toInt = e
  rw [if_pos rfl]
  show ((if 0 = (0 : Int).toNat then (Int32.ofInt e).toInt64 else s.2.2.2.1 460 0)).toInt = e
  rw [if_pos (by decide), Int32.toInt_toInt64, zi h]
theorem fm_o {L M : List Nat} {s t : PS} (F : Fm L M s t) (h : 460 + 1000 ∉ M) : iO t = iO s := congrArg Int64.toInt (fm_dd F h)
/-- an array's cells are as they were; but for one -/
def SAM (a : Nat) (s t : PS) : Prop := ∀ j, iC t a j = iC s a j
def UPD (a : Nat) (i x : Int) (s t : PS) : Prop := iC t a i.toNat = x ∧ ∀ j, j ≠ i.toNat → iC t a j = iC s a j
theorem sam_rf {a : Nat} {s : PS} : SAM a s s := fun _ => rfl
theorem sam_fm {L M : List Nat} {a : Nat} {s t : PS} (F : Fm L M s t) (h : a ∉ M) : SAM a s t := fun _ => fm_c F h
theorem sam_ts {a : Nat} {s t u : PS} (h : SAM a s t) (g : SAM a t u) : SAM a s u := fun j => (g j).trans (h j)
theorem upd_ts {a : Nat} {i x : Int} {s t u : PS} (h : UPD a i x s t) (g : SAM a t u) : UPD a i x s u := ⟨(g _).trans h.1, fun j hj => (g j).trans (h.2 j hj)⟩
theorem sam_C {a b i : Nat} {x : Int32} {s t : PS} (hb : a ≠ b) (h : SAM a s t) : SAM a s (uC t b i x) := fun j => (iC_a hb).trans (h j)
theorem upd_C {a b i : Nat} {x : Int32} {y z : Int} {s t : PS} (hb : a ≠ b) (h : UPD a y z s t) : UPD a y z s (uC t b i x) := ⟨(iC_a hb).trans h.1, fun j hj => (iC_a hb).trans (h.2 j hj)⟩
theorem upd_put {a : Nat} {i x : Int} {s t : PS} (h : SAM a s t) (hx : rng x) : UPD a i x s (uC t a i.toNat (Int32.ofInt x)) := ⟨iC_u hx, fun j hj => (iC_n hj).trans (h j)⟩
/-- two arrays are the same, n cells of them -/
def AEQ (a b n : Nat) (s : PS) : Prop := ∀ j, j < n → iC s a j = iC s b j
theorem aeq_sam {a b n : Nat} {s t : PS} (h : AEQ a b n s) (h1 : SAM a s t) (h2 : SAM b s t) : AEQ a b n t := fun j hj => by rw [h1, h2]; exact h j hj
theorem aeq_upd {a b n : Nat} {i x : Int} {s t u : PS} (h : AEQ a b n s) (h1 : UPD a i x s t) (h2 : SAM b s t) (h3 : UPD b i x t u) (h4 : SAM a t u) : AEQ a b n u := fun j hj => by
  by_cases e : j = i.toNat
  · rw [e, h3.1, h4, h1.1]
  · rw [h4, h1.2 j e, h3.2 j e, h2]; exact h j hj
/-- x is among the first n cells; it is not -/
def HAS (a : Nat) (n x : Int) (s : PS) : Prop := ∃ j : Nat, (j : Int) < n ∧ iC s a j = x
def NHS (a : Nat) (n x : Int) (s : PS) : Prop := ∀ j : Nat, (j : Int) < n → iC s a j ≠ x
theorem nhs_0 {a : Nat} {x : Int} {s : PS} : NHS a 0 x s := fun j hj => by omega
theorem nhs_up {a : Nat} {c x : Int} {s : PS} (h : NHS a c x s) (h0 : 0 ≤ c) (h1 : iC s a c.toNat ≠ x) : NHS a (c + 1) x s := fun j hj => by
  by_cases e : j = c.toNat
  · rw [e]; exact h1
  · exact h j (by omega)
theorem nhs_le {a : Nat} {c n x : Int} {s : PS} (h : NHS a c x s) (h0 : n ≤ c) : NHS a n x s := fun j hj => h j (by omega)
theorem hs_of {a : Nat} {n x : Int} {s : PS} (c : Int) (h0 : 0 ≤ c) (h1 : c < n) (h2 : iC s a c.toNat = x) : HAS a n x s := ⟨c.toNat, by omega, h2⟩
theorem upd_ix {a : Nat} {i j x : Int} {s t : PS} (h : UPD a i x s t) (e : i = j) : UPD a j x s t := e ▸ h
theorem aeq_at {a b n : Nat} {i : Int} {s t : PS} (h : AEQ a b n s) (h2 : SAM b s t) (hi : i.toNat < n) : iC s a i.toNat = iC t b i.toNat := by rw [h2]; exact h _ hi
section M87b
variable {l : Launch} {s0 : State} {D : va_G} {tys : List (ClassId × FieldType)} {a0 : Array Value} {A : Nat → Nat} {dT : Nat → ClassId} {s : PS}
set_option maxRecDepth 4000 in
theorem k_in2 (G : GX l s0 D tys a0 dT) (I : Bd s) {x y z : Int} (p0 : rng x) (p1 : rng y) (p2 : rng z) : CT l s0 D A dT 188 (rmN 188) [.int (Int32.ofInt x), .int (Int32.ofInt y), .int (Int32.ofInt z)] s (fun o t => s = t ∧ ∃ e, o = .inl (some (.int (Int32.ofInt e))) ∧ rng e ∧ ((e = 1 ∧ y ≤ x ∧ x ≤ z) ∨ (e = 0 ∧ (x < y ∨ z < x)))) := by
  refine ct_of G (by decide) (Nat.le_of_ble_eq_true rfl) (fun k X E hRt hXt q => ?_)
  show WS k 0 [(0, .int (Int32.ofInt x)), (1, .int (Int32.ofInt y)), (2, .int (Int32.ofInt z))] [] _ 0 0
  have F : Fm [] [] s s := fm_rf _ _ s
  refine z_load_n X (x := x) rfl (List.Mem.head _) (z_load_n X (x := y) rfl (List.Mem.tail _ (List.Mem.head _)) ?_)
  have N1 : ∀ e2 : Int, (((x < y) ∧ e2 = 0) ∨ ((y ≤ x) ∧ (z < x) ∧ e2 = 0) ∨ ((y ≤ x) ∧ (x ≤ z) ∧ e2 = 1)) → WS k 15 [(0, .int (Int32.ofInt x)), (1, .int (Int32.ofInt y)), (2, .int (Int32.ofInt z))] [.int (Int32.ofInt e2)] (Wd A dT s) 0 0 := by
    intro e2 he2
    have re2 : 0 ≤ e2 ∧ e2 ≤ 1 := by first | (clear he2; omega) | omega
    exact w_iret X.1 q hRt (nar_ret (by first | exact oq_31e518ae re2.2 re2.1 | omega)) (ax_d X (show cdA 188 15 = some (.ireturn, 1, 0, 0, 0) from rfl)) (Nat.zero_le _) (Nat.zero_le _) ⟨_, rfl, rfl, e2, rfl, ⟨by first | exact oq_fa4e5087 re2.1 | omega, by first | exact oq_22e1e6b0 re2.2 | omega⟩, by first | exact oq_eb048f71 re2.2 re2.1 he2 | omega⟩
  refine z_icmp_lt X (t := 14) rfl rfl ⟨by first | exact p0.1 | omega, by first | exact p0.2 | omega⟩ ⟨by first | exact p1.1 | omega, by first | exact p1.2 | omega⟩ (fun g3 => ?_) (fun g3 => ?_)
  ·
    exact z_const X rfl (N1 _ (Or.inl ⟨g3, rfl⟩))
  ·
    refine z_load_n X (x := x) rfl (List.Mem.head _) (z_load_n X (x := z) rfl (List.Mem.tail _ (List.Mem.tail _ (List.Mem.head _))) (z_icmp_gt X (t := 14) rfl rfl ⟨by first | exact p0.1 | omega, by first | exact p0.2 | omega⟩ ⟨by first | exact p2.1 | omega, by first | exact p2.2 | omega⟩ (fun g4 => ?_) (fun g4 => ?_)))
    ·
      exact z_const X rfl (N1 _ (Or.inr (Or.inl ⟨g3, g4, rfl⟩)))
    ·
      exact z_const X rfl (z_goto X (t := 15) rfl rfl (N1 _ (Or.inr (Or.inr (⟨g3, g4, rfl⟩)))))
set_option maxRecDepth 4000 in
theorem k_bad2 (G : GX l s0 D tys a0 dT) (I : Bd s) {x y : Int} (p0 : x = 0 ∨ x = 1) (p1 : 1 ≤ y ∧ y ≤ 3) : CT l s0 D A dT 187 (rmN 187) [.ref (A 179), .int (Int32.ofInt x), .int (Int32.ofInt y)] s (fun o t => Bd t ∧ Fm [73] [] s t ∧ ∃ e, o = .inl (some (.int (Int32.ofInt e))) ∧ rng e ∧ (((x = 1 ∧ iI s 73 = 0 ∧ iI t 73 = y ∧ e = 1) ∨ ((x = 0 ∨ iI s 73 ≠ 0) ∧ iI t 73 = iI s 73 ∧ ((e = 0 ∧ iI s 73 = 0) ∨ (e = 1 ∧ iI s 73 ≠ 0)))))) := by
  refine ct_of G (by decide) (Nat.le_of_ble_eq_true rfl) (fun k X E hRt hXt q => ?_)
  show WS k 0 [(0, .ref (A 179)), (1, .int (Int32.ofInt x)), (2, .int (Int32.ofInt y))] [] _ 0 0
  have F : Fm [73] [] s s := fm_rf _ _ s
  have b1 := bi_73 I
  refine z_load_n X (x := x) rfl (List.Mem.tail _ (List.Mem.head _)) (z_if_eq X (t := 16) rfl rfl ⟨by first | exact oq_bde653e9 p0 | omega, by first | exact oq_4ad2cb8b p0 | omega⟩ (fun g2 => ?_) (fun g2 => ?_))
  ·
    refine z_aload_n X (x := A 179) rfl (List.Mem.head _) (z_getI X 179 rfl (c518_ok rfl) rfl rfl ?_)
    have b3 := bi_73 I
    have N4 : ∀ e5 : Int, ((((iI s 73) = 0) ∧ e5 = 0) ∨ (((iI s 73) ≠ 0) ∧ e5 = 1)) → WS k 28 [(0, .ref (A 179)), (1, .int (Int32.ofInt x)), (2, .int (Int32.ofInt y))] [.int (Int32.ofInt e5)] (Wd A dT s) 0 0 := by
      intro e5 he5
      have re5 : 0 ≤ e5 ∧ e5 ≤ 1 := by first | (clear he5 p0; omega) | (clear p0; omega) | omega
      exact w_iret X.1 q hRt (nar_ret (by first | exact oq_31e518ae re5.2 re5.1 | omega)) (ax_d X (show cdA 187 28 = some (.ireturn, 1, 0, 0, 0) from rfl)) (Nat.zero_le _) (Nat.zero_le _) ⟨_, rfl, I, F, e5, rfl, ⟨by first | exact oq_fa4e5087 re5.1 | omega, by first | exact oq_22e1e6b0 re5.2 | omega⟩, by first | exact oq_0fa7b120 re5.2 re5.1 he5 b3.1 g2 | omega⟩
    refine z_if_eq X (t := 27) rfl rfl (rng_to _) (fun g6 => ?_) (fun g6 => ?_)
    ·
      exact z_const X rfl (N4 _ (Or.inl ⟨g6, rfl⟩))
    ·
      exact z_const X rfl (z_goto X (t := 28) rfl rfl (N4 _ (Or.inr (⟨g6, rfl⟩))))
  ·
    refine z_aload_n X (x := A 179) rfl (List.Mem.head _) (z_getI X 179 rfl (c518_ok rfl) rfl rfl ?_)
    have b7 := bi_73 I
    refine z_if_ne X (t := 16) rfl rfl (rng_to _) (fun g8 => ?_) (fun g8 => ?_)
    ·
      refine z_aload_n X (x := A 179) rfl (List.Mem.head _) (z_getI X 179 rfl (c518_ok rfl) rfl rfl ?_)
      have b9 := bi_73 I
      have N10 : ∀ e11 : Int, ((((iI s 73) = 0) ∧ e11 = 0) ∨ (((iI s 73) ≠ 0) ∧ e11 = 1)) → WS k 28 [(0, .ref (A 179)), (1, .int (Int32.ofInt x)), (2, .int (Int32.ofInt y))] [.int (Int32.ofInt e11)] (Wd A dT s) 0 0 := by
        intro e11 he11
        have re11 : 0 ≤ e11 ∧ e11 ≤ 1 := by first | (clear he11 g8 g2 p0; omega) | (clear g8 g2 p0; omega) | omega
        exact w_iret X.1 q hRt (nar_ret (by first | exact oq_438aa68f re11.2 he11 b9.1 g8 | omega)) (ax_d X (show cdA 187 28 = some (.ireturn, 1, 0, 0, 0) from rfl)) (Nat.zero_le _) (Nat.zero_le _) ⟨_, rfl, I, F, e11, rfl, ⟨by first | exact oq_fa4e5087 re11.1 | omega, by first | exact oq_22e1e6b0 re11.2 | omega⟩, by first | exact oq_7136ffd4 re11.2 he11 b9.1 g8 | omega⟩
      refine z_if_eq X (t := 27) rfl rfl (rng_to _) (fun g12 => ?_) (fun g12 => ?_)
      ·
        exact z_const X rfl (N10 _ (Or.inl ⟨g12, rfl⟩))
      ·
        exact z_const X rfl (z_goto X (t := 28) rfl rfl (N10 _ (Or.inr (⟨g12, rfl⟩))))
    ·
      refine z_aload_n X (x := A 179) rfl (List.Mem.head _) (z_load_n X (x := y) rfl (List.Mem.tail _ (List.Mem.tail _ (List.Mem.head _))) (s_putI X 179 rfl (c518_ok rfl) rfl rfl (by decide) rfl rfl rfl (wd_gen (fun s13 hs13 => ?_))))
      have Is13 : Bd s13 := eqB hs13 (bd_I I (show (0 : Int) ≤ y ∧ y ≤ 3 by first | exact ⟨oq_2a6e3b50 p1.1, p1.2⟩ | omega) ⟨by first | exact oq_9462313e p1.1 | omega, by first | exact oq_c5520c83 p1.2 | omega⟩)
      have Fs13 := eqF hs13 (fm_I F (inl_ok (a := 73) rfl))
      have vs13 : iI s13 73 = y := eqI hs13 (iI_u ⟨by first | exact oq_9462313e p1.1 | omega, by first | exact oq_c5520c83 p1.2 | omega⟩)
      have wos13 : iO s13 = iO s := by rw [hs13]; rfl
      refine z_aload_n X (x := A 179) rfl (List.Mem.head _) (z_getI X 179 rfl (c518_ok rfl) rfl rfl ?_)
      have b14 := bi_73 Is13
      have N15 : ∀ e16 : Int, ((((iI s13 73) = 0) ∧ e16 = 0) ∨ (((iI s13 73) ≠ 0) ∧ e16 = 1)) → WS k 28 [(0, .ref (A 179)), (1, .int (Int32.ofInt x)), (2, .int (Int32.ofInt y))] [.int (Int32.ofInt e16)] (Wd A dT s13) 0 0 := by
        intro e16 he16
        have re16 : 0 ≤ e16 ∧ e16 ≤ 1 := by first | (clear he16 g2 p0; omega) | (clear g2 p0; omega) | omega
        exact w_iret X.1 q hRt (nar_ret (by first | exact oq_4f030bbc re16.2 he16 vs13 p1.1 | omega)) (ax_d X (show cdA 187 28 = some (.ireturn, 1, 0, 0, 0) from rfl)) (Nat.zero_le _) (Nat.zero_le _) ⟨_, rfl, Is13, Fs13, e16, rfl, ⟨by first | exact oq_fa4e5087 re16.1 | omega, by first | exact oq_22e1e6b0 re16.2 | omega⟩, by first | exact oq_add61c1a re16.2 he16 vs13 g8 g2 p1.1 p0 | omega⟩
      refine z_if_eq X (t := 27) rfl rfl (rng_to _) (fun g17 => ?_) (fun g17 => ?_)
      ·
        exact z_const X rfl (N15 _ (Or.inl ⟨g17, rfl⟩))
      ·
        exact z_const X rfl (z_goto X (t := 28) rfl rfl (N15 _ (Or.inr (⟨g17, rfl⟩))))
set_option maxRecDepth 4000 in
theorem k_busy2 (G : GX l s0 D tys a0 dT) (I : Bd s) {x : Int} (p0 : rng x) : CT l s0 D A dT 268 (rmN 268) [.ref (A 179), .int (Int32.ofInt x)] s (fun o t => Bd t ∧ Fm [73, 96] [] s t ∧ ∃ e, o = .inl (some (.int (Int32.ofInt e))) ∧ rng e ∧ (((0 ≤ x ∧ x ≤ 100000 ∧ iI t 73 = 0 ∧ e = iI s 96 ∧ iI t 96 = x) ∨ ((x < 0 ∨ 100000 < x) ∧ iI t 73 = 1 ∧ iI t 96 = iI s 96)))) := by
  refine ct_of G (by decide) (Nat.le_of_ble_eq_true rfl) (fun k X E hRt hXt q => ?_)
  show WS k 0 [(0, .ref (A 179)), (1, .int (Int32.ofInt x))] [] _ 0 0
  have F : Fm [73, 96] [] s s := fm_rf _ _ s
  have b1 := bi_73 I
  have b2 := bi_96 I
  refine z_aload_n X (x := A 179) rfl (List.Mem.head _) (z_const X rfl (s_putI X 179 rfl (c518_ok rfl) rfl rfl (by decide) rfl rfl rfl (wd_gen (fun s3 hs3 => ?_))))
  have Is3 : Bd s3 := eqB hs3 (bd_I I (show (0 : Int) ≤ 0 ∧ 0 ≤ 3 by first | exact ⟨by decide, by decide⟩ | omega) (by decide))
  have Fs3 := eqF hs3 (fm_I F (inl_ok (a := 73) rfl))
  have vs3 : iI s3 73 = 0 := eqI hs3 (iI_u (by decide))
  have ws3_96 : iI s3 96 = iI s 96 := eqI hs3 rfl
  refine z_aload_n X (x := A 179) rfl (List.Mem.head _) (z_load_n X (x := x) rfl (List.Mem.tail _ (List.Mem.head _)) (z_const X rfl (z_ldc X rfl (z_callS X (rm := rmN 188) (As := [.int (Int32.ofInt x), .int (Int32.ofInt 0), .int (Int32.ofInt 100000)]) (st := [.ref (A 179)]) rfl rfl (by rw [E.1, E.2.1, E.2.2.1]; exact k_in2 G Is3 (by first | exact ⟨p0.1, p0.2⟩ | omega) (by first | exact ⟨by decide, by decide⟩ | omega) (by first | exact ⟨by decide, by decide⟩ | omega)) ⟨by rw [E.2.2.2]; exact (show (rmN 188).frames + 1 ≤ (rmN 268).frames by decide), by rw [E.2.2.2]; exact (show 8 + (mNL (miB 188) + 11) + (rmN 188).locals ≤ (rmN 268).locals by decide), by rw [E.2.2.2]; exact (show 0 + (rmN 188).cells ≤ (rmN 268).cells by decide), by rw [E.2.2.2]; exact (show 0 + (rmN 188).slots ≤ (rmN 268).slots by decide)⟩ (Nat.le_of_ble_eq_true rfl) (fun vv s4 hq => ?_) (fun ee s4 hq => ?_)))))
  rotate_left
  · obtain ⟨rfl, e5, hv, hrs4, hps4⟩ := hq; cases hv
  obtain ⟨rfl, e5, hv, hrs4, hps4⟩ := hq
  cases hv
  show WS k 13 [(0, .ref (A 179)), (1, .int (Int32.ofInt x))] [.int (Int32.ofInt e5), .ref (A 179)] (Wd A dT s3) 0 0
  have N6 : ∀ e7 : Int, (((e5 ≠ 0) ∧ e7 = 0) ∨ ((e5 = 0) ∧ e7 = 1)) → WS k 21 [(0, .ref (A 179)), (1, .int (Int32.ofInt x))] [.int (Int32.ofInt e7), .ref (A 179)] (Wd A dT s3) 0 0 := by
    intro e7 he7
    have re7 : 0 ≤ e7 ∧ e7 ≤ 1 := by first | (clear he7 hps4; omega) | (clear hps4; omega) | omega
    refine z_const X rfl (zcV_i0 X E 179 (As := [.int (Int32.ofInt e7), .int (Int32.ofInt 1)]) (st := []) rfl rfl rfl rfl (k_bad2 G Is3 (by first | exact oq_31e518ae re7.2 re7.1 | omega) (by first | exact ⟨by decide, by decide⟩ | omega)) rfl (Nat.le_of_ble_eq_true rfl) (fun s8 e9 Is8 Fs8 hrs8 hps8 => ?_))
    have Gs8 := fm_tq Fs3 Fs8 rfl rfl
    have b10 := bi_73 Is8
    have ws8_96 : iI s8 96 = iI s3 96 := fm_iq Fs8 rfl
    refine z_if_eq X (t := 30) rfl rfl hrs8 (fun g11 => ?_) (fun g11 => ?_)
    ·
      refine z_aload_n X (x := A 179) rfl (List.Mem.head _) (z_getI X 179 rfl (c518_ok rfl) rfl rfl ?_)
      have b12 := bi_96 Is8
      refine z_store_n X (lv' := [(2, .int (Int32.ofInt (iI s8 96))), (0, .ref (A 179)), (1, .int (Int32.ofInt x))]) rfl (by decide) (fun _ h => h) (z_aload_n X (x := A 179) rfl (List.Mem.tail _ (List.Mem.head _)) (z_load_n X (x := x) rfl (List.Mem.tail _ (List.Mem.tail _ (List.Mem.head _))) (s_putI X 179 rfl (c518_ok rfl) rfl rfl (by decide) rfl rfl rfl (wd_gen (fun s13 hs13 => ?_)))))
      have Is13 : Bd s13 := eqB hs13 (bd_I Is8 (show (0 : Int) ≤ x ∧ x ≤ 100000 by first | exact ⟨oq_8580d82e g11 hps8 he7 hps4 vs3, oq_a8f51996 g11 hps8 he7 hps4 vs3⟩ | omega) ⟨by first | exact p0.1 | omega, by first | exact p0.2 | omega⟩)
      have Fs13 := eqF hs13 (fm_I Gs8 (inl_ok (a := 96) rfl))
      have vs13 : iI s13 96 = x := eqI hs13 (iI_u ⟨by first | exact p0.1 | omega, by first | exact p0.2 | omega⟩)
      have ws13_73 : iI s13 73 = iI s8 73 := eqI hs13 rfl
      refine z_load_n X (x := (iI s8 96)) rfl (List.Mem.head _) ?_
      exact w_iret X.1 q hRt rfl (ax_d X (show cdA 268 41 = some (.ireturn, 1, 0, 0, 0) from rfl)) (Nat.zero_le _) (Nat.zero_le _) ⟨_, rfl, Is13, Fs13, (iI s8 96), rfl, (rng_to _), by first | exact oq_28d6abd1 ws13_73 vs13 g11 ws8_96 b10.1 hps8 he7 hps4 ws3_96 vs3 | omega⟩
    ·
      refine z_const X rfl ?_
      exact w_iret X.1 q hRt rfl (ax_d X (show cdA 268 29 = some (.ireturn, 1, 0, 0, 0) from rfl)) (Nat.zero_le _) (Nat.zero_le _) ⟨_, rfl, Is8, Gs8, 0, rfl, (by decide), by first | exact oq_613a2f50 g11 ws8_96 hps8 he7 hps4 ws3_96 vs3 | omega⟩
  refine z_if_ne X (t := 20) rfl rfl hrs4 (fun g14 => ?_) (fun g14 => ?_)
  ·
    exact z_const X rfl (N6 _ (Or.inl ⟨g14, rfl⟩))
  ·
    exact z_const X rfl (z_goto X (t := 21) rfl rfl (N6 _ (Or.inr (⟨g14, rfl⟩))))
set_option maxRecDepth 4000 in
theorem k_hours2 (G : GX l s0 D tys a0 dT) (I : Bd s) {x y : Int} (p0 : rng x) (p1 : rng y) : CT l s0 D A dT 273 (rmN 273) [.ref (A 179), .int (Int32.ofInt x), .int (Int32.ofInt y)] s (fun o t => Bd t ∧ Fm [73, 102, 103] [] s t ∧ ∃ e, o = .inl (some (.int (Int32.ofInt e))) ∧ rng e ∧ (((x = 0 ∧ 1 ≤ y ∧ y ≤ 24 ∧ iI t 73 = 0 ∧ e = iI s 102 ∧ iI t 102 = y ∧ iI t 103 = iI s 103) ∨ (x = 1 ∧ 1 ≤ y ∧ y ≤ 8 ∧ iI t 73 = 0 ∧ e = iI s 103 ∧ iI t 103 = y ∧ iI t 102 = iI s 102) ∨ ((x < 0 ∨ 1 < x ∨ y < 1 ∨ (x = 0 ∧ 24 < y) ∨ (x = 1 ∧ 8 < y)) ∧ iI t 73 = 1 ∧ iI t 102 = iI s 102 ∧ iI t 103 = iI s 103)))) := by
  refine ct_of G (by decide) (Nat.le_of_ble_eq_true rfl) (fun k X E hRt hXt q => ?_)
  show WS k 0 [(0, .ref (A 179)), (1, .int (Int32.ofInt x)), (2, .int (Int32.ofInt y))] [] _ 0 0
  have F : Fm [73, 102, 103] [] s s := fm_rf _ _ s
  have b1 := bi_73 I
  have b2 := bi_102 I
  have b3 := bi_103 I
  refine z_aload_n X (x := A 179) rfl (List.Mem.head _) (z_const X rfl (s_putI X 179 rfl (c518_ok rfl) rfl rfl (by decide) rfl rfl rfl (wd_gen (fun s4 hs4 => ?_))))
  have Is4 : Bd s4 := eqB hs4 (bd_I I (show (0 : Int) ≤ 0 ∧ 0 ≤ 3 by first | exact ⟨by decide, by decide⟩ | omega) (by decide))
  have Fs4 := eqF hs4 (fm_I F (inl_ok (a := 73) rfl))
  have vs4 : iI s4 73 = 0 := eqI hs4 (iI_u (by decide))
  have ws4_102 : iI s4 102 = iI s 102 := eqI hs4 rfl
  have ws4_103 : iI s4 103 = iI s 103 := eqI hs4 rfl
  refine z_aload_n X (x := A 179) rfl (List.Mem.head _) (z_load_n X (x := x) rfl (List.Mem.tail _ (List.Mem.head _)) (z_const X rfl (z_const X rfl (z_callS X (rm := rmN 188) (As := [.int (Int32.ofInt x), .int (Int32.ofInt 0), .int (Int32.ofInt 1)]) (st := [.ref (A 179)]) rfl rfl (by rw [E.1, E.2.1, E.2.2.1]; exact k_in2 G Is4 (by first | exact ⟨p0.1, p0.2⟩ | omega) (by first | exact ⟨by decide, by decide⟩ | omega) (by first | exact ⟨by decide, by decide⟩ | omega)) ⟨by rw [E.2.2.2]; exact (show (rmN 188).frames + 1 ≤ (rmN 273).frames by decide), by rw [E.2.2.2]; exact (show 8 + (mNL (miB 188) + 11) + (rmN 188).locals ≤ (rmN 273).locals by decide), by rw [E.2.2.2]; exact (show 0 + (rmN 188).cells ≤ (rmN 273).cells by decide), by rw [E.2.2.2]; exact (show 0 + (rmN 188).slots ≤ (rmN 273).slots by decide)⟩ (Nat.le_of_ble_eq_true rfl) (fun vv s5 hq => ?_) (fun ee s5 hq => ?_)))))
  rotate_left
  · obtain ⟨rfl, e6, hv, hrs5, hps5⟩ := hq; cases hv
  obtain ⟨rfl, e6, hv, hrs5, hps5⟩ := hq
  cases hv
  show WS k 12 [(0, .ref (A 179)), (1, .int (Int32.ofInt x)), (2, .int (Int32.ofInt y))] [.int (Int32.ofInt e6), .ref (A 179)] (Wd A dT s4) 0 0
  refine z_if_eq X (t := 34) rfl rfl hrs5 (fun g7 => ?_) (fun g7 => ?_)
  ·
    refine z_const X rfl (z_goto X (t := 39) rfl rfl (z_const X rfl (zcV_i0 X E 179 (As := [.int (Int32.ofInt 1), .int (Int32.ofInt 1)]) (st := []) rfl rfl rfl rfl (k_bad2 G Is4 (by first | exact Or.inr (by decide) | omega) (by first | exact ⟨by decide, by decide⟩ | omega)) rfl (Nat.le_of_ble_eq_true rfl) (fun s8 e9 Is8 Fs8 hrs8 hps8 => ?_))))
    have Gs8 := fm_tq Fs4 Fs8 rfl rfl
    have b10 := bi_73 Is8
    have ws8_102 : iI s8 102 = iI s4 102 := fm_iq Fs8 rfl
    have ws8_103 : iI s8 103 = iI s4 103 := fm_iq Fs8 rfl
    refine z_if_eq X (t := 48) rfl rfl hrs8 (fun g11 => ?_) (fun g11 => ?_)
    ·
      refine z_load_n X (x := x) rfl (List.Mem.tail _ (List.Mem.head _)) ?_
      have N12 : ∀ e13 : Int, (((x ≠ 0) ∧ ((1 : Int) ≤ iI s8 103 ∧ iI s8 103 ≤ 8) ∧ e13 = (iI s8 103)) ∨ ((x = 0) ∧ ((1 : Int) ≤ iI s8 102 ∧ iI s8 102 ≤ 24) ∧ e13 = (iI s8 102))) → WS k 63 [(0, .ref (A 179)), (1, .int (Int32.ofInt x)), (2, .int (Int32.ofInt y))] [.int (Int32.ofInt e13)] (Wd A dT s8) 0 0 := by
        intro e13 he13
        refine z_store_n X (lv' := [(3, .int (Int32.ofInt e13)), (0, .ref (A 179)), (1, .int (Int32.ofInt x)), (2, .int (Int32.ofInt y))]) rfl (by decide) (fun _ h => h) (z_load_n X (x := x) rfl (List.Mem.tail _ (List.Mem.tail _ (List.Mem.head _))) (z_if_ne X (t := 76) rfl rfl ⟨by first | exact p0.1 | omega, by first | exact p0.2 | omega⟩ (fun g14 => ?_) (fun g14 => ?_)))
        ·
          refine z_aload_n X (x := A 179) rfl (List.Mem.tail _ (List.Mem.head _)) (z_load_n X (x := y) rfl (List.Mem.tail _ (List.Mem.tail _ (List.Mem.tail _ (List.Mem.head _)))) (s_putI X 179 rfl (c518_ok rfl) rfl rfl (by decide) rfl rfl rfl (wd_gen (fun s15 hs15 => ?_))))
          have Is15 : Bd s15 := eqB hs15 (bd_I Is8 (show (1 : Int) ≤ y ∧ y ≤ 8 by first | exact ⟨oq_9b39ac49 g11 hps8 vs4, oq_e5a72ab8 g11 hps8 vs4⟩ | omega) ⟨by first | exact p1.1 | omega, by first | exact p1.2 | omega⟩)
          have Fs15 := eqF hs15 (fm_I Gs8 (inl_ok (a := 103) rfl))
          have vs15 : iI s15 103 = y := eqI hs15 (iI_u ⟨by first | exact p1.1 | omega, by first | exact p1.2 | omega⟩)
          have ws15_73 : iI s15 73 = iI s8 73 := eqI hs15 rfl
          have ws15_102 : iI s15 102 = iI s8 102 := eqI hs15 rfl
          refine z_load_n X (x := e13) rfl (List.Mem.head _) ?_
          exact w_iret X.1 q hRt rfl (ax_d X (show cdA 273 82 = some (.ireturn, 1, 0, 0, 0) from rfl)) (Nat.zero_le _) (Nat.zero_le _) ⟨_, rfl, Is15, Fs15, e13, rfl, ⟨by first | exact oq_62abe554 he13 | omega, by first | exact oq_c46c61bd he13 | omega⟩, by first | exact oq_c9e17522 g11 hps8 vs4 | omega⟩
        ·
          refine z_aload_n X (x := A 179) rfl (List.Mem.tail _ (List.Mem.head _)) (z_load_n X (x := y) rfl (List.Mem.tail _ (List.Mem.tail _ (List.Mem.tail _ (List.Mem.head _)))) (s_putI X 179 rfl (c518_ok rfl) rfl rfl (by decide) rfl rfl rfl (wd_gen (fun s16 hs16 => ?_))))
          have Is16 : Bd s16 := eqB hs16 (bd_I Is8 (show (1 : Int) ≤ y ∧ y ≤ 24 by first | exact ⟨oq_7a39abe9 g14 g7 hps5, oq_fc8cbade g14 g7 hps5⟩ | omega) ⟨by first | exact p1.1 | omega, by first | exact p1.2 | omega⟩)
          have Fs16 := eqF hs16 (fm_I Gs8 (inl_ok (a := 102) rfl))
          have vs16 : iI s16 102 = y := eqI hs16 (iI_u ⟨by first | exact p1.1 | omega, by first | exact p1.2 | omega⟩)
          have ws16_73 : iI s16 73 = iI s8 73 := eqI hs16 rfl
          have ws16_103 : iI s16 103 = iI s8 103 := eqI hs16 rfl
          refine z_goto X (t := 81) rfl rfl (z_load_n X (x := e13) rfl (List.Mem.head _) ?_)
          exact w_iret X.1 q hRt rfl (ax_d X (show cdA 273 82 = some (.ireturn, 1, 0, 0, 0) from rfl)) (Nat.zero_le _) (Nat.zero_le _) ⟨_, rfl, Is16, Fs16, e13, rfl, ⟨by first | exact oq_62abe554 he13 | omega, by first | exact oq_c46c61bd he13 | omega⟩, by first | exact oq_f46bafd9 g14 g7 hps5 | omega⟩
      refine z_if_ne X (t := 59) rfl rfl ⟨by first | exact p0.1 | omega, by first | exact p0.2 | omega⟩ (fun g17 => ?_) (fun g17 => ?_)
      ·
        refine z_aload_n X (x := A 179) rfl (List.Mem.head _) (z_getI X 179 rfl (c518_ok rfl) rfl rfl ?_)
        have b18 := bi_103 Is8
        exact N12 _ (Or.inl ⟨g17, b18, rfl⟩)
      ·
        refine z_aload_n X (x := A 179) rfl (List.Mem.head _) (z_getI X 179 rfl (c518_ok rfl) rfl rfl ?_)
        have b19 := bi_102 Is8
        exact z_goto X (t := 63) rfl rfl (N12 _ (Or.inr (⟨g17, b19, rfl⟩)))
    ·
      refine z_const X rfl ?_
      exact w_iret X.1 q hRt rfl (ax_d X (show cdA 273 47 = some (.ireturn, 1, 0, 0, 0) from rfl)) (Nat.zero_le _) (Nat.zero_le _) ⟨_, rfl, Is8, Gs8, 0, rfl, (by decide), by first | exact oq_fe5360f9 g11 ws8_103 ws8_102 hps8 g7 hps5 ws4_103 ws4_102 vs4 | omega⟩
  ·
    refine z_load_n X (x := y) rfl (List.Mem.tail _ (List.Mem.tail _ (List.Mem.head _))) (z_const X rfl (z_load_n X (x := x) rfl (List.Mem.tail _ (List.Mem.head _)) ?_))
    have N20 : ∀ e21 : Int, (((x ≠ 0) ∧ e21 = 8) ∨ ((x = 0) ∧ e21 = 24)) → WS k 28 [(0, .ref (A 179)), (1, .int (Int32.ofInt x)), (2, .int (Int32.ofInt y))] [.int (Int32.ofInt e21), .int (Int32.ofInt 1), .int (Int32.ofInt y), .ref (A 179)] (Wd A dT s4) 0 0 := by
      intro e21 he21
      have re21 : 8 ≤ e21 ∧ e21 ≤ 24 := by first | (clear he21 g7 hps5; omega) | (clear g7 hps5; omega) | omega
      refine z_callS X (rm := rmN 188) (As := [.int (Int32.ofInt y), .int (Int32.ofInt 1), .int (Int32.ofInt e21)]) (st := [.ref (A 179)]) rfl rfl (by rw [E.1, E.2.1, E.2.2.1]; exact k_in2 G Is4 (by first | exact ⟨p1.1, p1.2⟩ | omega) (by first | exact ⟨by decide, by decide⟩ | omega) (by first | exact ⟨oq_ebc40354 re21.1, oq_5bcd337f re21.2⟩ | omega)) ⟨by rw [E.2.2.2]; exact (show (rmN 188).frames + 1 ≤ (rmN 273).frames by decide), by rw [E.2.2.2]; exact (show 8 + (mNL (miB 188) + 11) + (rmN 188).locals ≤ (rmN 273).locals by decide), by rw [E.2.2.2]; exact (show 0 + (rmN 188).cells ≤ (rmN 273).cells by decide), by rw [E.2.2.2]; exact (show 0 + (rmN 188).slots ≤ (rmN 273).slots by decide)⟩ (Nat.le_of_ble_eq_true rfl) (fun vv s22 hq => ?_) (fun ee s22 hq => ?_)
      rotate_left
      · obtain ⟨rfl, e23, hv, hrs22, hps22⟩ := hq; cases hv
      obtain ⟨rfl, e23, hv, hrs22, hps22⟩ := hq
      cases hv
      show WS k 31 [(0, .ref (A 179)), (1, .int (Int32.ofInt x)), (2, .int (Int32.ofInt y))] [.int (Int32.ofInt e23), .ref (A 179)] (Wd A dT s4) 0 0
      have N24 : ∀ e25 : Int, (((e23 ≠ 0) ∧ e25 = 0) ∨ ((e23 = 0) ∧ e25 = 1)) → WS k 39 [(0, .ref (A 179)), (1, .int (Int32.ofInt x)), (2, .int (Int32.ofInt y))] [.int (Int32.ofInt e25), .ref (A 179)] (Wd A dT s4) 0 0 := by
        intro e25 he25
        have re25 : 0 ≤ e25 ∧ e25 ≤ 1 := by first | (clear he25 hps22 he21 g7 hps5; omega) | (clear hps22 he21 g7 hps5; omega) | omega
        refine z_const X rfl (zcV_i0 X E 179 (As := [.int (Int32.ofInt e25), .int (Int32.ofInt 1)]) (st := []) rfl rfl rfl rfl (k_bad2 G Is4 (by first | exact oq_31e518ae re25.2 re25.1 | omega) (by first | exact ⟨by decide, by decide⟩ | omega)) rfl (Nat.le_of_ble_eq_true rfl) (fun s26 e27 Is26 Fs26 hrs26 hps26 => ?_))
        have Gs26 := fm_tq Fs4 Fs26 rfl rfl
        have b28 := bi_73 Is26
        have ws26_102 : iI s26 102 = iI s4 102 := fm_iq Fs26 rfl
        have ws26_103 : iI s26 103 = iI s4 103 := fm_iq Fs26 rfl
        refine z_if_eq X (t := 48) rfl rfl hrs26 (fun g29 => ?_) (fun g29 => ?_)
        ·
          refine z_load_n X (x := x) rfl (List.Mem.tail _ (List.Mem.head _)) ?_
          have N30 : ∀ e31 : Int, (((x ≠ 0) ∧ ((1 : Int) ≤ iI s26 103 ∧ iI s26 103 ≤ 8) ∧ e31 = (iI s26 103)) ∨ ((x = 0) ∧ ((1 : Int) ≤ iI s26 102 ∧ iI s26 102 ≤ 24) ∧ e31 = (iI s26 102))) → WS k 63 [(0, .ref (A 179)), (1, .int (Int32.ofInt x)), (2, .int (Int32.ofInt y))] [.int (Int32.ofInt e31)] (Wd A dT s26) 0 0 := by
            intro e31 he31
            refine z_store_n X (lv' := [(3, .int (Int32.ofInt e31)), (0, .ref (A 179)), (1, .int (Int32.ofInt x)), (2, .int (Int32.ofInt y))]) rfl (by decide) (fun _ h => h) (z_load_n X (x := x) rfl (List.Mem.tail _ (List.Mem.tail _ (List.Mem.head _))) (z_if_ne X (t := 76) rfl rfl ⟨by first | exact p0.1 | omega, by first | exact p0.2 | omega⟩ (fun g32 => ?_) (fun g32 => ?_)))
            ·
              refine z_aload_n X (x := A 179) rfl (List.Mem.tail _ (List.Mem.head _)) (z_load_n X (x := y) rfl (List.Mem.tail _ (List.Mem.tail _ (List.Mem.tail _ (List.Mem.head _)))) (s_putI X 179 rfl (c518_ok rfl) rfl rfl (by decide) rfl rfl rfl (wd_gen (fun s33 hs33 => ?_))))
              have Is33 : Bd s33 := eqB hs33 (bd_I Is26 (show (1 : Int) ≤ y ∧ y ≤ 8 by first | exact ⟨oq_ce4216d5 g29 hps26 he25 hps22 vs4, oq_880c914d g32 g29 hps26 he25 hps22 he21 g7 hps5 vs4⟩ | omega) ⟨by first | exact p1.1 | omega, by first | exact p1.2 | omega⟩)
              have Fs33 := eqF hs33 (fm_I Gs26 (inl_ok (a := 103) rfl))
              have vs33 : iI s33 103 = y := eqI hs33 (iI_u ⟨by first | exact p1.1 | omega, by first | exact p1.2 | omega⟩)
              have ws33_73 : iI s33 73 = iI s26 73 := eqI hs33 rfl
              have ws33_102 : iI s33 102 = iI s26 102 := eqI hs33 rfl
              refine z_load_n X (x := e31) rfl (List.Mem.head _) ?_
              exact w_iret X.1 q hRt rfl (ax_d X (show cdA 273 82 = some (.ireturn, 1, 0, 0, 0) from rfl)) (Nat.zero_le _) (Nat.zero_le _) ⟨_, rfl, Is33, Fs33, e31, rfl, ⟨by first | exact oq_62abe554 he31 | omega, by first | exact oq_c46c61bd he31 | omega⟩, by first | (clear g32 he31 hps26 he25 hps22 he21 g7 hps5; omega) | (clear he31 hps26 he25 hps22 he21 g7 hps5; omega) | omega⟩
            ·
              refine z_aload_n X (x := A 179) rfl (List.Mem.tail _ (List.Mem.head _)) (z_load_n X (x := y) rfl (List.Mem.tail _ (List.Mem.tail _ (List.Mem.tail _ (List.Mem.head _)))) (s_putI X 179 rfl (c518_ok rfl) rfl rfl (by decide) rfl rfl rfl (wd_gen (fun s34 hs34 => ?_))))
              have Is34 : Bd s34 := eqB hs34 (bd_I Is26 (show (1 : Int) ≤ y ∧ y ≤ 24 by first | exact ⟨oq_ce4216d5 g29 hps26 he25 hps22 vs4, oq_60133a6a g29 hps26 he25 hps22 re21.2 vs4⟩ | omega) ⟨by first | exact p1.1 | omega, by first | exact p1.2 | omega⟩)
              have Fs34 := eqF hs34 (fm_I Gs26 (inl_ok (a := 102) rfl))
              have vs34 : iI s34 102 = y := eqI hs34 (iI_u ⟨by first | exact p1.1 | omega, by first | exact p1.2 | omega⟩)
              have ws34_73 : iI s34 73 = iI s26 73 := eqI hs34 rfl
              have ws34_103 : iI s34 103 = iI s26 103 := eqI hs34 rfl
              refine z_goto X (t := 81) rfl rfl (z_load_n X (x := e31) rfl (List.Mem.head _) ?_)
              exact w_iret X.1 q hRt rfl (ax_d X (show cdA 273 82 = some (.ireturn, 1, 0, 0, 0) from rfl)) (Nat.zero_le _) (Nat.zero_le _) ⟨_, rfl, Is34, Fs34, e31, rfl, ⟨by first | exact oq_62abe554 he31 | omega, by first | exact oq_c46c61bd he31 | omega⟩, by first | exact oq_1d2c940e ws34_103 ws34_73 vs34 g32 he31 g29 ws26_103 ws26_102 b28.1 hps26 he25 hps22 re21.2 ws4_103 ws4_102 vs4 | omega⟩
          refine z_if_ne X (t := 59) rfl rfl ⟨by first | exact p0.1 | omega, by first | exact p0.2 | omega⟩ (fun g35 => ?_) (fun g35 => ?_)
          ·
            refine z_aload_n X (x := A 179) rfl (List.Mem.head _) (z_getI X 179 rfl (c518_ok rfl) rfl rfl ?_)
            have b36 := bi_103 Is26
            exact N30 _ (Or.inl ⟨g35, b36, rfl⟩)
          ·
            refine z_aload_n X (x := A 179) rfl (List.Mem.head _) (z_getI X 179 rfl (c518_ok rfl) rfl rfl ?_)
            have b37 := bi_102 Is26
            exact z_goto X (t := 63) rfl rfl (N30 _ (Or.inr (⟨g35, b37, rfl⟩)))
        ·
          refine z_const X rfl ?_
          exact w_iret X.1 q hRt rfl (ax_d X (show cdA 273 47 = some (.ireturn, 1, 0, 0, 0) from rfl)) (Nat.zero_le _) (Nat.zero_le _) ⟨_, rfl, Is26, Gs26, 0, rfl, (by decide), by first | (clear g29 hps26 he25 hps22 he21 g7 hps5; omega) | (clear hps26 he25 hps22 he21 g7 hps5; omega) | omega⟩
      refine z_if_ne X (t := 38) rfl rfl hrs22 (fun g38 => ?_) (fun g38 => ?_)
      ·
        exact z_const X rfl (N24 _ (Or.inl ⟨g38, rfl⟩))
      ·
        exact z_const X rfl (z_goto X (t := 39) rfl rfl (N24 _ (Or.inr (⟨g38, rfl⟩))))
    refine z_if_ne X (t := 26) rfl rfl ⟨by first | exact p0.1 | omega, by first | exact p0.2 | omega⟩ (fun g39 => ?_) (fun g39 => ?_)
    ·
      exact z_bipush X rfl (N20 _ (Or.inl ⟨g39, rfl⟩))
    ·
      exact z_bipush X rfl (z_goto X (t := 28) rfl rfl (N20 _ (Or.inr (⟨g39, rfl⟩))))
set_option maxRecDepth 4000 in
theorem cs_needWithin2 (G : GX l s0 D tys a0 dT) (I : Bd s) {v lo hi : Int} (p0 : rng v) (p1 : rng lo) (p2 : rng hi) : CT l s0 D A dT 184 (rmN 184) [.ref (A 0), .int (Int32.ofInt v), .int (Int32.ofInt lo), .int (Int32.ofInt hi)] s (fun o t => Bd t ∧ Fm [] [] s t ∧ ((o = .inl none ∧ (lo ≤ v ∧ v ≤ hi)) ∨ ∃ x : Nat, o = .inr (exN x) ∧ (x = 0 ∧ (v < lo ∨ hi < v)))) := by
  refine ct_ofX G (by decide) (Nat.le_of_ble_eq_true rfl) (fun k X E ET hRt hXt q => ?_)
  show WS k 0 [(0, .ref (A 0)), (1, .int (Int32.ofInt v)), (2, .int (Int32.ofInt lo)), (3, .int (Int32.ofInt hi))] [] _ 0 0
  have F : Fm [] [] s s := fm_rf _ _ s
  refine z_load_n X (x := v) rfl (List.Mem.tail _ (List.Mem.head _)) (z_load_n X (x := lo) rfl (List.Mem.tail _ (List.Mem.tail _ (List.Mem.head _))) (z_icmp_lt X (t := 10) rfl rfl ⟨by first | exact p0.1 | omega, by first | exact p0.2 | omega⟩ ⟨by first | exact p1.1 | omega, by first | exact p1.2 | omega⟩ (fun g1 => ?_) (fun g1 => ?_)))
  ·
    exact z_throw G X E ET hXt q (st := []) rfl (by decide) (by decide) (Nat.le_of_ble_eq_true rfl) (show 0 + 1 ≤ 1 by decide) (show 0 + 6 ≤ 6 by decide) (show 0 + 1 ≤ 1 by decide) (show 0 + 6 ≤ 6 by decide) ⟨_, rfl, I, F, Or.inr ⟨0, rfl, by omega⟩⟩
  ·
    refine z_load_n X (x := v) rfl (List.Mem.tail _ (List.Mem.head _)) (z_load_n X (x := hi) rfl (List.Mem.tail _ (List.Mem.tail _ (List.Mem.tail _ (List.Mem.head _)))) (z_icmp_le X (t := 21) rfl rfl ⟨by first | exact p0.1 | omega, by first | exact p0.2 | omega⟩ ⟨by first | exact p2.1 | omega, by first | exact p2.2 | omega⟩ (fun g2 => ?_) (fun g2 => ?_)))
    ·
      exact w_vret X.1 q hRt (ax_d X (show cdA 184 21 = some (.return_, 1, 0, 0, 0) from rfl)) (Nat.zero_le _) (Nat.zero_le _) ⟨_, rfl, I, F, Or.inl ⟨rfl, by first | exact ⟨g1, g2⟩ | omega⟩⟩
    ·
      exact z_throw G X E ET hXt q (st := []) rfl (by decide) (by decide) (Nat.le_of_ble_eq_true rfl) (show 0 + 1 ≤ 1 by decide) (show 0 + 6 ≤ 6 by decide) (show 0 + 1 ≤ 1 by decide) (show 0 + 6 ≤ 6 by decide) ⟨_, rfl, I, F, Or.inr ⟨0, rfl, by omega⟩⟩
set_option maxRecDepth 4000 in
theorem cs_busy2 (G : GX l s0 D tys a0 dT) (I : Bd s) {v : Int} (p0 : rng v) : CT l s0 D A dT 162 (rmN 162) [.ref (A 0), .int (Int32.ofInt v)] s (fun o t => Bd t ∧ Fm [33] [] s t ∧ ((∃ e, o = .inl (some (.int (Int32.ofInt e))) ∧ rng e ∧ (0 ≤ v ∧ v ≤ 100000 ∧ e = iI s 33 ∧ iI t 33 = v)) ∨ ∃ x : Nat, o = .inr (exN x) ∧ (x = 0 ∧ (v < 0 ∨ 100000 < v) ∧ iI t 33 = iI s 33))) := by
  refine ct_ofX G (by decide) (Nat.le_of_ble_eq_true rfl) (fun k X E ET hRt hXt q => ?_)
  show WS k 0 [(0, .ref (A 0)), (1, .int (Int32.ofInt v))] [] _ 0 0
  have F : Fm [33] [] s s := fm_rf _ _ s
  have b1 := bi_33 I
  refine z_aload_n X (x := A 0) rfl (List.Mem.head _) (z_load_n X (x := v) rfl (List.Mem.tail _ (List.Mem.head _)) (z_const X rfl (z_ldcw X rfl (z_callV X 0 (rm := rmN 184) (As := [.int (Int32.ofInt v), .int (Int32.ofInt 0), .int (Int32.ofInt 100000)]) (st := []) rfl rfl (by decide) rfl (by rw [E.1, E.2.1, E.2.2.1]; exact cs_needWithin2 G I (by first | exact ⟨p0.1, p0.2⟩ | omega) (by first | exact ⟨by decide, by decide⟩ | omega) (by first | exact ⟨by decide, by decide⟩ | omega)) ⟨by rw [E.2.2.2]; exact (show (rmN 184).frames + 1 ≤ (rmN 162).frames by decide), by rw [E.2.2.2]; exact (show 8 + (mNL (miB 184) + 11) + (rmN 184).locals ≤ (rmN 162).locals by decide), by rw [E.2.2.2]; exact (show 0 + 1 ≤ 1 by decide), by rw [E.2.2.2]; exact (show 0 + 6 ≤ 6 by decide)⟩ (Nat.le_of_ble_eq_true rfl) (fun vv s2 hq => ?_) (fun ee s2 hq => ?_)))))
  rotate_left
  · obtain ⟨Is2, Fs2, (⟨hv, hps2⟩ | ⟨xx, hv, hps2⟩)⟩ := hq
    · cases hv
    · cases hv
      have Gs2 := fm_tq F Fs2 rfl rfl
      have ws2_33 : iI s2 33 = iI s 33 := fm_iq Fs2 rfl
      exact x_out X.1 q (fun x hx => (hXt x hx).elim) (show 1 ≤ 1 by decide) (show 6 ≤ 6 by decide) ⟨_, rfl, Is2, Gs2, Or.inr ⟨xx, rfl, by omega⟩⟩
  obtain ⟨Is2, Fs2, (⟨hv, hps2⟩ | ⟨xx, hv, hps2⟩)⟩ := hq
  rotate_left
  · cases hv
  cases hv
  have Gs2 := fm_tq F Fs2 rfl rfl
  have ws2_33 : iI s2 33 = iI s 33 := fm_iq Fs2 rfl
  show WS k 9 [(0, .ref (A 0)), (1, .int (Int32.ofInt v))] [] (Wd A dT s2) 1 6
  refine z_aload_n X (x := A 0) rfl (List.Mem.head _) (s_getR X 0 rfl (c518_ok rfl) rfl rfl (z_getI X 54 rfl (c518_ok rfl) rfl rfl ?_))
  have b4 := bi_33 Is2
  refine z_store_n X (lv' := [(2, .int (Int32.ofInt (iI s2 33))), (0, .ref (A 0)), (1, .int (Int32.ofInt v))]) rfl (by decide) (fun _ h => h) (z_aload_n X (x := A 0) rfl (List.Mem.tail _ (List.Mem.head _)) (s_getR X 0 rfl (c518_ok rfl) rfl rfl (z_load_n X (x := v) rfl (List.Mem.tail _ (List.Mem.tail _ (List.Mem.head _))) (s_putI X 54 rfl (c518_ok rfl) rfl rfl (by decide) rfl rfl rfl (wd_gen (fun s5 hs5 => ?_))))))
  have Is5 : Bd s5 := eqB hs5 (bd_I Is2 (show (0 : Int) ≤ v ∧ v ≤ 100000 by first | exact ⟨hps2.1, hps2.2⟩ | omega) ⟨by first | exact p0.1 | omega, by first | exact p0.2 | omega⟩)
  have Fs5 := eqF hs5 (fm_I Gs2 (inl_ok (a := 33) rfl))
  have vs5 : iI s5 33 = v := eqI hs5 (iI_u ⟨by first | exact p0.1 | omega, by first | exact p0.2 | omega⟩)
  refine z_load_n X (x := (iI s2 33)) rfl (List.Mem.head _) ?_
  exact w_iret X.1 q hRt rfl (ax_d X (show cdA 162 26 = some (.ireturn, 1, 0, 0, 0) from rfl)) (show 1 ≤ 1 by decide) (show 6 ≤ 6 by decide) ⟨_, rfl, Is5, Fs5, Or.inl ⟨(iI s2 33), rfl, (rng_to _), by first | exact ⟨hps2.1, hps2.2, ws2_33, vs5⟩ | omega⟩⟩
set_option maxRecDepth 4000 in
theorem cs_hours2 (G : GX l s0 D tys a0 dT) (I : Bd s) {u v : Int} (p0 : rng u) (p1 : rng v) : CT l s0 D A dT 164 (rmN 164) [.ref (A 0), .int (Int32.ofInt u), .int (Int32.ofInt v)] s (fun o t => Bd t ∧ Fm [36, 37] [] s t ∧ ((∃ e, o = .inl (some (.int (Int32.ofInt e))) ∧ rng e ∧ (((u = 0 ∧ 1 ≤ v ∧ v ≤ 24 ∧ e = iI s 36 ∧ iI t 36 = v ∧ iI t 37 = iI s 37) ∨ (u = 1 ∧ 1 ≤ v ∧ v ≤ 8 ∧ e = iI s 37 ∧ iI t 37 = v ∧ iI t 36 = iI s 36)))) ∨ ∃ x : Nat, o = .inr (exN x) ∧ (x = 0 ∧ (u < 0 ∨ 1 < u ∨ v < 1 ∨ (u = 0 ∧ 24 < v) ∨ (u = 1 ∧ 8 < v)) ∧ iI t 36 = iI s 36 ∧ iI t 37 = iI s 37))) := by
  refine ct_ofX G (by decide) (Nat.le_of_ble_eq_true rfl) (fun k X E ET hRt hXt q => ?_)
  show WS k 0 [(0, .ref (A 0)), (1, .int (Int32.ofInt u)), (2, .int (Int32.ofInt v))] [] _ 0 0
  have F : Fm [36, 37] [] s s := fm_rf _ _ s
  have b1 := bi_36 I
  have b2 := bi_37 I
  refine z_aload_n X (x := A 0) rfl (List.Mem.head _) (z_load_n X (x := u) rfl (List.Mem.tail _ (List.Mem.head _)) (z_const X rfl (z_const X rfl (z_callV X 0 (rm := rmN 184) (As := [.int (Int32.ofInt u), .int (Int32.ofInt 0), .int (Int32.ofInt 1)]) (st := []) rfl rfl (by decide) rfl (by rw [E.1, E.2.1, E.2.2.1]; exact cs_needWithin2 G I (by first | exact ⟨p0.1, p0.2⟩ | omega) (by first | exact ⟨by decide, by decide⟩ | omega) (by first | exact ⟨by decide, by decide⟩ | omega)) ⟨by rw [E.2.2.2]; exact (show (rmN 184).frames + 1 ≤ (rmN 164).frames by decide), by rw [E.2.2.2]; exact (show 8 + (mNL (miB 184) + 11) + (rmN 184).locals ≤ (rmN 164).locals by decide), by rw [E.2.2.2]; exact (show 0 + 1 ≤ 2 by decide), by rw [E.2.2.2]; exact (show 0 + 6 ≤ 12 by decide)⟩ (Nat.le_of_ble_eq_true rfl) (fun vv s3 hq => ?_) (fun ee s3 hq => ?_)))))
  rotate_left
  · obtain ⟨Is3, Fs3, (⟨hv, hps3⟩ | ⟨xx, hv, hps3⟩)⟩ := hq
    · cases hv
    · cases hv
      have Gs3 := fm_tq F Fs3 rfl rfl
      have ws3_36 : iI s3 36 = iI s 36 := fm_iq Fs3 rfl
      have ws3_37 : iI s3 37 = iI s 37 := fm_iq Fs3 rfl
      exact x_out X.1 q (fun x hx => (hXt x hx).elim) (show 1 ≤ 2 by decide) (show 6 ≤ 12 by decide) ⟨_, rfl, Is3, Gs3, Or.inr ⟨xx, rfl, by omega⟩⟩
  obtain ⟨Is3, Fs3, (⟨hv, hps3⟩ | ⟨xx, hv, hps3⟩)⟩ := hq
  rotate_left
  · cases hv
  cases hv
  have Gs3 := fm_tq F Fs3 rfl rfl
  have ws3_36 : iI s3 36 = iI s 36 := fm_iq Fs3 rfl
  have ws3_37 : iI s3 37 = iI s 37 := fm_iq Fs3 rfl
  show WS k 7 [(0, .ref (A 0)), (1, .int (Int32.ofInt u)), (2, .int (Int32.ofInt v))] [] (Wd A dT s3) 1 6
  refine z_aload_n X (x := A 0) rfl (List.Mem.head _) (z_load_n X (x := v) rfl (List.Mem.tail _ (List.Mem.tail _ (List.Mem.head _))) (z_const X rfl (z_load_n X (x := u) rfl (List.Mem.tail _ (List.Mem.head _)) ?_)))
  have N5 : ∀ e6 : Int, (((u ≠ 0) ∧ e6 = 8) ∨ ((u = 0) ∧ e6 = 24)) → WS k 21 [(0, .ref (A 0)), (1, .int (Int32.ofInt u)), (2, .int (Int32.ofInt v))] [.int (Int32.ofInt e6), .int (Int32.ofInt 1), .int (Int32.ofInt v), .ref (A 0)] (Wd A dT s3) 1 6 := by
    intro e6 he6
    have re6 : 8 ≤ e6 ∧ e6 ≤ 24 := by first | (clear he6 hps3; omega) | (clear hps3; omega) | omega
    refine z_callV X 0 (rm := rmN 184) (As := [.int (Int32.ofInt v), .int (Int32.ofInt 1), .int (Int32.ofInt e6)]) (st := []) rfl rfl (by decide) rfl (by rw [E.1, E.2.1, E.2.2.1]; exact cs_needWithin2 G Is3 (by first | exact ⟨p1.1, p1.2⟩ | omega) (by first | exact ⟨by decide, by decide⟩ | omega) (by first | exact ⟨oq_ebc40354 re6.1, oq_5bcd337f re6.2⟩ | omega)) ⟨by rw [E.2.2.2]; exact (show (rmN 184).frames + 1 ≤ (rmN 164).frames by decide), by rw [E.2.2.2]; exact (show 8 + (mNL (miB 184) + 11) + (rmN 184).locals ≤ (rmN 164).locals by decide), by rw [E.2.2.2]; exact (show 1 + 1 ≤ 2 by decide), by rw [E.2.2.2]; exact (show 6 + 6 ≤ 12 by decide)⟩ (Nat.le_of_ble_eq_true rfl) (fun vv s7 hq => ?_) (fun ee s7 hq => ?_)
    rotate_left
    · obtain ⟨Is7, Fs7, (⟨hv, hps7⟩ | ⟨xx, hv, hps7⟩)⟩ := hq
      · cases hv
      · cases hv
        have Gs7 := fm_tq Gs3 Fs7 rfl rfl
        have ws7_36 : iI s7 36 = iI s3 36 := fm_iq Fs7 rfl
        have ws7_37 : iI s7 37 = iI s3 37 := fm_iq Fs7 rfl
        exact x_out X.1 q (fun x hx => (hXt x hx).elim) (show (1 + 1) ≤ 2 by decide) (show (6 + 6) ≤ 12 by decide) ⟨_, rfl, Is7, Gs7, Or.inr ⟨xx, rfl, by first | (clear he6 hps3; omega) | (clear hps3; omega) | omega⟩⟩
    obtain ⟨Is7, Fs7, (⟨hv, hps7⟩ | ⟨xx, hv, hps7⟩)⟩ := hq
    rotate_left
    · cases hv
    cases hv
    have Gs7 := fm_tq Gs3 Fs7 rfl rfl
    have ws7_36 : iI s7 36 = iI s3 36 := fm_iq Fs7 rfl
    have ws7_37 : iI s7 37 = iI s3 37 := fm_iq Fs7 rfl
    show WS k 24 [(0, .ref (A 0)), (1, .int (Int32.ofInt u)), (2, .int (Int32.ofInt v))] [] (Wd A dT s7) (1 + 1) (6 + 6)
    refine z_load_n X (x := u) rfl (List.Mem.tail _ (List.Mem.head _)) (z_if_ne X (t := 39) rfl rfl ⟨by first | exact p0.1 | omega, by first | exact p0.2 | omega⟩ (fun g9 => ?_) (fun g9 => ?_))
    ·
      refine z_aload_n X (x := A 0) rfl (List.Mem.head _) (s_getR X 0 rfl (c518_ok rfl) rfl rfl (z_load_n X (x := v) rfl (List.Mem.tail _ (List.Mem.tail _ (List.Mem.head _))) (z_callV X 61 (rm := rmN 61) (As := [.int (Int32.ofInt v)]) (st := []) rfl rfl (by decide) rfl (by rw [E.1, E.2.1, E.2.2.1]; exact c6_setRest_61 G Is7 (by first | exact ⟨hps7.1, oq_06ae99d7 g9 hps7.2 he6 hps3.1⟩ | omega)) ⟨by rw [E.2.2.2]; exact (show (rmN 61).frames + 1 ≤ (rmN 164).frames by decide), by rw [E.2.2.2]; exact (show 8 + (mNL (miB 61) + 11) + (rmN 61).locals ≤ (rmN 164).locals by decide), by rw [E.2.2.2]; exact (show (1 + 1) + 0 ≤ 2 by decide), by rw [E.2.2.2]; exact (show (6 + 6) + 0 ≤ 12 by decide)⟩ (Nat.le_of_ble_eq_true rfl) (fun vv s10 hq => ?_) (fun ee s10 hq => ?_))))
      rotate_left
      · obtain ⟨Is10, Fs10, e11, hv, hrs10, hps10⟩ := hq; cases hv
      obtain ⟨Is10, Fs10, e11, hv, hrs10, hps10⟩ := hq
      cases hv
      have Gs10 := fm_tq Gs7 Fs10 rfl rfl
      have ws10_36 : iI s10 36 = iI s7 36 := fm_iq Fs10 rfl
      have b12 := bi_37 Is10
      show WS k 47 [(0, .ref (A 0)), (1, .int (Int32.ofInt u)), (2, .int (Int32.ofInt v))] [.int (Int32.ofInt e11)] (Wd A dT s10) (1 + 1) (6 + 6)
      exact w_iret X.1 q hRt rfl (ax_d X (show cdA 164 47 = some (.ireturn, 1, 0, 0, 0) from rfl)) (show (1 + 1) ≤ 2 by decide) (show (6 + 6) ≤ 12 by decide) ⟨_, rfl, Is10, Gs10, Or.inl ⟨e11, rfl, hrs10, by first | exact oq_8e84b2bd ws10_36 hps10.2 hps10.1 g9 ws7_37 ws7_36 hps7.2 hps7.1 he6 ws3_37 ws3_36 hps3.2 hps3.1 | omega⟩⟩
    ·
      refine z_aload_n X (x := A 0) rfl (List.Mem.head _) (s_getR X 0 rfl (c518_ok rfl) rfl rfl (z_load_n X (x := v) rfl (List.Mem.tail _ (List.Mem.tail _ (List.Mem.head _))) (z_callV X 61 (rm := rmN 60) (As := [.int (Int32.ofInt v)]) (st := []) rfl rfl (by decide) rfl (by rw [E.1, E.2.1, E.2.2.1]; exact c6_setWork_61 G Is7 (by first | exact ⟨hps7.1, oq_9a71296a hps7.2 re6.2⟩ | omega)) ⟨by rw [E.2.2.2]; exact (show (rmN 60).frames + 1 ≤ (rmN 164).frames by decide), by rw [E.2.2.2]; exact (show 8 + (mNL (miB 60) + 11) + (rmN 60).locals ≤ (rmN 164).locals by decide), by rw [E.2.2.2]; exact (show (1 + 1) + 0 ≤ 2 by decide), by rw [E.2.2.2]; exact (show (6 + 6) + 0 ≤ 12 by decide)⟩ (Nat.le_of_ble_eq_true rfl) (fun vv s13 hq => ?_) (fun ee s13 hq => ?_))))
      rotate_left
      · obtain ⟨Is13, Fs13, e14, hv, hrs13, hps13⟩ := hq; cases hv
      obtain ⟨Is13, Fs13, e14, hv, hrs13, hps13⟩ := hq
      cases hv
      have Gs13 := fm_tq Gs7 Fs13 rfl rfl
      have b15 := bi_36 Is13
      have ws13_37 : iI s13 37 = iI s7 37 := fm_iq Fs13 rfl
      show WS k 36 [(0, .ref (A 0)), (1, .int (Int32.ofInt u)), (2, .int (Int32.ofInt v))] [.int (Int32.ofInt e14)] (Wd A dT s13) (1 + 1) (6 + 6)
      refine z_goto X (t := 47) rfl rfl ?_
      exact w_iret X.1 q hRt rfl (ax_d X (show cdA 164 47 = some (.ireturn, 1, 0, 0, 0) from rfl)) (show (1 + 1) ≤ 2 by decide) (show (6 + 6) ≤ 12 by decide) ⟨_, rfl, Is13, Gs13, Or.inl ⟨e14, rfl, hrs13, by first | exact Or.inl (And.intro (g9) (And.intro (hps7.1) (And.intro (oq_b1cdf24c hps13.2 b15.2) (And.intro (oq_d0d2714e hps13.1 ws3_36 ws7_36) (And.intro (hps13.2) (oq_d0d2714e ws13_37 ws3_37 ws7_37)))))) | omega⟩⟩
  refine z_if_ne X (t := 19) rfl rfl ⟨by first | exact p0.1 | omega, by first | exact p0.2 | omega⟩ (fun g16 => ?_) (fun g16 => ?_)
  ·
    exact z_bipush X rfl (N5 _ (Or.inl ⟨g16, rfl⟩))
  ·
    exact z_bipush X rfl (z_goto X (t := 21) rfl rfl (N5 _ (Or.inr (⟨g16, rfl⟩))))
set_option maxRecDepth 4000 in
theorem lw_busy2 (G : GX l s0 D tys a0 dT) (I : Bd s) {v : Int} (p0 : rng v) : CTL l s0 D A dT 336 (rmN 336) [.ref (A 0), .int (Int32.ofInt v), .ref (A 517)] s (fun o t => Bd t ∧ Fm [33] [1460] s t ∧ ∃ e, o = .inl (some (.int (Int32.ofInt e))) ∧ rng e ∧ ((e = 0 ∧ 0 ≤ v ∧ v ≤ 100000 ∧ iO t = iI s 33 ∧ iI t 33 = v) ∨ (e = 1 ∧ (v < 0 ∨ 100000 < v) ∧ iI t 33 = iI s 33))) := by
  refine ctL_of G (by decide) (Nat.le_of_ble_eq_true rfl) (by decide) rfl (fun k X E ET hRt hEx q => ?_)
  show WS k 0 [(0, .ref (A 0)), (1, .int (Int32.ofInt v)), (2, .ref (A 517))] [] _ 0 0
  have F : Fm [33] [1460] s s := fm_rf _ _ s
  have hA := swA_rf A
  have b1 := bi_33 I
  refine z_aload_n X (x := A 517) rfl (List.Mem.tail _ (List.Mem.tail _ (List.Mem.head _))) (z_const X rfl (z_aload_n X (x := A 0) rfl (List.Mem.head _) (z_load_n X (x := v) rfl (List.Mem.tail _ (List.Mem.head _)) (z_callV X 0 (rm := rmN 162) (As := [.int (Int32.ofInt v)]) (st := [.int (Int32.ofInt 0), .ref (A 517)]) rfl rfl (by decide) rfl (by rw [E.1, E.2.1, E.2.2.1]; exact cs_busy2 G I (by omega)) ⟨by rw [E.2.2.2]; exact (show (rmN 162).frames + 1 ≤ (rmN 336).frames by decide), by rw [E.2.2.2]; exact (show 8 + (mNL (miB 162) + 11) + (rmN 162).locals ≤ (rmN 336).locals by decide), by rw [E.2.2.2]; exact (show 0 + (rmN 162).cells ≤ (rmN 336).cells by decide), by rw [E.2.2.2]; exact (show 0 + (rmN 162).slots ≤ (rmN 336).slots by decide)⟩ (Nat.le_of_ble_eq_true rfl) (fun vv s2 hq => ?_) (fun ee s2 hq => ?_)))))
  rotate_left
  · obtain ⟨Is2, Fs2, (⟨e3, hv, hrs2, hps2⟩ | ⟨xx, hv, hps2⟩)⟩ := hq
    · cases hv
    · cases hv
      rcases (show xx = 0 by omega) with gx
      ·
        subst gx
        have Gs2 := fm_tq F Fs2 rfl rfl
        have b4 := bi_33 Is2
        refine (hEx 4 0).2 12 rfl _ _ _ _ _ (fun q1 => ?_)
        show WS k 12 [(0, .ref (A 0)), (1, .int (Int32.ofInt v)), (2, .ref (A 517))] [.ref q1] (Wd A dT s2) 1 6
        refine z_astore_n X (lv' := [(3, .ref q1), (0, .ref (A 0)), (1, .int (Int32.ofInt v)), (2, .ref (A 517))]) rfl (by decide) (fun _ h => h) (z_const X rfl ?_)
        exact w_iret X.1 q hRt rfl (ax_d X (show cdA 336 14 = some (.ireturn, 1, 0, 0, 0) from rfl)) (show 1 ≤ 1 by decide) (show 6 ≤ 6 by decide) ⟨A, _, hA, rfl, Is2, Gs2, 1, rfl, (by decide), by omega⟩
  obtain ⟨Is2, Fs2, (⟨e3, hv, hrs2, hps2⟩ | ⟨xx, hv, hps2⟩)⟩ := hq
  rotate_left
  · cases hv
  cases hv
  have Gs2 := fm_tq F Fs2 rfl rfl
  have b5 := bi_33 Is2
  show WS k 7 [(0, .ref (A 0)), (1, .int (Int32.ofInt v)), (2, .ref (A 517))] [.int (Int32.ofInt e3), .int (Int32.ofInt 0), .ref (A 517)] (Wd A dT s2) 1 6
  refine w_i2l X.1 (ax_d X (show cdA 336 7 = some (.i2l, 1, 0, 0, 0) from rfl)) (z_last X 517 rfl (c518_ok rfl) rfl (by first | (clear hps2; omega) | omega) (show 0 < 1 by first | (clear hps2; omega) | omega) (cbig_ok rfl) (wd_gen (fun s6 hs6 => ?_)))
  have Is6 : Bd s6 := eqB hs6 (bd_D Is2)
  have Fs6 : Fm [33] [1460] s s6 := by rw [hs6]; exact fm_D Gs2 (show 460 + 1000 ∈ _ by decide)
  have ws6_33 : iI s6 33 = iI s2 33 := eqI hs6 rfl
  have oos6 : iO s6 = e3 := by rw [hs6]; exact iO_u (by first | (clear hps2; omega) | omega)
  refine z_goto X (t := 15) rfl rfl (z_const X rfl ?_)
  exact w_iret X.1 q hRt rfl (ax_d X (show cdA 336 16 = some (.ireturn, 1, 0, 0, 0) from rfl)) (show 1 ≤ 1 by decide) (show 6 ≤ 6 by decide) ⟨A, _, hA, rfl, Is6, Fs6, 0, rfl, (by decide), by first | (clear hps2; omega) | omega⟩
set_option maxRecDepth 4000 in
theorem lw_hours2 (G : GX l s0 D tys a0 dT) (I : Bd s) {u v : Int} (p0 : rng u) (p1 : rng v) : CTL l s0 D A dT 338 (rmN 338) [.ref (A 0), .int (Int32.ofInt u), .int (Int32.ofInt v), .ref (A 517)] s (fun o t => Bd t ∧ Fm [36, 37] [1460] s t ∧ ∃ e, o = .inl (some (.int (Int32.ofInt e))) ∧ rng e ∧ ((e = 0 ∧ ((u = 0 ∧ 1 ≤ v ∧ v ≤ 24 ∧ iO t = iI s 36 ∧ iI t 36 = v ∧ iI t 37 = iI s 37) ∨ (u = 1 ∧ 1 ≤ v ∧ v ≤ 8 ∧ iO t = iI s 37 ∧ iI t 37 = v ∧ iI t 36 = iI s 36))) ∨ (e = 1 ∧ (u < 0 ∨ 1 < u ∨ v < 1 ∨ (u = 0 ∧ 24 < v) ∨ (u = 1 ∧ 8 < v)) ∧ iI t 36 = iI s 36 ∧ iI t 37 = iI s 37))) := by
  refine ctL_of G (by decide) (Nat.le_of_ble_eq_true rfl) (by decide) rfl (fun k X E ET hRt hEx q => ?_)
  show WS k 0 [(0, .ref (A 0)), (1, .int (Int32.ofInt u)), (2, .int (Int32.ofInt v)), (3, .ref (A 517))] [] _ 0 0
  have F : Fm [36, 37] [1460] s s := fm_rf _ _ s
  have hA := swA_rf A
  have b1 := bi_36 I
  have b2 := bi_37 I
  refine z_aload_n X (x := A 517) rfl (List.Mem.tail _ (List.Mem.tail _ (List.Mem.tail _ (List.Mem.head _)))) (z_const X rfl (z_aload_n X (x := A 0) rfl (List.Mem.head _) (z_load_n X (x := u) rfl (List.Mem.tail _ (List.Mem.head _)) (z_load_n X (x := v) rfl (List.Mem.tail _ (List.Mem.tail _ (List.Mem.head _))) (z_callV X 0 (rm := rmN 164) (As := [.int (Int32.ofInt u), .int (Int32.ofInt v)]) (st := [.int (Int32.ofInt 0), .ref (A 517)]) rfl rfl (by decide) rfl (by rw [E.1, E.2.1, E.2.2.1]; exact cs_hours2 G I (by omega) (by omega)) ⟨by rw [E.2.2.2]; exact (show (rmN 164).frames + 1 ≤ (rmN 338).frames by decide), by rw [E.2.2.2]; exact (show 8 + (mNL (miB 164) + 11) + (rmN 164).locals ≤ (rmN 338).locals by decide), by rw [E.2.2.2]; exact (show 0 + (rmN 164).cells ≤ (rmN 338).cells by decide), by rw [E.2.2.2]; exact (show 0 + (rmN 164).slots ≤ (rmN 338).slots by decide)⟩ (Nat.le_of_ble_eq_true rfl) (fun vv s3 hq => ?_) (fun ee s3 hq => ?_))))))
  rotate_left
  · obtain ⟨Is3, Fs3, (⟨e4, hv, hrs3, hps3⟩ | ⟨xx, hv, hps3⟩)⟩ := hq
    · cases hv
    · cases hv
      rcases (show xx = 0 by omega) with gx
      ·
        subst gx
        have Gs3 := fm_tq F Fs3 rfl rfl
        have b5 := bi_36 Is3
        have b6 := bi_37 Is3
        refine (hEx 5 0).2 13 rfl _ _ _ _ _ (fun q1 => ?_)
        show WS k 13 [(0, .ref (A 0)), (1, .int (Int32.ofInt u)), (2, .int (Int32.ofInt v)), (3, .ref (A 517))] [.ref q1] (Wd A dT s3) 2 12
        refine z_astore X (lv' := [(4, .ref q1), (0, .ref (A 0)), (1, .int (Int32.ofInt u)), (2, .int (Int32.ofInt v)), (3, .ref (A 517))]) rfl (by decide) (fun _ h => h) (z_const X rfl ?_)
        exact w_iret X.1 q hRt rfl (ax_d X (show cdA 338 16 = some (.ireturn, 1, 0, 0, 0) from rfl)) (show 2 ≤ 2 by decide) (show 12 ≤ 12 by decide) ⟨A, _, hA, rfl, Is3, Gs3, 1, rfl, (by decide), by omega⟩
  obtain ⟨Is3, Fs3, (⟨e4, hv, hrs3, hps3⟩ | ⟨xx, hv, hps3⟩)⟩ := hq
  rotate_left
  · cases hv
  cases hv
  have Gs3 := fm_tq F Fs3 rfl rfl
  have b7 := bi_36 Is3
  have b8 := bi_37 Is3
  show WS k 8 [(0, .ref (A 0)), (1, .int (Int32.ofInt u)), (2, .int (Int32.ofInt v)), (3, .ref (A 517))] [.int (Int32.ofInt e4), .int (Int32.ofInt 0), .ref (A 517)] (Wd A dT s3) 2 12
  refine w_i2l X.1 (ax_d X (show cdA 338 8 = some (.i2l, 1, 0, 0, 0) from rfl)) (z_last X 517 rfl (c518_ok rfl) rfl (by first | (clear hps3; omega) | omega) (show 0 < 1 by first | (clear hps3; omega) | omega) (cbig_ok rfl) (wd_gen (fun s9 hs9 => ?_)))
  have Is9 : Bd s9 := eqB hs9 (bd_D Is3)
  have Fs9 : Fm [36, 37] [1460] s s9 := by rw [hs9]; exact fm_D Gs3 (show 460 + 1000 ∈ _ by decide)
  have ws9_36 : iI s9 36 = iI s3 36 := eqI hs9 rfl
  have ws9_37 : iI s9 37 = iI s3 37 := eqI hs9 rfl
  have oos9 : iO s9 = e4 := by rw [hs9]; exact iO_u (by first | (clear hps3; omega) | omega)
  refine z_goto X (t := 17) rfl rfl (z_const X rfl ?_)
  exact w_iret X.1 q hRt rfl (ax_d X (show cdA 338 18 = some (.ireturn, 1, 0, 0, 0) from rfl)) (show 2 ≤ 2 by decide) (show 12 ≤ 12 by decide) ⟨A, _, hA, rfl, Is9, Fs9, 0, rfl, (by decide), by first | (clear hps3; omega) | omega⟩
set_option maxRecDepth 4000 in
theorem cs_needPiece2 (G : GX l s0 D tys a0 dT) (I : Bd s) {v : Int} (p0 : rng v) : CT l s0 D A dT 182 (rmN 182) [.ref (A 0), .int (Int32.ofInt v)] s (fun o t => Bd t ∧ Fm [] [] s t ∧ ((o = .inl none ∧ (0 ≤ v ∧ v ≤ 7)) ∨ ∃ x : Nat, o = .inr (exN x) ∧ (x = 0 ∧ (v < 0 ∨ 7 < v)))) := by
  refine ct_ofX G (by decide) (Nat.le_of_ble_eq_true rfl) (fun k X E ET hRt hXt q => ?_)
  show WS k 0 [(0, .ref (A 0)), (1, .int (Int32.ofInt v))] [] _ 0 0
  have F : Fm [] [] s s := fm_rf _ _ s
  refine z_aload_n X (x := A 0) rfl (List.Mem.head _) (z_load_n X (x := v) rfl (List.Mem.tail _ (List.Mem.head _)) (z_const X rfl (z_bipush X rfl (z_callV X 0 (rm := rmN 184) (As := [.int (Int32.ofInt v), .int (Int32.ofInt 0), .int (Int32.ofInt 7)]) (st := []) rfl rfl (by decide) rfl (by rw [E.1, E.2.1, E.2.2.1]; exact cs_needWithin2 G I (by first | exact ⟨p0.1, p0.2⟩ | omega) (by first | exact ⟨by decide, by decide⟩ | omega) (by first | exact ⟨by decide, by decide⟩ | omega)) ⟨by rw [E.2.2.2]; exact (show (rmN 184).frames + 1 ≤ (rmN 182).frames by decide), by rw [E.2.2.2]; exact (show 8 + (mNL (miB 184) + 11) + (rmN 184).locals ≤ (rmN 182).locals by decide), by rw [E.2.2.2]; exact (show 0 + 1 ≤ 1 by decide), by rw [E.2.2.2]; exact (show 0 + 6 ≤ 6 by decide)⟩ (Nat.le_of_ble_eq_true rfl) (fun vv s1 hq => ?_) (fun ee s1 hq => ?_)))))
  rotate_left
  · obtain ⟨Is1, Fs1, (⟨hv, hps1⟩ | ⟨xx, hv, hps1⟩)⟩ := hq
    · cases hv
    · cases hv
      have Gs1 := fm_tq F Fs1 rfl rfl
      exact x_out X.1 q (fun x hx => (hXt x hx).elim) (show 1 ≤ 1 by decide) (show 6 ≤ 6 by decide) ⟨_, rfl, Is1, Gs1, Or.inr ⟨xx, rfl, by omega⟩⟩
  obtain ⟨Is1, Fs1, (⟨hv, hps1⟩ | ⟨xx, hv, hps1⟩)⟩ := hq
  rotate_left
  · cases hv
  cases hv
  have Gs1 := fm_tq F Fs1 rfl rfl
  show WS k 8 [(0, .ref (A 0)), (1, .int (Int32.ofInt v))] [] (Wd A dT s1) 1 6
  exact w_vret X.1 q hRt (ax_d X (show cdA 182 8 = some (.return_, 1, 0, 0, 0) from rfl)) (show 1 ≤ 1 by decide) (show 6 ≤ 6 by decide) ⟨_, rfl, Is1, Gs1, Or.inl ⟨rfl, by first | exact ⟨hps1.1, hps1.2⟩ | omega⟩⟩
set_option maxRecDepth 4000 in
theorem k_limit2 (G : GX l s0 D tys a0 dT) (I : Bd s) {x y : Int} (p0 : rng x) (p1 : rng y) : CT l s0 D A dT 236 (rmN 236) [.ref (A 179), .int (Int32.ofInt x), .int (Int32.ofInt y)] s (fun o t => Bd t ∧ Fm [73] [229] s t ∧ ∃ e, o = .inl (some (.int (Int32.ofInt e))) ∧ rng e ∧ ((0 ≤ x ∧ x ≤ 7 ∧ 0 ≤ y ∧ y ≤ 9999 ∧ iI t 73 = 0 ∧ e = iC s 229 x.toNat ∧ UPD 229 x y s t) ∨ ((x < 0 ∨ 7 < x ∨ y < 0 ∨ 9999 < y) ∧ iI t 73 = 1 ∧ SAM 229 s t))) := by
  refine ct_of G (by decide) (Nat.le_of_ble_eq_true rfl) (fun k X E hRt hXt q => ?_)
  show WS k 0 [(0, .ref (A 179)), (1, .int (Int32.ofInt x)), (2, .int (Int32.ofInt y))] [] _ 0 0
  have F : Fm [73] [229] s s := fm_rf _ _ s
  have aw0_229 : SAM 229 s s := sam_rf
  have b1 := bi_73 I
  refine z_aload_n X (x := A 179) rfl (List.Mem.head _) (z_const X rfl (s_putI X 179 rfl (c518_ok rfl) rfl rfl (by decide) rfl rfl rfl (wd_gen (fun s2 hs2 => ?_))))
  have Is2 : Bd s2 := eqB hs2 (bd_I I (show (0 : Int) ≤ 0 ∧ 0 ≤ 3 by first | exact ⟨by decide, by decide⟩ | omega) (by decide))
  have Fs2 := eqF hs2 (fm_I F (inl_ok (a := 73) rfl))
  have vs2 : iI s2 73 = 0 := eqI hs2 (iI_u (by decide))
  have aws2_229 : SAM 229 s s2 := by rw [hs2]; exact aw0_229
  refine z_aload_n X (x := A 179) rfl (List.Mem.head _) (z_load_n X (x := x) rfl (List.Mem.tail _ (List.Mem.head _)) (z_const X rfl (z_bipush X rfl (z_callS X (rm := rmN 188) (As := [.int (Int32.ofInt x), .int (Int32.ofInt 0), .int (Int32.ofInt 7)]) (st := [.ref (A 179)]) rfl rfl (by rw [E.1, E.2.1, E.2.2.1]; exact k_in2 G Is2 (by first | exact ⟨p0.1, p0.2⟩ | omega) (by first | exact ⟨by decide, by decide⟩ | omega) (by first | exact ⟨by decide, by decide⟩ | omega)) ⟨by rw [E.2.2.2]; exact (show (rmN 188).frames + 1 ≤ (rmN 236).frames by decide), by rw [E.2.2.2]; exact (show 8 + (mNL (miB 188) + 11) + (rmN 188).locals ≤ (rmN 236).locals by decide), by rw [E.2.2.2]; exact (show 0 + (rmN 188).cells ≤ (rmN 236).cells by decide), by rw [E.2.2.2]; exact (show 0 + (rmN 188).slots ≤ (rmN 236).slots by decide)⟩ (Nat.le_of_ble_eq_true rfl) (fun vv s3 hq => ?_) (fun ee s3 hq => ?_)))))
  rotate_left
  · obtain ⟨rfl, e4, hv, hrs3, hps3⟩ := hq; cases hv
  obtain ⟨rfl, e4, hv, hrs3, hps3⟩ := hq
  cases hv
  show WS k 13 [(0, .ref (A 179)), (1, .int (Int32.ofInt x)), (2, .int (Int32.ofInt y))] [.int (Int32.ofInt e4), .ref (A 179)] (Wd A dT s2) 0 0
  refine z_if_eq X (t := 27) rfl rfl hrs3 (fun g5 => ?_) (fun g5 => ?_)
  ·
    refine z_const X rfl (z_goto X (t := 32) rfl rfl (z_const X rfl (zcV_i0 X E 179 (As := [.int (Int32.ofInt 1), .int (Int32.ofInt 1)]) (st := []) rfl rfl rfl rfl (k_bad2 G Is2 (by first | exact Or.inr (by decide) | omega) (by first | exact ⟨by decide, by decide⟩ | omega)) rfl (Nat.le_of_ble_eq_true rfl) (fun s6 e7 Is6 Fs6 hrs6 hps6 => ?_))))
    have Gs6 := fm_tq Fs2 Fs6 rfl rfl
    have b8 := bi_73 Is6
    have aws6_229 : SAM 229 s s6 := sam_ts aws2_229 (sam_fm Fs6 (by decide))
    refine z_if_eq X (t := 41) rfl rfl hrs6 (fun g9 => ?_) (fun g9 => ?_)
    ·
      refine z_aload_n X (x := A 179) rfl (List.Mem.head _) (s_getR X 179 rfl (c518_ok rfl) rfl rfl (z_load_n X (x := x) rfl (List.Mem.tail _ (List.Mem.head _)) (z_ald X 257 rfl (c518_ok rfl) rfl (by first | exact oq_674898f9 g9 hps6 vs2 | omega) (show x < 8 by first | exact oq_46361496 g9 hps6 vs2 | omega) (cbig_ok rfl) ?_)))
      have b10 := bc_229 Is6 (show (x).toNat < 8 by first | exact oq_086235ae g9 hps6 vs2 | omega)
      have ar11 : iC s6 229 (x).toNat = iC s 229 (x).toNat := aws6_229 _
      refine z_store_n X (lv' := [(3, .int (Int32.ofInt (iC s6 229 (x).toNat))), (0, .ref (A 179)), (1, .int (Int32.ofInt x)), (2, .int (Int32.ofInt y))]) rfl (by decide) (fun _ h => h) (z_aload_n X (x := A 179) rfl (List.Mem.tail _ (List.Mem.head _)) (s_getR X 179 rfl (c518_ok rfl) rfl rfl (z_load_n X (x := x) rfl (List.Mem.tail _ (List.Mem.tail _ (List.Mem.head _))) (z_load_n X (x := y) rfl (List.Mem.tail _ (List.Mem.tail _ (List.Mem.tail _ (List.Mem.head _)))) (z_ast X 257 rfl (c518_ok rfl) rfl (by first | exact oq_674898f9 g9 hps6 vs2 | omega) (show x < 8 by first | exact oq_46361496 g9 hps6 vs2 | omega) (cbig_ok rfl) (wd_gen (fun s12 hs12 => ?_)))))))
      have Is12 : Bd s12 := eqB hs12 (bd_C Is6 (show (0 : Int) ≤ y ∧ y ≤ 9999 by first | exact ⟨oq_674898f9 g9 hps6 vs2, oq_e48faaef g9 hps6 vs2⟩ | omega) ⟨by first | exact p1.1 | omega, by first | exact p1.2 | omega⟩)
      have Fs12 := eqF hs12 (fm_C Gs6 (inl_ok (a := 229) rfl))
      have ws12_73 : iI s12 73 = iI s6 73 := eqI hs12 rfl
      have aws12_229 : UPD 229 (x) y s s12 := by rw [hs12]; exact upd_put aws6_229 ⟨by first | exact p1.1 | omega, by first | exact p1.2 | omega⟩
      refine z_load_n X (x := (iC s6 229 (x).toNat)) rfl (List.Mem.head _) ?_
      exact w_iret X.1 q hRt rfl (ax_d X (show cdA 236 56 = some (.ireturn, 1, 0, 0, 0) from rfl)) (Nat.zero_le _) (Nat.zero_le _) ⟨_, rfl, Is12, Fs12, (iC s6 229 (x).toNat), rfl, (rng_to _), Or.inl ⟨by first | exact oq_674898f9 g9 hps6 vs2 | omega, by first | exact oq_7d7a532a g9 hps6 vs2 | omega, by first | exact oq_674898f9 g9 hps6 vs2 | omega, by first | exact oq_e48faaef g9 hps6 vs2 | omega, by first | exact oq_8c407924 ws12_73 g9 b8.1 hps6 vs2 | omega, by first | exact ar11 | omega, aws12_229⟩⟩
    ·
      refine z_const X rfl ?_
      exact w_iret X.1 q hRt rfl (ax_d X (show cdA 236 40 = some (.ireturn, 1, 0, 0, 0) from rfl)) (Nat.zero_le _) (Nat.zero_le _) ⟨_, rfl, Is6, Gs6, 0, rfl, (by decide), Or.inr (⟨by first | exact oq_791d66b1 g5 hps3 | omega, by first | exact oq_faabd673 g9 hps6 vs2 | omega, aws6_229⟩)⟩
  ·
    refine z_load_n X (x := y) rfl (List.Mem.tail _ (List.Mem.tail _ (List.Mem.head _))) (z_const X rfl (z_sipush X rfl (z_callS X (rm := rmN 188) (As := [.int (Int32.ofInt y), .int (Int32.ofInt 0), .int (Int32.ofInt 9999)]) (st := [.ref (A 179)]) rfl rfl (by rw [E.1, E.2.1, E.2.2.1]; exact k_in2 G Is2 (by first | exact ⟨p1.1, p1.2⟩ | omega) (by first | exact ⟨by decide, by decide⟩ | omega) (by first | exact ⟨by decide, by decide⟩ | omega)) ⟨by rw [E.2.2.2]; exact (show (rmN 188).frames + 1 ≤ (rmN 236).frames by decide), by rw [E.2.2.2]; exact (show 8 + (mNL (miB 188) + 11) + (rmN 188).locals ≤ (rmN 236).locals by decide), by rw [E.2.2.2]; exact (show 0 + (rmN 188).cells ≤ (rmN 236).cells by decide), by rw [E.2.2.2]; exact (show 0 + (rmN 188).slots ≤ (rmN 236).slots by decide)⟩ (Nat.le_of_ble_eq_true rfl) (fun vv s13 hq => ?_) (fun ee s13 hq => ?_))))
    rotate_left
    · obtain ⟨rfl, e14, hv, hrs13, hps13⟩ := hq; cases hv
    obtain ⟨rfl, e14, hv, hrs13, hps13⟩ := hq
    cases hv
    show WS k 24 [(0, .ref (A 179)), (1, .int (Int32.ofInt x)), (2, .int (Int32.ofInt y))] [.int (Int32.ofInt e14), .ref (A 179)] (Wd A dT s2) 0 0
    have N15 : ∀ e16 : Int, (((e14 ≠ 0) ∧ e16 = 0) ∨ ((e14 = 0) ∧ e16 = 1)) → WS k 32 [(0, .ref (A 179)), (1, .int (Int32.ofInt x)), (2, .int (Int32.ofInt y))] [.int (Int32.ofInt e16), .ref (A 179)] (Wd A dT s2) 0 0 := by
      intro e16 he16
      have re16 : 0 ≤ e16 ∧ e16 ≤ 1 := by first | (clear he16 hps13 g5 hps3; omega) | (clear hps13 g5 hps3; omega) | omega
      refine z_const X rfl (zcV_i0 X E 179 (As := [.int (Int32.ofInt e16), .int (Int32.ofInt 1)]) (st := []) rfl rfl rfl rfl (k_bad2 G Is2 (by first | exact oq_31e518ae re16.2 re16.1 | omega) (by first | exact ⟨by decide, by decide⟩ | omega)) rfl (Nat.le_of_ble_eq_true rfl) (fun s17 e18 Is17 Fs17 hrs17 hps17 => ?_))
      have Gs17 := fm_tq Fs2 Fs17 rfl rfl
      have b19 := bi_73 Is17
      have aws17_229 : SAM 229 s s17 := sam_ts aws2_229 (sam_fm Fs17 (by decide))
      refine z_if_eq X (t := 41) rfl rfl hrs17 (fun g20 => ?_) (fun g20 => ?_)
      ·
        refine z_aload_n X (x := A 179) rfl (List.Mem.head _) (s_getR X 179 rfl (c518_ok rfl) rfl rfl (z_load_n X (x := x) rfl (List.Mem.tail _ (List.Mem.head _)) (z_ald X 257 rfl (c518_ok rfl) rfl (by first | exact oq_28d92795 g5 hps3 | omega) (show x < 8 by first | exact oq_246a8e49 g5 hps3 | omega) (cbig_ok rfl) ?_)))
        have b21 := bc_229 Is17 (show (x).toNat < 8 by first | exact oq_9a20133a g5 hps3 | omega)
        have ar22 : iC s17 229 (x).toNat = iC s 229 (x).toNat := aws17_229 _
        refine z_store_n X (lv' := [(3, .int (Int32.ofInt (iC s17 229 (x).toNat))), (0, .ref (A 179)), (1, .int (Int32.ofInt x)), (2, .int (Int32.ofInt y))]) rfl (by decide) (fun _ h => h) (z_aload_n X (x := A 179) rfl (List.Mem.tail _ (List.Mem.head _)) (s_getR X 179 rfl (c518_ok rfl) rfl rfl (z_load_n X (x := x) rfl (List.Mem.tail _ (List.Mem.tail _ (List.Mem.head _))) (z_load_n X (x := y) rfl (List.Mem.tail _ (List.Mem.tail _ (List.Mem.tail _ (List.Mem.head _)))) (z_ast X 257 rfl (c518_ok rfl) rfl (by first | exact oq_28d92795 g5 hps3 | omega) (show x < 8 by first | exact oq_246a8e49 g5 hps3 | omega) (cbig_ok rfl) (wd_gen (fun s23 hs23 => ?_)))))))
        have Is23 : Bd s23 := eqB hs23 (bd_C Is17 (show (0 : Int) ≤ y ∧ y ≤ 9999 by first | exact ⟨oq_7f8ce9be g20 hps17 he16 hps13 vs2, oq_7cd554bd g20 hps17 he16 hps13 vs2⟩ | omega) ⟨by first | exact p1.1 | omega, by first | exact p1.2 | omega⟩)
        have Fs23 := eqF hs23 (fm_C Gs17 (inl_ok (a := 229) rfl))
        have ws23_73 : iI s23 73 = iI s17 73 := eqI hs23 rfl
        have aws23_229 : UPD 229 (x) y s s23 := by rw [hs23]; exact upd_put aws17_229 ⟨by first | exact p1.1 | omega, by first | exact p1.2 | omega⟩
        refine z_load_n X (x := (iC s17 229 (x).toNat)) rfl (List.Mem.head _) ?_
        exact w_iret X.1 q hRt rfl (ax_d X (show cdA 236 56 = some (.ireturn, 1, 0, 0, 0) from rfl)) (Nat.zero_le _) (Nat.zero_le _) ⟨_, rfl, Is23, Fs23, (iC s17 229 (x).toNat), rfl, (rng_to _), Or.inl ⟨by first | exact oq_28d92795 g5 hps3 | omega, by first | exact oq_ca823699 g5 hps3 | omega, by first | exact oq_7f8ce9be g20 hps17 he16 hps13 vs2 | omega, by first | exact oq_7cd554bd g20 hps17 he16 hps13 vs2 | omega, by first | exact oq_36baa0f5 ws23_73 g20 b19.1 hps17 vs2 | omega, by first | exact ar22 | omega, aws23_229⟩⟩
      ·
        refine z_const X rfl ?_
        exact w_iret X.1 q hRt rfl (ax_d X (show cdA 236 40 = some (.ireturn, 1, 0, 0, 0) from rfl)) (Nat.zero_le _) (Nat.zero_le _) ⟨_, rfl, Is17, Gs17, 0, rfl, (by decide), Or.inr (⟨by first | exact oq_bc7378e0 g20 hps17 he16 hps13 vs2 | omega, by first | exact oq_58a3c280 g20 hps17 vs2 | omega, aws17_229⟩)⟩
    refine z_if_ne X (t := 31) rfl rfl hrs13 (fun g24 => ?_) (fun g24 => ?_)
    ·
      exact z_const X rfl (N15 _ (Or.inl ⟨g24, rfl⟩))
    ·
      exact z_const X rfl (z_goto X (t := 32) rfl rfl (N15 _ (Or.inr (⟨g24, rfl⟩))))
set_option maxRecDepth 4000 in
theorem cs_limit2 (G : GX l s0 D tys a0 dT) (I : Bd s) {u v : Int} (p0 : rng u) (p1 : rng v) : CT l s0 D A dT 145 (rmN 145) [.ref (A 0), .int (Int32.ofInt u), .int (Int32.ofInt v)] s (fun o t => Bd t ∧ Fm [] [24] s t ∧ ((∃ e, o = .inl (some (.int (Int32.ofInt e))) ∧ rng e ∧ (0 ≤ u ∧ u ≤ 7 ∧ 0 ≤ v ∧ v ≤ 9999 ∧ e = iC s 24 u.toNat ∧ UPD 24 u v s t)) ∨ ∃ x : Nat, o = .inr (exN x) ∧ (x = 0 ∧ (u < 0 ∨ 7 < u ∨ v < 0 ∨ 9999 < v) ∧ SAM 24 s t))) := by
  refine ct_ofX G (by decide) (Nat.le_of_ble_eq_true rfl) (fun k X E ET hRt hXt q => ?_)
  show WS k 0 [(0, .ref (A 0)), (1, .int (Int32.ofInt u)), (2, .int (Int32.ofInt v))] [] _ 0 0
  have F : Fm [] [24] s s := fm_rf _ _ s
  have aw0_24 : SAM 24 s s := sam_rf
  refine z_aload_n X (x := A 0) rfl (List.Mem.head _) (z_load_n X (x := u) rfl (List.Mem.tail _ (List.Mem.head _)) (z_callV X 0 (rm := rmN 182) (As := [.int (Int32.ofInt u)]) (st := []) rfl rfl (by decide) rfl (by rw [E.1, E.2.1, E.2.2.1]; exact cs_needPiece2 G I (by first | exact ⟨p0.1, p0.2⟩ | omega)) ⟨by rw [E.2.2.2]; exact (show (rmN 182).frames + 1 ≤ (rmN 145).frames by decide), by rw [E.2.2.2]; exact (show 8 + (mNL (miB 182) + 11) + (rmN 182).locals ≤ (rmN 145).locals by decide), by rw [E.2.2.2]; exact (show 0 + 1 ≤ 2 by decide), by rw [E.2.2.2]; exact (show 0 + 6 ≤ 12 by decide)⟩ (Nat.le_of_ble_eq_true rfl) (fun vv s1 hq => ?_) (fun ee s1 hq => ?_)))
  rotate_left
  · obtain ⟨Is1, Fs1, (⟨hv, hps1⟩ | ⟨xx, hv, hps1⟩)⟩ := hq
    · cases hv
    · cases hv
      have Gs1 := fm_tq F Fs1 rfl rfl
      have aws1_24 : SAM 24 s s1 := sam_ts aw0_24 (sam_fm Fs1 (by decide))
      exact x_out X.1 q (fun x hx => (hXt x hx).elim) (show 1 ≤ 2 by decide) (show 6 ≤ 12 by decide) ⟨_, rfl, Is1, Gs1, Or.inr ⟨xx, rfl, ⟨by omega, by omega, aws1_24⟩⟩⟩
  obtain ⟨Is1, Fs1, (⟨hv, hps1⟩ | ⟨xx, hv, hps1⟩)⟩ := hq
  rotate_left
  · cases hv
  cases hv
  have Gs1 := fm_tq F Fs1 rfl rfl
  have aws1_24 : SAM 24 s s1 := sam_ts aw0_24 (sam_fm Fs1 (by decide))
  show WS k 5 [(0, .ref (A 0)), (1, .int (Int32.ofInt u)), (2, .int (Int32.ofInt v))] [] (Wd A dT s1) 1 6
  refine z_aload_n X (x := A 0) rfl (List.Mem.head _) (z_load_n X (x := v) rfl (List.Mem.tail _ (List.Mem.tail _ (List.Mem.head _))) (z_const X rfl (z_sipush X rfl (z_callV X 0 (rm := rmN 184) (As := [.int (Int32.ofInt v), .int (Int32.ofInt 0), .int (Int32.ofInt 9999)]) (st := []) rfl rfl (by decide) rfl (by rw [E.1, E.2.1, E.2.2.1]; exact cs_needWithin2 G Is1 (by first | exact ⟨p1.1, p1.2⟩ | omega) (by first | exact ⟨by decide, by decide⟩ | omega) (by first | exact ⟨by decide, by decide⟩ | omega)) ⟨by rw [E.2.2.2]; exact (show (rmN 184).frames + 1 ≤ (rmN 145).frames by decide), by rw [E.2.2.2]; exact (show 8 + (mNL (miB 184) + 11) + (rmN 184).locals ≤ (rmN 145).locals by decide), by rw [E.2.2.2]; exact (show 1 + 1 ≤ 2 by decide), by rw [E.2.2.2]; exact (show 6 + 6 ≤ 12 by decide)⟩ (Nat.le_of_ble_eq_true rfl) (fun vv s3 hq => ?_) (fun ee s3 hq => ?_)))))
  rotate_left
  · obtain ⟨Is3, Fs3, (⟨hv, hps3⟩ | ⟨xx, hv, hps3⟩)⟩ := hq
    · cases hv
    · cases hv
      have Gs3 := fm_tq Gs1 Fs3 rfl rfl
      have aws3_24 : SAM 24 s s3 := sam_ts aws1_24 (sam_fm Fs3 (by decide))
      exact x_out X.1 q (fun x hx => (hXt x hx).elim) (show (1 + 1) ≤ 2 by decide) (show (6 + 6) ≤ 12 by decide) ⟨_, rfl, Is3, Gs3, Or.inr ⟨xx, rfl, ⟨by first | (clear hps1; omega) | omega, by first | (clear hps1; omega) | omega, aws3_24⟩⟩⟩
  obtain ⟨Is3, Fs3, (⟨hv, hps3⟩ | ⟨xx, hv, hps3⟩)⟩ := hq
  rotate_left
  · cases hv
  cases hv
  have Gs3 := fm_tq Gs1 Fs3 rfl rfl
  have aws3_24 : SAM 24 s s3 := sam_ts aws1_24 (sam_fm Fs3 (by decide))
  show WS k 14 [(0, .ref (A 0)), (1, .int (Int32.ofInt u)), (2, .int (Int32.ofInt v))] [] (Wd A dT s3) (1 + 1) (6 + 6)
  refine z_aload_n X (x := A 0) rfl (List.Mem.head _) (s_getR X 0 rfl (c518_ok rfl) rfl rfl (s_getR X 25 rfl (c518_ok rfl) rfl rfl (z_load_n X (x := u) rfl (List.Mem.tail _ (List.Mem.head _)) (z_ald X 29 rfl (c518_ok rfl) rfl (by first | exact hps1.1 | omega) (show u < 8 by first | exact oq_aaea290e hps1.2 | omega) (cbig_ok rfl) ?_))))
  have b5 := bc_24 Is3 (show (u).toNat < 8 by first | exact oq_c19a3aae hps1.2 | omega)
  have ar6 : iC s3 24 (u).toNat = iC s 24 (u).toNat := aws3_24 _
  refine z_store_n X (lv' := [(3, .int (Int32.ofInt (iC s3 24 (u).toNat))), (0, .ref (A 0)), (1, .int (Int32.ofInt u)), (2, .int (Int32.ofInt v))]) rfl (by decide) (fun _ h => h) (z_aload_n X (x := A 0) rfl (List.Mem.tail _ (List.Mem.head _)) (s_getR X 0 rfl (c518_ok rfl) rfl rfl (s_getR X 25 rfl (c518_ok rfl) rfl rfl (z_load_n X (x := u) rfl (List.Mem.tail _ (List.Mem.tail _ (List.Mem.head _))) (z_load_n X (x := v) rfl (List.Mem.tail _ (List.Mem.tail _ (List.Mem.tail _ (List.Mem.head _)))) (z_ast X 29 rfl (c518_ok rfl) rfl (by first | exact hps1.1 | omega) (show u < 8 by first | exact oq_aaea290e hps1.2 | omega) (cbig_ok rfl) (wd_gen (fun s7 hs7 => ?_))))))))
  have Is7 : Bd s7 := eqB hs7 (bd_C Is3 (show (0 : Int) ≤ v ∧ v ≤ 9999 by first | exact ⟨hps3.1, hps3.2⟩ | omega) ⟨by first | exact p1.1 | omega, by first | exact p1.2 | omega⟩)
  have Fs7 := eqF hs7 (fm_C Gs3 (inl_ok (a := 24) rfl))
  have aws7_24 : UPD 24 (u) v s s7 := by rw [hs7]; exact upd_put aws3_24 ⟨by first | exact p1.1 | omega, by first | exact p1.2 | omega⟩
  refine z_load_n X (x := (iC s3 24 (u).toNat)) rfl (List.Mem.head _) ?_
  exact w_iret X.1 q hRt rfl (ax_d X (show cdA 145 35 = some (.ireturn, 1, 0, 0, 0) from rfl)) (show (1 + 1) ≤ 2 by decide) (show (6 + 6) ≤ 12 by decide) ⟨_, rfl, Is7, Fs7, Or.inl ⟨(iC s3 24 (u).toNat), rfl, (rng_to _), ⟨by first | exact hps1.1 | omega, by first | exact hps1.2 | omega, by first | exact hps3.1 | omega, by first | exact hps3.2 | omega, by first | exact ar6 | omega, aws7_24⟩⟩⟩
set_option maxRecDepth 4000 in
theorem lw_limit2 (G : GX l s0 D tys a0 dT) (I : Bd s) {u v : Int} (p0 : rng u) (p1 : rng v) : CTL l s0 D A dT 322 (rmN 322) [.ref (A 0), .int (Int32.ofInt u), .int (Int32.ofInt v), .ref (A 517)] s (fun o t => Bd t ∧ Fm [] [24, 1460] s t ∧ ∃ e, o = .inl (some (.int (Int32.ofInt e))) ∧ rng e ∧ ((e = 0 ∧ 0 ≤ u ∧ u ≤ 7 ∧ 0 ≤ v ∧ v ≤ 9999 ∧ iO t = iC s 24 u.toNat ∧ UPD 24 u v s t) ∨ (e = 1 ∧ (u < 0 ∨ 7 < u ∨ v < 0 ∨ 9999 < v) ∧ SAM 24 s t))) := by
  refine ctL_of G (by decide) (Nat.le_of_ble_eq_true rfl) (by decide) rfl (fun k X E ET hRt hEx q => ?_)
  show WS k 0 [(0, .ref (A 0)), (1, .int (Int32.ofInt u)), (2, .int (Int32.ofInt v)), (3, .ref (A 517))] [] _ 0 0
  have F : Fm [] [24, 1460] s s := fm_rf _ _ s
  have aw0_24 : SAM 24 s s := sam_rf
  have hA := swA_rf A
  refine z_aload_n X (x := A 517) rfl (List.Mem.tail _ (List.Mem.tail _ (List.Mem.tail _ (List.Mem.head _)))) (z_const X rfl (z_aload_n X (x := A 0) rfl (List.Mem.head _) (z_load_n X (x := u) rfl (List.Mem.tail _ (List.Mem.head _)) (z_load_n X (x := v) rfl (List.Mem.tail _ (List.Mem.tail _ (List.Mem.head _))) (z_callV X 0 (rm := rmN 145) (As := [.int (Int32.ofInt u), .int (Int32.ofInt v)]) (st := [.int (Int32.ofInt 0), .ref (A 517)]) rfl rfl (by decide) rfl (by rw [E.1, E.2.1, E.2.2.1]; exact cs_limit2 G I (by omega) (by omega)) ⟨by rw [E.2.2.2]; exact (show (rmN 145).frames + 1 ≤ (rmN 322).frames by decide), by rw [E.2.2.2]; exact (show 8 + (mNL (miB 145) + 11) + (rmN 145).locals ≤ (rmN 322).locals by decide), by rw [E.2.2.2]; exact (show 0 + (rmN 145).cells ≤ (rmN 322).cells by decide), by rw [E.2.2.2]; exact (show 0 + (rmN 145).slots ≤ (rmN 322).slots by decide)⟩ (Nat.le_of_ble_eq_true rfl) (fun vv s1 hq => ?_) (fun ee s1 hq => ?_))))))
  rotate_left
  · obtain ⟨Is1, Fs1, (⟨e2, hv, hrs1, hps1⟩ | ⟨xx, hv, hps1⟩)⟩ := hq
    · cases hv
    · cases hv
      rcases (show xx = 0 by omega) with gx
      ·
        subst gx
        have Gs1 := fm_tq F Fs1 rfl rfl
        refine (hEx 5 0).2 13 rfl _ _ _ _ _ (fun q1 => ?_)
        show WS k 13 [(0, .ref (A 0)), (1, .int (Int32.ofInt u)), (2, .int (Int32.ofInt v)), (3, .ref (A 517))] [.ref q1] (Wd A dT s1) 2 12
        refine z_astore X (lv' := [(4, .ref q1), (0, .ref (A 0)), (1, .int (Int32.ofInt u)), (2, .int (Int32.ofInt v)), (3, .ref (A 517))]) rfl (by decide) (fun _ h => h) (z_const X rfl ?_)
        exact w_iret X.1 q hRt rfl (ax_d X (show cdA 322 16 = some (.ireturn, 1, 0, 0, 0) from rfl)) (show 2 ≤ 2 by decide) (show 12 ≤ 12 by decide) ⟨A, _, hA, rfl, Is1, Gs1, 1, rfl, (by decide), Or.inr (⟨by decide, by omega, hps1.2.2⟩)⟩
  obtain ⟨Is1, Fs1, (⟨e2, hv, hrs1, hps1⟩ | ⟨xx, hv, hps1⟩)⟩ := hq
  rotate_left
  · cases hv
  cases hv
  have Gs1 := fm_tq F Fs1 rfl rfl
  show WS k 8 [(0, .ref (A 0)), (1, .int (Int32.ofInt u)), (2, .int (Int32.ofInt v)), (3, .ref (A 517))] [.int (Int32.ofInt e2), .int (Int32.ofInt 0), .ref (A 517)] (Wd A dT s1) 2 12
  refine w_i2l X.1 (ax_d X (show cdA 322 8 = some (.i2l, 1, 0, 0, 0) from rfl)) (z_last X 517 rfl (c518_ok rfl) rfl (by first | (clear hps1; omega) | omega) (show 0 < 1 by first | (clear hps1; omega) | omega) (cbig_ok rfl) (wd_gen (fun s3 hs3 => ?_)))
  have Is3 : Bd s3 := eqB hs3 (bd_D Is1)
  have Fs3 : Fm [] [24, 1460] s s3 := by rw [hs3]; exact fm_D Gs1 (show 460 + 1000 ∈ _ by decide)
  have aws3_24 : UPD 24 u v s s3 := by rw [hs3]; exact hps1.2.2.2.2.2
  have oos3 : iO s3 = e2 := by rw [hs3]; exact iO_u (by first | (clear hps1; omega) | omega)
  refine z_goto X (t := 17) rfl rfl (z_const X rfl ?_)
  exact w_iret X.1 q hRt rfl (ax_d X (show cdA 322 18 = some (.ireturn, 1, 0, 0, 0) from rfl)) (show 2 ≤ 2 by decide) (show 12 ≤ 12 by decide) ⟨A, _, hA, rfl, Is3, Fs3, 0, rfl, (by decide), Or.inl ⟨by decide, by first | (clear hps1; omega) | omega, by first | (clear hps1; omega) | omega, by first | (clear hps1; omega) | omega, by first | (clear hps1; omega) | omega, by first | (clear hps1; omega) | omega, aws3_24⟩⟩
set_option maxRecDepth 4000 in
theorem k_ill2 (G : GX l s0 D tys a0 dT) (I : Bd s) {x y : Int} (p0 : rng x) (p1 : rng y) : CT l s0 D A dT 274 (rmN 274) [.ref (A 179), .int (Int32.ofInt x), .int (Int32.ofInt y)] s (fun o t => Bd t ∧ Fm [73] [398] s t ∧ ∃ e, o = .inl (some (.int (Int32.ofInt e))) ∧ rng e ∧ ((0 ≤ x ∧ x ≤ 7 ∧ 0 ≤ y ∧ y ≤ 24 ∧ iI t 73 = 0 ∧ e = iC s 398 x.toNat ∧ UPD 398 x y s t) ∨ (((x < 0 ∨ 7 < x) ∧ iI t 73 = 1 ∨ (0 ≤ x ∧ x ≤ 7 ∧ (y < 0 ∨ 24 < y)) ∧ iI t 73 = 2) ∧ SAM 398 s t))) := by
  refine ct_of G (by decide) (Nat.le_of_ble_eq_true rfl) (fun k X E hRt hXt q => ?_)
  show WS k 0 [(0, .ref (A 179)), (1, .int (Int32.ofInt x)), (2, .int (Int32.ofInt y))] [] _ 0 0
  have F : Fm [73] [398] s s := fm_rf _ _ s
  have aw0_398 : SAM 398 s s := sam_rf
  have b1 := bi_73 I
  refine z_aload_n X (x := A 179) rfl (List.Mem.head _) (z_const X rfl (s_putI X 179 rfl (c518_ok rfl) rfl rfl (by decide) rfl rfl rfl (wd_gen (fun s2 hs2 => ?_))))
  have Is2 : Bd s2 := eqB hs2 (bd_I I (show (0 : Int) ≤ 0 ∧ 0 ≤ 3 by first | exact ⟨by decide, by decide⟩ | omega) (by decide))
  have Fs2 := eqF hs2 (fm_I F (inl_ok (a := 73) rfl))
  have vs2 : iI s2 73 = 0 := eqI hs2 (iI_u (by decide))
  have aws2_398 : SAM 398 s s2 := by rw [hs2]; exact aw0_398
  refine z_aload_n X (x := A 179) rfl (List.Mem.head _) (z_load_n X (x := x) rfl (List.Mem.tail _ (List.Mem.head _)) (z_const X rfl (z_bipush X rfl (z_callS X (rm := rmN 188) (As := [.int (Int32.ofInt x), .int (Int32.ofInt 0), .int (Int32.ofInt 7)]) (st := [.ref (A 179)]) rfl rfl (by rw [E.1, E.2.1, E.2.2.1]; exact k_in2 G Is2 (by first | exact ⟨p0.1, p0.2⟩ | omega) (by first | exact ⟨by decide, by decide⟩ | omega) (by first | exact ⟨by decide, by decide⟩ | omega)) ⟨by rw [E.2.2.2]; exact (show (rmN 188).frames + 1 ≤ (rmN 274).frames by decide), by rw [E.2.2.2]; exact (show 8 + (mNL (miB 188) + 11) + (rmN 188).locals ≤ (rmN 274).locals by decide), by rw [E.2.2.2]; exact (show 0 + (rmN 188).cells ≤ (rmN 274).cells by decide), by rw [E.2.2.2]; exact (show 0 + (rmN 188).slots ≤ (rmN 274).slots by decide)⟩ (Nat.le_of_ble_eq_true rfl) (fun vv s3 hq => ?_) (fun ee s3 hq => ?_)))))
  rotate_left
  · obtain ⟨rfl, e4, hv, hrs3, hps3⟩ := hq; cases hv
  obtain ⟨rfl, e4, hv, hrs3, hps3⟩ := hq
  cases hv
  show WS k 13 [(0, .ref (A 179)), (1, .int (Int32.ofInt x)), (2, .int (Int32.ofInt y))] [.int (Int32.ofInt e4), .ref (A 179)] (Wd A dT s2) 0 0
  have N5 : ∀ e6 : Int, (((e4 ≠ 0) ∧ e6 = 0) ∨ ((e4 = 0) ∧ e6 = 1)) → WS k 21 [(0, .ref (A 179)), (1, .int (Int32.ofInt x)), (2, .int (Int32.ofInt y))] [.int (Int32.ofInt e6), .ref (A 179)] (Wd A dT s2) 0 0 := by
    intro e6 he6
    have re6 : 0 ≤ e6 ∧ e6 ≤ 1 := by first | (clear he6 hps3; omega) | (clear hps3; omega) | omega
    refine z_const X rfl (zcV_i0 X E 179 (As := [.int (Int32.ofInt e6), .int (Int32.ofInt 1)]) (st := []) rfl rfl rfl rfl (k_bad2 G Is2 (by first | exact oq_31e518ae re6.2 re6.1 | omega) (by first | exact ⟨by decide, by decide⟩ | omega)) rfl (Nat.le_of_ble_eq_true rfl) (fun s7 e8 Is7 Fs7 hrs7 hps7 => ?_))
    have Gs7 := fm_tq Fs2 Fs7 rfl rfl
    have b9 := bi_73 Is7
    have aws7_398 : SAM 398 s s7 := sam_ts aws2_398 (sam_fm Fs7 (by decide))
    refine z_if_ne X (t := 51) rfl rfl hrs7 (fun g10 => ?_) (fun g10 => ?_)
    ·
      refine z_const X rfl ?_
      exact w_iret X.1 q hRt rfl (ax_d X (show cdA 274 52 = some (.ireturn, 1, 0, 0, 0) from rfl)) (Nat.zero_le _) (Nat.zero_le _) ⟨_, rfl, Is7, Gs7, 0, rfl, (by decide), Or.inr (⟨by first | exact oq_45013339 g10 hps7 he6 hps3 vs2 | omega, aws7_398⟩)⟩
    ·
      refine z_aload_n X (x := A 179) rfl (List.Mem.head _) (z_load_n X (x := y) rfl (List.Mem.tail _ (List.Mem.tail _ (List.Mem.head _))) (z_const X rfl (z_bipush X rfl (z_callS X (rm := rmN 188) (As := [.int (Int32.ofInt y), .int (Int32.ofInt 0), .int (Int32.ofInt 24)]) (st := [.ref (A 179)]) rfl rfl (by rw [E.1, E.2.1, E.2.2.1]; exact k_in2 G Is7 (by first | exact ⟨p1.1, p1.2⟩ | omega) (by first | exact ⟨by decide, by decide⟩ | omega) (by first | exact ⟨by decide, by decide⟩ | omega)) ⟨by rw [E.2.2.2]; exact (show (rmN 188).frames + 1 ≤ (rmN 274).frames by decide), by rw [E.2.2.2]; exact (show 8 + (mNL (miB 188) + 11) + (rmN 188).locals ≤ (rmN 274).locals by decide), by rw [E.2.2.2]; exact (show 0 + (rmN 188).cells ≤ (rmN 274).cells by decide), by rw [E.2.2.2]; exact (show 0 + (rmN 188).slots ≤ (rmN 274).slots by decide)⟩ (Nat.le_of_ble_eq_true rfl) (fun vv s11 hq => ?_) (fun ee s11 hq => ?_)))))
      rotate_left
      · obtain ⟨rfl, e12, hv, hrs11, hps11⟩ := hq; cases hv
      obtain ⟨rfl, e12, hv, hrs11, hps11⟩ := hq
      cases hv
      show WS k 36 [(0, .ref (A 179)), (1, .int (Int32.ofInt x)), (2, .int (Int32.ofInt y))] [.int (Int32.ofInt e12), .ref (A 179)] (Wd A dT s7) 0 0
      have N13 : ∀ e14 : Int, (((e12 ≠ 0) ∧ e14 = 0) ∨ ((e12 = 0) ∧ e14 = 1)) → WS k 44 [(0, .ref (A 179)), (1, .int (Int32.ofInt x)), (2, .int (Int32.ofInt y))] [.int (Int32.ofInt e14), .ref (A 179)] (Wd A dT s7) 0 0 := by
        intro e14 he14
        have re14 : 0 ≤ e14 ∧ e14 ≤ 1 := by first | (clear he14 hps11 hps7 he6 hps3; omega) | (clear hps11 hps7 he6 hps3; omega) | omega
        refine z_const X rfl (zcV_i0 X E 179 (As := [.int (Int32.ofInt e14), .int (Int32.ofInt 2)]) (st := []) rfl rfl rfl rfl (k_bad2 G Is7 (by first | exact oq_31e518ae re14.2 re14.1 | omega) (by first | exact ⟨by decide, by decide⟩ | omega)) rfl (Nat.le_of_ble_eq_true rfl) (fun s15 e16 Is15 Fs15 hrs15 hps15 => ?_))
        have Gs15 := fm_tq Gs7 Fs15 rfl rfl
        have b17 := bi_73 Is15
        have aws15_398 : SAM 398 s s15 := sam_ts aws7_398 (sam_fm Fs15 (by decide))
        refine z_if_eq X (t := 53) rfl rfl hrs15 (fun g18 => ?_) (fun g18 => ?_)
        ·
          refine z_aload_n X (x := A 179) rfl (List.Mem.head _) (s_getR X 179 rfl (c518_ok rfl) rfl rfl (z_load_n X (x := x) rfl (List.Mem.tail _ (List.Mem.head _)) (z_ald X 453 rfl (c518_ok rfl) rfl (by first | exact oq_07b36d6e g10 hps7 he6 hps3 vs2 | omega) (show x < 8 by first | exact oq_ae0abf0b g10 hps7 he6 hps3 vs2 | omega) (cbig_ok rfl) ?_)))
          have b19 := bc_398 Is15 (show (x).toNat < 8 by first | exact oq_cb6943f3 g10 hps7 he6 hps3 vs2 | omega)
          have ar20 : iC s15 398 (x).toNat = iC s 398 (x).toNat := aws15_398 _
          refine z_store_n X (lv' := [(3, .int (Int32.ofInt (iC s15 398 (x).toNat))), (0, .ref (A 179)), (1, .int (Int32.ofInt x)), (2, .int (Int32.ofInt y))]) rfl (by decide) (fun _ h => h) (z_aload_n X (x := A 179) rfl (List.Mem.tail _ (List.Mem.head _)) (s_getR X 179 rfl (c518_ok rfl) rfl rfl (z_load_n X (x := x) rfl (List.Mem.tail _ (List.Mem.tail _ (List.Mem.head _))) (z_load_n X (x := y) rfl (List.Mem.tail _ (List.Mem.tail _ (List.Mem.tail _ (List.Mem.head _)))) (z_ast X 453 rfl (c518_ok rfl) rfl (by first | exact oq_07b36d6e g10 hps7 he6 hps3 vs2 | omega) (show x < 8 by first | exact oq_ae0abf0b g10 hps7 he6 hps3 vs2 | omega) (cbig_ok rfl) (wd_gen (fun s21 hs21 => ?_)))))))
          have Is21 : Bd s21 := eqB hs21 (bd_C Is15 (show (0 : Int) ≤ y ∧ y ≤ 24 by first | exact ⟨oq_6f2c8602 g18 hps15 he14 hps11 g10 b9.1 hps7 vs2, oq_8112572f g18 hps15 he14 hps11 g10 b9.1 hps7 vs2⟩ | omega) ⟨by first | exact p1.1 | omega, by first | exact p1.2 | omega⟩)
          have Fs21 := eqF hs21 (fm_C Gs15 (inl_ok (a := 398) rfl))
          have ws21_73 : iI s21 73 = iI s15 73 := eqI hs21 rfl
          have aws21_398 : UPD 398 (x) y s s21 := by rw [hs21]; exact upd_put aws15_398 ⟨by first | exact p1.1 | omega, by first | exact p1.2 | omega⟩
          refine z_load_n X (x := (iC s15 398 (x).toNat)) rfl (List.Mem.head _) ?_
          exact w_iret X.1 q hRt rfl (ax_d X (show cdA 274 68 = some (.ireturn, 1, 0, 0, 0) from rfl)) (Nat.zero_le _) (Nat.zero_le _) ⟨_, rfl, Is21, Fs21, (iC s15 398 (x).toNat), rfl, (rng_to _), Or.inl ⟨by first | exact oq_07b36d6e g10 hps7 he6 hps3 vs2 | omega, by first | exact oq_63710938 g10 hps7 he6 hps3 vs2 | omega, by first | exact oq_6f2c8602 g18 hps15 he14 hps11 g10 b9.1 hps7 vs2 | omega, by first | exact oq_8112572f g18 hps15 he14 hps11 g10 b9.1 hps7 vs2 | omega, by first | exact oq_24676001 ws21_73 g18 b17.1 hps15 g10 hps7 vs2 | omega, by first | exact ar20 | omega, aws21_398⟩⟩
        ·
          refine z_const X rfl ?_
          exact w_iret X.1 q hRt rfl (ax_d X (show cdA 274 52 = some (.ireturn, 1, 0, 0, 0) from rfl)) (Nat.zero_le _) (Nat.zero_le _) ⟨_, rfl, Is15, Gs15, 0, rfl, (by decide), Or.inr (⟨by first | exact oq_c990f8a1 g18 hps15 he14 hps11 g10 b9.1 hps7 he6 hps3 vs2 | omega, aws15_398⟩)⟩
      refine z_if_ne X (t := 43) rfl rfl hrs11 (fun g22 => ?_) (fun g22 => ?_)
      ·
        exact z_const X rfl (N13 _ (Or.inl ⟨g22, rfl⟩))
      ·
        exact z_const X rfl (z_goto X (t := 44) rfl rfl (N13 _ (Or.inr (⟨g22, rfl⟩))))
  refine z_if_ne X (t := 20) rfl rfl hrs3 (fun g23 => ?_) (fun g23 => ?_)
  ·
    exact z_const X rfl (N5 _ (Or.inl ⟨g23, rfl⟩))
  ·
    exact z_const X rfl (z_goto X (t := 21) rfl rfl (N5 _ (Or.inr (⟨g23, rfl⟩))))
set_option maxRecDepth 4000 in
theorem cs_ill2 (G : GX l s0 D tys a0 dT) (I : Bd s) {u v : Int} (p0 : rng u) (p1 : rng v) : CT l s0 D A dT 165 (rmN 165) [.ref (A 0), .int (Int32.ofInt u), .int (Int32.ofInt v)] s (fun o t => Bd t ∧ Fm [] [52] s t ∧ ((∃ e, o = .inl (some (.int (Int32.ofInt e))) ∧ rng e ∧ (0 ≤ u ∧ u ≤ 7 ∧ 0 ≤ v ∧ v ≤ 24 ∧ e = iC s 52 u.toNat ∧ UPD 52 u v s t)) ∨ ∃ x : Nat, o = .inr (exN x) ∧ ((x = 2 ∧ (u < 0 ∨ 7 < u) ∨ x = 0 ∧ 0 ≤ u ∧ u ≤ 7 ∧ (v < 0 ∨ 24 < v)) ∧ SAM 52 s t))) := by
  refine ct_ofX G (by decide) (Nat.le_of_ble_eq_true rfl) (fun k X E ET hRt hXt q => ?_)
  show WS k 0 [(0, .ref (A 0)), (1, .int (Int32.ofInt u)), (2, .int (Int32.ofInt v))] [] _ 0 0
  have F : Fm [] [52] s s := fm_rf _ _ s
  have aw0_52 : SAM 52 s s := sam_rf
  refine z_load_n X (x := u) rfl (List.Mem.tail _ (List.Mem.head _)) (z_if_lt X (t := 10) rfl rfl ⟨by first | exact p0.1 | omega, by first | exact p0.2 | omega⟩ (fun g1 => ?_) (fun g1 => ?_))
  ·
    exact z_throw G X E ET hXt q (st := []) rfl (by decide) (by decide) (Nat.le_of_ble_eq_true rfl) (show 0 + 1 ≤ 2 by decide) (show 0 + 6 ≤ 12 by decide) (show 0 + 1 ≤ 2 by decide) (show 0 + 6 ≤ 12 by decide) ⟨_, rfl, I, F, Or.inr ⟨2, rfl, ⟨by omega, aw0_52⟩⟩⟩
  ·
    refine z_load_n X (x := u) rfl (List.Mem.tail _ (List.Mem.head _)) (z_bipush X rfl (z_icmp_lt X (t := 21) rfl rfl ⟨by first | exact p0.1 | omega, by first | exact p0.2 | omega⟩ (by decide) (fun g2 => ?_) (fun g2 => ?_)))
    ·
      refine z_aload_n X (x := A 0) rfl (List.Mem.head _) (z_load_n X (x := v) rfl (List.Mem.tail _ (List.Mem.tail _ (List.Mem.head _))) (z_const X rfl (z_bipush X rfl (z_callV X 0 (rm := rmN 184) (As := [.int (Int32.ofInt v), .int (Int32.ofInt 0), .int (Int32.ofInt 24)]) (st := []) rfl rfl (by decide) rfl (by rw [E.1, E.2.1, E.2.2.1]; exact cs_needWithin2 G I (by first | exact ⟨p1.1, p1.2⟩ | omega) (by first | exact ⟨by decide, by decide⟩ | omega) (by first | exact ⟨by decide, by decide⟩ | omega)) ⟨by rw [E.2.2.2]; exact (show (rmN 184).frames + 1 ≤ (rmN 165).frames by decide), by rw [E.2.2.2]; exact (show 8 + (mNL (miB 184) + 11) + (rmN 184).locals ≤ (rmN 165).locals by decide), by rw [E.2.2.2]; exact (show 0 + 1 ≤ 2 by decide), by rw [E.2.2.2]; exact (show 0 + 6 ≤ 12 by decide)⟩ (Nat.le_of_ble_eq_true rfl) (fun vv s3 hq => ?_) (fun ee s3 hq => ?_)))))
      rotate_left
      · obtain ⟨Is3, Fs3, (⟨hv, hps3⟩ | ⟨xx, hv, hps3⟩)⟩ := hq
        · cases hv
        · cases hv
          have Gs3 := fm_tq F Fs3 rfl rfl
          have aws3_52 : SAM 52 s s3 := sam_ts aw0_52 (sam_fm Fs3 (by decide))
          exact x_out X.1 q (fun x hx => (hXt x hx).elim) (show 1 ≤ 2 by decide) (show 6 ≤ 12 by decide) ⟨_, rfl, Is3, Gs3, Or.inr ⟨xx, rfl, ⟨by omega, aws3_52⟩⟩⟩
      obtain ⟨Is3, Fs3, (⟨hv, hps3⟩ | ⟨xx, hv, hps3⟩)⟩ := hq
      rotate_left
      · cases hv
      cases hv
      have Gs3 := fm_tq F Fs3 rfl rfl
      have aws3_52 : SAM 52 s s3 := sam_ts aw0_52 (sam_fm Fs3 (by decide))
      show WS k 29 [(0, .ref (A 0)), (1, .int (Int32.ofInt u)), (2, .int (Int32.ofInt v))] [] (Wd A dT s3) 1 6
      refine z_aload_n X (x := A 0) rfl (List.Mem.head _) (s_getR X 0 rfl (c518_ok rfl) rfl rfl (s_getR X 61 rfl (c518_ok rfl) rfl rfl (z_load_n X (x := u) rfl (List.Mem.tail _ (List.Mem.head _)) (z_ald X 62 rfl (c518_ok rfl) rfl (by first | exact g1 | omega) (show u < 8 by first | exact g2 | omega) (cbig_ok rfl) ?_))))
      have b5 := bc_52 Is3 (show (u).toNat < 8 by first | exact oq_db4b3b8b g2 | omega)
      have ar6 : iC s3 52 (u).toNat = iC s 52 (u).toNat := aws3_52 _
      refine z_store_n X (lv' := [(3, .int (Int32.ofInt (iC s3 52 (u).toNat))), (0, .ref (A 0)), (1, .int (Int32.ofInt u)), (2, .int (Int32.ofInt v))]) rfl (by decide) (fun _ h => h) (z_aload_n X (x := A 0) rfl (List.Mem.tail _ (List.Mem.head _)) (s_getR X 0 rfl (c518_ok rfl) rfl rfl (s_getR X 61 rfl (c518_ok rfl) rfl rfl (z_load_n X (x := u) rfl (List.Mem.tail _ (List.Mem.tail _ (List.Mem.head _))) (z_load_n X (x := v) rfl (List.Mem.tail _ (List.Mem.tail _ (List.Mem.tail _ (List.Mem.head _)))) (z_ast X 62 rfl (c518_ok rfl) rfl (by first | exact g1 | omega) (show u < 8 by first | exact g2 | omega) (cbig_ok rfl) (wd_gen (fun s7 hs7 => ?_))))))))
      have Is7 : Bd s7 := eqB hs7 (bd_C Is3 (show (0 : Int) ≤ v ∧ v ≤ 24 by first | exact ⟨hps3.1, hps3.2⟩ | omega) ⟨by first | exact p1.1 | omega, by first | exact p1.2 | omega⟩)
      have Fs7 := eqF hs7 (fm_C Gs3 (inl_ok (a := 52) rfl))
      have aws7_52 : UPD 52 (u) v s s7 := by rw [hs7]; exact upd_put aws3_52 ⟨by first | exact p1.1 | omega, by first | exact p1.2 | omega⟩
      refine z_load_n X (x := (iC s3 52 (u).toNat)) rfl (List.Mem.head _) ?_
      exact w_iret X.1 q hRt rfl (ax_d X (show cdA 165 50 = some (.ireturn, 1, 0, 0, 0) from rfl)) (show 1 ≤ 2 by decide) (show 6 ≤ 12 by decide) ⟨_, rfl, Is7, Fs7, Or.inl ⟨(iC s3 52 (u).toNat), rfl, (rng_to _), ⟨by first | exact g1 | omega, by first | exact oq_78c639ed g2 | omega, by first | exact hps3.1 | omega, by first | exact hps3.2 | omega, by first | exact ar6 | omega, aws7_52⟩⟩⟩
    ·
      exact z_throw G X E ET hXt q (st := []) rfl (by decide) (by decide) (Nat.le_of_ble_eq_true rfl) (show 0 + 1 ≤ 2 by decide) (show 0 + 6 ≤ 12 by decide) (show 0 + 1 ≤ 2 by decide) (show 0 + 6 ≤ 12 by decide) ⟨_, rfl, I, F, Or.inr ⟨2, rfl, ⟨by omega, aw0_52⟩⟩⟩
set_option maxRecDepth 4000 in
theorem lw_ill2 (G : GX l s0 D tys a0 dT) (I : Bd s) {u v : Int} (p0 : rng u) (p1 : rng v) : CTL l s0 D A dT 339 (rmN 339) [.ref (A 0), .int (Int32.ofInt u), .int (Int32.ofInt v), .ref (A 517)] s (fun o t => Bd t ∧ Fm [] [52, 1460] s t ∧ ∃ e, o = .inl (some (.int (Int32.ofInt e))) ∧ rng e ∧ ((e = 0 ∧ 0 ≤ u ∧ u ≤ 7 ∧ 0 ≤ v ∧ v ≤ 24 ∧ iO t = iC s 52 u.toNat ∧ UPD 52 u v s t) ∨ ((e = 1 ∧ (u < 0 ∨ 7 < u) ∨ e = 2 ∧ 0 ≤ u ∧ u ≤ 7 ∧ (v < 0 ∨ 24 < v)) ∧ SAM 52 s t))) := by
  refine ctL_of G (by decide) (Nat.le_of_ble_eq_true rfl) (by decide) rfl (fun k X E ET hRt hEx q => ?_)
  show WS k 0 [(0, .ref (A 0)), (1, .int (Int32.ofInt u)), (2, .int (Int32.ofInt v)), (3, .ref (A 517))] [] _ 0 0
  have F : Fm [] [52, 1460] s s := fm_rf _ _ s
  have aw0_52 : SAM 52 s s := sam_rf
  have hA := swA_rf A
  refine z_aload_n X (x := A 517) rfl (List.Mem.tail _ (List.Mem.tail _ (List.Mem.tail _ (List.Mem.head _)))) (z_const X rfl (z_aload_n X (x := A 0) rfl (List.Mem.head _) (z_load_n X (x := u) rfl (List.Mem.tail _ (List.Mem.head _)) (z_load_n X (x := v) rfl (List.Mem.tail _ (List.Mem.tail _ (List.Mem.head _))) (z_callV X 0 (rm := rmN 165) (As := [.int (Int32.ofInt u), .int (Int32.ofInt v)]) (st := [.int (Int32.ofInt 0), .ref (A 517)]) rfl rfl (by decide) rfl (by rw [E.1, E.2.1, E.2.2.1]; exact cs_ill2 G I (by omega) (by omega)) ⟨by rw [E.2.2.2]; exact (show (rmN 165).frames + 1 ≤ (rmN 339).frames by decide), by rw [E.2.2.2]; exact (show 8 + (mNL (miB 165) + 11) + (rmN 165).locals ≤ (rmN 339).locals by decide), by rw [E.2.2.2]; exact (show 0 + (rmN 165).cells ≤ (rmN 339).cells by decide), by rw [E.2.2.2]; exact (show 0 + (rmN 165).slots ≤ (rmN 339).slots by decide)⟩ (Nat.le_of_ble_eq_true rfl) (fun vv s1 hq => ?_) (fun ee s1 hq => ?_))))))
  rotate_left
  · obtain ⟨Is1, Fs1, (⟨e2, hv, hrs1, hps1⟩ | ⟨xx, hv, hps1⟩)⟩ := hq
    · cases hv
    · cases hv
      rcases (show xx = 0 ∨ xx = 2 by omega) with gx | gx
      ·
        subst gx
        have Gs1 := fm_tq F Fs1 rfl rfl
        refine (hEx 5 0).2 17 rfl _ _ _ _ _ (fun q1 => ?_)
        show WS k 17 [(0, .ref (A 0)), (1, .int (Int32.ofInt u)), (2, .int (Int32.ofInt v)), (3, .ref (A 517))] [.ref q1] (Wd A dT s1) 2 12
        refine z_astore X (lv' := [(4, .ref q1), (0, .ref (A 0)), (1, .int (Int32.ofInt u)), (2, .int (Int32.ofInt v)), (3, .ref (A 517))]) rfl (by decide) (fun _ h => h) (z_const X rfl ?_)
        exact w_iret X.1 q hRt rfl (ax_d X (show cdA 339 20 = some (.ireturn, 1, 0, 0, 0) from rfl)) (show 2 ≤ 2 by decide) (show 12 ≤ 12 by decide) ⟨A, _, hA, rfl, Is1, Gs1, 2, rfl, (by decide), Or.inr (⟨by omega, hps1.2⟩)⟩
      ·
        subst gx
        have Gs1 := fm_tq F Fs1 rfl rfl
        refine (hEx 5 2).2 13 rfl _ _ _ _ _ (fun q1 => ?_)
        show WS k 13 [(0, .ref (A 0)), (1, .int (Int32.ofInt u)), (2, .int (Int32.ofInt v)), (3, .ref (A 517))] [.ref q1] (Wd A dT s1) 2 12
        refine z_astore X (lv' := [(4, .ref q1), (0, .ref (A 0)), (1, .int (Int32.ofInt u)), (2, .int (Int32.ofInt v)), (3, .ref (A 517))]) rfl (by decide) (fun _ h => h) (z_const X rfl ?_)
        exact w_iret X.1 q hRt rfl (ax_d X (show cdA 339 16 = some (.ireturn, 1, 0, 0, 0) from rfl)) (show 2 ≤ 2 by decide) (show 12 ≤ 12 by decide) ⟨A, _, hA, rfl, Is1, Gs1, 1, rfl, (by decide), Or.inr (⟨by omega, hps1.2⟩)⟩
  obtain ⟨Is1, Fs1, (⟨e2, hv, hrs1, hps1⟩ | ⟨xx, hv, hps1⟩)⟩ := hq
  rotate_left
  · cases hv
  cases hv
  have Gs1 := fm_tq F Fs1 rfl rfl
  show WS k 8 [(0, .ref (A 0)), (1, .int (Int32.ofInt u)), (2, .int (Int32.ofInt v)), (3, .ref (A 517))] [.int (Int32.ofInt e2), .int (Int32.ofInt 0), .ref (A 517)] (Wd A dT s1) 2 12
  refine w_i2l X.1 (ax_d X (show cdA 339 8 = some (.i2l, 1, 0, 0, 0) from rfl)) (z_last X 517 rfl (c518_ok rfl) rfl (by first | (clear hps1; omega) | omega) (show 0 < 1 by first | (clear hps1; omega) | omega) (cbig_ok rfl) (wd_gen (fun s3 hs3 => ?_)))
  have Is3 : Bd s3 := eqB hs3 (bd_D Is1)
  have Fs3 : Fm [] [52, 1460] s s3 := by rw [hs3]; exact fm_D Gs1 (show 460 + 1000 ∈ _ by decide)
  have aws3_52 : UPD 52 u v s s3 := by rw [hs3]; exact hps1.2.2.2.2.2
  have oos3 : iO s3 = e2 := by rw [hs3]; exact iO_u (by first | (clear hps1; omega) | omega)
  refine z_goto X (t := 21) rfl rfl (z_const X rfl ?_)
  exact w_iret X.1 q hRt rfl (ax_d X (show cdA 339 22 = some (.ireturn, 1, 0, 0, 0) from rfl)) (show 2 ≤ 2 by decide) (show 12 ≤ 12 by decide) ⟨A, _, hA, rfl, Is3, Fs3, 0, rfl, (by decide), Or.inl ⟨by decide, by first | (clear hps1; omega) | omega, by first | (clear hps1; omega) | omega, by first | (clear hps1; omega) | omega, by first | (clear hps1; omega) | omega, by first | (clear hps1; omega) | omega, aws3_52⟩⟩
set_option maxRecDepth 4000 in
theorem k_thrown2 (G : GX l s0 D tys a0 dT) (I : Bd s)  : CT l s0 D A dT 186 (rmN 186) [.ref (A 179)] s (fun o t => s = t ∧ ∃ e, o = .inl (some (.int (Int32.ofInt e))) ∧ rng e ∧ (e = iI s 73)) := by
  refine ct_of G (by decide) (Nat.le_of_ble_eq_true rfl) (fun k X E hRt hXt q => ?_)
  show WS k 0 [(0, .ref (A 179))] [] _ 0 0
  have F : Fm [] [] s s := fm_rf _ _ s
  refine z_aload_n X (x := A 179) rfl (List.Mem.head _) (z_getI X 179 rfl (c518_ok rfl) rfl rfl ?_)
  have b1 := bi_73 I
  exact w_iret X.1 q hRt rfl (ax_d X (show cdA 186 4 = some (.ireturn, 1, 0, 0, 0) from rfl)) (Nat.zero_le _) (Nat.zero_le _) ⟨_, rfl, rfl, (iI s 73), rfl, (rng_to _), by omega⟩
end M87b
