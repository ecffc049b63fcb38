section
theorem oq_38882d54 {a0 a1 : Int} (h0 : a0 ≠ 0) (h1 : ((a0 = 1 ∧ 0 ≤ a1) ∨ (a0 = 0 ∧ a1 = (-1)))) : 0 ≤ a1 := by omega
theorem oq_2853b011 {a0 : Int} (h0 : a0 ≠ 1) (h1 : a0 ≠ 0) (h2 : a0 ≤ 2) (h3 : 0 ≤ a0) : a0 = 2 := by omega
theorem oq_6622183c {a0 a1 : Int} (h0 : a0 = 0) (h1 : (-1) ≤ a1) (h2 : ((a0 = 1 ∧ 0 ≤ a1) ∨ (a0 = 0 ∧ a1 = (-1)))) : a1 = (-1) := by omega
theorem oq_c21d6763 {a0 a1 a2 a3 : Int} (h0 : a0 = a1) (h1 : 0 ≤ a1) (h2 : (((0 : Int) = 1 ∧ (a2 = 0 ∧ (a1 = 1 ∧ a3 = 1))) ∨ (((0 : Int) = 0 ∨ a2 ≠ 0) ∧ (a1 = a2 ∧ ((a3 = 0 ∧ a2 = 0) ∨ (a3 = 1 ∧ a2 ≠ 0)))))) (h3 : a2 = 0) : a0 = 0 := by omega
theorem oq_314d77f3 {a0 a1 : Int} (h0 : a0 ≠ 1) (h1 : a0 ≠ 0) (h2 : a1 ≠ 0) (h3 : ((a1 = 1 ∧ (0 ≤ a0 ∧ a0 ≤ 2)) ∨ (a1 = 0 ∧ (a0 < 0 ∨ 2 < a0)))) : a0 = 2 := by omega
theorem oq_5a78dcd3 {a0 a1 a2 a3 : Int} (h0 : a0 = 0) (h1 : (((1 : Int) = 1 ∧ (a1 = 0 ∧ (a2 = 1 ∧ a0 = 1))) ∨ (((1 : Int) = 0 ∨ a1 ≠ 0) ∧ (a2 = a1 ∧ ((a0 = 0 ∧ a1 = 0) ∨ (a0 = 1 ∧ a1 ≠ 0)))))) (h2 : a1 = 0) : a3 ≤ 2 := by omega
theorem oq_23219400 {a0 a1 a2 a3 : Int} (h0 : a0 = 0) (h1 : (((1 : Int) = 1 ∧ (a1 = 0 ∧ (a2 = 1 ∧ a0 = 1))) ∨ (((1 : Int) = 0 ∨ a1 ≠ 0) ∧ (a2 = a1 ∧ ((a0 = 0 ∧ a1 = 0) ∨ (a0 = 1 ∧ a1 ≠ 0)))))) (h2 : a1 = 0) : a3 = (-1) := by omega
theorem oq_865542fe {a0 a1 a2 : Int} (h0 : a0 = 1) (h1 : a1 = 0) (h2 : ((a1 = 1 ∧ (0 ≤ a0 ∧ a0 ≤ 2)) ∨ (a1 = 0 ∧ (a0 < 0 ∨ 2 < a0)))) : a2 = (-1) := by omega
theorem oq_155c6819 {a0 a1 a2 : Int} (h0 : a0 = 0) (h1 : a1 = 0) (h2 : ((a1 = 1 ∧ (0 ≤ a0 ∧ a0 ≤ 2)) ∨ (a1 = 0 ∧ (a0 < 0 ∨ 2 < a0)))) : a2 = (-1) := by omega
theorem oq_7032dcce {a0 a1 : Int} (h0 : (a0 < 0 ∨ 7 < a0)) : (a0 < 0 ∨ (7 < a0 ∨ (a1 = (-1) ∨ a1 = a0))) := by omega
theorem oq_f984046d {a1 a2 a3 : Int} {n0 : Nat} (h0 : ((n0 = 2 ∧ (a1 < 0 ∨ 127 < a1)) ∨ (n0 = 0 ∧ (0 ≤ a1 ∧ (a1 ≤ 127 ∧ (a2 < 0 ∨ (7 < a2 ∨ (a3 = (-1) ∨ a3 = a2)))))))) : (n0 = 0 ∨ n0 = 2) := by omega
theorem oq_b1f01e6c {a0 a1 a2 : Int} (h0 : (((0 : Int) = 2 ∧ (a0 < 0 ∨ 127 < a0)) ∨ ((0 : Int) = 0 ∧ (0 ≤ a0 ∧ (a0 ≤ 127 ∧ (a1 < 0 ∨ (7 < a1 ∨ (a2 = (-1) ∨ a2 = a1)))))))) : 0 ≤ a0 := by omega
theorem oq_2b91e4e3 {a0 a1 a2 : Int} (h0 : (((0 : Int) = 2 ∧ (a0 < 0 ∨ 127 < a0)) ∨ ((0 : Int) = 0 ∧ (0 ≤ a0 ∧ (a0 ≤ 127 ∧ (a1 < 0 ∨ (7 < a1 ∨ (a2 = (-1) ∨ a2 = a1)))))))) : a0 ≤ 127 := by omega
theorem oq_91e007eb {a0 a1 a2 : Int} (h0 : (((0 : Int) = 2 ∧ (a0 < 0 ∨ 127 < a0)) ∨ ((0 : Int) = 0 ∧ (0 ≤ a0 ∧ (a0 ≤ 127 ∧ (a1 < 0 ∨ (7 < a1 ∨ (a2 = (-1) ∨ a2 = a1)))))))) : (a1 < 0 ∨ (7 < a1 ∨ (a2 = (-1) ∨ a2 = a1))) := by omega
theorem oq_dae17163 {a0 a1 a2 : Int} (h0 : (((2 : Int) = 2 ∧ (a0 < 0 ∨ 127 < a0)) ∨ ((2 : Int) = 0 ∧ (0 ≤ a0 ∧ (a0 ≤ 127 ∧ (a1 < 0 ∨ (7 < a1 ∨ (a2 = (-1) ∨ a2 = a1)))))))) : (a0 < 0 ∨ 127 < a0) := by omega
theorem oq_3d57b7ce {a0 a1 a2 a3 a4 a5 : Int} (h0 : a0 = 0) (h1 : (((1 : Int) = 1 ∧ (a1 = 0 ∧ (a2 = 2 ∧ a0 = 1))) ∨ (((1 : Int) = 0 ∨ a1 ≠ 0) ∧ (a2 = a1 ∧ ((a0 = 0 ∧ a1 = 0) ∨ (a0 = 1 ∧ a1 ≠ 0)))))) (h2 : 0 ≤ a1) (h3 : (((0 : Int) = 1 ∧ (a3 = 0 ∧ (a1 = 1 ∧ a4 = 1))) ∨ (((0 : Int) = 0 ∨ a3 ≠ 0) ∧ (a1 = a3 ∧ ((a4 = 0 ∧ a3 = 0) ∨ (a4 = 1 ∧ a3 ≠ 0)))))) (h4 : a3 = 0) : 0 ≤ a5 := by omega
theorem oq_f85f9e2e {a0 a1 a2 a3 a4 a5 : Int} (h0 : a0 = 0) (h1 : (((1 : Int) = 1 ∧ (a1 = 0 ∧ (a2 = 2 ∧ a0 = 1))) ∨ (((1 : Int) = 0 ∨ a1 ≠ 0) ∧ (a2 = a1 ∧ ((a0 = 0 ∧ a1 = 0) ∨ (a0 = 1 ∧ a1 ≠ 0)))))) (h2 : 0 ≤ a1) (h3 : (((0 : Int) = 1 ∧ (a3 = 0 ∧ (a1 = 1 ∧ a4 = 1))) ∨ (((0 : Int) = 0 ∨ a3 ≠ 0) ∧ (a1 = a3 ∧ ((a4 = 0 ∧ a3 = 0) ∨ (a4 = 1 ∧ a3 ≠ 0)))))) (h4 : a3 = 0) : a5 ≠ (-1) := by omega
theorem oq_d31e05ce {a0 a1 a2 a3 a4 a5 a6 : Int} (h0 : a0 = 0) (h1 : (((1 : Int) = 1 ∧ (a1 = 0 ∧ (a2 = 2 ∧ a0 = 1))) ∨ (((1 : Int) = 0 ∨ a1 ≠ 0) ∧ (a2 = a1 ∧ ((a0 = 0 ∧ a1 = 0) ∨ (a0 = 1 ∧ a1 ≠ 0)))))) (h2 : 0 ≤ a1) (h3 : (((0 : Int) = 1 ∧ (a3 = 0 ∧ (a1 = 1 ∧ a4 = 1))) ∨ (((0 : Int) = 0 ∨ a3 ≠ 0) ∧ (a1 = a3 ∧ ((a4 = 0 ∧ a3 = 0) ∨ (a4 = 1 ∧ a3 ≠ 0)))))) (h4 : a3 = 0) : a5 ≠ a6 := by omega
theorem oq_06a361ab {a0 a1 a2 a3 a4 a5 a6 : Int} (h0 : a0 = a1) (h1 : a1 = a2) (h2 : a2 = a3) (h3 : a3 = a4) (h4 : a5 = 0) (h5 : 0 ≤ a4) (h6 : (((1 : Int) = 1 ∧ (a6 = 0 ∧ (a4 = 2 ∧ a5 = 1))) ∨ (((1 : Int) = 0 ∨ a6 ≠ 0) ∧ (a4 = a6 ∧ ((a5 = 0 ∧ a6 = 0) ∨ (a5 = 1 ∧ a6 ≠ 0)))))) : a0 = 0 := by omega
theorem oq_ac2ee271 {a0 a1 a2 : Int} (h0 : a0 = 0) (h1 : ((a0 = 1 ∧ (0 ≤ a1 ∧ a1 ≤ 7)) ∨ (a0 = 0 ∧ (a1 < 0 ∨ 7 < a1)))) : (a1 < 0 ∨ (7 < a1 ∨ (a2 = (-1) ∨ a2 = a1))) := by omega
theorem oq_152bfaa6 {a0 a1 : Int} (h0 : a0 = (-1)) (h1 : a0 = a1) : a1 = (-1) := by omega
theorem oq_400ee510 {a0 a1 a2 a3 a4 a5 a6 : Int} (h0 : a0 = a1) (h1 : a1 = a2) (h2 : a2 = a3) (h3 : a3 = a4) (h4 : a5 = 0) (h5 : 0 ≤ a4) (h6 : (((0 : Int) = 1 ∧ (a6 = 0 ∧ (a4 = 2 ∧ a5 = 1))) ∨ (((0 : Int) = 0 ∨ a6 ≠ 0) ∧ (a4 = a6 ∧ ((a5 = 0 ∧ a6 = 0) ∨ (a5 = 1 ∧ a6 ≠ 0)))))) : a0 = 0 := by omega
theorem oq_a6a02588 {a0 a1 a2 a3 a4 a5 : Int} (h0 : a0 = 0) (h1 : (((1 : Int) = 1 ∧ (a1 = 0 ∧ (a2 = 2 ∧ a0 = 1))) ∨ (((1 : Int) = 0 ∨ a1 ≠ 0) ∧ (a2 = a1 ∧ ((a0 = 0 ∧ a1 = 0) ∨ (a0 = 1 ∧ a1 ≠ 0)))))) (h2 : a3 = 0) (h3 : 0 ≤ a1) (h4 : (((1 : Int) = 1 ∧ (a4 = 0 ∧ (a1 = 1 ∧ a3 = 1))) ∨ (((1 : Int) = 0 ∨ a4 ≠ 0) ∧ (a1 = a4 ∧ ((a3 = 0 ∧ a4 = 0) ∨ (a3 = 1 ∧ a4 ≠ 0)))))) (h5 : a4 = 0) : a5 ≠ (-1) := by omega
theorem oq_9aab2f6c {a0 a1 a2 a3 a4 a5 a6 : Int} (h0 : a0 = 0) (h1 : (((1 : Int) = 1 ∧ (a1 = 0 ∧ (a2 = 2 ∧ a0 = 1))) ∨ (((1 : Int) = 0 ∨ a1 ≠ 0) ∧ (a2 = a1 ∧ ((a0 = 0 ∧ a1 = 0) ∨ (a0 = 1 ∧ a1 ≠ 0)))))) (h2 : a3 = 0) (h3 : 0 ≤ a1) (h4 : (((1 : Int) = 1 ∧ (a4 = 0 ∧ (a1 = 1 ∧ a3 = 1))) ∨ (((1 : Int) = 0 ∨ a4 ≠ 0) ∧ (a1 = a4 ∧ ((a3 = 0 ∧ a4 = 0) ∨ (a3 = 1 ∧ a4 ≠ 0)))))) (h5 : a4 = 0) : a5 ≠ a6 := by omega

theorem oq_48a52f1b {a0 a1 a2 a3 : Int} (h0 : a0 = a1) (h1 : 0 ≤ a1) (h2 : ((0 = 1 ∧ (a2 = 0 ∧ (a1 = 1 ∧ a3 = 1))) ∨ ((0 = 0 ∨ a2 ≠ 0) ∧ (a1 = a2 ∧ ((a3 = 0 ∧ a2 = 0) ∨ (a3 = 1 ∧ a2 ≠ 0)))))) (h3 : a2 = 0) : a0 = 0 := by omega
theorem oq_68c43520 {a0 : Int} (h0 : a0 = 1) : a0 ≤ 2 := by omega
theorem oq_ccd7c97a {a0 : Int} (h0 : a0 = 0) : a0 ≤ 2 := by omega
theorem oq_d2bc077d {a0 a1 a2 a3 : Int} (h0 : a0 ≠ 0) (h1 : ((0 = 1 ∧ (a1 = 0 ∧ (a2 = 1 ∧ a0 = 1))) ∨ ((0 = 0 ∨ a1 ≠ 0) ∧ (a2 = a1 ∧ ((a0 = 0 ∧ a1 = 0) ∨ (a0 = 1 ∧ a1 ≠ 0)))))) (h2 : a1 = 0) : (a3 < 0 ∨ 2 < a3) := by omega
theorem oq_e1c32280 {a0 a1 a2 a3 : Int} (h0 : a0 = 0) (h1 : ((1 = 1 ∧ (a1 = 0 ∧ (a2 = 1 ∧ a0 = 1))) ∨ ((1 = 0 ∨ a1 ≠ 0) ∧ (a2 = a1 ∧ ((a0 = 0 ∧ a1 = 0) ∨ (a0 = 1 ∧ a1 ≠ 0)))))) (h2 : a1 = 0) : a3 ≤ 2 := by omega
theorem oq_8925036c {a0 a1 : Int} (h0 : a0 = 0) (h1 : ((a0 = 1 ∧ (0 ≤ a1 ∧ a1 ≤ 2)) ∨ (a0 = 0 ∧ (a1 < 0 ∨ 2 < a1)))) : (a1 < 0 ∨ 2 < a1) := by omega
theorem oq_fe1bb175 {a0 a1 : Int} (h0 : a0 ≠ (-1)) (h1 : a1 = a0) (h2 : (-1) ≤ a0) : a1 ≠ (-1) := by omega
theorem oq_bd8ffc1e {a0 a1 a2 : Int} (h0 : a0 ≠ a1) (h1 : a2 = a0) : a2 ≠ a1 := by omega
theorem oq_288d4371 {a0 a1 a2 a3 a4 a5 : Int} (h0 : a0 ≠ 0) (h1 : ((0 = 1 ∧ (a1 = 0 ∧ (a2 = 1 ∧ a0 = 1))) ∨ ((0 = 0 ∨ a1 ≠ 0) ∧ (a2 = a1 ∧ ((a0 = 0 ∧ a1 = 0) ∨ (a0 = 1 ∧ a1 ≠ 0)))))) (h2 : a1 = 0) : (((a3 < 0 ∨ 127 < a3) ∧ a2 = 1) ∨ ((0 ≤ a3 ∧ (a3 ≤ 127 ∧ (a4 < 0 ∨ (7 < a4 ∨ (a5 = (-1) ∨ a5 = a4))))) ∧ a2 = 2)) := by omega
theorem oq_9e1cecb0 {a0 a1 a2 a3 a4 a5 : Int} (h0 : a0 = 0) (h1 : ((1 = 1 ∧ (a1 = 0 ∧ (a2 = 2 ∧ a0 = 1))) ∨ ((1 = 0 ∨ a1 ≠ 0) ∧ (a2 = a1 ∧ ((a0 = 0 ∧ a1 = 0) ∨ (a0 = 1 ∧ a1 ≠ 0)))))) (h2 : 0 ≤ a1) (h3 : ((0 = 1 ∧ (a3 = 0 ∧ (a1 = 1 ∧ a4 = 1))) ∨ ((0 = 0 ∨ a3 ≠ 0) ∧ (a1 = a3 ∧ ((a4 = 0 ∧ a3 = 0) ∨ (a4 = 1 ∧ a3 ≠ 0)))))) (h4 : a3 = 0) : 0 ≤ a5 := by omega
theorem oq_4b8a99bd {a0 a1 a2 a3 a4 a5 : Int} (h0 : a0 = 0) (h1 : ((1 = 1 ∧ (a1 = 0 ∧ (a2 = 2 ∧ a0 = 1))) ∨ ((1 = 0 ∨ a1 ≠ 0) ∧ (a2 = a1 ∧ ((a0 = 0 ∧ a1 = 0) ∨ (a0 = 1 ∧ a1 ≠ 0)))))) (h2 : 0 ≤ a1) (h3 : ((0 = 1 ∧ (a3 = 0 ∧ (a1 = 1 ∧ a4 = 1))) ∨ ((0 = 0 ∨ a3 ≠ 0) ∧ (a1 = a3 ∧ ((a4 = 0 ∧ a3 = 0) ∨ (a4 = 1 ∧ a3 ≠ 0)))))) (h4 : a3 = 0) : a5 ≠ (-1) := by omega
theorem oq_44d170e0 {a0 a1 a2 a3 a4 a5 a6 : Int} (h0 : a0 = 0) (h1 : ((1 = 1 ∧ (a1 = 0 ∧ (a2 = 2 ∧ a0 = 1))) ∨ ((1 = 0 ∨ a1 ≠ 0) ∧ (a2 = a1 ∧ ((a0 = 0 ∧ a1 = 0) ∨ (a0 = 1 ∧ a1 ≠ 0)))))) (h2 : 0 ≤ a1) (h3 : ((0 = 1 ∧ (a3 = 0 ∧ (a1 = 1 ∧ a4 = 1))) ∨ ((0 = 0 ∨ a3 ≠ 0) ∧ (a1 = a3 ∧ ((a4 = 0 ∧ a3 = 0) ∨ (a4 = 1 ∧ a3 ≠ 0)))))) (h4 : a3 = 0) : a5 ≠ a6 := by omega
theorem oq_dfe16c24 {a0 a1 a2 a3 a4 a5 a6 a7 a8 : Int} (h0 : a0 = a1) (h1 : a1 = a2) (h2 : a2 = a3) (h3 : a3 = a4) (h4 : a5 = 0) (h5 : 0 ≤ a4) (h6 : ((1 = 1 ∧ (a6 = 0 ∧ (a4 = 2 ∧ a5 = 1))) ∨ ((1 = 0 ∨ a6 ≠ 0) ∧ (a4 = a6 ∧ ((a5 = 0 ∧ a6 = 0) ∨ (a5 = 1 ∧ a6 ≠ 0)))))) (h7 : ((0 = 1 ∧ (a7 = 0 ∧ (a6 = 1 ∧ a8 = 1))) ∨ ((0 = 0 ∨ a7 ≠ 0) ∧ (a6 = a7 ∧ ((a8 = 0 ∧ a7 = 0) ∨ (a8 = 1 ∧ a7 ≠ 0)))))) (h8 : a7 = 0) : a0 = 0 := by omega
theorem oq_7172fd10 {a0 a1 a2 a3 a4 a5 a6 a7 a8 a9 : Int} (h0 : a0 ≠ 0) (h1 : ((1 = 1 ∧ (a1 = 0 ∧ (a2 = 2 ∧ a0 = 1))) ∨ ((1 = 0 ∨ a1 ≠ 0) ∧ (a2 = a1 ∧ ((a0 = 0 ∧ a1 = 0) ∨ (a0 = 1 ∧ a1 ≠ 0)))))) (h2 : a3 = 0) (h3 : ((a3 = 1 ∧ (0 ≤ a4 ∧ a4 ≤ 7)) ∨ (a3 = 0 ∧ (a4 < 0 ∨ 7 < a4)))) (h4 : 0 ≤ a1) (h5 : ((0 = 1 ∧ (a5 = 0 ∧ (a1 = 1 ∧ a6 = 1))) ∨ ((0 = 0 ∨ a5 ≠ 0) ∧ (a1 = a5 ∧ ((a6 = 0 ∧ a5 = 0) ∨ (a6 = 1 ∧ a5 ≠ 0)))))) (h6 : a7 ≠ 0) (h7 : ((a7 = 1 ∧ (0 ≤ a8 ∧ a8 ≤ 127)) ∨ (a7 = 0 ∧ (a8 < 0 ∨ 127 < a8)))) (h8 : a5 = 0) : (((a8 < 0 ∨ 127 < a8) ∧ a2 = 1) ∨ ((0 ≤ a8 ∧ (a8 ≤ 127 ∧ (a4 < 0 ∨ (7 < a4 ∨ (a9 = (-1) ∨ a9 = a4))))) ∧ a2 = 2)) := by omega
theorem oq_a3a4b4d2 {a0 a1 : Int} (h0 : a0 ≠ 0) (h1 : ((a0 = 1 ∧ (0 ≤ a1 ∧ a1 ≤ 7)) ∨ (a0 = 0 ∧ (a1 < 0 ∨ 7 < a1)))) : (-1) ≤ a1 := by omega
theorem oq_17954dec {a0 a1 a2 a3 : Int} (h0 : a0 = (-1)) (h1 : a0 = a1) (h2 : a2 ≠ 0) (h3 : ((a2 = 1 ∧ (0 ≤ a3 ∧ a3 ≤ 7)) ∨ (a2 = 0 ∧ (a3 < 0 ∨ 7 < a3)))) : a1 ≠ a3 := by omega
theorem oq_fb7d65cd {a0 a1 a2 a3 a4 a5 a6 a7 a8 a9 : Int} (h0 : a0 ≠ 0) (h1 : ((1 = 1 ∧ (a1 = 0 ∧ (a2 = 2 ∧ a0 = 1))) ∨ ((1 = 0 ∨ a1 ≠ 0) ∧ (a2 = a1 ∧ ((a0 = 0 ∧ a1 = 0) ∨ (a0 = 1 ∧ a1 ≠ 0)))))) (h2 : a3 = (-1)) (h3 : a3 = a4) (h4 : 0 ≤ a1) (h5 : ((0 = 1 ∧ (a5 = 0 ∧ (a1 = 1 ∧ a6 = 1))) ∨ ((0 = 0 ∨ a5 ≠ 0) ∧ (a1 = a5 ∧ ((a6 = 0 ∧ a5 = 0) ∨ (a6 = 1 ∧ a5 ≠ 0)))))) (h6 : a7 ≠ 0) (h7 : ((a7 = 1 ∧ (0 ≤ a8 ∧ a8 ≤ 127)) ∨ (a7 = 0 ∧ (a8 < 0 ∨ 127 < a8)))) (h8 : a5 = 0) : (((a8 < 0 ∨ 127 < a8) ∧ a2 = 1) ∨ ((0 ≤ a8 ∧ (a8 ≤ 127 ∧ (a9 < 0 ∨ (7 < a9 ∨ (a4 = (-1) ∨ a4 = a9))))) ∧ a2 = 2)) := by omega
theorem oq_5cd2acae {a0 a1 : Int} (h0 : a0 = a1) (h1 : (-1) ≤ a0) (h2 : a0 ≠ (-1)) : a1 ≠ (-1) := by omega
theorem oq_c402a3a6 {a0 a1 a2 a3 a4 a5 a6 a7 a8 : Int} (h0 : a0 = a1) (h1 : a1 = a2) (h2 : a2 = a3) (h3 : a3 = a4) (h4 : 0 ≤ a4) (h5 : ((0 = 1 ∧ (a5 = 0 ∧ (a4 = 2 ∧ a6 = 1))) ∨ ((0 = 0 ∨ a5 ≠ 0) ∧ (a4 = a5 ∧ ((a6 = 0 ∧ a5 = 0) ∨ (a6 = 1 ∧ a5 ≠ 0)))))) (h6 : ((0 = 1 ∧ (a7 = 0 ∧ (a5 = 1 ∧ a8 = 1))) ∨ ((0 = 0 ∨ a7 ≠ 0) ∧ (a5 = a7 ∧ ((a8 = 0 ∧ a7 = 0) ∨ (a8 = 1 ∧ a7 ≠ 0)))))) (h7 : a7 = 0) : a0 = 0 := by omega
theorem oq_4085aaaa {a0 a1 a2 a3 a4 a5 a6 a7 : Int} (h0 : a0 ≠ 0) (h1 : ((0 = 1 ∧ (a1 = 0 ∧ (a2 = 2 ∧ a0 = 1))) ∨ ((0 = 0 ∨ a1 ≠ 0) ∧ (a2 = a1 ∧ ((a0 = 0 ∧ a1 = 0) ∨ (a0 = 1 ∧ a1 ≠ 0)))))) (h2 : 0 ≤ a1) (h3 : ((0 = 1 ∧ (a3 = 0 ∧ (a1 = 1 ∧ a4 = 1))) ∨ ((0 = 0 ∨ a3 ≠ 0) ∧ (a1 = a3 ∧ ((a4 = 0 ∧ a3 = 0) ∨ (a4 = 1 ∧ a3 ≠ 0)))))) (h4 : a3 = 0) : (((a5 < 0 ∨ 127 < a5) ∧ a2 = 1) ∨ ((0 ≤ a5 ∧ (a5 ≤ 127 ∧ (a6 < 0 ∨ (7 < a6 ∨ (a7 = (-1) ∨ a7 = a6))))) ∧ a2 = 2)) := by omega
theorem oq_f313d06a {a0 a1 : Int} (h0 : a0 = a1) (h1 : (-1) ≤ a0) (h2 : a0 ≠ (-1)) : 0 ≤ a1 := by omega
theorem oq_1bd5bb93 {a0 a1 a2 a3 a4 a5 a6 a7 a8 a9 : Int} (h0 : a0 ≠ 0) (h1 : ((1 = 1 ∧ (a1 = 0 ∧ (a2 = 2 ∧ a0 = 1))) ∨ ((1 = 0 ∨ a1 ≠ 0) ∧ (a2 = a1 ∧ ((a0 = 0 ∧ a1 = 0) ∨ (a0 = 1 ∧ a1 ≠ 0)))))) (h2 : a3 = a4) (h3 : a3 = a5) (h4 : 0 ≤ a1) (h5 : ((0 = 1 ∧ (a6 = 0 ∧ (a1 = 1 ∧ a7 = 1))) ∨ ((0 = 0 ∨ a6 ≠ 0) ∧ (a1 = a6 ∧ ((a7 = 0 ∧ a6 = 0) ∨ (a7 = 1 ∧ a6 ≠ 0)))))) (h6 : a8 ≠ 0) (h7 : ((a8 = 1 ∧ (0 ≤ a9 ∧ a9 ≤ 127)) ∨ (a8 = 0 ∧ (a9 < 0 ∨ 127 < a9)))) (h8 : a6 = 0) : (((a9 < 0 ∨ 127 < a9) ∧ a2 = 1) ∨ ((0 ≤ a9 ∧ (a9 ≤ 127 ∧ (a4 < 0 ∨ (7 < a4 ∨ (a5 = (-1) ∨ a5 = a4))))) ∧ a2 = 2)) := by omega
theorem oq_456a1b0f {a0 a1 a2 a3 a4 a5 a6 : Int} (h0 : a0 ≠ 0) (h1 : ((1 = 1 ∧ (a1 = 0 ∧ (a2 = 1 ∧ a0 = 1))) ∨ ((1 = 0 ∨ a1 ≠ 0) ∧ (a2 = a1 ∧ ((a0 = 0 ∧ a1 = 0) ∨ (a0 = 1 ∧ a1 ≠ 0)))))) (h2 : a3 = 0) (h3 : ((a3 = 1 ∧ (0 ≤ a4 ∧ a4 ≤ 127)) ∨ (a3 = 0 ∧ (a4 < 0 ∨ 127 < a4)))) (h4 : a1 = 0) : (((a4 < 0 ∨ 127 < a4) ∧ a2 = 1) ∨ ((0 ≤ a4 ∧ (a4 ≤ 127 ∧ (a5 < 0 ∨ (7 < a5 ∨ (a6 = (-1) ∨ a6 = a5))))) ∧ a2 = 2)) := by omega
theorem oq_5358420f {a0 a1 a2 a3 a4 a5 : Int} (h0 : a0 = 0) (h1 : ((1 = 1 ∧ (a1 = 0 ∧ (a2 = 2 ∧ a0 = 1))) ∨ ((1 = 0 ∨ a1 ≠ 0) ∧ (a2 = a1 ∧ ((a0 = 0 ∧ a1 = 0) ∨ (a0 = 1 ∧ a1 ≠ 0)))))) (h2 : a3 = 0) (h3 : 0 ≤ a1) (h4 : ((1 = 1 ∧ (a4 = 0 ∧ (a1 = 1 ∧ a3 = 1))) ∨ ((1 = 0 ∨ a4 ≠ 0) ∧ (a1 = a4 ∧ ((a3 = 0 ∧ a4 = 0) ∨ (a3 = 1 ∧ a4 ≠ 0)))))) (h5 : a4 = 0) : a5 ≠ (-1) := by omega
theorem oq_547aaeb2 {a0 a1 a2 a3 a4 a5 a6 : Int} (h0 : a0 = 0) (h1 : ((1 = 1 ∧ (a1 = 0 ∧ (a2 = 2 ∧ a0 = 1))) ∨ ((1 = 0 ∨ a1 ≠ 0) ∧ (a2 = a1 ∧ ((a0 = 0 ∧ a1 = 0) ∨ (a0 = 1 ∧ a1 ≠ 0)))))) (h2 : a3 = 0) (h3 : 0 ≤ a1) (h4 : ((1 = 1 ∧ (a4 = 0 ∧ (a1 = 1 ∧ a3 = 1))) ∨ ((1 = 0 ∨ a4 ≠ 0) ∧ (a1 = a4 ∧ ((a3 = 0 ∧ a4 = 0) ∨ (a3 = 1 ∧ a4 ≠ 0)))))) (h5 : a4 = 0) : a5 ≠ a6 := by omega
theorem oq_350b7988 {a0 a1 a2 a3 a4 a5 a6 a7 a8 : Int} (h0 : a0 = a1) (h1 : a1 = a2) (h2 : a2 = a3) (h3 : a3 = a4) (h4 : a5 = 0) (h5 : 0 ≤ a4) (h6 : ((1 = 1 ∧ (a6 = 0 ∧ (a4 = 2 ∧ a5 = 1))) ∨ ((1 = 0 ∨ a6 ≠ 0) ∧ (a4 = a6 ∧ ((a5 = 0 ∧ a6 = 0) ∨ (a5 = 1 ∧ a6 ≠ 0)))))) (h7 : a7 = 0) (h8 : ((1 = 1 ∧ (a8 = 0 ∧ (a6 = 1 ∧ a7 = 1))) ∨ ((1 = 0 ∨ a8 ≠ 0) ∧ (a6 = a8 ∧ ((a7 = 0 ∧ a8 = 0) ∨ (a7 = 1 ∧ a8 ≠ 0)))))) (h9 : a8 = 0) : a0 = 0 := by omega
theorem oq_7e508a98 {a0 a1 a2 a3 a4 a5 a6 : Int} (h0 : a0 = 0) (h1 : ((1 = 1 ∧ (a1 = 0 ∧ (a2 = 1 ∧ a0 = 1))) ∨ ((1 = 0 ∨ a1 ≠ 0) ∧ (a2 = a1 ∧ ((a0 = 0 ∧ a1 = 0) ∨ (a0 = 1 ∧ a1 ≠ 0)))))) (h2 : a1 = 0) : (((a3 < 0 ∨ 127 < a3) ∧ a4 = 1) ∨ ((0 ≤ a3 ∧ (a3 ≤ 127 ∧ (a5 < 0 ∨ (7 < a5 ∨ (a6 = (-1) ∨ a6 = a5))))) ∧ a4 = 2)) := by omega
theorem oq_2e1be9de {a0 a1 a2 a3 a4 a5 a6 a7 : Int} (h0 : a0 ≠ 0) (h1 : ((1 = 1 ∧ (a1 = 0 ∧ (a2 = 2 ∧ a0 = 1))) ∨ ((1 = 0 ∨ a1 ≠ 0) ∧ (a2 = a1 ∧ ((a0 = 0 ∧ a1 = 0) ∨ (a0 = 1 ∧ a1 ≠ 0)))))) (h2 : a3 = 0) (h3 : 0 ≤ a1) (h4 : ((1 = 1 ∧ (a4 = 0 ∧ (a1 = 1 ∧ a3 = 1))) ∨ ((1 = 0 ∨ a4 ≠ 0) ∧ (a1 = a4 ∧ ((a3 = 0 ∧ a4 = 0) ∨ (a3 = 1 ∧ a4 ≠ 0)))))) (h5 : a4 = 0) : (((a5 < 0 ∨ 127 < a5) ∧ a2 = 1) ∨ ((0 ≤ a5 ∧ (a5 ≤ 127 ∧ (a6 < 0 ∨ (7 < a6 ∨ (a7 = (-1) ∨ a7 = a6))))) ∧ a2 = 2)) := by omega
theorem oq_add1cd12 {a0 a1 a2 a3 a4 a5 a6 a7 a8 : Int} (h0 : a0 = a1) (h1 : a1 = a2) (h2 : a2 = a3) (h3 : a3 = a4) (h4 : 0 ≤ a4) (h5 : ((0 = 1 ∧ (a5 = 0 ∧ (a4 = 2 ∧ a6 = 1))) ∨ ((0 = 0 ∨ a5 ≠ 0) ∧ (a4 = a5 ∧ ((a6 = 0 ∧ a5 = 0) ∨ (a6 = 1 ∧ a5 ≠ 0)))))) (h6 : a7 = 0) (h7 : ((1 = 1 ∧ (a8 = 0 ∧ (a5 = 1 ∧ a7 = 1))) ∨ ((1 = 0 ∨ a8 ≠ 0) ∧ (a5 = a8 ∧ ((a7 = 0 ∧ a8 = 0) ∨ (a7 = 1 ∧ a8 ≠ 0)))))) (h8 : a8 = 0) : a0 = 0 := by omega
theorem oq_703af1d0 {a0 a1 a2 a3 a4 a5 a6 a7 : Int} (h0 : a0 ≠ 0) (h1 : ((0 = 1 ∧ (a1 = 0 ∧ (a2 = 2 ∧ a0 = 1))) ∨ ((0 = 0 ∨ a1 ≠ 0) ∧ (a2 = a1 ∧ ((a0 = 0 ∧ a1 = 0) ∨ (a0 = 1 ∧ a1 ≠ 0)))))) (h2 : a3 = 0) (h3 : 0 ≤ a1) (h4 : ((1 = 1 ∧ (a4 = 0 ∧ (a1 = 1 ∧ a3 = 1))) ∨ ((1 = 0 ∨ a4 ≠ 0) ∧ (a1 = a4 ∧ ((a3 = 0 ∧ a4 = 0) ∨ (a3 = 1 ∧ a4 ≠ 0)))))) (h5 : a4 = 0) : (((a5 < 0 ∨ 127 < a5) ∧ a2 = 1) ∨ ((0 ≤ a5 ∧ (a5 ≤ 127 ∧ (a6 < 0 ∨ (7 < a6 ∨ (a7 = (-1) ∨ a7 = a6))))) ∧ a2 = 2)) := by omega
/-! The best move, what a cell would be worth, the cost: one answer -/
def BTE (U : AirD) (lim f : Nat → Int) (w e : Int) : Prop := ∃ k v, BSR U f lim 1024 k v ∧ ((k = -1 ∧ e = -1) ∨ (0 ≤ k ∧ ((w = 0 ∧ e = k / 8) ∨ (w = 1 ∧ e = k % 8) ∨ (w = 2 ∧ e = v))))
theorem bte_eq {U : AirD} {f f' lim lim' : Nat → Int} {w e e' : Int} (hw : ∀ x, x < uN U → WOK ((uW U).1 x) ((uW U).2 x)) (h : ∀ j, j < 128 → f j = f' j) (hl : ∀ j, j < 8 → lim j = lim' j) (hf : ∀ j, j < 128 → -1 ≤ f j ∧ f j ≤ 7) (a : BTE U lim f w e) (b : BTE U lim' f' w e') : e = e' := by
  obtain ⟨k, v, a1, a2⟩ := a
  obtain ⟨k', v', b1, b2⟩ := b
  obtain ⟨z1, z2⟩ := bsr_un (bsr_c hw h hl hf (Nat.le_refl _) a1) b1
  subst z1 z2
  clear a1 b1 h hl hf hw
  omega
theorem bst_bte {U : AirD} {f lim : Nat → Int} {s : PS} {w e : Int} (h : BST U f lim 1024 s) (hp : 0 ≤ iI s 26 ∧ iI s 26 ≤ 7) (he : (iI s 25 = -1 ∧ e = -1) ∨ (0 ≤ iI s 25 ∧ ((w = 0 ∧ e = iI s 25) ∨ (w = 1 ∧ e = iI s 26) ∨ (w = 2 ∧ e = iI s 27)))) : BTE U lim f w e := by
  obtain ⟨k, a, b⟩ := h
  refine ⟨k, _, a, ?_⟩
  clear a
  omega
theorem bsm_bte {U : AirD} {f lim : Nat → Int} {s : PS} {w e : Int} (h : BSM U f lim 1024 s) (hp : 0 ≤ iI s 93 ∧ iI s 93 ≤ 7) (he : (iI s 92 = -1 ∧ e = -1) ∨ (iI s 92 ≠ -1 ∧ ((w = 0 ∧ e = iI s 92) ∨ (w = 1 ∧ e = iI s 93) ∨ (w = 2 ∧ e = iI s 94)))) : BTE U lim f w e := by
  obtain ⟨k, a, b⟩ := h
  refine ⟨k, _, a, ?_⟩
  clear a
  omega
/-- what a cell would be worth in another piece -/
def WRE (U : AirD) (f : Nat → Int) (x y e : Int) : Prop := rng e ∧ ∃ v w, CST U f v ∧ CST U (upF f x.toNat y) w ∧ Int32.ofInt e = Int32.ofInt (v - w)
theorem wre_eq {U : AirD} {f f' : Nat → Int} {x y e e' : Int} (hw : ∀ x, x < uN U → WOK ((uW U).1 x) ((uW U).2 x)) (h : ∀ j, j < 128 → f j = f' j) (a : WRE U f x y e) (b : WRE U f' x y e') : e = e' := by
  obtain ⟨r, v, w, a1, a2, a3⟩ := a
  obtain ⟨r', v', w', b1, b2, b3⟩ := b
  have z1 := cst_un (cst_c hw h a1) b1
  have z2 := cst_un (cst_c hw (upf_c h _ _) a2) b2
  rw [z1, z2, ← b3] at a3
  have q := congrArg Int32.toInt a3
  rw [zi r, zi r'] at q
  exact q
theorem cst_eq {U : AirD} {f f' : Nat → Int} {e e' : Int} (hw : ∀ x, x < uN U → WOK ((uW U).1 x) ((uW U).2 x)) (h : ∀ j, j < 128 → f j = f' j) (a : CST U f e) (b : CST U f' e') : e = e' := cst_un (cst_c hw h a) b
section M87kb
variable {l : Launch} {s0 : State} {D : va_G} {tys : List (ClassId × FieldType)} {a0 : Array Value} {A : Nat → Nat} {dT : Nat → ClassId} {s : PS}
set_option maxRecDepth 4000 in
theorem cs_better6 (G : GX l s0 D tys a0 dT) {U : AirD} (I : Bd s) (jAIR : AIR s) (jCPL : CPL s) (jCDJ : CDJ U s) (jPMJ : PMJ s) (jCCJ : CCJ U s) {u : Int} (p0 : rng u) : CT l s0 D A dT 155 (rmN 155) [.ref (A 0), .int (Int32.ofInt u)] s (fun o t => Bd t ∧ Fm [22, 23, 24, 25, 26, 27] [33, 26, 27, 28, 29, 30, 31, 32, 20, 36, 37, 21, 35, 38, 1022, 1023] s t ∧ PMJ t ∧ ((∃ e, o = .inl (some (.int (Int32.ofInt e))) ∧ rng e ∧ ((0 ≤ u ∧ u ≤ 2) ∧ SAM 21 s t ∧ BTE U (fun j => iC s 24 j) (pfC s) u e)) ∨ ∃ x : Nat, o = .inr (exN x) ∧ (x = 0 ∧ (u < 0 ∨ 2 < u) ∧ SAM 21 s t))) := by
  refine ct_ofX G (by decide) (Nat.le_of_ble_eq_true rfl) (fun k X E ET hRt hXt q => ?_)
  show WS k 0 [(0, .ref (A 0)), (1, .int (Int32.ofInt u))] [] _ 0 0
  have F : Fm [22, 23, 24, 25, 26, 27] [33, 26, 27, 28, 29, 30, 31, 32, 20, 36, 37, 21, 35, 38, 1022, 1023] s s := fm_rf _ _ s
  have aw0_21 : SAM 21 s s := sam_rf
  have b1 := bi_25 I
  have b2 := bi_26 I
  have b3 := bi_27 I
  refine z_aload_n X (x := A 0) rfl (List.Mem.head _) (z_load_n X (x := u) rfl (List.Mem.tail _ (List.Mem.head _)) (z_const X rfl (z_const X rfl (z_callV X 0 (rm := rmN 184) (As := [.int (Int32.ofInt u), .int (Int32.ofInt 0), .int (Int32.ofInt 2)]) (st := []) rfl rfl (by decide) rfl (by rw [E.1, E.2.1, E.2.2.1]; exact cs_needWithin2 G I (by first | exact ⟨p0.1, p0.2⟩ | omega) (by first | exact ⟨by decide, by decide⟩ | omega) (by first | exact ⟨by decide, by decide⟩ | omega)) ⟨by rw [E.2.2.2]; exact (show (rmN 184).frames + 1 ≤ (rmN 155).frames by decide), by rw [E.2.2.2]; exact (show 8 + (mNL (miB 184) + 11) + (rmN 184).locals ≤ (rmN 155).locals by decide), by rw [E.2.2.2]; exact (show 0 + 1 ≤ 1 by decide), by rw [E.2.2.2]; exact (show 0 + 6 ≤ 6 by decide)⟩ (Nat.le_of_ble_eq_true rfl) (fun vv s4 hq => ?_) (fun ee s4 hq => ?_)))))
  rotate_left
  · obtain ⟨Is4, Fs4, (⟨hv, hps4⟩ | ⟨xx, hv, hps4⟩)⟩ := hq
    · cases hv
    · cases hv
      have Gs4 := fm_tq F Fs4 rfl rfl
      have JAIR_s4 : AIR s4 := AIR_fm Fs4 (by decide) jAIR
      have JCPL_s4 : CPL s4 := CPL_fm Fs4 (by decide) jCPL
      have JCDJ_s4 : CDJ U s4 := CDJ_fm Fs4 (by decide) jCDJ
      have JPMJ_s4 : PMJ s4 := PMJ_fm Fs4 (by decide) jPMJ
      have JCCJ_s4 : CCJ U s4 := CCJ_fm Fs4 (by decide) jCCJ
      have ws4_25 : iI s4 25 = iI s 25 := fm_iq Fs4 rfl
      have ws4_26 : iI s4 26 = iI s 26 := fm_iq Fs4 rfl
      have ws4_27 : iI s4 27 = iI s 27 := fm_iq Fs4 rfl
      have aws4_21 : SAM 21 s s4 := sam_ts aw0_21 (sam_fm Fs4 (by decide))
      exact x_out X.1 q (fun x hx => (hXt x hx).elim) (show 1 ≤ 1 by decide) (show 6 ≤ 6 by decide) ⟨_, rfl, Is4, Gs4, JPMJ_s4, Or.inr ⟨xx, rfl, ⟨by first | exact hps4.1 | omega, by first | exact hps4.2 | omega, aws4_21⟩⟩⟩
  obtain ⟨Is4, Fs4, (⟨hv, hps4⟩ | ⟨xx, hv, hps4⟩)⟩ := hq
  rotate_left
  · cases hv
  cases hv
  have Gs4 := fm_tq F Fs4 rfl rfl
  have JAIR_s4 : AIR s4 := AIR_fm Fs4 (by decide) jAIR
  have JCPL_s4 : CPL s4 := CPL_fm Fs4 (by decide) jCPL
  have JCDJ_s4 : CDJ U s4 := CDJ_fm Fs4 (by decide) jCDJ
  have JPMJ_s4 : PMJ s4 := PMJ_fm Fs4 (by decide) jPMJ
  have JCCJ_s4 : CCJ U s4 := CCJ_fm Fs4 (by decide) jCCJ
  have ws4_25 : iI s4 25 = iI s 25 := fm_iq Fs4 rfl
  have ws4_26 : iI s4 26 = iI s 26 := fm_iq Fs4 rfl
  have ws4_27 : iI s4 27 = iI s 27 := fm_iq Fs4 rfl
  have aws4_21 : SAM 21 s s4 := sam_ts aw0_21 (sam_fm Fs4 (by decide))
  show WS k 7 [(0, .ref (A 0)), (1, .int (Int32.ofInt u))] [] (Wd A dT s4) 1 6
  refine z_aload_n X (x := A 0) rfl (List.Mem.head _) (s_getR X 0 rfl (c518_ok rfl) rfl rfl (z_callV X 41 (rm := rmN 23) (As := []) (st := []) rfl rfl (by decide) rfl (by rw [E.1, E.2.1, E.2.2.1]; exact c2_seek3 G Is4 JAIR_s4 JCPL_s4 JCDJ_s4 JPMJ_s4 JCCJ_s4 ) ⟨by rw [E.2.2.2]; exact (show (rmN 23).frames + 1 ≤ (rmN 155).frames by decide), by rw [E.2.2.2]; exact (show 8 + (mNL (miB 23) + 11) + (rmN 23).locals ≤ (rmN 155).locals by decide), by rw [E.2.2.2]; exact (show 1 + 0 ≤ 1 by decide), by rw [E.2.2.2]; exact (show 6 + 0 ≤ 6 by decide)⟩ (Nat.le_of_ble_eq_true rfl) (fun vv s6 hq => ?_) (fun ee s6 hq => ?_)))
  rotate_left
  · obtain ⟨Is6, Fs6, JPMJ_s6, e7, hv, hrs6, hps6⟩ := hq; cases hv
  obtain ⟨Is6, Fs6, JPMJ_s6, e7, hv, hrs6, hps6⟩ := hq
  have hps6p := And.intro hps6.2.1 (hps6.2.2.1)
  cases hv
  have Gs6 := fm_tq Gs4 Fs6 rfl rfl
  have b8 := bi_25 Is6
  have b9 := bi_26 Is6
  have b10 := bi_27 Is6
  show WS k 14 [(0, .ref (A 0)), (1, .int (Int32.ofInt u))] [.int (Int32.ofInt e7)] (Wd A dT s6) 1 6
  have hP0 : pfC s4 = pfC s := funext aws4_21
  have hB : BST U (pfC s) (fun j => iC s 24 j) 1024 s6 := bst_c hps6.2.2.1 hP0 (show (fun j => iC s4 24 j) = (fun j => iC s 24 j) from funext (fun j => fm_c Gs4 (by decide))) rfl
  refine z_if_ne X (t := 19) rfl rfl hrs6 (fun g11 => ?_) (fun g11 => ?_)
  ·
    refine z_load_n X (x := u) rfl (List.Mem.tail _ (List.Mem.head _)) (z_if_ne X (t := 33) rfl rfl ⟨by first | exact p0.1 | omega, by first | exact p0.2 | omega⟩ (fun g12 => ?_) (fun g12 => ?_))
    ·
      refine z_load_n X (x := u) rfl (List.Mem.tail _ (List.Mem.head _)) (z_const X rfl (z_icmp_ne X (t := 48) rfl rfl ⟨by first | exact p0.1 | omega, by first | exact p0.2 | omega⟩ (by decide) (fun g13 => ?_) (fun g13 => ?_)))
      ·
        refine z_aload_n X (x := A 0) rfl (List.Mem.head _) (s_getR X 0 rfl (c518_ok rfl) rfl rfl (z_getI X 41 rfl (c518_ok rfl) rfl rfl ?_))
        have b14 := bi_27 Is6
        exact w_iret X.1 q hRt rfl (ax_d X (show cdA 155 55 = some (.ireturn, 1, 0, 0, 0) from rfl)) (show 1 ≤ 1 by decide) (show 6 ≤ 6 by decide) ⟨_, rfl, Is6, Gs6, JPMJ_s6, Or.inl ⟨(iI s6 27), rfl, (rng_to _), ⟨by first | exact ⟨hps4.1, hps4.2⟩ | omega, sam_ts aws4_21 hps6.2.1, bst_bte hB (by first | exact And.intro (b9.1) (b9.2) | (clear g13 g12 g11 hps6 hps4; omega) | (clear g12 g11 hps6 hps4; omega) | omega) (by first | exact Or.inr (And.intro (oq_38882d54 g11 hps6.2.2.2) (Or.inr (Or.inr (And.intro (oq_2853b011 g13 g12 hps4.2 hps4.1) (rfl))))) | (clear g13 g12 g11 hps6 hps4; omega) | (clear g12 g11 hps6 hps4; omega) | omega)⟩⟩⟩
      ·
        refine z_aload_n X (x := A 0) rfl (List.Mem.head _) (s_getR X 0 rfl (c518_ok rfl) rfl rfl (z_getI X 41 rfl (c518_ok rfl) rfl rfl ?_))
        have b15 := bi_26 Is6
        refine z_goto X (t := 55) rfl rfl ?_
        exact w_iret X.1 q hRt rfl (ax_d X (show cdA 155 55 = some (.ireturn, 1, 0, 0, 0) from rfl)) (show 1 ≤ 1 by decide) (show 6 ≤ 6 by decide) ⟨_, rfl, Is6, Gs6, JPMJ_s6, Or.inl ⟨(iI s6 26), rfl, (rng_to _), ⟨by first | exact ⟨hps4.1, hps4.2⟩ | omega, sam_ts aws4_21 hps6.2.1, bst_bte hB (by first | exact And.intro (b15.1) (b15.2) | (clear g12 g11 hps6 hps4; omega) | (clear g11 hps6 hps4; omega) | omega) (by first | exact Or.inr (And.intro (oq_38882d54 g11 hps6.2.2.2) (Or.inr (Or.inl (And.intro (g13) (rfl))))) | (clear g12 g11 hps6 hps4; omega) | (clear g11 hps6 hps4; omega) | omega)⟩⟩⟩
    ·
      refine z_aload_n X (x := A 0) rfl (List.Mem.head _) (s_getR X 0 rfl (c518_ok rfl) rfl rfl (z_getI X 41 rfl (c518_ok rfl) rfl rfl ?_))
      have b16 := bi_25 Is6
      refine z_goto X (t := 55) rfl rfl ?_
      exact w_iret X.1 q hRt rfl (ax_d X (show cdA 155 55 = some (.ireturn, 1, 0, 0, 0) from rfl)) (show 1 ≤ 1 by decide) (show 6 ≤ 6 by decide) ⟨_, rfl, Is6, Gs6, JPMJ_s6, Or.inl ⟨(iI s6 25), rfl, (rng_to _), ⟨by first | exact ⟨hps4.1, hps4.2⟩ | omega, sam_ts aws4_21 hps6.2.1, bst_bte hB (by first | exact And.intro (b9.1) (b9.2) | (clear g11 hps6 hps4; omega) | (clear hps6 hps4; omega) | omega) (by first | exact Or.inr (And.intro (oq_38882d54 g11 hps6.2.2.2) (Or.inl (And.intro (g12) (rfl)))) | (clear g11 hps6 hps4; omega) | (clear hps6 hps4; omega) | omega)⟩⟩⟩
  ·
    refine z_const X rfl ?_
    exact w_iret X.1 q hRt rfl (ax_d X (show cdA 155 18 = some (.ireturn, 1, 0, 0, 0) from rfl)) (show 1 ≤ 1 by decide) (show 6 ≤ 6 by decide) ⟨_, rfl, Is6, Gs6, JPMJ_s6, Or.inl ⟨(-1), rfl, (by decide), ⟨by first | exact ⟨hps4.1, hps4.2⟩ | omega, sam_ts aws4_21 hps6.2.1, bst_bte hB (by first | exact And.intro (b9.1) (b9.2) | (clear hps6 hps4; omega) | (clear hps4; omega) | omega) (by first | exact Or.inl (And.intro (oq_6622183c g11 b8.1 hps6.2.2.2) (rfl)) | (clear hps6 hps4; omega) | (clear hps4; omega) | omega)⟩⟩⟩
set_option maxRecDepth 4000 in
theorem lw_better6 (G : GX l s0 D tys a0 dT) {U : AirD} (I : Bd s) (jAIR : AIR s) (jCPL : CPL s) (jCDJ : CDJ U s) (jPMJ : PMJ s) (jCCJ : CCJ U s) {u : Int} (p0 : rng u) : CTL l s0 D A dT 330 (rmN 330) [.ref (A 0), .int (Int32.ofInt u), .ref (A 517)] s (fun o t => Bd t ∧ Fm [22, 23, 24, 25, 26, 27] [33, 26, 27, 28, 29, 30, 31, 32, 20, 36, 37, 21, 35, 38, 1022, 1023, 1460] s t ∧ PMJ t ∧ ∃ e, o = .inl (some (.int (Int32.ofInt e))) ∧ rng e ∧ ((e = 0 ∧ 0 ≤ u ∧ u ≤ 2 ∧ SAM 21 s t ∧ BTE U (fun j => iC s 24 j) (pfC s) u (iO t)) ∨ (e = 1 ∧ (u < 0 ∨ 2 < u) ∧ SAM 21 s t))) := by
  refine ctL_of G (by decide) (Nat.le_of_ble_eq_true rfl) (by decide) rfl (fun k X E ET hRt hEx q => ?_)
  show WS k 0 [(0, .ref (A 0)), (1, .int (Int32.ofInt u)), (2, .ref (A 517))] [] _ 0 0
  have F : Fm [22, 23, 24, 25, 26, 27] [33, 26, 27, 28, 29, 30, 31, 32, 20, 36, 37, 21, 35, 38, 1022, 1023, 1460] s s := fm_rf _ _ s
  have hA := swA_rf A
  refine z_aload_n X (x := A 517) rfl (List.Mem.tail _ (List.Mem.tail _ (List.Mem.head _))) (z_const X rfl (z_aload_n X (x := A 0) rfl (List.Mem.head _) (z_load_n X (x := u) rfl (List.Mem.tail _ (List.Mem.head _)) (z_callV X 0 (rm := rmN 155) (As := [.int (Int32.ofInt u)]) (st := [.int (Int32.ofInt 0), .ref (A 517)]) rfl rfl (by decide) rfl (by rw [E.1, E.2.1, E.2.2.1]; exact cs_better6 G I jAIR jCPL jCDJ jPMJ jCCJ (by first | exact And.intro (p0.1) (p0.2) | omega)) ⟨by rw [E.2.2.2]; exact (show (rmN 155).frames + 1 ≤ (rmN 330).frames by decide), by rw [E.2.2.2]; exact (show 8 + (mNL (miB 155) + 11) + (rmN 155).locals ≤ (rmN 330).locals by decide), by rw [E.2.2.2]; exact (show 0 + (rmN 155).cells ≤ (rmN 330).cells by decide), by rw [E.2.2.2]; exact (show 0 + (rmN 155).slots ≤ (rmN 330).slots by decide)⟩ (Nat.le_of_ble_eq_true rfl) (fun vv s1 hq => ?_) (fun ee s1 hq => ?_)))))
  rotate_left
  · obtain ⟨Is1, Fs1, JPMJ_s1, (⟨e2, hv, hrs1, hps1⟩ | ⟨xx, hv, hps1⟩)⟩ := hq
    · cases hv
    · cases hv
      rcases (show xx = 0 by first | exact hps1.1 | omega) with gx
      ·
        subst gx
        have Gs1 := fm_tq F Fs1 rfl rfl
        refine (hEx 4 0).2 12 rfl _ _ _ _ _ (fun q1 => ?_)
        show WS k 12 [(0, .ref (A 0)), (1, .int (Int32.ofInt u)), (2, .ref (A 517))] [.ref q1] (Wd A dT s1) 1 6
        refine z_astore_n X (lv' := [(3, .ref q1), (0, .ref (A 0)), (1, .int (Int32.ofInt u)), (2, .ref (A 517))]) rfl (by decide) (fun _ h => h) (z_const X rfl ?_)
        exact w_iret X.1 q hRt rfl (ax_d X (show cdA 330 14 = some (.ireturn, 1, 0, 0, 0) from rfl)) (show 1 ≤ 1 by decide) (show 6 ≤ 6 by decide) ⟨A, _, hA, rfl, Is1, Gs1, JPMJ_s1, 1, rfl, (by decide), Or.inr ⟨by decide, by first | exact hps1.2.1 | omega, hps1.2.2⟩⟩
  obtain ⟨Is1, Fs1, JPMJ_s1, (⟨e2, hv, hrs1, hps1⟩ | ⟨xx, hv, hps1⟩)⟩ := hq
  rotate_left
  · cases hv
  cases hv
  have Gs1 := fm_tq F Fs1 rfl rfl
  show WS k 7 [(0, .ref (A 0)), (1, .int (Int32.ofInt u)), (2, .ref (A 517))] [.int (Int32.ofInt e2), .int (Int32.ofInt 0), .ref (A 517)] (Wd A dT s1) 1 6
  refine w_i2l X.1 (ax_d X (show cdA 330 7 = some (.i2l, 1, 0, 0, 0) from rfl)) (z_last X 517 rfl (c518_ok rfl) rfl (by first | exact oq_0fe6b7e2 | (clear hps1; omega) | omega) (show 0 < 1 by first | exact oq_e5adbe74 | (clear hps1; omega) | omega) (cbig_ok rfl) (wd_gen (fun s3 hs3 => ?_)))
  have Is3 : Bd s3 := eqB hs3 (bd_D Is1)
  have Fs3 : Fm [22, 23, 24, 25, 26, 27] [33, 26, 27, 28, 29, 30, 31, 32, 20, 36, 37, 21, 35, 38, 1022, 1023, 1460] s s3 := by rw [hs3]; exact fm_D Gs1 (show 460 + 1000 ∈ _ by decide)
  have JPMJ_s3 : PMJ s3 := PMJ_fm (L := []) (M := [1460]) (by rw [hs3]; exact fm_D (fm_rf _ _ _) (show 460 + 1000 ∈ _ by decide)) (by decide) JPMJ_s1
  have oos3 : iO s3 = e2 := by rw [hs3]; exact iO_u (by first | exact And.intro (hrs1.1) (hrs1.2) | (clear hps1; omega) | omega)
  refine z_goto X (t := 15) rfl rfl (z_const X rfl ?_)
  exact w_iret X.1 q hRt rfl (ax_d X (show cdA 330 16 = some (.ireturn, 1, 0, 0, 0) from rfl)) (show 1 ≤ 1 by decide) (show 6 ≤ 6 by decide) ⟨A, _, hA, rfl, Is3, Fs3, JPMJ_s3, 0, rfl, (by decide), Or.inl ⟨by decide, by first | exact hps1.1.1 | (clear hps1; omega) | omega, by first | exact hps1.1.2 | (clear hps1; omega) | omega, sam_ts hps1.2.1 (fun j => by rw [hs3]; rfl), by rw [show iO s3 = e2 by first | exact oos3 | (clear hps1; omega) | omega]; exact hps1.2.2⟩⟩
set_option maxRecDepth 4000 in
theorem k_better6 (G : GX l s0 D tys a0 dT) {U : AirD} (I : Bd s) (jRLx : RLx s) (jMDJ : MDJ U s) {x : Int} (p0 : rng x) (p1 : iI s 89 = 1) : CT l s0 D A dT 256 (rmN 256) [.ref (A 179), .int (Int32.ofInt x)] s (fun o t => Bd t ∧ Fm [73, 77, 75, 78, 79, 80, 81, 92, 93, 94] [202, 204, 205, 206, 207, 208, 209, 210, 211, 212, 213, 214, 215, 216, 217, 218, 219, 220, 221, 222, 223, 224, 225, 226, 227, 203, 161, 230, 233, 231, 232, 228] s t ∧ RLx t ∧ ∃ e, o = .inl (some (.int (Int32.ofInt e))) ∧ rng e ∧ ((0 ≤ x ∧ x ≤ 2 ∧ iI t 73 = 0 ∧ iI t 89 = 1 ∧ SAM 228 s t ∧ BTE U (fun j => iC s 229 j) (pfM s) x e) ∨ ((x < 0 ∨ 2 < x) ∧ iI t 73 = 1 ∧ SAM 228 s t ∧ iI t 89 = 1))) := by
  refine ct_of G (by decide) (Nat.le_of_ble_eq_true rfl) (fun k X E hRt hXt q => ?_)
  show WS k 0 [(0, .ref (A 179)), (1, .int (Int32.ofInt x))] [] _ 0 0
  have F : Fm [73, 77, 75, 78, 79, 80, 81, 92, 93, 94] [202, 204, 205, 206, 207, 208, 209, 210, 211, 212, 213, 214, 215, 216, 217, 218, 219, 220, 221, 222, 223, 224, 225, 226, 227, 203, 161, 230, 233, 231, 232, 228] s s := fm_rf _ _ s
  have aw0_228 : SAM 228 s s := sam_rf
  have b1 := bi_73 I
  have b2 := bi_92 I
  have b3 := bi_93 I
  have b4 := bi_94 I
  have b5 := bi_89 I
  refine z_aload_n X (x := A 179) rfl (List.Mem.head _) (z_const X rfl (s_putI X 179 rfl (c518_ok rfl) rfl rfl (by decide) rfl rfl rfl (wd_gen (fun s6 hs6 => ?_))))
  have Is6 : Bd s6 := eqB hs6 (bd_I I (show (0 : Int) ≤ 0 ∧ 0 ≤ 3 by first | exact ⟨by decide, by decide⟩ | omega) (by decide))
  have Fs6 := eqF hs6 (fm_I F (inl_ok (a := 73) rfl))
  have vs6 : iI s6 73 = 0 := eqI hs6 (iI_u (by decide))
  have ws6_92 : iI s6 92 = iI s 92 := eqI hs6 rfl
  have ws6_93 : iI s6 93 = iI s 93 := eqI hs6 rfl
  have ws6_94 : iI s6 94 = iI s 94 := eqI hs6 rfl
  have ws6_89 : iI s6 89 = iI s 89 := eqI hs6 rfl
  have aws6_228 : SAM 228 s s6 := by rw [hs6]; exact aw0_228
  have fs6 : Fm [73] [] s s6 := by rw [hs6]; exact fm_I (fm_rf _ _ _) (show 73 ∈ _ by decide)
  have JRLx_s6 : RLx s6 := RLx_fm fs6 (by decide) jRLx
  have JMDJ_s6 : MDJ U s6 := MDJ_fm fs6 (by decide) jMDJ
  refine z_aload_n X (x := A 179) rfl (List.Mem.head _) (z_load_n X (x := x) rfl (List.Mem.tail _ (List.Mem.head _)) (z_const X rfl (z_const X rfl (z_callS X (rm := rmN 188) (As := [.int (Int32.ofInt x), .int (Int32.ofInt 0), .int (Int32.ofInt 2)]) (st := [.ref (A 179)]) rfl rfl (by rw [E.1, E.2.1, E.2.2.1]; exact k_in2 G Is6 (by first | exact ⟨p0.1, p0.2⟩ | omega) (by first | exact ⟨by decide, by decide⟩ | omega) (by first | exact ⟨by decide, by decide⟩ | omega)) ⟨by rw [E.2.2.2]; exact (show (rmN 188).frames + 1 ≤ (rmN 256).frames by decide), by rw [E.2.2.2]; exact (show 8 + (mNL (miB 188) + 11) + (rmN 188).locals ≤ (rmN 256).locals by decide), by rw [E.2.2.2]; exact (show 0 + (rmN 188).cells ≤ (rmN 256).cells by decide), by rw [E.2.2.2]; exact (show 0 + (rmN 188).slots ≤ (rmN 256).slots by decide)⟩ (Nat.le_of_ble_eq_true rfl) (fun vv s7 hq => ?_) (fun ee s7 hq => ?_)))))
  rotate_left
  · obtain ⟨rfl, e8, hv, hrs7, hps7⟩ := hq; cases hv
  obtain ⟨rfl, e8, hv, hrs7, hps7⟩ := hq
  cases hv
  show WS k 12 [(0, .ref (A 179)), (1, .int (Int32.ofInt x))] [.int (Int32.ofInt e8), .ref (A 179)] (Wd A dT s6) 0 0
  refine z_if_ne X (t := 19) rfl rfl hrs7 (fun g9 => ?_) (fun g9 => ?_)
  ·
    refine z_const X rfl (z_const X rfl (zcV_i0 X E 179 (As := [.int (Int32.ofInt 0), .int (Int32.ofInt 1)]) (st := []) rfl rfl rfl rfl (k_bad2 G Is6 (by first | exact Or.inl (by decide) | omega) (by first | exact ⟨by decide, by decide⟩ | omega)) rfl (Nat.le_of_ble_eq_true rfl) (fun s10 e11 Is10 Fs10 hrs10 hps10 => ?_)))
    have Gs10 := fm_tq Fs6 Fs10 rfl rfl
    have JRLx_s10 : RLx s10 := RLx_fm Fs10 (by decide) JRLx_s6
    have JMDJ_s10 : MDJ U s10 := MDJ_fm Fs10 (by decide) JMDJ_s6
    have b12 := bi_73 Is10
    have ws10_92 : iI s10 92 = iI s6 92 := fm_iq Fs10 rfl
    have ws10_93 : iI s10 93 = iI s6 93 := fm_iq Fs10 rfl
    have ws10_94 : iI s10 94 = iI s6 94 := fm_iq Fs10 rfl
    have ws10_89 : iI s10 89 = iI s6 89 := fm_iq Fs10 rfl
    have aws10_228 : SAM 228 s s10 := sam_ts aws6_228 (sam_fm Fs10 (by decide))
    refine z_if_eq X (t := 29) rfl rfl hrs10 (fun g13 => ?_) (fun g13 => ?_)
    ·
      refine z_aload_n X (x := A 179) rfl (List.Mem.head _) (zcV_v1 X E 179 (As := []) (st := []) rfl rfl rfl rfl (k_findMove3 G Is10 JRLx_s10 JMDJ_s10 (by first | exact oq_f34933ba ws10_89 ws6_89 p1 b5.1 | omega)) rfl (Nat.le_of_ble_eq_true rfl) (fun s14 Is14 Fs14 JRLx_s14 hps14 => ?_))
      have Gs14 := fm_tq Gs10 Fs14 rfl rfl
      have JRLx_s14 : RLx s14 := RLx_fm Fs14 (by decide) JRLx_s10
      have ws14_73 : iI s14 73 = iI s10 73 := fm_iq Fs14 rfl
      have b16 := bi_92 Is14
      have b17 := bi_93 Is14
      have b18 := bi_94 Is14
      have ws14_89 : iI s14 89 = iI s10 89 := fm_iq Fs14 rfl
      have hP0 : pfM s10 = pfM s := funext aws10_228
      have hB : BSM U (pfM s) (fun j => iC s 229 j) 1024 s14 := bsm_c hps14.1 hP0 (show (fun j => iC s10 229 j) = (fun j => iC s 229 j) from funext (fun j => fm_c Gs10 (by decide))) rfl
      have hSm : SAM 228 s s14 := sam_ts aws10_228 hps14.2.1
      refine z_aload_n X (x := A 179) rfl (List.Mem.head _) (z_getI X 179 rfl (c518_ok rfl) rfl rfl ?_)
      have b19 := bi_92 Is14
      refine z_const X rfl (z_icmp_ne X (t := 45) rfl rfl (rng_to _) (by decide) (fun g20 => ?_) (fun g20 => ?_))
      ·
        refine z_load_n X (x := x) rfl (List.Mem.tail _ (List.Mem.head _)) (z_if_ne X (t := 56) rfl rfl ⟨by first | exact p0.1 | omega, by first | exact p0.2 | omega⟩ (fun g21 => ?_) (fun g21 => ?_))
        ·
          refine z_load_n X (x := x) rfl (List.Mem.tail _ (List.Mem.head _)) (z_const X rfl (z_icmp_ne X (t := 68) rfl rfl ⟨by first | exact p0.1 | omega, by first | exact p0.2 | omega⟩ (by decide) (fun g22 => ?_) (fun g22 => ?_)))
          ·
            refine z_aload_n X (x := A 179) rfl (List.Mem.head _) (z_getI X 179 rfl (c518_ok rfl) rfl rfl ?_)
            have b23 := bi_94 Is14
            exact w_iret X.1 q hRt rfl (ax_d X (show cdA 256 72 = some (.ireturn, 1, 0, 0, 0) from rfl)) (Nat.zero_le _) (Nat.zero_le _) ⟨_, rfl, Is14, Gs14, JRLx_s14, (iI s14 94), rfl, (rng_to _), (Or.inl ⟨by first | exact oq_ed86839e g9 hps7 | omega, by first | exact oq_1e4f7caf g9 hps7 | omega, by first | exact oq_48a52f1b ws14_73 b12.1 hps10 vs6 | exact oq_c21d6763 ws14_73 b12.1 hps10 vs6 | omega, by first | exact oq_29301542 ws14_89 ws10_89 ws6_89 p1 b5.1 | omega, hSm, bsm_bte hB (by first | exact And.intro (b17.1) (b17.2) | (clear g22 g21 g20 hps10 g9 hps7; omega) | (clear g21 g20 hps10 g9 hps7; omega) | omega) (by first | exact Or.inr (And.intro (g20) (Or.inr (Or.inr (And.intro (oq_314d77f3 g22 g21 g9 hps7) (rfl))))) | (clear g22 g21 g20 hps10 g9 hps7; omega) | (clear g21 g20 hps10 g9 hps7; omega) | omega)⟩)⟩
          ·
            refine z_aload_n X (x := A 179) rfl (List.Mem.head _) (z_getI X 179 rfl (c518_ok rfl) rfl rfl ?_)
            have b24 := bi_93 Is14
            refine z_goto X (t := 72) rfl rfl ?_
            exact w_iret X.1 q hRt rfl (ax_d X (show cdA 256 72 = some (.ireturn, 1, 0, 0, 0) from rfl)) (Nat.zero_le _) (Nat.zero_le _) ⟨_, rfl, Is14, Gs14, JRLx_s14, (iI s14 93), rfl, (rng_to _), (Or.inl ⟨by first | exact oq_a1cdbcd8 g22 | omega, by first | exact oq_68c43520 g22 | omega, by first | exact oq_48a52f1b ws14_73 b12.1 hps10 vs6 | exact oq_c21d6763 ws14_73 b12.1 hps10 vs6 | omega, by first | exact oq_29301542 ws14_89 ws10_89 ws6_89 p1 b5.1 | omega, hSm, bsm_bte hB (by first | exact And.intro (b24.1) (b24.2) | (clear g21 g20 hps10 g9 hps7; omega) | (clear g20 hps10 g9 hps7; omega) | omega) (by first | exact Or.inr (And.intro (g20) (Or.inr (Or.inl (And.intro (g22) (rfl))))) | (clear g21 g20 hps10 g9 hps7; omega) | (clear g20 hps10 g9 hps7; omega) | omega)⟩)⟩
        ·
          refine z_aload_n X (x := A 179) rfl (List.Mem.head _) (z_getI X 179 rfl (c518_ok rfl) rfl rfl ?_)
          have b25 := bi_92 Is14
          refine z_goto X (t := 72) rfl rfl ?_
          exact w_iret X.1 q hRt rfl (ax_d X (show cdA 256 72 = some (.ireturn, 1, 0, 0, 0) from rfl)) (Nat.zero_le _) (Nat.zero_le _) ⟨_, rfl, Is14, Gs14, JRLx_s14, (iI s14 92), rfl, (rng_to _), (Or.inl ⟨by first | exact oq_0b35aa92 g21 | omega, by first | exact oq_ccd7c97a g21 | omega, by first | exact oq_48a52f1b ws14_73 b12.1 hps10 vs6 | exact oq_c21d6763 ws14_73 b12.1 hps10 vs6 | omega, by first | exact oq_29301542 ws14_89 ws10_89 ws6_89 p1 b5.1 | omega, hSm, bsm_bte hB (by first | exact And.intro (b17.1) (b17.2) | (clear g20 hps10 g9 hps7; omega) | (clear hps10 g9 hps7; omega) | omega) (by first | exact Or.inr (And.intro (g20) (Or.inl (And.intro (g21) (rfl)))) | (clear g20 hps10 g9 hps7; omega) | (clear hps10 g9 hps7; omega) | omega)⟩)⟩
      ·
        refine z_const X rfl (z_goto X (t := 72) rfl rfl ?_)
        exact w_iret X.1 q hRt rfl (ax_d X (show cdA 256 72 = some (.ireturn, 1, 0, 0, 0) from rfl)) (Nat.zero_le _) (Nat.zero_le _) ⟨_, rfl, Is14, Gs14, JRLx_s14, (-1), rfl, (by decide), (Or.inl ⟨by first | exact oq_ed86839e g9 hps7 | omega, by first | exact oq_1e4f7caf g9 hps7 | omega, by first | exact oq_48a52f1b ws14_73 b12.1 hps10 vs6 | exact oq_c21d6763 ws14_73 b12.1 hps10 vs6 | omega, by first | exact oq_29301542 ws14_89 ws10_89 ws6_89 p1 b5.1 | omega, hSm, bsm_bte hB (by first | exact And.intro (b17.1) (b17.2) | (clear hps10 g9 hps7; omega) | (clear g9 hps7; omega) | omega) (by first | exact Or.inl (And.intro (g20) (rfl)) | (clear hps10 g9 hps7; omega) | (clear g9 hps7; omega) | omega)⟩)⟩
    ·
      refine z_const X rfl ?_
      exact w_iret X.1 q hRt rfl (ax_d X (show cdA 256 28 = some (.ireturn, 1, 0, 0, 0) from rfl)) (Nat.zero_le _) (Nat.zero_le _) ⟨_, rfl, Is10, Gs10, JRLx_s10, 0, rfl, (by decide), (Or.inr ⟨by first | exact oq_d2bc077d g13 hps10 vs6 | exact Or.inl (oq_22c60b3d g13 hps10 vs6) | omega, by first | exact oq_df0d149a g13 hps10 vs6 | exact oq_d8ebe12c g13 hps10 vs6 | omega, aws10_228, by first | exact oq_f34933ba ws10_89 ws6_89 p1 b5.1 | omega⟩)⟩
  ·
    refine z_const X rfl (z_goto X (t := 20) rfl rfl (z_const X rfl (zcV_i0 X E 179 (As := [.int (Int32.ofInt 1), .int (Int32.ofInt 1)]) (st := []) rfl rfl rfl rfl (k_bad2 G Is6 (by first | exact Or.inr (by decide) | omega) (by first | exact ⟨by decide, by decide⟩ | omega)) rfl (Nat.le_of_ble_eq_true rfl) (fun s26 e27 Is26 Fs26 hrs26 hps26 => ?_))))
    have Gs26 := fm_tq Fs6 Fs26 rfl rfl
    have JRLx_s26 : RLx s26 := RLx_fm Fs26 (by decide) JRLx_s6
    have JMDJ_s26 : MDJ U s26 := MDJ_fm Fs26 (by decide) JMDJ_s6
    have b28 := bi_73 Is26
    have ws26_92 : iI s26 92 = iI s6 92 := fm_iq Fs26 rfl
    have ws26_93 : iI s26 93 = iI s6 93 := fm_iq Fs26 rfl
    have ws26_94 : iI s26 94 = iI s6 94 := fm_iq Fs26 rfl
    have ws26_89 : iI s26 89 = iI s6 89 := fm_iq Fs26 rfl
    have aws26_228 : SAM 228 s s26 := sam_ts aws6_228 (sam_fm Fs26 (by decide))
    refine z_if_eq X (t := 29) rfl rfl hrs26 (fun g29 => ?_) (fun g29 => ?_)
    ·
      refine z_aload_n X (x := A 179) rfl (List.Mem.head _) (zcV_v1 X E 179 (As := []) (st := []) rfl rfl rfl rfl (k_findMove3 G Is26 JRLx_s26 JMDJ_s26 (by first | exact oq_f34933ba ws26_89 ws6_89 p1 b5.1 | omega)) rfl (Nat.le_of_ble_eq_true rfl) (fun s30 Is30 Fs30 JRLx_s30 hps30 => ?_))
      have Gs30 := fm_tq Gs26 Fs30 rfl rfl
      have JRLx_s30 : RLx s30 := RLx_fm Fs30 (by decide) JRLx_s26
      have ws30_73 : iI s30 73 = iI s26 73 := fm_iq Fs30 rfl
      have b32 := bi_92 Is30
      have b33 := bi_93 Is30
      have b34 := bi_94 Is30
      have ws30_89 : iI s30 89 = iI s26 89 := fm_iq Fs30 rfl
      have hP0 : pfM s26 = pfM s := funext aws26_228
      have hB : BSM U (pfM s) (fun j => iC s 229 j) 1024 s30 := bsm_c hps30.1 hP0 (show (fun j => iC s26 229 j) = (fun j => iC s 229 j) from funext (fun j => fm_c Gs26 (by decide))) rfl
      have hSm : SAM 228 s s30 := sam_ts aws26_228 hps30.2.1
      refine z_aload_n X (x := A 179) rfl (List.Mem.head _) (z_getI X 179 rfl (c518_ok rfl) rfl rfl ?_)
      have b35 := bi_92 Is30
      refine z_const X rfl (z_icmp_ne X (t := 45) rfl rfl (rng_to _) (by decide) (fun g36 => ?_) (fun g36 => ?_))
      ·
        refine z_load_n X (x := x) rfl (List.Mem.tail _ (List.Mem.head _)) (z_if_ne X (t := 56) rfl rfl ⟨by first | exact p0.1 | omega, by first | exact p0.2 | omega⟩ (fun g37 => ?_) (fun g37 => ?_))
        ·
          refine z_load_n X (x := x) rfl (List.Mem.tail _ (List.Mem.head _)) (z_const X rfl (z_icmp_ne X (t := 68) rfl rfl ⟨by first | exact p0.1 | omega, by first | exact p0.2 | omega⟩ (by decide) (fun g38 => ?_) (fun g38 => ?_)))
          ·
            refine z_aload_n X (x := A 179) rfl (List.Mem.head _) (z_getI X 179 rfl (c518_ok rfl) rfl rfl ?_)
            have b39 := bi_94 Is30
            exact w_iret X.1 q hRt rfl (ax_d X (show cdA 256 72 = some (.ireturn, 1, 0, 0, 0) from rfl)) (Nat.zero_le _) (Nat.zero_le _) ⟨_, rfl, Is30, Gs30, JRLx_s30, (iI s30 94), rfl, (rng_to _), (Or.inl ⟨by first | exact oq_674898f9 g29 hps26 vs6 | exact oq_3fe98d9b g29 hps26 vs6 | omega, by first | exact oq_e1c32280 g29 hps26 vs6 | exact oq_5a78dcd3 g29 hps26 vs6 | omega, by first | exact oq_8c407924 ws30_73 g29 b28.1 hps26 vs6 | exact oq_36519d78 ws30_73 g29 b28.1 hps26 vs6 | omega, by first | exact oq_29301542 ws30_89 ws26_89 ws6_89 p1 b5.1 | omega, hSm, bsm_bte hB (by first | exact And.intro (b33.1) (b33.2) | (clear g38 g37 g36 hps26 hps7; omega) | (clear g37 g36 hps26 hps7; omega) | omega) (by first | exact Or.inl (And.intro (oq_23219400 g29 hps26 vs6) (oq_23219400 g29 hps26 vs6)) | (clear g38 g37 g36 hps26 hps7; omega) | (clear g37 g36 hps26 hps7; omega) | omega)⟩)⟩
          ·
            refine z_aload_n X (x := A 179) rfl (List.Mem.head _) (z_getI X 179 rfl (c518_ok rfl) rfl rfl ?_)
            have b40 := bi_93 Is30
            refine z_goto X (t := 72) rfl rfl ?_
            exact w_iret X.1 q hRt rfl (ax_d X (show cdA 256 72 = some (.ireturn, 1, 0, 0, 0) from rfl)) (Nat.zero_le _) (Nat.zero_le _) ⟨_, rfl, Is30, Gs30, JRLx_s30, (iI s30 93), rfl, (rng_to _), (Or.inl ⟨by first | exact oq_a1cdbcd8 g38 | omega, by first | exact oq_68c43520 g38 | omega, by first | exact oq_8c407924 ws30_73 g29 b28.1 hps26 vs6 | exact oq_36519d78 ws30_73 g29 b28.1 hps26 vs6 | omega, by first | exact oq_29301542 ws30_89 ws26_89 ws6_89 p1 b5.1 | omega, hSm, bsm_bte hB (by first | exact And.intro (b40.1) (b40.2) | (clear g37 g36 hps26 hps7; omega) | (clear g36 hps26 hps7; omega) | omega) (by first | exact Or.inl (And.intro (oq_865542fe g38 g9 hps7) (oq_865542fe g38 g9 hps7)) | (clear g37 g36 hps26 hps7; omega) | (clear g36 hps26 hps7; omega) | omega)⟩)⟩
        ·
          refine z_aload_n X (x := A 179) rfl (List.Mem.head _) (z_getI X 179 rfl (c518_ok rfl) rfl rfl ?_)
          have b41 := bi_92 Is30
          refine z_goto X (t := 72) rfl rfl ?_
          exact w_iret X.1 q hRt rfl (ax_d X (show cdA 256 72 = some (.ireturn, 1, 0, 0, 0) from rfl)) (Nat.zero_le _) (Nat.zero_le _) ⟨_, rfl, Is30, Gs30, JRLx_s30, (iI s30 92), rfl, (rng_to _), (Or.inl ⟨by first | exact oq_0b35aa92 g37 | omega, by first | exact oq_ccd7c97a g37 | omega, by first | exact oq_8c407924 ws30_73 g29 b28.1 hps26 vs6 | exact oq_36519d78 ws30_73 g29 b28.1 hps26 vs6 | omega, by first | exact oq_29301542 ws30_89 ws26_89 ws6_89 p1 b5.1 | omega, hSm, bsm_bte hB (by first | exact And.intro (b33.1) (b33.2) | (clear g36 hps26 hps7; omega) | (clear hps26 hps7; omega) | omega) (by first | exact Or.inl (And.intro (oq_155c6819 g37 g9 hps7) (oq_155c6819 g37 g9 hps7)) | (clear g36 hps26 hps7; omega) | (clear hps26 hps7; omega) | omega)⟩)⟩
      ·
        refine z_const X rfl (z_goto X (t := 72) rfl rfl ?_)
        exact w_iret X.1 q hRt rfl (ax_d X (show cdA 256 72 = some (.ireturn, 1, 0, 0, 0) from rfl)) (Nat.zero_le _) (Nat.zero_le _) ⟨_, rfl, Is30, Gs30, JRLx_s30, (-1), rfl, (by decide), (Or.inl ⟨by first | exact oq_674898f9 g29 hps26 vs6 | exact oq_3fe98d9b g29 hps26 vs6 | omega, by first | exact oq_e1c32280 g29 hps26 vs6 | exact oq_5a78dcd3 g29 hps26 vs6 | omega, by first | exact oq_8c407924 ws30_73 g29 b28.1 hps26 vs6 | exact oq_36519d78 ws30_73 g29 b28.1 hps26 vs6 | omega, by first | exact oq_29301542 ws30_89 ws26_89 ws6_89 p1 b5.1 | omega, hSm, bsm_bte hB (by first | exact And.intro (b33.1) (b33.2) | (clear hps26 hps7; omega) | (clear hps7; omega) | omega) (by first | exact Or.inl (And.intro (g36) (rfl)) | (clear hps26 hps7; omega) | (clear hps7; omega) | omega)⟩)⟩
    ·
      refine z_const X rfl ?_
      exact w_iret X.1 q hRt rfl (ax_d X (show cdA 256 28 = some (.ireturn, 1, 0, 0, 0) from rfl)) (Nat.zero_le _) (Nat.zero_le _) ⟨_, rfl, Is26, Gs26, JRLx_s26, 0, rfl, (by decide), (Or.inr ⟨by first | exact oq_8925036c g9 hps7 | omega, by first | exact oq_faabd673 g29 hps26 vs6 | exact oq_e8001c64 hps26 vs6 | omega, aws26_228, by first | exact oq_f34933ba ws26_89 ws6_89 p1 b5.1 | omega⟩)⟩
set_option maxRecDepth 4000 in
theorem cs_cost6 (G : GX l s0 D tys a0 dT) {U : AirD} (I : Bd s) (jAIR : AIR s) (jCPL : CPL s) (jCDJ : CDJ U s) (jPMJ : PMJ s)  : CT l s0 D A dT 154 (rmN 154) [.ref (A 0)] s (fun o t => Bd t ∧ Fm [22, 23, 24] [33, 26, 27, 28, 29, 30, 31, 32, 20, 36, 37, 35] s t ∧ ∃ e, o = .inl (some (.int (Int32.ofInt e))) ∧ rng e ∧ (CST U (pfC s) e)) := by
  refine ct_ofX G (by decide) (Nat.le_of_ble_eq_true rfl) (fun k X E ET hRt hXt q => ?_)
  show WS k 0 [(0, .ref (A 0))] [] _ 0 0
  have F : Fm [22, 23, 24] [33, 26, 27, 28, 29, 30, 31, 32, 20, 36, 37, 35] s s := fm_rf _ _ s
  have I0 := I
  refine z_aload_n X (x := A 0) rfl (List.Mem.head _) (s_getR X 0 rfl (c518_ok rfl) rfl rfl (zcV_v0 X E 41 (As := []) (st := []) rfl rfl rfl rfl (c2_measure3 G I jAIR jCPL jCDJ jPMJ ) rfl (Nat.le_of_ble_eq_true rfl) (fun s1 Is1 Fs1 hps1 => ?_)))
  have Gs1 := fm_tq F Fs1 rfl rfl
  have JAIR_s1 : AIR s1 := AIR_fm Fs1 (by decide) jAIR
  have JCDJ_s1 : CDJ U s1 := CDJ_fm Fs1 (by decide) jCDJ
  refine z_aload_n X (x := A 0) rfl (List.Mem.head _) (s_getR X 0 rfl (c518_ok rfl) rfl rfl (zcV_i0 X E 41 (As := []) (st := []) rfl rfl rfl rfl (c2_price3 G Is1 JAIR_s1 JCDJ_s1 ) rfl (Nat.le_of_ble_eq_true rfl) (fun s3 e4 Is3 Fs3 hrs3 hps3 => ?_)))
  have Gs3 := fm_tq Gs1 Fs3 rfl rfl
  have hC1 : CST U (pfC s) e4 := pn_cst (u_wok JAIR_s1 JCDJ_s1) (fun j hj => I0.2 21 j hj) (by have z := hps1; exact z) hps3
  exact w_iret X.1 q hRt rfl (ax_d X (show cdA 154 14 = some (.ireturn, 1, 0, 0, 0) from rfl)) (Nat.zero_le _) (Nat.zero_le _) ⟨_, rfl, Is3, Gs3, e4, rfl, hrs3, hC1⟩
set_option maxRecDepth 4000 in
theorem k_cost6 (G : GX l s0 D tys a0 dT) {U : AirD} (I : Bd s) (jRLx : RLx s) (jMDJ : MDJ U s) (p0 : iI s 89 = 1) : CT l s0 D A dT 253 (rmN 253) [.ref (A 179)] s (fun o t => Bd t ∧ Fm [73, 77, 75, 78, 79, 80, 81] [202, 204, 205, 206, 207, 208, 209, 210, 211, 212, 213, 214, 215, 216, 217, 218, 219, 220, 221, 222, 223, 224, 225, 226, 227, 203, 161, 230, 233] s t ∧ RLx t ∧ ∃ e, o = .inl (some (.int (Int32.ofInt e))) ∧ rng e ∧ (CST U (pfM s) e ∧ iI t 73 = 0)) := by
  refine ct_of G (by decide) (Nat.le_of_ble_eq_true rfl) (fun k X E hRt hXt q => ?_)
  show WS k 0 [(0, .ref (A 179))] [] _ 0 0
  have F : Fm [73, 77, 75, 78, 79, 80, 81] [202, 204, 205, 206, 207, 208, 209, 210, 211, 212, 213, 214, 215, 216, 217, 218, 219, 220, 221, 222, 223, 224, 225, 226, 227, 203, 161, 230, 233] s s := fm_rf _ _ s
  have b1 := bi_73 I
  have b2 := bi_89 I
  refine z_aload_n X (x := A 179) rfl (List.Mem.head _) (z_const X rfl (s_putI X 179 rfl (c518_ok rfl) rfl rfl (by decide) rfl rfl rfl (wd_gen (fun s3 hs3 => ?_))))
  have Is3 : Bd s3 := eqB hs3 (bd_I I (show (0 : Int) ≤ 0 ∧ 0 ≤ 3 by first | exact ⟨by decide, by decide⟩ | omega) (by decide))
  have Fs3 := eqF hs3 (fm_I F (inl_ok (a := 73) rfl))
  have vs3 : iI s3 73 = 0 := eqI hs3 (iI_u (by decide))
  have ws3_89 : iI s3 89 = iI s 89 := eqI hs3 rfl
  have fs3 : Fm [73] [] s s3 := by rw [hs3]; exact fm_I (fm_rf _ _ _) (show 73 ∈ _ by decide)
  have JRLx_s3 : RLx s3 := RLx_fm fs3 (by decide) jRLx
  have JMDJ_s3 : MDJ U s3 := MDJ_fm fs3 (by decide) jMDJ
  refine z_aload_n X (x := A 179) rfl (List.Mem.head _) (zcV_i1 X E 179 (As := []) (st := []) rfl rfl rfl rfl (k_costOf3 G Is3 JRLx_s3 JMDJ_s3 (by first | exact oq_b44a1c7f ws3_89 p0 b2.1 | omega)) rfl (Nat.le_of_ble_eq_true rfl) (fun s4 e5 Is4 Fs4 JRLx_s4 hrs4 hps4 => ?_))
  have Gs4 := fm_tq Fs3 Fs4 rfl rfl
  have JRLx_s4 : RLx s4 := RLx_fm Fs4 (by decide) JRLx_s3
  have ws4_73 : iI s4 73 = iI s3 73 := fm_iq Fs4 rfl
  have ws4_89 : iI s4 89 = iI s3 89 := fm_iq Fs4 rfl
  exact w_iret X.1 q hRt rfl (ax_d X (show cdA 253 9 = some (.ireturn, 1, 0, 0, 0) from rfl)) (Nat.zero_le _) (Nat.zero_le _) ⟨_, rfl, Is4, Gs4, JRLx_s4, e5, rfl, hrs4, ⟨by have z := hps4.1; rw [show pfM s3 = pfM s from by rw [hs3]; rfl] at z; exact z, by first | exact oq_e5e5d3d6 ws4_73 vs3 | omega⟩⟩
set_option maxRecDepth 4000 in
theorem cs_needPiece6 (G : GX l s0 D tys a0 dT) (I : Bd s) {v : Int} (p0 : rng v) : CT l s0 D A dT 182 (rmN 182) [.ref (A 0), .int (Int32.ofInt v)] s (fun o t => Bd t ∧ Fm [] [] s t ∧ ((o = .inl none ∧ (0 ≤ v ∧ v ≤ 7)) ∨ ∃ x : Nat, o = .inr (exN x) ∧ (x = 0 ∧ (v < 0 ∨ 7 < v)))) := by
  refine ct_ofX G (by decide) (Nat.le_of_ble_eq_true rfl) (fun k X E ET hRt hXt q => ?_)
  show WS k 0 [(0, .ref (A 0)), (1, .int (Int32.ofInt v))] [] _ 0 0
  have F : Fm [] [] s s := fm_rf _ _ s
  refine z_aload_n X (x := A 0) rfl (List.Mem.head _) (z_load_n X (x := v) rfl (List.Mem.tail _ (List.Mem.head _)) (z_const X rfl (z_bipush X rfl (z_callV X 0 (rm := rmN 184) (As := [.int (Int32.ofInt v), .int (Int32.ofInt 0), .int (Int32.ofInt 7)]) (st := []) rfl rfl (by decide) rfl (by rw [E.1, E.2.1, E.2.2.1]; exact cs_needWithin2 G I (by first | exact ⟨p0.1, p0.2⟩ | omega) (by first | exact ⟨by decide, by decide⟩ | omega) (by first | exact ⟨by decide, by decide⟩ | omega)) ⟨by rw [E.2.2.2]; exact (show (rmN 184).frames + 1 ≤ (rmN 182).frames by decide), by rw [E.2.2.2]; exact (show 8 + (mNL (miB 184) + 11) + (rmN 184).locals ≤ (rmN 182).locals by decide), by rw [E.2.2.2]; exact (show 0 + 1 ≤ 1 by decide), by rw [E.2.2.2]; exact (show 0 + 6 ≤ 6 by decide)⟩ (Nat.le_of_ble_eq_true rfl) (fun vv s1 hq => ?_) (fun ee s1 hq => ?_)))))
  rotate_left
  · obtain ⟨Is1, Fs1, (⟨hv, hps1⟩ | ⟨xx, hv, hps1⟩)⟩ := hq
    · cases hv
    · cases hv
      have Gs1 := fm_tq F Fs1 rfl rfl
      exact x_out X.1 q (fun x hx => (hXt x hx).elim) (show 1 ≤ 1 by decide) (show 6 ≤ 6 by decide) ⟨_, rfl, Is1, Gs1, Or.inr ⟨xx, rfl, by first | exact And.intro (hps1.1) (hps1.2) | omega⟩⟩
  obtain ⟨Is1, Fs1, (⟨hv, hps1⟩ | ⟨xx, hv, hps1⟩)⟩ := hq
  rotate_left
  · cases hv
  cases hv
  have Gs1 := fm_tq F Fs1 rfl rfl
  show WS k 8 [(0, .ref (A 0)), (1, .int (Int32.ofInt v))] [] (Wd A dT s1) 1 6
  exact w_vret X.1 q hRt (ax_d X (show cdA 182 8 = some (.return_, 1, 0, 0, 0) from rfl)) (show 1 ≤ 1 by decide) (show 6 ≤ 6 by decide) ⟨_, rfl, Is1, Gs1, Or.inl ⟨rfl, by first | exact ⟨hps1.1, hps1.2⟩ | omega⟩⟩
set_option maxRecDepth 4000 in
theorem cs_worth6 (G : GX l s0 D tys a0 dT) {U : AirD} (I : Bd s) (jAIR : AIR s) (jCPL : CPL s) (jCDJ : CDJ U s) (jPMJ : PMJ s) {u v : Int} (p0 : rng u) (p1 : rng v) : CT l s0 D A dT 174 (rmN 174) [.ref (A 0), .int (Int32.ofInt u), .int (Int32.ofInt v)] s (fun o t => Bd t ∧ Fm [22, 23, 24] [33, 26, 27, 28, 29, 30, 31, 32, 20, 36, 37, 35, 21, 1022, 1023] s t ∧ PMJ t ∧ ((∃ e, o = .inl (some (.int (Int32.ofInt e))) ∧ rng e ∧ (0 ≤ u ∧ u ≤ 127 ∧ 0 ≤ v ∧ v ≤ 7 ∧ iC s 21 u.toNat ≠ -1 ∧ iC s 21 u.toNat ≠ v ∧ SAM 21 s t ∧ WRE U (pfC s) u v e)) ∨ ∃ x : Nat, o = .inr (exN x) ∧ (((x = 2 ∧ (u < 0 ∨ 127 < u)) ∨ (x = 0 ∧ 0 ≤ u ∧ u ≤ 127 ∧ (v < 0 ∨ 7 < v ∨ iC s 21 u.toNat = -1 ∨ iC s 21 u.toNat = v))) ∧ SAM 21 s t))) := by
  refine ct_ofX G (by decide) (Nat.le_of_ble_eq_true rfl) (fun k X E ET hRt hXt q => ?_)
  show WS k 0 [(0, .ref (A 0)), (1, .int (Int32.ofInt u)), (2, .int (Int32.ofInt v))] [] _ 0 0
  have F : Fm [22, 23, 24] [33, 26, 27, 28, 29, 30, 31, 32, 20, 36, 37, 35, 21, 1022, 1023] s s := fm_rf _ _ s
  have aw0_21 : SAM 21 s s := sam_rf
  have I0 := I
  refine z_aload_n X (x := A 0) rfl (List.Mem.head _) (z_load_n X (x := u) rfl (List.Mem.tail _ (List.Mem.head _)) (z_callV X 0 (rm := rmN 181) (As := [.int (Int32.ofInt u)]) (st := []) rfl rfl (by decide) rfl (by rw [E.1, E.2.1, E.2.2.1]; exact cs_needCell6 G I (by first | exact ⟨p0.1, p0.2⟩ | omega)) ⟨by rw [E.2.2.2]; exact (show (rmN 181).frames + 1 ≤ (rmN 174).frames by decide), by rw [E.2.2.2]; exact (show 8 + (mNL (miB 181) + 11) + (rmN 181).locals ≤ (rmN 174).locals by decide), by rw [E.2.2.2]; exact (show 0 + 1 ≤ 3 by decide), by rw [E.2.2.2]; exact (show 0 + 6 ≤ 18 by decide)⟩ (Nat.le_of_ble_eq_true rfl) (fun vv s1 hq => ?_) (fun ee s1 hq => ?_)))
  rotate_left
  · obtain ⟨Is1, Fs1, (⟨hv, hps1⟩ | ⟨xx, hv, hps1⟩)⟩ := hq
    · cases hv
    · cases hv
      have Gs1 := fm_tq F Fs1 rfl rfl
      have JAIR_s1 : AIR s1 := AIR_fm Fs1 (by decide) jAIR
      have JCPL_s1 : CPL s1 := CPL_fm Fs1 (by decide) jCPL
      have JCDJ_s1 : CDJ U s1 := CDJ_fm Fs1 (by decide) jCDJ
      have JPMJ_s1 : PMJ s1 := PMJ_fm Fs1 (by decide) jPMJ
      have aws1_21 : SAM 21 s s1 := sam_ts aw0_21 (sam_fm Fs1 (by decide))
      exact x_out X.1 q (fun x hx => (hXt x hx).elim) (show 1 ≤ 3 by decide) (show 6 ≤ 18 by decide) ⟨_, rfl, Is1, Gs1, JPMJ_s1, Or.inr ⟨xx, rfl, ⟨by first | exact Or.inl (And.intro (hps1.1) (hps1.2)) | omega, aws1_21⟩⟩⟩
  obtain ⟨Is1, Fs1, (⟨hv, hps1⟩ | ⟨xx, hv, hps1⟩)⟩ := hq
  rotate_left
  · cases hv
  cases hv
  have Gs1 := fm_tq F Fs1 rfl rfl
  have JAIR_s1 : AIR s1 := AIR_fm Fs1 (by decide) jAIR
  have JCPL_s1 : CPL s1 := CPL_fm Fs1 (by decide) jCPL
  have JCDJ_s1 : CDJ U s1 := CDJ_fm Fs1 (by decide) jCDJ
  have JPMJ_s1 : PMJ s1 := PMJ_fm Fs1 (by decide) jPMJ
  have aws1_21 : SAM 21 s s1 := sam_ts aw0_21 (sam_fm Fs1 (by decide))
  show WS k 5 [(0, .ref (A 0)), (1, .int (Int32.ofInt u)), (2, .int (Int32.ofInt v))] [] (Wd A dT s1) 1 6
  refine z_aload_n X (x := A 0) rfl (List.Mem.head _) (z_load_n X (x := v) rfl (List.Mem.tail _ (List.Mem.tail _ (List.Mem.head _))) (z_callV X 0 (rm := rmN 182) (As := [.int (Int32.ofInt v)]) (st := []) rfl rfl (by decide) rfl (by rw [E.1, E.2.1, E.2.2.1]; exact cs_needPiece6 G Is1 (by first | exact ⟨p1.1, p1.2⟩ | omega)) ⟨by rw [E.2.2.2]; exact (show (rmN 182).frames + 1 ≤ (rmN 174).frames by decide), by rw [E.2.2.2]; exact (show 8 + (mNL (miB 182) + 11) + (rmN 182).locals ≤ (rmN 174).locals by decide), by rw [E.2.2.2]; exact (show 1 + 1 ≤ 3 by decide), by rw [E.2.2.2]; exact (show 6 + 6 ≤ 18 by decide)⟩ (Nat.le_of_ble_eq_true rfl) (fun vv s3 hq => ?_) (fun ee s3 hq => ?_)))
  rotate_left
  · obtain ⟨Is3, Fs3, (⟨hv, hps3⟩ | ⟨xx, hv, hps3⟩)⟩ := hq
    · cases hv
    · cases hv
      have Gs3 := fm_tq Gs1 Fs3 rfl rfl
      have JAIR_s3 : AIR s3 := AIR_fm Fs3 (by decide) JAIR_s1
      have JCPL_s3 : CPL s3 := CPL_fm Fs3 (by decide) JCPL_s1
      have JCDJ_s3 : CDJ U s3 := CDJ_fm Fs3 (by decide) JCDJ_s1
      have JPMJ_s3 : PMJ s3 := PMJ_fm Fs3 (by decide) JPMJ_s1
      have aws3_21 : SAM 21 s s3 := sam_ts aws1_21 (sam_fm Fs3 (by decide))
      exact x_out X.1 q (fun x hx => (hXt x hx).elim) (show (1 + 1) ≤ 3 by decide) (show (6 + 6) ≤ 18 by decide) ⟨_, rfl, Is3, Gs3, JPMJ_s3, Or.inr ⟨xx, rfl, ⟨by first | exact Or.inr (And.intro (hps3.1) (And.intro (hps1.1) (And.intro (hps1.2) (oq_7032dcce hps3.2)))) | (clear hps1; omega) | omega, aws3_21⟩⟩⟩
  obtain ⟨Is3, Fs3, (⟨hv, hps3⟩ | ⟨xx, hv, hps3⟩)⟩ := hq
  rotate_left
  · cases hv
  cases hv
  have Gs3 := fm_tq Gs1 Fs3 rfl rfl
  have JAIR_s3 : AIR s3 := AIR_fm Fs3 (by decide) JAIR_s1
  have JCPL_s3 : CPL s3 := CPL_fm Fs3 (by decide) JCPL_s1
  have JCDJ_s3 : CDJ U s3 := CDJ_fm Fs3 (by decide) JCDJ_s1
  have JPMJ_s3 : PMJ s3 := PMJ_fm Fs3 (by decide) JPMJ_s1
  have aws3_21 : SAM 21 s s3 := sam_ts aws1_21 (sam_fm Fs3 (by decide))
  show WS k 10 [(0, .ref (A 0)), (1, .int (Int32.ofInt u)), (2, .int (Int32.ofInt v))] [] (Wd A dT s3) (1 + 1) (6 + 6)
  refine z_aload_n X (x := A 0) rfl (List.Mem.head _) (s_getR X 0 rfl (c518_ok rfl) rfl rfl (s_getR X 25 rfl (c518_ok rfl) rfl rfl (z_load_n X (x := u) rfl (List.Mem.tail _ (List.Mem.head _)) (z_ald X 26 rfl (c518_ok rfl) rfl (by first | exact hps1.1 | omega) (show u < 128 by first | exact oq_31b2bf10 hps1.2 | omega) (cbig_ok rfl) ?_))))
  have b5 := bc_21 Is3 (show (u).toNat < 128 by first | exact oq_c7f4e9c1 hps1.2 | omega)
  have ar6 : iC s3 21 (u).toNat = iC s 21 (u).toNat := aws3_21 _
  refine z_store_n X (lv' := [(3, .int (Int32.ofInt (iC s3 21 (u).toNat))), (0, .ref (A 0)), (1, .int (Int32.ofInt u)), (2, .int (Int32.ofInt v))]) rfl (by decide) (fun _ h => h) ?_
  have hOl : pfC s (u : Int).toNat = (iC s3 21 (u).toNat) := (aws3_21 (u : Int).toNat).symm
  have hOm : iC s 21 (u : Int).toNat = (iC s3 21 (u).toNat) := hOl
  refine z_load_n X (x := (iC s3 21 (u).toNat)) rfl (List.Mem.head _) (z_const X rfl (z_icmp_eq X (t := 30) rfl rfl (rng_to _) (by decide) (fun g7 => ?_) (fun g7 => ?_)))
  ·
    exact z_throw G X E ET hXt q (st := []) rfl (by decide) (by decide) (Nat.le_of_ble_eq_true rfl) (show (1 + 1) + 1 ≤ 3 by decide) (show (6 + 6) + 6 ≤ 18 by decide) (show (1 + 1) + 1 ≤ 3 by decide) (show (6 + 6) + 6 ≤ 18 by decide) ⟨_, rfl, Is3, Gs3, JPMJ_s3, Or.inr ⟨0, rfl, ⟨by first | exact Or.inr (And.intro (rfl) (And.intro (hps1.1) (And.intro (hps1.2) (Or.inr (Or.inr (Or.inl (oq_bc238e02 g7 hOm))))))) | (clear hps3 hps1; omega) | (clear hps1; omega) | omega, aws3_21⟩⟩⟩
  ·
    refine z_load_n X (x := (iC s3 21 (u).toNat)) rfl (List.Mem.head _) (z_load_n X (x := v) rfl (List.Mem.tail _ (List.Mem.tail _ (List.Mem.tail _ (List.Mem.head _)))) (z_icmp_ne X (t := 41) rfl rfl (rng_to _) ⟨by first | exact p1.1 | omega, by first | exact p1.2 | omega⟩ (fun g8 => ?_) (fun g8 => ?_)))
    ·
      refine z_aload_n X (x := A 0) rfl (List.Mem.tail _ (List.Mem.head _)) (s_getR X 0 rfl (c518_ok rfl) rfl rfl (z_callV X 41 (rm := rmN 20) (As := []) (st := []) rfl rfl (by decide) rfl (by rw [E.1, E.2.1, E.2.2.1]; exact c2_measure3 G Is3 JAIR_s3 JCPL_s3 JCDJ_s3 JPMJ_s3 ) ⟨by rw [E.2.2.2]; exact (show (rmN 20).frames + 1 ≤ (rmN 174).frames by decide), by rw [E.2.2.2]; exact (show 8 + (mNL (miB 20) + 11) + (rmN 20).locals ≤ (rmN 174).locals by decide), by rw [E.2.2.2]; exact (show (1 + 1) + 0 ≤ 3 by decide), by rw [E.2.2.2]; exact (show (6 + 6) + 0 ≤ 18 by decide)⟩ (Nat.le_of_ble_eq_true rfl) (fun vv s9 hq => ?_) (fun ee s9 hq => ?_)))
      rotate_left
      · obtain ⟨Is9, Fs9, hv, hps9⟩ := hq; cases hv
      obtain ⟨Is9, Fs9, hv, hps9⟩ := hq
      cases hv
      have Gs9 := fm_tq Gs3 Fs9 rfl rfl
      have JAIR_s9 : AIR s9 := AIR_fm Fs9 (by decide) JAIR_s3
      have JCPL_s9 : CPL s9 := CPL_fm Fs9 (by decide) JCPL_s3
      have JCDJ_s9 : CDJ U s9 := CDJ_fm Fs9 (by decide) JCDJ_s3
      have JPMJ_s9 : PMJ s9 := PMJ_fm Fs9 (by decide) JPMJ_s3
      have aws9_21 : SAM 21 s s9 := sam_ts aws3_21 (sam_fm Fs9 (by decide))
      show WS k 48 [(3, .int (Int32.ofInt (iC s3 21 (u).toNat))), (0, .ref (A 0)), (1, .int (Int32.ofInt u)), (2, .int (Int32.ofInt v))] [] (Wd A dT s9) (1 + 1) (6 + 6)
      have hP0 : pfC s3 = pfC s := funext aws3_21
      refine z_aload_n X (x := A 0) rfl (List.Mem.tail _ (List.Mem.head _)) (s_getR X 0 rfl (c518_ok rfl) rfl rfl (z_callV X 41 (rm := rmN 22) (As := []) (st := []) rfl rfl (by decide) rfl (by rw [E.1, E.2.1, E.2.2.1]; exact c2_price3 G Is9 JAIR_s9 JCDJ_s9 ) ⟨by rw [E.2.2.2]; exact (show (rmN 22).frames + 1 ≤ (rmN 174).frames by decide), by rw [E.2.2.2]; exact (show 8 + (mNL (miB 22) + 11) + (rmN 22).locals ≤ (rmN 174).locals by decide), by rw [E.2.2.2]; exact (show (1 + 1) + 0 ≤ 3 by decide), by rw [E.2.2.2]; exact (show (6 + 6) + 0 ≤ 18 by decide)⟩ (Nat.le_of_ble_eq_true rfl) (fun vv s11 hq => ?_) (fun ee s11 hq => ?_)))
      rotate_left
      · obtain ⟨Is11, Fs11, e12, hv, hrs11, hps11⟩ := hq; cases hv
      obtain ⟨Is11, Fs11, e12, hv, hrs11, hps11⟩ := hq
      cases hv
      have Gs11 := fm_tq Gs9 Fs11 rfl rfl
      have JAIR_s11 : AIR s11 := AIR_fm Fs11 (by decide) JAIR_s9
      have JCPL_s11 : CPL s11 := CPL_fm Fs11 (by decide) JCPL_s9
      have JCDJ_s11 : CDJ U s11 := CDJ_fm Fs11 (by decide) JCDJ_s9
      have JPMJ_s11 : PMJ s11 := PMJ_fm Fs11 (by decide) JPMJ_s9
      have aws11_21 : SAM 21 s s11 := sam_ts aws9_21 (sam_fm Fs11 (by decide))
      show WS k 55 [(3, .int (Int32.ofInt (iC s3 21 (u).toNat))), (0, .ref (A 0)), (1, .int (Int32.ofInt u)), (2, .int (Int32.ofInt v))] [.int (Int32.ofInt e12)] (Wd A dT s11) (1 + 1) (6 + 6)
      have hC1 : CST U (pfC s) e12 := pn_cst (u_wok JAIR_s9 JCDJ_s9) (fun j hj => I0.2 21 j hj) (by have z := hps9; rw [hP0] at z; exact z) hps11
      refine z_store X (lv' := [(4, .int (Int32.ofInt e12)), (3, .int (Int32.ofInt (iC s3 21 (u).toNat))), (0, .ref (A 0)), (1, .int (Int32.ofInt u)), (2, .int (Int32.ofInt v))]) rfl (by decide) (fun _ h => h) (z_aload_n X (x := A 0) rfl (List.Mem.tail _ (List.Mem.tail _ (List.Mem.head _))) (s_getR X 0 rfl (c518_ok rfl) rfl rfl (z_load_n X (x := u) rfl (List.Mem.tail _ (List.Mem.tail _ (List.Mem.tail _ (List.Mem.head _)))) (z_load_n X (x := v) rfl (List.Mem.tail _ (List.Mem.tail _ (List.Mem.tail _ (List.Mem.tail _ (List.Mem.head _))))) (z_callV X 25 (rm := rmN 28) (As := [.int (Int32.ofInt u), .int (Int32.ofInt v)]) (st := []) rfl rfl (by decide) rfl (by rw [E.1, E.2.1, E.2.2.1]; exact c3_put3 G Is11 JPMJ_s11 (by first | exact ⟨hps1.1, hps1.2⟩ | omega) (by first | exact ⟨oq_ca54ea22 hps3.1, hps3.2⟩ | omega)) ⟨by rw [E.2.2.2]; exact (show (rmN 28).frames + 1 ≤ (rmN 174).frames by decide), by rw [E.2.2.2]; exact (show 8 + (mNL (miB 28) + 11) + (rmN 28).locals ≤ (rmN 174).locals by decide), by rw [E.2.2.2]; exact (show (1 + 1) + 0 ≤ 3 by decide), by rw [E.2.2.2]; exact (show (6 + 6) + 0 ≤ 18 by decide)⟩ (Nat.le_of_ble_eq_true rfl) (fun vv s13 hq => ?_) (fun ee s13 hq => ?_))))))
      rotate_left
      · obtain ⟨Is13, Fs13, JPMJ_s13, e14, hv, hrs13, hps13⟩ := hq; cases hv
      obtain ⟨Is13, Fs13, JPMJ_s13, e14, hv, hrs13, hps13⟩ := hq
      cases hv
      have Gs13 := fm_tq Gs11 Fs13 rfl rfl
      have JAIR_s13 : AIR s13 := AIR_fm Fs13 (by decide) JAIR_s11
      have JCPL_s13 : CPL s13 := CPL_fm Fs13 (by decide) JCPL_s11
      have JCDJ_s13 : CDJ U s13 := CDJ_fm Fs13 (by decide) JCDJ_s11
      show WS k 66 [(4, .int (Int32.ofInt e12)), (3, .int (Int32.ofInt (iC s3 21 (u).toNat))), (0, .ref (A 0)), (1, .int (Int32.ofInt u)), (2, .int (Int32.ofInt v))] [.int (Int32.ofInt e14)] (Wd A dT s13) (1 + 1) (6 + 6)
      have hP1 : pfC s13 = (upF (pfC s) (u : Int).toNat v) := by rw [upf_upd hps13.2, show pfC s11 = pfC s from funext aws11_21]
      refine w_pop X.1 (ax_d X (show cdA 174 66 = some (.pop, 1, 0, 0, 0) from rfl)) rfl (z_aload_n X (x := A 0) rfl (List.Mem.tail _ (List.Mem.tail _ (List.Mem.head _))) (s_getR X 0 rfl (c518_ok rfl) rfl rfl (z_callV X 41 (rm := rmN 20) (As := []) (st := []) rfl rfl (by decide) rfl (by rw [E.1, E.2.1, E.2.2.1]; exact c2_measure3 G Is13 JAIR_s13 JCPL_s13 JCDJ_s13 JPMJ_s13 ) ⟨by rw [E.2.2.2]; exact (show (rmN 20).frames + 1 ≤ (rmN 174).frames by decide), by rw [E.2.2.2]; exact (show 8 + (mNL (miB 20) + 11) + (rmN 20).locals ≤ (rmN 174).locals by decide), by rw [E.2.2.2]; exact (show (1 + 1) + 0 ≤ 3 by decide), by rw [E.2.2.2]; exact (show (6 + 6) + 0 ≤ 18 by decide)⟩ (Nat.le_of_ble_eq_true rfl) (fun vv s15 hq => ?_) (fun ee s15 hq => ?_))))
      rotate_left
      · obtain ⟨Is15, Fs15, hv, hps15⟩ := hq; cases hv
      obtain ⟨Is15, Fs15, hv, hps15⟩ := hq
      cases hv
      have Gs15 := fm_tq Gs13 Fs15 rfl rfl
      have JAIR_s15 : AIR s15 := AIR_fm Fs15 (by decide) JAIR_s13
      have JCDJ_s15 : CDJ U s15 := CDJ_fm Fs15 (by decide) JCDJ_s13
      have JPMJ_s15 : PMJ s15 := PMJ_fm Fs15 (by decide) JPMJ_s13
      have aws15_21 : SAM 21 s13 s15 := sam_ts (sam_rf (a := 21) (s := s13)) (sam_fm Fs15 (by decide))
      show WS k 74 [(4, .int (Int32.ofInt e12)), (3, .int (Int32.ofInt (iC s3 21 (u).toNat))), (0, .ref (A 0)), (1, .int (Int32.ofInt u)), (2, .int (Int32.ofInt v))] [] (Wd A dT s15) (1 + 1) (6 + 6)
      refine z_aload_n X (x := A 0) rfl (List.Mem.tail _ (List.Mem.tail _ (List.Mem.head _))) (s_getR X 0 rfl (c518_ok rfl) rfl rfl (z_callV X 41 (rm := rmN 22) (As := []) (st := []) rfl rfl (by decide) rfl (by rw [E.1, E.2.1, E.2.2.1]; exact c2_price3 G Is15 JAIR_s15 JCDJ_s15 ) ⟨by rw [E.2.2.2]; exact (show (rmN 22).frames + 1 ≤ (rmN 174).frames by decide), by rw [E.2.2.2]; exact (show 8 + (mNL (miB 22) + 11) + (rmN 22).locals ≤ (rmN 174).locals by decide), by rw [E.2.2.2]; exact (show (1 + 1) + 0 ≤ 3 by decide), by rw [E.2.2.2]; exact (show (6 + 6) + 0 ≤ 18 by decide)⟩ (Nat.le_of_ble_eq_true rfl) (fun vv s17 hq => ?_) (fun ee s17 hq => ?_)))
      rotate_left
      · obtain ⟨Is17, Fs17, e18, hv, hrs17, hps17⟩ := hq; cases hv
      obtain ⟨Is17, Fs17, e18, hv, hrs17, hps17⟩ := hq
      cases hv
      have Gs17 := fm_tq Gs15 Fs17 rfl rfl
      have JPMJ_s17 : PMJ s17 := PMJ_fm Fs17 (by decide) JPMJ_s15
      have aws17_21 : SAM 21 s13 s17 := sam_ts aws15_21 (sam_fm Fs17 (by decide))
      show WS k 81 [(4, .int (Int32.ofInt e12)), (3, .int (Int32.ofInt (iC s3 21 (u).toNat))), (0, .ref (A 0)), (1, .int (Int32.ofInt u)), (2, .int (Int32.ofInt v))] [.int (Int32.ofInt e18)] (Wd A dT s17) (1 + 1) (6 + 6)
      have hC2 : CST U (upF (pfC s) (u : Int).toNat v) e18 := pn_cst (u_wok JAIR_s15 JCDJ_s15) (fun j hj => upf_r (fun j hj => I0.2 21 j hj) (by first | exact And.intro (oq_ca54ea22 hps3.1) (hps3.2) | (clear hps17 hps11 g8 g7 hps3 hps1; omega) | (clear hps11 g8 g7 hps3 hps1; omega) | omega) j hj) (by have z := hps15; rw [hP1] at z; exact z) hps17
      refine z_store X (lv' := [(5, .int (Int32.ofInt e18)), (4, .int (Int32.ofInt e12)), (3, .int (Int32.ofInt (iC s3 21 (u).toNat))), (0, .ref (A 0)), (1, .int (Int32.ofInt u)), (2, .int (Int32.ofInt v))]) rfl (by decide) (fun _ h => h) (z_aload_n X (x := A 0) rfl (List.Mem.tail _ (List.Mem.tail _ (List.Mem.tail _ (List.Mem.head _)))) (s_getR X 0 rfl (c518_ok rfl) rfl rfl (z_load_n X (x := u) rfl (List.Mem.tail _ (List.Mem.tail _ (List.Mem.tail _ (List.Mem.tail _ (List.Mem.head _))))) (z_load_n X (x := (iC s3 21 (u).toNat)) rfl (List.Mem.tail _ (List.Mem.tail _ (List.Mem.head _))) (z_callV X 25 (rm := rmN 28) (As := [.int (Int32.ofInt u), .int (Int32.ofInt (iC s3 21 (u).toNat))]) (st := []) rfl rfl (by decide) rfl (by rw [E.1, E.2.1, E.2.2.1]; exact c3_put3 G Is17 JPMJ_s17 (by first | exact ⟨hps1.1, hps1.2⟩ | omega) (by first | exact ⟨b5.1, b5.2⟩ | omega)) ⟨by rw [E.2.2.2]; exact (show (rmN 28).frames + 1 ≤ (rmN 174).frames by decide), by rw [E.2.2.2]; exact (show 8 + (mNL (miB 28) + 11) + (rmN 28).locals ≤ (rmN 174).locals by decide), by rw [E.2.2.2]; exact (show (1 + 1) + 0 ≤ 3 by decide), by rw [E.2.2.2]; exact (show (6 + 6) + 0 ≤ 18 by decide)⟩ (Nat.le_of_ble_eq_true rfl) (fun vv s19 hq => ?_) (fun ee s19 hq => ?_))))))
      rotate_left
      · obtain ⟨Is19, Fs19, JPMJ_s19, e20, hv, hrs19, hps19⟩ := hq; cases hv
      obtain ⟨Is19, Fs19, JPMJ_s19, e20, hv, hrs19, hps19⟩ := hq
      cases hv
      have Gs19 := fm_tq Gs17 Fs19 rfl rfl
      show WS k 92 [(5, .int (Int32.ofInt e18)), (4, .int (Int32.ofInt e12)), (3, .int (Int32.ofInt (iC s3 21 (u).toNat))), (0, .ref (A 0)), (1, .int (Int32.ofInt u)), (2, .int (Int32.ofInt v))] [.int (Int32.ofInt e20)] (Wd A dT s19) (1 + 1) (6 + 6)
      have hPe : pfC s19 = pfC s := by rw [upf_upd hps19.2, (show pfC s17 = (upF (pfC s) (u : Int).toNat v) from (funext aws17_21).trans hP1), upf_up]; exact upf_id hOl
      refine w_pop X.1 (ax_d X (show cdA 174 92 = some (.pop, 1, 0, 0, 0) from rfl)) rfl (z_load X (x := e12) rfl (List.Mem.tail _ (List.Mem.head _)) (z_load X (x := e18) rfl (List.Mem.head _) (z_sub X rfl (z_anyV (fun y21 hy21 ey21 => ?_)))))
      exact w_iret X.1 q hRt rfl (ax_d X (show cdA 174 98 = some (.ireturn, 1, 0, 0, 0) from rfl)) (show (1 + 1) ≤ 3 by decide) (show (6 + 6) ≤ 18 by decide) ⟨_, rfl, Is19, Gs19, JPMJ_s19, Or.inl ⟨y21, rfl, hy21, ⟨by first | exact hps1.1 | omega, by first | exact hps1.2 | omega, by first | exact hps3.1 | omega, by first | exact hps3.2 | omega, by first | exact oq_fe1bb175 g7 hOm b5.1 | omega, by first | exact oq_bd8ffc1e g8 hOm | omega, (fun j => congrFun hPe j), ⟨hy21, _, _, hC1, hC2, ey21⟩⟩⟩⟩
    ·
      exact z_throw G X E ET hXt q (st := []) rfl (by decide) (by decide) (Nat.le_of_ble_eq_true rfl) (show (1 + 1) + 1 ≤ 3 by decide) (show (6 + 6) + 6 ≤ 18 by decide) (show (1 + 1) + 1 ≤ 3 by decide) (show (6 + 6) + 6 ≤ 18 by decide) ⟨_, rfl, Is3, Gs3, JPMJ_s3, Or.inr ⟨0, rfl, ⟨by first | exact Or.inr (And.intro (rfl) (And.intro (hps1.1) (And.intro (hps1.2) (Or.inr (Or.inr (Or.inr (oq_27118732 g8 hOm))))))) | (clear g7 hps3 hps1; omega) | (clear hps3 hps1; omega) | omega, aws3_21⟩⟩⟩
set_option maxRecDepth 4000 in
theorem lw_worth6 (G : GX l s0 D tys a0 dT) {U : AirD} (I : Bd s) (jAIR : AIR s) (jCPL : CPL s) (jCDJ : CDJ U s) (jPMJ : PMJ s) {u v : Int} (p0 : rng u) (p1 : rng v) : CTL l s0 D A dT 348 (rmN 348) [.ref (A 0), .int (Int32.ofInt u), .int (Int32.ofInt v), .ref (A 517)] s (fun o t => Bd t ∧ Fm [22, 23, 24] [33, 26, 27, 28, 29, 30, 31, 32, 20, 36, 37, 35, 21, 1022, 1023, 1460] s t ∧ PMJ t ∧ ∃ e, o = .inl (some (.int (Int32.ofInt e))) ∧ rng e ∧ ((e = 0 ∧ 0 ≤ u ∧ u ≤ 127 ∧ 0 ≤ v ∧ v ≤ 7 ∧ iC s 21 u.toNat ≠ -1 ∧ iC s 21 u.toNat ≠ v ∧ SAM 21 s t ∧ WRE U (pfC s) u v (iO t)) ∨ ((e = 1 ∧ (u < 0 ∨ 127 < u) ∨ e = 2 ∧ 0 ≤ u ∧ u ≤ 127 ∧ (v < 0 ∨ 7 < v ∨ iC s 21 u.toNat = -1 ∨ iC s 21 u.toNat = v)) ∧ SAM 21 s t))) := by
  refine ctL_of G (by decide) (Nat.le_of_ble_eq_true rfl) (by decide) rfl (fun k X E ET hRt hEx q => ?_)
  show WS k 0 [(0, .ref (A 0)), (1, .int (Int32.ofInt u)), (2, .int (Int32.ofInt v)), (3, .ref (A 517))] [] _ 0 0
  have F : Fm [22, 23, 24] [33, 26, 27, 28, 29, 30, 31, 32, 20, 36, 37, 35, 21, 1022, 1023, 1460] s s := fm_rf _ _ s
  have hA := swA_rf A
  refine z_aload_n X (x := A 517) rfl (List.Mem.tail _ (List.Mem.tail _ (List.Mem.tail _ (List.Mem.head _)))) (z_const X rfl (z_aload_n X (x := A 0) rfl (List.Mem.head _) (z_load_n X (x := u) rfl (List.Mem.tail _ (List.Mem.head _)) (z_load_n X (x := v) rfl (List.Mem.tail _ (List.Mem.tail _ (List.Mem.head _))) (z_callV X 0 (rm := rmN 174) (As := [.int (Int32.ofInt u), .int (Int32.ofInt v)]) (st := [.int (Int32.ofInt 0), .ref (A 517)]) rfl rfl (by decide) rfl (by rw [E.1, E.2.1, E.2.2.1]; exact cs_worth6 G I jAIR jCPL jCDJ jPMJ (by first | exact And.intro (p0.1) (p0.2) | omega) (by first | exact And.intro (p1.1) (p1.2) | omega)) ⟨by rw [E.2.2.2]; exact (show (rmN 174).frames + 1 ≤ (rmN 348).frames by decide), by rw [E.2.2.2]; exact (show 8 + (mNL (miB 174) + 11) + (rmN 174).locals ≤ (rmN 348).locals by decide), by rw [E.2.2.2]; exact (show 0 + (rmN 174).cells ≤ (rmN 348).cells by decide), by rw [E.2.2.2]; exact (show 0 + (rmN 174).slots ≤ (rmN 348).slots by decide)⟩ (Nat.le_of_ble_eq_true rfl) (fun vv s1 hq => ?_) (fun ee s1 hq => ?_))))))
  rotate_left
  · obtain ⟨Is1, Fs1, JPMJ_s1, (⟨e2, hv, hrs1, hps1⟩ | ⟨xx, hv, hps1⟩)⟩ := hq
    · cases hv
    · cases hv
      rcases (show xx = 0 ∨ xx = 2 by first | exact oq_f984046d hps1.1 | omega) with gx | gx
      ·
        subst gx
        have Gs1 := fm_tq F Fs1 rfl rfl
        refine (hEx 5 0).2 17 rfl _ _ _ _ _ (fun q1 => ?_)
        show WS k 17 [(0, .ref (A 0)), (1, .int (Int32.ofInt u)), (2, .int (Int32.ofInt v)), (3, .ref (A 517))] [.ref q1] (Wd A dT s1) 3 18
        refine z_astore X (lv' := [(4, .ref q1), (0, .ref (A 0)), (1, .int (Int32.ofInt u)), (2, .int (Int32.ofInt v)), (3, .ref (A 517))]) rfl (by decide) (fun _ h => h) (z_const X rfl ?_)
        exact w_iret X.1 q hRt rfl (ax_d X (show cdA 348 20 = some (.ireturn, 1, 0, 0, 0) from rfl)) (show 3 ≤ 3 by decide) (show 18 ≤ 18 by decide) ⟨A, _, hA, rfl, Is1, Gs1, JPMJ_s1, 2, rfl, (by decide), Or.inr ⟨by first | exact Or.inr (And.intro (rfl) (And.intro (oq_b1f01e6c hps1.1) (And.intro (oq_2b91e4e3 hps1.1) (oq_91e007eb hps1.1)))) | omega, hps1.2⟩⟩
      ·
        subst gx
        have Gs1 := fm_tq F Fs1 rfl rfl
        refine (hEx 5 2).2 13 rfl _ _ _ _ _ (fun q1 => ?_)
        show WS k 13 [(0, .ref (A 0)), (1, .int (Int32.ofInt u)), (2, .int (Int32.ofInt v)), (3, .ref (A 517))] [.ref q1] (Wd A dT s1) 3 18
        refine z_astore X (lv' := [(4, .ref q1), (0, .ref (A 0)), (1, .int (Int32.ofInt u)), (2, .int (Int32.ofInt v)), (3, .ref (A 517))]) rfl (by decide) (fun _ h => h) (z_const X rfl ?_)
        exact w_iret X.1 q hRt rfl (ax_d X (show cdA 348 16 = some (.ireturn, 1, 0, 0, 0) from rfl)) (show 3 ≤ 3 by decide) (show 18 ≤ 18 by decide) ⟨A, _, hA, rfl, Is1, Gs1, JPMJ_s1, 1, rfl, (by decide), Or.inr ⟨by first | exact Or.inl (And.intro (rfl) (oq_dae17163 hps1.1)) | omega, hps1.2⟩⟩
  obtain ⟨Is1, Fs1, JPMJ_s1, (⟨e2, hv, hrs1, hps1⟩ | ⟨xx, hv, hps1⟩)⟩ := hq
  rotate_left
  · cases hv
  cases hv
  have Gs1 := fm_tq F Fs1 rfl rfl
  show WS k 8 [(0, .ref (A 0)), (1, .int (Int32.ofInt u)), (2, .int (Int32.ofInt v)), (3, .ref (A 517))] [.int (Int32.ofInt e2), .int (Int32.ofInt 0), .ref (A 517)] (Wd A dT s1) 3 18
  refine w_i2l X.1 (ax_d X (show cdA 348 8 = some (.i2l, 1, 0, 0, 0) from rfl)) (z_last X 517 rfl (c518_ok rfl) rfl (by first | exact oq_0fe6b7e2 | (clear hps1; omega) | omega) (show 0 < 1 by first | exact oq_e5adbe74 | (clear hps1; omega) | omega) (cbig_ok rfl) (wd_gen (fun s3 hs3 => ?_)))
  have Is3 : Bd s3 := eqB hs3 (bd_D Is1)
  have Fs3 : Fm [22, 23, 24] [33, 26, 27, 28, 29, 30, 31, 32, 20, 36, 37, 35, 21, 1022, 1023, 1460] s s3 := by rw [hs3]; exact fm_D Gs1 (show 460 + 1000 ∈ _ by decide)
  have JPMJ_s3 : PMJ s3 := PMJ_fm (L := []) (M := [1460]) (by rw [hs3]; exact fm_D (fm_rf _ _ _) (show 460 + 1000 ∈ _ by decide)) (by decide) JPMJ_s1
  have oos3 : iO s3 = e2 := by rw [hs3]; exact iO_u (by first | exact And.intro (hrs1.1) (hrs1.2) | (clear hps1; omega) | omega)
  refine z_goto X (t := 21) rfl rfl (z_const X rfl ?_)
  exact w_iret X.1 q hRt rfl (ax_d X (show cdA 348 22 = some (.ireturn, 1, 0, 0, 0) from rfl)) (show 3 ≤ 3 by decide) (show 18 ≤ 18 by decide) ⟨A, _, hA, rfl, Is3, Fs3, JPMJ_s3, 0, rfl, (by decide), Or.inl ⟨by decide, by first | exact hps1.1 | (clear hps1; omega) | omega, by first | exact hps1.2.1 | (clear hps1; omega) | omega, by first | exact hps1.2.2.1 | (clear hps1; omega) | omega, by first | exact hps1.2.2.2.1 | (clear hps1; omega) | omega, by first | exact hps1.2.2.2.2.1 | (clear hps1; omega) | omega, by first | exact hps1.2.2.2.2.2.1 | (clear hps1; omega) | omega, sam_ts hps1.2.2.2.2.2.2.1 (fun j => by rw [hs3]; rfl), by rw [show iO s3 = e2 by first | exact oos3 | (clear hps1; omega) | omega]; exact hps1.2.2.2.2.2.2.2⟩⟩
set_option maxRecDepth 4000 in
theorem k_worth6 (G : GX l s0 D tys a0 dT) {U : AirD} (I : Bd s) (jRLx : RLx s) (jMDJ : MDJ U s) {x y : Int} (p0 : rng x) (p1 : rng y) (p2 : iI s 89 = 1) : CT l s0 D A dT 291 (rmN 291) [.ref (A 179), .int (Int32.ofInt x), .int (Int32.ofInt y)] s (fun o t => Bd t ∧ Fm [73, 77, 75, 78, 79, 80, 81] [202, 204, 205, 206, 207, 208, 209, 210, 211, 212, 213, 214, 215, 216, 217, 218, 219, 220, 221, 222, 223, 224, 225, 226, 227, 203, 161, 230, 233, 228] s t ∧ RLx t ∧ ∃ e, o = .inl (some (.int (Int32.ofInt e))) ∧ rng e ∧ ((0 ≤ x ∧ x ≤ 127 ∧ 0 ≤ y ∧ y ≤ 7 ∧ iC s 228 x.toNat ≠ -1 ∧ iC s 228 x.toNat ≠ y ∧ iI t 73 = 0 ∧ SAM 228 s t ∧ WRE U (pfM s) x y e) ∨ (((x < 0 ∨ 127 < x) ∧ iI t 73 = 1 ∨ (0 ≤ x ∧ x ≤ 127 ∧ (y < 0 ∨ 7 < y ∨ iC s 228 x.toNat = -1 ∨ iC s 228 x.toNat = y)) ∧ iI t 73 = 2) ∧ SAM 228 s t))) := by
  refine ct_of G (by decide) (Nat.le_of_ble_eq_true rfl) (fun k X E hRt hXt q => ?_)
  show WS k 0 [(0, .ref (A 179)), (1, .int (Int32.ofInt x)), (2, .int (Int32.ofInt y))] [] _ 0 0
  have F : Fm [73, 77, 75, 78, 79, 80, 81] [202, 204, 205, 206, 207, 208, 209, 210, 211, 212, 213, 214, 215, 216, 217, 218, 219, 220, 221, 222, 223, 224, 225, 226, 227, 203, 161, 230, 233, 228] s s := fm_rf _ _ s
  have aw0_228 : SAM 228 s s := sam_rf
  have b1 := bi_73 I
  have b2 := bi_89 I
  refine z_aload_n X (x := A 179) rfl (List.Mem.head _) (z_const X rfl (s_putI X 179 rfl (c518_ok rfl) rfl rfl (by decide) rfl rfl rfl (wd_gen (fun s3 hs3 => ?_))))
  have Is3 : Bd s3 := eqB hs3 (bd_I I (show (0 : Int) ≤ 0 ∧ 0 ≤ 3 by first | exact ⟨by decide, by decide⟩ | omega) (by decide))
  have Fs3 := eqF hs3 (fm_I F (inl_ok (a := 73) rfl))
  have vs3 : iI s3 73 = 0 := eqI hs3 (iI_u (by decide))
  have ws3_89 : iI s3 89 = iI s 89 := eqI hs3 rfl
  have aws3_228 : SAM 228 s s3 := by rw [hs3]; exact aw0_228
  have fs3 : Fm [73] [] s s3 := by rw [hs3]; exact fm_I (fm_rf _ _ _) (show 73 ∈ _ by decide)
  have JRLx_s3 : RLx s3 := RLx_fm fs3 (by decide) jRLx
  have JMDJ_s3 : MDJ U s3 := MDJ_fm fs3 (by decide) jMDJ
  refine z_aload_n X (x := A 179) rfl (List.Mem.head _) (z_load_n X (x := x) rfl (List.Mem.tail _ (List.Mem.head _)) (z_const X rfl (z_bipush X rfl (z_callS X (rm := rmN 188) (As := [.int (Int32.ofInt x), .int (Int32.ofInt 0), .int (Int32.ofInt 127)]) (st := [.ref (A 179)]) rfl rfl (by rw [E.1, E.2.1, E.2.2.1]; exact k_in2 G Is3 (by first | exact ⟨p0.1, p0.2⟩ | omega) (by first | exact ⟨by decide, by decide⟩ | omega) (by first | exact ⟨by decide, by decide⟩ | omega)) ⟨by rw [E.2.2.2]; exact (show (rmN 188).frames + 1 ≤ (rmN 291).frames by decide), by rw [E.2.2.2]; exact (show 8 + (mNL (miB 188) + 11) + (rmN 188).locals ≤ (rmN 291).locals by decide), by rw [E.2.2.2]; exact (show 0 + (rmN 188).cells ≤ (rmN 291).cells by decide), by rw [E.2.2.2]; exact (show 0 + (rmN 188).slots ≤ (rmN 291).slots by decide)⟩ (Nat.le_of_ble_eq_true rfl) (fun vv s4 hq => ?_) (fun ee s4 hq => ?_)))))
  rotate_left
  · obtain ⟨rfl, e5, hv, hrs4, hps4⟩ := hq; cases hv
  obtain ⟨rfl, e5, hv, hrs4, hps4⟩ := hq
  cases hv
  show WS k 13 [(0, .ref (A 179)), (1, .int (Int32.ofInt x)), (2, .int (Int32.ofInt y))] [.int (Int32.ofInt e5), .ref (A 179)] (Wd A dT s3) 0 0
  refine z_if_ne X (t := 20) rfl rfl hrs4 (fun g6 => ?_) (fun g6 => ?_)
  ·
    refine z_const X rfl (z_const X rfl (zcV_i0 X E 179 (As := [.int (Int32.ofInt 0), .int (Int32.ofInt 1)]) (st := []) rfl rfl rfl rfl (k_bad2 G Is3 (by first | exact Or.inl (by decide) | omega) (by first | exact ⟨by decide, by decide⟩ | omega)) rfl (Nat.le_of_ble_eq_true rfl) (fun s7 e8 Is7 Fs7 hrs7 hps7 => ?_)))
    have Gs7 := fm_tq Fs3 Fs7 rfl rfl
    have JRLx_s7 : RLx s7 := RLx_fm Fs7 (by decide) JRLx_s3
    have JMDJ_s7 : MDJ U s7 := MDJ_fm Fs7 (by decide) JMDJ_s3
    have b9 := bi_73 Is7
    have ws7_89 : iI s7 89 = iI s3 89 := fm_iq Fs7 rfl
    have aws7_228 : SAM 228 s s7 := sam_ts aws3_228 (sam_fm Fs7 (by decide))
    refine z_if_ne X (t := 71) rfl rfl hrs7 (fun g10 => ?_) (fun g10 => ?_)
    ·
      refine z_const X rfl ?_
      exact w_iret X.1 q hRt rfl (ax_d X (show cdA 291 72 = some (.ireturn, 1, 0, 0, 0) from rfl)) (Nat.zero_le _) (Nat.zero_le _) ⟨_, rfl, Is7, Gs7, JRLx_s7, 0, rfl, (by decide), Or.inr ⟨by first | exact oq_288d4371 g10 hps7 vs3 | exact Or.inl (And.intro (Or.inl (oq_22c60b3d g10 hps7 vs3)) (oq_d8ebe12c g10 hps7 vs3)) | omega, aws7_228⟩⟩
    ·
      refine z_aload_n X (x := A 179) rfl (List.Mem.head _) (z_load_n X (x := y) rfl (List.Mem.tail _ (List.Mem.tail _ (List.Mem.head _))) (z_const X rfl (z_bipush X rfl (z_callS X (rm := rmN 188) (As := [.int (Int32.ofInt y), .int (Int32.ofInt 0), .int (Int32.ofInt 7)]) (st := [.ref (A 179)]) rfl rfl (by rw [E.1, E.2.1, E.2.2.1]; exact k_in2 G Is7 (by first | exact ⟨p1.1, p1.2⟩ | omega) (by first | exact ⟨by decide, by decide⟩ | omega) (by first | exact ⟨by decide, by decide⟩ | omega)) ⟨by rw [E.2.2.2]; exact (show (rmN 188).frames + 1 ≤ (rmN 291).frames by decide), by rw [E.2.2.2]; exact (show 8 + (mNL (miB 188) + 11) + (rmN 188).locals ≤ (rmN 291).locals by decide), by rw [E.2.2.2]; exact (show 0 + (rmN 188).cells ≤ (rmN 291).cells by decide), by rw [E.2.2.2]; exact (show 0 + (rmN 188).slots ≤ (rmN 291).slots by decide)⟩ (Nat.le_of_ble_eq_true rfl) (fun vv s11 hq => ?_) (fun ee s11 hq => ?_)))))
      rotate_left
      · obtain ⟨rfl, e12, hv, hrs11, hps11⟩ := hq; cases hv
      obtain ⟨rfl, e12, hv, hrs11, hps11⟩ := hq
      cases hv
      show WS k 36 [(0, .ref (A 179)), (1, .int (Int32.ofInt x)), (2, .int (Int32.ofInt y))] [.int (Int32.ofInt e12), .ref (A 179)] (Wd A dT s7) 0 0
      refine z_if_eq X (t := 59) rfl rfl hrs11 (fun g13 => ?_) (fun g13 => ?_)
      ·
        refine z_const X rfl (z_goto X (t := 64) rfl rfl (z_const X rfl (zcV_i0 X E 179 (As := [.int (Int32.ofInt 1), .int (Int32.ofInt 2)]) (st := []) rfl rfl rfl rfl (k_bad2 G Is7 (by first | exact Or.inr (by decide) | omega) (by first | exact ⟨by decide, by decide⟩ | omega)) rfl (Nat.le_of_ble_eq_true rfl) (fun s14 e15 Is14 Fs14 hrs14 hps14 => ?_))))
        have Gs14 := fm_tq Gs7 Fs14 rfl rfl
        have JRLx_s14 : RLx s14 := RLx_fm Fs14 (by decide) JRLx_s7
        have JMDJ_s14 : MDJ U s14 := MDJ_fm Fs14 (by decide) JMDJ_s7
        have b16 := bi_73 Is14
        have ws14_89 : iI s14 89 = iI s7 89 := fm_iq Fs14 rfl
        have aws14_228 : SAM 228 s s14 := sam_ts aws7_228 (sam_fm Fs14 (by decide))
        refine z_if_eq X (t := 73) rfl rfl hrs14 (fun g17 => ?_) (fun g17 => ?_)
        ·
          refine z_aload_n X (x := A 179) rfl (List.Mem.head _) (zcV_i1 X E 179 (As := []) (st := []) rfl rfl rfl rfl (k_costOf3 G Is14 JRLx_s14 JMDJ_s14 (by first | exact oq_29301542 ws14_89 ws7_89 ws3_89 p2 b2.1 | omega)) rfl (Nat.le_of_ble_eq_true rfl) (fun s18 e19 Is18 Fs18 JRLx_s18 hrs18 hps18 => ?_))
          have Gs18 := fm_tq Gs14 Fs18 rfl rfl
          have JRLx_s18 : RLx s18 := RLx_fm Fs18 (by decide) JRLx_s14
          have JMDJ_s18 : MDJ U s18 := MDJ_fm Fs18 (by decide) JMDJ_s14
          have ws18_73 : iI s18 73 = iI s14 73 := fm_iq Fs18 rfl
          have ws18_89 : iI s18 89 = iI s14 89 := fm_iq Fs18 rfl
          have aws18_228 : SAM 228 s s18 := sam_ts aws14_228 (sam_fm Fs18 (by decide))
          have hC1 : CST U (pfM s) e19 := by have z := hps18.1; rw [show pfM s14 = pfM s from funext aws14_228] at z; exact z
          refine z_store_n X (lv' := [(3, .int (Int32.ofInt e19)), (0, .ref (A 179)), (1, .int (Int32.ofInt x)), (2, .int (Int32.ofInt y))]) rfl (by decide) (fun _ h => h) (z_aload_n X (x := A 179) rfl (List.Mem.tail _ (List.Mem.head _)) (s_getR X 179 rfl (c518_ok rfl) rfl rfl (z_load_n X (x := x) rfl (List.Mem.tail _ (List.Mem.tail _ (List.Mem.head _))) (z_ald X 256 rfl (c518_ok rfl) rfl (by first | exact oq_77708b6d g6 hps4 | omega) (show x < 128 by first | exact oq_d041223a g6 hps4 | omega) (cbig_ok rfl) ?_))))
          have b20 := bc_228 Is18 (show (x).toNat < 128 by first | exact oq_2cca4c9a g6 hps4 | omega)
          have ar21 : iC s18 228 (x).toNat = iC s 228 (x).toNat := aws18_228 _
          refine z_store X (lv' := [(4, .int (Int32.ofInt (iC s18 228 (x).toNat))), (3, .int (Int32.ofInt e19)), (0, .ref (A 179)), (1, .int (Int32.ofInt x)), (2, .int (Int32.ofInt y))]) rfl (by decide) (fun _ h => h) ?_
          have hOl : pfM s (x : Int).toNat = (iC s18 228 (x).toNat) := (aws18_228 (x : Int).toNat).symm
          refine z_aload_n X (x := A 179) rfl (List.Mem.tail _ (List.Mem.tail _ (List.Mem.head _))) (s_getR X 179 rfl (c518_ok rfl) rfl rfl (z_load_n X (x := x) rfl (List.Mem.tail _ (List.Mem.tail _ (List.Mem.tail _ (List.Mem.head _)))) (z_load_n X (x := y) rfl (List.Mem.tail _ (List.Mem.tail _ (List.Mem.tail _ (List.Mem.tail _ (List.Mem.head _))))) (z_ast X 256 rfl (c518_ok rfl) rfl (by first | exact oq_77708b6d g6 hps4 | omega) (show x < 128 by first | exact oq_d041223a g6 hps4 | omega) (cbig_ok rfl) (wd_gen (fun s22 hs22 => ?_))))))
          have Is22 : Bd s22 := eqB hs22 (bd_C Is18 (show ((-1) : Int) ≤ y ∧ y ≤ 7 by first | exact ⟨oq_02216707 g17 hps14 b9.1 hps7 vs3, oq_4bd3f58e g17 hps14 b9.1 hps7 vs3⟩ | exact And.intro (oq_8a03954c g17 hps14 b9.1 hps7 vs3) (oq_9de4c7f6 g17 hps14 b9.1 hps7 vs3) | omega) ⟨by first | exact p1.1 | omega, by first | exact p1.2 | omega⟩)
          have Fs22 := eqF hs22 (fm_C Gs18 (inl_ok (a := 228) rfl))
          have ws22_73 : iI s22 73 = iI s18 73 := eqI hs22 rfl
          have ws22_89 : iI s22 89 = iI s18 89 := eqI hs22 rfl
          have aws22_228 : UPD 228 (x) y s s22 := by rw [hs22]; exact upd_put aws18_228 ⟨by first | exact p1.1 | omega, by first | exact p1.2 | omega⟩
          have fs22 : Fm [] [228] s18 s22 := by rw [hs22]; exact fm_C (fm_rf _ _ _) (show 228 ∈ _ by decide)
          have JRLx_s22 : RLx s22 := RLx_fm fs22 (by decide) JRLx_s18
          have JMDJ_s22 : MDJ U s22 := MDJ_fm fs22 (by decide) JMDJ_s18
          have hP1 : pfM s22 = (upF (pfM s) (x : Int).toNat y) := upm_upd aws22_228
          refine z_aload_n X (x := A 179) rfl (List.Mem.tail _ (List.Mem.tail _ (List.Mem.head _))) (zcV_i1 X E 179 (As := []) (st := []) rfl rfl rfl rfl (k_costOf3 G Is22 JRLx_s22 JMDJ_s22 (by first | exact oq_2013374c ws22_89 ws18_89 ws14_89 ws7_89 ws3_89 b2.1 p2 | omega)) rfl (Nat.le_of_ble_eq_true rfl) (fun s23 e24 Is23 Fs23 JRLx_s23 hrs23 hps23 => ?_))
          have Gs23 := fm_tq Fs22 Fs23 rfl rfl
          have JRLx_s23 : RLx s23 := RLx_fm Fs23 (by decide) JRLx_s22
          have ws23_73 : iI s23 73 = iI s22 73 := fm_iq Fs23 rfl
          have ws23_89 : iI s23 89 = iI s22 89 := fm_iq Fs23 rfl
          have aws23_228 : SAM 228 s22 s23 := sam_ts (sam_rf (a := 228) (s := s22)) (sam_fm Fs23 (by decide))
          have hC2 : CST U (upF (pfM s) (x : Int).toNat y) e24 := by have z := hps23.1; rw [hP1] at z; exact z
          refine z_store X (lv' := [(5, .int (Int32.ofInt e24)), (4, .int (Int32.ofInt (iC s18 228 (x).toNat))), (3, .int (Int32.ofInt e19)), (0, .ref (A 179)), (1, .int (Int32.ofInt x)), (2, .int (Int32.ofInt y))]) rfl (by decide) (fun _ h => h) (z_aload_n X (x := A 179) rfl (List.Mem.tail _ (List.Mem.tail _ (List.Mem.tail _ (List.Mem.head _)))) (s_getR X 179 rfl (c518_ok rfl) rfl rfl (z_load_n X (x := x) rfl (List.Mem.tail _ (List.Mem.tail _ (List.Mem.tail _ (List.Mem.tail _ (List.Mem.head _))))) (z_load X (x := (iC s18 228 (x).toNat)) rfl (List.Mem.tail _ (List.Mem.head _)) (z_ast X 256 rfl (c518_ok rfl) rfl (by first | exact oq_77708b6d g6 hps4 | omega) (show x < 128 by first | exact oq_d041223a g6 hps4 | omega) (cbig_ok rfl) (wd_gen (fun s25 hs25 => ?_)))))))
          have Is25 : Bd s25 := eqB hs25 (bd_C Is23 (show ((-1) : Int) ≤ (iC s18 228 (x).toNat) ∧ (iC s18 228 (x).toNat) ≤ 7 by first | exact ⟨b20.1, b20.2⟩ | omega) (rng_to _))
          have Fs25 := eqF hs25 (fm_C Gs23 (inl_ok (a := 228) rfl))
          have ws25_73 : iI s25 73 = iI s23 73 := eqI hs25 rfl
          have ws25_89 : iI s25 89 = iI s23 89 := eqI hs25 rfl
          have aws25_228 : UPD 228 (x) (iC s18 228 (x).toNat) s22 s25 := by rw [hs25]; exact upd_put aws23_228 (rng_to _)
          have fs25 : Fm [] [228] s23 s25 := by rw [hs25]; exact fm_C (fm_rf _ _ _) (show 228 ∈ _ by decide)
          have JRLx_s25 : RLx s25 := RLx_fm fs25 (by decide) JRLx_s23
          have hPe : pfM s25 = pfM s := by rw [upm_upd aws25_228, hP1, upf_up]; exact upf_id hOl
          refine z_load_n X (x := e19) rfl (List.Mem.tail _ (List.Mem.tail _ (List.Mem.head _))) (z_load X (x := e24) rfl (List.Mem.head _) (z_sub X rfl (z_anyV (fun y26 hy26 ey26 => ?_))))
          exact w_iret X.1 q hRt rfl (ax_d X (show cdA 291 111 = some (.ireturn, 1, 0, 0, 0) from rfl)) (Nat.zero_le _) (Nat.zero_le _) ⟨_, rfl, Is25, Fs25, JRLx_s25, y26, rfl, hy26, Or.inl ⟨by first | exact oq_77708b6d g6 hps4 | omega, by first | exact oq_09803752 g6 hps4 | omega, by first | exact oq_9e1cecb0 g17 hps14 b9.1 hps7 vs3 | exact oq_3d57b7ce g17 hps14 b9.1 hps7 vs3 | omega, by first | exact oq_4bd3f58e g17 hps14 b9.1 hps7 vs3 | exact oq_9de4c7f6 g17 hps14 b9.1 hps7 vs3 | omega, by first | exact oq_4b8a99bd g17 hps14 b9.1 hps7 vs3 | exact oq_f85f9e2e g17 hps14 b9.1 hps7 vs3 | omega, by first | exact oq_44d170e0 g17 hps14 b9.1 hps7 vs3 | exact oq_d31e05ce g17 hps14 b9.1 hps7 vs3 | omega, by first | exact oq_dfe16c24 ws25_73 ws23_73 ws22_73 ws18_73 g17 b16.1 hps14 hps7 vs3 | exact oq_06a361ab ws25_73 ws23_73 ws22_73 ws18_73 g17 b16.1 hps14 | omega, (fun j => congrFun hPe j), ⟨hy26, _, _, hC1, hC2, ey26⟩⟩⟩
        ·
          refine z_const X rfl ?_
          exact w_iret X.1 q hRt rfl (ax_d X (show cdA 291 72 = some (.ireturn, 1, 0, 0, 0) from rfl)) (Nat.zero_le _) (Nat.zero_le _) ⟨_, rfl, Is14, Gs14, JRLx_s14, 0, rfl, (by decide), Or.inr ⟨by first | exact oq_7172fd10 g17 hps14 g13 hps11 b9.1 hps7 g6 hps4 vs3 | exact Or.inr (And.intro (And.intro (oq_77708b6d g6 hps4) (And.intro (oq_09803752 g6 hps4) (oq_ac2ee271 g13 hps11))) (oq_a332460b hps14 b9.1 hps7 vs3)) | omega, aws14_228⟩⟩
      ·
        have hz27 := aws7_228 (x : Int).toNat
        refine z_aload_n X (x := A 179) rfl (List.Mem.head _) (s_getR X 179 rfl (c518_ok rfl) rfl rfl (z_load_n X (x := x) rfl (List.Mem.tail _ (List.Mem.head _)) (z_ald X 256 rfl (c518_ok rfl) rfl (by first | exact oq_77708b6d g6 hps4 | omega) (show x < 128 by first | exact oq_d041223a g6 hps4 | omega) (cbig_ok rfl) ?_)))
        have b28 := bc_228 Is7 (show (x).toNat < 128 by first | exact oq_2cca4c9a g6 hps4 | omega)
        have ar29 : iC s7 228 (x).toNat = iC s 228 (x).toNat := aws7_228 _
        refine z_const X rfl (z_icmp_eq X (t := 59) rfl rfl (rng_to _) (by decide) (fun g30 => ?_) (fun g30 => ?_))
        ·
          refine z_const X rfl (z_goto X (t := 64) rfl rfl (z_const X rfl (zcV_i0 X E 179 (As := [.int (Int32.ofInt 1), .int (Int32.ofInt 2)]) (st := []) rfl rfl rfl rfl (k_bad2 G Is7 (by first | exact Or.inr (by decide) | omega) (by first | exact ⟨by decide, by decide⟩ | omega)) rfl (Nat.le_of_ble_eq_true rfl) (fun s31 e32 Is31 Fs31 hrs31 hps31 => ?_))))
          have Gs31 := fm_tq Gs7 Fs31 rfl rfl
          have JRLx_s31 : RLx s31 := RLx_fm Fs31 (by decide) JRLx_s7
          have JMDJ_s31 : MDJ U s31 := MDJ_fm Fs31 (by decide) JMDJ_s7
          have b33 := bi_73 Is31
          have ws31_89 : iI s31 89 = iI s7 89 := fm_iq Fs31 rfl
          have aws31_228 : SAM 228 s s31 := sam_ts aws7_228 (sam_fm Fs31 (by decide))
          refine z_if_eq X (t := 73) rfl rfl hrs31 (fun g34 => ?_) (fun g34 => ?_)
          ·
            refine z_aload_n X (x := A 179) rfl (List.Mem.head _) (zcV_i1 X E 179 (As := []) (st := []) rfl rfl rfl rfl (k_costOf3 G Is31 JRLx_s31 JMDJ_s31 (by first | exact oq_29301542 ws31_89 ws7_89 ws3_89 p2 b2.1 | omega)) rfl (Nat.le_of_ble_eq_true rfl) (fun s35 e36 Is35 Fs35 JRLx_s35 hrs35 hps35 => ?_))
            have Gs35 := fm_tq Gs31 Fs35 rfl rfl
            have JRLx_s35 : RLx s35 := RLx_fm Fs35 (by decide) JRLx_s31
            have JMDJ_s35 : MDJ U s35 := MDJ_fm Fs35 (by decide) JMDJ_s31
            have ws35_73 : iI s35 73 = iI s31 73 := fm_iq Fs35 rfl
            have ws35_89 : iI s35 89 = iI s31 89 := fm_iq Fs35 rfl
            have aws35_228 : SAM 228 s s35 := sam_ts aws31_228 (sam_fm Fs35 (by decide))
            have hC1 : CST U (pfM s) e36 := by have z := hps35.1; rw [show pfM s31 = pfM s from funext aws31_228] at z; exact z
            refine z_store_n X (lv' := [(3, .int (Int32.ofInt e36)), (0, .ref (A 179)), (1, .int (Int32.ofInt x)), (2, .int (Int32.ofInt y))]) rfl (by decide) (fun _ h => h) (z_aload_n X (x := A 179) rfl (List.Mem.tail _ (List.Mem.head _)) (s_getR X 179 rfl (c518_ok rfl) rfl rfl (z_load_n X (x := x) rfl (List.Mem.tail _ (List.Mem.tail _ (List.Mem.head _))) (z_ald X 256 rfl (c518_ok rfl) rfl (by first | exact oq_77708b6d g6 hps4 | omega) (show x < 128 by first | exact oq_d041223a g6 hps4 | omega) (cbig_ok rfl) ?_))))
            have b37 := bc_228 Is35 (show (x).toNat < 128 by first | exact oq_2cca4c9a g6 hps4 | omega)
            have ar38 : iC s35 228 (x).toNat = iC s 228 (x).toNat := aws35_228 _
            refine z_store X (lv' := [(4, .int (Int32.ofInt (iC s35 228 (x).toNat))), (3, .int (Int32.ofInt e36)), (0, .ref (A 179)), (1, .int (Int32.ofInt x)), (2, .int (Int32.ofInt y))]) rfl (by decide) (fun _ h => h) ?_
            have hOl : pfM s (x : Int).toNat = (iC s35 228 (x).toNat) := (aws35_228 (x : Int).toNat).symm
            refine z_aload_n X (x := A 179) rfl (List.Mem.tail _ (List.Mem.tail _ (List.Mem.head _))) (s_getR X 179 rfl (c518_ok rfl) rfl rfl (z_load_n X (x := x) rfl (List.Mem.tail _ (List.Mem.tail _ (List.Mem.tail _ (List.Mem.head _)))) (z_load_n X (x := y) rfl (List.Mem.tail _ (List.Mem.tail _ (List.Mem.tail _ (List.Mem.tail _ (List.Mem.head _))))) (z_ast X 256 rfl (c518_ok rfl) rfl (by first | exact oq_77708b6d g6 hps4 | omega) (show x < 128 by first | exact oq_d041223a g6 hps4 | omega) (cbig_ok rfl) (wd_gen (fun s39 hs39 => ?_))))))
            have Is39 : Bd s39 := eqB hs39 (bd_C Is35 (show ((-1) : Int) ≤ y ∧ y ≤ 7 by first | exact ⟨oq_a3a4b4d2 g13 hps11, oq_ca823699 g13 hps11⟩ | omega) ⟨by first | exact p1.1 | omega, by first | exact p1.2 | omega⟩)
            have Fs39 := eqF hs39 (fm_C Gs35 (inl_ok (a := 228) rfl))
            have ws39_73 : iI s39 73 = iI s35 73 := eqI hs39 rfl
            have ws39_89 : iI s39 89 = iI s35 89 := eqI hs39 rfl
            have aws39_228 : UPD 228 (x) y s s39 := by rw [hs39]; exact upd_put aws35_228 ⟨by first | exact p1.1 | omega, by first | exact p1.2 | omega⟩
            have fs39 : Fm [] [228] s35 s39 := by rw [hs39]; exact fm_C (fm_rf _ _ _) (show 228 ∈ _ by decide)
            have JRLx_s39 : RLx s39 := RLx_fm fs39 (by decide) JRLx_s35
            have JMDJ_s39 : MDJ U s39 := MDJ_fm fs39 (by decide) JMDJ_s35
            have hP1 : pfM s39 = (upF (pfM s) (x : Int).toNat y) := upm_upd aws39_228
            refine z_aload_n X (x := A 179) rfl (List.Mem.tail _ (List.Mem.tail _ (List.Mem.head _))) (zcV_i1 X E 179 (As := []) (st := []) rfl rfl rfl rfl (k_costOf3 G Is39 JRLx_s39 JMDJ_s39 (by first | exact oq_2013374c ws39_89 ws35_89 ws31_89 ws7_89 ws3_89 b2.1 p2 | omega)) rfl (Nat.le_of_ble_eq_true rfl) (fun s40 e41 Is40 Fs40 JRLx_s40 hrs40 hps40 => ?_))
            have Gs40 := fm_tq Fs39 Fs40 rfl rfl
            have JRLx_s40 : RLx s40 := RLx_fm Fs40 (by decide) JRLx_s39
            have ws40_73 : iI s40 73 = iI s39 73 := fm_iq Fs40 rfl
            have ws40_89 : iI s40 89 = iI s39 89 := fm_iq Fs40 rfl
            have aws40_228 : SAM 228 s39 s40 := sam_ts (sam_rf (a := 228) (s := s39)) (sam_fm Fs40 (by decide))
            have hC2 : CST U (upF (pfM s) (x : Int).toNat y) e41 := by have z := hps40.1; rw [hP1] at z; exact z
            refine z_store X (lv' := [(5, .int (Int32.ofInt e41)), (4, .int (Int32.ofInt (iC s35 228 (x).toNat))), (3, .int (Int32.ofInt e36)), (0, .ref (A 179)), (1, .int (Int32.ofInt x)), (2, .int (Int32.ofInt y))]) rfl (by decide) (fun _ h => h) (z_aload_n X (x := A 179) rfl (List.Mem.tail _ (List.Mem.tail _ (List.Mem.tail _ (List.Mem.head _)))) (s_getR X 179 rfl (c518_ok rfl) rfl rfl (z_load_n X (x := x) rfl (List.Mem.tail _ (List.Mem.tail _ (List.Mem.tail _ (List.Mem.tail _ (List.Mem.head _))))) (z_load X (x := (iC s35 228 (x).toNat)) rfl (List.Mem.tail _ (List.Mem.head _)) (z_ast X 256 rfl (c518_ok rfl) rfl (by first | exact oq_77708b6d g6 hps4 | omega) (show x < 128 by first | exact oq_d041223a g6 hps4 | omega) (cbig_ok rfl) (wd_gen (fun s42 hs42 => ?_)))))))
            have Is42 : Bd s42 := eqB hs42 (bd_C Is40 (show ((-1) : Int) ≤ (iC s35 228 (x).toNat) ∧ (iC s35 228 (x).toNat) ≤ 7 by first | exact ⟨b37.1, b37.2⟩ | omega) (rng_to _))
            have Fs42 := eqF hs42 (fm_C Gs40 (inl_ok (a := 228) rfl))
            have ws42_73 : iI s42 73 = iI s40 73 := eqI hs42 rfl
            have ws42_89 : iI s42 89 = iI s40 89 := eqI hs42 rfl
            have aws42_228 : UPD 228 (x) (iC s35 228 (x).toNat) s39 s42 := by rw [hs42]; exact upd_put aws40_228 (rng_to _)
            have fs42 : Fm [] [228] s40 s42 := by rw [hs42]; exact fm_C (fm_rf _ _ _) (show 228 ∈ _ by decide)
            have JRLx_s42 : RLx s42 := RLx_fm fs42 (by decide) JRLx_s40
            have hPe : pfM s42 = pfM s := by rw [upm_upd aws42_228, hP1, upf_up]; exact upf_id hOl
            refine z_load_n X (x := e36) rfl (List.Mem.tail _ (List.Mem.tail _ (List.Mem.head _))) (z_load X (x := e41) rfl (List.Mem.head _) (z_sub X rfl (z_anyV (fun y43 hy43 ey43 => ?_))))
            exact w_iret X.1 q hRt rfl (ax_d X (show cdA 291 111 = some (.ireturn, 1, 0, 0, 0) from rfl)) (Nat.zero_le _) (Nat.zero_le _) ⟨_, rfl, Is42, Fs42, JRLx_s42, y43, rfl, hy43, Or.inl ⟨by first | exact oq_77708b6d g6 hps4 | omega, by first | exact oq_09803752 g6 hps4 | omega, by first | exact oq_28d92795 g13 hps11 | omega, by first | exact oq_ca823699 g13 hps11 | omega, by first | exact oq_4b8a99bd g34 hps31 b9.1 hps7 vs3 | exact oq_f85f9e2e g34 hps31 b9.1 hps7 vs3 | omega, by first | exact oq_17954dec g30 ar29 g13 hps11 | omega, by first | exact oq_dfe16c24 ws42_73 ws40_73 ws39_73 ws35_73 g34 b33.1 hps31 hps7 vs3 | exact oq_06a361ab ws42_73 ws40_73 ws39_73 ws35_73 g34 b33.1 hps31 | omega, (fun j => congrFun hPe j), ⟨hy43, _, _, hC1, hC2, ey43⟩⟩⟩
          ·
            refine z_const X rfl ?_
            exact w_iret X.1 q hRt rfl (ax_d X (show cdA 291 72 = some (.ireturn, 1, 0, 0, 0) from rfl)) (Nat.zero_le _) (Nat.zero_le _) ⟨_, rfl, Is31, Gs31, JRLx_s31, 0, rfl, (by decide), Or.inr ⟨by first | exact oq_fb7d65cd g34 hps31 g30 ar29 b9.1 hps7 g6 hps4 vs3 | exact Or.inr (And.intro (And.intro (oq_77708b6d g6 hps4) (And.intro (oq_09803752 g6 hps4) (Or.inr (Or.inr (Or.inl (oq_152bfaa6 g30 ar29)))))) (oq_a332460b hps31 b9.1 hps7 vs3)) | omega, aws31_228⟩⟩
        ·
          refine z_aload_n X (x := A 179) rfl (List.Mem.head _) (s_getR X 179 rfl (c518_ok rfl) rfl rfl (z_load_n X (x := x) rfl (List.Mem.tail _ (List.Mem.head _)) (z_ald X 256 rfl (c518_ok rfl) rfl (by first | exact oq_77708b6d g6 hps4 | omega) (show x < 128 by first | exact oq_d041223a g6 hps4 | omega) (cbig_ok rfl) ?_)))
          have b44 := bc_228 Is7 (show (x).toNat < 128 by first | exact oq_2cca4c9a g6 hps4 | omega)
          have ar45 : iC s7 228 (x).toNat = iC s 228 (x).toNat := aws7_228 _
          refine z_load_n X (x := y) rfl (List.Mem.tail _ (List.Mem.tail _ (List.Mem.head _))) (z_icmp_ne X (t := 63) rfl rfl (rng_to _) ⟨by first | exact p1.1 | omega, by first | exact p1.2 | omega⟩ (fun g46 => ?_) (fun g46 => ?_))
          ·
            refine z_const X rfl (z_const X rfl (zcV_i0 X E 179 (As := [.int (Int32.ofInt 0), .int (Int32.ofInt 2)]) (st := []) rfl rfl rfl rfl (k_bad2 G Is7 (by first | exact Or.inl (by decide) | omega) (by first | exact ⟨by decide, by decide⟩ | omega)) rfl (Nat.le_of_ble_eq_true rfl) (fun s47 e48 Is47 Fs47 hrs47 hps47 => ?_)))
            have Gs47 := fm_tq Gs7 Fs47 rfl rfl
            have JRLx_s47 : RLx s47 := RLx_fm Fs47 (by decide) JRLx_s7
            have JMDJ_s47 : MDJ U s47 := MDJ_fm Fs47 (by decide) JMDJ_s7
            have b49 := bi_73 Is47
            have ws47_89 : iI s47 89 = iI s7 89 := fm_iq Fs47 rfl
            have aws47_228 : SAM 228 s s47 := sam_ts aws7_228 (sam_fm Fs47 (by decide))
            refine z_if_eq X (t := 73) rfl rfl hrs47 (fun g50 => ?_) (fun g50 => ?_)
            ·
              refine z_aload_n X (x := A 179) rfl (List.Mem.head _) (zcV_i1 X E 179 (As := []) (st := []) rfl rfl rfl rfl (k_costOf3 G Is47 JRLx_s47 JMDJ_s47 (by first | exact oq_29301542 ws47_89 ws7_89 ws3_89 p2 b2.1 | omega)) rfl (Nat.le_of_ble_eq_true rfl) (fun s51 e52 Is51 Fs51 JRLx_s51 hrs51 hps51 => ?_))
              have Gs51 := fm_tq Gs47 Fs51 rfl rfl
              have JRLx_s51 : RLx s51 := RLx_fm Fs51 (by decide) JRLx_s47
              have JMDJ_s51 : MDJ U s51 := MDJ_fm Fs51 (by decide) JMDJ_s47
              have ws51_73 : iI s51 73 = iI s47 73 := fm_iq Fs51 rfl
              have ws51_89 : iI s51 89 = iI s47 89 := fm_iq Fs51 rfl
              have aws51_228 : SAM 228 s s51 := sam_ts aws47_228 (sam_fm Fs51 (by decide))
              have hC1 : CST U (pfM s) e52 := by have z := hps51.1; rw [show pfM s47 = pfM s from funext aws47_228] at z; exact z
              refine z_store_n X (lv' := [(3, .int (Int32.ofInt e52)), (0, .ref (A 179)), (1, .int (Int32.ofInt x)), (2, .int (Int32.ofInt y))]) rfl (by decide) (fun _ h => h) (z_aload_n X (x := A 179) rfl (List.Mem.tail _ (List.Mem.head _)) (s_getR X 179 rfl (c518_ok rfl) rfl rfl (z_load_n X (x := x) rfl (List.Mem.tail _ (List.Mem.tail _ (List.Mem.head _))) (z_ald X 256 rfl (c518_ok rfl) rfl (by first | exact oq_77708b6d g6 hps4 | omega) (show x < 128 by first | exact oq_d041223a g6 hps4 | omega) (cbig_ok rfl) ?_))))
              have b53 := bc_228 Is51 (show (x).toNat < 128 by first | exact oq_2cca4c9a g6 hps4 | omega)
              have ar54 : iC s51 228 (x).toNat = iC s 228 (x).toNat := aws51_228 _
              refine z_store X (lv' := [(4, .int (Int32.ofInt (iC s51 228 (x).toNat))), (3, .int (Int32.ofInt e52)), (0, .ref (A 179)), (1, .int (Int32.ofInt x)), (2, .int (Int32.ofInt y))]) rfl (by decide) (fun _ h => h) ?_
              have hOl : pfM s (x : Int).toNat = (iC s51 228 (x).toNat) := (aws51_228 (x : Int).toNat).symm
              refine z_aload_n X (x := A 179) rfl (List.Mem.tail _ (List.Mem.tail _ (List.Mem.head _))) (s_getR X 179 rfl (c518_ok rfl) rfl rfl (z_load_n X (x := x) rfl (List.Mem.tail _ (List.Mem.tail _ (List.Mem.tail _ (List.Mem.head _)))) (z_load_n X (x := y) rfl (List.Mem.tail _ (List.Mem.tail _ (List.Mem.tail _ (List.Mem.tail _ (List.Mem.head _))))) (z_ast X 256 rfl (c518_ok rfl) rfl (by first | exact oq_77708b6d g6 hps4 | omega) (show x < 128 by first | exact oq_d041223a g6 hps4 | omega) (cbig_ok rfl) (wd_gen (fun s55 hs55 => ?_))))))
              have Is55 : Bd s55 := eqB hs55 (bd_C Is51 (show ((-1) : Int) ≤ y ∧ y ≤ 7 by first | exact ⟨oq_a3a4b4d2 g13 hps11, oq_ca823699 g13 hps11⟩ | omega) ⟨by first | exact p1.1 | omega, by first | exact p1.2 | omega⟩)
              have Fs55 := eqF hs55 (fm_C Gs51 (inl_ok (a := 228) rfl))
              have ws55_73 : iI s55 73 = iI s51 73 := eqI hs55 rfl
              have ws55_89 : iI s55 89 = iI s51 89 := eqI hs55 rfl
              have aws55_228 : UPD 228 (x) y s s55 := by rw [hs55]; exact upd_put aws51_228 ⟨by first | exact p1.1 | omega, by first | exact p1.2 | omega⟩
              have fs55 : Fm [] [228] s51 s55 := by rw [hs55]; exact fm_C (fm_rf _ _ _) (show 228 ∈ _ by decide)
              have JRLx_s55 : RLx s55 := RLx_fm fs55 (by decide) JRLx_s51
              have JMDJ_s55 : MDJ U s55 := MDJ_fm fs55 (by decide) JMDJ_s51
              have hP1 : pfM s55 = (upF (pfM s) (x : Int).toNat y) := upm_upd aws55_228
              refine z_aload_n X (x := A 179) rfl (List.Mem.tail _ (List.Mem.tail _ (List.Mem.head _))) (zcV_i1 X E 179 (As := []) (st := []) rfl rfl rfl rfl (k_costOf3 G Is55 JRLx_s55 JMDJ_s55 (by first | exact oq_2013374c ws55_89 ws51_89 ws47_89 ws7_89 ws3_89 b2.1 p2 | omega)) rfl (Nat.le_of_ble_eq_true rfl) (fun s56 e57 Is56 Fs56 JRLx_s56 hrs56 hps56 => ?_))
              have Gs56 := fm_tq Fs55 Fs56 rfl rfl
              have JRLx_s56 : RLx s56 := RLx_fm Fs56 (by decide) JRLx_s55
              have ws56_73 : iI s56 73 = iI s55 73 := fm_iq Fs56 rfl
              have ws56_89 : iI s56 89 = iI s55 89 := fm_iq Fs56 rfl
              have aws56_228 : SAM 228 s55 s56 := sam_ts (sam_rf (a := 228) (s := s55)) (sam_fm Fs56 (by decide))
              have hC2 : CST U (upF (pfM s) (x : Int).toNat y) e57 := by have z := hps56.1; rw [hP1] at z; exact z
              refine z_store X (lv' := [(5, .int (Int32.ofInt e57)), (4, .int (Int32.ofInt (iC s51 228 (x).toNat))), (3, .int (Int32.ofInt e52)), (0, .ref (A 179)), (1, .int (Int32.ofInt x)), (2, .int (Int32.ofInt y))]) rfl (by decide) (fun _ h => h) (z_aload_n X (x := A 179) rfl (List.Mem.tail _ (List.Mem.tail _ (List.Mem.tail _ (List.Mem.head _)))) (s_getR X 179 rfl (c518_ok rfl) rfl rfl (z_load_n X (x := x) rfl (List.Mem.tail _ (List.Mem.tail _ (List.Mem.tail _ (List.Mem.tail _ (List.Mem.head _))))) (z_load X (x := (iC s51 228 (x).toNat)) rfl (List.Mem.tail _ (List.Mem.head _)) (z_ast X 256 rfl (c518_ok rfl) rfl (by first | exact oq_77708b6d g6 hps4 | omega) (show x < 128 by first | exact oq_d041223a g6 hps4 | omega) (cbig_ok rfl) (wd_gen (fun s58 hs58 => ?_)))))))
              have Is58 : Bd s58 := eqB hs58 (bd_C Is56 (show ((-1) : Int) ≤ (iC s51 228 (x).toNat) ∧ (iC s51 228 (x).toNat) ≤ 7 by first | exact ⟨b53.1, b53.2⟩ | omega) (rng_to _))
              have Fs58 := eqF hs58 (fm_C Gs56 (inl_ok (a := 228) rfl))
              have ws58_73 : iI s58 73 = iI s56 73 := eqI hs58 rfl
              have ws58_89 : iI s58 89 = iI s56 89 := eqI hs58 rfl
              have aws58_228 : UPD 228 (x) (iC s51 228 (x).toNat) s55 s58 := by rw [hs58]; exact upd_put aws56_228 (rng_to _)
              have fs58 : Fm [] [228] s56 s58 := by rw [hs58]; exact fm_C (fm_rf _ _ _) (show 228 ∈ _ by decide)
              have JRLx_s58 : RLx s58 := RLx_fm fs58 (by decide) JRLx_s56
              have hPe : pfM s58 = pfM s := by rw [upm_upd aws58_228, hP1, upf_up]; exact upf_id hOl
              refine z_load_n X (x := e52) rfl (List.Mem.tail _ (List.Mem.tail _ (List.Mem.head _))) (z_load X (x := e57) rfl (List.Mem.head _) (z_sub X rfl (z_anyV (fun y59 hy59 ey59 => ?_))))
              exact w_iret X.1 q hRt rfl (ax_d X (show cdA 291 111 = some (.ireturn, 1, 0, 0, 0) from rfl)) (Nat.zero_le _) (Nat.zero_le _) ⟨_, rfl, Is58, Fs58, JRLx_s58, y59, rfl, hy59, Or.inl ⟨by first | exact oq_77708b6d g6 hps4 | omega, by first | exact oq_09803752 g6 hps4 | omega, by first | exact oq_28d92795 g13 hps11 | omega, by first | exact oq_ca823699 g13 hps11 | omega, by first | exact oq_5cd2acae ar45 b44.1 g30 | omega, by first | exact oq_fdab8905 g46 ar45 | omega, by first | exact oq_c402a3a6 ws58_73 ws56_73 ws55_73 ws51_73 b49.1 hps47 hps7 vs3 | exact oq_400ee510 ws58_73 ws56_73 ws55_73 ws51_73 g50 b49.1 hps47 | omega, (fun j => congrFun hPe j), ⟨hy59, _, _, hC1, hC2, ey59⟩⟩⟩
            ·
              refine z_const X rfl ?_
              exact w_iret X.1 q hRt rfl (ax_d X (show cdA 291 72 = some (.ireturn, 1, 0, 0, 0) from rfl)) (Nat.zero_le _) (Nat.zero_le _) ⟨_, rfl, Is47, Gs47, JRLx_s47, 0, rfl, (by decide), Or.inr ⟨by first | exact oq_4085aaaa g50 hps47 b9.1 hps7 vs3 | exact Or.inl (And.intro (Or.inl (oq_d7d34c86 g50 hps47 b9.1 hps7 vs3)) (oq_2b62e0cc g50 hps47 b9.1 hps7 vs3)) | omega, aws47_228⟩⟩
          ·
            refine z_const X rfl (z_goto X (t := 64) rfl rfl (z_const X rfl (zcV_i0 X E 179 (As := [.int (Int32.ofInt 1), .int (Int32.ofInt 2)]) (st := []) rfl rfl rfl rfl (k_bad2 G Is7 (by first | exact Or.inr (by decide) | omega) (by first | exact ⟨by decide, by decide⟩ | omega)) rfl (Nat.le_of_ble_eq_true rfl) (fun s60 e61 Is60 Fs60 hrs60 hps60 => ?_))))
            have Gs60 := fm_tq Gs7 Fs60 rfl rfl
            have JRLx_s60 : RLx s60 := RLx_fm Fs60 (by decide) JRLx_s7
            have JMDJ_s60 : MDJ U s60 := MDJ_fm Fs60 (by decide) JMDJ_s7
            have b62 := bi_73 Is60
            have ws60_89 : iI s60 89 = iI s7 89 := fm_iq Fs60 rfl
            have aws60_228 : SAM 228 s s60 := sam_ts aws7_228 (sam_fm Fs60 (by decide))
            refine z_if_eq X (t := 73) rfl rfl hrs60 (fun g63 => ?_) (fun g63 => ?_)
            ·
              refine z_aload_n X (x := A 179) rfl (List.Mem.head _) (zcV_i1 X E 179 (As := []) (st := []) rfl rfl rfl rfl (k_costOf3 G Is60 JRLx_s60 JMDJ_s60 (by first | exact oq_29301542 ws60_89 ws7_89 ws3_89 p2 b2.1 | omega)) rfl (Nat.le_of_ble_eq_true rfl) (fun s64 e65 Is64 Fs64 JRLx_s64 hrs64 hps64 => ?_))
              have Gs64 := fm_tq Gs60 Fs64 rfl rfl
              have JRLx_s64 : RLx s64 := RLx_fm Fs64 (by decide) JRLx_s60
              have JMDJ_s64 : MDJ U s64 := MDJ_fm Fs64 (by decide) JMDJ_s60
              have ws64_73 : iI s64 73 = iI s60 73 := fm_iq Fs64 rfl
              have ws64_89 : iI s64 89 = iI s60 89 := fm_iq Fs64 rfl
              have aws64_228 : SAM 228 s s64 := sam_ts aws60_228 (sam_fm Fs64 (by decide))
              have hC1 : CST U (pfM s) e65 := by have z := hps64.1; rw [show pfM s60 = pfM s from funext aws60_228] at z; exact z
              refine z_store_n X (lv' := [(3, .int (Int32.ofInt e65)), (0, .ref (A 179)), (1, .int (Int32.ofInt x)), (2, .int (Int32.ofInt y))]) rfl (by decide) (fun _ h => h) (z_aload_n X (x := A 179) rfl (List.Mem.tail _ (List.Mem.head _)) (s_getR X 179 rfl (c518_ok rfl) rfl rfl (z_load_n X (x := x) rfl (List.Mem.tail _ (List.Mem.tail _ (List.Mem.head _))) (z_ald X 256 rfl (c518_ok rfl) rfl (by first | exact oq_77708b6d g6 hps4 | omega) (show x < 128 by first | exact oq_d041223a g6 hps4 | omega) (cbig_ok rfl) ?_))))
              have b66 := bc_228 Is64 (show (x).toNat < 128 by first | exact oq_2cca4c9a g6 hps4 | omega)
              have ar67 : iC s64 228 (x).toNat = iC s 228 (x).toNat := aws64_228 _
              refine z_store X (lv' := [(4, .int (Int32.ofInt (iC s64 228 (x).toNat))), (3, .int (Int32.ofInt e65)), (0, .ref (A 179)), (1, .int (Int32.ofInt x)), (2, .int (Int32.ofInt y))]) rfl (by decide) (fun _ h => h) ?_
              have hOl : pfM s (x : Int).toNat = (iC s64 228 (x).toNat) := (aws64_228 (x : Int).toNat).symm
              refine z_aload_n X (x := A 179) rfl (List.Mem.tail _ (List.Mem.tail _ (List.Mem.head _))) (s_getR X 179 rfl (c518_ok rfl) rfl rfl (z_load_n X (x := x) rfl (List.Mem.tail _ (List.Mem.tail _ (List.Mem.tail _ (List.Mem.head _)))) (z_load_n X (x := y) rfl (List.Mem.tail _ (List.Mem.tail _ (List.Mem.tail _ (List.Mem.tail _ (List.Mem.head _))))) (z_ast X 256 rfl (c518_ok rfl) rfl (by first | exact oq_77708b6d g6 hps4 | omega) (show x < 128 by first | exact oq_d041223a g6 hps4 | omega) (cbig_ok rfl) (wd_gen (fun s68 hs68 => ?_))))))
              have Is68 : Bd s68 := eqB hs68 (bd_C Is64 (show ((-1) : Int) ≤ y ∧ y ≤ 7 by first | exact ⟨oq_2d12af5e g46 b44.1, oq_5f8273e9 g46 b44.2⟩ | omega) ⟨by first | exact p1.1 | omega, by first | exact p1.2 | omega⟩)
              have Fs68 := eqF hs68 (fm_C Gs64 (inl_ok (a := 228) rfl))
              have ws68_73 : iI s68 73 = iI s64 73 := eqI hs68 rfl
              have ws68_89 : iI s68 89 = iI s64 89 := eqI hs68 rfl
              have aws68_228 : UPD 228 (x) y s s68 := by rw [hs68]; exact upd_put aws64_228 ⟨by first | exact p1.1 | omega, by first | exact p1.2 | omega⟩
              have fs68 : Fm [] [228] s64 s68 := by rw [hs68]; exact fm_C (fm_rf _ _ _) (show 228 ∈ _ by decide)
              have JRLx_s68 : RLx s68 := RLx_fm fs68 (by decide) JRLx_s64
              have JMDJ_s68 : MDJ U s68 := MDJ_fm fs68 (by decide) JMDJ_s64
              have hP1 : pfM s68 = (upF (pfM s) (x : Int).toNat y) := upm_upd aws68_228
              refine z_aload_n X (x := A 179) rfl (List.Mem.tail _ (List.Mem.tail _ (List.Mem.head _))) (zcV_i1 X E 179 (As := []) (st := []) rfl rfl rfl rfl (k_costOf3 G Is68 JRLx_s68 JMDJ_s68 (by first | exact oq_2013374c ws68_89 ws64_89 ws60_89 ws7_89 ws3_89 b2.1 p2 | omega)) rfl (Nat.le_of_ble_eq_true rfl) (fun s69 e70 Is69 Fs69 JRLx_s69 hrs69 hps69 => ?_))
              have Gs69 := fm_tq Fs68 Fs69 rfl rfl
              have JRLx_s69 : RLx s69 := RLx_fm Fs69 (by decide) JRLx_s68
              have ws69_73 : iI s69 73 = iI s68 73 := fm_iq Fs69 rfl
              have ws69_89 : iI s69 89 = iI s68 89 := fm_iq Fs69 rfl
              have aws69_228 : SAM 228 s68 s69 := sam_ts (sam_rf (a := 228) (s := s68)) (sam_fm Fs69 (by decide))
              have hC2 : CST U (upF (pfM s) (x : Int).toNat y) e70 := by have z := hps69.1; rw [hP1] at z; exact z
              refine z_store X (lv' := [(5, .int (Int32.ofInt e70)), (4, .int (Int32.ofInt (iC s64 228 (x).toNat))), (3, .int (Int32.ofInt e65)), (0, .ref (A 179)), (1, .int (Int32.ofInt x)), (2, .int (Int32.ofInt y))]) rfl (by decide) (fun _ h => h) (z_aload_n X (x := A 179) rfl (List.Mem.tail _ (List.Mem.tail _ (List.Mem.tail _ (List.Mem.head _)))) (s_getR X 179 rfl (c518_ok rfl) rfl rfl (z_load_n X (x := x) rfl (List.Mem.tail _ (List.Mem.tail _ (List.Mem.tail _ (List.Mem.tail _ (List.Mem.head _))))) (z_load X (x := (iC s64 228 (x).toNat)) rfl (List.Mem.tail _ (List.Mem.head _)) (z_ast X 256 rfl (c518_ok rfl) rfl (by first | exact oq_77708b6d g6 hps4 | omega) (show x < 128 by first | exact oq_d041223a g6 hps4 | omega) (cbig_ok rfl) (wd_gen (fun s71 hs71 => ?_)))))))
              have Is71 : Bd s71 := eqB hs71 (bd_C Is69 (show ((-1) : Int) ≤ (iC s64 228 (x).toNat) ∧ (iC s64 228 (x).toNat) ≤ 7 by first | exact ⟨b66.1, b66.2⟩ | omega) (rng_to _))
              have Fs71 := eqF hs71 (fm_C Gs69 (inl_ok (a := 228) rfl))
              have ws71_73 : iI s71 73 = iI s69 73 := eqI hs71 rfl
              have ws71_89 : iI s71 89 = iI s69 89 := eqI hs71 rfl
              have aws71_228 : UPD 228 (x) (iC s64 228 (x).toNat) s68 s71 := by rw [hs71]; exact upd_put aws69_228 (rng_to _)
              have fs71 : Fm [] [228] s69 s71 := by rw [hs71]; exact fm_C (fm_rf _ _ _) (show 228 ∈ _ by decide)
              have JRLx_s71 : RLx s71 := RLx_fm fs71 (by decide) JRLx_s69
              have hPe : pfM s71 = pfM s := by rw [upm_upd aws71_228, hP1, upf_up]; exact upf_id hOl
              refine z_load_n X (x := e65) rfl (List.Mem.tail _ (List.Mem.tail _ (List.Mem.head _))) (z_load X (x := e70) rfl (List.Mem.head _) (z_sub X rfl (z_anyV (fun y72 hy72 ey72 => ?_))))
              exact w_iret X.1 q hRt rfl (ax_d X (show cdA 291 111 = some (.ireturn, 1, 0, 0, 0) from rfl)) (Nat.zero_le _) (Nat.zero_le _) ⟨_, rfl, Is71, Fs71, JRLx_s71, y72, rfl, hy72, Or.inl ⟨by first | exact oq_77708b6d g6 hps4 | omega, by first | exact oq_09803752 g6 hps4 | omega, by first | exact oq_f313d06a g46 b44.1 g30 | omega, by first | exact oq_5f8273e9 g46 b44.2 | omega, by first | exact oq_5cd2acae ar45 b44.1 g30 | omega, by first | exact oq_44d170e0 g63 hps60 b9.1 hps7 vs3 | exact oq_d31e05ce g63 hps60 b9.1 hps7 vs3 | omega, by first | exact oq_dfe16c24 ws71_73 ws69_73 ws68_73 ws64_73 g63 b62.1 hps60 hps7 vs3 | exact oq_06a361ab ws71_73 ws69_73 ws68_73 ws64_73 g63 b62.1 hps60 | omega, (fun j => congrFun hPe j), ⟨hy72, _, _, hC1, hC2, ey72⟩⟩⟩
            ·
              refine z_const X rfl ?_
              exact w_iret X.1 q hRt rfl (ax_d X (show cdA 291 72 = some (.ireturn, 1, 0, 0, 0) from rfl)) (Nat.zero_le _) (Nat.zero_le _) ⟨_, rfl, Is60, Gs60, JRLx_s60, 0, rfl, (by decide), Or.inr ⟨by first | exact oq_1bd5bb93 g63 hps60 g46 ar45 b9.1 hps7 g6 hps4 vs3 | exact Or.inr (And.intro (And.intro (oq_77708b6d g6 hps4) (And.intro (oq_09803752 g6 hps4) (Or.inr (Or.inr (Or.inr (oq_a0804362 g46 ar45)))))) (oq_a332460b hps60 b9.1 hps7 vs3)) | omega, aws60_228⟩⟩
  ·
    refine z_const X rfl (z_goto X (t := 21) rfl rfl (z_const X rfl (zcV_i0 X E 179 (As := [.int (Int32.ofInt 1), .int (Int32.ofInt 1)]) (st := []) rfl rfl rfl rfl (k_bad2 G Is3 (by first | exact Or.inr (by decide) | omega) (by first | exact ⟨by decide, by decide⟩ | omega)) rfl (Nat.le_of_ble_eq_true rfl) (fun s73 e74 Is73 Fs73 hrs73 hps73 => ?_))))
    have Gs73 := fm_tq Fs3 Fs73 rfl rfl
    have JRLx_s73 : RLx s73 := RLx_fm Fs73 (by decide) JRLx_s3
    have JMDJ_s73 : MDJ U s73 := MDJ_fm Fs73 (by decide) JMDJ_s3
    have b75 := bi_73 Is73
    have ws73_89 : iI s73 89 = iI s3 89 := fm_iq Fs73 rfl
    have aws73_228 : SAM 228 s s73 := sam_ts aws3_228 (sam_fm Fs73 (by decide))
    refine z_if_ne X (t := 71) rfl rfl hrs73 (fun g76 => ?_) (fun g76 => ?_)
    ·
      refine z_const X rfl ?_
      exact w_iret X.1 q hRt rfl (ax_d X (show cdA 291 72 = some (.ireturn, 1, 0, 0, 0) from rfl)) (Nat.zero_le _) (Nat.zero_le _) ⟨_, rfl, Is73, Gs73, JRLx_s73, 0, rfl, (by decide), Or.inr ⟨by first | exact oq_456a1b0f g76 hps73 g6 hps4 vs3 | exact Or.inl (And.intro (oq_c254f236 g6 hps4) (oq_e8001c64 hps73 vs3)) | omega, aws73_228⟩⟩
    ·
      refine z_aload_n X (x := A 179) rfl (List.Mem.head _) (z_load_n X (x := y) rfl (List.Mem.tail _ (List.Mem.tail _ (List.Mem.head _))) (z_const X rfl (z_bipush X rfl (z_callS X (rm := rmN 188) (As := [.int (Int32.ofInt y), .int (Int32.ofInt 0), .int (Int32.ofInt 7)]) (st := [.ref (A 179)]) rfl rfl (by rw [E.1, E.2.1, E.2.2.1]; exact k_in2 G Is73 (by first | exact ⟨p1.1, p1.2⟩ | omega) (by first | exact ⟨by decide, by decide⟩ | omega) (by first | exact ⟨by decide, by decide⟩ | omega)) ⟨by rw [E.2.2.2]; exact (show (rmN 188).frames + 1 ≤ (rmN 291).frames by decide), by rw [E.2.2.2]; exact (show 8 + (mNL (miB 188) + 11) + (rmN 188).locals ≤ (rmN 291).locals by decide), by rw [E.2.2.2]; exact (show 0 + (rmN 188).cells ≤ (rmN 291).cells by decide), by rw [E.2.2.2]; exact (show 0 + (rmN 188).slots ≤ (rmN 291).slots by decide)⟩ (Nat.le_of_ble_eq_true rfl) (fun vv s77 hq => ?_) (fun ee s77 hq => ?_)))))
      rotate_left
      · obtain ⟨rfl, e78, hv, hrs77, hps77⟩ := hq; cases hv
      obtain ⟨rfl, e78, hv, hrs77, hps77⟩ := hq
      cases hv
      show WS k 36 [(0, .ref (A 179)), (1, .int (Int32.ofInt x)), (2, .int (Int32.ofInt y))] [.int (Int32.ofInt e78), .ref (A 179)] (Wd A dT s73) 0 0
      refine z_if_eq X (t := 59) rfl rfl hrs77 (fun g79 => ?_) (fun g79 => ?_)
      ·
        refine z_const X rfl (z_goto X (t := 64) rfl rfl (z_const X rfl (zcV_i0 X E 179 (As := [.int (Int32.ofInt 1), .int (Int32.ofInt 2)]) (st := []) rfl rfl rfl rfl (k_bad2 G Is73 (by first | exact Or.inr (by decide) | omega) (by first | exact ⟨by decide, by decide⟩ | omega)) rfl (Nat.le_of_ble_eq_true rfl) (fun s80 e81 Is80 Fs80 hrs80 hps80 => ?_))))
        have Gs80 := fm_tq Gs73 Fs80 rfl rfl
        have JRLx_s80 : RLx s80 := RLx_fm Fs80 (by decide) JRLx_s73
        have JMDJ_s80 : MDJ U s80 := MDJ_fm Fs80 (by decide) JMDJ_s73
        have b82 := bi_73 Is80
        have ws80_89 : iI s80 89 = iI s73 89 := fm_iq Fs80 rfl
        have aws80_228 : SAM 228 s s80 := sam_ts aws73_228 (sam_fm Fs80 (by decide))
        refine z_if_eq X (t := 73) rfl rfl hrs80 (fun g83 => ?_) (fun g83 => ?_)
        ·
          refine z_aload_n X (x := A 179) rfl (List.Mem.head _) (zcV_i1 X E 179 (As := []) (st := []) rfl rfl rfl rfl (k_costOf3 G Is80 JRLx_s80 JMDJ_s80 (by first | exact oq_29301542 ws80_89 ws73_89 ws3_89 p2 b2.1 | omega)) rfl (Nat.le_of_ble_eq_true rfl) (fun s84 e85 Is84 Fs84 JRLx_s84 hrs84 hps84 => ?_))
          have Gs84 := fm_tq Gs80 Fs84 rfl rfl
          have JRLx_s84 : RLx s84 := RLx_fm Fs84 (by decide) JRLx_s80
          have JMDJ_s84 : MDJ U s84 := MDJ_fm Fs84 (by decide) JMDJ_s80
          have ws84_73 : iI s84 73 = iI s80 73 := fm_iq Fs84 rfl
          have ws84_89 : iI s84 89 = iI s80 89 := fm_iq Fs84 rfl
          have aws84_228 : SAM 228 s s84 := sam_ts aws80_228 (sam_fm Fs84 (by decide))
          have hC1 : CST U (pfM s) e85 := by have z := hps84.1; rw [show pfM s80 = pfM s from funext aws80_228] at z; exact z
          refine z_store_n X (lv' := [(3, .int (Int32.ofInt e85)), (0, .ref (A 179)), (1, .int (Int32.ofInt x)), (2, .int (Int32.ofInt y))]) rfl (by decide) (fun _ h => h) (z_aload_n X (x := A 179) rfl (List.Mem.tail _ (List.Mem.head _)) (s_getR X 179 rfl (c518_ok rfl) rfl rfl (z_load_n X (x := x) rfl (List.Mem.tail _ (List.Mem.tail _ (List.Mem.head _))) (z_ald X 256 rfl (c518_ok rfl) rfl (by first | exact oq_7bca4f44 g83 hps80 g76 b75.1 hps73 vs3 | exact oq_205ef512 g83 hps80 g76 b75.1 hps73 vs3 | omega) (show x < 128 by first | exact oq_02757110 g83 hps80 g76 b75.1 hps73 vs3 | exact oq_60a6000f g83 hps80 g76 b75.1 hps73 vs3 | omega) (cbig_ok rfl) ?_))))
          have b86 := bc_228 Is84 (show (x).toNat < 128 by first | exact oq_b15e11a6 g83 hps80 g76 b75.1 hps73 vs3 | exact oq_b017509b g83 hps80 g76 b75.1 hps73 vs3 | omega)
          have ar87 : iC s84 228 (x).toNat = iC s 228 (x).toNat := aws84_228 _
          refine z_store X (lv' := [(4, .int (Int32.ofInt (iC s84 228 (x).toNat))), (3, .int (Int32.ofInt e85)), (0, .ref (A 179)), (1, .int (Int32.ofInt x)), (2, .int (Int32.ofInt y))]) rfl (by decide) (fun _ h => h) ?_
          have hOl : pfM s (x : Int).toNat = (iC s84 228 (x).toNat) := (aws84_228 (x : Int).toNat).symm
          refine z_aload_n X (x := A 179) rfl (List.Mem.tail _ (List.Mem.tail _ (List.Mem.head _))) (s_getR X 179 rfl (c518_ok rfl) rfl rfl (z_load_n X (x := x) rfl (List.Mem.tail _ (List.Mem.tail _ (List.Mem.tail _ (List.Mem.head _)))) (z_load_n X (x := y) rfl (List.Mem.tail _ (List.Mem.tail _ (List.Mem.tail _ (List.Mem.tail _ (List.Mem.head _))))) (z_ast X 256 rfl (c518_ok rfl) rfl (by first | exact oq_7bca4f44 g83 hps80 g76 b75.1 hps73 vs3 | exact oq_205ef512 g83 hps80 g76 b75.1 hps73 vs3 | omega) (show x < 128 by first | exact oq_02757110 g83 hps80 g76 b75.1 hps73 vs3 | exact oq_60a6000f g83 hps80 g76 b75.1 hps73 vs3 | omega) (cbig_ok rfl) (wd_gen (fun s88 hs88 => ?_))))))
          have Is88 : Bd s88 := eqB hs88 (bd_C Is84 (show ((-1) : Int) ≤ y ∧ y ≤ 7 by first | exact ⟨oq_3b413d69 g83 hps80 g76 b75.1 hps73 vs3, oq_9ed0cc03 g83 hps80 g76 b75.1 hps73 vs3⟩ | exact And.intro (oq_1d728835 g83 hps80 g76 b75.1 hps73 vs3) (oq_81b33e5d g83 hps80 g76 b75.1 hps73 vs3) | omega) ⟨by first | exact p1.1 | omega, by first | exact p1.2 | omega⟩)
          have Fs88 := eqF hs88 (fm_C Gs84 (inl_ok (a := 228) rfl))
          have ws88_73 : iI s88 73 = iI s84 73 := eqI hs88 rfl
          have ws88_89 : iI s88 89 = iI s84 89 := eqI hs88 rfl
          have aws88_228 : UPD 228 (x) y s s88 := by rw [hs88]; exact upd_put aws84_228 ⟨by first | exact p1.1 | omega, by first | exact p1.2 | omega⟩
          have fs88 : Fm [] [228] s84 s88 := by rw [hs88]; exact fm_C (fm_rf _ _ _) (show 228 ∈ _ by decide)
          have JRLx_s88 : RLx s88 := RLx_fm fs88 (by decide) JRLx_s84
          have JMDJ_s88 : MDJ U s88 := MDJ_fm fs88 (by decide) JMDJ_s84
          have hP1 : pfM s88 = (upF (pfM s) (x : Int).toNat y) := upm_upd aws88_228
          refine z_aload_n X (x := A 179) rfl (List.Mem.tail _ (List.Mem.tail _ (List.Mem.head _))) (zcV_i1 X E 179 (As := []) (st := []) rfl rfl rfl rfl (k_costOf3 G Is88 JRLx_s88 JMDJ_s88 (by first | exact oq_2013374c ws88_89 ws84_89 ws80_89 ws73_89 ws3_89 b2.1 p2 | omega)) rfl (Nat.le_of_ble_eq_true rfl) (fun s89 e90 Is89 Fs89 JRLx_s89 hrs89 hps89 => ?_))
          have Gs89 := fm_tq Fs88 Fs89 rfl rfl
          have JRLx_s89 : RLx s89 := RLx_fm Fs89 (by decide) JRLx_s88
          have ws89_73 : iI s89 73 = iI s88 73 := fm_iq Fs89 rfl
          have ws89_89 : iI s89 89 = iI s88 89 := fm_iq Fs89 rfl
          have aws89_228 : SAM 228 s88 s89 := sam_ts (sam_rf (a := 228) (s := s88)) (sam_fm Fs89 (by decide))
          have hC2 : CST U (upF (pfM s) (x : Int).toNat y) e90 := by have z := hps89.1; rw [hP1] at z; exact z
          refine z_store X (lv' := [(5, .int (Int32.ofInt e90)), (4, .int (Int32.ofInt (iC s84 228 (x).toNat))), (3, .int (Int32.ofInt e85)), (0, .ref (A 179)), (1, .int (Int32.ofInt x)), (2, .int (Int32.ofInt y))]) rfl (by decide) (fun _ h => h) (z_aload_n X (x := A 179) rfl (List.Mem.tail _ (List.Mem.tail _ (List.Mem.tail _ (List.Mem.head _)))) (s_getR X 179 rfl (c518_ok rfl) rfl rfl (z_load_n X (x := x) rfl (List.Mem.tail _ (List.Mem.tail _ (List.Mem.tail _ (List.Mem.tail _ (List.Mem.head _))))) (z_load X (x := (iC s84 228 (x).toNat)) rfl (List.Mem.tail _ (List.Mem.head _)) (z_ast X 256 rfl (c518_ok rfl) rfl (by first | exact oq_7bca4f44 g83 hps80 g76 b75.1 hps73 vs3 | exact oq_205ef512 g83 hps80 g76 b75.1 hps73 vs3 | omega) (show x < 128 by first | exact oq_02757110 g83 hps80 g76 b75.1 hps73 vs3 | exact oq_60a6000f g83 hps80 g76 b75.1 hps73 vs3 | omega) (cbig_ok rfl) (wd_gen (fun s91 hs91 => ?_)))))))
          have Is91 : Bd s91 := eqB hs91 (bd_C Is89 (show ((-1) : Int) ≤ (iC s84 228 (x).toNat) ∧ (iC s84 228 (x).toNat) ≤ 7 by first | exact ⟨b86.1, b86.2⟩ | omega) (rng_to _))
          have Fs91 := eqF hs91 (fm_C Gs89 (inl_ok (a := 228) rfl))
          have ws91_73 : iI s91 73 = iI s89 73 := eqI hs91 rfl
          have ws91_89 : iI s91 89 = iI s89 89 := eqI hs91 rfl
          have aws91_228 : UPD 228 (x) (iC s84 228 (x).toNat) s88 s91 := by rw [hs91]; exact upd_put aws89_228 (rng_to _)
          have fs91 : Fm [] [228] s89 s91 := by rw [hs91]; exact fm_C (fm_rf _ _ _) (show 228 ∈ _ by decide)
          have JRLx_s91 : RLx s91 := RLx_fm fs91 (by decide) JRLx_s89
          have hPe : pfM s91 = pfM s := by rw [upm_upd aws91_228, hP1, upf_up]; exact upf_id hOl
          refine z_load_n X (x := e85) rfl (List.Mem.tail _ (List.Mem.tail _ (List.Mem.head _))) (z_load X (x := e90) rfl (List.Mem.head _) (z_sub X rfl (z_anyV (fun y92 hy92 ey92 => ?_))))
          exact w_iret X.1 q hRt rfl (ax_d X (show cdA 291 111 = some (.ireturn, 1, 0, 0, 0) from rfl)) (Nat.zero_le _) (Nat.zero_le _) ⟨_, rfl, Is91, Fs91, JRLx_s91, y92, rfl, hy92, Or.inl ⟨by first | exact oq_7bca4f44 g83 hps80 g76 b75.1 hps73 vs3 | exact oq_205ef512 g83 hps80 g76 b75.1 hps73 vs3 | omega, by first | exact oq_8960f5c7 g83 hps80 g76 b75.1 hps73 vs3 | exact oq_ef9cfd55 g83 hps80 g76 b75.1 hps73 vs3 | omega, by first | exact oq_7bca4f44 g83 hps80 g76 b75.1 hps73 vs3 | exact oq_205ef512 g83 hps80 g76 b75.1 hps73 vs3 | omega, by first | exact oq_9ed0cc03 g83 hps80 g76 b75.1 hps73 vs3 | exact oq_81b33e5d g83 hps80 g76 b75.1 hps73 vs3 | omega, by first | exact oq_5358420f g83 hps80 g76 b75.1 hps73 vs3 | exact oq_a6a02588 g83 hps80 g76 b75.1 hps73 vs3 | omega, by first | exact oq_547aaeb2 g83 hps80 g76 b75.1 hps73 vs3 | exact oq_9aab2f6c g83 hps80 g76 b75.1 hps73 vs3 | omega, by first | exact oq_350b7988 ws91_73 ws89_73 ws88_73 ws84_73 g83 b82.1 hps80 g76 hps73 vs3 | exact oq_06a361ab ws91_73 ws89_73 ws88_73 ws84_73 g83 b82.1 hps80 | omega, (fun j => congrFun hPe j), ⟨hy92, _, _, hC1, hC2, ey92⟩⟩⟩
        ·
          refine z_const X rfl ?_
          exact w_iret X.1 q hRt rfl (ax_d X (show cdA 291 72 = some (.ireturn, 1, 0, 0, 0) from rfl)) (Nat.zero_le _) (Nat.zero_le _) ⟨_, rfl, Is80, Gs80, JRLx_s80, 0, rfl, (by decide), Or.inr ⟨by first | exact oq_7e508a98 g76 hps73 vs3 | exact Or.inl (And.intro (Or.inl (oq_53fd08de g76 hps73 vs3)) (oq_dcc1501e g76 hps73 vs3)) | omega, aws80_228⟩⟩
      ·
        have hz93 := aws73_228 (x : Int).toNat
        refine z_aload_n X (x := A 179) rfl (List.Mem.head _) (s_getR X 179 rfl (c518_ok rfl) rfl rfl (z_load_n X (x := x) rfl (List.Mem.tail _ (List.Mem.head _)) (z_ald X 256 rfl (c518_ok rfl) rfl (by first | exact oq_674898f9 g76 hps73 vs3 | exact oq_3fe98d9b g76 hps73 vs3 | omega) (show x < 128 by first | exact oq_f0812281 g76 hps73 vs3 | exact oq_16c9c91c g76 hps73 vs3 | omega) (cbig_ok rfl) ?_)))
        have b94 := bc_228 Is73 (show (x).toNat < 128 by first | exact oq_bda6cf9e g76 hps73 vs3 | exact oq_b6b30585 g76 hps73 vs3 | omega)
        have ar95 : iC s73 228 (x).toNat = iC s 228 (x).toNat := aws73_228 _
        refine z_const X rfl (z_icmp_eq X (t := 59) rfl rfl (rng_to _) (by decide) (fun g96 => ?_) (fun g96 => ?_))
        ·
          refine z_const X rfl (z_goto X (t := 64) rfl rfl (z_const X rfl (zcV_i0 X E 179 (As := [.int (Int32.ofInt 1), .int (Int32.ofInt 2)]) (st := []) rfl rfl rfl rfl (k_bad2 G Is73 (by first | exact Or.inr (by decide) | omega) (by first | exact ⟨by decide, by decide⟩ | omega)) rfl (Nat.le_of_ble_eq_true rfl) (fun s97 e98 Is97 Fs97 hrs97 hps97 => ?_))))
          have Gs97 := fm_tq Gs73 Fs97 rfl rfl
          have JRLx_s97 : RLx s97 := RLx_fm Fs97 (by decide) JRLx_s73
          have JMDJ_s97 : MDJ U s97 := MDJ_fm Fs97 (by decide) JMDJ_s73
          have b99 := bi_73 Is97
          have ws97_89 : iI s97 89 = iI s73 89 := fm_iq Fs97 rfl
          have aws97_228 : SAM 228 s s97 := sam_ts aws73_228 (sam_fm Fs97 (by decide))
          refine z_if_eq X (t := 73) rfl rfl hrs97 (fun g100 => ?_) (fun g100 => ?_)
          ·
            refine z_aload_n X (x := A 179) rfl (List.Mem.head _) (zcV_i1 X E 179 (As := []) (st := []) rfl rfl rfl rfl (k_costOf3 G Is97 JRLx_s97 JMDJ_s97 (by first | exact oq_29301542 ws97_89 ws73_89 ws3_89 p2 b2.1 | omega)) rfl (Nat.le_of_ble_eq_true rfl) (fun s101 e102 Is101 Fs101 JRLx_s101 hrs101 hps101 => ?_))
            have Gs101 := fm_tq Gs97 Fs101 rfl rfl
            have JRLx_s101 : RLx s101 := RLx_fm Fs101 (by decide) JRLx_s97
            have JMDJ_s101 : MDJ U s101 := MDJ_fm Fs101 (by decide) JMDJ_s97
            have ws101_73 : iI s101 73 = iI s97 73 := fm_iq Fs101 rfl
            have ws101_89 : iI s101 89 = iI s97 89 := fm_iq Fs101 rfl
            have aws101_228 : SAM 228 s s101 := sam_ts aws97_228 (sam_fm Fs101 (by decide))
            have hC1 : CST U (pfM s) e102 := by have z := hps101.1; rw [show pfM s97 = pfM s from funext aws97_228] at z; exact z
            refine z_store_n X (lv' := [(3, .int (Int32.ofInt e102)), (0, .ref (A 179)), (1, .int (Int32.ofInt x)), (2, .int (Int32.ofInt y))]) rfl (by decide) (fun _ h => h) (z_aload_n X (x := A 179) rfl (List.Mem.tail _ (List.Mem.head _)) (s_getR X 179 rfl (c518_ok rfl) rfl rfl (z_load_n X (x := x) rfl (List.Mem.tail _ (List.Mem.tail _ (List.Mem.head _))) (z_ald X 256 rfl (c518_ok rfl) rfl (by first | exact oq_7bca4f44 g100 hps97 g76 b75.1 hps73 vs3 | exact oq_205ef512 g100 hps97 g76 b75.1 hps73 vs3 | omega) (show x < 128 by first | exact oq_02757110 g100 hps97 g76 b75.1 hps73 vs3 | exact oq_60a6000f g100 hps97 g76 b75.1 hps73 vs3 | omega) (cbig_ok rfl) ?_))))
            have b103 := bc_228 Is101 (show (x).toNat < 128 by first | exact oq_b15e11a6 g100 hps97 g76 b75.1 hps73 vs3 | exact oq_b017509b g100 hps97 g76 b75.1 hps73 vs3 | omega)
            have ar104 : iC s101 228 (x).toNat = iC s 228 (x).toNat := aws101_228 _
            refine z_store X (lv' := [(4, .int (Int32.ofInt (iC s101 228 (x).toNat))), (3, .int (Int32.ofInt e102)), (0, .ref (A 179)), (1, .int (Int32.ofInt x)), (2, .int (Int32.ofInt y))]) rfl (by decide) (fun _ h => h) ?_
            have hOl : pfM s (x : Int).toNat = (iC s101 228 (x).toNat) := (aws101_228 (x : Int).toNat).symm
            refine z_aload_n X (x := A 179) rfl (List.Mem.tail _ (List.Mem.tail _ (List.Mem.head _))) (s_getR X 179 rfl (c518_ok rfl) rfl rfl (z_load_n X (x := x) rfl (List.Mem.tail _ (List.Mem.tail _ (List.Mem.tail _ (List.Mem.head _)))) (z_load_n X (x := y) rfl (List.Mem.tail _ (List.Mem.tail _ (List.Mem.tail _ (List.Mem.tail _ (List.Mem.head _))))) (z_ast X 256 rfl (c518_ok rfl) rfl (by first | exact oq_7bca4f44 g100 hps97 g76 b75.1 hps73 vs3 | exact oq_205ef512 g100 hps97 g76 b75.1 hps73 vs3 | omega) (show x < 128 by first | exact oq_02757110 g100 hps97 g76 b75.1 hps73 vs3 | exact oq_60a6000f g100 hps97 g76 b75.1 hps73 vs3 | omega) (cbig_ok rfl) (wd_gen (fun s105 hs105 => ?_))))))
            have Is105 : Bd s105 := eqB hs105 (bd_C Is101 (show ((-1) : Int) ≤ y ∧ y ≤ 7 by first | exact ⟨oq_a3a4b4d2 g79 hps77, oq_ca823699 g79 hps77⟩ | omega) ⟨by first | exact p1.1 | omega, by first | exact p1.2 | omega⟩)
            have Fs105 := eqF hs105 (fm_C Gs101 (inl_ok (a := 228) rfl))
            have ws105_73 : iI s105 73 = iI s101 73 := eqI hs105 rfl
            have ws105_89 : iI s105 89 = iI s101 89 := eqI hs105 rfl
            have aws105_228 : UPD 228 (x) y s s105 := by rw [hs105]; exact upd_put aws101_228 ⟨by first | exact p1.1 | omega, by first | exact p1.2 | omega⟩
            have fs105 : Fm [] [228] s101 s105 := by rw [hs105]; exact fm_C (fm_rf _ _ _) (show 228 ∈ _ by decide)
            have JRLx_s105 : RLx s105 := RLx_fm fs105 (by decide) JRLx_s101
            have JMDJ_s105 : MDJ U s105 := MDJ_fm fs105 (by decide) JMDJ_s101
            have hP1 : pfM s105 = (upF (pfM s) (x : Int).toNat y) := upm_upd aws105_228
            refine z_aload_n X (x := A 179) rfl (List.Mem.tail _ (List.Mem.tail _ (List.Mem.head _))) (zcV_i1 X E 179 (As := []) (st := []) rfl rfl rfl rfl (k_costOf3 G Is105 JRLx_s105 JMDJ_s105 (by first | exact oq_2013374c ws105_89 ws101_89 ws97_89 ws73_89 ws3_89 b2.1 p2 | omega)) rfl (Nat.le_of_ble_eq_true rfl) (fun s106 e107 Is106 Fs106 JRLx_s106 hrs106 hps106 => ?_))
            have Gs106 := fm_tq Fs105 Fs106 rfl rfl
            have JRLx_s106 : RLx s106 := RLx_fm Fs106 (by decide) JRLx_s105
            have ws106_73 : iI s106 73 = iI s105 73 := fm_iq Fs106 rfl
            have ws106_89 : iI s106 89 = iI s105 89 := fm_iq Fs106 rfl
            have aws106_228 : SAM 228 s105 s106 := sam_ts (sam_rf (a := 228) (s := s105)) (sam_fm Fs106 (by decide))
            have hC2 : CST U (upF (pfM s) (x : Int).toNat y) e107 := by have z := hps106.1; rw [hP1] at z; exact z
            refine z_store X (lv' := [(5, .int (Int32.ofInt e107)), (4, .int (Int32.ofInt (iC s101 228 (x).toNat))), (3, .int (Int32.ofInt e102)), (0, .ref (A 179)), (1, .int (Int32.ofInt x)), (2, .int (Int32.ofInt y))]) rfl (by decide) (fun _ h => h) (z_aload_n X (x := A 179) rfl (List.Mem.tail _ (List.Mem.tail _ (List.Mem.tail _ (List.Mem.head _)))) (s_getR X 179 rfl (c518_ok rfl) rfl rfl (z_load_n X (x := x) rfl (List.Mem.tail _ (List.Mem.tail _ (List.Mem.tail _ (List.Mem.tail _ (List.Mem.head _))))) (z_load X (x := (iC s101 228 (x).toNat)) rfl (List.Mem.tail _ (List.Mem.head _)) (z_ast X 256 rfl (c518_ok rfl) rfl (by first | exact oq_7bca4f44 g100 hps97 g76 b75.1 hps73 vs3 | exact oq_205ef512 g100 hps97 g76 b75.1 hps73 vs3 | omega) (show x < 128 by first | exact oq_02757110 g100 hps97 g76 b75.1 hps73 vs3 | exact oq_60a6000f g100 hps97 g76 b75.1 hps73 vs3 | omega) (cbig_ok rfl) (wd_gen (fun s108 hs108 => ?_)))))))
            have Is108 : Bd s108 := eqB hs108 (bd_C Is106 (show ((-1) : Int) ≤ (iC s101 228 (x).toNat) ∧ (iC s101 228 (x).toNat) ≤ 7 by first | exact ⟨b103.1, b103.2⟩ | omega) (rng_to _))
            have Fs108 := eqF hs108 (fm_C Gs106 (inl_ok (a := 228) rfl))
            have ws108_73 : iI s108 73 = iI s106 73 := eqI hs108 rfl
            have ws108_89 : iI s108 89 = iI s106 89 := eqI hs108 rfl
            have aws108_228 : UPD 228 (x) (iC s101 228 (x).toNat) s105 s108 := by rw [hs108]; exact upd_put aws106_228 (rng_to _)
            have fs108 : Fm [] [228] s106 s108 := by rw [hs108]; exact fm_C (fm_rf _ _ _) (show 228 ∈ _ by decide)
            have JRLx_s108 : RLx s108 := RLx_fm fs108 (by decide) JRLx_s106
            have hPe : pfM s108 = pfM s := by rw [upm_upd aws108_228, hP1, upf_up]; exact upf_id hOl
            refine z_load_n X (x := e102) rfl (List.Mem.tail _ (List.Mem.tail _ (List.Mem.head _))) (z_load X (x := e107) rfl (List.Mem.head _) (z_sub X rfl (z_anyV (fun y109 hy109 ey109 => ?_))))
            exact w_iret X.1 q hRt rfl (ax_d X (show cdA 291 111 = some (.ireturn, 1, 0, 0, 0) from rfl)) (Nat.zero_le _) (Nat.zero_le _) ⟨_, rfl, Is108, Fs108, JRLx_s108, y109, rfl, hy109, Or.inl ⟨by first | exact oq_7bca4f44 g100 hps97 g76 b75.1 hps73 vs3 | exact oq_205ef512 g100 hps97 g76 b75.1 hps73 vs3 | omega, by first | exact oq_8960f5c7 g100 hps97 g76 b75.1 hps73 vs3 | exact oq_ef9cfd55 g100 hps97 g76 b75.1 hps73 vs3 | omega, by first | exact oq_28d92795 g79 hps77 | omega, by first | exact oq_ca823699 g79 hps77 | omega, by first | exact oq_5358420f g100 hps97 g76 b75.1 hps73 vs3 | exact oq_a6a02588 g100 hps97 g76 b75.1 hps73 vs3 | omega, by first | exact oq_17954dec g96 ar95 g79 hps77 | omega, by first | exact oq_350b7988 ws108_73 ws106_73 ws105_73 ws101_73 g100 b99.1 hps97 g76 hps73 vs3 | exact oq_06a361ab ws108_73 ws106_73 ws105_73 ws101_73 g100 b99.1 hps97 | omega, (fun j => congrFun hPe j), ⟨hy109, _, _, hC1, hC2, ey109⟩⟩⟩
          ·
            refine z_const X rfl ?_
            exact w_iret X.1 q hRt rfl (ax_d X (show cdA 291 72 = some (.ireturn, 1, 0, 0, 0) from rfl)) (Nat.zero_le _) (Nat.zero_le _) ⟨_, rfl, Is97, Gs97, JRLx_s97, 0, rfl, (by decide), Or.inr ⟨by first | exact oq_2e1be9de g100 hps97 g76 b75.1 hps73 vs3 | exact Or.inl (And.intro (Or.inl (oq_53fd08de g76 hps73 vs3)) (oq_dcc1501e g76 hps73 vs3)) | omega, aws97_228⟩⟩
        ·
          refine z_aload_n X (x := A 179) rfl (List.Mem.head _) (s_getR X 179 rfl (c518_ok rfl) rfl rfl (z_load_n X (x := x) rfl (List.Mem.tail _ (List.Mem.head _)) (z_ald X 256 rfl (c518_ok rfl) rfl (by first | exact oq_674898f9 g76 hps73 vs3 | exact oq_3fe98d9b g76 hps73 vs3 | omega) (show x < 128 by first | exact oq_f0812281 g76 hps73 vs3 | exact oq_16c9c91c g76 hps73 vs3 | omega) (cbig_ok rfl) ?_)))
          have b110 := bc_228 Is73 (show (x).toNat < 128 by first | exact oq_bda6cf9e g76 hps73 vs3 | exact oq_b6b30585 g76 hps73 vs3 | omega)
          have ar111 : iC s73 228 (x).toNat = iC s 228 (x).toNat := aws73_228 _
          refine z_load_n X (x := y) rfl (List.Mem.tail _ (List.Mem.tail _ (List.Mem.head _))) (z_icmp_ne X (t := 63) rfl rfl (rng_to _) ⟨by first | exact p1.1 | omega, by first | exact p1.2 | omega⟩ (fun g112 => ?_) (fun g112 => ?_))
          ·
            refine z_const X rfl (z_const X rfl (zcV_i0 X E 179 (As := [.int (Int32.ofInt 0), .int (Int32.ofInt 2)]) (st := []) rfl rfl rfl rfl (k_bad2 G Is73 (by first | exact Or.inl (by decide) | omega) (by first | exact ⟨by decide, by decide⟩ | omega)) rfl (Nat.le_of_ble_eq_true rfl) (fun s113 e114 Is113 Fs113 hrs113 hps113 => ?_)))
            have Gs113 := fm_tq Gs73 Fs113 rfl rfl
            have JRLx_s113 : RLx s113 := RLx_fm Fs113 (by decide) JRLx_s73
            have JMDJ_s113 : MDJ U s113 := MDJ_fm Fs113 (by decide) JMDJ_s73
            have b115 := bi_73 Is113
            have ws113_89 : iI s113 89 = iI s73 89 := fm_iq Fs113 rfl
            have aws113_228 : SAM 228 s s113 := sam_ts aws73_228 (sam_fm Fs113 (by decide))
            refine z_if_eq X (t := 73) rfl rfl hrs113 (fun g116 => ?_) (fun g116 => ?_)
            ·
              refine z_aload_n X (x := A 179) rfl (List.Mem.head _) (zcV_i1 X E 179 (As := []) (st := []) rfl rfl rfl rfl (k_costOf3 G Is113 JRLx_s113 JMDJ_s113 (by first | exact oq_29301542 ws113_89 ws73_89 ws3_89 p2 b2.1 | omega)) rfl (Nat.le_of_ble_eq_true rfl) (fun s117 e118 Is117 Fs117 JRLx_s117 hrs117 hps117 => ?_))
              have Gs117 := fm_tq Gs113 Fs117 rfl rfl
              have JRLx_s117 : RLx s117 := RLx_fm Fs117 (by decide) JRLx_s113
              have JMDJ_s117 : MDJ U s117 := MDJ_fm Fs117 (by decide) JMDJ_s113
              have ws117_73 : iI s117 73 = iI s113 73 := fm_iq Fs117 rfl
              have ws117_89 : iI s117 89 = iI s113 89 := fm_iq Fs117 rfl
              have aws117_228 : SAM 228 s s117 := sam_ts aws113_228 (sam_fm Fs117 (by decide))
              have hC1 : CST U (pfM s) e118 := by have z := hps117.1; rw [show pfM s113 = pfM s from funext aws113_228] at z; exact z
              refine z_store_n X (lv' := [(3, .int (Int32.ofInt e118)), (0, .ref (A 179)), (1, .int (Int32.ofInt x)), (2, .int (Int32.ofInt y))]) rfl (by decide) (fun _ h => h) (z_aload_n X (x := A 179) rfl (List.Mem.tail _ (List.Mem.head _)) (s_getR X 179 rfl (c518_ok rfl) rfl rfl (z_load_n X (x := x) rfl (List.Mem.tail _ (List.Mem.tail _ (List.Mem.head _))) (z_ald X 256 rfl (c518_ok rfl) rfl (by first | exact oq_674898f9 g76 hps73 vs3 | exact oq_3fe98d9b g76 hps73 vs3 | omega) (show x < 128 by first | exact oq_f0812281 g76 hps73 vs3 | exact oq_16c9c91c g76 hps73 vs3 | omega) (cbig_ok rfl) ?_))))
              have b119 := bc_228 Is117 (show (x).toNat < 128 by first | exact oq_bda6cf9e g76 hps73 vs3 | exact oq_b6b30585 g76 hps73 vs3 | omega)
              have ar120 : iC s117 228 (x).toNat = iC s 228 (x).toNat := aws117_228 _
              refine z_store X (lv' := [(4, .int (Int32.ofInt (iC s117 228 (x).toNat))), (3, .int (Int32.ofInt e118)), (0, .ref (A 179)), (1, .int (Int32.ofInt x)), (2, .int (Int32.ofInt y))]) rfl (by decide) (fun _ h => h) ?_
              have hOl : pfM s (x : Int).toNat = (iC s117 228 (x).toNat) := (aws117_228 (x : Int).toNat).symm
              refine z_aload_n X (x := A 179) rfl (List.Mem.tail _ (List.Mem.tail _ (List.Mem.head _))) (s_getR X 179 rfl (c518_ok rfl) rfl rfl (z_load_n X (x := x) rfl (List.Mem.tail _ (List.Mem.tail _ (List.Mem.tail _ (List.Mem.head _)))) (z_load_n X (x := y) rfl (List.Mem.tail _ (List.Mem.tail _ (List.Mem.tail _ (List.Mem.tail _ (List.Mem.head _))))) (z_ast X 256 rfl (c518_ok rfl) rfl (by first | exact oq_674898f9 g76 hps73 vs3 | exact oq_3fe98d9b g76 hps73 vs3 | omega) (show x < 128 by first | exact oq_f0812281 g76 hps73 vs3 | exact oq_16c9c91c g76 hps73 vs3 | omega) (cbig_ok rfl) (wd_gen (fun s121 hs121 => ?_))))))
              have Is121 : Bd s121 := eqB hs121 (bd_C Is117 (show ((-1) : Int) ≤ y ∧ y ≤ 7 by first | exact ⟨oq_a3a4b4d2 g79 hps77, oq_ca823699 g79 hps77⟩ | omega) ⟨by first | exact p1.1 | omega, by first | exact p1.2 | omega⟩)
              have Fs121 := eqF hs121 (fm_C Gs117 (inl_ok (a := 228) rfl))
              have ws121_73 : iI s121 73 = iI s117 73 := eqI hs121 rfl
              have ws121_89 : iI s121 89 = iI s117 89 := eqI hs121 rfl
              have aws121_228 : UPD 228 (x) y s s121 := by rw [hs121]; exact upd_put aws117_228 ⟨by first | exact p1.1 | omega, by first | exact p1.2 | omega⟩
              have fs121 : Fm [] [228] s117 s121 := by rw [hs121]; exact fm_C (fm_rf _ _ _) (show 228 ∈ _ by decide)
              have JRLx_s121 : RLx s121 := RLx_fm fs121 (by decide) JRLx_s117
              have JMDJ_s121 : MDJ U s121 := MDJ_fm fs121 (by decide) JMDJ_s117
              have hP1 : pfM s121 = (upF (pfM s) (x : Int).toNat y) := upm_upd aws121_228
              refine z_aload_n X (x := A 179) rfl (List.Mem.tail _ (List.Mem.tail _ (List.Mem.head _))) (zcV_i1 X E 179 (As := []) (st := []) rfl rfl rfl rfl (k_costOf3 G Is121 JRLx_s121 JMDJ_s121 (by first | exact oq_2013374c ws121_89 ws117_89 ws113_89 ws73_89 ws3_89 b2.1 p2 | omega)) rfl (Nat.le_of_ble_eq_true rfl) (fun s122 e123 Is122 Fs122 JRLx_s122 hrs122 hps122 => ?_))
              have Gs122 := fm_tq Fs121 Fs122 rfl rfl
              have JRLx_s122 : RLx s122 := RLx_fm Fs122 (by decide) JRLx_s121
              have ws122_73 : iI s122 73 = iI s121 73 := fm_iq Fs122 rfl
              have ws122_89 : iI s122 89 = iI s121 89 := fm_iq Fs122 rfl
              have aws122_228 : SAM 228 s121 s122 := sam_ts (sam_rf (a := 228) (s := s121)) (sam_fm Fs122 (by decide))
              have hC2 : CST U (upF (pfM s) (x : Int).toNat y) e123 := by have z := hps122.1; rw [hP1] at z; exact z
              refine z_store X (lv' := [(5, .int (Int32.ofInt e123)), (4, .int (Int32.ofInt (iC s117 228 (x).toNat))), (3, .int (Int32.ofInt e118)), (0, .ref (A 179)), (1, .int (Int32.ofInt x)), (2, .int (Int32.ofInt y))]) rfl (by decide) (fun _ h => h) (z_aload_n X (x := A 179) rfl (List.Mem.tail _ (List.Mem.tail _ (List.Mem.tail _ (List.Mem.head _)))) (s_getR X 179 rfl (c518_ok rfl) rfl rfl (z_load_n X (x := x) rfl (List.Mem.tail _ (List.Mem.tail _ (List.Mem.tail _ (List.Mem.tail _ (List.Mem.head _))))) (z_load X (x := (iC s117 228 (x).toNat)) rfl (List.Mem.tail _ (List.Mem.head _)) (z_ast X 256 rfl (c518_ok rfl) rfl (by first | exact oq_674898f9 g76 hps73 vs3 | exact oq_3fe98d9b g76 hps73 vs3 | omega) (show x < 128 by first | exact oq_f0812281 g76 hps73 vs3 | exact oq_16c9c91c g76 hps73 vs3 | omega) (cbig_ok rfl) (wd_gen (fun s124 hs124 => ?_)))))))
              have Is124 : Bd s124 := eqB hs124 (bd_C Is122 (show ((-1) : Int) ≤ (iC s117 228 (x).toNat) ∧ (iC s117 228 (x).toNat) ≤ 7 by first | exact ⟨b119.1, b119.2⟩ | omega) (rng_to _))
              have Fs124 := eqF hs124 (fm_C Gs122 (inl_ok (a := 228) rfl))
              have ws124_73 : iI s124 73 = iI s122 73 := eqI hs124 rfl
              have ws124_89 : iI s124 89 = iI s122 89 := eqI hs124 rfl
              have aws124_228 : UPD 228 (x) (iC s117 228 (x).toNat) s121 s124 := by rw [hs124]; exact upd_put aws122_228 (rng_to _)
              have fs124 : Fm [] [228] s122 s124 := by rw [hs124]; exact fm_C (fm_rf _ _ _) (show 228 ∈ _ by decide)
              have JRLx_s124 : RLx s124 := RLx_fm fs124 (by decide) JRLx_s122
              have hPe : pfM s124 = pfM s := by rw [upm_upd aws124_228, hP1, upf_up]; exact upf_id hOl
              refine z_load_n X (x := e118) rfl (List.Mem.tail _ (List.Mem.tail _ (List.Mem.head _))) (z_load X (x := e123) rfl (List.Mem.head _) (z_sub X rfl (z_anyV (fun y125 hy125 ey125 => ?_))))
              exact w_iret X.1 q hRt rfl (ax_d X (show cdA 291 111 = some (.ireturn, 1, 0, 0, 0) from rfl)) (Nat.zero_le _) (Nat.zero_le _) ⟨_, rfl, Is124, Fs124, JRLx_s124, y125, rfl, hy125, Or.inl ⟨by first | exact oq_674898f9 g76 hps73 vs3 | exact oq_3fe98d9b g76 hps73 vs3 | omega, by first | exact oq_8c12aa35 g76 hps73 vs3 | exact oq_1e93e8cc g76 hps73 vs3 | omega, by first | exact oq_28d92795 g79 hps77 | omega, by first | exact oq_ca823699 g79 hps77 | omega, by first | exact oq_5cd2acae ar111 b110.1 g96 | omega, by first | exact oq_fdab8905 g112 ar111 | omega, by first | exact oq_add1cd12 ws124_73 ws122_73 ws121_73 ws117_73 b115.1 hps113 g76 hps73 vs3 | exact oq_400ee510 ws124_73 ws122_73 ws121_73 ws117_73 g116 b115.1 hps113 | omega, (fun j => congrFun hPe j), ⟨hy125, _, _, hC1, hC2, ey125⟩⟩⟩
            ·
              refine z_const X rfl ?_
              exact w_iret X.1 q hRt rfl (ax_d X (show cdA 291 72 = some (.ireturn, 1, 0, 0, 0) from rfl)) (Nat.zero_le _) (Nat.zero_le _) ⟨_, rfl, Is113, Gs113, JRLx_s113, 0, rfl, (by decide), Or.inr ⟨by first | exact oq_703af1d0 g116 hps113 g76 b75.1 hps73 vs3 | exact Or.inl (And.intro (Or.inl (oq_693fc365 g116 hps113 g76 b75.1 hps73 vs3)) (oq_96c24fd2 g116 hps113 g76 b75.1 hps73 vs3)) | omega, aws113_228⟩⟩
          ·
            refine z_const X rfl (z_goto X (t := 64) rfl rfl (z_const X rfl (zcV_i0 X E 179 (As := [.int (Int32.ofInt 1), .int (Int32.ofInt 2)]) (st := []) rfl rfl rfl rfl (k_bad2 G Is73 (by first | exact Or.inr (by decide) | omega) (by first | exact ⟨by decide, by decide⟩ | omega)) rfl (Nat.le_of_ble_eq_true rfl) (fun s126 e127 Is126 Fs126 hrs126 hps126 => ?_))))
            have Gs126 := fm_tq Gs73 Fs126 rfl rfl
            have JRLx_s126 : RLx s126 := RLx_fm Fs126 (by decide) JRLx_s73
            have JMDJ_s126 : MDJ U s126 := MDJ_fm Fs126 (by decide) JMDJ_s73
            have b128 := bi_73 Is126
            have ws126_89 : iI s126 89 = iI s73 89 := fm_iq Fs126 rfl
            have aws126_228 : SAM 228 s s126 := sam_ts aws73_228 (sam_fm Fs126 (by decide))
            refine z_if_eq X (t := 73) rfl rfl hrs126 (fun g129 => ?_) (fun g129 => ?_)
            ·
              refine z_aload_n X (x := A 179) rfl (List.Mem.head _) (zcV_i1 X E 179 (As := []) (st := []) rfl rfl rfl rfl (k_costOf3 G Is126 JRLx_s126 JMDJ_s126 (by first | exact oq_29301542 ws126_89 ws73_89 ws3_89 p2 b2.1 | omega)) rfl (Nat.le_of_ble_eq_true rfl) (fun s130 e131 Is130 Fs130 JRLx_s130 hrs130 hps130 => ?_))
              have Gs130 := fm_tq Gs126 Fs130 rfl rfl
              have JRLx_s130 : RLx s130 := RLx_fm Fs130 (by decide) JRLx_s126
              have JMDJ_s130 : MDJ U s130 := MDJ_fm Fs130 (by decide) JMDJ_s126
              have ws130_73 : iI s130 73 = iI s126 73 := fm_iq Fs130 rfl
              have ws130_89 : iI s130 89 = iI s126 89 := fm_iq Fs130 rfl
              have aws130_228 : SAM 228 s s130 := sam_ts aws126_228 (sam_fm Fs130 (by decide))
              have hC1 : CST U (pfM s) e131 := by have z := hps130.1; rw [show pfM s126 = pfM s from funext aws126_228] at z; exact z
              refine z_store_n X (lv' := [(3, .int (Int32.ofInt e131)), (0, .ref (A 179)), (1, .int (Int32.ofInt x)), (2, .int (Int32.ofInt y))]) rfl (by decide) (fun _ h => h) (z_aload_n X (x := A 179) rfl (List.Mem.tail _ (List.Mem.head _)) (s_getR X 179 rfl (c518_ok rfl) rfl rfl (z_load_n X (x := x) rfl (List.Mem.tail _ (List.Mem.tail _ (List.Mem.head _))) (z_ald X 256 rfl (c518_ok rfl) rfl (by first | exact oq_7bca4f44 g129 hps126 g76 b75.1 hps73 vs3 | exact oq_205ef512 g129 hps126 g76 b75.1 hps73 vs3 | omega) (show x < 128 by first | exact oq_02757110 g129 hps126 g76 b75.1 hps73 vs3 | exact oq_60a6000f g129 hps126 g76 b75.1 hps73 vs3 | omega) (cbig_ok rfl) ?_))))
              have b132 := bc_228 Is130 (show (x).toNat < 128 by first | exact oq_b15e11a6 g129 hps126 g76 b75.1 hps73 vs3 | exact oq_b017509b g129 hps126 g76 b75.1 hps73 vs3 | omega)
              have ar133 : iC s130 228 (x).toNat = iC s 228 (x).toNat := aws130_228 _
              refine z_store X (lv' := [(4, .int (Int32.ofInt (iC s130 228 (x).toNat))), (3, .int (Int32.ofInt e131)), (0, .ref (A 179)), (1, .int (Int32.ofInt x)), (2, .int (Int32.ofInt y))]) rfl (by decide) (fun _ h => h) ?_
              have hOl : pfM s (x : Int).toNat = (iC s130 228 (x).toNat) := (aws130_228 (x : Int).toNat).symm
              refine z_aload_n X (x := A 179) rfl (List.Mem.tail _ (List.Mem.tail _ (List.Mem.head _))) (s_getR X 179 rfl (c518_ok rfl) rfl rfl (z_load_n X (x := x) rfl (List.Mem.tail _ (List.Mem.tail _ (List.Mem.tail _ (List.Mem.head _)))) (z_load_n X (x := y) rfl (List.Mem.tail _ (List.Mem.tail _ (List.Mem.tail _ (List.Mem.tail _ (List.Mem.head _))))) (z_ast X 256 rfl (c518_ok rfl) rfl (by first | exact oq_7bca4f44 g129 hps126 g76 b75.1 hps73 vs3 | exact oq_205ef512 g129 hps126 g76 b75.1 hps73 vs3 | omega) (show x < 128 by first | exact oq_02757110 g129 hps126 g76 b75.1 hps73 vs3 | exact oq_60a6000f g129 hps126 g76 b75.1 hps73 vs3 | omega) (cbig_ok rfl) (wd_gen (fun s134 hs134 => ?_))))))
              have Is134 : Bd s134 := eqB hs134 (bd_C Is130 (show ((-1) : Int) ≤ y ∧ y ≤ 7 by first | exact ⟨oq_2d12af5e g112 b110.1, oq_5f8273e9 g112 b110.2⟩ | omega) ⟨by first | exact p1.1 | omega, by first | exact p1.2 | omega⟩)
              have Fs134 := eqF hs134 (fm_C Gs130 (inl_ok (a := 228) rfl))
              have ws134_73 : iI s134 73 = iI s130 73 := eqI hs134 rfl
              have ws134_89 : iI s134 89 = iI s130 89 := eqI hs134 rfl
              have aws134_228 : UPD 228 (x) y s s134 := by rw [hs134]; exact upd_put aws130_228 ⟨by first | exact p1.1 | omega, by first | exact p1.2 | omega⟩
              have fs134 : Fm [] [228] s130 s134 := by rw [hs134]; exact fm_C (fm_rf _ _ _) (show 228 ∈ _ by decide)
              have JRLx_s134 : RLx s134 := RLx_fm fs134 (by decide) JRLx_s130
              have JMDJ_s134 : MDJ U s134 := MDJ_fm fs134 (by decide) JMDJ_s130
              have hP1 : pfM s134 = (upF (pfM s) (x : Int).toNat y) := upm_upd aws134_228
              refine z_aload_n X (x := A 179) rfl (List.Mem.tail _ (List.Mem.tail _ (List.Mem.head _))) (zcV_i1 X E 179 (As := []) (st := []) rfl rfl rfl rfl (k_costOf3 G Is134 JRLx_s134 JMDJ_s134 (by first | exact oq_2013374c ws134_89 ws130_89 ws126_89 ws73_89 ws3_89 b2.1 p2 | omega)) rfl (Nat.le_of_ble_eq_true rfl) (fun s135 e136 Is135 Fs135 JRLx_s135 hrs135 hps135 => ?_))
              have Gs135 := fm_tq Fs134 Fs135 rfl rfl
              have JRLx_s135 : RLx s135 := RLx_fm Fs135 (by decide) JRLx_s134
              have ws135_73 : iI s135 73 = iI s134 73 := fm_iq Fs135 rfl
              have ws135_89 : iI s135 89 = iI s134 89 := fm_iq Fs135 rfl
              have aws135_228 : SAM 228 s134 s135 := sam_ts (sam_rf (a := 228) (s := s134)) (sam_fm Fs135 (by decide))
              have hC2 : CST U (upF (pfM s) (x : Int).toNat y) e136 := by have z := hps135.1; rw [hP1] at z; exact z
              refine z_store X (lv' := [(5, .int (Int32.ofInt e136)), (4, .int (Int32.ofInt (iC s130 228 (x).toNat))), (3, .int (Int32.ofInt e131)), (0, .ref (A 179)), (1, .int (Int32.ofInt x)), (2, .int (Int32.ofInt y))]) rfl (by decide) (fun _ h => h) (z_aload_n X (x := A 179) rfl (List.Mem.tail _ (List.Mem.tail _ (List.Mem.tail _ (List.Mem.head _)))) (s_getR X 179 rfl (c518_ok rfl) rfl rfl (z_load_n X (x := x) rfl (List.Mem.tail _ (List.Mem.tail _ (List.Mem.tail _ (List.Mem.tail _ (List.Mem.head _))))) (z_load X (x := (iC s130 228 (x).toNat)) rfl (List.Mem.tail _ (List.Mem.head _)) (z_ast X 256 rfl (c518_ok rfl) rfl (by first | exact oq_7bca4f44 g129 hps126 g76 b75.1 hps73 vs3 | exact oq_205ef512 g129 hps126 g76 b75.1 hps73 vs3 | omega) (show x < 128 by first | exact oq_02757110 g129 hps126 g76 b75.1 hps73 vs3 | exact oq_60a6000f g129 hps126 g76 b75.1 hps73 vs3 | omega) (cbig_ok rfl) (wd_gen (fun s137 hs137 => ?_)))))))
              have Is137 : Bd s137 := eqB hs137 (bd_C Is135 (show ((-1) : Int) ≤ (iC s130 228 (x).toNat) ∧ (iC s130 228 (x).toNat) ≤ 7 by first | exact ⟨b132.1, b132.2⟩ | omega) (rng_to _))
              have Fs137 := eqF hs137 (fm_C Gs135 (inl_ok (a := 228) rfl))
              have ws137_73 : iI s137 73 = iI s135 73 := eqI hs137 rfl
              have ws137_89 : iI s137 89 = iI s135 89 := eqI hs137 rfl
              have aws137_228 : UPD 228 (x) (iC s130 228 (x).toNat) s134 s137 := by rw [hs137]; exact upd_put aws135_228 (rng_to _)
              have fs137 : Fm [] [228] s135 s137 := by rw [hs137]; exact fm_C (fm_rf _ _ _) (show 228 ∈ _ by decide)
              have JRLx_s137 : RLx s137 := RLx_fm fs137 (by decide) JRLx_s135
              have hPe : pfM s137 = pfM s := by rw [upm_upd aws137_228, hP1, upf_up]; exact upf_id hOl
              refine z_load_n X (x := e131) rfl (List.Mem.tail _ (List.Mem.tail _ (List.Mem.head _))) (z_load X (x := e136) rfl (List.Mem.head _) (z_sub X rfl (z_anyV (fun y138 hy138 ey138 => ?_))))
              exact w_iret X.1 q hRt rfl (ax_d X (show cdA 291 111 = some (.ireturn, 1, 0, 0, 0) from rfl)) (Nat.zero_le _) (Nat.zero_le _) ⟨_, rfl, Is137, Fs137, JRLx_s137, y138, rfl, hy138, Or.inl ⟨by first | exact oq_7bca4f44 g129 hps126 g76 b75.1 hps73 vs3 | exact oq_205ef512 g129 hps126 g76 b75.1 hps73 vs3 | omega, by first | exact oq_8960f5c7 g129 hps126 g76 b75.1 hps73 vs3 | exact oq_ef9cfd55 g129 hps126 g76 b75.1 hps73 vs3 | omega, by first | exact oq_f313d06a g112 b110.1 g96 | omega, by first | exact oq_5f8273e9 g112 b110.2 | omega, by first | exact oq_5cd2acae ar111 b110.1 g96 | omega, by first | exact oq_547aaeb2 g129 hps126 g76 b75.1 hps73 vs3 | exact oq_9aab2f6c g129 hps126 g76 b75.1 hps73 vs3 | omega, by first | exact oq_350b7988 ws137_73 ws135_73 ws134_73 ws130_73 g129 b128.1 hps126 g76 hps73 vs3 | exact oq_06a361ab ws137_73 ws135_73 ws134_73 ws130_73 g129 b128.1 hps126 | omega, (fun j => congrFun hPe j), ⟨hy138, _, _, hC1, hC2, ey138⟩⟩⟩
            ·
              refine z_const X rfl ?_
              exact w_iret X.1 q hRt rfl (ax_d X (show cdA 291 72 = some (.ireturn, 1, 0, 0, 0) from rfl)) (Nat.zero_le _) (Nat.zero_le _) ⟨_, rfl, Is126, Gs126, JRLx_s126, 0, rfl, (by decide), Or.inr ⟨by first | exact oq_2e1be9de g129 hps126 g76 b75.1 hps73 vs3 | exact Or.inl (And.intro (Or.inl (oq_53fd08de g76 hps73 vs3)) (oq_dcc1501e g76 hps73 vs3)) | omega, aws126_228⟩⟩
end M87kb
end
section
theorem oq_07b36d6e {a0 a1 a2 a3 a4 a5 : Int} (h0 : a0 = 0) (h1 : ((a1 = 1 ∧ (a2 = 0 ∧ (a3 = 1 ∧ a0 = 1))) ∨ ((a1 = 0 ∨ a2 ≠ 0) ∧ (a3 = a2 ∧ ((a0 = 0 ∧ a2 = 0) ∨ (a0 = 1 ∧ a2 ≠ 0)))))) (h2 : ((a4 ≠ 0 ∧ a1 = 0) ∨ (a4 = 0 ∧ a1 = 1))) (h3 : ((a4 = 1 ∧ (0 ≤ a5 ∧ a5 ≤ 7)) ∨ (a4 = 0 ∧ (a5 < 0 ∨ 7 < a5)))) (h4 : a2 = 0) : 0 ≤ a5 := by omega
theorem oq_63710938 {a0 a1 a2 a3 a4 a5 : Int} (h0 : a0 = 0) (h1 : ((a1 = 1 ∧ (a2 = 0 ∧ (a3 = 1 ∧ a0 = 1))) ∨ ((a1 = 0 ∨ a2 ≠ 0) ∧ (a3 = a2 ∧ ((a0 = 0 ∧ a2 = 0) ∨ (a0 = 1 ∧ a2 ≠ 0)))))) (h2 : ((a4 ≠ 0 ∧ a1 = 0) ∨ (a4 = 0 ∧ a1 = 1))) (h3 : ((a4 = 1 ∧ (0 ≤ a5 ∧ a5 ≤ 7)) ∨ (a4 = 0 ∧ (a5 < 0 ∨ 7 < a5)))) (h4 : a2 = 0) : a5 ≤ 7 := by omega
theorem oq_7a416032 {a0 a1 a2 a3 a4 a5 : Int} (h0 : a0 ≠ 0) (h1 : ((a1 = 1 ∧ (a2 = 0 ∧ (a3 = 1 ∧ a0 = 1))) ∨ ((a1 = 0 ∨ a2 ≠ 0) ∧ (a3 = a2 ∧ ((a0 = 0 ∧ a2 = 0) ∨ (a0 = 1 ∧ a2 ≠ 0)))))) (h2 : ((a4 ≠ 0 ∧ a1 = 0) ∨ (a4 = 0 ∧ a1 = 1))) (h3 : ((a4 = 1 ∧ (0 ≤ a5 ∧ a5 ≤ 7)) ∨ (a4 = 0 ∧ (a5 < 0 ∨ 7 < a5)))) (h4 : a2 = 0) : (a5 < 0 ∨ 7 < a5) := by omega
/-! Whole, and all that holds: one answer -/
theorem hge_eq {f f' : Nat → Int} {p e e' : Int} (h : ∀ j, j < 128 → f j = f' j) (a : HGE (pcS f p) e) (b : HGE (pcS f' p) e') : e = e' := by
  rw [← pcs_c h p] at b
  rcases a with ⟨a1, a2⟩ | ⟨a1, a2⟩
  · rcases b with ⟨b1, b2⟩ | ⟨b1, b2⟩
    · exact a1.trans b1.symm
    · exact absurd a2 b2
  · rcases b with ⟨b1, b2⟩ | ⟨b1, b2⟩
    · exact absurd b2 a2
    · exact a1.trans b1.symm
/-- a piece stands: whole, and never full -/
def STN (U : AirD) (lim f : Nat → Int) (p : Int) : Prop := HngT (pcS f p) ∧ pkH U (pcS f p) ≤ lim p.toNat
/-- all pieces below n that have cells stand -/
def HLN (U : AirD) (lim f : Nat → Int) (n : Int) : Prop := ∀ p : Nat, (p : Int) < n → presF f p → STN U lim f (p : Int)
theorem hln_0 {U : AirD} {lim f : Nat → Int} : HLN U lim f 0 := fun p hp => absurd hp (by omega)
theorem hln_up {U : AirD} {lim f : Nat → Int} {n : Int} (h : HLN U lim f n) (n0 : 0 ≤ n) (g : presF f n.toNat → STN U lim f n) : HLN U lim f (n + 1) := fun p hp q => by
  by_cases z : p = n.toNat
  · subst z
    rw [show ((n.toNat : Nat) : Int) = n by omega]
    exact g q
  · exact h p (by omega) q
def HLE (U : AirD) (lim f : Nat → Int) (e : Int) : Prop := (e = 1 ∧ HLN U lim f 8) ∨ (e = 0 ∧ ¬ HLN U lim f 8)
theorem hle_no {U : AirD} {lim f : Nat → Int} {n : Int} (n0 : 0 ≤ n ∧ n ≤ 7) (hp : presF f n.toNat) (hs : ¬ STN U lim f n) : HLE U lim f 0 := Or.inr ⟨rfl, fun q => hs (by
  have z := q n.toNat (by omega) hp
  rw [show ((n.toNat : Nat) : Int) = n by omega] at z
  exact z)⟩
theorem hle_eq {U : AirD} {f f' lim lim' : Nat → Int} {e e' : Int} (h : ∀ j, j < 128 → f j = f' j) (hl : ∀ j, j < 8 → lim j = lim' j) (a : HLE U lim f e) (b : HLE U lim' f' e') : e = e' := by
  have z : HLN U lim f 8 ↔ HLN U lim' f' 8 := by
    constructor
    · intro q p hp w
      rw [← prs_c h] at w
      have y := q p hp w
      unfold STN at y ⊢
      rw [← pcs_c h, ← hl _ (by omega)]
      exact y
    · intro q p hp w
      rw [prs_c h] at w
      have y := q p hp w
      unfold STN at y ⊢
      rw [pcs_c h, hl _ (by omega)]
      exact y
  rcases a with ⟨a1, a2⟩ | ⟨a1, a2⟩
  · rcases b with ⟨b1, b2⟩ | ⟨b1, b2⟩
    · exact a1.trans b1.symm
    · exact absurd (z.mp a2) b2
  · rcases b with ⟨b1, b2⟩ | ⟨b1, b2⟩
    · exact absurd (z.mpr b2) a2
    · exact a1.trans b1.symm
/-- a piece without cells hangs -/
theorem hng_no {S : Int → Prop} (h : ¬ ∃ x, S x) : HngT S := fun a b ha _ => absurd ⟨a, ha⟩ h
theorem prs_hce {f : Nat → Int} {p e : Int} (h : HCE (pcS f p) e) (p0 : 0 ≤ p) : (e ≠ 0 → presF f p.toNat) ∧ (e = 0 → ¬ presF f p.toNat) := by
  have ep : ((p.toNat : Nat) : Int) = p := by omega
  unfold presF
  rw [ep]
  exact ⟨fun q => h.elim (fun z => z.2) (fun z => absurd z.1 q), fun q => h.elim (fun z => absurd (z.1.symm.trans q) (by decide)) (fun z => z.2)⟩
theorem hge_p {S : Int → Prop} {e : Int} (h : HGE S e) : (e ≠ 0 → HngT S) ∧ (e = 0 → ¬ HngT S) := ⟨fun q => h.elim (fun z => z.2) (fun z => absurd z.1 q), fun q => h.elim (fun z => absurd (z.1.symm.trans q) (by decide)) (fun z => z.2)⟩
section M87kc
variable {l : Launch} {s0 : State} {D : va_G} {tys : List (ClassId × FieldType)} {a0 : Array Value} {A : Nat → Nat} {dT : Nat → ClassId} {s : PS}
set_option maxRecDepth 4000 in
theorem cs_whole6 (G : GX l s0 D tys a0 dT) (I : Bd s) (jPMJ : PMJ s) {u : Int} (p0 : rng u) : CT l s0 D A dT 148 (rmN 148) [.ref (A 0), .int (Int32.ofInt u)] s (fun o t => Bd t ∧ Fm [] [] s t ∧ ((∃ e, o = .inl (some (.int (Int32.ofInt e))) ∧ rng e ∧ (0 ≤ u ∧ u ≤ 7 ∧ (e = 0 ∨ e = 1) ∧ HGE (pcS (pfC s) u) e)) ∨ ∃ x : Nat, o = .inr (exN x) ∧ (x = 0 ∧ (u < 0 ∨ 7 < u)))) := by
  refine ct_ofX G (by decide) (Nat.le_of_ble_eq_true rfl) (fun k X E ET hRt hXt q => ?_)
  show WS k 0 [(0, .ref (A 0)), (1, .int (Int32.ofInt u))] [] _ 0 0
  have F : Fm [] [] s s := fm_rf _ _ s
  have aw0_21 : SAM 21 s s := sam_rf
  refine z_aload_n X (x := A 0) rfl (List.Mem.head _) (z_load_n X (x := u) rfl (List.Mem.tail _ (List.Mem.head _)) (z_callV X 0 (rm := rmN 182) (As := [.int (Int32.ofInt u)]) (st := []) rfl rfl (by decide) rfl (by rw [E.1, E.2.1, E.2.2.1]; exact cs_needPiece6 G I (by first | exact ⟨p0.1, p0.2⟩ | omega)) ⟨by rw [E.2.2.2]; exact (show (rmN 182).frames + 1 ≤ (rmN 148).frames by decide), by rw [E.2.2.2]; exact (show 8 + (mNL (miB 182) + 11) + (rmN 182).locals ≤ (rmN 148).locals by decide), by rw [E.2.2.2]; exact (show 0 + 1 ≤ 1 by decide), by rw [E.2.2.2]; exact (show 0 + 6 ≤ 6 by decide)⟩ (Nat.le_of_ble_eq_true rfl) (fun vv s1 hq => ?_) (fun ee s1 hq => ?_)))
  rotate_left
  · obtain ⟨Is1, Fs1, (⟨hv, hps1⟩ | ⟨xx, hv, hps1⟩)⟩ := hq
    · cases hv
    · cases hv
      have Gs1 := fm_tq F Fs1 rfl rfl
      have JPMJ_s1 : PMJ s1 := PMJ_fm Fs1 (by decide) jPMJ
      have aws1_21 : SAM 21 s s1 := sam_ts aw0_21 (sam_fm Fs1 (by decide))
      exact x_out X.1 q (fun x hx => (hXt x hx).elim) (show 1 ≤ 1 by decide) (show 6 ≤ 6 by decide) ⟨_, rfl, Is1, Gs1, Or.inr ⟨xx, rfl, by omega⟩⟩
  obtain ⟨Is1, Fs1, (⟨hv, hps1⟩ | ⟨xx, hv, hps1⟩)⟩ := hq
  rotate_left
  · cases hv
  cases hv
  have Gs1 := fm_tq F Fs1 rfl rfl
  have JPMJ_s1 : PMJ s1 := PMJ_fm Fs1 (by decide) jPMJ
  have aws1_21 : SAM 21 s s1 := sam_ts aw0_21 (sam_fm Fs1 (by decide))
  show WS k 5 [(0, .ref (A 0)), (1, .int (Int32.ofInt u))] [] (Wd A dT s1) 1 6
  refine z_aload_n X (x := A 0) rfl (List.Mem.head _) (s_getR X 0 rfl (c518_ok rfl) rfl rfl (s_getR X 25 rfl (c518_ok rfl) rfl rfl (z_load_n X (x := u) rfl (List.Mem.tail _ (List.Mem.head _)) (z_lalE X 27 rfl (by decide) rfl (by first | exact hps1.1 | omega) (show u < 8 by first | exact oq_aaea290e hps1.2 | omega) (by decide) (z_aload_n X (x := A 0) rfl (List.Mem.head _) (s_getR X 0 rfl (c518_ok rfl) rfl rfl (s_getR X 25 rfl (c518_ok rfl) rfl rfl (z_load_n X (x := u) rfl (List.Mem.tail _ (List.Mem.head _)) (z_lalE X 28 rfl (by decide) rfl (by first | exact hps1.1 | omega) (show u < 8 by first | exact oq_aaea290e hps1.2 | omega) (by decide) (z_callS X (rm := rmN 34) (As := [.long (gD s1 22 (u).toNat), .long (gD s1 23 (u).toNat)]) (st := []) rfl rfl (by rw [E.1, E.2.1, E.2.2.1]; exact c3_hangs3 G Is1 ) ⟨by rw [E.2.2.2]; exact (show (rmN 34).frames + 1 ≤ (rmN 148).frames by decide), by rw [E.2.2.2]; exact (show 8 + (mNL (miB 34) + 11) + (rmN 34).locals ≤ (rmN 148).locals by decide), by rw [E.2.2.2]; exact (show 1 + 0 ≤ 1 by decide), by rw [E.2.2.2]; exact (show 6 + 0 ≤ 6 by decide)⟩ (Nat.le_of_ble_eq_true rfl) (fun vv s3 hq => ?_) (fun ee s3 hq => ?_)))))))))))
  rotate_left
  · obtain ⟨Is3, Fs3, e4, hv, hrs3, hps3⟩ := hq; cases hv
  obtain ⟨Is3, Fs3, e4, hv, hrs3, hps3⟩ := hq
  have hps3p := hps3.2
  cases hv
  have Gs3 := fm_tq Gs1 Fs3 rfl rfl
  have aws3_21 : SAM 21 s s3 := sam_ts aws1_21 (sam_fm Fs3 (by decide))
  show WS k 26 [(0, .ref (A 0)), (1, .int (Int32.ofInt u))] [.int (Int32.ofInt e4)] (Wd A dT s3) 1 6
  exact w_iret X.1 q hRt (nar_ret (by first | exact hps3.1 | omega)) (ax_d X (show cdA 148 26 = some (.ireturn, 1, 0, 0, 0) from rfl)) (show 1 ≤ 1 by decide) (show 6 ≤ 6 by decide) ⟨_, rfl, Is3, Gs3, Or.inl ⟨e4, rfl, hrs3, ⟨by first | exact hps1.1 | omega, by first | exact hps1.2 | omega, hps3.1, by have z := hps3.2; rw [pm_eq (p := u) JPMJ_s1 (by first | (clear hps3 hps1; omega) | (clear hps1; omega) | omega), show pfC s1 = pfC s from funext aws1_21] at z; exact z⟩⟩⟩
set_option maxRecDepth 4000 in
theorem lw_whole6 (G : GX l s0 D tys a0 dT) (I : Bd s) (jPMJ : PMJ s) {u : Int} (p0 : rng u) : CTL l s0 D A dT 325 (rmN 325) [.ref (A 0), .int (Int32.ofInt u), .ref (A 517)] s (fun o t => Bd t ∧ Fm [] [1460] s t ∧ ∃ e, o = .inl (some (.int (Int32.ofInt e))) ∧ rng e ∧ ((e = 0 ∧ 0 ≤ u ∧ u ≤ 7 ∧ HGE (pcS (pfC s) u) (iO t)) ∨ (e = 1 ∧ (u < 0 ∨ 7 < u)))) := by
  refine ctL_of G (by decide) (Nat.le_of_ble_eq_true rfl) (by decide) rfl (fun k X E ET hRt hEx q => ?_)
  show WS k 0 [(0, .ref (A 0)), (1, .int (Int32.ofInt u)), (2, .ref (A 517))] [] _ 0 0
  have F : Fm [] [1460] s s := fm_rf _ _ s
  have hA := swA_rf A
  refine z_aload_n X (x := A 517) rfl (List.Mem.tail _ (List.Mem.tail _ (List.Mem.head _))) (z_const X rfl (z_aload_n X (x := A 0) rfl (List.Mem.head _) (z_load_n X (x := u) rfl (List.Mem.tail _ (List.Mem.head _)) (z_callV X 0 (rm := rmN 148) (As := [.int (Int32.ofInt u)]) (st := [.int (Int32.ofInt 0), .ref (A 517)]) rfl rfl (by decide) rfl (by rw [E.1, E.2.1, E.2.2.1]; exact cs_whole6 G I jPMJ (by omega)) ⟨by rw [E.2.2.2]; exact (show (rmN 148).frames + 1 ≤ (rmN 325).frames by decide), by rw [E.2.2.2]; exact (show 8 + (mNL (miB 148) + 11) + (rmN 148).locals ≤ (rmN 325).locals by decide), by rw [E.2.2.2]; exact (show 0 + (rmN 148).cells ≤ (rmN 325).cells by decide), by rw [E.2.2.2]; exact (show 0 + (rmN 148).slots ≤ (rmN 325).slots by decide)⟩ (Nat.le_of_ble_eq_true rfl) (fun vv s1 hq => ?_) (fun ee s1 hq => ?_)))))
  rotate_left
  · obtain ⟨Is1, Fs1, (⟨e2, hv, hrs1, hps1⟩ | ⟨xx, hv, hps1⟩)⟩ := hq
    · cases hv
    · cases hv
      rcases (show xx = 0 by omega) with gx
      ·
        subst gx
        have Gs1 := fm_tq F Fs1 rfl rfl
        refine (hEx 4 0).2 19 rfl _ _ _ _ _ (fun q1 => ?_)
        show WS k 19 [(0, .ref (A 0)), (1, .int (Int32.ofInt u)), (2, .ref (A 517))] [.ref q1] (Wd A dT s1) 1 6
        refine z_astore_n X (lv' := [(3, .ref q1), (0, .ref (A 0)), (1, .int (Int32.ofInt u)), (2, .ref (A 517))]) rfl (by decide) (fun _ h => h) (z_const X rfl ?_)
        exact w_iret X.1 q hRt rfl (ax_d X (show cdA 325 21 = some (.ireturn, 1, 0, 0, 0) from rfl)) (show 1 ≤ 1 by decide) (show 6 ≤ 6 by decide) ⟨A, _, hA, rfl, Is1, Gs1, 1, rfl, (by decide), Or.inr ⟨by decide, by omega⟩⟩
  obtain ⟨Is1, Fs1, (⟨e2, hv, hrs1, hps1⟩ | ⟨xx, hv, hps1⟩)⟩ := hq
  rotate_left
  · cases hv
  cases hv
  have Gs1 := fm_tq F Fs1 rfl rfl
  show WS k 7 [(0, .ref (A 0)), (1, .int (Int32.ofInt u)), (2, .ref (A 517))] [.int (Int32.ofInt e2), .int (Int32.ofInt 0), .ref (A 517)] (Wd A dT s1) 1 6
  refine z_if_eq X (t := 14) rfl rfl ⟨by first | (clear hps1; omega) | omega, by first | (clear hps1; omega) | omega⟩ (fun g3 => ?_) (fun g3 => ?_)
  ·
    refine w_lconst X.1 (ax_d X (show cdA 325 14 = some (.lconst 0, 1, 0, 0, 0) from rfl)) (z := (Int32.ofInt 0).toInt64) (by decide) (z_last X 517 rfl (c518_ok rfl) rfl (by first | (clear hps1; omega) | omega) (show 0 < 1 by first | (clear hps1; omega) | omega) (cbig_ok rfl) (wd_gen (fun s4 hs4 => ?_)))
    have Is4 : Bd s4 := eqB hs4 (bd_D Is1)
    have Fs4 : Fm [] [1460] s s4 := by rw [hs4]; exact fm_D Gs1 (show 460 + 1000 ∈ _ by decide)
    have oos4 : iO s4 = 0 := by rw [hs4]; exact iO_u (by first | (clear hps1; omega) | omega)
    refine z_goto X (t := 22) rfl rfl (z_const X rfl ?_)
    exact w_iret X.1 q hRt rfl (ax_d X (show cdA 325 23 = some (.ireturn, 1, 0, 0, 0) from rfl)) (show 1 ≤ 1 by decide) (show 6 ≤ 6 by decide) ⟨A, _, hA, rfl, Is4, Fs4, 0, rfl, (by decide), Or.inl ⟨by decide, by first | (clear hps1; omega) | omega, by first | (clear hps1; omega) | omega, hps1.2.2.2.elim (fun q => Or.inl ⟨by first | (clear hps1; omega) | omega, q.2⟩) (fun q => Or.inr ⟨by first | (clear hps1; omega) | omega, q.2⟩)⟩⟩
  ·
    refine w_lconst X.1 (ax_d X (show cdA 325 10 = some (.lconst 1, 1, 0, 0, 0) from rfl)) (z := (Int32.ofInt 1).toInt64) (by decide) (z_goto X (t := 15) rfl rfl (z_last X 517 rfl (c518_ok rfl) rfl (by first | (clear g3 hps1; omega) | (clear hps1; omega) | omega) (show 0 < 1 by first | (clear g3 hps1; omega) | (clear hps1; omega) | omega) (cbig_ok rfl) (wd_gen (fun s5 hs5 => ?_))))
    have Is5 : Bd s5 := eqB hs5 (bd_D Is1)
    have Fs5 : Fm [] [1460] s s5 := by rw [hs5]; exact fm_D Gs1 (show 460 + 1000 ∈ _ by decide)
    have oos5 : iO s5 = 1 := by rw [hs5]; exact iO_u (by first | (clear g3 hps1; omega) | (clear hps1; omega) | omega)
    refine z_goto X (t := 22) rfl rfl (z_const X rfl ?_)
    exact w_iret X.1 q hRt rfl (ax_d X (show cdA 325 23 = some (.ireturn, 1, 0, 0, 0) from rfl)) (show 1 ≤ 1 by decide) (show 6 ≤ 6 by decide) ⟨A, _, hA, rfl, Is5, Fs5, 0, rfl, (by decide), Or.inl ⟨by decide, by first | (clear g3 hps1; omega) | (clear hps1; omega) | omega, by first | (clear g3 hps1; omega) | (clear hps1; omega) | omega, hps1.2.2.2.elim (fun q => Or.inl ⟨by first | (clear g3 hps1; omega) | (clear hps1; omega) | omega, q.2⟩) (fun q => Or.inr ⟨by first | (clear g3 hps1; omega) | (clear hps1; omega) | omega, q.2⟩)⟩⟩
set_option maxRecDepth 4000 in
theorem k_whole6 (G : GX l s0 D tys a0 dT) (I : Bd s) {x : Int} (p0 : rng x) : CT l s0 D A dT 241 (rmN 241) [.ref (A 179), .int (Int32.ofInt x)] s (fun o t => Bd t ∧ Fm [73] [231, 232, 230] s t ∧ ∃ e, o = .inl (some (.int (Int32.ofInt e))) ∧ rng e ∧ ((0 ≤ x ∧ x ≤ 7 ∧ iI t 73 = 0 ∧ HGE (pcS (pfM s) x) e) ∨ ((x < 0 ∨ 7 < x) ∧ iI t 73 = 1))) := by
  refine ct_of G (by decide) (Nat.le_of_ble_eq_true rfl) (fun k X E hRt hXt q => ?_)
  show WS k 0 [(0, .ref (A 179)), (1, .int (Int32.ofInt x))] [] _ 0 0
  have F : Fm [73] [231, 232, 230] s s := fm_rf _ _ s
  have b1 := bi_73 I
  refine z_aload_n X (x := A 179) rfl (List.Mem.head _) (z_const X rfl (s_putI X 179 rfl (c518_ok rfl) rfl rfl (by decide) rfl rfl rfl (wd_gen (fun s2 hs2 => ?_))))
  have Is2 : Bd s2 := eqB hs2 (bd_I I (show (0 : Int) ≤ 0 ∧ 0 ≤ 3 by first | exact ⟨by decide, by decide⟩ | omega) (by decide))
  have Fs2 := eqF hs2 (fm_I F (inl_ok (a := 73) rfl))
  have vs2 : iI s2 73 = 0 := eqI hs2 (iI_u (by decide))
  refine z_aload_n X (x := A 179) rfl (List.Mem.head _) (z_load_n X (x := x) rfl (List.Mem.tail _ (List.Mem.head _)) (z_const X rfl (z_bipush X rfl (z_callS X (rm := rmN 188) (As := [.int (Int32.ofInt x), .int (Int32.ofInt 0), .int (Int32.ofInt 7)]) (st := [.ref (A 179)]) rfl rfl (by rw [E.1, E.2.1, E.2.2.1]; exact k_in2 G Is2 (by first | exact ⟨p0.1, p0.2⟩ | omega) (by first | exact ⟨by decide, by decide⟩ | omega) (by first | exact ⟨by decide, by decide⟩ | omega)) ⟨by rw [E.2.2.2]; exact (show (rmN 188).frames + 1 ≤ (rmN 241).frames by decide), by rw [E.2.2.2]; exact (show 8 + (mNL (miB 188) + 11) + (rmN 188).locals ≤ (rmN 241).locals by decide), by rw [E.2.2.2]; exact (show 0 + (rmN 188).cells ≤ (rmN 241).cells by decide), by rw [E.2.2.2]; exact (show 0 + (rmN 188).slots ≤ (rmN 241).slots by decide)⟩ (Nat.le_of_ble_eq_true rfl) (fun vv s3 hq => ?_) (fun ee s3 hq => ?_)))))
  rotate_left
  · obtain ⟨rfl, e4, hv, hrs3, hps3⟩ := hq; cases hv
  obtain ⟨rfl, e4, hv, hrs3, hps3⟩ := hq
  cases hv
  show WS k 13 [(0, .ref (A 179)), (1, .int (Int32.ofInt x))] [.int (Int32.ofInt e4), .ref (A 179)] (Wd A dT s2) 0 0
  have N5 : ∀ e6 : Int, (((e4 ≠ 0) ∧ e6 = 0) ∨ ((e4 = 0) ∧ e6 = 1)) → WS k 21 [(0, .ref (A 179)), (1, .int (Int32.ofInt x))] [.int (Int32.ofInt e6), .ref (A 179)] (Wd A dT s2) 0 0 := by
    intro e6 he6
    have re6 : 0 ≤ e6 ∧ e6 ≤ 1 := by first | (clear he6 hps3; omega) | (clear hps3; omega) | omega
    refine z_const X rfl (zcV_i0 X E 179 (As := [.int (Int32.ofInt e6), .int (Int32.ofInt 1)]) (st := []) rfl rfl rfl rfl (k_bad2 G Is2 (by first | exact oq_31e518ae re6.2 re6.1 | omega) (by first | exact ⟨by decide, by decide⟩ | omega)) rfl (Nat.le_of_ble_eq_true rfl) (fun s7 e8 Is7 Fs7 hrs7 hps7 => ?_))
    have Gs7 := fm_tq Fs2 Fs7 rfl rfl
    have b9 := bi_73 Is7
    refine z_if_eq X (t := 30) rfl rfl hrs7 (fun g10 => ?_) (fun g10 => ?_)
    ·
      refine z_aload_n X (x := A 179) rfl (List.Mem.head _) (z_load_n X (x := x) rfl (List.Mem.tail _ (List.Mem.head _)) (zcV_i0 X E 179 (As := [.int (Int32.ofInt x)]) (st := []) rfl rfl rfl rfl (k_whole3 G Is7 (by first | exact ⟨p0.1, p0.2⟩ | omega)) rfl (Nat.le_of_ble_eq_true rfl) (fun s11 e12 Is11 Fs11 hrs11 hps11 => ?_)))
      have hps11p := hps11.2
      have Gs11 := fm_tq Gs7 Fs11 rfl rfl
      have ws11_73 : iI s11 73 = iI s7 73 := fm_iq Fs11 rfl
      exact w_iret X.1 q hRt (nar_ret (by first | exact hps11.1 | omega)) (ax_d X (show cdA 241 35 = some (.ireturn, 1, 0, 0, 0) from rfl)) (Nat.zero_le _) (Nat.zero_le _) ⟨_, rfl, Is11, Gs11, e12, rfl, hrs11, Or.inl ⟨by first | exact oq_07b36d6e g10 hps7 he6 hps3 vs2 | omega, by first | exact oq_63710938 g10 hps7 he6 hps3 vs2 | omega, by first | exact oq_36baa0f5 ws11_73 g10 b9.1 hps7 vs2 | omega, by have z := hps11.2; rw [show pfM s7 = pfM s from funext (fun j => fm_c Gs7 (by decide))] at z; exact z⟩⟩
    ·
      refine z_const X rfl ?_
      exact w_iret X.1 q hRt (nar_ret (by first | exact Or.inl (by decide) | omega)) (ax_d X (show cdA 241 29 = some (.ireturn, 1, 0, 0, 0) from rfl)) (Nat.zero_le _) (Nat.zero_le _) ⟨_, rfl, Is7, Gs7, 0, rfl, (by decide), Or.inr ⟨by first | exact oq_7a416032 g10 hps7 he6 hps3 vs2 | omega, by first | exact oq_58a3c280 g10 hps7 vs2 | omega⟩⟩
  refine z_if_ne X (t := 20) rfl rfl hrs3 (fun g13 => ?_) (fun g13 => ?_)
  ·
    exact z_const X rfl (N5 _ (Or.inl ⟨g13, rfl⟩))
  ·
    exact z_const X rfl (z_goto X (t := 21) rfl rfl (N5 _ (Or.inr (⟨g13, rfl⟩))))
set_option maxRecDepth 4000 in
theorem c2_stands6 (G : GX l s0 D tys a0 dT) {U : AirD} (I : Bd s) (jAIR : AIR s) (jCPL : CPL s) (jCDJ : CDJ U s) (jPMJ : PMJ s) {x : Int} (p0 : 0 ≤ x ∧ x ≤ 7) : CT l s0 D A dT 18 (rmN 18) [.ref (A 41), .int (Int32.ofInt x)] s (fun o t => Bd t ∧ Fm [22, 23, 24] [33, 26, 27, 28, 29, 30, 31, 32, 20] s t ∧ ∃ e, o = .inl (some (.int (Int32.ofInt e))) ∧ rng e ∧ ((e = 1 ∧ STN U (fun j => iC s 24 j) (pfC s) x) ∨ (e = 0 ∧ ¬ STN U (fun j => iC s 24 j) (pfC s) x))) := by
  refine ct_ofX G (by decide) (Nat.le_of_ble_eq_true rfl) (fun k X E ET hRt hXt q => ?_)
  show WS k 0 [(0, .ref (A 41)), (1, .int (Int32.ofInt x))] [] _ 0 0
  have F : Fm [22, 23, 24] [33, 26, 27, 28, 29, 30, 31, 32, 20] s s := fm_rf _ _ s
  refine z_aload_n X (x := A 41) rfl (List.Mem.head _) (z_load_n X (x := x) rfl (List.Mem.tail _ (List.Mem.head _)) (zcV_i0 X E 41 (As := [.int (Int32.ofInt x)]) (st := []) rfl rfl rfl rfl (c2_whole3 G I jPMJ (by first | exact ⟨p0.1, p0.2⟩ | omega)) rfl (Nat.le_of_ble_eq_true rfl) (fun s1 e2 Is1 Fs1 hrs1 hps1 => ?_)))
  have hps1p := hps1.2
  have Gs1 := fm_tq F Fs1 rfl rfl
  have JAIR_s1 : AIR s1 := AIR_fm Fs1 (by decide) jAIR
  have JCPL_s1 : CPL s1 := CPL_fm Fs1 (by decide) jCPL
  have JCDJ_s1 : CDJ U s1 := CDJ_fm Fs1 (by decide) jCDJ
  have JPMJ_s1 : PMJ s1 := PMJ_fm Fs1 (by decide) jPMJ
  have hHg : HGE (pcS (pfC s) x) e2 := hps1.2
  have hHp := hge_p hHg
  refine z_if_ne X (t := 10) rfl rfl hrs1 (fun g3 => ?_) (fun g3 => ?_)
  ·
    refine z_aload_n X (x := A 41) rfl (List.Mem.head _) (s_getR X 41 rfl (c518_ok rfl) rfl rfl (z_aload_n X (x := A 41) rfl (List.Mem.head _) (s_getR X 41 rfl (c518_ok rfl) rfl rfl (s_getR X 25 rfl (c518_ok rfl) rfl rfl (z_load_n X (x := x) rfl (List.Mem.tail _ (List.Mem.head _)) (z_lalE X 27 rfl (by decide) rfl (by first | exact p0.1 | omega) (show x < 8 by first | exact oq_aaea290e p0.2 | omega) (by decide) (z_aload_n X (x := A 41) rfl (List.Mem.head _) (s_getR X 41 rfl (c518_ok rfl) rfl rfl (s_getR X 25 rfl (c518_ok rfl) rfl rfl (z_load_n X (x := x) rfl (List.Mem.tail _ (List.Mem.head _)) (z_lalE X 28 rfl (by decide) rfl (by first | exact p0.1 | omega) (show x < 8 by first | exact oq_aaea290e p0.2 | omega) (by decide) ?_)))))))))))
    refine z_const X rfl (zcV_v0 X E 31 (As := [.long (gD s1 22 (x).toNat), .long (gD s1 23 (x).toNat), .int (Int32.ofInt 1)]) (st := []) rfl rfl rfl rfl (c0_listen3 G Is1 (by first | exact ⟨by decide, by decide⟩ | omega)) rfl (Nat.le_of_ble_eq_true rfl) (fun s4 Is4 Fs4 hps4 => ?_))
    have Gs4 := fm_tq Gs1 Fs4 rfl rfl
    have JAIR_s4 : AIR s4 := AIR_fm Fs4 (by decide) JAIR_s1
    have JCPL_s4 : CPL s4 := CPL_fm Fs4 (by decide) JCPL_s1
    have JCDJ_s4 : CDJ U s4 := CDJ_fm Fs4 (by decide) JCDJ_s1
    refine z_aload_n X (x := A 41) rfl (List.Mem.head _) (s_getR X 41 rfl (c518_ok rfl) rfl rfl (zcV_i1 X E 31 (As := []) (st := []) rfl rfl rfl rfl (c0_findPeak3 G Is4 JAIR_s4 JCPL_s4 hps4.1 JCDJ_s4 hps4.2 ) rfl (Nat.le_of_ble_eq_true rfl) (fun s6 e7 Is6 Fs6 JHEH_s6 hrs6 hps6 => ?_)))
    have Gs6 := fm_tq Gs4 Fs6 rfl rfl
    have hpk : e7 = pkH U (pcS (pfC s) x) := by rw [← (show pcS (pfC s1) x = (pcS (pfC s) x) from by rw [show pfC s1 = pfC s from funext (fun j => fm_c Gs1 (by decide))]), ← pm_eq (p := x) JPMJ_s1 (by first | (clear g3 hps1; omega) | (clear hps1; omega) | omega)]; exact hps6.1
    refine z_aload_n X (x := A 41) rfl (List.Mem.head _) (s_getR X 41 rfl (c518_ok rfl) rfl rfl (s_getR X 25 rfl (c518_ok rfl) rfl rfl (z_load_n X (x := x) rfl (List.Mem.tail _ (List.Mem.head _)) (z_ald X 29 rfl (c518_ok rfl) rfl (by first | exact p0.1 | omega) (show x < 8 by first | exact oq_aaea290e p0.2 | omega) (cbig_ok rfl) ?_))))
    have b8 := bc_24 Is6 (show (x).toNat < 8 by first | exact oq_c19a3aae p0.2 | omega)
    have hL9 : (iC s6 24 (x).toNat) = iC s 24 (x : Int).toNat := fm_c Gs6 (by decide)
    refine z_icmp_gt X (t := 59) rfl rfl hrs6 (rng_to _) (fun g9 => ?_) (fun g9 => ?_)
    ·
      refine z_const X rfl ?_
      exact w_iret X.1 q hRt (nar_ret (by first | exact Or.inl (by decide) | omega)) (ax_d X (show cdA 18 60 = some (.ireturn, 1, 0, 0, 0) from rfl)) (Nat.zero_le _) (Nat.zero_le _) ⟨_, rfl, Is6, Gs6, 0, rfl, (by decide), Or.inr ⟨rfl, fun q => by have z := q.2; rw [← hpk] at z; replace z : _ ≤ iC s 24 (x : Int).toNat := z; omega⟩⟩
    ·
      refine z_const X rfl (z_goto X (t := 60) rfl rfl ?_)
      exact w_iret X.1 q hRt (nar_ret (by first | exact Or.inr (by decide) | omega)) (ax_d X (show cdA 18 60 = some (.ireturn, 1, 0, 0, 0) from rfl)) (Nat.zero_le _) (Nat.zero_le _) ⟨_, rfl, Is6, Gs6, 1, rfl, (by decide), Or.inl ⟨rfl, hHp.1 (by first | (clear g3 hps1; omega) | (clear hps1; omega) | omega), by rw [← hpk]; show _ ≤ iC s 24 (x : Int).toNat; omega⟩⟩
  ·
    refine z_const X rfl ?_
    exact w_iret X.1 q hRt (nar_ret (by first | exact Or.inl (by decide) | omega)) (ax_d X (show cdA 18 9 = some (.ireturn, 1, 0, 0, 0) from rfl)) (Nat.zero_le _) (Nat.zero_le _) ⟨_, rfl, Is1, Gs1, 0, rfl, (by decide), Or.inr ⟨rfl, fun q => hHp.2 (by first | (clear hps1; omega) | omega) q.1⟩⟩
set_option maxRecDepth 4000 in
theorem cs_holds6 (G : GX l s0 D tys a0 dT) {U : AirD} (I : Bd s) (jAIR : AIR s) (jCPL : CPL s) (jCDJ : CDJ U s) (jPMJ : PMJ s)  : CT l s0 D A dT 153 (rmN 153) [.ref (A 0)] s (fun o t => Bd t ∧ Fm [22, 23, 24] [33, 26, 27, 28, 29, 30, 31, 32, 20] s t ∧ ∃ e, o = .inl (some (.int (Int32.ofInt e))) ∧ rng e ∧ ((e = 0 ∨ e = 1) ∧ HLE U (fun j => iC s 24 j) (pfC s) e)) := by
  refine ct_ofX G (by decide) (Nat.le_of_ble_eq_true rfl) (fun k X E ET hRt hXt q => ?_)
  show WS k 0 [(0, .ref (A 0))] [] _ 0 0
  have F : Fm [22, 23, 24] [33, 26, 27, 28, 29, 30, 31, 32, 20] s s := fm_rf _ _ s
  have L2 : ∀ (n : Nat) (t : PS) (p : Int), Bd t → Fm [22, 23, 24] [33, 26, 27, 28, 29, 30, 31, 32, 20] s t → AIR t → CPL t → CDJ U t → PMJ t → (HLN U (fun j => iC s 24 j) (pfC s) p) → (0 ≤ p ∧ p ≤ 8) → (8 - p : Int).toNat < n → (∀ (t' : PS) (p' : Int), Bd t' → Fm [22, 23, 24] [33, 26, 27, 28, 29, 30, 31, 32, 20] s t' → AIR t' → CPL t' → CDJ U t' → PMJ t' → (HLN U (fun j => iC s 24 j) (pfC s) p') → (p' = 8) → WS k 38 [(0, .ref (A 0)), (1, .int (Int32.ofInt p'))] [] (Wd A dT t') 0 0) → WS k 2 [(0, .ref (A 0)), (1, .int (Int32.ofInt p))] [] (Wd A dT t) 0 0 := by
    intro n
    induction n with
    | zero =>
      intro t p I F jjAIR jjCPL jjCDJ jjPMJ hq hi hm kx
      exact absurd hm (Nat.not_lt_zero _)
    | succ n ih =>
      intro t p I F jjAIR jjCPL jjCDJ jjPMJ hq hi hm kx
      refine z_load_n X (x := p) rfl (List.Mem.tail _ (List.Mem.head _)) (z_bipush X rfl (z_icmp_ge X (t := 38) rfl rfl ⟨by first | exact oq_fa4e5087 hi.1 | omega, by first | exact oq_d3f5d874 hi.2 | omega⟩ (by decide) (fun g1001 => ?_) (fun g1001 => ?_)))
      ·
        refine WS_pq [0, 1] (lv' := [(0, .ref (A 0)), (1, .int (Int32.ofInt p))]) rfl ?_
        exact kx _ p I F jjAIR jjCPL jjCDJ jjPMJ hq (by first | exact oq_73d3719d hi.2 g1001 | omega)
      ·
        refine z_aload_n X (x := A 0) rfl (List.Mem.head _) (s_getR X 0 rfl (c518_ok rfl) rfl rfl (z_load_n X (x := p) rfl (List.Mem.tail _ (List.Mem.head _)) (z_callV X 25 (rm := rmN 30) (As := [.int (Int32.ofInt p)]) (st := []) rfl rfl (by decide) rfl (by rw [E.1, E.2.1, E.2.2.1]; exact c3_has3 G I jjPMJ (by first | exact ⟨hi.1, oq_78c639ed g1001⟩ | omega)) ⟨by rw [E.2.2.2]; exact (show (rmN 30).frames + 1 ≤ (rmN 153).frames by decide), by rw [E.2.2.2]; exact (show 8 + (mNL (miB 30) + 11) + (rmN 30).locals ≤ (rmN 153).locals by decide), by rw [E.2.2.2]; exact (show 0 + (rmN 30).cells ≤ (rmN 153).cells by decide), by rw [E.2.2.2]; exact (show 0 + (rmN 30).slots ≤ (rmN 153).slots by decide)⟩ (Nat.le_of_ble_eq_true rfl) (fun vv s1002 hq => ?_) (fun ee s1002 hq => ?_))))
        rotate_left
        · obtain ⟨rfl, e1003, hv, hrs1002, hps1002⟩ := hq; cases hv
        obtain ⟨rfl, e1003, hv, hrs1002, hps1002⟩ := hq
        have hps1002p := hps1002.2
        cases hv
        show WS k 16 [(0, .ref (A 0)), (1, .int (Int32.ofInt p))] [.int (Int32.ofInt e1003)] (Wd A dT t) 0 0
        have hHc : HCE (pcS (pfC s) p) e1003 := by have z := hps1002.2; rw [show pfC t = pfC s from funext (fun j => fm_c F (by decide))] at z; exact z
        have hPr := prs_hce hHc (by first | (clear hps1002; omega) | omega)
        refine z_if_eq X (t := 32) rfl rfl hrs1002 (fun g1004 => ?_) (fun g1004 => ?_)
        ·
          refine z_inc X (x := p) (lv' := [(1, .int (Int32.ofInt (p + 1))), (0, .ref (A 0))]) rfl (by decide) (List.Mem.tail _ (List.Mem.head _)) (fun _ h => h) (z_goto X (t := 2) rfl rfl (WS_pq [1, 0] (lv' := [(0, .ref (A 0)), (1, .int (Int32.ofInt (p + 1)))]) rfl ?_))
          exact ih _ (p + 1) I F jjAIR jjCPL jjCDJ jjPMJ (hln_up hq (by first | (clear hps1002; omega) | omega) (fun z => absurd z (hPr.2 (by first | (clear hps1002; omega) | omega)))) (by first | exact ⟨oq_54f49eb5 hi.1, oq_0c7b19c3 g1001⟩ | omega) (by first | exact qk_me hm (by decide) (oq_9f368f35 g1001) | omega) kx
        ·
          refine z_aload_n X (x := A 0) rfl (List.Mem.head _) (s_getR X 0 rfl (c518_ok rfl) rfl rfl (z_load_n X (x := p) rfl (List.Mem.tail _ (List.Mem.head _)) (zcV_i0 X E 41 (As := [.int (Int32.ofInt p)]) (st := []) rfl rfl rfl rfl (c2_stands6 G I jjAIR jjCPL jjCDJ jjPMJ (by first | exact ⟨hi.1, oq_78c639ed g1001⟩ | omega)) rfl (Nat.le_of_ble_eq_true rfl) (fun s1005 e1006 Is1005 Fs1005 hrs1005 hps1005 => ?_))))
          have Gs1005 := fm_tq F Fs1005 rfl rfl
          have JAIR_s1005 : AIR s1005 := AIR_fm Fs1005 (by decide) jjAIR
          have JCPL_s1005 : CPL s1005 := CPL_fm Fs1005 (by decide) jjCPL
          have JCDJ_s1005 : CDJ U s1005 := CDJ_fm Fs1005 (by decide) jjCDJ
          have JPMJ_s1005 : PMJ s1005 := PMJ_fm Fs1005 (by decide) jjPMJ
          have hSt : (e1006 = 1 ∧ STN U (fun j => iC s 24 j) (pfC s) p) ∨ (e1006 = 0 ∧ ¬ STN U (fun j => iC s 24 j) (pfC s) p) := by have z := hps1005; rw [show pfC t = pfC s from funext (fun j => fm_c F (by decide)), show (fun j => iC t 24 j) = (fun j => iC s 24 j) from funext (fun j => fm_c F (by decide))] at z; exact z
          refine z_if_ne X (t := 32) rfl rfl hrs1005 (fun g1007 => ?_) (fun g1007 => ?_)
          ·
            refine z_inc X (x := p) (lv' := [(1, .int (Int32.ofInt (p + 1))), (0, .ref (A 0))]) rfl (by decide) (List.Mem.tail _ (List.Mem.head _)) (fun _ h => h) (z_goto X (t := 2) rfl rfl (WS_pq [1, 0] (lv' := [(0, .ref (A 0)), (1, .int (Int32.ofInt (p + 1)))]) rfl ?_))
            exact ih _ (p + 1) Is1005 Gs1005 JAIR_s1005 JCPL_s1005 JCDJ_s1005 JPMJ_s1005 (hln_up hq (by first | (clear g1007 hps1005 g1004 hps1002; omega) | (clear hps1005 g1004 hps1002; omega) | omega) (fun _ => hSt.elim (fun z => z.2) (fun z => absurd z.1 (by first | (clear g1007 hps1005 g1004 hps1002; omega) | (clear hps1005 g1004 hps1002; omega) | omega)))) (by first | exact ⟨oq_54f49eb5 hi.1, oq_0c7b19c3 g1001⟩ | omega) (by first | exact qk_me hm (by decide) (oq_9f368f35 g1001) | omega) kx
          ·
            refine z_const X rfl ?_
            exact w_iret X.1 q hRt (nar_ret (by first | exact Or.inl (by decide) | omega)) (ax_d X (show cdA 153 31 = some (.ireturn, 1, 0, 0, 0) from rfl)) (Nat.zero_le _) (Nat.zero_le _) ⟨_, rfl, Is1005, Gs1005, 0, rfl, (by decide), ⟨Or.inl rfl, hle_no (by first | (clear hps1005 g1004 hps1002; omega) | (clear g1004 hps1002; omega) | omega) (hPr.1 (by first | (clear hps1005 g1004 hps1002; omega) | (clear g1004 hps1002; omega) | omega)) (hSt.elim (fun z => absurd z.1 (by first | (clear hps1005 g1004 hps1002; omega) | (clear g1004 hps1002; omega) | omega)) (fun z => z.2))⟩⟩
  refine z_const X rfl (z_store_n X (lv' := [(1, .int (Int32.ofInt 0)), (0, .ref (A 0))]) rfl (by decide) (fun _ h => h) (WS_pq [1, 0] (lv' := [(0, .ref (A 0)), (1, .int (Int32.ofInt 0))]) rfl (L2 ((8 - 0 : Int).toNat + 1) s 0 I F jAIR jCPL jCDJ jPMJ hln_0 (by first | exact ⟨by decide, by decide⟩ | omega) (Nat.lt_succ_self _) ?_)))
  intro s1 x2 Is1 Fs1 JAIR_s1 JCPL_s1 JCDJ_s1 JPMJ_s1 Qs1 hs1
  refine z_const X rfl ?_
  exact w_iret X.1 q hRt (nar_ret (by first | exact Or.inr (by decide) | omega)) (ax_d X (show cdA 153 39 = some (.ireturn, 1, 0, 0, 0) from rfl)) (Nat.zero_le _) (Nat.zero_le _) ⟨_, rfl, Is1, Fs1, 1, rfl, (by decide), ⟨Or.inr rfl, Or.inl ⟨rfl, by have z := Qs1; rw [show x2 = 8 by omega] at z; exact z⟩⟩⟩
set_option maxRecDepth 4000 in
theorem k_holds6 (G : GX l s0 D tys a0 dT) {U : AirD} (I : Bd s) (jRLx : RLx s) (jMDJ : MDJ U s) (p0 : iI s 89 = 1) : CT l s0 D A dT 247 (rmN 247) [.ref (A 179)] s (fun o t => Bd t ∧ Fm [73, 77, 75, 78, 79, 80, 81] [202, 204, 205, 206, 207, 208, 209, 210, 211, 212, 213, 214, 215, 216, 217, 218, 219, 220, 221, 222, 223, 224, 225, 226, 227, 203, 161, 230, 231, 232] s t ∧ RLx t ∧ ∃ e, o = .inl (some (.int (Int32.ofInt e))) ∧ rng e ∧ ((e = 0 ∨ e = 1) ∧ iI t 73 = 0 ∧ HLE U (fun j => iC s 229 j) (pfM s) e)) := by
  refine ct_of G (by decide) (Nat.le_of_ble_eq_true rfl) (fun k X E hRt hXt q => ?_)
  show WS k 0 [(0, .ref (A 179))] [] _ 0 0
  have F : Fm [73, 77, 75, 78, 79, 80, 81] [202, 204, 205, 206, 207, 208, 209, 210, 211, 212, 213, 214, 215, 216, 217, 218, 219, 220, 221, 222, 223, 224, 225, 226, 227, 203, 161, 230, 231, 232] s s := fm_rf _ _ s
  have b1 := bi_73 I
  have b2 := bi_89 I
  have L7 : ∀ (n : Nat) (t : PS) (p : Int), Bd t → Fm [73, 77, 75, 78, 79, 80, 81] [202, 204, 205, 206, 207, 208, 209, 210, 211, 212, 213, 214, 215, 216, 217, 218, 219, 220, 221, 222, 223, 224, 225, 226, 227, 203, 161, 230, 231, 232] s t → RLx t → MDJ U t → (HLN U (fun j => iC s 229 j) (pfM s) p) → ((0 ≤ p ∧ p ≤ 8) ∧ iI t 73 = 0 ∧ iI t 89 = 1) → (8 - p : Int).toNat < n → (∀ (t' : PS) (p' : Int), Bd t' → Fm [73, 77, 75, 78, 79, 80, 81] [202, 204, 205, 206, 207, 208, 209, 210, 211, 212, 213, 214, 215, 216, 217, 218, 219, 220, 221, 222, 223, 224, 225, 226, 227, 203, 161, 230, 231, 232] s t' → RLx t' → MDJ U t' → (HLN U (fun j => iC s 229 j) (pfM s) p') → (p' = 8 ∧ iI t' 73 = 0) → WS k 51 [(0, .ref (A 179)), (1, .int (Int32.ofInt p'))] [] (Wd A dT t') 0 0) → WS k 7 [(0, .ref (A 179)), (1, .int (Int32.ofInt p))] [] (Wd A dT t) 0 0 := by
    intro n
    induction n with
    | zero =>
      intro t p I F jjRLx jjMDJ hq hi hm kx
      exact absurd hm (Nat.not_lt_zero _)
    | succ n ih =>
      intro t p I F jjRLx jjMDJ hq hi hm kx
      have b1001 := bi_73 I
      have b1002 := bi_89 I
      refine z_load_n X (x := p) rfl (List.Mem.tail _ (List.Mem.head _)) (z_bipush X rfl (z_icmp_ge X (t := 51) rfl rfl ⟨by first | exact oq_fa4e5087 hi.1.1 | omega, by first | exact oq_d3f5d874 hi.1.2 | omega⟩ (by decide) (fun g1003 => ?_) (fun g1003 => ?_)))
      ·
        refine WS_pq [0, 1] (lv' := [(0, .ref (A 179)), (1, .int (Int32.ofInt p))]) rfl ?_
        exact kx _ p I F jjRLx jjMDJ hq (by first | exact ⟨oq_73d3719d hi.1.2 g1003, hi.2.1⟩ | omega)
      ·
        refine z_aload_n X (x := A 179) rfl (List.Mem.head _) (z_load_n X (x := p) rfl (List.Mem.tail _ (List.Mem.head _)) (zcV_i0 X E 179 (As := [.int (Int32.ofInt p)]) (st := []) rfl rfl rfl rfl (k_whole3 G I (by first | exact ⟨oq_fa4e5087 hi.1.1, oq_7bea7075 g1003⟩ | omega)) rfl (Nat.le_of_ble_eq_true rfl) (fun s1004 e1005 Is1004 Fs1004 hrs1004 hps1004 => ?_)))
        have hps1004p := hps1004.2
        have Gs1004 := fm_tq F Fs1004 rfl rfl
        have JRLx_s1004 : RLx s1004 := RLx_fm Fs1004 (by decide) jjRLx
        have JMDJ_s1004 : MDJ U s1004 := MDJ_fm Fs1004 (by decide) jjMDJ
        have ws1004_73 : iI s1004 73 = iI t 73 := fm_iq Fs1004 rfl
        have ws1004_89 : iI s1004 89 = iI t 89 := fm_iq Fs1004 rfl
        have hHg : HGE (pcS (pfM s) p) e1005 := by have z := hps1004.2; rw [show pfM t = pfM s from funext (fun j => fm_c F (by decide))] at z; exact z
        have hHp := hge_p hHg
        refine z_if_eq X (t := 43) rfl rfl hrs1004 (fun g1006 => ?_) (fun g1006 => ?_)
        ·
          refine z_const X rfl ?_
          exact w_iret X.1 q hRt (nar_ret (by first | exact Or.inl (by decide) | omega)) (ax_d X (show cdA 247 44 = some (.ireturn, 1, 0, 0, 0) from rfl)) (Nat.zero_le _) (Nat.zero_le _) ⟨_, rfl, Is1004, Gs1004, JRLx_s1004, 0, rfl, (by decide), ⟨Or.inl rfl, by first | exact oq_333640b7 ws1004_73 hi.2.1 b1001.1 | omega, hle_no (by first | (clear hps1004; omega) | omega) (Classical.byContradiction (fun z => hHp.2 (by first | (clear hps1004; omega) | omega) (hng_no (by unfold presF at z; rw [show (((p : Int).toNat : Nat) : Int) = p by first | (clear hps1004; omega) | omega] at z; exact z)))) (fun q => hHp.2 (by first | (clear hps1004; omega) | omega) q.1)⟩⟩
        ·
          refine z_aload_n X (x := A 179) rfl (List.Mem.head _) (z_load_n X (x := p) rfl (List.Mem.tail _ (List.Mem.head _)) (zcV_i0 X E 179 (As := [.int (Int32.ofInt p)]) (st := []) rfl rfl rfl rfl (k_has3 G Is1004 (by first | exact ⟨oq_fa4e5087 hi.1.1, oq_7bea7075 g1003⟩ | omega)) rfl (Nat.le_of_ble_eq_true rfl) (fun s1007 e1008 Is1007 Fs1007 hrs1007 hps1007 => ?_)))
          have hps1007p := hps1007.2
          have Gs1007 := fm_tq Gs1004 Fs1007 rfl rfl
          have JRLx_s1007 : RLx s1007 := RLx_fm Fs1007 (by decide) JRLx_s1004
          have JMDJ_s1007 : MDJ U s1007 := MDJ_fm Fs1007 (by decide) JMDJ_s1004
          have ws1007_73 : iI s1007 73 = iI s1004 73 := fm_iq Fs1007 rfl
          have ws1007_89 : iI s1007 89 = iI s1004 89 := fm_iq Fs1007 rfl
          have hHc : HCE (pcS (pfM s) p) e1008 := by have z := hps1007.2; rw [show pfM s1004 = pfM s from funext (fun j => fm_c Gs1004 (by decide))] at z; exact z
          have hPr := prs_hce hHc (by first | (clear hps1007 g1006 hps1004; omega) | (clear g1006 hps1004; omega) | omega)
          refine z_if_eq X (t := 45) rfl rfl hrs1007 (fun g1009 => ?_) (fun g1009 => ?_)
          ·
            refine z_inc X (x := p) (lv' := [(1, .int (Int32.ofInt (p + 1))), (0, .ref (A 179))]) rfl (by decide) (List.Mem.tail _ (List.Mem.head _)) (fun _ h => h) (z_goto X (t := 7) rfl rfl (WS_pq [1, 0] (lv' := [(0, .ref (A 179)), (1, .int (Int32.ofInt (p + 1)))]) rfl ?_))
            exact ih _ (p + 1) Is1007 Gs1007 JRLx_s1007 JMDJ_s1007 (hln_up hq (by first | (clear hps1007 g1006 hps1004; omega) | (clear g1006 hps1004; omega) | omega) (fun z => absurd z (hPr.2 (by first | (clear hps1007 g1006 hps1004; omega) | (clear g1006 hps1004; omega) | omega)))) (by first | exact ⟨And.intro (oq_54f49eb5 hi.1.1) (oq_0c7b19c3 g1003), oq_7fe879e0 ws1007_73 ws1004_73 hi.2.1 b1001.1, oq_f34933ba ws1007_89 ws1004_89 hi.2.2 b1002.1⟩ | omega) (by first | exact qk_me hm (by decide) (oq_9f368f35 g1003) | omega) kx
          ·
            refine z_aload_n X (x := A 179) rfl (List.Mem.head _) (z_load_n X (x := p) rfl (List.Mem.tail _ (List.Mem.head _)) (zcV_i1 X E 179 (As := [.int (Int32.ofInt p)]) (st := []) rfl rfl rfl rfl (k_peakPiece3 G Is1007 JRLx_s1007 JMDJ_s1007 (by first | exact ⟨oq_fa4e5087 hi.1.1, oq_7bea7075 g1003⟩ | omega) (by first | exact oq_f34933ba ws1007_89 ws1004_89 hi.2.2 b1002.1 | omega)) rfl (Nat.le_of_ble_eq_true rfl) (fun s1010 e1011 Is1010 Fs1010 JRLx_s1010 hrs1010 hps1010 => ?_)))
            have Gs1010 := fm_tq Gs1007 Fs1010 rfl rfl
            have JRLx_s1010 : RLx s1010 := RLx_fm Fs1010 (by decide) JRLx_s1007
            have JMDJ_s1010 : MDJ U s1010 := MDJ_fm Fs1010 (by decide) JMDJ_s1007
            have ws1010_73 : iI s1010 73 = iI s1007 73 := fm_iq Fs1010 rfl
            have ws1010_89 : iI s1010 89 = iI s1007 89 := fm_iq Fs1010 rfl
            have hpk : e1011 = pkH U (pcS (pfM s) p) := by have z := hps1010; rw [show pfM s1007 = pfM s from funext (fun j => fm_c Gs1007 (by decide))] at z; exact z
            refine z_aload_n X (x := A 179) rfl (List.Mem.head _) (s_getR X 179 rfl (c518_ok rfl) rfl rfl (z_load_n X (x := p) rfl (List.Mem.tail _ (List.Mem.head _)) (z_ald X 257 rfl (c518_ok rfl) rfl (by first | exact hi.1.1 | omega) (show p < 8 by first | exact g1003 | omega) (cbig_ok rfl) ?_)))
            have b1012 := bc_229 Is1010 (show (p).toNat < 8 by first | exact oq_db4b3b8b g1003 | omega)
            have hL9 : (iC s1010 229 (p).toNat) = iC s 229 (p : Int).toNat := fm_c Gs1010 (by decide)
            refine z_icmp_le X (t := 45) rfl rfl hrs1010 (rng_to _) (fun g1013 => ?_) (fun g1013 => ?_)
            ·
              refine z_inc X (x := p) (lv' := [(1, .int (Int32.ofInt (p + 1))), (0, .ref (A 179))]) rfl (by decide) (List.Mem.tail _ (List.Mem.head _)) (fun _ h => h) (z_goto X (t := 7) rfl rfl (WS_pq [1, 0] (lv' := [(0, .ref (A 179)), (1, .int (Int32.ofInt (p + 1)))]) rfl ?_))
              exact ih _ (p + 1) Is1010 Gs1010 JRLx_s1010 JMDJ_s1010 (hln_up hq (by first | (clear g1009 hps1007 g1006 hps1004; omega) | (clear hps1007 g1006 hps1004; omega) | omega) (fun _ => ⟨hHp.1 (by first | (clear g1009 hps1007 g1006 hps1004; omega) | (clear hps1007 g1006 hps1004; omega) | omega), by rw [← hpk]; show _ ≤ iC s 229 (p : Int).toNat; omega⟩)) (by first | exact ⟨And.intro (oq_54f49eb5 hi.1.1) (oq_0c7b19c3 g1003), oq_0f72f93b ws1010_73 ws1007_73 ws1004_73 hi.2.1 b1001.1, oq_29301542 ws1010_89 ws1007_89 ws1004_89 hi.2.2 b1002.1⟩ | omega) (by first | exact qk_me hm (by decide) (oq_9f368f35 g1003) | omega) kx
            ·
              refine z_const X rfl ?_
              exact w_iret X.1 q hRt (nar_ret (by first | exact Or.inl (by decide) | omega)) (ax_d X (show cdA 247 44 = some (.ireturn, 1, 0, 0, 0) from rfl)) (Nat.zero_le _) (Nat.zero_le _) ⟨_, rfl, Is1010, Gs1010, JRLx_s1010, 0, rfl, (by decide), ⟨Or.inl rfl, by first | exact oq_0f72f93b ws1010_73 ws1007_73 ws1004_73 hi.2.1 b1001.1 | omega, hle_no (by first | (clear g1009 hps1007 g1006 hps1004; omega) | (clear hps1007 g1006 hps1004; omega) | omega) (hPr.1 (by first | (clear g1009 hps1007 g1006 hps1004; omega) | (clear hps1007 g1006 hps1004; omega) | omega)) (fun q => by have z := q.2; rw [← hpk] at z; replace z : _ ≤ iC s 229 (p : Int).toNat := z; omega)⟩⟩
  refine z_aload_n X (x := A 179) rfl (List.Mem.head _) (z_const X rfl (s_putI X 179 rfl (c518_ok rfl) rfl rfl (by decide) rfl rfl rfl (wd_gen (fun s3 hs3 => ?_))))
  have Is3 : Bd s3 := eqB hs3 (bd_I I (show (0 : Int) ≤ 0 ∧ 0 ≤ 3 by first | exact ⟨by decide, by decide⟩ | omega) (by decide))
  have Fs3 := eqF hs3 (fm_I F (inl_ok (a := 73) rfl))
  have vs3 : iI s3 73 = 0 := eqI hs3 (iI_u (by decide))
  have ws3_89 : iI s3 89 = iI s 89 := eqI hs3 rfl
  have fs3 : Fm [73] [] s s3 := by rw [hs3]; exact fm_I (fm_rf _ _ _) (show 73 ∈ _ by decide)
  have JRLx_s3 : RLx s3 := RLx_fm fs3 (by decide) jRLx
  have JMDJ_s3 : MDJ U s3 := MDJ_fm fs3 (by decide) jMDJ
  refine z_const X rfl (z_store_n X (lv' := [(1, .int (Int32.ofInt 0)), (0, .ref (A 179))]) rfl (by decide) (fun _ h => h) (WS_pq [1, 0] (lv' := [(0, .ref (A 179)), (1, .int (Int32.ofInt 0))]) rfl (L7 ((8 - 0 : Int).toNat + 1) s3 0 Is3 Fs3 JRLx_s3 JMDJ_s3 hln_0 (by first | exact ⟨And.intro (by decide) (by decide), vs3, oq_b44a1c7f ws3_89 p0 b2.1⟩ | omega) (Nat.lt_succ_self _) ?_)))
  intro s4 x5 Is4 Fs4 JRLx_s4 JMDJ_s4 Qs4 hs4
  have b6 := bi_73 Is4
  have b7 := bi_89 Is4
  refine z_const X rfl ?_
  exact w_iret X.1 q hRt (nar_ret (by first | exact Or.inr (by decide) | omega)) (ax_d X (show cdA 247 52 = some (.ireturn, 1, 0, 0, 0) from rfl)) (Nat.zero_le _) (Nat.zero_le _) ⟨_, rfl, Is4, Fs4, JRLx_s4, 1, rfl, (by decide), ⟨Or.inr rfl, by first | exact hs4.2 | omega, Or.inl ⟨rfl, by have z := Qs4; rw [show x5 = 8 by omega] at z; exact z⟩⟩⟩
end M87kc
end
