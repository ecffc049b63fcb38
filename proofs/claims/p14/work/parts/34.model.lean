theorem oq_a3dd55e5 {a0 : Int} (h0 : a0 ≤ 5) : a0 ≤ 2147483647 := by omega
theorem oq_449d3e35 {a0 a1 : Int} (h0 : 0 ≤ a0) (h1 : a1 ≤ 127) : (-2147483648) ≤ (a0 - a1) := by omega
theorem oq_ad754bc3 {a0 a1 : Int} (h0 : a0 ≤ 127) (h1 : 0 ≤ a1) : (a0 - a1) ≤ 2147483647 := by omega
theorem oq_ecd050b7 {a0 a1 a2 a3 a4 a5 a6 a7 a8 a9 : Int} (h0 : ((a0 ≠ 0 ∧ a1 = ((27 * a2) + a0)) ∨ (a0 = 0 ∧ a1 = a2))) (h1 : ((a3 ≠ 0 ∧ a2 = ((27 * a4) + a3)) ∨ (a3 = 0 ∧ a2 = a4))) (h2 : ((a5 ≠ 0 ∧ a4 = ((27 * a6) + a5)) ∨ (a5 = 0 ∧ a4 = a6))) (h3 : ((a7 ≠ 0 ∧ a6 = ((27 * ((27 * a8) + a9)) + a7)) ∨ (a7 = 0 ∧ a6 = ((27 * a8) + a9)))) (h4 : 0 ≤ a0) (h5 : 0 ≤ a3) (h6 : 0 ≤ a5) (h7 : 0 ≤ a7) (h8 : 0 ≤ a9) (h9 : 1 ≤ a8) : (-2147483648) ≤ a1 := by omega
theorem oq_5f3f93de {a0 a1 a2 a3 a4 a5 a6 a7 a8 a9 : Int} (h0 : ((a0 ≠ 0 ∧ a1 = ((27 * a2) + a0)) ∨ (a0 = 0 ∧ a1 = a2))) (h1 : ((a3 ≠ 0 ∧ a2 = ((27 * a4) + a3)) ∨ (a3 = 0 ∧ a2 = a4))) (h2 : ((a5 ≠ 0 ∧ a4 = ((27 * a6) + a5)) ∨ (a5 = 0 ∧ a4 = a6))) (h3 : ((a7 ≠ 0 ∧ a6 = ((27 * ((27 * a8) + a9)) + a7)) ∨ (a7 = 0 ∧ a6 = ((27 * a8) + a9)))) (h4 : a0 ≤ 27) (h5 : a3 ≤ 27) (h6 : a5 ≤ 27) (h7 : a7 ≤ 27) (h8 : a9 ≤ 27) (h9 : a8 ≤ 27) : a1 ≤ 2147483647 := by omega
theorem oq_66594a1b {a0 a1 a2 a3 a4 a5 a6 a7 a8 a9 : Int} (h0 : ((a0 ≠ 0 ∧ a1 = ((27 * a2) + a0)) ∨ (a0 = 0 ∧ a1 = a2))) (h1 : ((a3 ≠ 0 ∧ a2 = ((27 * a4) + a3)) ∨ (a3 = 0 ∧ a2 = a4))) (h2 : ((a5 ≠ 0 ∧ a4 = ((27 * a6) + a5)) ∨ (a5 = 0 ∧ a4 = a6))) (h3 : ((a7 ≠ 0 ∧ a6 = ((27 * ((27 * a8) + a9)) + a7)) ∨ (a7 = 0 ∧ a6 = ((27 * a8) + a9)))) (h4 : 0 ≤ a0) (h5 : 0 ≤ a3) (h6 : 0 ≤ a5) (h7 : 0 ≤ a7) (h8 : 0 ≤ a9) (h9 : 1 ≤ a8) : 1 ≤ a1 := by omega
theorem oq_e977c44f {a0 : Int} (h0 : a0 ≤ 27) : a0 ≤ 2147483647 := by omega
theorem oq_797efae6 {a0 : Int} (h0 : a0 < 24) : (a0 : Int).toNat < 24 := by omega
theorem oq_dd29f52d {a0 a1 : Int} (h0 : 0 ≤ a0) (h1 : 0 ≤ a1) : 0 ≤ (a0 + a1) := by omega
theorem oq_d1fd8eeb {a0 a1 a2 : Int} (h0 : a0 ≤ (50 * a1)) (h1 : a2 ≤ 50) : (a0 + a2) ≤ (50 * (a1 + 1)) := by omega
theorem oq_cec7cb2e {a0 : Int} (h0 : a0 < 24) : (a0 + 1) ≤ 24 := by omega
theorem oq_ffa8317e {a0 : Int} (h0 : a0 < 24) : 0 < (24 - a0) := by omega
theorem oq_fe510769 {a0 a1 : Int} (h0 : a0 ≤ (50 * a1)) (h1 : a1 ≤ 24) : a0 ≤ 2147483647 := by omega
theorem oq_552552b9 {a0 a1 : Int} (h0 : a0 ≤ (50 * a1)) (h1 : a1 ≤ 24) : a0 ≤ 1200 := by omega
theorem oq_907d7be5 {a0 : Int} (h0 : a0 ≤ 3) : a0 < 4 := by omega
theorem oq_b6a8a4cc {a0 : Int} (h0 : a0 ≤ 3) : (a0 : Int).toNat < 4 := by omega
theorem oq_45419e6e {a0 : Int} (h0 : a0 ≤ 4) : (a0 + 1) ≤ 2147483647 := by omega
theorem oq_3ec5d522 {a0 : Int} (h0 : 0 ≤ a0) (h1 : a0 ≠ 0) : 0 ≤ (a0 - 1) := by omega
theorem oq_f3f8f749 {a0 : Int} (h0 : a0 ≤ 4) : (a0 - 1) ≤ 4 := by omega
theorem oq_dc10bb6e {a0 : Int} (h0 : a0 ≤ 4) : (a0 - 1) ≤ 2147483647 := by omega
theorem oq_143762c7 {a0 a1 a2 a3 : Int} (h0 : a0 = a1) (h1 : a2 ≤ a3) (h2 : a1 = a3) : a2 ≤ a0 := by omega
theorem oq_2519f37c {a0 a1 a2 a3 a4 a5 a6 : Int} (h0 : 122 < a0) (h1 : a1 = a2) (h2 : ((a3 ≤ a2 ∧ a0 = (-1)) ∨ (a2 < a3 ∧ (0 ≤ a0 ∧ a0 ≤ 255)))) (h3 : a3 = a4) (h4 : a4 = a5) : (a1 = a6 ∨ a1 ≤ a5) := by omega
theorem oq_7e7c278b {a0 a1 a2 a3 a4 : Int} (h0 : a0 = a1) (h1 : 97 ≤ a2) (h2 : a1 = a3) (h3 : ((a4 ≤ a3 ∧ a2 = (-1)) ∨ (a3 < a4 ∧ (0 ≤ a2 ∧ a2 ≤ 255)))) (h4 : a4 ≤ 200) : (a0 + 1) ≤ 400 := by omega
theorem oq_c108a731 {a0 a1 a2 a3 a4 : Int} (h0 : a0 = (a1 + 1)) (h1 : a2 ≤ a3) (h2 : a1 = a4) (h3 : a4 = a3) : a2 ≤ a0 := by omega
theorem oq_a49c266d {a0 a1 a2 a3 a4 a5 a6 a7 a8 a9 : Int} (h0 : a0 = (a1 + 1)) (h1 : a1 = a2) (h2 : ((a3 ≤ a2 ∧ a4 = (-1)) ∨ (a2 < a3 ∧ (0 ≤ a4 ∧ a4 ≤ 255)))) (h3 : 97 ≤ a5) (h4 : a3 = a6) (h5 : a2 = a7) (h6 : ((a6 ≤ a7 ∧ a5 = (-1)) ∨ (a7 < a6 ∧ (0 ≤ a5 ∧ a5 ≤ 255)))) (h7 : a6 = a8) : (a0 = a9 ∨ a0 ≤ a8) := by omega
theorem oq_45b593e3 {a0 a1 a2 a3 a4 : Int} (h0 : a0 = a1) (h1 : a2 = a3) (h2 : a1 = a4) (h3 : a4 = a2) : a0 = a3 := by omega
theorem oq_e6145000 {a0 a1 a2 a3 a4 a5 a6 a7 : Int} (h0 : a0 = a1) (h1 : a2 = (a3 + 1)) (h2 : a1 = a4) (h3 : a3 = a5) (h4 : a4 = a6) (h5 : a5 = a7) : (a0 - a2) < (a6 - a7) := by omega
theorem oq_88aeaead {a0 a1 a2 : Int} (h0 : 97 ≤ a0) (h1 : ((a1 ≤ a2 ∧ a0 = (-1)) ∨ (a2 < a1 ∧ (0 ≤ a0 ∧ a0 ≤ 255)))) : 0 < (a1 - a2) := by omega
theorem oq_f72601a2 {a0 : Int} (h0 : a0 ≤ 380) : a0 ≤ 390 := by omega
theorem oq_ca54ea22 {a0 : Int} (h0 : 0 ≤ a0) : (-1) ≤ a0 := by omega
theorem oq_9d983156 {a0 a1 a2 a3 a4 : Int} (h0 : a0 = a1) (h1 : a1 = a2) (h2 : (a2 = a3 ∨ a2 ≤ a4)) (h3 : a3 ≤ a2) : (a0 = a3 ∨ a0 ≤ a4) := by omega
theorem oq_5071f1ab {a0 a1 : Int} (h0 : 0 ≤ a0) (h1 : a0 ≠ 0) : (a1 ≠ 0 → a0 ≠ 0) := by omega
theorem oq_c324d438 {a0 a1 a2 a3 : Int} (h0 : 0 ≤ a0) (h1 : a0 ≠ 0) : (a0 = 0 → (a1 < a2 ∧ a2 ≤ a3)) := by omega
theorem oq_f2693aa9 {a0 a1 a2 a3 a4 a5 : Int} (h0 : a0 = a1) (h1 : a2 = a3) (h2 : ((a4 ≤ a3 ∧ a0 = (-1)) ∨ (a3 < a4 ∧ (0 ≤ a0 ∧ a0 ≤ 255)))) (h3 : a4 = a5) (h4 : a5 ≤ 200) (h5 : 0 ≤ a1) : (a2 + 1) ≤ 400 := by omega
theorem oq_669de7e1 {a0 a1 a2 a3 a4 a5 a6 a7 : Int} (h0 : a0 = (a1 + 1)) (h1 : a2 = a3) (h2 : a1 = a4) (h3 : ((a5 ≤ a4 ∧ a2 = (-1)) ∨ (a4 < a5 ∧ (0 ≤ a2 ∧ a2 ≤ 255)))) (h4 : a5 = a6) (h5 : 0 ≤ a3) : (a0 = a7 ∨ a0 ≤ a6) := by omega
theorem oq_00dd204b {a0 a1 a2 a3 : Int} (h0 : a0 = a1) (h1 : a1 = a2) (h2 : a2 = a3) (h3 : 0 ≤ a3) : (a3 ≠ 0 → a0 ≠ 0) := by omega
theorem oq_8800f1ea {a0 a1 a2 a3 a4 a5 a6 a7 a8 : Int} (h0 : a0 = (a1 + 1)) (h1 : a2 = a3) (h2 : a1 = a4) (h3 : ((a5 ≤ a4 ∧ a2 = (-1)) ∨ (a4 < a5 ∧ (0 ≤ a2 ∧ a2 ≤ 255)))) (h4 : a5 = a6) (h5 : a7 ≤ a4) (h6 : 0 ≤ a3) : (a8 = 0 → (a7 < a0 ∧ a0 ≤ a6)) := by omega
theorem oq_18969492 {a0 : Int} (h0 : a0 ≤ 7) : (a0 + 1) ≤ 8 := by omega
theorem oq_c3299dea {a0 a1 : Int} (h0 : 1 ≤ a0) (h1 : 0 ≤ a1) : 0 ≤ (a1 + a0) := by omega
theorem oq_69d89cff {a0 a1 a2 : Int} (h0 : a0 ≤ 3) (h1 : a1 = a2) (h2 : a2 ≤ 380) : (a1 + a0) ≤ 400 := by omega
theorem oq_96c994d3 {a0 a1 : Int} (h0 : 1 ≤ a0) (h1 : 0 ≤ a1) : (-2147483648) ≤ (a1 + a0) := by omega
theorem oq_99fe3e62 {a0 a1 : Int} (h0 : a0 ≤ 3) (h1 : a1 ≤ 400) : (a1 + a0) ≤ 2147483647 := by omega
theorem oq_f1381ab8 {a0 a1 a2 a3 : Int} (h0 : a0 = (a1 + a2)) (h1 : a1 = a3) : a0 = (a3 + a2) := by omega
theorem oq_4b8d46b3 {a0 a1 a2 : Int} (h0 : a0 = a1) (h1 : a1 = (a2 + 1)) : a0 = (a2 + 1) := by omega
theorem oq_3da60cc3 {a0 a1 a2 : Int} (h0 : a0 = a1) (h1 : a1 = a2) (h2 : 0 ≤ a2) : (a2 ≠ 0 → a0 ≠ 0) := by omega
theorem oq_2b028323 {a0 a1 : Int} (h0 : a0 ≠ 6) : (a0 = 6 → a1 ≠ 0) := by omega
theorem oq_7dbb59f7 {a0 a1 : Int} (h0 : a0 = a1) (h1 : a1 = 6) : (a0 + 1) ≤ 8 := by omega
theorem oq_75116c0c {a0 a1 a2 a3 : Int} (h0 : a0 ≤ 3) (h1 : a1 = a2) (h2 : a2 = a3) (h3 : a3 ≤ 380) : (a1 + a0) ≤ 400 := by omega
theorem oq_0f45dae9 {a0 a1 a2 a3 a4 : Int} (h0 : a0 = (a1 + a2)) (h1 : a3 = a4) (h2 : a1 = a3) : a0 = (a4 + a2) := by omega
theorem oq_20fce6d9 {a0 a1 a2 a3 : Int} (h0 : a0 = a1) (h1 : a1 = (a2 + 1)) (h2 : a2 = a3) : a0 = (a3 + 1) := by omega
theorem oq_07c40900 {a0 a1 a2 a3 : Int} (h0 : a0 = a1) (h1 : a1 = a2) (h2 : 0 ≤ a2) (h3 : a2 ≠ 0) : (a3 ≠ 0 → a0 ≠ 0) := by omega
theorem oq_43918552 {a0 a1 a2 a3 : Int} (h0 : a0 = a1) (h1 : a1 = a2) (h2 : 0 ≤ a2) (h3 : a2 ≠ 0) : (a3 = 6 → a0 ≠ 0) := by omega
theorem oq_2954f754 {a0 a1 a2 a3 : Int} (h0 : a0 = a1) (h1 : a1 = a2) (h2 : a3 ≤ a2) : a3 ≤ a0 := by omega
theorem oq_c694edf3 {a0 a1 a2 a3 : Int} (h0 : a0 = a1) (h1 : a1 = a2) (h2 : 0 ≤ a2) (h3 : (a3 ≠ 0 → a2 ≠ 0)) (h4 : 0 ≤ a3) : (a3 ≠ 0 → a0 ≠ 0) := by omega
theorem oq_f45fb0af {a0 a1 a2 a3 a4 a5 a6 : Int} (h0 : a0 = a1) (h1 : a2 ≠ 0) (h2 : a1 = a3) (h3 : ((a2 = 1 ∧ (48 ≤ a4 ∧ a4 ≤ 57)) ∨ (a2 = 0 ∧ (a4 < 48 ∨ 57 < a4)))) (h4 : a3 = a5) (h5 : ((a6 ≤ a5 ∧ a4 = (-1)) ∨ (a5 < a6 ∧ (0 ≤ a4 ∧ a4 ≤ 255)))) (h6 : a6 ≤ 200) : (a0 + 1) ≤ 400 := by omega
theorem oq_09a0992e {a0 a1 a2 a3 a4 a5 : Int} (h0 : a0 = (a1 + 1)) (h1 : a2 ≤ a3) (h2 : a1 = a4) (h3 : a5 = a3) (h4 : a4 = a5) : a2 ≤ a0 := by omega
theorem oq_f92305f6 {a0 a1 a2 a3 a4 a5 a6 a7 a8 a9 a10 a11 a12 : Int} (h0 : a0 = (a1 + 1)) (h1 : a1 = a2) (h2 : ((a3 ≤ a2 ∧ a4 = (-1)) ∨ (a2 < a3 ∧ (0 ≤ a4 ∧ a4 ≤ 255)))) (h3 : a5 ≠ 0) (h4 : a3 = a6) (h5 : a2 = a7) (h6 : ((a5 = 1 ∧ (48 ≤ a8 ∧ a8 ≤ 57)) ∨ (a5 = 0 ∧ (a8 < 48 ∨ 57 < a8)))) (h7 : a6 = a9) (h8 : a7 = a10) (h9 : ((a9 ≤ a10 ∧ a8 = (-1)) ∨ (a10 < a9 ∧ (0 ≤ a8 ∧ a8 ≤ 255)))) (h10 : a9 = a11) : (a0 = a12 ∨ a0 ≤ a11) := by omega
theorem oq_b4d295d9 {a0 a1 a2 a3 a4 a5 : Int} (h0 : a0 = a1) (h1 : a2 = a3) (h2 : a1 = a4) (h3 : a4 = a5) (h4 : a5 = a2) : a0 = a3 := by omega
theorem oq_3bb1476c {a0 a1 a2 a3 a4 a5 : Int} (h0 : a0 = a1) (h1 : a1 = a2) (h2 : a2 = a3) (h3 : a3 = a4) (h4 : 0 ≤ a4) (h5 : (a5 ≠ 0 → a4 ≠ 0)) (h6 : 0 ≤ a5) : (a5 ≠ 0 → a0 ≠ 0) := by omega
theorem oq_7fe4a191 {a0 a1 a2 a3 a4 a5 a6 a7 a8 a9 : Int} (h0 : a0 = a1) (h1 : a2 = (a3 + 1)) (h2 : a1 = a4) (h3 : a3 = a5) (h4 : a4 = a6) (h5 : a5 = a7) (h6 : a6 = a8) (h7 : a7 = a9) : (a0 - a2) < (a8 - a9) := by omega
theorem oq_ff13add5 {a0 a1 a2 a3 : Int} (h0 : a0 ≠ 0) (h1 : ((a0 = 1 ∧ (48 ≤ a1 ∧ a1 ≤ 57)) ∨ (a0 = 0 ∧ (a1 < 48 ∨ 57 < a1)))) (h2 : ((a2 ≤ a3 ∧ a1 = (-1)) ∨ (a3 < a2 ∧ (0 ≤ a1 ∧ a1 ≤ 255)))) : 0 < (a2 - a3) := by omega
theorem oq_821adba3 {a0 a1 a2 a3 a4 a5 a6 a7 : Int} (h0 : a0 ≠ 0) (h1 : a1 = a2) (h2 : ((a0 = 1 ∧ (48 ≤ a3 ∧ a3 ≤ 57)) ∨ (a0 = 0 ∧ (a3 < 48 ∨ 57 < a3)))) (h3 : a2 = a4) (h4 : ((a5 ≤ a4 ∧ a3 = (-1)) ∨ (a4 < a5 ∧ (0 ≤ a3 ∧ a3 ≤ 255)))) (h5 : a5 = a6) : (a1 = a7 ∨ a1 ≤ a6) := by omega
theorem oq_6bc29d15 {a0 a1 : Int} (h0 : a0 = a1) (h1 : (-2147483648) ≤ a1) : (-2147483648) ≤ a0 := by omega
theorem oq_60a194f9 {a0 a1 : Int} (h0 : a0 = a1) (h1 : a1 ≤ 2147483647) : a0 ≤ 2147483647 := by omega
theorem oq_82a8716b {a0 a1 a2 a3 a4 a5 a6 a7 : Int} (h0 : a0 = a1) (h1 : (a1 = a2 ∨ a1 ≤ a3)) (h2 : a4 ≠ 0) (h3 : ((a4 = 1 ∧ (48 ≤ a5 ∧ a5 ≤ 57)) ∨ (a4 = 0 ∧ (a5 < 48 ∨ 57 < a5)))) (h4 : ((a6 ≤ a7 ∧ a5 = (-1)) ∨ (a7 < a6 ∧ (0 ≤ a5 ∧ a5 ≤ 255)))) (h5 : a6 = a3) (h6 : a2 ≤ a7) : (a0 = a2 ∨ a0 ≤ a3) := by omega
theorem oq_88e312fc {a0 a1 a2 : Int} (h0 : a0 = a1) (h1 : 0 ≤ a1) (h2 : (a2 ≠ 0 → a1 ≠ 0)) (h3 : 0 ≤ a2) : (a2 ≠ 0 → a0 ≠ 0) := by omega
theorem oq_9d364511 {a0 a1 a2 a3 a4 a5 a6 : Int} (h0 : a0 ≠ 0) (h1 : ((a0 = 1 ∧ (a1 ≤ a2 ∧ a2 ≤ a3)) ∨ (a0 = 0 ∧ (a2 < a1 ∨ a3 < a2)))) (h2 : a3 = a4) (h3 : a1 = a5) : (a6 = 0 → (a5 ≤ a2 ∧ a2 ≤ a4)) := by omega
theorem oq_e191e89b {a0 a1 a2 a3 a4 a5 a6 a7 a8 : Int} (h0 : a0 = a1) (h1 : a1 = a2) (h2 : (a2 = a3 ∨ a2 ≤ a4)) (h3 : a5 ≠ 0) (h4 : ((a5 = 1 ∧ (48 ≤ a6 ∧ a6 ≤ 57)) ∨ (a5 = 0 ∧ (a6 < 48 ∨ 57 < a6)))) (h5 : ((a7 ≤ a8 ∧ a6 = (-1)) ∨ (a8 < a7 ∧ (0 ≤ a6 ∧ a6 ≤ 255)))) (h6 : a7 = a4) (h7 : a3 ≤ a8) : (a0 = a3 ∨ a0 ≤ a4) := by omega
theorem oq_38faa694 {a0 a1 a2 a3 : Int} (h0 : 0 ≤ a0) (h1 : a0 ≠ 0) : (a0 = 0 → (a1 ≤ a2 ∧ a2 ≤ a3)) := by omega
theorem oq_bd4a8eb1 {a0 a1 a2 a3 a4 : Int} (h0 : a0 = a1) (h1 : a2 ≤ a3) (h2 : a1 = a4) (h3 : a4 = a3) : a2 ≤ a0 := by omega
theorem oq_38b7f8bb {a0 a1 a2 a3 a4 a5 : Int} (h0 : a0 = a1) (h1 : a1 = a2) (h2 : a2 = a3) (h3 : (a3 = a4 ∨ a3 ≤ a5)) (h4 : a4 ≤ a3) : (a0 = a4 ∨ a0 ≤ a5) := by omega
theorem oq_d8d6a599 {a0 a1 : Int} (h0 : 0 ≤ a0) (h1 : 0 ≤ a1) : 0 ≤ (a1 + a0) := by omega
theorem oq_faec2b3d {a0 a1 : Int} (h0 : a0 ≤ 200) (h1 : a1 ≤ 400) : (a1 + a0) ≤ 2147483647 := by omega
theorem oq_64f00eb9 {a0 a1 a2 a3 : Int} (h0 : a0 = a1) (h1 : (1 ≤ a2 → a1 < a3)) : (1 ≤ a2 → a0 < a3) := by omega
theorem oq_cd0949b0 {a0 a1 a2 a3 a4 a5 a6 a7 : Int} (h0 : 122 < a0) (h1 : a1 = a2) (h2 : ((a3 ≤ (a2 + a4) ∧ a0 = (-1)) ∨ ((a2 + a4) < a3 ∧ (0 ≤ a0 ∧ a0 ≤ 255)))) (h3 : a3 = a5) (h4 : 0 ≤ a4) (h5 : a5 = a6) : (a1 = a7 ∨ a1 ≤ a6) := by omega
theorem oq_1863856d {a0 a1 a2 a3 a4 a5 a6 : Int} (h0 : 122 < a0) (h1 : a1 = a2) (h2 : ((a3 ≤ (a2 + a4) ∧ a0 = (-1)) ∨ ((a2 + a4) < a3 ∧ (0 ≤ a0 ∧ a0 ≤ 255)))) (h3 : a3 = a5) (h4 : a5 = a6) : (1 ≤ a4 → a1 < a6) := by omega
theorem oq_8987532c {a0 a1 a2 a3 a4 a5 a6 a7 : Int} (h0 : 6 ≤ a0) (h1 : a1 = a2) (h2 : 97 ≤ a3) (h3 : a2 = a4) (h4 : ((a5 ≤ (a4 + a0) ∧ a3 = (-1)) ∨ ((a4 + a0) < a5 ∧ (0 ≤ a3 ∧ a3 ≤ 255)))) (h5 : a5 = a6) : (a1 = a7 ∨ a1 ≤ a6) := by omega
theorem oq_ef1a1f20 {a0 : Int} (h0 : 6 ≤ a0) : 0 ≤ (a0 + 1) := by omega
theorem oq_46d7741e {a0 a1 a2 a3 a4 a5 a6 : Int} (h0 : ((a0 ≤ (a1 + a2) ∧ a3 = (-1)) ∨ ((a1 + a2) < a0 ∧ (0 ≤ a3 ∧ a3 ≤ 255)))) (h1 : 0 ≤ a1) (h2 : 97 ≤ a4) (h3 : a0 = a5) (h4 : a1 = a6) (h5 : ((a5 ≤ (a6 + a2) ∧ a4 = (-1)) ∨ ((a6 + a2) < a5 ∧ (0 ≤ a4 ∧ a4 ≤ 255)))) (h6 : a5 ≤ 200) : (a2 + 1) ≤ 200 := by omega
theorem oq_d8509bc0 {a0 a1 : Int} (h0 : 6 ≤ a0) : ((a0 + 1) = 0 → a1 = 0) := by omega
theorem oq_810f8ff6 {a0 a1 a2 a3 a4 a5 a6 : Int} (h0 : 6 ≤ a0) (h1 : a1 = a2) (h2 : 97 ≤ a3) (h3 : a2 = a4) (h4 : ((a5 ≤ (a4 + a0) ∧ a3 = (-1)) ∨ ((a4 + a0) < a5 ∧ (0 ≤ a3 ∧ a3 ≤ 255)))) (h5 : a5 = a6) : (1 ≤ (a0 + 1) → a1 < a6) := by omega
theorem oq_4b400f0f {a0 a1 a2 a3 a4 a5 a6 : Int} (h0 : ((a0 ≤ (a1 + a2) ∧ a3 = (-1)) ∨ ((a1 + a2) < a0 ∧ (0 ≤ a3 ∧ a3 ≤ 255)))) (h1 : 0 ≤ a1) (h2 : 97 ≤ a4) (h3 : a0 = a5) (h4 : a1 = a6) (h5 : ((a5 ≤ (a6 + a2) ∧ a4 = (-1)) ∨ ((a6 + a2) < a5 ∧ (0 ≤ a4 ∧ a4 ≤ 255)))) (h6 : a5 ≤ 200) : 0 < (200 - a2) := by omega
theorem oq_0835e488 {a0 a1 : Int} (h0 : a0 ≤ 400) (h1 : a1 < 6) : (a0 + a1) ≤ 2147483647 := by omega
theorem oq_fbd1858b {a0 a1 a2 a3 a4 a5 a6 a7 a8 : Int} (h0 : a0 = a1) (h1 : a1 = a2) (h2 : 97 ≤ a3) (h3 : a2 = a4) (h4 : ((a5 ≤ (a4 + a6) ∧ a3 = (-1)) ∨ ((a4 + a6) < a5 ∧ (0 ≤ a3 ∧ a3 ≤ 255)))) (h5 : 0 ≤ a6) (h6 : a5 = a7) : (a0 = a8 ∨ a0 ≤ a7) := by omega
theorem oq_88fcdc91 {a0 : Int} (h0 : a0 < 6) : (a0 + 1) ≤ 200 := by omega
theorem oq_b860ca62 {a0 a1 : Int} (h0 : 0 ≤ a0) : ((a0 + 1) = 0 → a1 = 0) := by omega
theorem oq_3fd0273b {a0 a1 a2 a3 a4 a5 a6 a7 a8 a9 a10 a11 : Int} (h0 : a0 = a1) (h1 : ((a2 ≤ (a1 + a3) ∧ a4 = (-1)) ∨ ((a1 + a3) < a2 ∧ (0 ≤ a4 ∧ a4 ≤ 255)))) (h2 : a2 = a5) (h3 : a1 = a6) (h4 : ((a5 ≤ (a6 + a3) ∧ a7 = (-1)) ∨ ((a6 + a3) < a5 ∧ (0 ≤ a7 ∧ a7 ≤ 255)))) (h5 : 97 ≤ a8) (h6 : a5 = a9) (h7 : a6 = a10) (h8 : ((a9 ≤ (a10 + a3) ∧ a8 = (-1)) ∨ ((a10 + a3) < a9 ∧ (0 ≤ a8 ∧ a8 ≤ 255)))) (h9 : 0 ≤ a3) (h10 : a9 = a11) : (1 ≤ (a3 + 1) → a0 < a11) := by omega
theorem oq_8e8d8f07 {a0 : Int} (h0 : a0 < 6) : 0 < (200 - a0) := by omega
theorem oq_c2ed65b6  : (0 = 0 → 0 = 0) := by omega
theorem oq_901188d8 {a0 a1 : Int}  : (1 ≤ 0 → a0 < a1) := by omega
theorem oq_02aa45b0 {a0 a1 a2 : Int} (h0 : ((a0 ≤ 6 ∧ a1 = a2) ∨ (6 < a0 ∧ a1 = (-1)))) (h1 : (-2147483648) ≤ a2) : (-2147483648) ≤ a1 := by omega
theorem oq_78b72728 {a0 a1 a2 : Int} (h0 : ((a0 ≤ 6 ∧ a1 = a2) ∨ (6 < a0 ∧ a1 = (-1)))) (h1 : a2 ≤ 2147483647) : a1 ≤ 2147483647 := by omega
theorem oq_c9cc9202 {a0 a1 a2 a3 a4 : Int} (h0 : ((a0 ≤ 6 ∧ a1 = a2) ∨ (6 < a0 ∧ a1 = (-1)))) (h1 : (1 ≤ a0 → a3 < a4)) (h2 : (a0 = 0 → a2 = 0)) (h3 : 0 ≤ a0) : (a1 ≠ 0 → a3 < a4) := by omega
theorem oq_b301c3bf {a0 : Int} (h0 : a0 ≤ 6) : a0 ≤ 2147483647 := by omega
theorem oq_1a22b625 {a0 a1 a2 a3 a4 a5 a6 a7 a8 : Int} (h0 : a0 = a1) (h1 : a1 = a2) (h2 : a2 = a3) (h3 : a3 = a4) (h4 : a4 = a5) (h5 : a5 = a6) (h6 : a6 = a7) (h7 : a8 ≤ a7) : a8 ≤ a0 := by omega
theorem oq_c7e4d1fa {a0 a1 a2 a3 a4 a5 a6 a7 a8 a9 : Int} (h0 : a0 = a1) (h1 : a1 = a2) (h2 : a2 = a3) (h3 : a3 = a4) (h4 : a4 = a5) (h5 : a5 = a6) (h6 : a6 = a7) (h7 : (a7 = a8 ∨ a7 ≤ a9)) (h8 : a8 ≤ a7) : (a0 = a8 ∨ a0 ≤ a9) := by omega
theorem oq_0d4062ee {a0 a1 a2 a3 a4 a5 a6 a7 a8 a9 a10 a11 : Int} (h0 : (-1) ≤ a0) (h1 : ((a1 ≠ a2 ∧ a0 = (-1)) ∨ (a1 = a2 ∧ a0 = 6))) (h2 : a3 = a4) (h3 : 1 ≤ a2) (h4 : a4 = a5) (h5 : a5 = a6) (h6 : a6 = a7) (h7 : a7 = a8) (h8 : a8 = a9) (h9 : a9 = a10) (h10 : (a1 ≠ 0 → a10 < a11)) : (a0 ≠ (-1) → a3 < a11) := by omega
theorem oq_848a55a6 {a0 a1 a2 a3 a4 a5 a6 a7 : Int} (h0 : a0 = a1) (h1 : a1 = a2) (h2 : a2 = a3) (h3 : a3 = a4) (h4 : a4 = a5) (h5 : a5 = a6) (h6 : a7 ≤ a6) : a7 ≤ a0 := by omega
theorem oq_729a7106 {a0 a1 a2 a3 a4 a5 a6 a7 a8 a9 a10 : Int} (h0 : a0 = a1) (h1 : a2 = a3) (h2 : 1 ≤ a1) (h3 : a3 = a4) (h4 : a4 = a5) (h5 : a5 = a6) (h6 : a6 = a7) (h7 : a7 = a8) (h8 : (a0 ≠ 0 → a8 < a9)) : (a2 = a10 ∨ a2 ≤ a9) := by omega
theorem oq_829509e8 {a0 a1 a2 a3 a4 a5 a6 a7 a8 a9 : Int} (h0 : a0 = a1) (h1 : a2 = a3) (h2 : 1 ≤ a1) (h3 : a3 = a4) (h4 : a4 = a5) (h5 : a5 = a6) (h6 : a6 = a7) (h7 : a7 = a8) (h8 : (a0 ≠ 0 → a8 < a9)) : (5 ≠ (-1) → a2 < a9) := by omega
theorem oq_17730e68 {a0 a1 a2 a3 a4 a5 a6 : Int} (h0 : a0 = a1) (h1 : a1 = a2) (h2 : a2 = a3) (h3 : a3 = a4) (h4 : a4 = a5) (h5 : a6 ≤ a5) : a6 ≤ a0 := by omega
theorem oq_1ad4a7f8 {a0 a1 a2 a3 a4 a5 a6 a7 a8 a9 : Int} (h0 : a0 = a1) (h1 : a2 = a3) (h2 : 1 ≤ a1) (h3 : a3 = a4) (h4 : a4 = a5) (h5 : a5 = a6) (h6 : a6 = a7) (h7 : (a0 ≠ 0 → a7 < a8)) : (a2 = a9 ∨ a2 ≤ a8) := by omega
theorem oq_57df88a9 {a0 a1 a2 a3 a4 a5 a6 a7 a8 : Int} (h0 : a0 = a1) (h1 : a2 = a3) (h2 : 1 ≤ a1) (h3 : a3 = a4) (h4 : a4 = a5) (h5 : a5 = a6) (h6 : a6 = a7) (h7 : (a0 ≠ 0 → a7 < a8)) : (4 ≠ (-1) → a2 < a8) := by omega
theorem oq_11fe630f {a0 a1 a2 a3 a4 a5 : Int} (h0 : a0 = a1) (h1 : a1 = a2) (h2 : a2 = a3) (h3 : a3 = a4) (h4 : a5 ≤ a4) : a5 ≤ a0 := by omega
theorem oq_69067335 {a0 a1 a2 a3 a4 a5 a6 a7 a8 : Int} (h0 : a0 = a1) (h1 : a2 = a3) (h2 : 1 ≤ a1) (h3 : a3 = a4) (h4 : a4 = a5) (h5 : a5 = a6) (h6 : (a0 ≠ 0 → a6 < a7)) : (a2 = a8 ∨ a2 ≤ a7) := by omega
theorem oq_24ca1aeb {a0 a1 a2 a3 a4 a5 a6 a7 : Int} (h0 : a0 = a1) (h1 : a2 = a3) (h2 : 1 ≤ a1) (h3 : a3 = a4) (h4 : a4 = a5) (h5 : a5 = a6) (h6 : (a0 ≠ 0 → a6 < a7)) : (3 ≠ (-1) → a2 < a7) := by omega
theorem oq_47978b2f {a0 a1 a2 a3 a4 : Int} (h0 : a0 = a1) (h1 : a1 = a2) (h2 : a2 = a3) (h3 : a4 ≤ a3) : a4 ≤ a0 := by omega
theorem oq_85016481 {a0 a1 a2 a3 a4 a5 a6 a7 : Int} (h0 : a0 = a1) (h1 : a2 = a3) (h2 : 1 ≤ a1) (h3 : a3 = a4) (h4 : a4 = a5) (h5 : (a0 ≠ 0 → a5 < a6)) : (a2 = a7 ∨ a2 ≤ a6) := by omega
theorem oq_ed1d23fc {a0 a1 a2 a3 a4 a5 a6 : Int} (h0 : a0 = a1) (h1 : a2 = a3) (h2 : 1 ≤ a1) (h3 : a3 = a4) (h4 : a4 = a5) (h5 : (a0 ≠ 0 → a5 < a6)) : (2 ≠ (-1) → a2 < a6) := by omega
theorem oq_d2f0a5e5 {a0 a1 a2 a3 a4 a5 a6 : Int} (h0 : a0 = a1) (h1 : a2 = a3) (h2 : 1 ≤ a1) (h3 : a3 = a4) (h4 : (a0 ≠ 0 → a4 < a5)) : (a2 = a6 ∨ a2 ≤ a5) := by omega
theorem oq_4f60f847 {a0 a1 a2 a3 a4 a5 : Int} (h0 : a0 = a1) (h1 : a2 = a3) (h2 : 1 ≤ a1) (h3 : a3 = a4) (h4 : (a0 ≠ 0 → a4 < a5)) : (1 ≠ (-1) → a2 < a5) := by omega
theorem oq_0b55d760 {a0 a1 a2 a3 a4 a5 : Int} (h0 : a0 = a1) (h1 : a2 = a3) (h2 : 1 ≤ a1) (h3 : (a0 ≠ 0 → a3 < a4)) : (a2 = a5 ∨ a2 ≤ a4) := by omega
theorem oq_89d1dd48 {a0 a1 a2 a3 a4 : Int} (h0 : a0 = a1) (h1 : a2 = a3) (h2 : 1 ≤ a1) (h3 : (a0 ≠ 0 → a3 < a4)) : (0 ≠ (-1) → a2 < a4) := by omega
theorem oq_6c55e2f6 {a0 : Int} (h0 : a0 ≤ 380) : a0 ≤ 400 := by omega
theorem oq_5d668942 {a0 : Int} (h0 : a0 ≤ 380) : a0 ≤ 2147483647 := by omega
/-! The model: words and numbers of a text, marks -/
section M34
variable {l : Launch} {s0 : State} {D : va_G} {tys : List (ClassId × FieldType)} {a0 : Array Value} {A : Nat → Nat} {dT : Nat → ClassId} {s : PS}
theorem k_stepOf (G : GX l s0 D tys a0 dT) (I : Bd s) {x y : Int} (p0 : 0 ≤ x ∧ x ≤ 127) (p1 : 0 ≤ y ∧ y ≤ 127) : CT l s0 D A dT 225 (rmN 225) [.int (Int32.ofInt x), .int (Int32.ofInt y)] s (fun o t => Bd t ∧ Fm [] [] s t ∧ ∃ e, o = .inl (some (.int (Int32.ofInt e))) ∧ rng e ∧ (0 ≤ e ∧ e ≤ 5)) := by
  refine ct_of G (by decide) (Nat.le_of_ble_eq_true rfl) (fun k X E hRt hXt q => ?_)
  show WS k 0 [(0, .int (Int32.ofInt x)), (1, .int (Int32.ofInt y))] [] _ 0 0
  have F : Fm [] [] s s := fm_rf _ _ s
  refine z_load_n X (x := y) rfl (List.Mem.tail _ (List.Mem.head _)) (z_load_n X (x := x) rfl (List.Mem.head _) (z_sub X rfl (z_const X rfl ?_)))
  have N1 : ∀ e2 : Int, (0 ≤ e2 ∧ e2 ≤ 5) → WS k 59 [(0, .int (Int32.ofInt x)), (1, .int (Int32.ofInt y))] [.int (Int32.ofInt e2)] (Wd A dT s) 0 0 := by
    intro e2 he2
    exact w_iret X.1 q hRt rfl (ax_d X (show cdA 225 59 = some (.ireturn, 1, 0, 0, 0) from rfl)) (Nat.zero_le _) (Nat.zero_le _) ⟨_, rfl, I, F, e2, rfl, ⟨by first | exact oq_fa4e5087 he2.1 | omega, by first | exact oq_a3dd55e5 he2.2 | omega⟩, by first | exact ⟨he2.1, he2.2⟩ | omega⟩
  refine z_icmp_ne X (t := 11) rfl rfl ⟨by first | exact oq_449d3e35 p1.1 p0.2 | omega, by first | exact oq_ad754bc3 p1.2 p0.1 | omega⟩ (by decide) (fun g3 => ?_) (fun g3 => ?_)
  ·
    refine z_load_n X (x := y) rfl (List.Mem.tail _ (List.Mem.head _)) (z_load_n X (x := x) rfl (List.Mem.head _) (z_sub X rfl (z_const X rfl (z_icmp_ne X (t := 22) rfl rfl ⟨by first | exact oq_449d3e35 p1.1 p0.2 | omega, by first | exact oq_ad754bc3 p1.2 p0.1 | omega⟩ (by decide) (fun g4 => ?_) (fun g4 => ?_)))))
    ·
      refine z_load_n X (x := y) rfl (List.Mem.tail _ (List.Mem.head _)) (z_load_n X (x := x) rfl (List.Mem.head _) (z_sub X rfl (z_bipush X rfl (z_icmp_ne X (t := 34) rfl rfl ⟨by first | exact oq_449d3e35 p1.1 p0.2 | omega, by first | exact oq_ad754bc3 p1.2 p0.1 | omega⟩ (by decide) (fun g5 => ?_) (fun g5 => ?_)))))
      ·
        refine z_load_n X (x := y) rfl (List.Mem.tail _ (List.Mem.head _)) (z_load_n X (x := x) rfl (List.Mem.head _) (z_sub X rfl (z_bipush X rfl (z_icmp_ne X (t := 46) rfl rfl ⟨by first | exact oq_449d3e35 p1.1 p0.2 | omega, by first | exact oq_ad754bc3 p1.2 p0.1 | omega⟩ (by decide) (fun g6 => ?_) (fun g6 => ?_)))))
        ·
          refine z_load_n X (x := y) rfl (List.Mem.tail _ (List.Mem.head _)) (z_load_n X (x := x) rfl (List.Mem.head _) (z_sub X rfl (z_bipush X rfl (z_icmp_ne X (t := 58) rfl rfl ⟨by first | exact oq_449d3e35 p1.1 p0.2 | omega, by first | exact oq_ad754bc3 p1.2 p0.1 | omega⟩ (by decide) (fun g7 => ?_) (fun g7 => ?_)))))
          ·
            refine z_const X rfl ?_
            exact N1 _ (by first | (clear g7 g6 g5 g4 g3; omega) | (clear g6 g5 g4 g3; omega) | omega)
          ·
            refine z_const X rfl (z_goto X (t := 59) rfl rfl ?_)
            exact N1 _ (by first | (clear g6 g5 g4 g3; omega) | (clear g5 g4 g3; omega) | omega)
        ·
          refine z_const X rfl (z_goto X (t := 59) rfl rfl ?_)
          exact N1 _ (by first | (clear g5 g4 g3; omega) | (clear g4 g3; omega) | omega)
      ·
        refine z_const X rfl (z_goto X (t := 59) rfl rfl ?_)
        exact N1 _ (by first | (clear g4 g3; omega) | (clear g3; omega) | omega)
    ·
      refine z_const X rfl (z_goto X (t := 59) rfl rfl ?_)
      exact N1 _ (by first | (clear g3; omega) | omega)
  ·
    refine z_const X rfl (z_goto X (t := 59) rfl rfl ?_)
    exact N1 _ (by omega)
theorem k_total (G : GX l s0 D tys a0 dT) (I : Bd s) {x : Int} (p0 : 0 ≤ x ∧ x ≤ 11) : CT l s0 D A dT 248 (rmN 248) [.ref (A 179), .int (Int32.ofInt x)] s (fun o t => Bd t ∧ Fm [] [] s t ∧ ∃ e, o = .inl (some (.int (Int32.ofInt e))) ∧ rng e ∧ (0 ≤ e ∧ e ≤ 1200)) := by
  refine ct_of G (by decide) (Nat.le_of_ble_eq_true rfl) (fun k X E hRt hXt q => ?_)
  show WS k 0 [(0, .ref (A 179)), (1, .int (Int32.ofInt x))] [] _ 0 0
  have F : Fm [] [] s s := fm_rf _ _ s
  have L4 : ∀ (n : Nat) (t : PS) (xv nv c : Int), Bd t → Fm [] [] s t → ((0 ≤ xv ∧ xv ≤ 11) ∧ 0 ≤ nv ∧ nv ≤ 50 * c ∧ 0 ≤ c ∧ c ≤ 24) → (24 - c : Int).toNat < n → (∀ (t' : PS) (xv' nv' c' : Int), Bd t' → Fm [] [] s t' → ((0 ≤ xv' ∧ xv' ≤ 11) ∧ 0 ≤ nv' ∧ nv' ≤ 50 * c' ∧ 0 ≤ c' ∧ c' ≤ 24) → WS k 27 [(0, .ref (A 179)), (1, .int (Int32.ofInt xv')), (2, .int (Int32.ofInt nv')), (3, .int (Int32.ofInt c'))] [] (Wd A dT t') 0 0) → WS k 4 [(0, .ref (A 179)), (1, .int (Int32.ofInt xv)), (2, .int (Int32.ofInt nv)), (3, .int (Int32.ofInt c))] [] (Wd A dT t) 0 0 := by
    intro n
    induction n with
    | zero =>
      intro t xv nv c I F hi hm kx
      exact absurd hm (Nat.not_lt_zero _)
    | succ n ih =>
      intro t xv nv c I F hi hm kx
      refine z_load_n X (x := c) rfl (List.Mem.tail _ (List.Mem.tail _ (List.Mem.tail _ (List.Mem.head _)))) (z_bipush X rfl (z_icmp_ge X (t := 27) rfl rfl ⟨by first | exact oq_fa4e5087 hi.2.2.2.1 | omega, by first | exact oq_5bcd337f hi.2.2.2.2 | omega⟩ (by decide) (fun g1001 => ?_) (fun g1001 => ?_)))
      ·
        refine WS_pq [0, 1, 2, 3] (lv' := [(0, .ref (A 179)), (1, .int (Int32.ofInt xv)), (2, .int (Int32.ofInt nv)), (3, .int (Int32.ofInt c))]) rfl ?_
        exact kx _ xv nv c I F (by first | exact ⟨And.intro (hi.1.1) (hi.1.2), hi.2.1, hi.2.2.1, hi.2.2.2.1, hi.2.2.2.2⟩ | omega)
      ·
        refine z_load_n X (x := nv) rfl (List.Mem.tail _ (List.Mem.tail _ (List.Mem.head _))) (z_aload_n X (x := A 179) rfl (List.Mem.head _) (s_getR X 179 rfl (c518_ok rfl) rfl rfl (z_load_n X (x := xv) rfl (List.Mem.tail _ (List.Mem.head _)) (z_aald X rw_215 rfl (by first | exact hi.1.1 | omega) (show xv < 12 by first | exact oq_0ddfcfee hi.1.2 | omega) (by decide) (z_load_n X (x := c) rfl (List.Mem.tail _ (List.Mem.tail _ (List.Mem.tail _ (List.Mem.head _)))) (z_ald2 X rw_215 rfl (show (xv : Int).toNat < 12 by first | exact oq_9c5fa447 hi.1.2 | omega) (by first | exact hi.2.2.2.1 | omega) (show c < 24 by first | exact g1001 | omega) (by decide) ?_))))))
        have b1002 : (0 : Int) ≤ (iC t (190 + (xv : Int).toNat) (c : Int).toNat) ∧ (iC t (190 + (xv : Int).toNat) (c : Int).toNat) ≤ 50 := rw_bd rw_215 I (show (xv : Int).toNat < 12 by first | exact oq_9c5fa447 hi.1.2 | omega) (show (c : Int).toNat < 24 by first | exact oq_797efae6 g1001 | omega)
        refine z_add X rfl (z_store_n X (lv' := [(2, .int (Int32.ofInt (nv + (iC t (190 + (xv : Int).toNat) (c : Int).toNat)))), (0, .ref (A 179)), (1, .int (Int32.ofInt xv)), (3, .int (Int32.ofInt c))]) rfl (by decide) (fun _ h => h) (z_inc X (x := c) (lv' := [(3, .int (Int32.ofInt (c + 1))), (2, .int (Int32.ofInt (nv + (iC t (190 + (xv : Int).toNat) (c : Int).toNat)))), (0, .ref (A 179)), (1, .int (Int32.ofInt xv))]) rfl (by decide) (List.Mem.tail _ (List.Mem.tail _ (List.Mem.tail _ (List.Mem.head _)))) (fun _ h => h) (z_goto X (t := 4) rfl rfl (WS_pq [2, 3, 1, 0] (lv' := [(0, .ref (A 179)), (1, .int (Int32.ofInt xv)), (2, .int (Int32.ofInt (nv + (iC t (190 + (xv : Int).toNat) (c : Int).toNat)))), (3, .int (Int32.ofInt (c + 1)))]) rfl ?_))))
        exact ih _ xv (nv + (iC t (190 + (xv : Int).toNat) (c : Int).toNat)) (c + 1) I F (by first | exact ⟨And.intro (hi.1.1) (hi.1.2), oq_dd29f52d hi.2.1 b1002.1, oq_d1fd8eeb hi.2.2.1 b1002.2, oq_54f49eb5 hi.2.2.2.1, oq_cec7cb2e g1001⟩ | omega) (by first | exact qk_me hm (by decide) (oq_ffa8317e g1001) | omega) kx
  refine z_const X rfl (z_store_n X (lv' := [(2, .int (Int32.ofInt 0)), (0, .ref (A 179)), (1, .int (Int32.ofInt x))]) rfl (by decide) (fun _ h => h) (z_const X rfl (z_store_n X (lv' := [(3, .int (Int32.ofInt 0)), (2, .int (Int32.ofInt 0)), (0, .ref (A 179)), (1, .int (Int32.ofInt x))]) rfl (by decide) (fun _ h => h) (WS_pq [2, 3, 1, 0] (lv' := [(0, .ref (A 179)), (1, .int (Int32.ofInt x)), (2, .int (Int32.ofInt 0)), (3, .int (Int32.ofInt 0))]) rfl (L4 ((24 - 0 : Int).toNat + 1) s x 0 0 I F (by first | exact ⟨And.intro (p0.1) (p0.2), by decide, by decide, by decide, by decide⟩ | omega) (Nat.lt_succ_self _) ?_)))))
  intro s1 x2 x3 x4 Is1 Fs1 hs1
  refine z_load_n X (x := x3) rfl (List.Mem.tail _ (List.Mem.tail _ (List.Mem.head _))) ?_
  exact w_iret X.1 q hRt rfl (ax_d X (show cdA 248 28 = some (.ireturn, 1, 0, 0, 0) from rfl)) (Nat.zero_le _) (Nat.zero_le _) ⟨_, rfl, Is1, Fs1, x3, rfl, ⟨by first | exact oq_fa4e5087 hs1.2.1 | omega, by first | exact oq_fe510769 hs1.2.2.1 hs1.2.2.2.2 | omega⟩, by first | exact ⟨hs1.2.1, oq_552552b9 hs1.2.2.1 hs1.2.2.2.2⟩ | omega⟩
end M34
