theorem oq_a3dd55e5 {a0 : Int} (h0 : a0 ≤ 5) : a0 ≤ 2147483647 := by omega
theorem oq_449d3e35 {a0 a1 : Int} (h0 : 0 ≤ a0) (h1 : a1 ≤ 127) : (-2147483648) ≤ (a0 - a1) := by omega
theorem oq_ad754bc3 {a0 a1 : Int} (h0 : a0 ≤ 127) (h1 : 0 ≤ a1) : (a0 - a1) ≤ 2147483647 := by omega
theorem oq_ecd050b7 {a0 a1 a2 a3 a4 a5 a6 a7 a8 a9 : Int} (h0 : ((a0 ≠ 0 ∧ a1 = ((27 * a2) + a0)) ∨ (a0 = 0 ∧ a1 = a2))) (h1 : ((a3 ≠ 0 ∧ a2 = ((27 * a4) + a3)) ∨ (a3 = 0 ∧ a2 = a4))) (h2 : ((a5 ≠ 0 ∧ a4 = ((27 * a6) + a5)) ∨ (a5 = 0 ∧ a4 = a6))) (h3 : ((a7 ≠ 0 ∧ a6 = ((27 * ((27 * a8) + a9)) + a7)) ∨ (a7 = 0 ∧ a6 = ((27 * a8) + a9)))) (h4 : 0 ≤ a0) (h5 : 0 ≤ a3) (h6 : 0 ≤ a5) (h7 : 0 ≤ a7) (h8 : 0 ≤ a9) (h9 : 1 ≤ a8) : (-2147483648) ≤ a1 := by omega
theorem oq_5f3f93de {a0 a1 a2 a3 a4 a5 a6 a7 a8 a9 : Int} (h0 : ((a0 ≠ 0 ∧ a1 = ((27 * a2) + a0)) ∨ (a0 = 0 ∧ a1 = a2))) (h1 : ((a3 ≠ 0 ∧ a2 = ((27 * a4) + a3)) ∨ (a3 = 0 ∧ a2 = a4))) (h2 : ((a5 ≠ 0 ∧ a4 = ((27 * a6) + a5)) ∨ (a5 = 0 ∧ a4 = a6))) (h3 : ((a7 ≠ 0 ∧ a6 = ((27 * ((27 * a8) + a9)) + a7)) ∨ (a7 = 0 ∧ a6 = ((27 * a8) + a9)))) (h4 : a0 ≤ 27) (h5 : a3 ≤ 27) (h6 : a5 ≤ 27) (h7 : a7 ≤ 27) (h8 : a9 ≤ 27) (h9 : a8 ≤ 27) : a1 ≤ 2147483647 := by omega
theorem oq_66594a1b {a0 a1 a2 a3 a4 a5 a6 a7 a8 a9 : Int} (h0 : ((a0 ≠ 0 ∧ a1 = ((27 * a2) + a0)) ∨ (a0 = 0 ∧ a1 = a2))) (h1 : ((a3 ≠ 0 ∧ a2 = ((27 * a4) + a3)) ∨ (a3 = 0 ∧ a2 = a4))) (h2 : ((a5 ≠ 0 ∧ a4 = ((27 * a6) + a5)) ∨ (a5 = 0 ∧ a4 = a6))) (h3 : ((a7 ≠ 0 ∧ a6 = ((27 * ((27 * a8) + a9)) + a7)) ∨ (a7 = 0 ∧ a6 = ((27 * a8) + a9)))) (h4 : 0 ≤ a0) (h5 : 0 ≤ a3) (h6 : 0 ≤ a5) (h7 : 0 ≤ a7) (h8 : 0 ≤ a9) (h9 : 1 ≤ a8) : 1 ≤ a1 := by omega
theorem oq_e977c44f {a0 : Int} (h0 : a0 ≤ 27) : a0 ≤ 2147483647 := by omega
theorem oq_797efae6 {a0 : Int} (h0 : a0 < 24) : (a0 : Int).toNat < 24 := by omega
theorem oq_dd29f52d {a0 a1 : Int} (h0 : 0 ≤ a0) (h1 : 0 ≤ a1) : 0 ≤ (a0 + a1) := by omega
theorem oq_d1fd8eeb {a0 a1 a2 : Int} (h0 : a0 ≤ (50 * a1)) (h1 : a2 ≤ 50) : (a0 + a2) ≤ (50 * (a1 + 1)) := by omega
theorem oq_cec7cb2e {a0 : Int} (h0 : a0 < 24) : (a0 + 1) ≤ 24 := by omega
theorem oq_ffa8317e {a0 : Int} (h0 : a0 < 24) : 0 < (24 - a0) := by omega
theorem oq_fe510769 {a0 a1 : Int} (h0 : a0 ≤ (50 * a1)) (h1 : a1 ≤ 24) : a0 ≤ 2147483647 := by omega
theorem oq_552552b9 {a0 a1 : Int} (h0 : a0 ≤ (50 * a1)) (h1 : a1 ≤ 24) : a0 ≤ 1200 := by omega
theorem oq_907d7be5 {a0 : Int} (h0 : a0 ≤ 3) : a0 < 4 := by omega
theorem oq_b6a8a4cc {a0 : Int} (h0 : a0 ≤ 3) : (a0 : Int).toNat < 4 := by omega
theorem oq_6b149751 {a0 a1 : Int} (h0 : a0 = a1) (h1 : a1 ≤ 3) : a0 ≤ 3 := by omega
theorem oq_38bef008 {a0 : Int} (h0 : a0 ≠ 4) (h1 : a0 ≤ 4) : a0 ≤ 3 := by omega
theorem oq_fb6340d3 {a0 : Int} (h0 : a0 ≤ 3) : (a0 + 1) ≤ 4 := by omega
theorem oq_45419e6e {a0 : Int} (h0 : a0 ≤ 4) : (a0 + 1) ≤ 2147483647 := by omega
theorem oq_3ec5d522 {a0 : Int} (h0 : 0 ≤ a0) (h1 : a0 ≠ 0) : 0 ≤ (a0 - 1) := by omega
theorem oq_f3f8f749 {a0 : Int} (h0 : a0 ≤ 4) : (a0 - 1) ≤ 4 := by omega
theorem oq_dc10bb6e {a0 : Int} (h0 : a0 ≤ 4) : (a0 - 1) ≤ 2147483647 := by omega
theorem oq_652a8e73 {a0 a1 : Int} (h0 : a0 = (a1 - 1)) (h1 : a1 ≤ 4) : a0 ≤ 3 := by omega
theorem oq_143762c7 {a0 a1 a2 a3 : Int} (h0 : a0 = a1) (h1 : a2 ≤ a3) (h2 : a1 = a3) : a2 ≤ a0 := by omega
theorem oq_2519f37c {a0 a1 a2 a3 a4 a5 a6 : Int} (h0 : 122 < a0) (h1 : a1 = a2) (h2 : ((a3 ≤ a2 ∧ a0 = (-1)) ∨ (a2 < a3 ∧ (0 ≤ a0 ∧ a0 ≤ 255)))) (h3 : a3 = a4) (h4 : a4 = a5) : (a1 = a6 ∨ a1 ≤ a5) := by omega
theorem oq_7e7c278b {a0 a1 a2 a3 a4 : Int} (h0 : a0 = a1) (h1 : 97 ≤ a2) (h2 : a1 = a3) (h3 : ((a4 ≤ a3 ∧ a2 = (-1)) ∨ (a3 < a4 ∧ (0 ≤ a2 ∧ a2 ≤ 255)))) (h4 : a4 ≤ 200) : (a0 + 1) ≤ 400 := by omega
theorem oq_c108a731 {a0 a1 a2 a3 a4 : Int} (h0 : a0 = (a1 + 1)) (h1 : a2 ≤ a3) (h2 : a1 = a4) (h3 : a4 = a3) : a2 ≤ a0 := by omega
theorem oq_a49c266d {a0 a1 a2 a3 a4 a5 a6 a7 a8 a9 : Int} (h0 : a0 = (a1 + 1)) (h1 : a1 = a2) (h2 : ((a3 ≤ a2 ∧ a4 = (-1)) ∨ (a2 < a3 ∧ (0 ≤ a4 ∧ a4 ≤ 255)))) (h3 : 97 ≤ a5) (h4 : a3 = a6) (h5 : a2 = a7) (h6 : ((a6 ≤ a7 ∧ a5 = (-1)) ∨ (a7 < a6 ∧ (0 ≤ a5 ∧ a5 ≤ 255)))) (h7 : a6 = a8) : (a0 = a9 ∨ a0 ≤ a8) := by omega
theorem oq_45b593e3 {a0 a1 a2 a3 a4 : Int} (h0 : a0 = a1) (h1 : a2 = a3) (h2 : a1 = a4) (h3 : a4 = a2) : a0 = a3 := by omega
theorem oq_e6145000 {a0 a1 a2 a3 a4 a5 a6 a7 : Int} (h0 : a0 = a1) (h1 : a2 = (a3 + 1)) (h2 : a1 = a4) (h3 : a3 = a5) (h4 : a4 = a6) (h5 : a5 = a7) : (a0 - a2) < (a6 - a7) := by omega
theorem oq_88aeaead {a0 a1 a2 : Int} (h0 : 97 ≤ a0) (h1 : ((a1 ≤ a2 ∧ a0 = (-1)) ∨ (a2 < a1 ∧ (0 ≤ a0 ∧ a0 ≤ 255)))) : 0 < (a1 - a2) := by omega
theorem oq_f72601a2 {a0 : Int} (h0 : a0 ≤ 380) : a0 ≤ 390 := by omega
theorem oq_ca54ea22 {a0 : Int} (h0 : 0 ≤ a0) : (-1) ≤ a0 := by omega
theorem oq_9d983156 {a0 a1 a2 a3 a4 : Int} (h0 : a0 = a1) (h1 : a1 = a2) (h2 : (a2 = a3 ∨ a2 ≤ a4)) (h3 : a3 ≤ a2) : (a0 = a3 ∨ a0 ≤ a4) := by omega
theorem oq_5071f1ab {a0 a1 : Int} (h0 : 0 ≤ a0) (h1 : a0 ≠ 0) : (a1 ≠ 0 → a0 ≠ 0) := by omega
theorem oq_c324d438 {a0 a1 a2 a3 : Int} (h0 : 0 ≤ a0) (h1 : a0 ≠ 0) : (a0 = 0 → (a1 < a2 ∧ a2 ≤ a3)) := by omega
theorem oq_f2693aa9 {a0 a1 a2 a3 a4 a5 : Int} (h0 : a0 = a1) (h1 : a2 = a3) (h2 : ((a4 ≤ a3 ∧ a0 = (-1)) ∨ (a3 < a4 ∧ (0 ≤ a0 ∧ a0 ≤ 255)))) (h3 : a4 = a5) (h4 : a5 ≤ 200) (h5 : 0 ≤ a1) : (a2 + 1) ≤ 400 := by omega
theorem oq_669de7e1 {a0 a1 a2 a3 a4 a5 a6 a7 : Int} (h0 : a0 = (a1 + 1)) (h1 : a2 = a3) (h2 : a1 = a4) (h3 : ((a5 ≤ a4 ∧ a2 = (-1)) ∨ (a4 < a5 ∧ (0 ≤ a2 ∧ a2 ≤ 255)))) (h4 : a5 = a6) (h5 : 0 ≤ a3) : (a0 = a7 ∨ a0 ≤ a6) := by omega
theorem oq_00dd204b {a0 a1 a2 a3 : Int} (h0 : a0 = a1) (h1 : a1 = a2) (h2 : a2 = a3) (h3 : 0 ≤ a3) : (a3 ≠ 0 → a0 ≠ 0) := by omega
theorem oq_8800f1ea {a0 a1 a2 a3 a4 a5 a6 a7 a8 : Int} (h0 : a0 = (a1 + 1)) (h1 : a2 = a3) (h2 : a1 = a4) (h3 : ((a5 ≤ a4 ∧ a2 = (-1)) ∨ (a4 < a5 ∧ (0 ≤ a2 ∧ a2 ≤ 255)))) (h4 : a5 = a6) (h5 : a7 ≤ a4) (h6 : 0 ≤ a3) : (a8 = 0 → (a7 < a0 ∧ a0 ≤ a6)) := by omega
theorem oq_18969492 {a0 : Int} (h0 : a0 ≤ 7) : (a0 + 1) ≤ 8 := by omega
theorem oq_c3299dea {a0 a1 : Int} (h0 : 1 ≤ a0) (h1 : 0 ≤ a1) : 0 ≤ (a1 + a0) := by omega
theorem oq_69d89cff {a0 a1 a2 : Int} (h0 : a0 ≤ 3) (h1 : a1 = a2) (h2 : a2 ≤ 380) : (a1 + a0) ≤ 400 := by omega
theorem oq_96c994d3 {a0 a1 : Int} (h0 : 1 ≤ a0) (h1 : 0 ≤ a1) : (-2147483648) ≤ (a1 + a0) := by omega
theorem oq_99fe3e62 {a0 a1 : Int} (h0 : a0 ≤ 3) (h1 : a1 ≤ 400) : (a1 + a0) ≤ 2147483647 := by omega
theorem oq_f1381ab8 {a0 a1 a2 a3 : Int} (h0 : a0 = (a1 + a2)) (h1 : a1 = a3) : a0 = (a3 + a2) := by omega
theorem oq_4b8d46b3 {a0 a1 a2 : Int} (h0 : a0 = a1) (h1 : a1 = (a2 + 1)) : a0 = (a2 + 1) := by omega
theorem oq_3da60cc3 {a0 a1 a2 : Int} (h0 : a0 = a1) (h1 : a1 = a2) (h2 : 0 ≤ a2) : (a2 ≠ 0 → a0 ≠ 0) := by omega
theorem oq_2b028323 {a0 a1 : Int} (h0 : a0 ≠ 6) : (a0 = 6 → a1 ≠ 0) := by omega
theorem oq_7dbb59f7 {a0 a1 : Int} (h0 : a0 = a1) (h1 : a1 = 6) : (a0 + 1) ≤ 8 := by omega
theorem oq_75116c0c {a0 a1 a2 a3 : Int} (h0 : a0 ≤ 3) (h1 : a1 = a2) (h2 : a2 = a3) (h3 : a3 ≤ 380) : (a1 + a0) ≤ 400 := by omega
theorem oq_0f45dae9 {a0 a1 a2 a3 a4 : Int} (h0 : a0 = (a1 + a2)) (h1 : a3 = a4) (h2 : a1 = a3) : a0 = (a4 + a2) := by omega
theorem oq_20fce6d9 {a0 a1 a2 a3 : Int} (h0 : a0 = a1) (h1 : a1 = (a2 + 1)) (h2 : a2 = a3) : a0 = (a3 + 1) := by omega
theorem oq_07c40900 {a0 a1 a2 a3 : Int} (h0 : a0 = a1) (h1 : a1 = a2) (h2 : 0 ≤ a2) (h3 : a2 ≠ 0) : (a3 ≠ 0 → a0 ≠ 0) := by omega
theorem oq_43918552 {a0 a1 a2 a3 : Int} (h0 : a0 = a1) (h1 : a1 = a2) (h2 : 0 ≤ a2) (h3 : a2 ≠ 0) : (a3 = 6 → a0 ≠ 0) := by omega
theorem oq_2954f754 {a0 a1 a2 a3 : Int} (h0 : a0 = a1) (h1 : a1 = a2) (h2 : a3 ≤ a2) : a3 ≤ a0 := by omega
theorem oq_c694edf3 {a0 a1 a2 a3 : Int} (h0 : a0 = a1) (h1 : a1 = a2) (h2 : 0 ≤ a2) (h3 : (a3 ≠ 0 → a2 ≠ 0)) (h4 : 0 ≤ a3) : (a3 ≠ 0 → a0 ≠ 0) := by omega
theorem oq_f45fb0af {a0 a1 a2 a3 a4 a5 a6 : Int} (h0 : a0 = a1) (h1 : a2 ≠ 0) (h2 : a1 = a3) (h3 : ((a2 = 1 ∧ (48 ≤ a4 ∧ a4 ≤ 57)) ∨ (a2 = 0 ∧ (a4 < 48 ∨ 57 < a4)))) (h4 : a3 = a5) (h5 : ((a6 ≤ a5 ∧ a4 = (-1)) ∨ (a5 < a6 ∧ (0 ≤ a4 ∧ a4 ≤ 255)))) (h6 : a6 ≤ 200) : (a0 + 1) ≤ 400 := by omega
theorem oq_09a0992e {a0 a1 a2 a3 a4 a5 : Int} (h0 : a0 = (a1 + 1)) (h1 : a2 ≤ a3) (h2 : a1 = a4) (h3 : a5 = a3) (h4 : a4 = a5) : a2 ≤ a0 := by omega
theorem oq_f92305f6 {a0 a1 a2 a3 a4 a5 a6 a7 a8 a9 a10 a11 a12 : Int} (h0 : a0 = (a1 + 1)) (h1 : a1 = a2) (h2 : ((a3 ≤ a2 ∧ a4 = (-1)) ∨ (a2 < a3 ∧ (0 ≤ a4 ∧ a4 ≤ 255)))) (h3 : a5 ≠ 0) (h4 : a3 = a6) (h5 : a2 = a7) (h6 : ((a5 = 1 ∧ (48 ≤ a8 ∧ a8 ≤ 57)) ∨ (a5 = 0 ∧ (a8 < 48 ∨ 57 < a8)))) (h7 : a6 = a9) (h8 : a7 = a10) (h9 : ((a9 ≤ a10 ∧ a8 = (-1)) ∨ (a10 < a9 ∧ (0 ≤ a8 ∧ a8 ≤ 255)))) (h10 : a9 = a11) : (a0 = a12 ∨ a0 ≤ a11) := by omega
theorem oq_b4d295d9 {a0 a1 a2 a3 a4 a5 : Int} (h0 : a0 = a1) (h1 : a2 = a3) (h2 : a1 = a4) (h3 : a4 = a5) (h4 : a5 = a2) : a0 = a3 := by omega
theorem oq_3bb1476c {a0 a1 a2 a3 a4 a5 : Int} (h0 : a0 = a1) (h1 : a1 = a2) (h2 : a2 = a3) (h3 : a3 = a4) (h4 : 0 ≤ a4) (h5 : (a5 ≠ 0 → a4 ≠ 0)) (h6 : 0 ≤ a5) : (a5 ≠ 0 → a0 ≠ 0) := by omega
theorem oq_7fe4a191 {a0 a1 a2 a3 a4 a5 a6 a7 a8 a9 : Int} (h0 : a0 = a1) (h1 : a2 = (a3 + 1)) (h2 : a1 = a4) (h3 : a3 = a5) (h4 : a4 = a6) (h5 : a5 = a7) (h6 : a6 = a8) (h7 : a7 = a9) : (a0 - a2) < (a8 - a9) := by omega
theorem oq_ff13add5 {a0 a1 a2 a3 : Int} (h0 : a0 ≠ 0) (h1 : ((a0 = 1 ∧ (48 ≤ a1 ∧ a1 ≤ 57)) ∨ (a0 = 0 ∧ (a1 < 48 ∨ 57 < a1)))) (h2 : ((a2 ≤ a3 ∧ a1 = (-1)) ∨ (a3 < a2 ∧ (0 ≤ a1 ∧ a1 ≤ 255)))) : 0 < (a2 - a3) := by omega
theorem oq_821adba3 {a0 a1 a2 a3 a4 a5 a6 a7 : Int} (h0 : a0 ≠ 0) (h1 : a1 = a2) (h2 : ((a0 = 1 ∧ (48 ≤ a3 ∧ a3 ≤ 57)) ∨ (a0 = 0 ∧ (a3 < 48 ∨ 57 < a3)))) (h3 : a2 = a4) (h4 : ((a5 ≤ a4 ∧ a3 = (-1)) ∨ (a4 < a5 ∧ (0 ≤ a3 ∧ a3 ≤ 255)))) (h5 : a5 = a6) : (a1 = a7 ∨ a1 ≤ a6) := by omega
theorem oq_6bc29d15 {a0 a1 : Int} (h0 : a0 = a1) (h1 : (-2147483648) ≤ a1) : (-2147483648) ≤ a0 := by omega
theorem oq_60a194f9 {a0 a1 : Int} (h0 : a0 = a1) (h1 : a1 ≤ 2147483647) : a0 ≤ 2147483647 := by omega
theorem oq_82a8716b {a0 a1 a2 a3 a4 a5 a6 a7 : Int} (h0 : a0 = a1) (h1 : (a1 = a2 ∨ a1 ≤ a3)) (h2 : a4 ≠ 0) (h3 : ((a4 = 1 ∧ (48 ≤ a5 ∧ a5 ≤ 57)) ∨ (a4 = 0 ∧ (a5 < 48 ∨ 57 < a5)))) (h4 : ((a6 ≤ a7 ∧ a5 = (-1)) ∨ (a7 < a6 ∧ (0 ≤ a5 ∧ a5 ≤ 255)))) (h5 : a6 = a3) (h6 : a2 ≤ a7) : (a0 = a2 ∨ a0 ≤ a3) := by omega
theorem oq_88e312fc {a0 a1 a2 : Int} (h0 : a0 = a1) (h1 : 0 ≤ a1) (h2 : (a2 ≠ 0 → a1 ≠ 0)) (h3 : 0 ≤ a2) : (a2 ≠ 0 → a0 ≠ 0) := by omega
theorem oq_9d364511 {a0 a1 a2 a3 a4 a5 a6 : Int} (h0 : a0 ≠ 0) (h1 : ((a0 = 1 ∧ (a1 ≤ a2 ∧ a2 ≤ a3)) ∨ (a0 = 0 ∧ (a2 < a1 ∨ a3 < a2)))) (h2 : a3 = a4) (h3 : a1 = a5) : (a6 = 0 → (a5 ≤ a2 ∧ a2 ≤ a4)) := by omega
theorem oq_e191e89b {a0 a1 a2 a3 a4 a5 a6 a7 a8 : Int} (h0 : a0 = a1) (h1 : a1 = a2) (h2 : (a2 = a3 ∨ a2 ≤ a4)) (h3 : a5 ≠ 0) (h4 : ((a5 = 1 ∧ (48 ≤ a6 ∧ a6 ≤ 57)) ∨ (a5 = 0 ∧ (a6 < 48 ∨ 57 < a6)))) (h5 : ((a7 ≤ a8 ∧ a6 = (-1)) ∨ (a8 < a7 ∧ (0 ≤ a6 ∧ a6 ≤ 255)))) (h6 : a7 = a4) (h7 : a3 ≤ a8) : (a0 = a3 ∨ a0 ≤ a4) := by omega
theorem oq_38faa694 {a0 a1 a2 a3 : Int} (h0 : 0 ≤ a0) (h1 : a0 ≠ 0) : (a0 = 0 → (a1 ≤ a2 ∧ a2 ≤ a3)) := by omega
theorem oq_bd4a8eb1 {a0 a1 a2 a3 a4 : Int} (h0 : a0 = a1) (h1 : a2 ≤ a3) (h2 : a1 = a4) (h3 : a4 = a3) : a2 ≤ a0 := by omega
theorem oq_38b7f8bb {a0 a1 a2 a3 a4 a5 : Int} (h0 : a0 = a1) (h1 : a1 = a2) (h2 : a2 = a3) (h3 : (a3 = a4 ∨ a3 ≤ a5)) (h4 : a4 ≤ a3) : (a0 = a4 ∨ a0 ≤ a5) := by omega
theorem oq_d8d6a599 {a0 a1 : Int} (h0 : 0 ≤ a0) (h1 : 0 ≤ a1) : 0 ≤ (a1 + a0) := by omega
theorem oq_faec2b3d {a0 a1 : Int} (h0 : a0 ≤ 200) (h1 : a1 ≤ 400) : (a1 + a0) ≤ 2147483647 := by omega
theorem oq_64f00eb9 {a0 a1 a2 a3 : Int} (h0 : a0 = a1) (h1 : (1 ≤ a2 → a1 < a3)) : (1 ≤ a2 → a0 < a3) := by omega
theorem oq_cd0949b0 {a0 a1 a2 a3 a4 a5 a6 a7 : Int} (h0 : 122 < a0) (h1 : a1 = a2) (h2 : ((a3 ≤ (a2 + a4) ∧ a0 = (-1)) ∨ ((a2 + a4) < a3 ∧ (0 ≤ a0 ∧ a0 ≤ 255)))) (h3 : a3 = a5) (h4 : 0 ≤ a4) (h5 : a5 = a6) : (a1 = a7 ∨ a1 ≤ a6) := by omega
theorem oq_1863856d {a0 a1 a2 a3 a4 a5 a6 : Int} (h0 : 122 < a0) (h1 : a1 = a2) (h2 : ((a3 ≤ (a2 + a4) ∧ a0 = (-1)) ∨ ((a2 + a4) < a3 ∧ (0 ≤ a0 ∧ a0 ≤ 255)))) (h3 : a3 = a5) (h4 : a5 = a6) : (1 ≤ a4 → a1 < a6) := by omega
theorem oq_8987532c {a0 a1 a2 a3 a4 a5 a6 a7 : Int} (h0 : 6 ≤ a0) (h1 : a1 = a2) (h2 : 97 ≤ a3) (h3 : a2 = a4) (h4 : ((a5 ≤ (a4 + a0) ∧ a3 = (-1)) ∨ ((a4 + a0) < a5 ∧ (0 ≤ a3 ∧ a3 ≤ 255)))) (h5 : a5 = a6) : (a1 = a7 ∨ a1 ≤ a6) := by omega
theorem oq_ef1a1f20 {a0 : Int} (h0 : 6 ≤ a0) : 0 ≤ (a0 + 1) := by omega
theorem oq_46d7741e {a0 a1 a2 a3 a4 a5 a6 : Int} (h0 : ((a0 ≤ (a1 + a2) ∧ a3 = (-1)) ∨ ((a1 + a2) < a0 ∧ (0 ≤ a3 ∧ a3 ≤ 255)))) (h1 : 0 ≤ a1) (h2 : 97 ≤ a4) (h3 : a0 = a5) (h4 : a1 = a6) (h5 : ((a5 ≤ (a6 + a2) ∧ a4 = (-1)) ∨ ((a6 + a2) < a5 ∧ (0 ≤ a4 ∧ a4 ≤ 255)))) (h6 : a5 ≤ 200) : (a2 + 1) ≤ 200 := by omega
theorem oq_d8509bc0 {a0 a1 : Int} (h0 : 6 ≤ a0) : ((a0 + 1) = 0 → a1 = 0) := by omega
theorem oq_810f8ff6 {a0 a1 a2 a3 a4 a5 a6 : Int} (h0 : 6 ≤ a0) (h1 : a1 = a2) (h2 : 97 ≤ a3) (h3 : a2 = a4) (h4 : ((a5 ≤ (a4 + a0) ∧ a3 = (-1)) ∨ ((a4 + a0) < a5 ∧ (0 ≤ a3 ∧ a3 ≤ 255)))) (h5 : a5 = a6) : (1 ≤ (a0 + 1) → a1 < a6) := by omega
theorem oq_4b400f0f {a0 a1 a2 a3 a4 a5 a6 : Int} (h0 : ((a0 ≤ (a1 + a2) ∧ a3 = (-1)) ∨ ((a1 + a2) < a0 ∧ (0 ≤ a3 ∧ a3 ≤ 255)))) (h1 : 0 ≤ a1) (h2 : 97 ≤ a4) (h3 : a0 = a5) (h4 : a1 = a6) (h5 : ((a5 ≤ (a6 + a2) ∧ a4 = (-1)) ∨ ((a6 + a2) < a5 ∧ (0 ≤ a4 ∧ a4 ≤ 255)))) (h6 : a5 ≤ 200) : 0 < (200 - a2) := by omega
theorem oq_0835e488 {a0 a1 : Int} (h0 : a0 ≤ 400) (h1 : a1 < 6) : (a0 + a1) ≤ 2147483647 := by omega
theorem oq_fbd1858b {a0 a1 a2 a3 a4 a5 a6 a7 a8 : Int} (h0 : a0 = a1) (h1 : a1 = a2) (h2 : 97 ≤ a3) (h3 : a2 = a4) (h4 : ((a5 ≤ (a4 + a6) ∧ a3 = (-1)) ∨ ((a4 + a6) < a5 ∧ (0 ≤ a3 ∧ a3 ≤ 255)))) (h5 : 0 ≤ a6) (h6 : a5 = a7) : (a0 = a8 ∨ a0 ≤ a7) := by omega
theorem oq_88fcdc91 {a0 : Int} (h0 : a0 < 6) : (a0 + 1) ≤ 200 := by omega
theorem oq_b860ca62 {a0 a1 : Int} (h0 : 0 ≤ a0) : ((a0 + 1) = 0 → a1 = 0) := by omega
theorem oq_3fd0273b {a0 a1 a2 a3 a4 a5 a6 a7 a8 a9 a10 a11 : Int} (h0 : a0 = a1) (h1 : ((a2 ≤ (a1 + a3) ∧ a4 = (-1)) ∨ ((a1 + a3) < a2 ∧ (0 ≤ a4 ∧ a4 ≤ 255)))) (h2 : a2 = a5) (h3 : a1 = a6) (h4 : ((a5 ≤ (a6 + a3) ∧ a7 = (-1)) ∨ ((a6 + a3) < a5 ∧ (0 ≤ a7 ∧ a7 ≤ 255)))) (h5 : 97 ≤ a8) (h6 : a5 = a9) (h7 : a6 = a10) (h8 : ((a9 ≤ (a10 + a3) ∧ a8 = (-1)) ∨ ((a10 + a3) < a9 ∧ (0 ≤ a8 ∧ a8 ≤ 255)))) (h9 : 0 ≤ a3) (h10 : a9 = a11) : (1 ≤ (a3 + 1) → a0 < a11) := by omega
theorem oq_8e8d8f07 {a0 : Int} (h0 : a0 < 6) : 0 < (200 - a0) := by omega
theorem oq_c2ed65b6  : (0 = 0 → 0 = 0) := by omega
theorem oq_901188d8 {a0 a1 : Int}  : (1 ≤ 0 → a0 < a1) := by omega
theorem oq_02aa45b0 {a0 a1 a2 : Int} (h0 : ((a0 ≤ 6 ∧ a1 = a2) ∨ (6 < a0 ∧ a1 = (-1)))) (h1 : (-2147483648) ≤ a2) : (-2147483648) ≤ a1 := by omega
theorem oq_78b72728 {a0 a1 a2 : Int} (h0 : ((a0 ≤ 6 ∧ a1 = a2) ∨ (6 < a0 ∧ a1 = (-1)))) (h1 : a2 ≤ 2147483647) : a1 ≤ 2147483647 := by omega
theorem oq_c9cc9202 {a0 a1 a2 a3 a4 : Int} (h0 : ((a0 ≤ 6 ∧ a1 = a2) ∨ (6 < a0 ∧ a1 = (-1)))) (h1 : (1 ≤ a0 → a3 < a4)) (h2 : (a0 = 0 → a2 = 0)) (h3 : 0 ≤ a0) : (a1 ≠ 0 → a3 < a4) := by omega
theorem oq_b301c3bf {a0 : Int} (h0 : a0 ≤ 6) : a0 ≤ 2147483647 := by omega
theorem oq_1a22b625 {a0 a1 a2 a3 a4 a5 a6 a7 a8 : Int} (h0 : a0 = a1) (h1 : a1 = a2) (h2 : a2 = a3) (h3 : a3 = a4) (h4 : a4 = a5) (h5 : a5 = a6) (h6 : a6 = a7) (h7 : a8 ≤ a7) : a8 ≤ a0 := by omega
theorem oq_c7e4d1fa {a0 a1 a2 a3 a4 a5 a6 a7 a8 a9 : Int} (h0 : a0 = a1) (h1 : a1 = a2) (h2 : a2 = a3) (h3 : a3 = a4) (h4 : a4 = a5) (h5 : a5 = a6) (h6 : a6 = a7) (h7 : (a7 = a8 ∨ a7 ≤ a9)) (h8 : a8 ≤ a7) : (a0 = a8 ∨ a0 ≤ a9) := by omega
theorem oq_0d4062ee {a0 a1 a2 a3 a4 a5 a6 a7 a8 a9 a10 a11 : Int} (h0 : (-1) ≤ a0) (h1 : ((a1 ≠ a2 ∧ a0 = (-1)) ∨ (a1 = a2 ∧ a0 = 6))) (h2 : a3 = a4) (h3 : 1 ≤ a2) (h4 : a4 = a5) (h5 : a5 = a6) (h6 : a6 = a7) (h7 : a7 = a8) (h8 : a8 = a9) (h9 : a9 = a10) (h10 : (a1 ≠ 0 → a10 < a11)) : (a0 ≠ (-1) → a3 < a11) := by omega
theorem oq_848a55a6 {a0 a1 a2 a3 a4 a5 a6 a7 : Int} (h0 : a0 = a1) (h1 : a1 = a2) (h2 : a2 = a3) (h3 : a3 = a4) (h4 : a4 = a5) (h5 : a5 = a6) (h6 : a7 ≤ a6) : a7 ≤ a0 := by omega
theorem oq_729a7106 {a0 a1 a2 a3 a4 a5 a6 a7 a8 a9 a10 : Int} (h0 : a0 = a1) (h1 : a2 = a3) (h2 : 1 ≤ a1) (h3 : a3 = a4) (h4 : a4 = a5) (h5 : a5 = a6) (h6 : a6 = a7) (h7 : a7 = a8) (h8 : (a0 ≠ 0 → a8 < a9)) : (a2 = a10 ∨ a2 ≤ a9) := by omega
theorem oq_829509e8 {a0 a1 a2 a3 a4 a5 a6 a7 a8 a9 : Int} (h0 : a0 = a1) (h1 : a2 = a3) (h2 : 1 ≤ a1) (h3 : a3 = a4) (h4 : a4 = a5) (h5 : a5 = a6) (h6 : a6 = a7) (h7 : a7 = a8) (h8 : (a0 ≠ 0 → a8 < a9)) : (5 ≠ (-1) → a2 < a9) := by omega
theorem oq_17730e68 {a0 a1 a2 a3 a4 a5 a6 : Int} (h0 : a0 = a1) (h1 : a1 = a2) (h2 : a2 = a3) (h3 : a3 = a4) (h4 : a4 = a5) (h5 : a6 ≤ a5) : a6 ≤ a0 := by omega
theorem oq_1ad4a7f8 {a0 a1 a2 a3 a4 a5 a6 a7 a8 a9 : Int} (h0 : a0 = a1) (h1 : a2 = a3) (h2 : 1 ≤ a1) (h3 : a3 = a4) (h4 : a4 = a5) (h5 : a5 = a6) (h6 : a6 = a7) (h7 : (a0 ≠ 0 → a7 < a8)) : (a2 = a9 ∨ a2 ≤ a8) := by omega
theorem oq_57df88a9 {a0 a1 a2 a3 a4 a5 a6 a7 a8 : Int} (h0 : a0 = a1) (h1 : a2 = a3) (h2 : 1 ≤ a1) (h3 : a3 = a4) (h4 : a4 = a5) (h5 : a5 = a6) (h6 : a6 = a7) (h7 : (a0 ≠ 0 → a7 < a8)) : (4 ≠ (-1) → a2 < a8) := by omega
theorem oq_11fe630f {a0 a1 a2 a3 a4 a5 : Int} (h0 : a0 = a1) (h1 : a1 = a2) (h2 : a2 = a3) (h3 : a3 = a4) (h4 : a5 ≤ a4) : a5 ≤ a0 := by omega
theorem oq_69067335 {a0 a1 a2 a3 a4 a5 a6 a7 a8 : Int} (h0 : a0 = a1) (h1 : a2 = a3) (h2 : 1 ≤ a1) (h3 : a3 = a4) (h4 : a4 = a5) (h5 : a5 = a6) (h6 : (a0 ≠ 0 → a6 < a7)) : (a2 = a8 ∨ a2 ≤ a7) := by omega
theorem oq_24ca1aeb {a0 a1 a2 a3 a4 a5 a6 a7 : Int} (h0 : a0 = a1) (h1 : a2 = a3) (h2 : 1 ≤ a1) (h3 : a3 = a4) (h4 : a4 = a5) (h5 : a5 = a6) (h6 : (a0 ≠ 0 → a6 < a7)) : (3 ≠ (-1) → a2 < a7) := by omega
theorem oq_47978b2f {a0 a1 a2 a3 a4 : Int} (h0 : a0 = a1) (h1 : a1 = a2) (h2 : a2 = a3) (h3 : a4 ≤ a3) : a4 ≤ a0 := by omega
theorem oq_85016481 {a0 a1 a2 a3 a4 a5 a6 a7 : Int} (h0 : a0 = a1) (h1 : a2 = a3) (h2 : 1 ≤ a1) (h3 : a3 = a4) (h4 : a4 = a5) (h5 : (a0 ≠ 0 → a5 < a6)) : (a2 = a7 ∨ a2 ≤ a6) := by omega
theorem oq_ed1d23fc {a0 a1 a2 a3 a4 a5 a6 : Int} (h0 : a0 = a1) (h1 : a2 = a3) (h2 : 1 ≤ a1) (h3 : a3 = a4) (h4 : a4 = a5) (h5 : (a0 ≠ 0 → a5 < a6)) : (2 ≠ (-1) → a2 < a6) := by omega
theorem oq_d2f0a5e5 {a0 a1 a2 a3 a4 a5 a6 : Int} (h0 : a0 = a1) (h1 : a2 = a3) (h2 : 1 ≤ a1) (h3 : a3 = a4) (h4 : (a0 ≠ 0 → a4 < a5)) : (a2 = a6 ∨ a2 ≤ a5) := by omega
theorem oq_4f60f847 {a0 a1 a2 a3 a4 a5 : Int} (h0 : a0 = a1) (h1 : a2 = a3) (h2 : 1 ≤ a1) (h3 : a3 = a4) (h4 : (a0 ≠ 0 → a4 < a5)) : (1 ≠ (-1) → a2 < a5) := by omega
theorem oq_0b55d760 {a0 a1 a2 a3 a4 a5 : Int} (h0 : a0 = a1) (h1 : a2 = a3) (h2 : 1 ≤ a1) (h3 : (a0 ≠ 0 → a3 < a4)) : (a2 = a5 ∨ a2 ≤ a4) := by omega
theorem oq_89d1dd48 {a0 a1 a2 a3 a4 : Int} (h0 : a0 = a1) (h1 : a2 = a3) (h2 : 1 ≤ a1) (h3 : (a0 ≠ 0 → a3 < a4)) : (0 ≠ (-1) → a2 < a4) := by omega
theorem oq_6c55e2f6 {a0 : Int} (h0 : a0 ≤ 380) : a0 ≤ 400 := by omega
theorem oq_5d668942 {a0 : Int} (h0 : a0 ≤ 380) : a0 ≤ 2147483647 := by omega
/-! The model: words and numbers of a text, marks -/
section M34
variable {l : Launch} {s0 : State} {D : va_G} {tys : List (ClassId × FieldType)} {a0 : Array Value} {A : Nat → Nat} {dT : Nat → ClassId} {s : PS}
theorem k_stepOf (G : GX l s0 D tys a0 dT) (I : Bd s) {x y : Int} (p0 : 0 ≤ x ∧ x ≤ 127) (p1 : 0 ≤ y ∧ y ≤ 127) : CT l s0 D A dT 225 (rmN 225) [.int (Int32.ofInt x), .int (Int32.ofInt y)] s (fun o t => Bd t ∧ Fm [] [] s t ∧ ∃ e, o = .inl (some (.int (Int32.ofInt e))) ∧ rng e ∧ (0 ≤ e ∧ e ≤ 5)) := by
  refine ct_of G (by decide) (Nat.le_of_ble_eq_true rfl) (fun k X E hRt hXt q => ?_)
  show WS k 0 [(0, .int (Int32.ofInt x)), (1, .int (Int32.ofInt y))] [] _ 0 0
  have F : Fm [] [] s s := fm_rf _ _ s
  refine z_load_n X (x := y) rfl (List.Mem.tail _ (List.Mem.head _)) (z_load_n X (x := x) rfl (List.Mem.head _) (z_sub X rfl (z_const X rfl ?_)))
  have N1 : ∀ e2 : Int, (0 ≤ e2 ∧ e2 ≤ 5) → WS k 59 [(0, .int (Int32.ofInt x)), (1, .int (Int32.ofInt y))] [.int (Int32.ofInt e2)] (Wd A dT s) 0 0 := by
    intro e2 he2
    exact w_iret X.1 q hRt rfl (ax_d X (show cdA 225 59 = some (.ireturn, 1, 0, 0, 0) from rfl)) (Nat.zero_le _) (Nat.zero_le _) ⟨_, rfl, I, F, e2, rfl, ⟨by first | exact oq_fa4e5087 he2.1 | omega, by first | exact oq_a3dd55e5 he2.2 | omega⟩, by first | exact ⟨he2.1, he2.2⟩ | omega⟩
  refine z_icmp_ne X (t := 11) rfl rfl ⟨by first | exact oq_449d3e35 p1.1 p0.2 | omega, by first | exact oq_ad754bc3 p1.2 p0.1 | omega⟩ (by decide) (fun g3 => ?_) (fun g3 => ?_)
  ·
    refine z_load_n X (x := y) rfl (List.Mem.tail _ (List.Mem.head _)) (z_load_n X (x := x) rfl (List.Mem.head _) (z_sub X rfl (z_const X rfl (z_icmp_ne X (t := 22) rfl rfl ⟨by first | exact oq_449d3e35 p1.1 p0.2 | omega, by first | exact oq_ad754bc3 p1.2 p0.1 | omega⟩ (by decide) (fun g4 => ?_) (fun g4 => ?_)))))
    ·
      refine z_load_n X (x := y) rfl (List.Mem.tail _ (List.Mem.head _)) (z_load_n X (x := x) rfl (List.Mem.head _) (z_sub X rfl (z_bipush X rfl (z_icmp_ne X (t := 34) rfl rfl ⟨by first | exact oq_449d3e35 p1.1 p0.2 | omega, by first | exact oq_ad754bc3 p1.2 p0.1 | omega⟩ (by decide) (fun g5 => ?_) (fun g5 => ?_)))))
      ·
        refine z_load_n X (x := y) rfl (List.Mem.tail _ (List.Mem.head _)) (z_load_n X (x := x) rfl (List.Mem.head _) (z_sub X rfl (z_bipush X rfl (z_icmp_ne X (t := 46) rfl rfl ⟨by first | exact oq_449d3e35 p1.1 p0.2 | omega, by first | exact oq_ad754bc3 p1.2 p0.1 | omega⟩ (by decide) (fun g6 => ?_) (fun g6 => ?_)))))
        ·
          refine z_load_n X (x := y) rfl (List.Mem.tail _ (List.Mem.head _)) (z_load_n X (x := x) rfl (List.Mem.head _) (z_sub X rfl (z_bipush X rfl (z_icmp_ne X (t := 58) rfl rfl ⟨by first | exact oq_449d3e35 p1.1 p0.2 | omega, by first | exact oq_ad754bc3 p1.2 p0.1 | omega⟩ (by decide) (fun g7 => ?_) (fun g7 => ?_)))))
          ·
            refine z_const X rfl ?_
            exact N1 _ (by first | (clear g7 g6 g5 g4 g3; omega) | (clear g6 g5 g4 g3; omega) | omega)
          ·
            refine z_const X rfl (z_goto X (t := 59) rfl rfl ?_)
            exact N1 _ (by first | (clear g6 g5 g4 g3; omega) | (clear g5 g4 g3; omega) | omega)
        ·
          refine z_const X rfl (z_goto X (t := 59) rfl rfl ?_)
          exact N1 _ (by first | (clear g5 g4 g3; omega) | (clear g4 g3; omega) | omega)
      ·
        refine z_const X rfl (z_goto X (t := 59) rfl rfl ?_)
        exact N1 _ (by first | (clear g4 g3; omega) | (clear g3; omega) | omega)
    ·
      refine z_const X rfl (z_goto X (t := 59) rfl rfl ?_)
      exact N1 _ (by first | (clear g3; omega) | omega)
  ·
    refine z_const X rfl (z_goto X (t := 59) rfl rfl ?_)
    exact N1 _ (by omega)
theorem k_word (G : GX l s0 D tys a0 dT) (I : Bd s) {x1 x2 x3 x4 x5 x6 : Int} (p0 : 1 ≤ x1 ∧ x1 ≤ 27) (p1 : 0 ≤ x2 ∧ x2 ≤ 27) (p2 : 0 ≤ x3 ∧ x3 ≤ 27) (p3 : 0 ≤ x4 ∧ x4 ≤ 27) (p4 : 0 ≤ x5 ∧ x5 ≤ 27) (p5 : 0 ≤ x6 ∧ x6 ≤ 27) : CT l s0 D A dT 202 (rmN 202) [.int (Int32.ofInt x1), .int (Int32.ofInt x2), .int (Int32.ofInt x3), .int (Int32.ofInt x4), .int (Int32.ofInt x5), .int (Int32.ofInt x6)] s (fun o t => Bd t ∧ Fm [] [] s t ∧ ∃ e, o = .inl (some (.int (Int32.ofInt e))) ∧ rng e ∧ (1 ≤ e)) := by
  refine ct_of G (by decide) (Nat.le_of_ble_eq_true rfl) (fun k X E hRt hXt q => ?_)
  show WS k 0 [(0, .int (Int32.ofInt x1)), (1, .int (Int32.ofInt x2)), (2, .int (Int32.ofInt x3)), (3, .int (Int32.ofInt x4)), (4, .int (Int32.ofInt x5)), (5, .int (Int32.ofInt x6))] [] _ 0 0
  have F : Fm [] [] s s := fm_rf _ _ s
  refine z_bipush X rfl (z_load_n X (x := x1) rfl (List.Mem.head _) (z_mul X rfl (z_load_n X (x := x2) rfl (List.Mem.tail _ (List.Mem.head _)) (z_add X rfl (z_store X (lv' := [(6, .int (Int32.ofInt ((27 * x1) + x2))), (0, .int (Int32.ofInt x1)), (1, .int (Int32.ofInt x2)), (2, .int (Int32.ofInt x3)), (3, .int (Int32.ofInt x4)), (4, .int (Int32.ofInt x5)), (5, .int (Int32.ofInt x6))]) rfl (by decide) (fun _ h => h) (z_load_n X (x := x3) rfl (List.Mem.tail _ (List.Mem.tail _ (List.Mem.tail _ (List.Mem.head _)))) ?_))))))
  have N1 : ∀ e2 : Int, (((x3 ≠ 0) ∧ e2 = ((27 * ((27 * x1) + x2)) + x3)) ∨ ((x3 = 0) ∧ e2 = ((27 * x1) + x2))) → WS k 24 [(6, .int (Int32.ofInt ((27 * x1) + x2))), (0, .int (Int32.ofInt x1)), (1, .int (Int32.ofInt x2)), (2, .int (Int32.ofInt x3)), (3, .int (Int32.ofInt x4)), (4, .int (Int32.ofInt x5)), (5, .int (Int32.ofInt x6))] [.int (Int32.ofInt e2)] (Wd A dT s) 0 0 := by
    intro e2 he2
    refine z_store X (lv' := [(6, .int (Int32.ofInt e2)), (0, .int (Int32.ofInt x1)), (1, .int (Int32.ofInt x2)), (2, .int (Int32.ofInt x3)), (3, .int (Int32.ofInt x4)), (4, .int (Int32.ofInt x5)), (5, .int (Int32.ofInt x6))]) rfl (by decide) (fun _ h => h) (z_load_n X (x := x4) rfl (List.Mem.tail _ (List.Mem.tail _ (List.Mem.tail _ (List.Mem.tail _ (List.Mem.head _))))) ?_)
    have N3 : ∀ e4 : Int, (((x4 ≠ 0) ∧ e4 = ((27 * e2) + x4)) ∨ ((x4 = 0) ∧ e4 = e2)) → WS k 42 [(6, .int (Int32.ofInt e2)), (0, .int (Int32.ofInt x1)), (1, .int (Int32.ofInt x2)), (2, .int (Int32.ofInt x3)), (3, .int (Int32.ofInt x4)), (4, .int (Int32.ofInt x5)), (5, .int (Int32.ofInt x6))] [.int (Int32.ofInt e4)] (Wd A dT s) 0 0 := by
      intro e4 he4
      refine z_store X (lv' := [(6, .int (Int32.ofInt e4)), (0, .int (Int32.ofInt x1)), (1, .int (Int32.ofInt x2)), (2, .int (Int32.ofInt x3)), (3, .int (Int32.ofInt x4)), (4, .int (Int32.ofInt x5)), (5, .int (Int32.ofInt x6))]) rfl (by decide) (fun _ h => h) (z_load X (x := x5) rfl (List.Mem.tail _ (List.Mem.tail _ (List.Mem.tail _ (List.Mem.tail _ (List.Mem.tail _ (List.Mem.head _)))))) ?_)
      have N5 : ∀ e6 : Int, (((x5 ≠ 0) ∧ e6 = ((27 * e4) + x5)) ∨ ((x5 = 0) ∧ e6 = e4)) → WS k 62 [(6, .int (Int32.ofInt e4)), (0, .int (Int32.ofInt x1)), (1, .int (Int32.ofInt x2)), (2, .int (Int32.ofInt x3)), (3, .int (Int32.ofInt x4)), (4, .int (Int32.ofInt x5)), (5, .int (Int32.ofInt x6))] [.int (Int32.ofInt e6)] (Wd A dT s) 0 0 := by
        intro e6 he6
        refine z_store X (lv' := [(6, .int (Int32.ofInt e6)), (0, .int (Int32.ofInt x1)), (1, .int (Int32.ofInt x2)), (2, .int (Int32.ofInt x3)), (3, .int (Int32.ofInt x4)), (4, .int (Int32.ofInt x5)), (5, .int (Int32.ofInt x6))]) rfl (by decide) (fun _ h => h) (z_load X (x := x6) rfl (List.Mem.tail _ (List.Mem.tail _ (List.Mem.tail _ (List.Mem.tail _ (List.Mem.tail _ (List.Mem.tail _ (List.Mem.head _))))))) ?_)
        have N7 : ∀ e8 : Int, (((x6 ≠ 0) ∧ e8 = ((27 * e6) + x6)) ∨ ((x6 = 0) ∧ e8 = e6)) → WS k 82 [(6, .int (Int32.ofInt e6)), (0, .int (Int32.ofInt x1)), (1, .int (Int32.ofInt x2)), (2, .int (Int32.ofInt x3)), (3, .int (Int32.ofInt x4)), (4, .int (Int32.ofInt x5)), (5, .int (Int32.ofInt x6))] [.int (Int32.ofInt e8)] (Wd A dT s) 0 0 := by
          intro e8 he8
          exact w_iret X.1 q hRt rfl (ax_d X (show cdA 202 82 = some (.ireturn, 1, 0, 0, 0) from rfl)) (Nat.zero_le _) (Nat.zero_le _) ⟨_, rfl, I, F, e8, rfl, ⟨by first | exact oq_ecd050b7 he8 he6 he4 he2 p5.1 p4.1 p3.1 p2.1 p1.1 p0.1 | omega, by first | exact oq_5f3f93de he8 he6 he4 he2 p5.2 p4.2 p3.2 p2.2 p1.2 p0.2 | omega⟩, by first | exact oq_66594a1b he8 he6 he4 he2 p5.1 p4.1 p3.1 p2.1 p1.1 p0.1 | omega⟩
        refine z_if_ne X (t := 74) rfl rfl ⟨by first | exact oq_fa4e5087 p5.1 | omega, by first | exact oq_e977c44f p5.2 | omega⟩ (fun g9 => ?_) (fun g9 => ?_)
        ·
          exact z_bipush X rfl (z_load X (x := e6) rfl (List.Mem.head _) (z_mul X rfl (z_load X (x := x6) rfl (List.Mem.tail _ (List.Mem.tail _ (List.Mem.tail _ (List.Mem.tail _ (List.Mem.tail _ (List.Mem.tail _ (List.Mem.head _))))))) (z_add X rfl (N7 _ (Or.inl ⟨g9, rfl⟩))))))
        ·
          exact z_load X (x := e6) rfl (List.Mem.head _) (z_goto X (t := 82) rfl rfl (N7 _ (Or.inr (⟨g9, rfl⟩))))
      refine z_if_ne X (t := 54) rfl rfl ⟨by first | exact oq_fa4e5087 p4.1 | omega, by first | exact oq_e977c44f p4.2 | omega⟩ (fun g10 => ?_) (fun g10 => ?_)
      ·
        exact z_bipush X rfl (z_load X (x := e4) rfl (List.Mem.head _) (z_mul X rfl (z_load X (x := x5) rfl (List.Mem.tail _ (List.Mem.tail _ (List.Mem.tail _ (List.Mem.tail _ (List.Mem.tail _ (List.Mem.head _)))))) (z_add X rfl (N5 _ (Or.inl ⟨g10, rfl⟩))))))
      ·
        exact z_load X (x := e4) rfl (List.Mem.head _) (z_goto X (t := 62) rfl rfl (N5 _ (Or.inr (⟨g10, rfl⟩))))
    refine z_if_ne X (t := 35) rfl rfl ⟨by first | exact oq_fa4e5087 p3.1 | omega, by first | exact oq_e977c44f p3.2 | omega⟩ (fun g11 => ?_) (fun g11 => ?_)
    ·
      exact z_bipush X rfl (z_load X (x := e2) rfl (List.Mem.head _) (z_mul X rfl (z_load_n X (x := x4) rfl (List.Mem.tail _ (List.Mem.tail _ (List.Mem.tail _ (List.Mem.tail _ (List.Mem.head _))))) (z_add X rfl (N3 _ (Or.inl ⟨g11, rfl⟩))))))
    ·
      exact z_load X (x := e2) rfl (List.Mem.head _) (z_goto X (t := 42) rfl rfl (N3 _ (Or.inr (⟨g11, rfl⟩))))
  refine z_if_ne X (t := 17) rfl rfl ⟨by first | exact oq_fa4e5087 p2.1 | omega, by first | exact oq_e977c44f p2.2 | omega⟩ (fun g12 => ?_) (fun g12 => ?_)
  ·
    exact z_bipush X rfl (z_load X (x := ((27 * x1) + x2)) rfl (List.Mem.head _) (z_mul X rfl (z_load_n X (x := x3) rfl (List.Mem.tail _ (List.Mem.tail _ (List.Mem.tail _ (List.Mem.head _)))) (z_add X rfl (N1 _ (Or.inl ⟨g12, rfl⟩))))))
  ·
    exact z_load X (x := ((27 * x1) + x2)) rfl (List.Mem.head _) (z_goto X (t := 24) rfl rfl (N1 _ (Or.inr (⟨g12, rfl⟩))))
theorem k_total (G : GX l s0 D tys a0 dT) (I : Bd s) {x : Int} (p0 : 0 ≤ x ∧ x ≤ 11) : CT l s0 D A dT 248 (rmN 248) [.ref (A 179), .int (Int32.ofInt x)] s (fun o t => Bd t ∧ Fm [] [] s t ∧ ∃ e, o = .inl (some (.int (Int32.ofInt e))) ∧ rng e ∧ (0 ≤ e ∧ e ≤ 1200)) := by
  refine ct_of G (by decide) (Nat.le_of_ble_eq_true rfl) (fun k X E hRt hXt q => ?_)
  show WS k 0 [(0, .ref (A 179)), (1, .int (Int32.ofInt x))] [] _ 0 0
  have F : Fm [] [] s s := fm_rf _ _ s
  have L4 : ∀ (n : Nat) (t : PS) (xv nv c : Int), Bd t → Fm [] [] s t → ((0 ≤ xv ∧ xv ≤ 11) ∧ 0 ≤ nv ∧ nv ≤ 50 * c ∧ 0 ≤ c ∧ c ≤ 24) → (24 - c : Int).toNat < n → (∀ (t' : PS) (xv' nv' c' : Int), Bd t' → Fm [] [] s t' → ((0 ≤ xv' ∧ xv' ≤ 11) ∧ 0 ≤ nv' ∧ nv' ≤ 50 * c' ∧ 0 ≤ c' ∧ c' ≤ 24) → WS k 27 [(0, .ref (A 179)), (1, .int (Int32.ofInt xv')), (2, .int (Int32.ofInt nv')), (3, .int (Int32.ofInt c'))] [] (Wd A dT t') 0 0) → WS k 4 [(0, .ref (A 179)), (1, .int (Int32.ofInt xv)), (2, .int (Int32.ofInt nv)), (3, .int (Int32.ofInt c))] [] (Wd A dT t) 0 0 := by
    intro n
    induction n with
    | zero =>
      intro t xv nv c I F hi hm kx
      exact absurd hm (Nat.not_lt_zero _)
    | succ n ih =>
      intro t xv nv c I F hi hm kx
      refine z_load_n X (x := c) rfl (List.Mem.tail _ (List.Mem.tail _ (List.Mem.tail _ (List.Mem.head _)))) (z_bipush X rfl (z_icmp_ge X (t := 27) rfl rfl ⟨by first | exact oq_fa4e5087 hi.2.2.2.1 | omega, by first | exact oq_5bcd337f hi.2.2.2.2 | omega⟩ (by decide) (fun g1001 => ?_) (fun g1001 => ?_)))
      ·
        refine WS_pq [0, 1, 2, 3] (lv' := [(0, .ref (A 179)), (1, .int (Int32.ofInt xv)), (2, .int (Int32.ofInt nv)), (3, .int (Int32.ofInt c))]) rfl ?_
        exact kx _ xv nv c I F (by first | exact ⟨And.intro (hi.1.1) (hi.1.2), hi.2.1, hi.2.2.1, hi.2.2.2.1, hi.2.2.2.2⟩ | omega)
      ·
        refine z_load_n X (x := nv) rfl (List.Mem.tail _ (List.Mem.tail _ (List.Mem.head _))) (z_aload_n X (x := A 179) rfl (List.Mem.head _) (s_getR X 179 rfl (c518_ok rfl) rfl rfl (z_load_n X (x := xv) rfl (List.Mem.tail _ (List.Mem.head _)) (z_aald X rw_215 rfl (by first | exact hi.1.1 | omega) (show xv < 12 by first | exact oq_0ddfcfee hi.1.2 | omega) (by decide) (z_load_n X (x := c) rfl (List.Mem.tail _ (List.Mem.tail _ (List.Mem.tail _ (List.Mem.head _)))) (z_ald2 X rw_215 rfl (show (xv : Int).toNat < 12 by first | exact oq_9c5fa447 hi.1.2 | omega) (by first | exact hi.2.2.2.1 | omega) (show c < 24 by first | exact g1001 | omega) (by decide) ?_))))))
        have b1002 : (0 : Int) ≤ (iC t (190 + (xv : Int).toNat) (c : Int).toNat) ∧ (iC t (190 + (xv : Int).toNat) (c : Int).toNat) ≤ 50 := rw_bd rw_215 I (show (xv : Int).toNat < 12 by first | exact oq_9c5fa447 hi.1.2 | omega) (show (c : Int).toNat < 24 by first | exact oq_797efae6 g1001 | omega)
        refine z_add X rfl (z_store_n X (lv' := [(2, .int (Int32.ofInt (nv + (iC t (190 + (xv : Int).toNat) (c : Int).toNat)))), (0, .ref (A 179)), (1, .int (Int32.ofInt xv)), (3, .int (Int32.ofInt c))]) rfl (by decide) (fun _ h => h) (z_inc X (x := c) (lv' := [(3, .int (Int32.ofInt (c + 1))), (2, .int (Int32.ofInt (nv + (iC t (190 + (xv : Int).toNat) (c : Int).toNat)))), (0, .ref (A 179)), (1, .int (Int32.ofInt xv))]) rfl (by decide) (List.Mem.tail _ (List.Mem.tail _ (List.Mem.tail _ (List.Mem.head _)))) (fun _ h => h) (z_goto X (t := 4) rfl rfl (WS_pq [2, 3, 1, 0] (lv' := [(0, .ref (A 179)), (1, .int (Int32.ofInt xv)), (2, .int (Int32.ofInt (nv + (iC t (190 + (xv : Int).toNat) (c : Int).toNat)))), (3, .int (Int32.ofInt (c + 1)))]) rfl ?_))))
        exact ih _ xv (nv + (iC t (190 + (xv : Int).toNat) (c : Int).toNat)) (c + 1) I F (by first | exact ⟨And.intro (hi.1.1) (hi.1.2), oq_dd29f52d hi.2.1 b1002.1, oq_d1fd8eeb hi.2.2.1 b1002.2, oq_54f49eb5 hi.2.2.2.1, oq_cec7cb2e g1001⟩ | omega) (by first | exact qk_me hm (by decide) (oq_ffa8317e g1001) | omega) kx
  refine z_const X rfl (z_store_n X (lv' := [(2, .int (Int32.ofInt 0)), (0, .ref (A 179)), (1, .int (Int32.ofInt x))]) rfl (by decide) (fun _ h => h) (z_const X rfl (z_store_n X (lv' := [(3, .int (Int32.ofInt 0)), (2, .int (Int32.ofInt 0)), (0, .ref (A 179)), (1, .int (Int32.ofInt x))]) rfl (by decide) (fun _ h => h) (WS_pq [2, 3, 1, 0] (lv' := [(0, .ref (A 179)), (1, .int (Int32.ofInt x)), (2, .int (Int32.ofInt 0)), (3, .int (Int32.ofInt 0))]) rfl (L4 ((24 - 0 : Int).toNat + 1) s x 0 0 I F (by first | exact ⟨And.intro (p0.1) (p0.2), by decide, by decide, by decide, by decide⟩ | omega) (Nat.lt_succ_self _) ?_)))))
  intro s1 x2 x3 x4 Is1 Fs1 hs1
  refine z_load_n X (x := x3) rfl (List.Mem.tail _ (List.Mem.tail _ (List.Mem.head _))) ?_
  exact w_iret X.1 q hRt rfl (ax_d X (show cdA 248 28 = some (.ireturn, 1, 0, 0, 0) from rfl)) (Nat.zero_le _) (Nat.zero_le _) ⟨_, rfl, Is1, Fs1, x3, rfl, ⟨by first | exact oq_fa4e5087 hs1.2.1 | omega, by first | exact oq_fe510769 hs1.2.2.1 hs1.2.2.2.2 | omega⟩, by first | exact ⟨hs1.2.1, oq_552552b9 hs1.2.2.1 hs1.2.2.2.2⟩ | omega⟩
theorem k_mark (G : GX l s0 D tys a0 dT) (I : Bd s)  : CT l s0 D A dT 293 (rmN 293) [.ref (A 179)] s (fun o t => Bd t ∧ Fm [73, 98] [241, 242, 243, 244] s t ∧ ∃ e, o = .inl (some (.int (Int32.ofInt e))) ∧ rng e ∧ (True)) := by
  refine ct_of G (by decide) (Nat.le_of_ble_eq_true rfl) (fun k X E hRt hXt q => ?_)
  show WS k 0 [(0, .ref (A 179))] [] _ 0 0
  have F : Fm [73, 98] [241, 242, 243, 244] s s := fm_rf _ _ s
  have b1 := bi_73 I
  have b2 := bi_98 I
  have L17 : ∀ (n : Nat) (t : PS) (c : Int), Bd t → Fm [73, 98] [241, 242, 243, 244] s t → (0 ≤ c ∧ c ≤ 128 ∧ iI t 98 ≤ 3) → (128 - c : Int).toNat < n → (∀ (t' : PS) (c' : Int), Bd t' → Fm [73, 98] [241, 242, 243, 244] s t' → (0 ≤ c' ∧ c' ≤ 128 ∧ iI t' 98 ≤ 3) → WS k 47 [(0, .ref (A 179)), (1, .int (Int32.ofInt c'))] [] (Wd A dT t') 0 0) → WS k 17 [(0, .ref (A 179)), (1, .int (Int32.ofInt c))] [] (Wd A dT t) 0 0 := by
    intro n
    induction n with
    | zero =>
      intro t c I F hi hm kx
      exact absurd hm (Nat.not_lt_zero _)
    | succ n ih =>
      intro t c I F hi hm kx
      have b1001 := bi_73 I
      have b1002 := bi_98 I
      refine z_load_n X (x := c) rfl (List.Mem.tail _ (List.Mem.head _)) (z_sipush X rfl (z_icmp_ge X (t := 47) rfl rfl ⟨by first | exact oq_fa4e5087 hi.1 | omega, by first | exact oq_4ee82282 hi.2.1 | omega⟩ (by decide) (fun g1003 => ?_) (fun g1003 => ?_)))
      ·
        refine WS_pq [0, 1] (lv' := [(0, .ref (A 179)), (1, .int (Int32.ofInt c))]) rfl ?_
        exact kx _ c I F (by first | exact ⟨hi.1, hi.2.1, hi.2.2⟩ | omega)
      ·
        refine z_aload_n X (x := A 179) rfl (List.Mem.head _) (s_getR X 179 rfl (c518_ok rfl) rfl rfl (z_aload_n X (x := A 179) rfl (List.Mem.head _) (z_getI X 179 rfl (c518_ok rfl) rfl rfl ?_)))
        have b1004 := bi_98 I
        refine z_aald X rw_269 rfl (by first | exact b1004.1 | omega) (show (iI t 98) < 4 by first | exact oq_907d7be5 hi.2.2 | omega) (by decide) (z_load_n X (x := c) rfl (List.Mem.tail _ (List.Mem.head _)) (z_aload_n X (x := A 179) rfl (List.Mem.head _) (s_getR X 179 rfl (c518_ok rfl) rfl rfl (z_load_n X (x := c) rfl (List.Mem.tail _ (List.Mem.head _)) (z_ald X 256 rfl (c518_ok rfl) rfl (by first | exact hi.1 | omega) (show c < 128 by first | exact g1003 | omega) (cbig_ok rfl) ?_)))))
        have b1005 := bc_228 I (show (c).toNat < 128 by first | exact oq_afb89947 g1003 | omega)
        refine z_ast2 X rw_269 rfl (show ((iI t 98) : Int).toNat < 4 by first | exact oq_b6a8a4cc hi.2.2 | omega) (by first | exact hi.1 | omega) (show c < 128 by first | exact g1003 | omega) (by decide) (wd_gen (fun s1006 hs1006 => ?_))
        have Is1006 : Bd s1006 := eqB hs1006 (rw_st rw_269 I (show ((iI t 98) : Int).toNat < 4 by first | exact oq_b6a8a4cc hi.2.2 | omega) (show ((-1) : Int) ≤ (iC t 228 (c).toNat) ∧ (iC t 228 (c).toNat) ≤ 7 by first | exact ⟨b1005.1, b1005.2⟩ | omega) (rng_to _))
        have Fs1006 := eqF hs1006 (fm_C (i := (c : Int).toNat) (x := Int32.ofInt (iC t 228 (c).toNat)) F ((show ∀ j, j < 4 → 241 + j ∈ _ by decide) ((iI t 98) : Int).toNat (by first | exact oq_b6a8a4cc hi.2.2 | omega)))
        have ws1006_73 : iI s1006 73 = iI t 73 := eqI hs1006 rfl
        have ws1006_98 : iI s1006 98 = iI t 98 := eqI hs1006 rfl
        refine z_inc X (x := c) (lv' := [(1, .int (Int32.ofInt (c + 1))), (0, .ref (A 179))]) rfl (by decide) (List.Mem.tail _ (List.Mem.head _)) (fun _ h => h) (z_goto X (t := 17) rfl rfl (WS_pq [1, 0] (lv' := [(0, .ref (A 179)), (1, .int (Int32.ofInt (c + 1)))]) rfl ?_))
        exact ih _ (c + 1) Is1006 Fs1006 (by first | exact ⟨oq_54f49eb5 hi.1, oq_d2afb425 g1003, oq_6b149751 ws1006_98 hi.2.2⟩ | omega) (by first | exact qk_me hm (by decide) (oq_c268b7bd g1003) | omega) kx
  refine z_aload_n X (x := A 179) rfl (List.Mem.head _) (z_const X rfl (s_putI X 179 rfl (c518_ok rfl) rfl rfl (by decide) rfl rfl rfl (wd_gen (fun s3 hs3 => ?_))))
  have Is3 : Bd s3 := eqB hs3 (bd_I I (show (0 : Int) ≤ 0 ∧ 0 ≤ 3 by first | exact ⟨by decide, by decide⟩ | omega) (by decide))
  have Fs3 := eqF hs3 (fm_I F (inl_ok (a := 73) rfl))
  have vs3 : iI s3 73 = 0 := eqI hs3 (iI_u (by decide))
  have ws3_98 : iI s3 98 = iI s 98 := eqI hs3 rfl
  refine z_aload_n X (x := A 179) rfl (List.Mem.head _) (z_getI X 179 rfl (c518_ok rfl) rfl rfl ?_)
  have b4 := bi_98 Is3
  refine z_const X rfl (z_icmp_ne X (t := 15) rfl rfl (rng_to _) (by decide) (fun g5 => ?_) (fun g5 => ?_))
  ·
    refine z_const X rfl (z_store_n X (lv' := [(1, .int (Int32.ofInt 0)), (0, .ref (A 179))]) rfl (by decide) (fun _ h => h) (WS_pq [1, 0] (lv' := [(0, .ref (A 179)), (1, .int (Int32.ofInt 0))]) rfl (L17 ((128 - 0 : Int).toNat + 1) s3 0 Is3 Fs3 (by first | exact ⟨by decide, by decide, oq_38bef008 g5 b4.2⟩ | omega) (Nat.lt_succ_self _) ?_)))
    intro s6 x7 Is6 Fs6 hs6
    have b8 := bi_73 Is6
    have b9 := bi_98 Is6
    refine z_aload_n X (x := A 179) rfl (List.Mem.head _) (w_dup X.1 (ax_d X (show cdA 293 48 = some (.dup, 1, 0, 0, 0) from rfl)) rfl (z_getI X 179 rfl (c518_ok rfl) rfl rfl ?_))
    have b10 := bi_98 Is6
    refine z_const X rfl (z_add X rfl (s_putI X 179 rfl (c518_ok rfl) rfl rfl (by decide) rfl rfl rfl (wd_gen (fun s11 hs11 => ?_))))
    have Is11 : Bd s11 := eqB hs11 (bd_I Is6 (show (0 : Int) ≤ ((iI s6 98) + 1) ∧ ((iI s6 98) + 1) ≤ 4 by first | exact ⟨oq_54f49eb5 b10.1, oq_fb6340d3 hs6.2.2⟩ | omega) ⟨by first | exact oq_74de1e16 b10.1 | omega, by first | exact oq_45419e6e b10.2 | omega⟩)
    have Fs11 := eqF hs11 (fm_I Fs6 (inl_ok (a := 98) rfl))
    have vs11 : iI s11 98 = ((iI s6 98) + 1) := eqI hs11 (iI_u ⟨by first | exact oq_74de1e16 b10.1 | omega, by first | exact oq_45419e6e b10.2 | omega⟩)
    have ws11_73 : iI s11 73 = iI s6 73 := eqI hs11 rfl
    refine z_aload_n X (x := A 179) rfl (List.Mem.head _) (z_getI X 179 rfl (c518_ok rfl) rfl rfl ?_)
    have b12 := bi_98 Is11
    exact w_iret X.1 q hRt rfl (ax_d X (show cdA 293 61 = some (.ireturn, 1, 0, 0, 0) from rfl)) (Nat.zero_le _) (Nat.zero_le _) ⟨_, rfl, Is11, Fs11, (iI s11 98), rfl, (rng_to _), trivial⟩
  ·
    refine z_const X rfl ?_
    exact w_iret X.1 q hRt rfl (ax_d X (show cdA 293 14 = some (.ireturn, 1, 0, 0, 0) from rfl)) (Nat.zero_le _) (Nat.zero_le _) ⟨_, rfl, Is3, Fs3, (-1), rfl, (by decide), trivial⟩
theorem k_back (G : GX l s0 D tys a0 dT) (I : Bd s)  : CT l s0 D A dT 294 (rmN 294) [.ref (A 179)] s (fun o t => Bd t ∧ Fm [73, 98] [228] s t ∧ ∃ e, o = .inl (some (.int (Int32.ofInt e))) ∧ rng e ∧ (True)) := by
  refine ct_of G (by decide) (Nat.le_of_ble_eq_true rfl) (fun k X E hRt hXt q => ?_)
  show WS k 0 [(0, .ref (A 179))] [] _ 0 0
  have F : Fm [73, 98] [228] s s := fm_rf _ _ s
  have b1 := bi_73 I
  have b2 := bi_98 I
  have L26 : ∀ (n : Nat) (t : PS) (c : Int), Bd t → Fm [73, 98] [228] s t → (0 ≤ c ∧ c ≤ 128 ∧ iI t 98 ≤ 3) → (128 - c : Int).toNat < n → (∀ (t' : PS) (c' : Int), Bd t' → Fm [73, 98] [228] s t' → (0 ≤ c' ∧ c' ≤ 128 ∧ iI t' 98 ≤ 3) → WS k 56 [(0, .ref (A 179)), (1, .int (Int32.ofInt c'))] [] (Wd A dT t') 0 0) → WS k 26 [(0, .ref (A 179)), (1, .int (Int32.ofInt c))] [] (Wd A dT t) 0 0 := by
    intro n
    induction n with
    | zero =>
      intro t c I F hi hm kx
      exact absurd hm (Nat.not_lt_zero _)
    | succ n ih =>
      intro t c I F hi hm kx
      have b1001 := bi_73 I
      have b1002 := bi_98 I
      refine z_load_n X (x := c) rfl (List.Mem.tail _ (List.Mem.head _)) (z_sipush X rfl (z_icmp_ge X (t := 56) rfl rfl ⟨by first | exact oq_fa4e5087 hi.1 | omega, by first | exact oq_4ee82282 hi.2.1 | omega⟩ (by decide) (fun g1003 => ?_) (fun g1003 => ?_)))
      ·
        refine WS_pq [0, 1] (lv' := [(0, .ref (A 179)), (1, .int (Int32.ofInt c))]) rfl ?_
        exact kx _ c I F (by first | exact ⟨hi.1, hi.2.1, hi.2.2⟩ | omega)
      ·
        refine z_aload_n X (x := A 179) rfl (List.Mem.head _) (s_getR X 179 rfl (c518_ok rfl) rfl rfl (z_load_n X (x := c) rfl (List.Mem.tail _ (List.Mem.head _)) (z_aload_n X (x := A 179) rfl (List.Mem.head _) (s_getR X 179 rfl (c518_ok rfl) rfl rfl (z_aload_n X (x := A 179) rfl (List.Mem.head _) (z_getI X 179 rfl (c518_ok rfl) rfl rfl ?_))))))
        have b1004 := bi_98 I
        refine z_aald X rw_269 rfl (by first | exact b1004.1 | omega) (show (iI t 98) < 4 by first | exact oq_907d7be5 hi.2.2 | omega) (by decide) (z_load_n X (x := c) rfl (List.Mem.tail _ (List.Mem.head _)) (z_ald2 X rw_269 rfl (show ((iI t 98) : Int).toNat < 4 by first | exact oq_b6a8a4cc hi.2.2 | omega) (by first | exact hi.1 | omega) (show c < 128 by first | exact g1003 | omega) (by decide) ?_))
        have b1005 : ((-1) : Int) ≤ (iC t (241 + ((iI t 98) : Int).toNat) (c : Int).toNat) ∧ (iC t (241 + ((iI t 98) : Int).toNat) (c : Int).toNat) ≤ 7 := rw_bd rw_269 I (show ((iI t 98) : Int).toNat < 4 by first | exact oq_b6a8a4cc hi.2.2 | omega) (show (c : Int).toNat < 128 by first | exact oq_afb89947 g1003 | omega)
        refine z_ast X 256 rfl (c518_ok rfl) rfl (by first | exact hi.1 | omega) (show c < 128 by first | exact g1003 | omega) (cbig_ok rfl) (wd_gen (fun s1006 hs1006 => ?_))
        have Is1006 : Bd s1006 := eqB hs1006 (bd_C I (show ((-1) : Int) ≤ (iC t (241 + ((iI t 98) : Int).toNat) (c : Int).toNat) ∧ (iC t (241 + ((iI t 98) : Int).toNat) (c : Int).toNat) ≤ 7 by first | exact ⟨b1005.1, b1005.2⟩ | omega) (rng_to _))
        have Fs1006 := eqF hs1006 (fm_C F (inl_ok (a := 228) rfl))
        have ws1006_73 : iI s1006 73 = iI t 73 := eqI hs1006 rfl
        have ws1006_98 : iI s1006 98 = iI t 98 := eqI hs1006 rfl
        refine z_inc X (x := c) (lv' := [(1, .int (Int32.ofInt (c + 1))), (0, .ref (A 179))]) rfl (by decide) (List.Mem.tail _ (List.Mem.head _)) (fun _ h => h) (z_goto X (t := 26) rfl rfl (WS_pq [1, 0] (lv' := [(0, .ref (A 179)), (1, .int (Int32.ofInt (c + 1)))]) rfl ?_))
        exact ih _ (c + 1) Is1006 Fs1006 (by first | exact ⟨oq_54f49eb5 hi.1, oq_d2afb425 g1003, oq_6b149751 ws1006_98 hi.2.2⟩ | omega) (by first | exact qk_me hm (by decide) (oq_c268b7bd g1003) | omega) kx
  refine z_aload_n X (x := A 179) rfl (List.Mem.head _) (z_const X rfl (s_putI X 179 rfl (c518_ok rfl) rfl rfl (by decide) rfl rfl rfl (wd_gen (fun s3 hs3 => ?_))))
  have Is3 : Bd s3 := eqB hs3 (bd_I I (show (0 : Int) ≤ 0 ∧ 0 ≤ 3 by first | exact ⟨by decide, by decide⟩ | omega) (by decide))
  have Fs3 := eqF hs3 (fm_I F (inl_ok (a := 73) rfl))
  have vs3 : iI s3 73 = 0 := eqI hs3 (iI_u (by decide))
  have ws3_98 : iI s3 98 = iI s 98 := eqI hs3 rfl
  refine z_aload_n X (x := A 179) rfl (List.Mem.head _) (z_getI X 179 rfl (c518_ok rfl) rfl rfl ?_)
  have b4 := bi_98 Is3
  refine z_if_ne X (t := 14) rfl rfl (rng_to _) (fun g5 => ?_) (fun g5 => ?_)
  ·
    refine z_aload_n X (x := A 179) rfl (List.Mem.head _) (w_dup X.1 (ax_d X (show cdA 294 15 = some (.dup, 1, 0, 0, 0) from rfl)) rfl (z_getI X 179 rfl (c518_ok rfl) rfl rfl ?_))
    have b6 := bi_98 Is3
    refine z_const X rfl (z_sub X rfl (s_putI X 179 rfl (c518_ok rfl) rfl rfl (by decide) rfl rfl rfl (wd_gen (fun s7 hs7 => ?_))))
    have Is7 : Bd s7 := eqB hs7 (bd_I Is3 (show (0 : Int) ≤ ((iI s3 98) - 1) ∧ ((iI s3 98) - 1) ≤ 4 by first | exact ⟨oq_3ec5d522 b6.1 g5, oq_f3f8f749 b6.2⟩ | omega) ⟨by first | exact oq_c1e961c7 b6.1 | omega, by first | exact oq_dc10bb6e b6.2 | omega⟩)
    have Fs7 := eqF hs7 (fm_I Fs3 (inl_ok (a := 98) rfl))
    have vs7 : iI s7 98 = ((iI s3 98) - 1) := eqI hs7 (iI_u ⟨by first | exact oq_c1e961c7 b6.1 | omega, by first | exact oq_dc10bb6e b6.2 | omega⟩)
    have ws7_73 : iI s7 73 = iI s3 73 := eqI hs7 rfl
    refine z_const X rfl (z_store_n X (lv' := [(1, .int (Int32.ofInt 0)), (0, .ref (A 179))]) rfl (by decide) (fun _ h => h) (WS_pq [1, 0] (lv' := [(0, .ref (A 179)), (1, .int (Int32.ofInt 0))]) rfl (L26 ((128 - 0 : Int).toNat + 1) s7 0 Is7 Fs7 (by first | exact ⟨by decide, by decide, oq_652a8e73 vs7 b6.2⟩ | omega) (Nat.lt_succ_self _) ?_)))
    intro s8 x9 Is8 Fs8 hs8
    have b10 := bi_73 Is8
    have b11 := bi_98 Is8
    refine z_aload_n X (x := A 179) rfl (List.Mem.head _) (z_getI X 179 rfl (c518_ok rfl) rfl rfl ?_)
    have b12 := bi_98 Is8
    exact w_iret X.1 q hRt rfl (ax_d X (show cdA 294 60 = some (.ireturn, 1, 0, 0, 0) from rfl)) (Nat.zero_le _) (Nat.zero_le _) ⟨_, rfl, Is8, Fs8, (iI s8 98), rfl, (rng_to _), trivial⟩
  ·
    refine z_const X rfl ?_
    exact w_iret X.1 q hRt rfl (ax_d X (show cdA 294 13 = some (.ireturn, 1, 0, 0, 0) from rfl)) (Nat.zero_le _) (Nat.zero_le _) ⟨_, rfl, Is3, Fs3, (-1), rfl, (by decide), trivial⟩
theorem k_skipWord (G : GX l s0 D tys a0 dT) (I : Bd s) (p0 : iI s 77 ≤ 390) : CT l s0 D A dT 203 (rmN 203) [.ref (A 179)] s (fun o t => Bd t ∧ Fm [77] [] s t ∧ o = .inl none ∧ (iI s 77 ≤ iI t 77 ∧ (iI t 77 = iI s 77 ∨ iI t 77 ≤ iI s 75))) := by
  refine ct_of G (by decide) (Nat.le_of_ble_eq_true rfl) (fun k X E hRt hXt q => ?_)
  show WS k 0 [(0, .ref (A 179))] [] _ 0 0
  have F : Fm [77] [] s s := fm_rf _ _ s
  have b1 := bi_77 I
  have b2 := bi_75 I
  have L0 : ∀ (n : Nat) (t : PS), Bd t → Fm [77] [] s t → (iI s 77 ≤ iI t 77 ∧ (iI t 77 = iI s 77 ∨ iI t 77 ≤ iI s 75) ∧ iI t 75 = iI s 75) → (iI t 75 - iI t 77 : Int).toNat < n → (∀ (t' : PS), Bd t' → Fm [77] [] s t' → (iI s 77 ≤ iI t' 77 ∧ (iI t' 77 = iI s 77 ∨ iI t' 77 ≤ iI s 75) ∧ iI t' 75 = iI s 75) → WS k 39 [(0, .ref (A 179))] [] (Wd A dT t') 0 0) → WS k 0 [(0, .ref (A 179))] [] (Wd A dT t) 0 0 := by
    intro n
    induction n with
    | zero =>
      intro t  I F hi hm kx
      exact absurd hm (Nat.not_lt_zero _)
    | succ n ih =>
      intro t  I F hi hm kx
      have b1001 := bi_77 I
      have b1002 := bi_75 I
      refine z_aload_n X (x := A 179) rfl (List.Mem.head _) (z_aload_n X (x := A 179) rfl (List.Mem.head _) (z_getI X 179 rfl (c518_ok rfl) rfl rfl ?_))
      have b1003 := bi_77 I
      refine zcV_i0 X E 179 (As := [.int (Int32.ofInt (iI t 77))]) (st := []) rfl rfl rfl rfl (k_byteAt G I (by first | exact ⟨b1003.1, oq_5a8480eb b1003.2⟩ | omega)) rfl (Nat.le_of_ble_eq_true rfl) (fun s1004 e1005 Is1004 Fs1004 hrs1004 hps1004 => ?_)
      have Gs1004 := fm_tq F Fs1004 rfl rfl
      have ws1004_77 : iI s1004 77 = iI t 77 := fm_iq Fs1004 rfl
      have ws1004_75 : iI s1004 75 = iI t 75 := fm_iq Fs1004 rfl
      refine z_bipush X rfl (z_icmp_lt X (t := 39) rfl rfl hrs1004 (by decide) (fun g1006 => ?_) (fun g1006 => ?_))
      ·
        refine WS_pq [0] (lv' := [(0, .ref (A 179))]) rfl ?_
        exact kx _  Is1004 Gs1004 (by first | exact ⟨oq_9272904e ws1004_77 hi.1, oq_8dc46605 ws1004_77 hi.2.1 hi.1, oq_1aa5be9e ws1004_75 hi.2.2⟩ | omega)
      ·
        refine z_aload_n X (x := A 179) rfl (List.Mem.head _) (z_aload_n X (x := A 179) rfl (List.Mem.head _) (z_getI X 179 rfl (c518_ok rfl) rfl rfl ?_))
        have b1007 := bi_77 Is1004
        refine zcV_i0 X E 179 (As := [.int (Int32.ofInt (iI s1004 77))]) (st := []) rfl rfl rfl rfl (k_byteAt G Is1004 (by first | exact ⟨b1007.1, oq_5a8480eb b1007.2⟩ | omega)) rfl (Nat.le_of_ble_eq_true rfl) (fun s1008 e1009 Is1008 Fs1008 hrs1008 hps1008 => ?_)
        have Gs1008 := fm_tq Gs1004 Fs1008 rfl rfl
        have ws1008_77 : iI s1008 77 = iI s1004 77 := fm_iq Fs1008 rfl
        have ws1008_75 : iI s1008 75 = iI s1004 75 := fm_iq Fs1008 rfl
        refine z_bipush X rfl (z_icmp_gt X (t := 39) rfl rfl hrs1008 (by decide) (fun g1010 => ?_) (fun g1010 => ?_))
        ·
          refine WS_pq [0] (lv' := [(0, .ref (A 179))]) rfl ?_
          exact kx _  Is1008 Gs1008 (by first | exact ⟨oq_143762c7 ws1008_77 hi.1 ws1004_77, oq_2519f37c g1010 ws1008_77 hps1008 ws1004_75 hi.2.2, oq_d0d2714e ws1008_75 hi.2.2 ws1004_75⟩ | omega)
        ·
          refine z_aload_n X (x := A 179) rfl (List.Mem.head _) (w_dup X.1 (ax_d X (show cdA 203 27 = some (.dup, 1, 0, 0, 0) from rfl)) rfl (z_getI X 179 rfl (c518_ok rfl) rfl rfl ?_))
          have b1011 := bi_77 Is1008
          refine z_const X rfl (z_add X rfl (s_putI X 179 rfl (c518_ok rfl) rfl rfl (by decide) rfl rfl rfl (wd_gen (fun s1012 hs1012 => ?_))))
          have Is1012 : Bd s1012 := eqB hs1012 (bd_I Is1008 (show (0 : Int) ≤ ((iI s1008 77) + 1) ∧ ((iI s1008 77) + 1) ≤ 400 by first | exact ⟨oq_54f49eb5 b1011.1, oq_7e7c278b ws1008_77 g1006 ws1004_77 hps1004 b1002.2⟩ | omega) ⟨by first | exact oq_74de1e16 b1011.1 | omega, by first | exact oq_964ce197 b1011.2 | omega⟩)
          have Fs1012 := eqF hs1012 (fm_I Gs1008 (inl_ok (a := 77) rfl))
          have vs1012 : iI s1012 77 = ((iI s1008 77) + 1) := eqI hs1012 (iI_u ⟨by first | exact oq_74de1e16 b1011.1 | omega, by first | exact oq_964ce197 b1011.2 | omega⟩)
          have ws1012_75 : iI s1012 75 = iI s1008 75 := eqI hs1012 rfl
          refine z_goto X (t := 0) rfl rfl (WS_pq [0] (lv' := [(0, .ref (A 179))]) rfl ?_)
          exact ih _  Is1012 Fs1012 (by first | exact ⟨oq_c108a731 vs1012 hi.1 ws1008_77 ws1004_77, oq_a49c266d vs1012 ws1008_77 hps1008 g1006 ws1004_75 ws1004_77 hps1004 hi.2.2, oq_45b593e3 ws1012_75 hi.2.2 ws1008_75 ws1004_75⟩ | omega) (by first | exact qk_me hm (oq_e6145000 ws1012_75 vs1012 ws1008_75 ws1008_77 ws1004_75 ws1004_77) (oq_88aeaead g1006 hps1004) | omega) kx
  refine WS_pq [0] (lv' := [(0, .ref (A 179))]) rfl (L0 ((iI s 75 - iI s 77 : Int).toNat + 1) s  I F (by first | exact ⟨by decide, Or.inl (by decide), by decide⟩ | omega) (Nat.lt_succ_self _) ?_)
  intro s3  Is3 Fs3 hs3
  have b4 := bi_77 Is3
  have b5 := bi_75 Is3
  exact w_vret X.1 q hRt (ax_d X (show cdA 203 39 = some (.return_, 1, 0, 0, 0) from rfl)) (Nat.zero_le _) (Nat.zero_le _) ⟨_, rfl, Is3, Fs3, rfl, by first | exact ⟨hs3.1, hs3.2.1⟩ | omega⟩
theorem k_sign (G : GX l s0 D tys a0 dT) (I : Bd s) {x : Int} (p0 : 0 ≤ x ∧ x ≤ 255) (p1 : iI s 77 ≤ 380) : CT l s0 D A dT 204 (rmN 204) [.ref (A 179), .int (Int32.ofInt x)] s (fun o t => Bd t ∧ Fm [77, 79, 80] [] s t ∧ o = .inl none ∧ (iI s 77 ≤ iI t 77 ∧ (iI t 77 = iI s 77 ∨ iI t 77 ≤ iI s 75) ∧ (iI s 79 ≠ 0 → iI t 79 ≠ 0) ∧ (iI t 79 = 0 → iI s 77 < iI t 77 ∧ iI t 77 ≤ iI s 75))) := by
  refine ct_of G (by decide) (Nat.le_of_ble_eq_true rfl) (fun k X E hRt hXt q => ?_)
  show WS k 0 [(0, .ref (A 179)), (1, .int (Int32.ofInt x))] [] _ 0 0
  have F : Fm [77, 79, 80] [] s s := fm_rf _ _ s
  have b1 := bi_77 I
  have b2 := bi_75 I
  have b3 := bi_79 I
  refine z_aload_n X (x := A 179) rfl (List.Mem.head _) (zcV_v0 X E 179 (As := []) (st := []) rfl rfl rfl rfl (k_blanks G I (by first | exact oq_f72601a2 p1 | omega)) rfl (Nat.le_of_ble_eq_true rfl) (fun s4 Is4 Fs4 hps4 => ?_))
  have hps4p := hps4.1
  have Gs4 := fm_tq F Fs4 rfl rfl
  have b6 := bi_77 Is4
  have ws4_75 : iI s4 75 = iI s 75 := fm_iq Fs4 rfl
  have ws4_79 : iI s4 79 = iI s 79 := fm_iq Fs4 rfl
  refine z_aload_n X (x := A 179) rfl (List.Mem.head _) (z_aload_n X (x := A 179) rfl (List.Mem.head _) (z_getI X 179 rfl (c518_ok rfl) rfl rfl ?_))
  have b7 := bi_77 Is4
  refine zcV_i0 X E 179 (As := [.int (Int32.ofInt (iI s4 77))]) (st := []) rfl rfl rfl rfl (k_byteAt G Is4 (by first | exact ⟨b7.1, oq_5a8480eb b7.2⟩ | omega)) rfl (Nat.le_of_ble_eq_true rfl) (fun s8 e9 Is8 Fs8 hrs8 hps8 => ?_)
  have Gs8 := fm_tq Gs4 Fs8 rfl rfl
  have ws8_77 : iI s8 77 = iI s4 77 := fm_iq Fs8 rfl
  have ws8_75 : iI s8 75 = iI s4 75 := fm_iq Fs8 rfl
  have ws8_79 : iI s8 79 = iI s4 79 := fm_iq Fs8 rfl
  refine z_load_n X (x := x) rfl (List.Mem.tail _ (List.Mem.head _)) (z_icmp_ne X (t := 29) rfl rfl hrs8 ⟨by first | exact oq_fa4e5087 p0.1 | omega, by first | exact oq_4567a937 p0.2 | omega⟩ (fun g10 => ?_) (fun g10 => ?_))
  ·
    refine z_aload_n X (x := A 179) rfl (List.Mem.head _) (z_const X rfl (z_aload_n X (x := A 179) rfl (List.Mem.head _) (z_getI X 179 rfl (c518_ok rfl) rfl rfl ?_)))
    have b11 := bi_77 Is8
    refine zcV_v0 X E 179 (As := [.int (Int32.ofInt 1), .int (Int32.ofInt (iI s8 77))]) (st := []) rfl rfl rfl rfl (k_wrong G Is8 (by first | exact ⟨by decide, by decide⟩ | omega) (by first | exact ⟨oq_ca54ea22 b11.1, b11.2⟩ | omega)) rfl (Nat.le_of_ble_eq_true rfl) (fun s12 Is12 Fs12 hps12 => ?_)
    have Gs12 := fm_tq Gs8 Fs12 rfl rfl
    have ws12_77 : iI s12 77 = iI s8 77 := fm_iq Fs12 rfl
    have ws12_75 : iI s12 75 = iI s8 75 := fm_iq Fs12 rfl
    have b14 := bi_79 Is12
    exact w_vret X.1 q hRt (ax_d X (show cdA 204 38 = some (.return_, 1, 0, 0, 0) from rfl)) (Nat.zero_le _) (Nat.zero_le _) ⟨_, rfl, Is12, Gs12, rfl, by first | exact ⟨oq_143762c7 ws12_77 hps4.1 ws8_77, oq_9d983156 ws12_77 ws8_77 hps4.2 hps4.1, oq_5071f1ab b14.1 hps12, oq_c324d438 b14.1 hps12⟩ | omega⟩
  ·
    refine z_aload_n X (x := A 179) rfl (List.Mem.head _) (w_dup X.1 (ax_d X (show cdA 204 17 = some (.dup, 1, 0, 0, 0) from rfl)) rfl (z_getI X 179 rfl (c518_ok rfl) rfl rfl ?_))
    have b15 := bi_77 Is8
    refine z_const X rfl (z_add X rfl (s_putI X 179 rfl (c518_ok rfl) rfl rfl (by decide) rfl rfl rfl (wd_gen (fun s16 hs16 => ?_))))
    have Is16 : Bd s16 := eqB hs16 (bd_I Is8 (show (0 : Int) ≤ ((iI s8 77) + 1) ∧ ((iI s8 77) + 1) ≤ 400 by first | exact ⟨oq_54f49eb5 b15.1, oq_f2693aa9 g10 ws8_77 hps8 ws4_75 b2.2 p0.1⟩ | omega) ⟨by first | exact oq_74de1e16 b15.1 | omega, by first | exact oq_964ce197 b15.2 | omega⟩)
    have Fs16 := eqF hs16 (fm_I Gs8 (inl_ok (a := 77) rfl))
    have vs16 : iI s16 77 = ((iI s8 77) + 1) := eqI hs16 (iI_u ⟨by first | exact oq_74de1e16 b15.1 | omega, by first | exact oq_964ce197 b15.2 | omega⟩)
    have ws16_75 : iI s16 75 = iI s8 75 := eqI hs16 rfl
    have ws16_79 : iI s16 79 = iI s8 79 := eqI hs16 rfl
    refine z_goto X (t := 38) rfl rfl ?_
    exact w_vret X.1 q hRt (ax_d X (show cdA 204 38 = some (.return_, 1, 0, 0, 0) from rfl)) (Nat.zero_le _) (Nat.zero_le _) ⟨_, rfl, Is16, Fs16, rfl, by first | exact ⟨oq_6d7927be vs16 hps4.1 ws8_77, oq_669de7e1 vs16 g10 ws8_77 hps8 ws4_75 p0.1, oq_00dd204b ws16_79 ws8_79 ws4_79 b3.1, oq_8800f1ea vs16 g10 ws8_77 hps8 ws4_75 hps4.1 p0.1⟩ | omega⟩
theorem k_wordHere (G : GX l s0 D tys a0 dT) (I : Bd s) (p0 : iI s 77 ≤ 390) : CT l s0 D A dT 201 (rmN 201) [.ref (A 179)] s (fun o t => Bd t ∧ Fm [77] [] s t ∧ ∃ e, o = .inl (some (.int (Int32.ofInt e))) ∧ rng e ∧ (iI s 77 ≤ iI t 77 ∧ (iI t 77 = iI s 77 ∨ iI t 77 ≤ iI s 75) ∧ (e ≠ 0 → iI t 77 < iI s 75))) := by
  refine ct_of G (by decide) (Nat.le_of_ble_eq_true rfl) (fun k X E hRt hXt q => ?_)
  show WS k 0 [(0, .ref (A 179))] [] _ 0 0
  have F : Fm [77] [] s s := fm_rf _ _ s
  have b1 := bi_77 I
  have b2 := bi_75 I
  have L8 : ∀ (n : Nat) (t : PS) (vv nv : Int), Bd t → Fm [77] [] s t → (iI s 77 ≤ iI t 77 ∧ (iI t 77 = iI s 77 ∨ iI t 77 ≤ iI s 75) ∧ iI t 75 = iI s 75 ∧ rng vv ∧ 0 ≤ nv ∧ nv ≤ 200 ∧ (nv = 0 → vv = 0) ∧ (1 ≤ nv → iI t 77 < iI s 75)) → (200 - nv : Int).toNat < n → (∀ (t' : PS) (vv' nv' : Int), Bd t' → Fm [77] [] s t' → (iI s 77 ≤ iI t' 77 ∧ (iI t' 77 = iI s 77 ∨ iI t' 77 ≤ iI s 75) ∧ iI t' 75 = iI s 75 ∧ rng vv' ∧ 0 ≤ nv' ∧ nv' ≤ 200 ∧ (nv' = 0 → vv' = 0) ∧ (1 ≤ nv' → iI t' 77 < iI s 75)) → WS k 75 [(0, .ref (A 179)), (1, .int (Int32.ofInt vv')), (2, .int (Int32.ofInt nv'))] [] (Wd A dT t') 0 0) → WS k 8 [(0, .ref (A 179)), (1, .int (Int32.ofInt vv)), (2, .int (Int32.ofInt nv))] [] (Wd A dT t) 0 0 := by
    intro n
    induction n with
    | zero =>
      intro t vv nv I F hi hm kx
      exact absurd hm (Nat.not_lt_zero _)
    | succ n ih =>
      intro t vv nv I F hi hm kx
      have b1001 := bi_77 I
      have b1002 := bi_75 I
      refine z_aload_n X (x := A 179) rfl (List.Mem.head _) (z_aload_n X (x := A 179) rfl (List.Mem.head _) (z_getI X 179 rfl (c518_ok rfl) rfl rfl ?_))
      have b1003 := bi_77 I
      refine z_load_n X (x := nv) rfl (List.Mem.tail _ (List.Mem.tail _ (List.Mem.head _))) (z_add X rfl (zcV_i0 X E 179 (As := [.int (Int32.ofInt ((iI t 77) + nv))]) (st := []) rfl rfl rfl rfl (k_byteAt G I (by first | exact ⟨oq_d8d6a599 hi.2.2.2.2.1 b1003.1, oq_faec2b3d hi.2.2.2.2.2.1 b1003.2⟩ | omega)) rfl (Nat.le_of_ble_eq_true rfl) (fun s1004 e1005 Is1004 Fs1004 hrs1004 hps1004 => ?_)))
      have Gs1004 := fm_tq F Fs1004 rfl rfl
      have ws1004_77 : iI s1004 77 = iI t 77 := fm_iq Fs1004 rfl
      have ws1004_75 : iI s1004 75 = iI t 75 := fm_iq Fs1004 rfl
      refine z_bipush X rfl (z_icmp_lt X (t := 75) rfl rfl hrs1004 (by decide) (fun g1006 => ?_) (fun g1006 => ?_))
      ·
        refine WS_pq [0, 1, 2] (lv' := [(0, .ref (A 179)), (1, .int (Int32.ofInt vv)), (2, .int (Int32.ofInt nv))]) rfl ?_
        exact kx _ vv nv Is1004 Gs1004 (by first | exact ⟨oq_9272904e ws1004_77 hi.1, oq_8dc46605 ws1004_77 hi.2.1 hi.1, oq_1aa5be9e ws1004_75 hi.2.2.1, And.intro (hi.2.2.2.1.1) (hi.2.2.2.1.2), hi.2.2.2.2.1, hi.2.2.2.2.2.1, hi.2.2.2.2.2.2.1, oq_64f00eb9 ws1004_77 hi.2.2.2.2.2.2.2⟩ | omega)
      ·
        refine z_aload_n X (x := A 179) rfl (List.Mem.head _) (z_aload_n X (x := A 179) rfl (List.Mem.head _) (z_getI X 179 rfl (c518_ok rfl) rfl rfl ?_))
        have b1007 := bi_77 Is1004
        refine z_load_n X (x := nv) rfl (List.Mem.tail _ (List.Mem.tail _ (List.Mem.head _))) (z_add X rfl (zcV_i0 X E 179 (As := [.int (Int32.ofInt ((iI s1004 77) + nv))]) (st := []) rfl rfl rfl rfl (k_byteAt G Is1004 (by first | exact ⟨oq_d8d6a599 hi.2.2.2.2.1 b1007.1, oq_faec2b3d hi.2.2.2.2.2.1 b1007.2⟩ | omega)) rfl (Nat.le_of_ble_eq_true rfl) (fun s1008 e1009 Is1008 Fs1008 hrs1008 hps1008 => ?_)))
        have Gs1008 := fm_tq Gs1004 Fs1008 rfl rfl
        have ws1008_77 : iI s1008 77 = iI s1004 77 := fm_iq Fs1008 rfl
        have ws1008_75 : iI s1008 75 = iI s1004 75 := fm_iq Fs1008 rfl
        refine z_bipush X rfl (z_icmp_gt X (t := 75) rfl rfl hrs1008 (by decide) (fun g1010 => ?_) (fun g1010 => ?_))
        ·
          refine WS_pq [0, 1, 2] (lv' := [(0, .ref (A 179)), (1, .int (Int32.ofInt vv)), (2, .int (Int32.ofInt nv))]) rfl ?_
          exact kx _ vv nv Is1008 Gs1008 (by first | exact ⟨oq_143762c7 ws1008_77 hi.1 ws1004_77, oq_cd0949b0 g1010 ws1008_77 hps1008 ws1004_75 hi.2.2.2.2.1 hi.2.2.1, oq_d0d2714e ws1008_75 hi.2.2.1 ws1004_75, And.intro (hi.2.2.2.1.1) (hi.2.2.2.1.2), hi.2.2.2.2.1, hi.2.2.2.2.2.1, hi.2.2.2.2.2.2.1, oq_1863856d g1010 ws1008_77 hps1008 ws1004_75 hi.2.2.1⟩ | omega)
        ·
          refine z_load_n X (x := nv) rfl (List.Mem.tail _ (List.Mem.tail _ (List.Mem.head _))) (z_bipush X rfl (z_icmp_ge X (t := 67) rfl rfl ⟨by first | exact oq_fa4e5087 hi.2.2.2.2.1 | omega, by first | exact oq_52af2b96 hi.2.2.2.2.2.1 | omega⟩ (by decide) (fun g1011 => ?_) (fun g1011 => ?_)))
          ·
            refine z_load_n X (x := vv) rfl (List.Mem.tail _ (List.Mem.head _)) (z_store_n X (lv' := [(1, .int (Int32.ofInt vv)), (0, .ref (A 179)), (2, .int (Int32.ofInt nv))]) rfl (by decide) (fun _ h => h) (z_inc X (x := nv) (lv' := [(2, .int (Int32.ofInt (nv + 1))), (1, .int (Int32.ofInt vv)), (0, .ref (A 179))]) rfl (by decide) (List.Mem.tail _ (List.Mem.tail _ (List.Mem.head _))) (fun _ h => h) (z_goto X (t := 8) rfl rfl (WS_pq [2, 1, 0] (lv' := [(0, .ref (A 179)), (1, .int (Int32.ofInt vv)), (2, .int (Int32.ofInt (nv + 1)))]) rfl ?_))))
            exact ih _ vv (nv + 1) Is1008 Gs1008 (by first | exact ⟨oq_143762c7 ws1008_77 hi.1 ws1004_77, oq_8987532c g1011 ws1008_77 g1006 ws1004_77 hps1004 hi.2.2.1, oq_d0d2714e ws1008_75 hi.2.2.1 ws1004_75, And.intro (hi.2.2.2.1.1) (hi.2.2.2.1.2), oq_ef1a1f20 g1011, oq_46d7741e hps1008 b1007.1 g1006 ws1004_75 ws1004_77 hps1004 b1002.2, oq_d8509bc0 g1011, oq_810f8ff6 g1011 ws1008_77 g1006 ws1004_77 hps1004 hi.2.2.1⟩ | omega) (by first | exact qk_me hm (by decide) (oq_4b400f0f hps1008 b1007.1 g1006 ws1004_75 ws1004_77 hps1004 b1002.2) | omega) kx
          ·
            refine z_bipush X rfl (z_load_n X (x := vv) rfl (List.Mem.tail _ (List.Mem.head _)) (z_mul X rfl (z_aload_n X (x := A 179) rfl (List.Mem.head _) (z_aload_n X (x := A 179) rfl (List.Mem.head _) (z_getI X 179 rfl (c518_ok rfl) rfl rfl ?_)))))
            have b1012 := bi_77 Is1008
            refine z_load_n X (x := nv) rfl (List.Mem.tail _ (List.Mem.tail _ (List.Mem.head _))) (z_add X rfl (zcV_i0 X E 179 (As := [.int (Int32.ofInt ((iI s1008 77) + nv))]) (st := [.int (Int32.ofInt (27 * vv))]) rfl rfl rfl rfl (k_byteAt G Is1008 (by first | exact ⟨oq_d8d6a599 hi.2.2.2.2.1 b1012.1, oq_0835e488 b1012.2 g1011⟩ | omega)) rfl (Nat.le_of_ble_eq_true rfl) (fun s1013 e1014 Is1013 Fs1013 hrs1013 hps1013 => ?_)))
            have Gs1013 := fm_tq Gs1008 Fs1013 rfl rfl
            have ws1013_77 : iI s1013 77 = iI s1008 77 := fm_iq Fs1013 rfl
            have ws1013_75 : iI s1013 75 = iI s1008 75 := fm_iq Fs1013 rfl
            refine z_add X rfl (z_bipush X rfl (z_sub X rfl (z_const X rfl (z_add X rfl (z_any (fun y1015 hy1015 => ?_))))))
            refine z_goto X (t := 68) rfl rfl (z_store_n X (lv' := [(1, .int (Int32.ofInt y1015)), (0, .ref (A 179)), (2, .int (Int32.ofInt nv))]) rfl (by decide) (fun _ h => h) (z_inc X (x := nv) (lv' := [(2, .int (Int32.ofInt (nv + 1))), (1, .int (Int32.ofInt y1015)), (0, .ref (A 179))]) rfl (by decide) (List.Mem.tail _ (List.Mem.tail _ (List.Mem.head _))) (fun _ h => h) (z_goto X (t := 8) rfl rfl (WS_pq [2, 1, 0] (lv' := [(0, .ref (A 179)), (1, .int (Int32.ofInt y1015)), (2, .int (Int32.ofInt (nv + 1)))]) rfl ?_))))
            exact ih _ y1015 (nv + 1) Is1013 Gs1013 (by first | exact ⟨oq_bd4a8eb1 ws1013_77 hi.1 ws1008_77 ws1004_77, oq_fbd1858b ws1013_77 ws1008_77 g1006 ws1004_77 hps1004 hi.2.2.2.2.1 hi.2.2.1, oq_45b593e3 ws1013_75 hi.2.2.1 ws1008_75 ws1004_75, And.intro (hy1015.1) (hy1015.2), oq_54f49eb5 hi.2.2.2.2.1, oq_88fcdc91 g1011, oq_b860ca62 hi.2.2.2.2.1, oq_3fd0273b ws1013_77 hps1013 ws1008_75 ws1008_77 hps1008 g1006 ws1004_75 ws1004_77 hps1004 hi.2.2.2.2.1 hi.2.2.1⟩ | omega) (by first | exact qk_me hm (by decide) (oq_8e8d8f07 g1011) | omega) kx
  refine z_aload_n X (x := A 179) rfl (List.Mem.head _) (zcV_v0 X E 179 (As := []) (st := []) rfl rfl rfl rfl (k_blanks G I (by first | exact p0 | omega)) rfl (Nat.le_of_ble_eq_true rfl) (fun s3 Is3 Fs3 hps3 => ?_))
  have hps3p := hps3.1
  have Gs3 := fm_tq F Fs3 rfl rfl
  have b5 := bi_77 Is3
  have ws3_75 : iI s3 75 = iI s 75 := fm_iq Fs3 rfl
  refine z_const X rfl (z_store_n X (lv' := [(1, .int (Int32.ofInt 0)), (0, .ref (A 179))]) rfl (by decide) (fun _ h => h) (z_const X rfl (z_store_n X (lv' := [(2, .int (Int32.ofInt 0)), (1, .int (Int32.ofInt 0)), (0, .ref (A 179))]) rfl (by decide) (fun _ h => h) (WS_pq [2, 1, 0] (lv' := [(0, .ref (A 179)), (1, .int (Int32.ofInt 0)), (2, .int (Int32.ofInt 0))]) rfl (L8 ((200 - 0 : Int).toNat + 1) s3 0 0 Is3 Gs3 (by first | exact ⟨hps3.1, hps3.2, ws3_75, And.intro (by decide) (by decide), by decide, by decide, oq_c2ed65b6, oq_901188d8⟩ | omega) (Nat.lt_succ_self _) ?_)))))
  intro s6 x7 x8 Is6 Fs6 hs6
  have b9 := bi_77 Is6
  have b10 := bi_75 Is6
  refine z_load_n X (x := x8) rfl (List.Mem.tail _ (List.Mem.tail _ (List.Mem.head _))) (z_bipush X rfl ?_)
  have N11 : ∀ e12 : Int, (((x8 ≤ 6) ∧ e12 = x7) ∨ ((6 < x8) ∧ e12 = (-1))) → WS k 86 [(0, .ref (A 179)), (1, .int (Int32.ofInt x7)), (2, .int (Int32.ofInt x8))] [.int (Int32.ofInt e12)] (Wd A dT s6) 0 0 := by
    intro e12 he12
    exact w_iret X.1 q hRt rfl (ax_d X (show cdA 201 86 = some (.ireturn, 1, 0, 0, 0) from rfl)) (Nat.zero_le _) (Nat.zero_le _) ⟨_, rfl, Is6, Fs6, e12, rfl, ⟨by first | exact oq_02aa45b0 he12 hs6.2.2.2.1.1 | omega, by first | exact oq_78b72728 he12 hs6.2.2.2.1.2 | omega⟩, by first | exact ⟨hs6.1, hs6.2.1, oq_c9cc9202 he12 hs6.2.2.2.2.2.2.2 hs6.2.2.2.2.2.2.1 hs6.2.2.2.2.1⟩ | omega⟩
  refine z_icmp_le X (t := 85) rfl rfl ⟨by first | exact oq_fa4e5087 hs6.2.2.2.2.1 | omega, by first | exact oq_52af2b96 hs6.2.2.2.2.2.1 | omega⟩ (by decide) (fun g13 => ?_) (fun g13 => ?_)
  ·
    exact z_load_n X (x := x7) rfl (List.Mem.tail _ (List.Mem.head _)) (N11 _ (Or.inl ⟨g13, rfl⟩))
  ·
    exact z_const X rfl (z_goto X (t := 86) rfl rfl (N11 _ (Or.inr (⟨g13, rfl⟩))))
end M34
