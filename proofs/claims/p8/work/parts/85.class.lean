theorem oq_31bdcab7 {a0 a1 a2 a3 a4 a5 a6 a7 a8 a9 a10 a11 : Int} (h0 : a0 = a1) (h1 : a2 = a3) (h2 : a1 = a4) (h3 : a3 = a5) (h4 : a4 = a6) (h5 : a5 = a7) (h6 : a6 = a8) (h7 : a7 = a9) (h8 : a8 = a10) (h9 : a9 = a11) (h10 : a10 ≤ a11) : a0 ≤ a2 := by omega
theorem oq_671a0eb2 {a0 a1 a2 a3 a4 a5 a6 a7 a8 a9 a10 a11 a12 a13 : Int} (h0 : a0 = a1) (h1 : a2 = a3) (h2 : a1 = a4) (h3 : a3 = a5) (h4 : a4 = a6) (h5 : a5 = a7) (h6 : a6 = a8) (h7 : a7 = a9) (h8 : a8 = a10) (h9 : a9 = a11) (h10 : a10 = a12) (h11 : a11 = a13) (h12 : a12 ≤ a13) : a0 ≤ a2 := by omega
theorem oq_e12b0ae3 {a0 : Int} (h0 : (-20) ≤ a0) : (-2147483648) ≤ a0 := by omega
theorem oq_6c09ee19 {a0 : Int} (h0 : a0 ≤ (-7)) : a0 ≤ 2147483647 := by omega
theorem oq_f1d7362c {a0 : Int} (h0 : a0 ≤ (-7)) : a0 ≤ (-1) := by omega
theorem oq_e494e03c : 7 + 1 ≤ (12 + (4 * (0))) := by omega
theorem oq_635cae36 : 8 + (1 + 11) + 121 ≤ (500 + 45 * (4 * (0))) := by omega
theorem oq_f7912654 : 8 + 1 ≤ (12 + (4 * (0))) := by omega
theorem oq_8994f6bd : 8 + (1 + 11) + 143 ≤ (500 + 45 * (4 * (0))) := by omega
theorem oq_812388c8 : 8 + (2 + 11) + 122 ≤ (500 + 45 * (4 * (0))) := by omega
theorem oq_e86a2d6a (r : Nat) : 7 + 1 ≤ (12 + (4 * (r + 1))) := by omega
theorem oq_9756868e (r : Nat) : 8 + (1 + 11) + 121 ≤ (500 + 45 * (4 * (r + 1))) := by omega
theorem oq_b3b61940 (r : Nat) : 8 + 1 ≤ (12 + (4 * (r + 1))) := by omega
theorem oq_5e0a067b (r : Nat) : 8 + (1 + 11) + 143 ≤ (500 + 45 * (4 * (r + 1))) := by omega
theorem oq_cba25b15 (r : Nat) : (12 + (4 * (r) + 3)) + 1 ≤ (12 + (4 * (r + 1))) := by omega
theorem oq_42f07b36 (r : Nat) : 8 + (3 + 11) + (500 + 45 * (4 * (r) + 3)) ≤ (500 + 45 * (4 * (r + 1))) := by omega
theorem oq_035df8d4 (r : Nat) : 8 + (2 + 11) + 143 ≤ (500 + 45 * (4 * (r + 1))) := by omega
theorem oq_a9606c0d {a0 : Int} (h0 : a0 ≤ 6) : (a0 - 1) ≤ 6 := by omega
theorem oq_c97dc902 (r : Nat) : 6 + 1 ≤ (12 + (4 * (r + 1))) := by omega
theorem oq_b200f69d (r : Nat) : 8 + (2 + 11) + 100 ≤ (500 + 45 * (4 * (r + 1))) := by omega
theorem oq_8aa95fcd (r : Nat) : 8 + (2 + 11) + 122 ≤ (500 + 45 * (4 * (r + 1))) := by omega
theorem oq_598d2d56 : 11 + 1 ≤ (12 + (4 * (0) + 1)) := by omega
theorem oq_8d6a3487 : 8 + (3 + 11) + 206 ≤ (500 + 45 * (4 * (0) + 1)) := by omega
theorem oq_064f000d {a0 a1 a2 : Int} (h0 : a0 = a1) (h1 : a1 = a2) (h2 : (6 - a2) ≤ ((0 : Nat) : Int)) : (6 - a0) ≤ ((0 : Nat) : Int) := by omega
theorem oq_46bc030d : (12 + (4 * (0))) + 1 ≤ (12 + (4 * (0) + 1)) := by omega
theorem oq_1283f125 : 8 + (2 + 11) + (500 + 45 * (4 * (0))) ≤ (500 + 45 * (4 * (0) + 1)) := by omega
theorem oq_0306f201 : 12 + 1 ≤ (12 + (4 * (0) + 1)) := by omega
theorem oq_d926b11d : 8 + (1 + 11) + 228 ≤ (500 + 45 * (4 * (0) + 1)) := by omega
theorem oq_80ebb04a {a0 : Int} (h0 : a0 ≤ (-1)) : a0 ≤ 2147483647 := by omega
theorem oq_57ddffaa : 6 + 1 ≤ (12 + (4 * (0) + 1)) := by omega
theorem oq_9971bdcd : 8 + (2 + 11) + 100 ≤ (500 + 45 * (4 * (0) + 1)) := by omega
theorem oq_25674cec {a0 a1 a2 a3 a4 a5 a6 a7 a8 a9 : Int} (h0 : a0 = a1) (h1 : a2 = a3) (h2 : a1 = a4) (h3 : a3 = a5) (h4 : a4 = a6) (h5 : a5 = a7) (h6 : a6 = a8) (h7 : a7 = a9) (h8 : a9 ≤ a8) : a2 ≤ a0 := by omega
theorem oq_547cef8b : 7 + 1 ≤ (12 + (4 * (0) + 1)) := by omega
theorem oq_0392e5c6 : 8 + (1 + 11) + 121 ≤ (500 + 45 * (4 * (0) + 1)) := by omega
theorem oq_06c7c12d : 8 + (2 + 11) + 122 ≤ (500 + 45 * (4 * (0) + 1)) := by omega
theorem oq_21fef13e {a0 a1 a2 a3 : Int} (h0 : a0 = a1) (h1 : a1 = a2) (h2 : a2 = a3) (h3 : (6 - a3) ≤ ((0 : Nat) : Int)) : (6 - a0) ≤ ((0 : Nat) : Int) := by omega
theorem oq_a933ac9a : 8 + 1 ≤ (12 + (4 * (0) + 1)) := by omega
theorem oq_36a13c53 : 8 + (1 + 11) + 143 ≤ (500 + 45 * (4 * (0) + 1)) := by omega
theorem oq_21805ac9 (r : Nat) : 11 + 1 ≤ (12 + (4 * (r + 1) + 1)) := by omega
theorem oq_1a54e9c9 (r : Nat) : 8 + (3 + 11) + 206 ≤ (500 + 45 * (4 * (r + 1) + 1)) := by omega
theorem oq_94b38e3b {a0 a2 a3 : Int} {n1 : Nat} (h0 : (6 - a0) ≤ (((n1 + 1) : Nat) : Int)) (h1 : a2 = a3) (h2 : a3 = a0) : (6 - a2) ≤ (((n1 + 1) : Nat) : Int) := by omega
theorem oq_183d1057 (r : Nat) : (12 + (4 * (r + 1))) + 1 ≤ (12 + (4 * (r + 1) + 1)) := by omega
theorem oq_ce6206a2 (r : Nat) : 8 + (2 + 11) + (500 + 45 * (4 * (r + 1))) ≤ (500 + 45 * (4 * (r + 1) + 1)) := by omega
theorem oq_e4de711e (r : Nat) : 12 + 1 ≤ (12 + (4 * (r + 1) + 1)) := by omega
theorem oq_afe52482 (r : Nat) : 8 + (1 + 11) + 228 ≤ (500 + 45 * (4 * (r + 1) + 1)) := by omega
theorem oq_76ff689a (r : Nat) : 6 + 1 ≤ (12 + (4 * (r + 1) + 1)) := by omega
theorem oq_0822d50d (r : Nat) : 8 + (2 + 11) + 100 ≤ (500 + 45 * (4 * (r + 1) + 1)) := by omega
theorem oq_9b435bb4 (r : Nat) : 7 + 1 ≤ (12 + (4 * (r + 1) + 1)) := by omega
theorem oq_f85a7cd7 (r : Nat) : 8 + (1 + 11) + 121 ≤ (500 + 45 * (4 * (r + 1) + 1)) := by omega
theorem oq_1c2c1baf (r : Nat) : 8 + (2 + 11) + 122 ≤ (500 + 45 * (4 * (r + 1) + 1)) := by omega
theorem oq_3ee132da {a0 a2 a3 a4 : Int} {n1 : Nat} (h0 : (6 - a0) ≤ (((n1 + 1) : Nat) : Int)) (h1 : a2 = a3) (h2 : a4 = a0) (h3 : a3 = a4) : (6 - a2) ≤ (((n1 + 1) : Nat) : Int) := by omega
theorem oq_8e0cc864 (r : Nat) : 8 + 1 ≤ (12 + (4 * (r + 1) + 1)) := by omega
theorem oq_333da77b (r : Nat) : 8 + (1 + 11) + 143 ≤ (500 + 45 * (4 * (r + 1) + 1)) := by omega
theorem oq_40927492 (r : Nat) : (12 + (4 * (r) + 3)) + 1 ≤ (12 + (4 * (r + 1) + 1)) := by omega
theorem oq_c8d9c730 (r : Nat) : 8 + (3 + 11) + (500 + 45 * (4 * (r) + 3)) ≤ (500 + 45 * (4 * (r + 1) + 1)) := by omega
theorem oq_46451eae (r : Nat) : 8 + (2 + 11) + 143 ≤ (500 + 45 * (4 * (r + 1) + 1)) := by omega
theorem oq_4941a422 (r : Nat) : 7 + 1 ≤ (12 + (4 * (r) + 2)) := by omega
theorem oq_a823803b (r : Nat) : 8 + (1 + 11) + 121 ≤ (500 + 45 * (4 * (r) + 2)) := by omega
theorem oq_abe4e353 {a0 a2 a3 : Int} {n1 : Nat} (h0 : (6 - a0) ≤ ((n1 : Nat) : Int)) (h1 : a2 = a3) (h2 : a3 = a0) : (6 - a2) ≤ ((n1 : Nat) : Int) := by omega
theorem oq_dbb6b233 (r : Nat) : (12 + (4 * (r) + 1)) + 1 ≤ (12 + (4 * (r) + 2)) := by omega
theorem oq_0cecdb5e (r : Nat) : 8 + (2 + 11) + (500 + 45 * (4 * (r) + 1)) ≤ (500 + 45 * (4 * (r) + 2)) := by omega
theorem oq_b4ff86be {a0 : Int} (h0 : (-12) ≤ a0) : (-2147483648) ≤ a0 := by omega
theorem oq_8c06164c {a0 : Int} (h0 : a0 ≤ (-11)) : a0 ≤ 2147483647 := by omega
theorem oq_d8760254 (r : Nat) : 6 + 1 ≤ (12 + (4 * (r) + 2)) := by omega
theorem oq_29829ae4 (r : Nat) : 8 + (2 + 11) + 100 ≤ (500 + 45 * (4 * (r) + 2)) := by omega
theorem oq_1ab01402 {a0 : Int} (h0 : a0 < 200) : 0 < (200 - a0) := by omega
theorem oq_c7636a98 (r : Nat) : 7 + 1 ≤ (12 + (4 * (r) + 3)) := by omega
theorem oq_aba64d1b (r : Nat) : 8 + (1 + 11) + 121 ≤ (500 + 45 * (4 * (r) + 3)) := by omega
theorem oq_2e478062 (r : Nat) : (12 + (4 * (r) + 2)) + 1 ≤ (12 + (4 * (r) + 3)) := by omega
theorem oq_cdd7b804 (r : Nat) : 8 + (3 + 11) + (500 + 45 * (4 * (r) + 2)) ≤ (500 + 45 * (4 * (r) + 3)) := by omega
theorem oq_3d7a4679 {a0 : Int} (h0 : (-10) ≤ a0) : (-2147483648) ≤ a0 := by omega
theorem oq_8ddf7954 {a0 : Int} (h0 : a0 ≤ (-9)) : a0 ≤ 2147483647 := by omega
theorem oq_1fdce876 (r : Nat) : 6 + 1 ≤ (12 + (4 * (r) + 3)) := by omega
theorem oq_55a309dd (r : Nat) : 8 + (2 + 11) + 100 ≤ (500 + 45 * (4 * (r) + 3)) := by omega
theorem oq_f95a2bb1 : 11 + 1 ≤ (12 + (32 + 3 * (0))) := by omega
theorem oq_70624d19 : 8 + (3 + 11) + 206 ≤ (500 + 45 * (32 + 3 * (0))) := by omega
theorem oq_ba167e5f {a0 a1 : Int} (h0 : a0 = a1) (h1 : 0 ≤ a1) : (6 - a0) ≤ ((7 : Nat) : Int) := by omega
theorem oq_8943d30a : (12 + (4 * (7) + 3)) + 1 ≤ (12 + (32 + 3 * (0))) := by omega
theorem oq_a0b1cf65 : 8 + (3 + 11) + (500 + 45 * (4 * (7) + 3)) ≤ (500 + 45 * (32 + 3 * (0))) := by omega
theorem oq_86745356 {a0 : Int} (h0 : a0 ≤ (-15)) : a0 ≤ 2147483647 := by omega
theorem oq_98d05d0f : 7 + 1 ≤ (12 + (32 + 3 * (0))) := by omega
theorem oq_2a8149c4 : 8 + (1 + 11) + 121 ≤ (500 + 45 * (32 + 3 * (0))) := by omega
theorem oq_af2bf85e : 6 + 1 ≤ (12 + (32 + 3 * (0))) := by omega
theorem oq_72040bf2 : 8 + (2 + 11) + 100 ≤ (500 + 45 * (32 + 3 * (0))) := by omega
theorem oq_7c329781 : 8 + (2 + 11) + 122 ≤ (500 + 45 * (32 + 3 * (0))) := by omega
theorem oq_6e542e63 : 8 + 1 ≤ (12 + (32 + 3 * (0))) := by omega
theorem oq_72d660e0 : 8 + (1 + 11) + 143 ≤ (500 + 45 * (32 + 3 * (0))) := by omega
theorem oq_c9a3ea85 (r : Nat) : 11 + 1 ≤ (12 + (32 + 3 * (r + 1))) := by omega
theorem oq_5eb0540b (r : Nat) : 8 + (3 + 11) + 206 ≤ (500 + 45 * (32 + 3 * (r + 1))) := by omega
theorem oq_e0a8f0a0 (r : Nat) : (12 + (4 * (7) + 3)) + 1 ≤ (12 + (32 + 3 * (r + 1))) := by omega
theorem oq_eacdd764 (r : Nat) : 8 + (3 + 11) + (500 + 45 * (4 * (7) + 3)) ≤ (500 + 45 * (32 + 3 * (r + 1))) := by omega
theorem oq_36a63932 (r : Nat) : 7 + 1 ≤ (12 + (32 + 3 * (r + 1))) := by omega
theorem oq_ab0c04be (r : Nat) : 8 + (1 + 11) + 121 ≤ (500 + 45 * (32 + 3 * (r + 1))) := by omega
theorem oq_65b7d3a7 (r : Nat) : 6 + 1 ≤ (12 + (32 + 3 * (r + 1))) := by omega
theorem oq_bfe32ab2 (r : Nat) : 8 + (2 + 11) + 100 ≤ (500 + 45 * (32 + 3 * (r + 1))) := by omega
theorem oq_562d3263 (r : Nat) : 8 + (2 + 11) + 122 ≤ (500 + 45 * (32 + 3 * (r + 1))) := by omega
theorem oq_de5d5424 (r : Nat) : 8 + 1 ≤ (12 + (32 + 3 * (r + 1))) := by omega
theorem oq_8bb5ae4a (r : Nat) : 8 + (1 + 11) + 143 ≤ (500 + 45 * (32 + 3 * (r + 1))) := by omega
theorem oq_45eb8909 (r : Nat) : (12 + (32 + 3 * (r) + 2)) + 1 ≤ (12 + (32 + 3 * (r + 1))) := by omega
theorem oq_a5f4ad9d (r : Nat) : 8 + (2 + 11) + (500 + 45 * (32 + 3 * (r) + 2)) ≤ (500 + 45 * (32 + 3 * (r + 1))) := by omega
theorem oq_0961b7e0 (r : Nat) : 8 + (2 + 11) + 143 ≤ (500 + 45 * (32 + 3 * (r + 1))) := by omega
theorem oq_a51edb0d (r : Nat) : (12 + (32 + 3 * (r))) + 1 ≤ (12 + (32 + 3 * (r + 1))) := by omega
theorem oq_75be701f (r : Nat) : 8 + (2 + 11) + (500 + 45 * (32 + 3 * (r))) ≤ (500 + 45 * (32 + 3 * (r + 1))) := by omega
theorem oq_960124c6 (r : Nat) : 11 + 1 ≤ (12 + (32 + 3 * (r) + 1)) := by omega
theorem oq_7c76c90d (r : Nat) : 8 + (3 + 11) + 206 ≤ (500 + 45 * (32 + 3 * (r) + 1)) := by omega
theorem oq_7e7bafa7 (r : Nat) : 7 + 1 ≤ (12 + (32 + 3 * (r) + 1)) := by omega
theorem oq_f1058fdb (r : Nat) : 8 + (1 + 11) + 121 ≤ (500 + 45 * (32 + 3 * (r) + 1)) := by omega
theorem oq_f4f80c46 {a0 a2 a3 a4 : Int} {n1 : Nat} (h0 : (6 - a0) ≤ ((n1 : Nat) : Int)) (h1 : a2 = a3) (h2 : a4 = a0) (h3 : a3 = a4) : (6 - a2) ≤ ((n1 : Nat) : Int) := by omega
theorem oq_2290fc41 (r : Nat) : (12 + (32 + 3 * (r))) + 1 ≤ (12 + (32 + 3 * (r) + 1)) := by omega
theorem oq_ab38c8cf (r : Nat) : 8 + (2 + 11) + (500 + 45 * (32 + 3 * (r))) ≤ (500 + 45 * (32 + 3 * (r) + 1)) := by omega
theorem oq_b5194544 (r : Nat) : 6 + 1 ≤ (12 + (32 + 3 * (r) + 1)) := by omega
theorem oq_38be39c2 (r : Nat) : 8 + (2 + 11) + 100 ≤ (500 + 45 * (32 + 3 * (r) + 1)) := by omega
theorem oq_3b8c0a4a (r : Nat) : 11 + 1 ≤ (12 + (32 + 3 * (r) + 2)) := by omega
theorem oq_c9883230 (r : Nat) : 8 + (3 + 11) + 206 ≤ (500 + 45 * (32 + 3 * (r) + 2)) := by omega
theorem oq_9d2e9ef6 (r : Nat) : 7 + 1 ≤ (12 + (32 + 3 * (r) + 2)) := by omega
theorem oq_41985971 (r : Nat) : 8 + (1 + 11) + 121 ≤ (500 + 45 * (32 + 3 * (r) + 2)) := by omega
theorem oq_23399e95 (r : Nat) : (12 + (32 + 3 * (r) + 1)) + 1 ≤ (12 + (32 + 3 * (r) + 2)) := by omega
theorem oq_c23d4411 (r : Nat) : 8 + (2 + 11) + (500 + 45 * (32 + 3 * (r) + 1)) ≤ (500 + 45 * (32 + 3 * (r) + 2)) := by omega
theorem oq_bd1a6d33 (r : Nat) : 6 + 1 ≤ (12 + (32 + 3 * (r) + 2)) := by omega
theorem oq_1addf0d0 (r : Nat) : 8 + (2 + 11) + 100 ≤ (500 + 45 * (32 + 3 * (r) + 2)) := by omega
theorem oq_7d321bf4 {a0 a1 a2 : Int} (h0 : a0 = a1) (h1 : a1 = a2) (h2 : 0 ≤ a2) : (6 - a0) ≤ ((7 : Nat) : Int) := by omega
theorem oq_2af1bc43 : (12 + (32 + 3 * (7) + 2)) + 1 ≤ 68 := by omega
theorem oq_3d00aaab : 8 + (2 + 11) + (500 + 45 * (32 + 3 * (7) + 2)) ≤ 2996 := by omega
theorem oq_8a3fdbff {a0 a1 a2 : Int} (h0 : a0 = 0) (h1 : a0 ≠ 0) : a1 ≤ a2 := by omega
theorem oq_4cedc687 : (12 + (4 * (7) + 3)) + 1 ≤ 68 := by omega
theorem oq_b0ed7f34 : 8 + (3 + 11) + (500 + 45 * (4 * (7) + 3)) ≤ 2996 := by omega
theorem oq_f6b99f75 {a0 a1 a2 a3 : Int} (h0 : a0 = a1) (h1 : a1 = a2) (h2 : a2 = a3) (h3 : 0 ≤ a3) : (6 - a0) ≤ ((7 : Nat) : Int) := by omega
theorem oq_4e2d8064 {a0 a1 a2 : Int} (h0 : a0 ≠ 0) (h1 : a0 = 0) : a1 ≤ a2 := by omega
/-! The class: rules, their reading -/
section M85
variable {l : Launch} {s0 : State} {D : va_G} {tys : List (ClassId × FieldType)} {a0 : Array Value} {A : Nat → Nat} {dT : Nat → ClassId} {s : PS}
set_option maxRecDepth 4000 in
theorem c7_put_19 (G : GX l s0 D tys a0 dT) (I : Bd s) {x : Int} (p0 : rng x) : CT l s0 D A dT 82 (rmN 82) [.ref (A 19), .int (Int32.ofInt x)] s (fun o t => Bd t ∧ Fm [16] [18] s t ∧ o = .inl none ∧ (True)) := by
  refine ct_ofX G (by decide) (Nat.le_of_ble_eq_true rfl) (fun k X E ET hRt hXt q => ?_)
  show WS k 0 [(0, .ref (A 19)), (1, .int (Int32.ofInt x))] [] _ 0 0
  have F : Fm [16] [18] s s := fm_rf _ _ s
  have b1 := bi_16 I
  refine z_aload_n X (x := A 19) rfl (List.Mem.head _) (z_getI X 19 rfl (c518_ok rfl) rfl rfl ?_)
  have b2 := bi_16 I
  refine z_sipush X rfl (z_icmp_ge X (t := 30) rfl rfl (rng_to _) (by decide) (fun g3 => ?_) (fun g3 => ?_))
  ·
    exact w_vret X.1 q hRt (ax_d X (show cdA 82 30 = some (.return_, 1, 0, 0, 0) from rfl)) (Nat.zero_le _) (Nat.zero_le _) ⟨_, rfl, I, F, rfl, trivial⟩
  ·
    refine z_aload_n X (x := A 19) rfl (List.Mem.head _) (s_getR X 19 rfl (c518_ok rfl) rfl rfl (z_aload_n X (x := A 19) rfl (List.Mem.head _) (z_getI X 19 rfl (c518_ok rfl) rfl rfl ?_)))
    have b4 := bi_16 I
    refine z_load_n X (x := x) rfl (List.Mem.tail _ (List.Mem.head _)) (z_ast X 22 rfl (c518_ok rfl) rfl (by first | exact b4.1 | omega) (show (iI s 16) < 200 by first | exact g3 | omega) (cbig_ok rfl) (wd_gen (fun s5 hs5 => ?_)))
    have Is5 : Bd s5 := eqB hs5 (bd_C I (show ((-2147483648) : Int) ≤ x ∧ x ≤ 2147483647 by first | exact ⟨p0.1, p0.2⟩ | omega) ⟨by first | exact p0.1 | omega, by first | exact p0.2 | omega⟩)
    have Fs5 := eqF hs5 (fm_C F (inl_ok (a := 18) rfl))
    have ws5_16 : iI s5 16 = iI s 16 := eqI hs5 rfl
    refine z_aload_n X (x := A 19) rfl (List.Mem.head _) (w_dup X.1 (ax_d X (show cdA 82 21 = some (.dup, 1, 0, 0, 0) from rfl)) rfl (z_getI X 19 rfl (c518_ok rfl) rfl rfl ?_))
    have b6 := bi_16 Is5
    refine z_const X rfl (z_add X rfl (s_putI X 19 rfl (c518_ok rfl) rfl rfl (by decide) rfl rfl rfl (wd_gen (fun s7 hs7 => ?_))))
    have Is7 : Bd s7 := eqB hs7 (bd_I Is5 (show (0 : Int) ≤ ((iI s5 16) + 1) ∧ ((iI s5 16) + 1) ≤ 200 by first | exact ⟨oq_54f49eb5 b6.1, oq_c35a0598 ws5_16 g3⟩ | omega) ⟨by first | exact oq_74de1e16 b6.1 | omega, by first | exact oq_bb8d498d b6.2 | omega⟩)
    have Fs7 := eqF hs7 (fm_I Fs5 (inl_ok (a := 16) rfl))
    have vs7 : iI s7 16 = ((iI s5 16) + 1) := eqI hs7 (iI_u ⟨by first | exact oq_74de1e16 b6.1 | omega, by first | exact oq_bb8d498d b6.2 | omega⟩)
    exact w_vret X.1 q hRt (ax_d X (show cdA 82 30 = some (.return_, 1, 0, 0, 0) from rfl)) (Nat.zero_le _) (Nat.zero_le _) ⟨_, rfl, Is7, Fs7, rfl, trivial⟩
set_option maxRecDepth 4000 in
theorem c7_enter_19 (G : GX l s0 D tys a0 dT) (I : Bd s) (p0 : iI s 2 ≤ iI s 1) (p1 : iI s 4 ≤ iI s 2) : CT l s0 D A dT 80 (rmN 80) [.ref (A 19)] s (fun o t => Bd t ∧ Fm [2, 4, 6, 5, 7, 8, 19] [] s t ∧ ∃ e, o = .inl (some (.int (Int32.ofInt e))) ∧ rng e ∧ ((e = 0 ∨ (e = 1 ∧ iI s 19 ≤ 5 ∧ iI t 19 = iI s 19 + 1)) ∧ iI t 2 ≤ iI t 1 ∧ iI t 4 ≤ iI t 2)) := by
  refine ct_ofX G (by decide) (Nat.le_of_ble_eq_true rfl) (fun k X E ET hRt hXt q => ?_)
  show WS k 0 [(0, .ref (A 19))] [] _ 0 0
  have F : Fm [2, 4, 6, 5, 7, 8, 19] [] s s := fm_rf _ _ s
  have b1 := bi_2 I
  have b2 := bi_1 I
  have b3 := bi_4 I
  have b4 := bi_5 I
  have b5 := bi_6 I
  have b6 := bi_19 I
  refine z_aload_n X (x := A 19) rfl (List.Mem.head _) (z_getI X 19 rfl (c518_ok rfl) rfl rfl ?_)
  have b7 := bi_19 I
  refine z_bipush X rfl (z_icmp_lt X (t := 18) rfl rfl (rng_to _) (by decide) (fun g8 => ?_) (fun g8 => ?_))
  ·
    refine z_aload_n X (x := A 19) rfl (List.Mem.head _) (w_dup X.1 (ax_d X (show cdA 80 19 = some (.dup, 1, 0, 0, 0) from rfl)) rfl (z_getI X 19 rfl (c518_ok rfl) rfl rfl ?_))
    have b9 := bi_19 I
    refine z_const X rfl (z_add X rfl (s_putI X 19 rfl (c518_ok rfl) rfl rfl (by decide) rfl rfl rfl (wd_gen (fun s10 hs10 => ?_))))
    have Is10 : Bd s10 := eqB hs10 (bd_I I (show (0 : Int) ≤ ((iI s 19) + 1) ∧ ((iI s 19) + 1) ≤ 6 by first | exact ⟨oq_54f49eb5 b9.1, oq_5bf54478 g8⟩ | omega) ⟨by first | exact oq_74de1e16 b9.1 | omega, by first | exact oq_5fe14c36 b9.2 | omega⟩)
    have Fs10 := eqF hs10 (fm_I F (inl_ok (a := 19) rfl))
    have vs10 : iI s10 19 = ((iI s 19) + 1) := eqI hs10 (iI_u ⟨by first | exact oq_74de1e16 b9.1 | omega, by first | exact oq_5fe14c36 b9.2 | omega⟩)
    have ws10_2 : iI s10 2 = iI s 2 := eqI hs10 rfl
    have ws10_1 : iI s10 1 = iI s 1 := eqI hs10 rfl
    have ws10_4 : iI s10 4 = iI s 4 := eqI hs10 rfl
    have ws10_5 : iI s10 5 = iI s 5 := eqI hs10 rfl
    have ws10_6 : iI s10 6 = iI s 6 := eqI hs10 rfl
    refine z_aload_n X (x := A 19) rfl (List.Mem.head _) (s_getR X 19 rfl (c518_ok rfl) rfl rfl (zcV_v0 X E 1 (As := []) (st := []) rfl rfl rfl rfl (c10_step_1 G Is10 (by first | exact oq_e7b9ecab ws10_1 ws10_2 p0 | omega)) rfl (Nat.le_of_ble_eq_true rfl) (fun s11 Is11 Fs11 hps11 => ?_)))
    have Gs11 := fm_tq Fs10 Fs11 rfl rfl
    have b13 := bi_2 Is11
    have ws11_1 : iI s11 1 = iI s10 1 := fm_iq Fs11 rfl
    have b14 := bi_4 Is11
    have b15 := bi_5 Is11
    have b16 := bi_6 Is11
    have ws11_19 : iI s11 19 = iI s10 19 := fm_iq Fs11 rfl
    refine z_const X rfl ?_
    exact w_iret X.1 q hRt (nar_ret (by first | exact Or.inr (by decide) | omega)) (ax_d X (show cdA 80 36 = some (.ireturn, 1, 0, 0, 0) from rfl)) (Nat.zero_le _) (Nat.zero_le _) ⟨_, rfl, Is11, Gs11, 1, rfl, (by decide), by first | exact ⟨Or.inr (And.intro (by decide) (And.intro (oq_a4cef127 g8) (oq_4b8d46b3 ws11_19 vs10))), hps11.1, hps11.2⟩ | omega⟩
  ·
    refine z_aload_n X (x := A 19) rfl (List.Mem.head _) (s_getR X 19 rfl (c518_ok rfl) rfl rfl (z_const X rfl (zcV_i0 X E 1 (As := [.int (Int32.ofInt 3)]) (st := []) rfl rfl rfl rfl (c10_refuse_1 G I (by first | exact ⟨by decide, by decide⟩ | omega)) rfl (Nat.le_of_ble_eq_true rfl) (fun s17 e18 Is17 Fs17 hrs17 hps17 => ?_))))
    have Gs17 := fm_tq F Fs17 rfl rfl
    have ws17_2 : iI s17 2 = iI s 2 := fm_iq Fs17 rfl
    have ws17_1 : iI s17 1 = iI s 1 := fm_iq Fs17 rfl
    have ws17_4 : iI s17 4 = iI s 4 := fm_iq Fs17 rfl
    have ws17_5 : iI s17 5 = iI s 5 := fm_iq Fs17 rfl
    have ws17_6 : iI s17 6 = iI s 6 := fm_iq Fs17 rfl
    have ws17_19 : iI s17 19 = iI s 19 := fm_iq Fs17 rfl
    exact w_iret X.1 q hRt (nar_ret (by first | exact Or.inl (hps17) | omega)) (ax_d X (show cdA 80 17 = some (.ireturn, 1, 0, 0, 0) from rfl)) (Nat.zero_le _) (Nat.zero_le _) ⟨_, rfl, Is17, Gs17, e18, rfl, hrs17, by first | exact ⟨Or.inl (hps17), oq_e7b9ecab ws17_1 ws17_2 p0, oq_e7b9ecab ws17_2 ws17_4 p1⟩ | omega⟩
set_option maxRecDepth 4000 in
theorem c7_pass_19 (G : GX l s0 D tys a0 dT) (I : Bd s) {x : Int} (p0 : rng x) (p1 : iI s 2 ≤ iI s 1) (p2 : iI s 4 ≤ iI s 2) : CT l s0 D A dT 81 (rmN 81) [.ref (A 19), .int (Int32.ofInt x)] s (fun o t => Bd t ∧ Fm [2, 4, 6, 5, 7, 8] [] s t ∧ ∃ e, o = .inl (some (.int (Int32.ofInt e))) ∧ rng e ∧ ((e = 0 ∨ e = 1) ∧ iI t 2 ≤ iI t 1 ∧ iI t 4 ≤ iI t 2)) := by
  refine ct_ofX G (by decide) (Nat.le_of_ble_eq_true rfl) (fun k X E ET hRt hXt q => ?_)
  show WS k 0 [(0, .ref (A 19)), (1, .int (Int32.ofInt x))] [] _ 0 0
  have F : Fm [2, 4, 6, 5, 7, 8] [] s s := fm_rf _ _ s
  have b1 := bi_2 I
  have b2 := bi_1 I
  have b3 := bi_4 I
  have b4 := bi_5 I
  have b5 := bi_6 I
  refine z_aload_n X (x := A 19) rfl (List.Mem.head _) (s_getR X 19 rfl (c518_ok rfl) rfl rfl (z_getI X 1 rfl (c518_ok rfl) rfl rfl ?_))
  have b6 := bi_5 I
  refine z_load_n X (x := x) rfl (List.Mem.tail _ (List.Mem.head _)) (z_icmp_eq X (t := 20) rfl rfl (rng_to _) ⟨by first | exact p0.1 | omega, by first | exact p0.2 | omega⟩ (fun g7 => ?_) (fun g7 => ?_))
  ·
    refine z_aload_n X (x := A 19) rfl (List.Mem.head _) (s_getR X 19 rfl (c518_ok rfl) rfl rfl (zcV_v0 X E 1 (As := []) (st := []) rfl rfl rfl rfl (c10_step_1 G I (by first | exact p1 | omega)) rfl (Nat.le_of_ble_eq_true rfl) (fun s8 Is8 Fs8 hps8 => ?_)))
    have Gs8 := fm_tq F Fs8 rfl rfl
    have b10 := bi_2 Is8
    have ws8_1 : iI s8 1 = iI s 1 := fm_iq Fs8 rfl
    have b11 := bi_4 Is8
    have b12 := bi_5 Is8
    have b13 := bi_6 Is8
    refine z_const X rfl ?_
    exact w_iret X.1 q hRt (nar_ret (by first | exact Or.inr (by decide) | omega)) (ax_d X (show cdA 81 28 = some (.ireturn, 1, 0, 0, 0) from rfl)) (Nat.zero_le _) (Nat.zero_le _) ⟨_, rfl, Is8, Gs8, 1, rfl, (by decide), by first | exact ⟨Or.inr (by decide), hps8.1, hps8.2⟩ | omega⟩
  ·
    refine z_aload_n X (x := A 19) rfl (List.Mem.head _) (s_getR X 19 rfl (c518_ok rfl) rfl rfl (z_const X rfl (zcV_i0 X E 1 (As := [.int (Int32.ofInt 1)]) (st := []) rfl rfl rfl rfl (c10_refuse_1 G I (by first | exact ⟨by decide, by decide⟩ | omega)) rfl (Nat.le_of_ble_eq_true rfl) (fun s14 e15 Is14 Fs14 hrs14 hps14 => ?_))))
    have Gs14 := fm_tq F Fs14 rfl rfl
    have ws14_2 : iI s14 2 = iI s 2 := fm_iq Fs14 rfl
    have ws14_1 : iI s14 1 = iI s 1 := fm_iq Fs14 rfl
    have ws14_4 : iI s14 4 = iI s 4 := fm_iq Fs14 rfl
    have ws14_5 : iI s14 5 = iI s 5 := fm_iq Fs14 rfl
    have ws14_6 : iI s14 6 = iI s 6 := fm_iq Fs14 rfl
    exact w_iret X.1 q hRt (nar_ret (by first | exact Or.inl (hps14) | omega)) (ax_d X (show cdA 81 19 = some (.ireturn, 1, 0, 0, 0) from rfl)) (Nat.zero_le _) (Nat.zero_le _) ⟨_, rfl, Is14, Gs14, e15, rfl, hrs14, by first | exact ⟨Or.inl (hps14), oq_e7b9ecab ws14_1 ws14_2 p1, oq_e7b9ecab ws14_2 ws14_4 p2⟩ | omega⟩
set_option maxRecDepth 4000 in
theorem c7_codeOfName_19 (G : GX l s0 D tys a0 dT) (SF : SF0 s0) (GT : TXs0 s0) (I : Bd s) (p0 : iI s 2 ≤ iI s 1) (p1 : iI s 4 ≤ iI s 2) : CT l s0 D A dT 79 (rmN 79) [.ref (A 19)] s (fun o t => Bd t ∧ Fm [] [] s t ∧ ∃ e, o = .inl (some (.int (Int32.ofInt e))) ∧ rng e ∧ (-20 ≤ e ∧ e ≤ -1)) := by
  refine ct_ofX G (by decide) (Nat.le_of_ble_eq_true rfl) (fun k X E ET hRt hXt q => ?_)
  show WS k 0 [(0, .ref (A 19))] [] _ 0 0
  have F : Fm [] [] s s := fm_rf _ _ s
  have b1 := bi_2 I
  have b2 := bi_1 I
  have b3 := bi_4 I
  have b4 := bi_5 I
  have b5 := bi_6 I
  refine z_aload_n X (x := A 19) rfl (List.Mem.head _) (s_getR X 19 rfl (c518_ok rfl) rfl rfl ?_)
  obtain ⟨tx136, q136, hR136, hS136⟩ := GT (136, 4) (by decide)
  refine w_ldcK X (show vk_R (kOwn k) 136 tx136 q136 (kS0 k) by rw [E.2.1, X.2.1.2.1]; exact hR136) (show decode (kCc k) 4 = .ok (.ldc 136, 2) by rw [X.2.1.1]; decide +kernel) (zcV_i0 X E 1 (As := [.ref q136]) (st := []) rfl rfl rfl rfl (c10_says G SF hS136 I (by first | exact p1 | omega)) rfl (Nat.le_of_ble_eq_true rfl) (fun s6 e7 Is6 Fs6 hrs6 hps6 => ?_))
  have Gs6 := fm_tq F Fs6 rfl rfl
  have ws6_2 : iI s6 2 = iI s 2 := fm_iq Fs6 rfl
  have ws6_1 : iI s6 1 = iI s 1 := fm_iq Fs6 rfl
  have ws6_4 : iI s6 4 = iI s 4 := fm_iq Fs6 rfl
  have ws6_5 : iI s6 5 = iI s 5 := fm_iq Fs6 rfl
  have ws6_6 : iI s6 6 = iI s 6 := fm_iq Fs6 rfl
  refine z_if_eq X (t := 16) rfl rfl hrs6 (fun g8 => ?_) (fun g8 => ?_)
  ·
    refine z_aload_n X (x := A 19) rfl (List.Mem.head _) (s_getR X 19 rfl (c518_ok rfl) rfl rfl ?_)
    obtain ⟨tx138, q138, hR138, hS138⟩ := GT (138, 5) (by decide)
    refine w_ldcK X (show vk_R (kOwn k) 138 tx138 q138 (kS0 k) by rw [E.2.1, X.2.1.2.1]; exact hR138) (show decode (kCc k) 20 = .ok (.ldc 138, 2) by rw [X.2.1.1]; decide +kernel) (zcV_i0 X E 1 (As := [.ref q138]) (st := []) rfl rfl rfl rfl (c10_says G SF hS138 Is6 (by first | exact oq_e7b9ecab ws6_2 ws6_4 p1 | omega)) rfl (Nat.le_of_ble_eq_true rfl) (fun s9 e10 Is9 Fs9 hrs9 hps9 => ?_))
    have Gs9 := fm_tq Gs6 Fs9 rfl rfl
    have ws9_2 : iI s9 2 = iI s6 2 := fm_iq Fs9 rfl
    have ws9_1 : iI s9 1 = iI s6 1 := fm_iq Fs9 rfl
    have ws9_4 : iI s9 4 = iI s6 4 := fm_iq Fs9 rfl
    have ws9_5 : iI s9 5 = iI s6 5 := fm_iq Fs9 rfl
    have ws9_6 : iI s9 6 = iI s6 6 := fm_iq Fs9 rfl
    refine z_if_eq X (t := 33) rfl rfl hrs9 (fun g11 => ?_) (fun g11 => ?_)
    ·
      refine z_aload_n X (x := A 19) rfl (List.Mem.head _) (s_getR X 19 rfl (c518_ok rfl) rfl rfl ?_)
      obtain ⟨tx140, q140, hR140, hS140⟩ := GT (140, 4) (by decide)
      refine w_ldcK X (show vk_R (kOwn k) 140 tx140 q140 (kS0 k) by rw [E.2.1, X.2.1.2.1]; exact hR140) (show decode (kCc k) 37 = .ok (.ldc 140, 2) by rw [X.2.1.1]; decide +kernel) (zcV_i0 X E 1 (As := [.ref q140]) (st := []) rfl rfl rfl rfl (c10_says G SF hS140 Is9 (by first | exact oq_4407eb3c ws9_2 ws9_4 ws6_2 ws6_4 p1 | omega)) rfl (Nat.le_of_ble_eq_true rfl) (fun s12 e13 Is12 Fs12 hrs12 hps12 => ?_))
      have Gs12 := fm_tq Gs9 Fs12 rfl rfl
      have ws12_2 : iI s12 2 = iI s9 2 := fm_iq Fs12 rfl
      have ws12_1 : iI s12 1 = iI s9 1 := fm_iq Fs12 rfl
      have ws12_4 : iI s12 4 = iI s9 4 := fm_iq Fs12 rfl
      have ws12_5 : iI s12 5 = iI s9 5 := fm_iq Fs12 rfl
      have ws12_6 : iI s12 6 = iI s9 6 := fm_iq Fs12 rfl
      refine z_if_eq X (t := 50) rfl rfl hrs12 (fun g14 => ?_) (fun g14 => ?_)
      ·
        refine z_aload_n X (x := A 19) rfl (List.Mem.head _) (s_getR X 19 rfl (c518_ok rfl) rfl rfl ?_)
        obtain ⟨tx142, q142, hR142, hS142⟩ := GT (142, 5) (by decide)
        refine w_ldcK X (show vk_R (kOwn k) 142 tx142 q142 (kS0 k) by rw [E.2.1, X.2.1.2.1]; exact hR142) (show decode (kCc k) 54 = .ok (.ldc 142, 2) by rw [X.2.1.1]; decide +kernel) (zcV_i0 X E 1 (As := [.ref q142]) (st := []) rfl rfl rfl rfl (c10_says G SF hS142 Is12 (by first | exact oq_7f1a346e ws12_4 ws12_2 ws9_4 ws9_2 ws6_4 ws6_2 p1 | omega)) rfl (Nat.le_of_ble_eq_true rfl) (fun s15 e16 Is15 Fs15 hrs15 hps15 => ?_))
        have Gs15 := fm_tq Gs12 Fs15 rfl rfl
        have ws15_2 : iI s15 2 = iI s12 2 := fm_iq Fs15 rfl
        have ws15_1 : iI s15 1 = iI s12 1 := fm_iq Fs15 rfl
        have ws15_4 : iI s15 4 = iI s12 4 := fm_iq Fs15 rfl
        have ws15_5 : iI s15 5 = iI s12 5 := fm_iq Fs15 rfl
        have ws15_6 : iI s15 6 = iI s12 6 := fm_iq Fs15 rfl
        refine z_if_eq X (t := 67) rfl rfl hrs15 (fun g17 => ?_) (fun g17 => ?_)
        ·
          refine z_aload_n X (x := A 19) rfl (List.Mem.head _) (s_getR X 19 rfl (c518_ok rfl) rfl rfl ?_)
          obtain ⟨tx144, q144, hR144, hS144⟩ := GT (144, 5) (by decide)
          refine w_ldcK X (show vk_R (kOwn k) 144 tx144 q144 (kS0 k) by rw [E.2.1, X.2.1.2.1]; exact hR144) (show decode (kCc k) 71 = .ok (.ldc 144, 2) by rw [X.2.1.1]; decide +kernel) (zcV_i0 X E 1 (As := [.ref q144]) (st := []) rfl rfl rfl rfl (c10_says G SF hS144 Is15 (by first | exact oq_969cff60 ws15_4 ws15_2 ws12_4 ws12_2 ws9_4 ws9_2 ws6_4 ws6_2 p1 | omega)) rfl (Nat.le_of_ble_eq_true rfl) (fun s18 e19 Is18 Fs18 hrs18 hps18 => ?_))
          have Gs18 := fm_tq Gs15 Fs18 rfl rfl
          have ws18_2 : iI s18 2 = iI s15 2 := fm_iq Fs18 rfl
          have ws18_1 : iI s18 1 = iI s15 1 := fm_iq Fs18 rfl
          have ws18_4 : iI s18 4 = iI s15 4 := fm_iq Fs18 rfl
          have ws18_5 : iI s18 5 = iI s15 5 := fm_iq Fs18 rfl
          have ws18_6 : iI s18 6 = iI s15 6 := fm_iq Fs18 rfl
          refine z_if_eq X (t := 84) rfl rfl hrs18 (fun g20 => ?_) (fun g20 => ?_)
          ·
            refine z_aload_n X (x := A 19) rfl (List.Mem.head _) (s_getR X 19 rfl (c518_ok rfl) rfl rfl ?_)
            obtain ⟨tx146, q146, hR146, hS146⟩ := GT (146, 3) (by decide)
            refine w_ldcK X (show vk_R (kOwn k) 146 tx146 q146 (kS0 k) by rw [E.2.1, X.2.1.2.1]; exact hR146) (show decode (kCc k) 88 = .ok (.ldc 146, 2) by rw [X.2.1.1]; decide +kernel) (zcV_i0 X E 1 (As := [.ref q146]) (st := []) rfl rfl rfl rfl (c10_says G SF hS146 Is18 (by first | exact oq_31bdcab7 ws18_4 ws18_2 ws15_4 ws15_2 ws12_4 ws12_2 ws9_4 ws9_2 ws6_4 ws6_2 p1 | omega)) rfl (Nat.le_of_ble_eq_true rfl) (fun s21 e22 Is21 Fs21 hrs21 hps21 => ?_))
            have Gs21 := fm_tq Gs18 Fs21 rfl rfl
            have ws21_2 : iI s21 2 = iI s18 2 := fm_iq Fs21 rfl
            have ws21_1 : iI s21 1 = iI s18 1 := fm_iq Fs21 rfl
            have ws21_4 : iI s21 4 = iI s18 4 := fm_iq Fs21 rfl
            have ws21_5 : iI s21 5 = iI s18 5 := fm_iq Fs21 rfl
            have ws21_6 : iI s21 6 = iI s18 6 := fm_iq Fs21 rfl
            refine z_if_eq X (t := 101) rfl rfl hrs21 (fun g23 => ?_) (fun g23 => ?_)
            ·
              refine z_aload_n X (x := A 19) rfl (List.Mem.head _) (s_getR X 19 rfl (c518_ok rfl) rfl rfl ?_)
              obtain ⟨tx148, q148, hR148, hS148⟩ := GT (148, 6) (by decide)
              refine w_ldcK X (show vk_R (kOwn k) 148 tx148 q148 (kS0 k) by rw [E.2.1, X.2.1.2.1]; exact hR148) (show decode (kCc k) 105 = .ok (.ldc 148, 2) by rw [X.2.1.1]; decide +kernel) (zcV_i0 X E 1 (As := [.ref q148]) (st := []) rfl rfl rfl rfl (c10_says G SF hS148 Is21 (by first | exact oq_671a0eb2 ws21_4 ws21_2 ws18_4 ws18_2 ws15_4 ws15_2 ws12_4 ws12_2 ws9_4 ws9_2 ws6_4 ws6_2 p1 | omega)) rfl (Nat.le_of_ble_eq_true rfl) (fun s24 e25 Is24 Fs24 hrs24 hps24 => ?_))
              have Gs24 := fm_tq Gs21 Fs24 rfl rfl
              have ws24_2 : iI s24 2 = iI s21 2 := fm_iq Fs24 rfl
              have ws24_1 : iI s24 1 = iI s21 1 := fm_iq Fs24 rfl
              have ws24_4 : iI s24 4 = iI s21 4 := fm_iq Fs24 rfl
              have ws24_5 : iI s24 5 = iI s21 5 := fm_iq Fs24 rfl
              have ws24_6 : iI s24 6 = iI s21 6 := fm_iq Fs24 rfl
              have N26 : ∀ e27 : Int, (((e25 = 0) ∧ e27 = (-20)) ∨ ((e25 ≠ 0) ∧ e27 = (-7))) → WS k 120 [(0, .ref (A 19))] [.int (Int32.ofInt e27)] (Wd A dT s24) 0 0 := by
                intro e27 he27
                have re27 : (-20) ≤ e27 ∧ e27 ≤ (-7) := by first | (clear he27 hps24 hps21 hps18 hps15 hps12 hps9 hps6; omega) | (clear hps24 hps21 hps18 hps15 hps12 hps9 hps6; omega) | omega
                exact w_iret X.1 q hRt rfl (ax_d X (show cdA 79 120 = some (.ireturn, 1, 0, 0, 0) from rfl)) (Nat.zero_le _) (Nat.zero_le _) ⟨_, rfl, Is24, Gs24, e27, rfl, ⟨by first | exact oq_e12b0ae3 re27.1 | omega, by first | exact oq_6c09ee19 re27.2 | omega⟩, by first | exact ⟨re27.1, oq_f1d7362c re27.2⟩ | omega⟩
              refine z_if_eq X (t := 118) rfl rfl hrs24 (fun g28 => ?_) (fun g28 => ?_)
              ·
                exact z_bipush X rfl (N26 _ (Or.inl ⟨g28, rfl⟩))
              ·
                exact z_bipush X rfl (z_goto X (t := 120) rfl rfl (N26 _ (Or.inr (⟨g28, rfl⟩))))
            ·
              refine z_bipush X rfl (z_goto X (t := 120) rfl rfl ?_)
              exact w_iret X.1 q hRt rfl (ax_d X (show cdA 79 120 = some (.ireturn, 1, 0, 0, 0) from rfl)) (Nat.zero_le _) (Nat.zero_le _) ⟨_, rfl, Is21, Gs21, (-6), rfl, (by decide), by first | exact ⟨by decide, by decide⟩ | omega⟩
          ·
            refine z_bipush X rfl (z_goto X (t := 120) rfl rfl ?_)
            exact w_iret X.1 q hRt rfl (ax_d X (show cdA 79 120 = some (.ireturn, 1, 0, 0, 0) from rfl)) (Nat.zero_le _) (Nat.zero_le _) ⟨_, rfl, Is18, Gs18, (-5), rfl, (by decide), by first | exact ⟨by decide, by decide⟩ | omega⟩
        ·
          refine z_bipush X rfl (z_goto X (t := 120) rfl rfl ?_)
          exact w_iret X.1 q hRt rfl (ax_d X (show cdA 79 120 = some (.ireturn, 1, 0, 0, 0) from rfl)) (Nat.zero_le _) (Nat.zero_le _) ⟨_, rfl, Is15, Gs15, (-4), rfl, (by decide), by first | exact ⟨by decide, by decide⟩ | omega⟩
      ·
        refine z_bipush X rfl (z_goto X (t := 120) rfl rfl ?_)
        exact w_iret X.1 q hRt rfl (ax_d X (show cdA 79 120 = some (.ireturn, 1, 0, 0, 0) from rfl)) (Nat.zero_le _) (Nat.zero_le _) ⟨_, rfl, Is12, Gs12, (-3), rfl, (by decide), by first | exact ⟨by decide, by decide⟩ | omega⟩
    ·
      refine z_bipush X rfl (z_goto X (t := 120) rfl rfl ?_)
      exact w_iret X.1 q hRt rfl (ax_d X (show cdA 79 120 = some (.ireturn, 1, 0, 0, 0) from rfl)) (Nat.zero_le _) (Nat.zero_le _) ⟨_, rfl, Is9, Gs9, (-2), rfl, (by decide), by first | exact ⟨by decide, by decide⟩ | omega⟩
  ·
    refine z_const X rfl (z_goto X (t := 120) rfl rfl ?_)
    exact w_iret X.1 q hRt rfl (ax_d X (show cdA 79 120 = some (.ireturn, 1, 0, 0, 0) from rfl)) (Nat.zero_le _) (Nat.zero_le _) ⟨_, rfl, Is6, Gs6, (-1), rfl, (by decide), by first | exact ⟨by decide, by decide⟩ | omega⟩
set_option maxRecDepth 4000 in
theorem c7_two0 (G : GX l s0 D tys a0 dT) (SF : SF0 s0) (GT : TXs0 s0) (I : Bd s) {x : Int} (p0 : rng x) (p1 : iI s 2 ≤ iI s 1) (p2 : iI s 4 ≤ iI s 2) (p3 : 6 - iI s 19 ≤ ((0 : Nat) : Int)) : CT l s0 D A dT 78 (rkR (4 * (0))) [.ref (A 19), .int (Int32.ofInt x)] s (fun o t => Bd t ∧ Fm [2, 4, 6, 5, 7, 8, 19, 16] [18] s t ∧ ∃ e, o = .inl (some (.int (Int32.ofInt e))) ∧ rng e ∧ ((e = 0 ∨ (e = 1 ∧ iI t 19 = iI s 19)) ∧ iI t 2 ≤ iI t 1 ∧ iI t 4 ≤ iI t 2)) := by
  refine ct_ofX G (by decide) (Nat.le_of_ble_eq_true rfl) (fun k X E ET hRt hXt q => ?_)
  show WS k 0 [(0, .ref (A 19)), (1, .int (Int32.ofInt x))] [] _ 0 0
  have F : Fm [2, 4, 6, 5, 7, 8, 19, 16] [18] s s := fm_rf _ _ s
  have b1 := bi_2 I
  have b2 := bi_1 I
  have b3 := bi_4 I
  have b4 := bi_5 I
  have b5 := bi_6 I
  have b6 := bi_19 I
  have b7 := bi_16 I
  refine z_aload_n X (x := A 19) rfl (List.Mem.head _) (s_getR X 19 rfl (c518_ok rfl) rfl rfl (z_callV X 1 (rm := rmN 129) (As := []) (st := []) rfl rfl (by decide) rfl (by rw [E.1, E.2.1, E.2.2.1]; exact c10_step_1 G I (by first | exact p1 | omega)) ⟨by rw [E.2.2.2]; exact (show 7 + 1 ≤ (12 + (4 * (0))) from oq_e494e03c), by rw [E.2.2.2]; exact (show 8 + (1 + 11) + 121 ≤ (500 + 45 * (4 * (0))) from oq_635cae36), by rw [E.2.2.2]; exact Nat.le_refl 0, by rw [E.2.2.2]; exact Nat.le_refl 0⟩ (Nat.le_of_ble_eq_true rfl) (fun vv s8 hq => ?_) (fun ee s8 hq => ?_)))
  rotate_left
  · obtain ⟨Is8, Fs8, hv, hps8⟩ := hq; cases hv
  obtain ⟨Is8, Fs8, hv, hps8⟩ := hq
  cases hv
  have Gs8 := fm_tq F Fs8 rfl rfl
  have b10 := bi_2 Is8
  have ws8_1 : iI s8 1 = iI s 1 := fm_iq Fs8 rfl
  have b11 := bi_4 Is8
  have b12 := bi_5 Is8
  have b13 := bi_6 Is8
  have ws8_19 : iI s8 19 = iI s 19 := fm_iq Fs8 rfl
  have ws8_16 : iI s8 16 = iI s 16 := fm_iq Fs8 rfl
  show WS k 7 [(0, .ref (A 19)), (1, .int (Int32.ofInt x))] [] (Wd A dT s8) 0 0
  refine z_aload_n X (x := A 19) rfl (List.Mem.head _) (s_getR X 19 rfl (c518_ok rfl) rfl rfl (z_getI X 1 rfl (c518_ok rfl) rfl rfl ?_))
  have b14 := bi_5 Is8
  refine z_bipush X rfl (z_icmp_eq X (t := 28) rfl rfl (rng_to _) (by decide) (fun g15 => ?_) (fun g15 => ?_))
  ·
    refine z_aload_n X (x := A 19) rfl (List.Mem.head _) (z_callV X 19 (rm := rmN 80) (As := []) (st := []) rfl rfl (by decide) rfl (by rw [E.1, E.2.1, E.2.2.1]; exact c7_enter_19 G Is8 (by first | exact hps8.1 | omega) (by first | exact hps8.2 | omega)) ⟨by rw [E.2.2.2]; exact (show 8 + 1 ≤ (12 + (4 * (0))) from oq_f7912654), by rw [E.2.2.2]; exact (show 8 + (1 + 11) + 143 ≤ (500 + 45 * (4 * (0))) from oq_8994f6bd), by rw [E.2.2.2]; exact Nat.le_refl 0, by rw [E.2.2.2]; exact Nat.le_refl 0⟩ (Nat.le_of_ble_eq_true rfl) (fun vv s16 hq => ?_) (fun ee s16 hq => ?_))
    rotate_left
    · obtain ⟨Is16, Fs16, e17, hv, hrs16, hps16⟩ := hq; cases hv
    obtain ⟨Is16, Fs16, e17, hv, hrs16, hps16⟩ := hq
    have hps16p := And.intro hps16.2.1 (hps16.2.2)
    cases hv
    have Gs16 := fm_tq Gs8 Fs16 rfl rfl
    have b18 := bi_2 Is16
    have ws16_1 : iI s16 1 = iI s8 1 := fm_iq Fs16 rfl
    have b19 := bi_4 Is16
    have b20 := bi_5 Is16
    have b21 := bi_6 Is16
    have b22 := bi_19 Is16
    have ws16_16 : iI s16 16 = iI s8 16 := fm_iq Fs16 rfl
    show WS k 32 [(0, .ref (A 19)), (1, .int (Int32.ofInt x))] [.int (Int32.ofInt e17)] (Wd A dT s16) 0 0
    refine z_if_eq X (t := 67) rfl rfl hrs16 (fun g23 => ?_) (fun g23 => ?_)
    ·
      refine z_const X rfl ?_
      exact w_iret X.1 q hRt (nar_ret (by first | exact Or.inl (by decide) | omega)) (ax_d X (show cdA 78 68 = some (.ireturn, 1, 0, 0, 0) from rfl)) (Nat.zero_le _) (Nat.zero_le _) ⟨_, rfl, Is16, Gs16, 0, rfl, (by decide), by first | exact ⟨Or.inl (by decide), hps16.2.1, hps16.2.2⟩ | omega⟩
    ·
      exfalso
      omega
  ·
    refine z_aload_n X (x := A 19) rfl (List.Mem.head _) (s_getR X 19 rfl (c518_ok rfl) rfl rfl (z_const X rfl (z_callV X 1 (rm := rmN 132) (As := [.int (Int32.ofInt 1)]) (st := []) rfl rfl (by decide) rfl (by rw [E.1, E.2.1, E.2.2.1]; exact c10_refuse_1 G Is8 (by first | exact ⟨by decide, by decide⟩ | omega)) ⟨by rw [E.2.2.2]; exact (show 7 + 1 ≤ (12 + (4 * (0))) from oq_e494e03c), by rw [E.2.2.2]; exact (show 8 + (2 + 11) + 122 ≤ (500 + 45 * (4 * (0))) from oq_812388c8), by rw [E.2.2.2]; exact Nat.le_refl 0, by rw [E.2.2.2]; exact Nat.le_refl 0⟩ (Nat.le_of_ble_eq_true rfl) (fun vv s24 hq => ?_) (fun ee s24 hq => ?_))))
    rotate_left
    · obtain ⟨Is24, Fs24, e25, hv, hrs24, hps24⟩ := hq; cases hv
    obtain ⟨Is24, Fs24, e25, hv, hrs24, hps24⟩ := hq
    cases hv
    have Gs24 := fm_tq Gs8 Fs24 rfl rfl
    have ws24_2 : iI s24 2 = iI s8 2 := fm_iq Fs24 rfl
    have ws24_1 : iI s24 1 = iI s8 1 := fm_iq Fs24 rfl
    have ws24_4 : iI s24 4 = iI s8 4 := fm_iq Fs24 rfl
    have ws24_5 : iI s24 5 = iI s8 5 := fm_iq Fs24 rfl
    have ws24_6 : iI s24 6 = iI s8 6 := fm_iq Fs24 rfl
    have ws24_19 : iI s24 19 = iI s8 19 := fm_iq Fs24 rfl
    have ws24_16 : iI s24 16 = iI s8 16 := fm_iq Fs24 rfl
    show WS k 27 [(0, .ref (A 19)), (1, .int (Int32.ofInt x))] [.int (Int32.ofInt e25)] (Wd A dT s24) 0 0
    exact w_iret X.1 q hRt (nar_ret (by first | exact Or.inl (hps24) | omega)) (ax_d X (show cdA 78 27 = some (.ireturn, 1, 0, 0, 0) from rfl)) (Nat.zero_le _) (Nat.zero_le _) ⟨_, rfl, Is24, Gs24, e25, rfl, hrs24, by first | exact ⟨Or.inl (hps24), oq_e7b9ecab ws24_1 ws24_2 hps8.1, oq_e7b9ecab ws24_2 ws24_4 hps8.2⟩ | omega⟩
set_option maxRecDepth 4000 in
theorem c7_twoS (G : GX l s0 D tys a0 dT) (SF : SF0 s0) (GT : TXs0 s0) {r : Nat} (hS : ∀ {s : PS} , Bd s → (iI s 2 ≤ iI s 1) → (iI s 4 ≤ iI s 2) → (6 - iI s 19 ≤ ((r : Nat) : Int)) → CT l s0 D A dT 75 (rkR (4 * (r) + 3)) [.ref (A 19)] s (fun o t => Bd t ∧ Fm [2, 4, 6, 5, 7, 8, 19, 16] [18] s t ∧ ∃ e, o = .inl (some (.int (Int32.ofInt e))) ∧ rng e ∧ ((e = 0 ∨ (e = 1 ∧ iI t 19 = iI s 19)) ∧ iI t 2 ≤ iI t 1 ∧ iI t 4 ≤ iI t 2))) (I : Bd s) {x : Int} (p0 : rng x) (p1 : iI s 2 ≤ iI s 1) (p2 : iI s 4 ≤ iI s 2) (p3 : 6 - iI s 19 ≤ ((r + 1 : Nat) : Int)) : CT l s0 D A dT 78 (rkR (4 * (r + 1))) [.ref (A 19), .int (Int32.ofInt x)] s (fun o t => Bd t ∧ Fm [2, 4, 6, 5, 7, 8, 19, 16] [18] s t ∧ ∃ e, o = .inl (some (.int (Int32.ofInt e))) ∧ rng e ∧ ((e = 0 ∨ (e = 1 ∧ iI t 19 = iI s 19)) ∧ iI t 2 ≤ iI t 1 ∧ iI t 4 ≤ iI t 2)) := by
  refine ct_ofX G (by decide) (Nat.le_of_ble_eq_true rfl) (fun k X E ET hRt hXt q => ?_)
  show WS k 0 [(0, .ref (A 19)), (1, .int (Int32.ofInt x))] [] _ 0 0
  have F : Fm [2, 4, 6, 5, 7, 8, 19, 16] [18] s s := fm_rf _ _ s
  have b1 := bi_2 I
  have b2 := bi_1 I
  have b3 := bi_4 I
  have b4 := bi_5 I
  have b5 := bi_6 I
  have b6 := bi_19 I
  have b7 := bi_16 I
  refine z_aload_n X (x := A 19) rfl (List.Mem.head _) (s_getR X 19 rfl (c518_ok rfl) rfl rfl (z_callV X 1 (rm := rmN 129) (As := []) (st := []) rfl rfl (by decide) rfl (by rw [E.1, E.2.1, E.2.2.1]; exact c10_step_1 G I (by first | exact p1 | omega)) ⟨by rw [E.2.2.2]; exact (show 7 + 1 ≤ (12 + (4 * (r + 1))) from oq_e86a2d6a r), by rw [E.2.2.2]; exact (show 8 + (1 + 11) + 121 ≤ (500 + 45 * (4 * (r + 1))) from oq_9756868e r), by rw [E.2.2.2]; exact Nat.le_refl 0, by rw [E.2.2.2]; exact Nat.le_refl 0⟩ (Nat.le_of_ble_eq_true rfl) (fun vv s8 hq => ?_) (fun ee s8 hq => ?_)))
  rotate_left
  · obtain ⟨Is8, Fs8, hv, hps8⟩ := hq; cases hv
  obtain ⟨Is8, Fs8, hv, hps8⟩ := hq
  cases hv
  have Gs8 := fm_tq F Fs8 rfl rfl
  have b10 := bi_2 Is8
  have ws8_1 : iI s8 1 = iI s 1 := fm_iq Fs8 rfl
  have b11 := bi_4 Is8
  have b12 := bi_5 Is8
  have b13 := bi_6 Is8
  have ws8_19 : iI s8 19 = iI s 19 := fm_iq Fs8 rfl
  have ws8_16 : iI s8 16 = iI s 16 := fm_iq Fs8 rfl
  show WS k 7 [(0, .ref (A 19)), (1, .int (Int32.ofInt x))] [] (Wd A dT s8) 0 0
  refine z_aload_n X (x := A 19) rfl (List.Mem.head _) (s_getR X 19 rfl (c518_ok rfl) rfl rfl (z_getI X 1 rfl (c518_ok rfl) rfl rfl ?_))
  have b14 := bi_5 Is8
  refine z_bipush X rfl (z_icmp_eq X (t := 28) rfl rfl (rng_to _) (by decide) (fun g15 => ?_) (fun g15 => ?_))
  ·
    refine z_aload_n X (x := A 19) rfl (List.Mem.head _) (z_callV X 19 (rm := rmN 80) (As := []) (st := []) rfl rfl (by decide) rfl (by rw [E.1, E.2.1, E.2.2.1]; exact c7_enter_19 G Is8 (by first | exact hps8.1 | omega) (by first | exact hps8.2 | omega)) ⟨by rw [E.2.2.2]; exact (show 8 + 1 ≤ (12 + (4 * (r + 1))) from oq_b3b61940 r), by rw [E.2.2.2]; exact (show 8 + (1 + 11) + 143 ≤ (500 + 45 * (4 * (r + 1))) from oq_5e0a067b r), by rw [E.2.2.2]; exact Nat.le_refl 0, by rw [E.2.2.2]; exact Nat.le_refl 0⟩ (Nat.le_of_ble_eq_true rfl) (fun vv s16 hq => ?_) (fun ee s16 hq => ?_))
    rotate_left
    · obtain ⟨Is16, Fs16, e17, hv, hrs16, hps16⟩ := hq; cases hv
    obtain ⟨Is16, Fs16, e17, hv, hrs16, hps16⟩ := hq
    have hps16p := And.intro hps16.2.1 (hps16.2.2)
    cases hv
    have Gs16 := fm_tq Gs8 Fs16 rfl rfl
    have b18 := bi_2 Is16
    have ws16_1 : iI s16 1 = iI s8 1 := fm_iq Fs16 rfl
    have b19 := bi_4 Is16
    have b20 := bi_5 Is16
    have b21 := bi_6 Is16
    have b22 := bi_19 Is16
    have ws16_16 : iI s16 16 = iI s8 16 := fm_iq Fs16 rfl
    show WS k 32 [(0, .ref (A 19)), (1, .int (Int32.ofInt x))] [.int (Int32.ofInt e17)] (Wd A dT s16) 0 0
    refine z_if_eq X (t := 67) rfl rfl hrs16 (fun g23 => ?_) (fun g23 => ?_)
    ·
      refine z_const X rfl ?_
      exact w_iret X.1 q hRt (nar_ret (by first | exact Or.inl (by decide) | omega)) (ax_d X (show cdA 78 68 = some (.ireturn, 1, 0, 0, 0) from rfl)) (Nat.zero_le _) (Nat.zero_le _) ⟨_, rfl, Is16, Gs16, 0, rfl, (by decide), by first | exact ⟨Or.inl (by decide), hps16.2.1, hps16.2.2⟩ | omega⟩
    ·
      refine z_aload_n X (x := A 19) rfl (List.Mem.head _) (z_callV X 19 (rm := (rkR (4 * (r) + 3))) (As := []) (st := []) rfl rfl (by decide) rfl (by rw [E.1, E.2.1, E.2.2.1]; exact hS Is16 (by first | exact hps16.2.1 | omega) (by first | exact hps16.2.2 | omega) (by first | (clear g23 hps16; omega) | (clear hps16; omega) | omega)) ⟨by rw [E.2.2.2]; exact (show (12 + (4 * (r) + 3)) + 1 ≤ (12 + (4 * (r + 1))) from oq_cba25b15 r), by rw [E.2.2.2]; exact (show 8 + (3 + 11) + (500 + 45 * (4 * (r) + 3)) ≤ (500 + 45 * (4 * (r + 1))) from oq_42f07b36 r), by rw [E.2.2.2]; exact Nat.le_refl 0, by rw [E.2.2.2]; exact Nat.le_refl 0⟩ (Nat.le_of_ble_eq_true rfl) (fun vv s24 hq => ?_) (fun ee s24 hq => ?_))
      rotate_left
      · obtain ⟨Is24, Fs24, e25, hv, hrs24, hps24⟩ := hq; cases hv
      obtain ⟨Is24, Fs24, e25, hv, hrs24, hps24⟩ := hq
      have hps24p := And.intro hps24.2.1 (hps24.2.2)
      cases hv
      have Gs24 := fm_tq Gs16 Fs24 rfl rfl
      have b26 := bi_2 Is24
      have ws24_1 : iI s24 1 = iI s16 1 := fm_iq Fs24 rfl
      have b27 := bi_4 Is24
      have b28 := bi_5 Is24
      have b29 := bi_6 Is24
      have b30 := bi_19 Is24
      have b31 := bi_16 Is24
      show WS k 39 [(0, .ref (A 19)), (1, .int (Int32.ofInt x))] [.int (Int32.ofInt e25)] (Wd A dT s24) 0 0
      refine z_if_eq X (t := 67) rfl rfl hrs24 (fun g32 => ?_) (fun g32 => ?_)
      ·
        refine z_const X rfl ?_
        exact w_iret X.1 q hRt (nar_ret (by first | exact Or.inl (by decide) | omega)) (ax_d X (show cdA 78 68 = some (.ireturn, 1, 0, 0, 0) from rfl)) (Nat.zero_le _) (Nat.zero_le _) ⟨_, rfl, Is24, Gs24, 0, rfl, (by decide), by first | exact ⟨Or.inl (by decide), by first | (clear hps24 g23 hps16; omega) | (clear g23 hps16; omega) | omega, by first | (clear hps24 g23 hps16; omega) | (clear g23 hps16; omega) | omega⟩ | omega⟩
      ·
        refine z_aload_n X (x := A 19) rfl (List.Mem.head _) (z_bipush X rfl (z_callV X 19 (rm := rmN 81) (As := [.int (Int32.ofInt 44)]) (st := []) rfl rfl (by decide) rfl (by rw [E.1, E.2.1, E.2.2.1]; exact c7_pass_19 G Is24 (by first | exact ⟨by decide, by decide⟩ | omega) (by first | (clear g32 hps24 g23 hps16; omega) | (clear hps24 g23 hps16; omega) | omega) (by first | (clear g32 hps24 g23 hps16; omega) | (clear hps24 g23 hps16; omega) | omega)) ⟨by rw [E.2.2.2]; exact (show 8 + 1 ≤ (12 + (4 * (r + 1))) from oq_b3b61940 r), by rw [E.2.2.2]; exact (show 8 + (2 + 11) + 143 ≤ (500 + 45 * (4 * (r + 1))) from oq_035df8d4 r), by rw [E.2.2.2]; exact Nat.le_refl 0, by rw [E.2.2.2]; exact Nat.le_refl 0⟩ (Nat.le_of_ble_eq_true rfl) (fun vv s33 hq => ?_) (fun ee s33 hq => ?_)))
        rotate_left
        · obtain ⟨Is33, Fs33, e34, hv, hrs33, hps33⟩ := hq; cases hv
        obtain ⟨Is33, Fs33, e34, hv, hrs33, hps33⟩ := hq
        have hps33p := And.intro hps33.2.1 (hps33.2.2)
        cases hv
        have Gs33 := fm_tq Gs24 Fs33 rfl rfl
        have b35 := bi_2 Is33
        have ws33_1 : iI s33 1 = iI s24 1 := fm_iq Fs33 rfl
        have b36 := bi_4 Is33
        have b37 := bi_5 Is33
        have b38 := bi_6 Is33
        have ws33_19 : iI s33 19 = iI s24 19 := fm_iq Fs33 rfl
        have ws33_16 : iI s33 16 = iI s24 16 := fm_iq Fs33 rfl
        show WS k 48 [(0, .ref (A 19)), (1, .int (Int32.ofInt x))] [.int (Int32.ofInt e34)] (Wd A dT s33) 0 0
        refine z_if_eq X (t := 67) rfl rfl hrs33 (fun g39 => ?_) (fun g39 => ?_)
        ·
          refine z_const X rfl ?_
          exact w_iret X.1 q hRt (nar_ret (by first | exact Or.inl (by decide) | omega)) (ax_d X (show cdA 78 68 = some (.ireturn, 1, 0, 0, 0) from rfl)) (Nat.zero_le _) (Nat.zero_le _) ⟨_, rfl, Is33, Gs33, 0, rfl, (by decide), by first | exact ⟨Or.inl (by decide), hps33.2.1, hps33.2.2⟩ | omega⟩
        ·
          refine z_aload_n X (x := A 19) rfl (List.Mem.head _) (z_callV X 19 (rm := (rkR (4 * (r) + 3))) (As := []) (st := []) rfl rfl (by decide) rfl (by rw [E.1, E.2.1, E.2.2.1]; exact hS Is33 (by first | exact hps33.2.1 | omega) (by first | exact hps33.2.2 | omega) (by first | (clear g39 hps33 g32 hps24 g23 hps16; omega) | (clear hps33 g32 hps24 g23 hps16; omega) | omega)) ⟨by rw [E.2.2.2]; exact (show (12 + (4 * (r) + 3)) + 1 ≤ (12 + (4 * (r + 1))) from oq_cba25b15 r), by rw [E.2.2.2]; exact (show 8 + (3 + 11) + (500 + 45 * (4 * (r) + 3)) ≤ (500 + 45 * (4 * (r + 1))) from oq_42f07b36 r), by rw [E.2.2.2]; exact Nat.le_refl 0, by rw [E.2.2.2]; exact Nat.le_refl 0⟩ (Nat.le_of_ble_eq_true rfl) (fun vv s40 hq => ?_) (fun ee s40 hq => ?_))
          rotate_left
          · obtain ⟨Is40, Fs40, e41, hv, hrs40, hps40⟩ := hq; cases hv
          obtain ⟨Is40, Fs40, e41, hv, hrs40, hps40⟩ := hq
          have hps40p := And.intro hps40.2.1 (hps40.2.2)
          cases hv
          have Gs40 := fm_tq Gs33 Fs40 rfl rfl
          have b42 := bi_2 Is40
          have ws40_1 : iI s40 1 = iI s33 1 := fm_iq Fs40 rfl
          have b43 := bi_4 Is40
          have b44 := bi_5 Is40
          have b45 := bi_6 Is40
          have b46 := bi_19 Is40
          have b47 := bi_16 Is40
          show WS k 55 [(0, .ref (A 19)), (1, .int (Int32.ofInt x))] [.int (Int32.ofInt e41)] (Wd A dT s40) 0 0
          refine z_if_eq X (t := 67) rfl rfl hrs40 (fun g48 => ?_) (fun g48 => ?_)
          ·
            refine z_const X rfl ?_
            exact w_iret X.1 q hRt (nar_ret (by first | exact Or.inl (by decide) | omega)) (ax_d X (show cdA 78 68 = some (.ireturn, 1, 0, 0, 0) from rfl)) (Nat.zero_le _) (Nat.zero_le _) ⟨_, rfl, Is40, Gs40, 0, rfl, (by decide), by first | exact ⟨Or.inl (by decide), by first | (clear hps40 g39 hps33 g32 hps24 g23 hps16; omega) | (clear g39 hps33 g32 hps24 g23 hps16; omega) | omega, by first | (clear hps40 g39 hps33 g32 hps24 g23 hps16; omega) | (clear g39 hps33 g32 hps24 g23 hps16; omega) | omega⟩ | omega⟩
          ·
            refine z_aload_n X (x := A 19) rfl (List.Mem.head _) (z_bipush X rfl (z_callV X 19 (rm := rmN 81) (As := [.int (Int32.ofInt 41)]) (st := []) rfl rfl (by decide) rfl (by rw [E.1, E.2.1, E.2.2.1]; exact c7_pass_19 G Is40 (by first | exact ⟨by decide, by decide⟩ | omega) (by first | (clear g48 hps40 g39 hps33 g32 hps24 g23 hps16; omega) | (clear hps40 g39 hps33 g32 hps24 g23 hps16; omega) | omega) (by first | (clear g48 hps40 g39 hps33 g32 hps24 g23 hps16; omega) | (clear hps40 g39 hps33 g32 hps24 g23 hps16; omega) | omega)) ⟨by rw [E.2.2.2]; exact (show 8 + 1 ≤ (12 + (4 * (r + 1))) from oq_b3b61940 r), by rw [E.2.2.2]; exact (show 8 + (2 + 11) + 143 ≤ (500 + 45 * (4 * (r + 1))) from oq_035df8d4 r), by rw [E.2.2.2]; exact Nat.le_refl 0, by rw [E.2.2.2]; exact Nat.le_refl 0⟩ (Nat.le_of_ble_eq_true rfl) (fun vv s49 hq => ?_) (fun ee s49 hq => ?_)))
            rotate_left
            · obtain ⟨Is49, Fs49, e50, hv, hrs49, hps49⟩ := hq; cases hv
            obtain ⟨Is49, Fs49, e50, hv, hrs49, hps49⟩ := hq
            have hps49p := And.intro hps49.2.1 (hps49.2.2)
            cases hv
            have Gs49 := fm_tq Gs40 Fs49 rfl rfl
            have b51 := bi_2 Is49
            have ws49_1 : iI s49 1 = iI s40 1 := fm_iq Fs49 rfl
            have b52 := bi_4 Is49
            have b53 := bi_5 Is49
            have b54 := bi_6 Is49
            have ws49_19 : iI s49 19 = iI s40 19 := fm_iq Fs49 rfl
            have ws49_16 : iI s49 16 = iI s40 16 := fm_iq Fs49 rfl
            show WS k 64 [(0, .ref (A 19)), (1, .int (Int32.ofInt x))] [.int (Int32.ofInt e50)] (Wd A dT s49) 0 0
            refine z_if_ne X (t := 69) rfl rfl hrs49 (fun g55 => ?_) (fun g55 => ?_)
            ·
              refine z_aload_n X (x := A 19) rfl (List.Mem.head _) (w_dup X.1 (ax_d X (show cdA 78 70 = some (.dup, 1, 0, 0, 0) from rfl)) rfl (z_getI X 19 rfl (c518_ok rfl) rfl rfl ?_))
              have b56 := bi_19 Is49
              refine z_const X rfl (z_sub X rfl (s_putI X 19 rfl (c518_ok rfl) rfl rfl (by decide) rfl rfl rfl (wd_gen (fun s57 hs57 => ?_))))
              have Is57 : Bd s57 := eqB hs57 (bd_I Is49 (show (0 : Int) ≤ ((iI s49 19) - 1) ∧ ((iI s49 19) - 1) ≤ 6 by first | exact ⟨by first | (clear g55 hps49 g48 hps40 g39 hps33 g32 hps24 g23 hps16; omega) | (clear hps49 g48 hps40 g39 hps33 g32 hps24 g23 hps16; omega) | omega, oq_a9606c0d b56.2⟩ | omega) ⟨by first | exact oq_c1e961c7 b56.1 | omega, by first | exact oq_b383b26c b56.2 | omega⟩)
              have Fs57 := eqF hs57 (fm_I Gs49 (inl_ok (a := 19) rfl))
              have vs57 : iI s57 19 = ((iI s49 19) - 1) := eqI hs57 (iI_u ⟨by first | exact oq_c1e961c7 b56.1 | omega, by first | exact oq_b383b26c b56.2 | omega⟩)
              have ws57_2 : iI s57 2 = iI s49 2 := eqI hs57 rfl
              have ws57_1 : iI s57 1 = iI s49 1 := eqI hs57 rfl
              have ws57_4 : iI s57 4 = iI s49 4 := eqI hs57 rfl
              have ws57_5 : iI s57 5 = iI s49 5 := eqI hs57 rfl
              have ws57_6 : iI s57 6 = iI s49 6 := eqI hs57 rfl
              have ws57_16 : iI s57 16 = iI s49 16 := eqI hs57 rfl
              refine z_aload_n X (x := A 19) rfl (List.Mem.head _) (z_load_n X (x := x) rfl (List.Mem.tail _ (List.Mem.head _)) (z_callV X 19 (rm := rmN 82) (As := [.int (Int32.ofInt x)]) (st := []) rfl rfl (by decide) rfl (by rw [E.1, E.2.1, E.2.2.1]; exact c7_put_19 G Is57 (by first | exact ⟨p0.1, p0.2⟩ | omega)) ⟨by rw [E.2.2.2]; exact (show 6 + 1 ≤ (12 + (4 * (r + 1))) from oq_c97dc902 r), by rw [E.2.2.2]; exact (show 8 + (2 + 11) + 100 ≤ (500 + 45 * (4 * (r + 1))) from oq_b200f69d r), by rw [E.2.2.2]; exact Nat.le_refl 0, by rw [E.2.2.2]; exact Nat.le_refl 0⟩ (Nat.le_of_ble_eq_true rfl) (fun vv s58 hq => ?_) (fun ee s58 hq => ?_)))
              rotate_left
              · obtain ⟨Is58, Fs58, hv, hps58⟩ := hq; cases hv
              obtain ⟨Is58, Fs58, hv, hps58⟩ := hq
              cases hv
              have Gs58 := fm_tq Fs57 Fs58 rfl rfl
              have ws58_2 : iI s58 2 = iI s57 2 := fm_iq Fs58 rfl
              have ws58_1 : iI s58 1 = iI s57 1 := fm_iq Fs58 rfl
              have ws58_4 : iI s58 4 = iI s57 4 := fm_iq Fs58 rfl
              have ws58_5 : iI s58 5 = iI s57 5 := fm_iq Fs58 rfl
              have ws58_6 : iI s58 6 = iI s57 6 := fm_iq Fs58 rfl
              have ws58_19 : iI s58 19 = iI s57 19 := fm_iq Fs58 rfl
              have b60 := bi_16 Is58
              show WS k 84 [(0, .ref (A 19)), (1, .int (Int32.ofInt x))] [] (Wd A dT s58) 0 0
              refine z_const X rfl ?_
              exact w_iret X.1 q hRt (nar_ret (by first | exact Or.inr (by decide) | omega)) (ax_d X (show cdA 78 85 = some (.ireturn, 1, 0, 0, 0) from rfl)) (Nat.zero_le _) (Nat.zero_le _) ⟨_, rfl, Is58, Gs58, 1, rfl, (by decide), by first | exact ⟨by first | (clear g55 hps49 g48 hps40 g39 hps33 g32 hps24 g23 hps16; omega) | (clear hps49 g48 hps40 g39 hps33 g32 hps24 g23 hps16; omega) | omega, oq_4407eb3c ws58_1 ws58_2 ws57_1 ws57_2 hps49.2.1, oq_4407eb3c ws58_2 ws58_4 ws57_2 ws57_4 hps49.2.2⟩ | omega⟩
            ·
              refine z_const X rfl ?_
              exact w_iret X.1 q hRt (nar_ret (by first | exact Or.inl (by decide) | omega)) (ax_d X (show cdA 78 68 = some (.ireturn, 1, 0, 0, 0) from rfl)) (Nat.zero_le _) (Nat.zero_le _) ⟨_, rfl, Is49, Gs49, 0, rfl, (by decide), by first | exact ⟨Or.inl (by decide), hps49.2.1, hps49.2.2⟩ | omega⟩
  ·
    refine z_aload_n X (x := A 19) rfl (List.Mem.head _) (s_getR X 19 rfl (c518_ok rfl) rfl rfl (z_const X rfl (z_callV X 1 (rm := rmN 132) (As := [.int (Int32.ofInt 1)]) (st := []) rfl rfl (by decide) rfl (by rw [E.1, E.2.1, E.2.2.1]; exact c10_refuse_1 G Is8 (by first | exact ⟨by decide, by decide⟩ | omega)) ⟨by rw [E.2.2.2]; exact (show 7 + 1 ≤ (12 + (4 * (r + 1))) from oq_e86a2d6a r), by rw [E.2.2.2]; exact (show 8 + (2 + 11) + 122 ≤ (500 + 45 * (4 * (r + 1))) from oq_8aa95fcd r), by rw [E.2.2.2]; exact Nat.le_refl 0, by rw [E.2.2.2]; exact Nat.le_refl 0⟩ (Nat.le_of_ble_eq_true rfl) (fun vv s61 hq => ?_) (fun ee s61 hq => ?_))))
    rotate_left
    · obtain ⟨Is61, Fs61, e62, hv, hrs61, hps61⟩ := hq; cases hv
    obtain ⟨Is61, Fs61, e62, hv, hrs61, hps61⟩ := hq
    cases hv
    have Gs61 := fm_tq Gs8 Fs61 rfl rfl
    have ws61_2 : iI s61 2 = iI s8 2 := fm_iq Fs61 rfl
    have ws61_1 : iI s61 1 = iI s8 1 := fm_iq Fs61 rfl
    have ws61_4 : iI s61 4 = iI s8 4 := fm_iq Fs61 rfl
    have ws61_5 : iI s61 5 = iI s8 5 := fm_iq Fs61 rfl
    have ws61_6 : iI s61 6 = iI s8 6 := fm_iq Fs61 rfl
    have ws61_19 : iI s61 19 = iI s8 19 := fm_iq Fs61 rfl
    have ws61_16 : iI s61 16 = iI s8 16 := fm_iq Fs61 rfl
    show WS k 27 [(0, .ref (A 19)), (1, .int (Int32.ofInt x))] [.int (Int32.ofInt e62)] (Wd A dT s61) 0 0
    exact w_iret X.1 q hRt (nar_ret (by first | exact Or.inl (hps61) | omega)) (ax_d X (show cdA 78 27 = some (.ireturn, 1, 0, 0, 0) from rfl)) (Nat.zero_le _) (Nat.zero_le _) ⟨_, rfl, Is61, Gs61, e62, rfl, hrs61, by first | exact ⟨Or.inl (hps61), oq_e7b9ecab ws61_1 ws61_2 hps8.1, oq_e7b9ecab ws61_2 ws61_4 hps8.2⟩ | omega⟩
set_option maxRecDepth 4000 in
theorem c7_unit0 (G : GX l s0 D tys a0 dT) (SF : SF0 s0) (GT : TXs0 s0) (hT : ∀ {s : PS} {x : Int}, Bd s → (rng x) → (iI s 2 ≤ iI s 1) → (iI s 4 ≤ iI s 2) → (6 - iI s 19 ≤ ((0 : Nat) : Int)) → CT l s0 D A dT 78 (rkR (4 * (0))) [.ref (A 19), .int (Int32.ofInt x)] s (fun o t => Bd t ∧ Fm [2, 4, 6, 5, 7, 8, 19, 16] [18] s t ∧ ∃ e, o = .inl (some (.int (Int32.ofInt e))) ∧ rng e ∧ ((e = 0 ∨ (e = 1 ∧ iI t 19 = iI s 19)) ∧ iI t 2 ≤ iI t 1 ∧ iI t 4 ≤ iI t 2))) (I : Bd s) (p0 : iI s 2 ≤ iI s 1) (p1 : iI s 4 ≤ iI s 2) (p2 : 6 - iI s 19 ≤ ((0 : Nat) : Int)) : CT l s0 D A dT 77 (rkR (4 * (0) + 1)) [.ref (A 19)] s (fun o t => Bd t ∧ Fm [2, 4, 6, 5, 7, 8, 19, 16] [18] s t ∧ ∃ e, o = .inl (some (.int (Int32.ofInt e))) ∧ rng e ∧ ((e = 0 ∨ (e = 1 ∧ iI t 19 = iI s 19)) ∧ iI t 2 ≤ iI t 1 ∧ iI t 4 ≤ iI t 2)) := by
  refine ct_ofX G (by decide) (Nat.le_of_ble_eq_true rfl) (fun k X E ET hRt hXt q => ?_)
  show WS k 0 [(0, .ref (A 19))] [] _ 0 0
  have F : Fm [2, 4, 6, 5, 7, 8, 19, 16] [18] s s := fm_rf _ _ s
  have b1 := bi_2 I
  have b2 := bi_1 I
  have b3 := bi_4 I
  have b4 := bi_5 I
  have b5 := bi_6 I
  have b6 := bi_19 I
  have b7 := bi_16 I
  refine z_aload_n X (x := A 19) rfl (List.Mem.head _) (s_getR X 19 rfl (c518_ok rfl) rfl rfl (z_getI X 1 rfl (c518_ok rfl) rfl rfl ?_))
  have b8 := bi_5 I
  refine z_bipush X rfl (z_icmp_ne X (t := 54) rfl rfl (rng_to _) (by decide) (fun g9 => ?_) (fun g9 => ?_))
  ·
    refine z_aload_n X (x := A 19) rfl (List.Mem.head _) (s_getR X 19 rfl (c518_ok rfl) rfl rfl (z_getI X 1 rfl (c518_ok rfl) rfl rfl ?_))
    have b10 := bi_5 I
    refine z_bipush X rfl (z_icmp_ne X (t := 103) rfl rfl (rng_to _) (by decide) (fun g11 => ?_) (fun g11 => ?_))
    ·
      refine z_aload_n X (x := A 19) rfl (List.Mem.head _) (s_getR X 19 rfl (c518_ok rfl) rfl rfl ?_)
      obtain ⟨tx125, q125, hR125, hS125⟩ := GT (125, 5) (by decide)
      refine w_ldcK X (show vk_R (kOwn k) 125 tx125 q125 (kS0 k) by rw [E.2.1, X.2.1.2.1]; exact hR125) (show decode (kCc k) 107 = .ok (.ldc 125, 2) by rw [X.2.1.1]; decide +kernel) (z_callV X 1 (rm := rmN 131) (As := [.ref q125]) (st := []) rfl rfl (by decide) rfl (by rw [E.1, E.2.1, E.2.2.1]; exact c10_says G SF hS125 I (by first | exact p1 | omega)) ⟨by rw [E.2.2.2]; exact (show 11 + 1 ≤ (12 + (4 * (0) + 1)) from oq_598d2d56), by rw [E.2.2.2]; exact (show 8 + (3 + 11) + 206 ≤ (500 + 45 * (4 * (0) + 1)) from oq_8d6a3487), by rw [E.2.2.2]; exact Nat.le_refl 0, by rw [E.2.2.2]; exact Nat.le_refl 0⟩ (Nat.le_of_ble_eq_true rfl) (fun vv s12 hq => ?_) (fun ee s12 hq => ?_))
      rotate_left
      · obtain ⟨Is12, Fs12, e13, hv, hrs12, hps12⟩ := hq; cases hv
      obtain ⟨Is12, Fs12, e13, hv, hrs12, hps12⟩ := hq
      cases hv
      have Gs12 := fm_tq F Fs12 rfl rfl
      have ws12_2 : iI s12 2 = iI s 2 := fm_iq Fs12 rfl
      have ws12_1 : iI s12 1 = iI s 1 := fm_iq Fs12 rfl
      have ws12_4 : iI s12 4 = iI s 4 := fm_iq Fs12 rfl
      have ws12_5 : iI s12 5 = iI s 5 := fm_iq Fs12 rfl
      have ws12_6 : iI s12 6 = iI s 6 := fm_iq Fs12 rfl
      have ws12_19 : iI s12 19 = iI s 19 := fm_iq Fs12 rfl
      have ws12_16 : iI s12 16 = iI s 16 := fm_iq Fs12 rfl
      show WS k 112 [(0, .ref (A 19))] [.int (Int32.ofInt e13)] (Wd A dT s12) 0 0
      refine z_if_ne X (t := 127) rfl rfl hrs12 (fun g14 => ?_) (fun g14 => ?_)
      ·
        refine z_aload_n X (x := A 19) rfl (List.Mem.head _) (z_aload_n X (x := A 19) rfl (List.Mem.head _) (s_getR X 19 rfl (c518_ok rfl) rfl rfl ?_))
        obtain ⟨tx125, q125, hR125, hS125⟩ := GT (125, 5) (by decide)
        refine w_ldcK X (show vk_R (kOwn k) 125 tx125 q125 (kS0 k) by rw [E.2.1, X.2.1.2.1]; exact hR125) (show decode (kCc k) 132 = .ok (.ldc 125, 2) by rw [X.2.1.1]; decide +kernel) (z_callV X 1 (rm := rmN 131) (As := [.ref q125]) (st := [.ref (A 19)]) rfl rfl (by decide) rfl (by rw [E.1, E.2.1, E.2.2.1]; exact c10_says G SF hS125 Is12 (by first | exact oq_e7b9ecab ws12_2 ws12_4 p1 | omega)) ⟨by rw [E.2.2.2]; exact (show 11 + 1 ≤ (12 + (4 * (0) + 1)) from oq_598d2d56), by rw [E.2.2.2]; exact (show 8 + (3 + 11) + 206 ≤ (500 + 45 * (4 * (0) + 1)) from oq_8d6a3487), by rw [E.2.2.2]; exact Nat.le_refl 0, by rw [E.2.2.2]; exact Nat.le_refl 0⟩ (Nat.le_of_ble_eq_true rfl) (fun vv s15 hq => ?_) (fun ee s15 hq => ?_))
        rotate_left
        · obtain ⟨Is15, Fs15, e16, hv, hrs15, hps15⟩ := hq; cases hv
        obtain ⟨Is15, Fs15, e16, hv, hrs15, hps15⟩ := hq
        cases hv
        have Gs15 := fm_tq Gs12 Fs15 rfl rfl
        have ws15_2 : iI s15 2 = iI s12 2 := fm_iq Fs15 rfl
        have ws15_1 : iI s15 1 = iI s12 1 := fm_iq Fs15 rfl
        have ws15_4 : iI s15 4 = iI s12 4 := fm_iq Fs15 rfl
        have ws15_5 : iI s15 5 = iI s12 5 := fm_iq Fs15 rfl
        have ws15_6 : iI s15 6 = iI s12 6 := fm_iq Fs15 rfl
        have ws15_19 : iI s15 19 = iI s12 19 := fm_iq Fs15 rfl
        have ws15_16 : iI s15 16 = iI s12 16 := fm_iq Fs15 rfl
        show WS k 137 [(0, .ref (A 19))] [.int (Int32.ofInt e16), .ref (A 19)] (Wd A dT s15) 0 0
        have N17 : ∀ e18 : Int, (((e16 = 0) ∧ e18 = (-14)) ∨ ((e16 ≠ 0) ∧ e18 = (-13))) → WS k 147 [(0, .ref (A 19))] [.int (Int32.ofInt e18), .ref (A 19)] (Wd A dT s15) 0 0 := by
          intro e18 he18
          have re18 : (-14) ≤ e18 ∧ e18 ≤ (-13) := by first | (clear he18 hps15 g14 hps12 g11 g9; omega) | (clear hps15 g14 hps12 g11 g9; omega) | omega
          refine z_callV X 19 (rm := (rkR (4 * (0)))) (As := [.int (Int32.ofInt e18)]) (st := []) rfl rfl (by decide) rfl (by rw [E.1, E.2.1, E.2.2.1]; exact hT Is15 (by first | (clear he18 hps15 g14 hps12 g11 g9; omega) | (clear hps15 g14 hps12 g11 g9; omega) | omega) (by first | exact oq_4407eb3c ws15_1 ws15_2 ws12_1 ws12_2 p0 | omega) (by first | exact oq_4407eb3c ws15_2 ws15_4 ws12_2 ws12_4 p1 | omega) (by first | exact oq_064f000d ws15_19 ws12_19 p2 | omega)) ⟨by rw [E.2.2.2]; exact (show (12 + (4 * (0))) + 1 ≤ (12 + (4 * (0) + 1)) from oq_46bc030d), by rw [E.2.2.2]; exact (show 8 + (2 + 11) + (500 + 45 * (4 * (0))) ≤ (500 + 45 * (4 * (0) + 1)) from oq_1283f125), by rw [E.2.2.2]; exact Nat.le_refl 0, by rw [E.2.2.2]; exact Nat.le_refl 0⟩ (Nat.le_of_ble_eq_true rfl) (fun vv s19 hq => ?_) (fun ee s19 hq => ?_)
          rotate_left
          · obtain ⟨Is19, Fs19, e20, hv, hrs19, hps19⟩ := hq; cases hv
          obtain ⟨Is19, Fs19, e20, hv, hrs19, hps19⟩ := hq
          have hps19p := And.intro hps19.2.1 (hps19.2.2)
          cases hv
          have Gs19 := fm_tq Gs15 Fs19 rfl rfl
          have b21 := bi_2 Is19
          have ws19_1 : iI s19 1 = iI s15 1 := fm_iq Fs19 rfl
          have b22 := bi_4 Is19
          have b23 := bi_5 Is19
          have b24 := bi_6 Is19
          have b25 := bi_19 Is19
          have b26 := bi_16 Is19
          show WS k 150 [(0, .ref (A 19))] [.int (Int32.ofInt e20)] (Wd A dT s19) 0 0
          exact w_iret X.1 q hRt (nar_ret (by first | (clear hps19 he18 hps15 g14 hps12 g11 g9; omega) | (clear he18 hps15 g14 hps12 g11 g9; omega) | omega)) (ax_d X (show cdA 77 150 = some (.ireturn, 1, 0, 0, 0) from rfl)) (Nat.zero_le _) (Nat.zero_le _) ⟨_, rfl, Is19, Gs19, e20, rfl, hrs19, by first | (clear hps19 he18 hps15 g14 hps12 g11 g9; omega) | (clear he18 hps15 g14 hps12 g11 g9; omega) | omega⟩
        refine z_if_eq X (t := 145) rfl rfl hrs15 (fun g27 => ?_) (fun g27 => ?_)
        ·
          exact z_bipush X rfl (N17 _ (Or.inl ⟨g27, rfl⟩))
        ·
          exact z_bipush X rfl (z_goto X (t := 147) rfl rfl (N17 _ (Or.inr (⟨g27, rfl⟩))))
      ·
        refine z_aload_n X (x := A 19) rfl (List.Mem.head _) (s_getR X 19 rfl (c518_ok rfl) rfl rfl ?_)
        obtain ⟨tx127, q127, hR127, hS127⟩ := GT (127, 4) (by decide)
        refine w_ldcK X (show vk_R (kOwn k) 127 tx127 q127 (kS0 k) by rw [E.2.1, X.2.1.2.1]; exact hR127) (show decode (kCc k) 119 = .ok (.ldc 127, 2) by rw [X.2.1.1]; decide +kernel) (z_callV X 1 (rm := rmN 131) (As := [.ref q127]) (st := []) rfl rfl (by decide) rfl (by rw [E.1, E.2.1, E.2.2.1]; exact c10_says G SF hS127 Is12 (by first | exact oq_e7b9ecab ws12_2 ws12_4 p1 | omega)) ⟨by rw [E.2.2.2]; exact (show 11 + 1 ≤ (12 + (4 * (0) + 1)) from oq_598d2d56), by rw [E.2.2.2]; exact (show 8 + (3 + 11) + 206 ≤ (500 + 45 * (4 * (0) + 1)) from oq_8d6a3487), by rw [E.2.2.2]; exact Nat.le_refl 0, by rw [E.2.2.2]; exact Nat.le_refl 0⟩ (Nat.le_of_ble_eq_true rfl) (fun vv s28 hq => ?_) (fun ee s28 hq => ?_))
        rotate_left
        · obtain ⟨Is28, Fs28, e29, hv, hrs28, hps28⟩ := hq; cases hv
        obtain ⟨Is28, Fs28, e29, hv, hrs28, hps28⟩ := hq
        cases hv
        have Gs28 := fm_tq Gs12 Fs28 rfl rfl
        have ws28_2 : iI s28 2 = iI s12 2 := fm_iq Fs28 rfl
        have ws28_1 : iI s28 1 = iI s12 1 := fm_iq Fs28 rfl
        have ws28_4 : iI s28 4 = iI s12 4 := fm_iq Fs28 rfl
        have ws28_5 : iI s28 5 = iI s12 5 := fm_iq Fs28 rfl
        have ws28_6 : iI s28 6 = iI s12 6 := fm_iq Fs28 rfl
        have ws28_19 : iI s28 19 = iI s12 19 := fm_iq Fs28 rfl
        have ws28_16 : iI s28 16 = iI s12 16 := fm_iq Fs28 rfl
        show WS k 124 [(0, .ref (A 19))] [.int (Int32.ofInt e29)] (Wd A dT s28) 0 0
        refine z_if_eq X (t := 151) rfl rfl hrs28 (fun g30 => ?_) (fun g30 => ?_)
        ·
          refine z_aload_n X (x := A 19) rfl (List.Mem.head _) (z_callV X 19 (rm := rmN 79) (As := []) (st := []) rfl rfl (by decide) rfl (by rw [E.1, E.2.1, E.2.2.1]; exact c7_codeOfName_19 G SF GT Is28 (by first | exact oq_4407eb3c ws28_1 ws28_2 ws12_1 ws12_2 p0 | omega) (by first | exact oq_4407eb3c ws28_2 ws28_4 ws12_2 ws12_4 p1 | omega)) ⟨by rw [E.2.2.2]; exact (show 12 + 1 ≤ (12 + (4 * (0) + 1)) from oq_0306f201), by rw [E.2.2.2]; exact (show 8 + (1 + 11) + 228 ≤ (500 + 45 * (4 * (0) + 1)) from oq_d926b11d), by rw [E.2.2.2]; exact Nat.le_refl 0, by rw [E.2.2.2]; exact Nat.le_refl 0⟩ (Nat.le_of_ble_eq_true rfl) (fun vv s31 hq => ?_) (fun ee s31 hq => ?_))
          rotate_left
          · obtain ⟨Is31, Fs31, e32, hv, hrs31, hps31⟩ := hq; cases hv
          obtain ⟨Is31, Fs31, e32, hv, hrs31, hps31⟩ := hq
          cases hv
          have Gs31 := fm_tq Gs28 Fs31 rfl rfl
          have ws31_2 : iI s31 2 = iI s28 2 := fm_iq Fs31 rfl
          have ws31_1 : iI s31 1 = iI s28 1 := fm_iq Fs31 rfl
          have ws31_4 : iI s31 4 = iI s28 4 := fm_iq Fs31 rfl
          have ws31_5 : iI s31 5 = iI s28 5 := fm_iq Fs31 rfl
          have ws31_6 : iI s31 6 = iI s28 6 := fm_iq Fs31 rfl
          have ws31_19 : iI s31 19 = iI s28 19 := fm_iq Fs31 rfl
          have ws31_16 : iI s31 16 = iI s28 16 := fm_iq Fs31 rfl
          show WS k 155 [(0, .ref (A 19))] [.int (Int32.ofInt e32)] (Wd A dT s31) 0 0
          refine z_store_n X (lv' := [(1, .int (Int32.ofInt e32)), (0, .ref (A 19))]) rfl (by decide) (fun _ h => h) (z_load_n X (x := e32) rfl (List.Mem.head _) (z_bipush X rfl (z_icmp_ne X (t := 171) rfl rfl hrs31 (by decide) (fun g33 => ?_) (fun g33 => ?_))))
          ·
            refine z_aload_n X (x := A 19) rfl (List.Mem.tail _ (List.Mem.head _)) (z_load_n X (x := e32) rfl (List.Mem.head _) (z_callV X 19 (rm := rmN 82) (As := [.int (Int32.ofInt e32)]) (st := []) rfl rfl (by decide) rfl (by rw [E.1, E.2.1, E.2.2.1]; exact c7_put_19 G Is31 (by first | exact ⟨oq_e12b0ae3 hps31.1, oq_80ebb04a hps31.2⟩ | omega)) ⟨by rw [E.2.2.2]; exact (show 6 + 1 ≤ (12 + (4 * (0) + 1)) from oq_57ddffaa), by rw [E.2.2.2]; exact (show 8 + (2 + 11) + 100 ≤ (500 + 45 * (4 * (0) + 1)) from oq_9971bdcd), by rw [E.2.2.2]; exact Nat.le_refl 0, by rw [E.2.2.2]; exact Nat.le_refl 0⟩ (Nat.le_of_ble_eq_true rfl) (fun vv s34 hq => ?_) (fun ee s34 hq => ?_)))
            rotate_left
            · obtain ⟨Is34, Fs34, hv, hps34⟩ := hq; cases hv
            obtain ⟨Is34, Fs34, hv, hps34⟩ := hq
            cases hv
            have Gs34 := fm_tq Gs31 Fs34 rfl rfl
            have ws34_2 : iI s34 2 = iI s31 2 := fm_iq Fs34 rfl
            have ws34_1 : iI s34 1 = iI s31 1 := fm_iq Fs34 rfl
            have ws34_4 : iI s34 4 = iI s31 4 := fm_iq Fs34 rfl
            have ws34_5 : iI s34 5 = iI s31 5 := fm_iq Fs34 rfl
            have ws34_6 : iI s34 6 = iI s31 6 := fm_iq Fs34 rfl
            have ws34_19 : iI s34 19 = iI s31 19 := fm_iq Fs34 rfl
            have b36 := bi_16 Is34
            show WS k 176 [(1, .int (Int32.ofInt e32)), (0, .ref (A 19))] [] (Wd A dT s34) 0 0
            refine z_aload_n X (x := A 19) rfl (List.Mem.tail _ (List.Mem.head _)) (s_getR X 19 rfl (c518_ok rfl) rfl rfl (z_callV X 1 (rm := rmN 129) (As := []) (st := []) rfl rfl (by decide) rfl (by rw [E.1, E.2.1, E.2.2.1]; exact c10_step_1 G Is34 (by first | exact oq_25674cec ws34_1 ws34_2 ws31_1 ws31_2 ws28_1 ws28_2 ws12_1 ws12_2 p0 | omega)) ⟨by rw [E.2.2.2]; exact (show 7 + 1 ≤ (12 + (4 * (0) + 1)) from oq_547cef8b), by rw [E.2.2.2]; exact (show 8 + (1 + 11) + 121 ≤ (500 + 45 * (4 * (0) + 1)) from oq_0392e5c6), by rw [E.2.2.2]; exact Nat.le_refl 0, by rw [E.2.2.2]; exact Nat.le_refl 0⟩ (Nat.le_of_ble_eq_true rfl) (fun vv s37 hq => ?_) (fun ee s37 hq => ?_)))
            rotate_left
            · obtain ⟨Is37, Fs37, hv, hps37⟩ := hq; cases hv
            obtain ⟨Is37, Fs37, hv, hps37⟩ := hq
            cases hv
            have Gs37 := fm_tq Gs34 Fs37 rfl rfl
            have b39 := bi_2 Is37
            have ws37_1 : iI s37 1 = iI s34 1 := fm_iq Fs37 rfl
            have b40 := bi_4 Is37
            have b41 := bi_5 Is37
            have b42 := bi_6 Is37
            have ws37_19 : iI s37 19 = iI s34 19 := fm_iq Fs37 rfl
            have ws37_16 : iI s37 16 = iI s34 16 := fm_iq Fs37 rfl
            show WS k 183 [(1, .int (Int32.ofInt e32)), (0, .ref (A 19))] [] (Wd A dT s37) 0 0
            refine z_const X rfl ?_
            exact w_iret X.1 q hRt (nar_ret (by first | exact Or.inr (by decide) | omega)) (ax_d X (show cdA 77 184 = some (.ireturn, 1, 0, 0, 0) from rfl)) (Nat.zero_le _) (Nat.zero_le _) ⟨_, rfl, Is37, Gs37, 1, rfl, (by decide), by first | exact ⟨Or.inr (And.intro (by decide) (oq_469c7eaf ws37_19 ws34_19 ws31_19 ws28_19 ws12_19)), hps37.1, hps37.2⟩ | omega⟩
          ·
            refine z_aload_n X (x := A 19) rfl (List.Mem.tail _ (List.Mem.head _)) (s_getR X 19 rfl (c518_ok rfl) rfl rfl (z_const X rfl (z_callV X 1 (rm := rmN 132) (As := [.int (Int32.ofInt 1)]) (st := []) rfl rfl (by decide) rfl (by rw [E.1, E.2.1, E.2.2.1]; exact c10_refuse_1 G Is31 (by first | exact ⟨by decide, by decide⟩ | omega)) ⟨by rw [E.2.2.2]; exact (show 7 + 1 ≤ (12 + (4 * (0) + 1)) from oq_547cef8b), by rw [E.2.2.2]; exact (show 8 + (2 + 11) + 122 ≤ (500 + 45 * (4 * (0) + 1)) from oq_06c7c12d), by rw [E.2.2.2]; exact Nat.le_refl 0, by rw [E.2.2.2]; exact Nat.le_refl 0⟩ (Nat.le_of_ble_eq_true rfl) (fun vv s43 hq => ?_) (fun ee s43 hq => ?_))))
            rotate_left
            · obtain ⟨Is43, Fs43, e44, hv, hrs43, hps43⟩ := hq; cases hv
            obtain ⟨Is43, Fs43, e44, hv, hrs43, hps43⟩ := hq
            cases hv
            have Gs43 := fm_tq Gs31 Fs43 rfl rfl
            have ws43_2 : iI s43 2 = iI s31 2 := fm_iq Fs43 rfl
            have ws43_1 : iI s43 1 = iI s31 1 := fm_iq Fs43 rfl
            have ws43_4 : iI s43 4 = iI s31 4 := fm_iq Fs43 rfl
            have ws43_5 : iI s43 5 = iI s31 5 := fm_iq Fs43 rfl
            have ws43_6 : iI s43 6 = iI s31 6 := fm_iq Fs43 rfl
            have ws43_19 : iI s43 19 = iI s31 19 := fm_iq Fs43 rfl
            have ws43_16 : iI s43 16 = iI s31 16 := fm_iq Fs43 rfl
            show WS k 170 [(1, .int (Int32.ofInt e32)), (0, .ref (A 19))] [.int (Int32.ofInt e44)] (Wd A dT s43) 0 0
            exact w_iret X.1 q hRt (nar_ret (by first | exact Or.inl (hps43) | omega)) (ax_d X (show cdA 77 170 = some (.ireturn, 1, 0, 0, 0) from rfl)) (Nat.zero_le _) (Nat.zero_le _) ⟨_, rfl, Is43, Gs43, e44, rfl, hrs43, by first | exact ⟨Or.inl (hps43), oq_25674cec ws43_1 ws43_2 ws31_1 ws31_2 ws28_1 ws28_2 ws12_1 ws12_2 p0, oq_969cff60 ws43_4 ws43_2 ws31_4 ws31_2 ws28_4 ws28_2 ws12_4 ws12_2 p1⟩ | omega⟩
        ·
          refine z_aload_n X (x := A 19) rfl (List.Mem.head _) (z_aload_n X (x := A 19) rfl (List.Mem.head _) (s_getR X 19 rfl (c518_ok rfl) rfl rfl ?_))
          obtain ⟨tx125, q125, hR125, hS125⟩ := GT (125, 5) (by decide)
          refine w_ldcK X (show vk_R (kOwn k) 125 tx125 q125 (kS0 k) by rw [E.2.1, X.2.1.2.1]; exact hR125) (show decode (kCc k) 132 = .ok (.ldc 125, 2) by rw [X.2.1.1]; decide +kernel) (z_callV X 1 (rm := rmN 131) (As := [.ref q125]) (st := [.ref (A 19)]) rfl rfl (by decide) rfl (by rw [E.1, E.2.1, E.2.2.1]; exact c10_says G SF hS125 Is28 (by first | exact oq_4407eb3c ws28_2 ws28_4 ws12_2 ws12_4 p1 | omega)) ⟨by rw [E.2.2.2]; exact (show 11 + 1 ≤ (12 + (4 * (0) + 1)) from oq_598d2d56), by rw [E.2.2.2]; exact (show 8 + (3 + 11) + 206 ≤ (500 + 45 * (4 * (0) + 1)) from oq_8d6a3487), by rw [E.2.2.2]; exact Nat.le_refl 0, by rw [E.2.2.2]; exact Nat.le_refl 0⟩ (Nat.le_of_ble_eq_true rfl) (fun vv s45 hq => ?_) (fun ee s45 hq => ?_))
          rotate_left
          · obtain ⟨Is45, Fs45, e46, hv, hrs45, hps45⟩ := hq; cases hv
          obtain ⟨Is45, Fs45, e46, hv, hrs45, hps45⟩ := hq
          cases hv
          have Gs45 := fm_tq Gs28 Fs45 rfl rfl
          have ws45_2 : iI s45 2 = iI s28 2 := fm_iq Fs45 rfl
          have ws45_1 : iI s45 1 = iI s28 1 := fm_iq Fs45 rfl
          have ws45_4 : iI s45 4 = iI s28 4 := fm_iq Fs45 rfl
          have ws45_5 : iI s45 5 = iI s28 5 := fm_iq Fs45 rfl
          have ws45_6 : iI s45 6 = iI s28 6 := fm_iq Fs45 rfl
          have ws45_19 : iI s45 19 = iI s28 19 := fm_iq Fs45 rfl
          have ws45_16 : iI s45 16 = iI s28 16 := fm_iq Fs45 rfl
          show WS k 137 [(0, .ref (A 19))] [.int (Int32.ofInt e46), .ref (A 19)] (Wd A dT s45) 0 0
          have N47 : ∀ e48 : Int, (((e46 = 0) ∧ e48 = (-14)) ∨ ((e46 ≠ 0) ∧ e48 = (-13))) → WS k 147 [(0, .ref (A 19))] [.int (Int32.ofInt e48), .ref (A 19)] (Wd A dT s45) 0 0 := by
            intro e48 he48
            have re48 : (-14) ≤ e48 ∧ e48 ≤ (-13) := by first | (clear he48 hps45 g30 hps28 hps12 g11 g9; omega) | (clear hps45 g30 hps28 hps12 g11 g9; omega) | omega
            refine z_callV X 19 (rm := (rkR (4 * (0)))) (As := [.int (Int32.ofInt e48)]) (st := []) rfl rfl (by decide) rfl (by rw [E.1, E.2.1, E.2.2.1]; exact hT Is45 (by first | (clear he48 hps45 g30 hps28 hps12 g11 g9; omega) | (clear hps45 g30 hps28 hps12 g11 g9; omega) | omega) (by first | exact oq_72ebe5a4 ws45_1 ws45_2 ws28_1 ws28_2 ws12_1 ws12_2 p0 | omega) (by first | exact oq_7f1a346e ws45_4 ws45_2 ws28_4 ws28_2 ws12_4 ws12_2 p1 | omega) (by first | exact oq_21fef13e ws45_19 ws28_19 ws12_19 p2 | omega)) ⟨by rw [E.2.2.2]; exact (show (12 + (4 * (0))) + 1 ≤ (12 + (4 * (0) + 1)) from oq_46bc030d), by rw [E.2.2.2]; exact (show 8 + (2 + 11) + (500 + 45 * (4 * (0))) ≤ (500 + 45 * (4 * (0) + 1)) from oq_1283f125), by rw [E.2.2.2]; exact Nat.le_refl 0, by rw [E.2.2.2]; exact Nat.le_refl 0⟩ (Nat.le_of_ble_eq_true rfl) (fun vv s49 hq => ?_) (fun ee s49 hq => ?_)
            rotate_left
            · obtain ⟨Is49, Fs49, e50, hv, hrs49, hps49⟩ := hq; cases hv
            obtain ⟨Is49, Fs49, e50, hv, hrs49, hps49⟩ := hq
            have hps49p := And.intro hps49.2.1 (hps49.2.2)
            cases hv
            have Gs49 := fm_tq Gs45 Fs49 rfl rfl
            have b51 := bi_2 Is49
            have ws49_1 : iI s49 1 = iI s45 1 := fm_iq Fs49 rfl
            have b52 := bi_4 Is49
            have b53 := bi_5 Is49
            have b54 := bi_6 Is49
            have b55 := bi_19 Is49
            have b56 := bi_16 Is49
            show WS k 150 [(0, .ref (A 19))] [.int (Int32.ofInt e50)] (Wd A dT s49) 0 0
            exact w_iret X.1 q hRt (nar_ret (by first | (clear hps49 he48 hps45 g30 hps28 hps12 g11 g9; omega) | (clear he48 hps45 g30 hps28 hps12 g11 g9; omega) | omega)) (ax_d X (show cdA 77 150 = some (.ireturn, 1, 0, 0, 0) from rfl)) (Nat.zero_le _) (Nat.zero_le _) ⟨_, rfl, Is49, Gs49, e50, rfl, hrs49, by first | (clear hps49 he48 hps45 g30 hps28 hps12 g11 g9; omega) | (clear he48 hps45 g30 hps28 hps12 g11 g9; omega) | omega⟩
          refine z_if_eq X (t := 145) rfl rfl hrs45 (fun g57 => ?_) (fun g57 => ?_)
          ·
            exact z_bipush X rfl (N47 _ (Or.inl ⟨g57, rfl⟩))
          ·
            exact z_bipush X rfl (z_goto X (t := 147) rfl rfl (N47 _ (Or.inr (⟨g57, rfl⟩))))
    ·
      refine z_aload_n X (x := A 19) rfl (List.Mem.head _) (z_callV X 19 (rm := rmN 80) (As := []) (st := []) rfl rfl (by decide) rfl (by rw [E.1, E.2.1, E.2.2.1]; exact c7_enter_19 G I (by first | exact p0 | omega) (by first | exact p1 | omega)) ⟨by rw [E.2.2.2]; exact (show 8 + 1 ≤ (12 + (4 * (0) + 1)) from oq_a933ac9a), by rw [E.2.2.2]; exact (show 8 + (1 + 11) + 143 ≤ (500 + 45 * (4 * (0) + 1)) from oq_36a13c53), by rw [E.2.2.2]; exact Nat.le_refl 0, by rw [E.2.2.2]; exact Nat.le_refl 0⟩ (Nat.le_of_ble_eq_true rfl) (fun vv s58 hq => ?_) (fun ee s58 hq => ?_))
      rotate_left
      · obtain ⟨Is58, Fs58, e59, hv, hrs58, hps58⟩ := hq; cases hv
      obtain ⟨Is58, Fs58, e59, hv, hrs58, hps58⟩ := hq
      have hps58p := And.intro hps58.2.1 (hps58.2.2)
      cases hv
      have Gs58 := fm_tq F Fs58 rfl rfl
      have b60 := bi_2 Is58
      have ws58_1 : iI s58 1 = iI s 1 := fm_iq Fs58 rfl
      have b61 := bi_4 Is58
      have b62 := bi_5 Is58
      have b63 := bi_6 Is58
      have b64 := bi_19 Is58
      have ws58_16 : iI s58 16 = iI s 16 := fm_iq Fs58 rfl
      show WS k 70 [(0, .ref (A 19))] [.int (Int32.ofInt e59)] (Wd A dT s58) 0 0
      refine z_if_eq X (t := 89) rfl rfl hrs58 (fun g65 => ?_) (fun g65 => ?_)
      ·
        refine z_const X rfl ?_
        exact w_iret X.1 q hRt (nar_ret (by first | exact Or.inl (by decide) | omega)) (ax_d X (show cdA 77 90 = some (.ireturn, 1, 0, 0, 0) from rfl)) (Nat.zero_le _) (Nat.zero_le _) ⟨_, rfl, Is58, Gs58, 0, rfl, (by decide), by first | exact ⟨Or.inl (by decide), hps58.2.1, hps58.2.2⟩ | omega⟩
      ·
        exfalso
        omega
  ·
    refine z_aload_n X (x := A 19) rfl (List.Mem.head _) (s_getR X 19 rfl (c518_ok rfl) rfl rfl (z_getI X 1 rfl (c518_ok rfl) rfl rfl ?_))
    have b66 := bi_6 I
    refine z_sipush X rfl (z_icmp_le X (t := 34) rfl rfl (rng_to _) (by decide) (fun g67 => ?_) (fun g67 => ?_))
    ·
      refine z_aload_n X (x := A 19) rfl (List.Mem.head _) (z_aload_n X (x := A 19) rfl (List.Mem.head _) (s_getR X 19 rfl (c518_ok rfl) rfl rfl (z_getI X 1 rfl (c518_ok rfl) rfl rfl ?_)))
      have b68 := bi_6 I
      refine z_callV X 19 (rm := rmN 82) (As := [.int (Int32.ofInt (iI s 6))]) (st := []) rfl rfl (by decide) rfl (by rw [E.1, E.2.1, E.2.2.1]; exact c7_put_19 G I (by first | exact ⟨oq_fa4e5087 b68.1, oq_25953902 b68.2⟩ | omega)) ⟨by rw [E.2.2.2]; exact (show 6 + 1 ≤ (12 + (4 * (0) + 1)) from oq_57ddffaa), by rw [E.2.2.2]; exact (show 8 + (2 + 11) + 100 ≤ (500 + 45 * (4 * (0) + 1)) from oq_9971bdcd), by rw [E.2.2.2]; exact Nat.le_refl 0, by rw [E.2.2.2]; exact Nat.le_refl 0⟩ (Nat.le_of_ble_eq_true rfl) (fun vv s69 hq => ?_) (fun ee s69 hq => ?_)
      rotate_left
      · obtain ⟨Is69, Fs69, hv, hps69⟩ := hq; cases hv
      obtain ⟨Is69, Fs69, hv, hps69⟩ := hq
      cases hv
      have Gs69 := fm_tq F Fs69 rfl rfl
      have ws69_2 : iI s69 2 = iI s 2 := fm_iq Fs69 rfl
      have ws69_1 : iI s69 1 = iI s 1 := fm_iq Fs69 rfl
      have ws69_4 : iI s69 4 = iI s 4 := fm_iq Fs69 rfl
      have ws69_5 : iI s69 5 = iI s 5 := fm_iq Fs69 rfl
      have ws69_6 : iI s69 6 = iI s 6 := fm_iq Fs69 rfl
      have ws69_19 : iI s69 19 = iI s 19 := fm_iq Fs69 rfl
      have b71 := bi_16 Is69
      show WS k 45 [(0, .ref (A 19))] [] (Wd A dT s69) 0 0
      refine z_aload_n X (x := A 19) rfl (List.Mem.head _) (s_getR X 19 rfl (c518_ok rfl) rfl rfl (z_callV X 1 (rm := rmN 129) (As := []) (st := []) rfl rfl (by decide) rfl (by rw [E.1, E.2.1, E.2.2.1]; exact c10_step_1 G Is69 (by first | exact oq_e7b9ecab ws69_1 ws69_2 p0 | omega)) ⟨by rw [E.2.2.2]; exact (show 7 + 1 ≤ (12 + (4 * (0) + 1)) from oq_547cef8b), by rw [E.2.2.2]; exact (show 8 + (1 + 11) + 121 ≤ (500 + 45 * (4 * (0) + 1)) from oq_0392e5c6), by rw [E.2.2.2]; exact Nat.le_refl 0, by rw [E.2.2.2]; exact Nat.le_refl 0⟩ (Nat.le_of_ble_eq_true rfl) (fun vv s72 hq => ?_) (fun ee s72 hq => ?_)))
      rotate_left
      · obtain ⟨Is72, Fs72, hv, hps72⟩ := hq; cases hv
      obtain ⟨Is72, Fs72, hv, hps72⟩ := hq
      cases hv
      have Gs72 := fm_tq Gs69 Fs72 rfl rfl
      have b74 := bi_2 Is72
      have ws72_1 : iI s72 1 = iI s69 1 := fm_iq Fs72 rfl
      have b75 := bi_4 Is72
      have b76 := bi_5 Is72
      have b77 := bi_6 Is72
      have ws72_19 : iI s72 19 = iI s69 19 := fm_iq Fs72 rfl
      have ws72_16 : iI s72 16 = iI s69 16 := fm_iq Fs72 rfl
      show WS k 52 [(0, .ref (A 19))] [] (Wd A dT s72) 0 0
      refine z_const X rfl ?_
      exact w_iret X.1 q hRt (nar_ret (by first | exact Or.inr (by decide) | omega)) (ax_d X (show cdA 77 53 = some (.ireturn, 1, 0, 0, 0) from rfl)) (Nat.zero_le _) (Nat.zero_le _) ⟨_, rfl, Is72, Gs72, 1, rfl, (by decide), by first | exact ⟨Or.inr (And.intro (by decide) (oq_1aa5be9e ws72_19 ws69_19)), hps72.1, hps72.2⟩ | omega⟩
    ·
      refine z_aload_n X (x := A 19) rfl (List.Mem.head _) (s_getR X 19 rfl (c518_ok rfl) rfl rfl (z_const X rfl (z_callV X 1 (rm := rmN 132) (As := [.int (Int32.ofInt 2)]) (st := []) rfl rfl (by decide) rfl (by rw [E.1, E.2.1, E.2.2.1]; exact c10_refuse_1 G I (by first | exact ⟨by decide, by decide⟩ | omega)) ⟨by rw [E.2.2.2]; exact (show 7 + 1 ≤ (12 + (4 * (0) + 1)) from oq_547cef8b), by rw [E.2.2.2]; exact (show 8 + (2 + 11) + 122 ≤ (500 + 45 * (4 * (0) + 1)) from oq_06c7c12d), by rw [E.2.2.2]; exact Nat.le_refl 0, by rw [E.2.2.2]; exact Nat.le_refl 0⟩ (Nat.le_of_ble_eq_true rfl) (fun vv s78 hq => ?_) (fun ee s78 hq => ?_))))
      rotate_left
      · obtain ⟨Is78, Fs78, e79, hv, hrs78, hps78⟩ := hq; cases hv
      obtain ⟨Is78, Fs78, e79, hv, hrs78, hps78⟩ := hq
      cases hv
      have Gs78 := fm_tq F Fs78 rfl rfl
      have ws78_2 : iI s78 2 = iI s 2 := fm_iq Fs78 rfl
      have ws78_1 : iI s78 1 = iI s 1 := fm_iq Fs78 rfl
      have ws78_4 : iI s78 4 = iI s 4 := fm_iq Fs78 rfl
      have ws78_5 : iI s78 5 = iI s 5 := fm_iq Fs78 rfl
      have ws78_6 : iI s78 6 = iI s 6 := fm_iq Fs78 rfl
      have ws78_19 : iI s78 19 = iI s 19 := fm_iq Fs78 rfl
      have ws78_16 : iI s78 16 = iI s 16 := fm_iq Fs78 rfl
      show WS k 33 [(0, .ref (A 19))] [.int (Int32.ofInt e79)] (Wd A dT s78) 0 0
      exact w_iret X.1 q hRt (nar_ret (by first | exact Or.inl (hps78) | omega)) (ax_d X (show cdA 77 33 = some (.ireturn, 1, 0, 0, 0) from rfl)) (Nat.zero_le _) (Nat.zero_le _) ⟨_, rfl, Is78, Gs78, e79, rfl, hrs78, by first | exact ⟨Or.inl (hps78), oq_e7b9ecab ws78_1 ws78_2 p0, oq_e7b9ecab ws78_2 ws78_4 p1⟩ | omega⟩
set_option maxRecDepth 4000 in
theorem c7_unitS (G : GX l s0 D tys a0 dT) (SF : SF0 s0) (GT : TXs0 s0) {r : Nat} (hT : ∀ {s : PS} {x : Int}, Bd s → (rng x) → (iI s 2 ≤ iI s 1) → (iI s 4 ≤ iI s 2) → (6 - iI s 19 ≤ ((r + 1 : Nat) : Int)) → CT l s0 D A dT 78 (rkR (4 * (r + 1))) [.ref (A 19), .int (Int32.ofInt x)] s (fun o t => Bd t ∧ Fm [2, 4, 6, 5, 7, 8, 19, 16] [18] s t ∧ ∃ e, o = .inl (some (.int (Int32.ofInt e))) ∧ rng e ∧ ((e = 0 ∨ (e = 1 ∧ iI t 19 = iI s 19)) ∧ iI t 2 ≤ iI t 1 ∧ iI t 4 ≤ iI t 2))) (hS : ∀ {s : PS} , Bd s → (iI s 2 ≤ iI s 1) → (iI s 4 ≤ iI s 2) → (6 - iI s 19 ≤ ((r : Nat) : Int)) → CT l s0 D A dT 75 (rkR (4 * (r) + 3)) [.ref (A 19)] s (fun o t => Bd t ∧ Fm [2, 4, 6, 5, 7, 8, 19, 16] [18] s t ∧ ∃ e, o = .inl (some (.int (Int32.ofInt e))) ∧ rng e ∧ ((e = 0 ∨ (e = 1 ∧ iI t 19 = iI s 19)) ∧ iI t 2 ≤ iI t 1 ∧ iI t 4 ≤ iI t 2))) (I : Bd s) (p0 : iI s 2 ≤ iI s 1) (p1 : iI s 4 ≤ iI s 2) (p2 : 6 - iI s 19 ≤ ((r + 1 : Nat) : Int)) : CT l s0 D A dT 77 (rkR (4 * (r + 1) + 1)) [.ref (A 19)] s (fun o t => Bd t ∧ Fm [2, 4, 6, 5, 7, 8, 19, 16] [18] s t ∧ ∃ e, o = .inl (some (.int (Int32.ofInt e))) ∧ rng e ∧ ((e = 0 ∨ (e = 1 ∧ iI t 19 = iI s 19)) ∧ iI t 2 ≤ iI t 1 ∧ iI t 4 ≤ iI t 2)) := by
  refine ct_ofX G (by decide) (Nat.le_of_ble_eq_true rfl) (fun k X E ET hRt hXt q => ?_)
  show WS k 0 [(0, .ref (A 19))] [] _ 0 0
  have F : Fm [2, 4, 6, 5, 7, 8, 19, 16] [18] s s := fm_rf _ _ s
  have b1 := bi_2 I
  have b2 := bi_1 I
  have b3 := bi_4 I
  have b4 := bi_5 I
  have b5 := bi_6 I
  have b6 := bi_19 I
  have b7 := bi_16 I
  refine z_aload_n X (x := A 19) rfl (List.Mem.head _) (s_getR X 19 rfl (c518_ok rfl) rfl rfl (z_getI X 1 rfl (c518_ok rfl) rfl rfl ?_))
  have b8 := bi_5 I
  refine z_bipush X rfl (z_icmp_ne X (t := 54) rfl rfl (rng_to _) (by decide) (fun g9 => ?_) (fun g9 => ?_))
  ·
    refine z_aload_n X (x := A 19) rfl (List.Mem.head _) (s_getR X 19 rfl (c518_ok rfl) rfl rfl (z_getI X 1 rfl (c518_ok rfl) rfl rfl ?_))
    have b10 := bi_5 I
    refine z_bipush X rfl (z_icmp_ne X (t := 103) rfl rfl (rng_to _) (by decide) (fun g11 => ?_) (fun g11 => ?_))
    ·
      refine z_aload_n X (x := A 19) rfl (List.Mem.head _) (s_getR X 19 rfl (c518_ok rfl) rfl rfl ?_)
      obtain ⟨tx125, q125, hR125, hS125⟩ := GT (125, 5) (by decide)
      refine w_ldcK X (show vk_R (kOwn k) 125 tx125 q125 (kS0 k) by rw [E.2.1, X.2.1.2.1]; exact hR125) (show decode (kCc k) 107 = .ok (.ldc 125, 2) by rw [X.2.1.1]; decide +kernel) (z_callV X 1 (rm := rmN 131) (As := [.ref q125]) (st := []) rfl rfl (by decide) rfl (by rw [E.1, E.2.1, E.2.2.1]; exact c10_says G SF hS125 I (by first | exact p1 | omega)) ⟨by rw [E.2.2.2]; exact (show 11 + 1 ≤ (12 + (4 * (r + 1) + 1)) from oq_21805ac9 r), by rw [E.2.2.2]; exact (show 8 + (3 + 11) + 206 ≤ (500 + 45 * (4 * (r + 1) + 1)) from oq_1a54e9c9 r), by rw [E.2.2.2]; exact Nat.le_refl 0, by rw [E.2.2.2]; exact Nat.le_refl 0⟩ (Nat.le_of_ble_eq_true rfl) (fun vv s12 hq => ?_) (fun ee s12 hq => ?_))
      rotate_left
      · obtain ⟨Is12, Fs12, e13, hv, hrs12, hps12⟩ := hq; cases hv
      obtain ⟨Is12, Fs12, e13, hv, hrs12, hps12⟩ := hq
      cases hv
      have Gs12 := fm_tq F Fs12 rfl rfl
      have ws12_2 : iI s12 2 = iI s 2 := fm_iq Fs12 rfl
      have ws12_1 : iI s12 1 = iI s 1 := fm_iq Fs12 rfl
      have ws12_4 : iI s12 4 = iI s 4 := fm_iq Fs12 rfl
      have ws12_5 : iI s12 5 = iI s 5 := fm_iq Fs12 rfl
      have ws12_6 : iI s12 6 = iI s 6 := fm_iq Fs12 rfl
      have ws12_19 : iI s12 19 = iI s 19 := fm_iq Fs12 rfl
      have ws12_16 : iI s12 16 = iI s 16 := fm_iq Fs12 rfl
      show WS k 112 [(0, .ref (A 19))] [.int (Int32.ofInt e13)] (Wd A dT s12) 0 0
      refine z_if_ne X (t := 127) rfl rfl hrs12 (fun g14 => ?_) (fun g14 => ?_)
      ·
        refine z_aload_n X (x := A 19) rfl (List.Mem.head _) (z_aload_n X (x := A 19) rfl (List.Mem.head _) (s_getR X 19 rfl (c518_ok rfl) rfl rfl ?_))
        obtain ⟨tx125, q125, hR125, hS125⟩ := GT (125, 5) (by decide)
        refine w_ldcK X (show vk_R (kOwn k) 125 tx125 q125 (kS0 k) by rw [E.2.1, X.2.1.2.1]; exact hR125) (show decode (kCc k) 132 = .ok (.ldc 125, 2) by rw [X.2.1.1]; decide +kernel) (z_callV X 1 (rm := rmN 131) (As := [.ref q125]) (st := [.ref (A 19)]) rfl rfl (by decide) rfl (by rw [E.1, E.2.1, E.2.2.1]; exact c10_says G SF hS125 Is12 (by first | exact oq_e7b9ecab ws12_2 ws12_4 p1 | omega)) ⟨by rw [E.2.2.2]; exact (show 11 + 1 ≤ (12 + (4 * (r + 1) + 1)) from oq_21805ac9 r), by rw [E.2.2.2]; exact (show 8 + (3 + 11) + 206 ≤ (500 + 45 * (4 * (r + 1) + 1)) from oq_1a54e9c9 r), by rw [E.2.2.2]; exact Nat.le_refl 0, by rw [E.2.2.2]; exact Nat.le_refl 0⟩ (Nat.le_of_ble_eq_true rfl) (fun vv s15 hq => ?_) (fun ee s15 hq => ?_))
        rotate_left
        · obtain ⟨Is15, Fs15, e16, hv, hrs15, hps15⟩ := hq; cases hv
        obtain ⟨Is15, Fs15, e16, hv, hrs15, hps15⟩ := hq
        cases hv
        have Gs15 := fm_tq Gs12 Fs15 rfl rfl
        have ws15_2 : iI s15 2 = iI s12 2 := fm_iq Fs15 rfl
        have ws15_1 : iI s15 1 = iI s12 1 := fm_iq Fs15 rfl
        have ws15_4 : iI s15 4 = iI s12 4 := fm_iq Fs15 rfl
        have ws15_5 : iI s15 5 = iI s12 5 := fm_iq Fs15 rfl
        have ws15_6 : iI s15 6 = iI s12 6 := fm_iq Fs15 rfl
        have ws15_19 : iI s15 19 = iI s12 19 := fm_iq Fs15 rfl
        have ws15_16 : iI s15 16 = iI s12 16 := fm_iq Fs15 rfl
        show WS k 137 [(0, .ref (A 19))] [.int (Int32.ofInt e16), .ref (A 19)] (Wd A dT s15) 0 0
        have N17 : ∀ e18 : Int, (((e16 = 0) ∧ e18 = (-14)) ∨ ((e16 ≠ 0) ∧ e18 = (-13))) → WS k 147 [(0, .ref (A 19))] [.int (Int32.ofInt e18), .ref (A 19)] (Wd A dT s15) 0 0 := by
          intro e18 he18
          have re18 : (-14) ≤ e18 ∧ e18 ≤ (-13) := by first | (clear he18 hps15 g14 hps12 g11 g9; omega) | (clear hps15 g14 hps12 g11 g9; omega) | omega
          refine z_callV X 19 (rm := (rkR (4 * (r + 1)))) (As := [.int (Int32.ofInt e18)]) (st := []) rfl rfl (by decide) rfl (by rw [E.1, E.2.1, E.2.2.1]; exact hT Is15 (by first | (clear he18 hps15 g14 hps12 g11 g9; omega) | (clear hps15 g14 hps12 g11 g9; omega) | omega) (by first | exact oq_4407eb3c ws15_1 ws15_2 ws12_1 ws12_2 p0 | omega) (by first | exact oq_4407eb3c ws15_2 ws15_4 ws12_2 ws12_4 p1 | omega) (by first | exact oq_94b38e3b p2 ws15_19 ws12_19 | omega)) ⟨by rw [E.2.2.2]; exact (show (12 + (4 * (r + 1))) + 1 ≤ (12 + (4 * (r + 1) + 1)) from oq_183d1057 r), by rw [E.2.2.2]; exact (show 8 + (2 + 11) + (500 + 45 * (4 * (r + 1))) ≤ (500 + 45 * (4 * (r + 1) + 1)) from oq_ce6206a2 r), by rw [E.2.2.2]; exact Nat.le_refl 0, by rw [E.2.2.2]; exact Nat.le_refl 0⟩ (Nat.le_of_ble_eq_true rfl) (fun vv s19 hq => ?_) (fun ee s19 hq => ?_)
          rotate_left
          · obtain ⟨Is19, Fs19, e20, hv, hrs19, hps19⟩ := hq; cases hv
          obtain ⟨Is19, Fs19, e20, hv, hrs19, hps19⟩ := hq
          have hps19p := And.intro hps19.2.1 (hps19.2.2)
          cases hv
          have Gs19 := fm_tq Gs15 Fs19 rfl rfl
          have b21 := bi_2 Is19
          have ws19_1 : iI s19 1 = iI s15 1 := fm_iq Fs19 rfl
          have b22 := bi_4 Is19
          have b23 := bi_5 Is19
          have b24 := bi_6 Is19
          have b25 := bi_19 Is19
          have b26 := bi_16 Is19
          show WS k 150 [(0, .ref (A 19))] [.int (Int32.ofInt e20)] (Wd A dT s19) 0 0
          exact w_iret X.1 q hRt (nar_ret (by first | (clear hps19 he18 hps15 g14 hps12 g11 g9; omega) | (clear he18 hps15 g14 hps12 g11 g9; omega) | omega)) (ax_d X (show cdA 77 150 = some (.ireturn, 1, 0, 0, 0) from rfl)) (Nat.zero_le _) (Nat.zero_le _) ⟨_, rfl, Is19, Gs19, e20, rfl, hrs19, by first | (clear hps19 he18 hps15 g14 hps12 g11 g9; omega) | (clear he18 hps15 g14 hps12 g11 g9; omega) | omega⟩
        refine z_if_eq X (t := 145) rfl rfl hrs15 (fun g27 => ?_) (fun g27 => ?_)
        ·
          exact z_bipush X rfl (N17 _ (Or.inl ⟨g27, rfl⟩))
        ·
          exact z_bipush X rfl (z_goto X (t := 147) rfl rfl (N17 _ (Or.inr (⟨g27, rfl⟩))))
      ·
        refine z_aload_n X (x := A 19) rfl (List.Mem.head _) (s_getR X 19 rfl (c518_ok rfl) rfl rfl ?_)
        obtain ⟨tx127, q127, hR127, hS127⟩ := GT (127, 4) (by decide)
        refine w_ldcK X (show vk_R (kOwn k) 127 tx127 q127 (kS0 k) by rw [E.2.1, X.2.1.2.1]; exact hR127) (show decode (kCc k) 119 = .ok (.ldc 127, 2) by rw [X.2.1.1]; decide +kernel) (z_callV X 1 (rm := rmN 131) (As := [.ref q127]) (st := []) rfl rfl (by decide) rfl (by rw [E.1, E.2.1, E.2.2.1]; exact c10_says G SF hS127 Is12 (by first | exact oq_e7b9ecab ws12_2 ws12_4 p1 | omega)) ⟨by rw [E.2.2.2]; exact (show 11 + 1 ≤ (12 + (4 * (r + 1) + 1)) from oq_21805ac9 r), by rw [E.2.2.2]; exact (show 8 + (3 + 11) + 206 ≤ (500 + 45 * (4 * (r + 1) + 1)) from oq_1a54e9c9 r), by rw [E.2.2.2]; exact Nat.le_refl 0, by rw [E.2.2.2]; exact Nat.le_refl 0⟩ (Nat.le_of_ble_eq_true rfl) (fun vv s28 hq => ?_) (fun ee s28 hq => ?_))
        rotate_left
        · obtain ⟨Is28, Fs28, e29, hv, hrs28, hps28⟩ := hq; cases hv
        obtain ⟨Is28, Fs28, e29, hv, hrs28, hps28⟩ := hq
        cases hv
        have Gs28 := fm_tq Gs12 Fs28 rfl rfl
        have ws28_2 : iI s28 2 = iI s12 2 := fm_iq Fs28 rfl
        have ws28_1 : iI s28 1 = iI s12 1 := fm_iq Fs28 rfl
        have ws28_4 : iI s28 4 = iI s12 4 := fm_iq Fs28 rfl
        have ws28_5 : iI s28 5 = iI s12 5 := fm_iq Fs28 rfl
        have ws28_6 : iI s28 6 = iI s12 6 := fm_iq Fs28 rfl
        have ws28_19 : iI s28 19 = iI s12 19 := fm_iq Fs28 rfl
        have ws28_16 : iI s28 16 = iI s12 16 := fm_iq Fs28 rfl
        show WS k 124 [(0, .ref (A 19))] [.int (Int32.ofInt e29)] (Wd A dT s28) 0 0
        refine z_if_eq X (t := 151) rfl rfl hrs28 (fun g30 => ?_) (fun g30 => ?_)
        ·
          refine z_aload_n X (x := A 19) rfl (List.Mem.head _) (z_callV X 19 (rm := rmN 79) (As := []) (st := []) rfl rfl (by decide) rfl (by rw [E.1, E.2.1, E.2.2.1]; exact c7_codeOfName_19 G SF GT Is28 (by first | exact oq_4407eb3c ws28_1 ws28_2 ws12_1 ws12_2 p0 | omega) (by first | exact oq_4407eb3c ws28_2 ws28_4 ws12_2 ws12_4 p1 | omega)) ⟨by rw [E.2.2.2]; exact (show 12 + 1 ≤ (12 + (4 * (r + 1) + 1)) from oq_e4de711e r), by rw [E.2.2.2]; exact (show 8 + (1 + 11) + 228 ≤ (500 + 45 * (4 * (r + 1) + 1)) from oq_afe52482 r), by rw [E.2.2.2]; exact Nat.le_refl 0, by rw [E.2.2.2]; exact Nat.le_refl 0⟩ (Nat.le_of_ble_eq_true rfl) (fun vv s31 hq => ?_) (fun ee s31 hq => ?_))
          rotate_left
          · obtain ⟨Is31, Fs31, e32, hv, hrs31, hps31⟩ := hq; cases hv
          obtain ⟨Is31, Fs31, e32, hv, hrs31, hps31⟩ := hq
          cases hv
          have Gs31 := fm_tq Gs28 Fs31 rfl rfl
          have ws31_2 : iI s31 2 = iI s28 2 := fm_iq Fs31 rfl
          have ws31_1 : iI s31 1 = iI s28 1 := fm_iq Fs31 rfl
          have ws31_4 : iI s31 4 = iI s28 4 := fm_iq Fs31 rfl
          have ws31_5 : iI s31 5 = iI s28 5 := fm_iq Fs31 rfl
          have ws31_6 : iI s31 6 = iI s28 6 := fm_iq Fs31 rfl
          have ws31_19 : iI s31 19 = iI s28 19 := fm_iq Fs31 rfl
          have ws31_16 : iI s31 16 = iI s28 16 := fm_iq Fs31 rfl
          show WS k 155 [(0, .ref (A 19))] [.int (Int32.ofInt e32)] (Wd A dT s31) 0 0
          refine z_store_n X (lv' := [(1, .int (Int32.ofInt e32)), (0, .ref (A 19))]) rfl (by decide) (fun _ h => h) (z_load_n X (x := e32) rfl (List.Mem.head _) (z_bipush X rfl (z_icmp_ne X (t := 171) rfl rfl hrs31 (by decide) (fun g33 => ?_) (fun g33 => ?_))))
          ·
            refine z_aload_n X (x := A 19) rfl (List.Mem.tail _ (List.Mem.head _)) (z_load_n X (x := e32) rfl (List.Mem.head _) (z_callV X 19 (rm := rmN 82) (As := [.int (Int32.ofInt e32)]) (st := []) rfl rfl (by decide) rfl (by rw [E.1, E.2.1, E.2.2.1]; exact c7_put_19 G Is31 (by first | exact ⟨oq_e12b0ae3 hps31.1, oq_80ebb04a hps31.2⟩ | omega)) ⟨by rw [E.2.2.2]; exact (show 6 + 1 ≤ (12 + (4 * (r + 1) + 1)) from oq_76ff689a r), by rw [E.2.2.2]; exact (show 8 + (2 + 11) + 100 ≤ (500 + 45 * (4 * (r + 1) + 1)) from oq_0822d50d r), by rw [E.2.2.2]; exact Nat.le_refl 0, by rw [E.2.2.2]; exact Nat.le_refl 0⟩ (Nat.le_of_ble_eq_true rfl) (fun vv s34 hq => ?_) (fun ee s34 hq => ?_)))
            rotate_left
            · obtain ⟨Is34, Fs34, hv, hps34⟩ := hq; cases hv
            obtain ⟨Is34, Fs34, hv, hps34⟩ := hq
            cases hv
            have Gs34 := fm_tq Gs31 Fs34 rfl rfl
            have ws34_2 : iI s34 2 = iI s31 2 := fm_iq Fs34 rfl
            have ws34_1 : iI s34 1 = iI s31 1 := fm_iq Fs34 rfl
            have ws34_4 : iI s34 4 = iI s31 4 := fm_iq Fs34 rfl
            have ws34_5 : iI s34 5 = iI s31 5 := fm_iq Fs34 rfl
            have ws34_6 : iI s34 6 = iI s31 6 := fm_iq Fs34 rfl
            have ws34_19 : iI s34 19 = iI s31 19 := fm_iq Fs34 rfl
            have b36 := bi_16 Is34
            show WS k 176 [(1, .int (Int32.ofInt e32)), (0, .ref (A 19))] [] (Wd A dT s34) 0 0
            refine z_aload_n X (x := A 19) rfl (List.Mem.tail _ (List.Mem.head _)) (s_getR X 19 rfl (c518_ok rfl) rfl rfl (z_callV X 1 (rm := rmN 129) (As := []) (st := []) rfl rfl (by decide) rfl (by rw [E.1, E.2.1, E.2.2.1]; exact c10_step_1 G Is34 (by first | exact oq_25674cec ws34_1 ws34_2 ws31_1 ws31_2 ws28_1 ws28_2 ws12_1 ws12_2 p0 | omega)) ⟨by rw [E.2.2.2]; exact (show 7 + 1 ≤ (12 + (4 * (r + 1) + 1)) from oq_9b435bb4 r), by rw [E.2.2.2]; exact (show 8 + (1 + 11) + 121 ≤ (500 + 45 * (4 * (r + 1) + 1)) from oq_f85a7cd7 r), by rw [E.2.2.2]; exact Nat.le_refl 0, by rw [E.2.2.2]; exact Nat.le_refl 0⟩ (Nat.le_of_ble_eq_true rfl) (fun vv s37 hq => ?_) (fun ee s37 hq => ?_)))
            rotate_left
            · obtain ⟨Is37, Fs37, hv, hps37⟩ := hq; cases hv
            obtain ⟨Is37, Fs37, hv, hps37⟩ := hq
            cases hv
            have Gs37 := fm_tq Gs34 Fs37 rfl rfl
            have b39 := bi_2 Is37
            have ws37_1 : iI s37 1 = iI s34 1 := fm_iq Fs37 rfl
            have b40 := bi_4 Is37
            have b41 := bi_5 Is37
            have b42 := bi_6 Is37
            have ws37_19 : iI s37 19 = iI s34 19 := fm_iq Fs37 rfl
            have ws37_16 : iI s37 16 = iI s34 16 := fm_iq Fs37 rfl
            show WS k 183 [(1, .int (Int32.ofInt e32)), (0, .ref (A 19))] [] (Wd A dT s37) 0 0
            refine z_const X rfl ?_
            exact w_iret X.1 q hRt (nar_ret (by first | exact Or.inr (by decide) | omega)) (ax_d X (show cdA 77 184 = some (.ireturn, 1, 0, 0, 0) from rfl)) (Nat.zero_le _) (Nat.zero_le _) ⟨_, rfl, Is37, Gs37, 1, rfl, (by decide), by first | exact ⟨Or.inr (And.intro (by decide) (oq_469c7eaf ws37_19 ws34_19 ws31_19 ws28_19 ws12_19)), hps37.1, hps37.2⟩ | omega⟩
          ·
            refine z_aload_n X (x := A 19) rfl (List.Mem.tail _ (List.Mem.head _)) (s_getR X 19 rfl (c518_ok rfl) rfl rfl (z_const X rfl (z_callV X 1 (rm := rmN 132) (As := [.int (Int32.ofInt 1)]) (st := []) rfl rfl (by decide) rfl (by rw [E.1, E.2.1, E.2.2.1]; exact c10_refuse_1 G Is31 (by first | exact ⟨by decide, by decide⟩ | omega)) ⟨by rw [E.2.2.2]; exact (show 7 + 1 ≤ (12 + (4 * (r + 1) + 1)) from oq_9b435bb4 r), by rw [E.2.2.2]; exact (show 8 + (2 + 11) + 122 ≤ (500 + 45 * (4 * (r + 1) + 1)) from oq_1c2c1baf r), by rw [E.2.2.2]; exact Nat.le_refl 0, by rw [E.2.2.2]; exact Nat.le_refl 0⟩ (Nat.le_of_ble_eq_true rfl) (fun vv s43 hq => ?_) (fun ee s43 hq => ?_))))
            rotate_left
            · obtain ⟨Is43, Fs43, e44, hv, hrs43, hps43⟩ := hq; cases hv
            obtain ⟨Is43, Fs43, e44, hv, hrs43, hps43⟩ := hq
            cases hv
            have Gs43 := fm_tq Gs31 Fs43 rfl rfl
            have ws43_2 : iI s43 2 = iI s31 2 := fm_iq Fs43 rfl
            have ws43_1 : iI s43 1 = iI s31 1 := fm_iq Fs43 rfl
            have ws43_4 : iI s43 4 = iI s31 4 := fm_iq Fs43 rfl
            have ws43_5 : iI s43 5 = iI s31 5 := fm_iq Fs43 rfl
            have ws43_6 : iI s43 6 = iI s31 6 := fm_iq Fs43 rfl
            have ws43_19 : iI s43 19 = iI s31 19 := fm_iq Fs43 rfl
            have ws43_16 : iI s43 16 = iI s31 16 := fm_iq Fs43 rfl
            show WS k 170 [(1, .int (Int32.ofInt e32)), (0, .ref (A 19))] [.int (Int32.ofInt e44)] (Wd A dT s43) 0 0
            exact w_iret X.1 q hRt (nar_ret (by first | exact Or.inl (hps43) | omega)) (ax_d X (show cdA 77 170 = some (.ireturn, 1, 0, 0, 0) from rfl)) (Nat.zero_le _) (Nat.zero_le _) ⟨_, rfl, Is43, Gs43, e44, rfl, hrs43, by first | exact ⟨Or.inl (hps43), oq_25674cec ws43_1 ws43_2 ws31_1 ws31_2 ws28_1 ws28_2 ws12_1 ws12_2 p0, oq_969cff60 ws43_4 ws43_2 ws31_4 ws31_2 ws28_4 ws28_2 ws12_4 ws12_2 p1⟩ | omega⟩
        ·
          refine z_aload_n X (x := A 19) rfl (List.Mem.head _) (z_aload_n X (x := A 19) rfl (List.Mem.head _) (s_getR X 19 rfl (c518_ok rfl) rfl rfl ?_))
          obtain ⟨tx125, q125, hR125, hS125⟩ := GT (125, 5) (by decide)
          refine w_ldcK X (show vk_R (kOwn k) 125 tx125 q125 (kS0 k) by rw [E.2.1, X.2.1.2.1]; exact hR125) (show decode (kCc k) 132 = .ok (.ldc 125, 2) by rw [X.2.1.1]; decide +kernel) (z_callV X 1 (rm := rmN 131) (As := [.ref q125]) (st := [.ref (A 19)]) rfl rfl (by decide) rfl (by rw [E.1, E.2.1, E.2.2.1]; exact c10_says G SF hS125 Is28 (by first | exact oq_4407eb3c ws28_2 ws28_4 ws12_2 ws12_4 p1 | omega)) ⟨by rw [E.2.2.2]; exact (show 11 + 1 ≤ (12 + (4 * (r + 1) + 1)) from oq_21805ac9 r), by rw [E.2.2.2]; exact (show 8 + (3 + 11) + 206 ≤ (500 + 45 * (4 * (r + 1) + 1)) from oq_1a54e9c9 r), by rw [E.2.2.2]; exact Nat.le_refl 0, by rw [E.2.2.2]; exact Nat.le_refl 0⟩ (Nat.le_of_ble_eq_true rfl) (fun vv s45 hq => ?_) (fun ee s45 hq => ?_))
          rotate_left
          · obtain ⟨Is45, Fs45, e46, hv, hrs45, hps45⟩ := hq; cases hv
          obtain ⟨Is45, Fs45, e46, hv, hrs45, hps45⟩ := hq
          cases hv
          have Gs45 := fm_tq Gs28 Fs45 rfl rfl
          have ws45_2 : iI s45 2 = iI s28 2 := fm_iq Fs45 rfl
          have ws45_1 : iI s45 1 = iI s28 1 := fm_iq Fs45 rfl
          have ws45_4 : iI s45 4 = iI s28 4 := fm_iq Fs45 rfl
          have ws45_5 : iI s45 5 = iI s28 5 := fm_iq Fs45 rfl
          have ws45_6 : iI s45 6 = iI s28 6 := fm_iq Fs45 rfl
          have ws45_19 : iI s45 19 = iI s28 19 := fm_iq Fs45 rfl
          have ws45_16 : iI s45 16 = iI s28 16 := fm_iq Fs45 rfl
          show WS k 137 [(0, .ref (A 19))] [.int (Int32.ofInt e46), .ref (A 19)] (Wd A dT s45) 0 0
          have N47 : ∀ e48 : Int, (((e46 = 0) ∧ e48 = (-14)) ∨ ((e46 ≠ 0) ∧ e48 = (-13))) → WS k 147 [(0, .ref (A 19))] [.int (Int32.ofInt e48), .ref (A 19)] (Wd A dT s45) 0 0 := by
            intro e48 he48
            have re48 : (-14) ≤ e48 ∧ e48 ≤ (-13) := by first | (clear he48 hps45 g30 hps28 hps12 g11 g9; omega) | (clear hps45 g30 hps28 hps12 g11 g9; omega) | omega
            refine z_callV X 19 (rm := (rkR (4 * (r + 1)))) (As := [.int (Int32.ofInt e48)]) (st := []) rfl rfl (by decide) rfl (by rw [E.1, E.2.1, E.2.2.1]; exact hT Is45 (by first | (clear he48 hps45 g30 hps28 hps12 g11 g9; omega) | (clear hps45 g30 hps28 hps12 g11 g9; omega) | omega) (by first | exact oq_72ebe5a4 ws45_1 ws45_2 ws28_1 ws28_2 ws12_1 ws12_2 p0 | omega) (by first | exact oq_7f1a346e ws45_4 ws45_2 ws28_4 ws28_2 ws12_4 ws12_2 p1 | omega) (by first | exact oq_3ee132da p2 ws45_19 ws12_19 ws28_19 | omega)) ⟨by rw [E.2.2.2]; exact (show (12 + (4 * (r + 1))) + 1 ≤ (12 + (4 * (r + 1) + 1)) from oq_183d1057 r), by rw [E.2.2.2]; exact (show 8 + (2 + 11) + (500 + 45 * (4 * (r + 1))) ≤ (500 + 45 * (4 * (r + 1) + 1)) from oq_ce6206a2 r), by rw [E.2.2.2]; exact Nat.le_refl 0, by rw [E.2.2.2]; exact Nat.le_refl 0⟩ (Nat.le_of_ble_eq_true rfl) (fun vv s49 hq => ?_) (fun ee s49 hq => ?_)
            rotate_left
            · obtain ⟨Is49, Fs49, e50, hv, hrs49, hps49⟩ := hq; cases hv
            obtain ⟨Is49, Fs49, e50, hv, hrs49, hps49⟩ := hq
            have hps49p := And.intro hps49.2.1 (hps49.2.2)
            cases hv
            have Gs49 := fm_tq Gs45 Fs49 rfl rfl
            have b51 := bi_2 Is49
            have ws49_1 : iI s49 1 = iI s45 1 := fm_iq Fs49 rfl
            have b52 := bi_4 Is49
            have b53 := bi_5 Is49
            have b54 := bi_6 Is49
            have b55 := bi_19 Is49
            have b56 := bi_16 Is49
            show WS k 150 [(0, .ref (A 19))] [.int (Int32.ofInt e50)] (Wd A dT s49) 0 0
            exact w_iret X.1 q hRt (nar_ret (by first | (clear hps49 he48 hps45 g30 hps28 hps12 g11 g9; omega) | (clear he48 hps45 g30 hps28 hps12 g11 g9; omega) | omega)) (ax_d X (show cdA 77 150 = some (.ireturn, 1, 0, 0, 0) from rfl)) (Nat.zero_le _) (Nat.zero_le _) ⟨_, rfl, Is49, Gs49, e50, rfl, hrs49, by first | (clear hps49 he48 hps45 g30 hps28 hps12 g11 g9; omega) | (clear he48 hps45 g30 hps28 hps12 g11 g9; omega) | omega⟩
          refine z_if_eq X (t := 145) rfl rfl hrs45 (fun g57 => ?_) (fun g57 => ?_)
          ·
            exact z_bipush X rfl (N47 _ (Or.inl ⟨g57, rfl⟩))
          ·
            exact z_bipush X rfl (z_goto X (t := 147) rfl rfl (N47 _ (Or.inr (⟨g57, rfl⟩))))
    ·
      refine z_aload_n X (x := A 19) rfl (List.Mem.head _) (z_callV X 19 (rm := rmN 80) (As := []) (st := []) rfl rfl (by decide) rfl (by rw [E.1, E.2.1, E.2.2.1]; exact c7_enter_19 G I (by first | exact p0 | omega) (by first | exact p1 | omega)) ⟨by rw [E.2.2.2]; exact (show 8 + 1 ≤ (12 + (4 * (r + 1) + 1)) from oq_8e0cc864 r), by rw [E.2.2.2]; exact (show 8 + (1 + 11) + 143 ≤ (500 + 45 * (4 * (r + 1) + 1)) from oq_333da77b r), by rw [E.2.2.2]; exact Nat.le_refl 0, by rw [E.2.2.2]; exact Nat.le_refl 0⟩ (Nat.le_of_ble_eq_true rfl) (fun vv s58 hq => ?_) (fun ee s58 hq => ?_))
      rotate_left
      · obtain ⟨Is58, Fs58, e59, hv, hrs58, hps58⟩ := hq; cases hv
      obtain ⟨Is58, Fs58, e59, hv, hrs58, hps58⟩ := hq
      have hps58p := And.intro hps58.2.1 (hps58.2.2)
      cases hv
      have Gs58 := fm_tq F Fs58 rfl rfl
      have b60 := bi_2 Is58
      have ws58_1 : iI s58 1 = iI s 1 := fm_iq Fs58 rfl
      have b61 := bi_4 Is58
      have b62 := bi_5 Is58
      have b63 := bi_6 Is58
      have b64 := bi_19 Is58
      have ws58_16 : iI s58 16 = iI s 16 := fm_iq Fs58 rfl
      show WS k 70 [(0, .ref (A 19))] [.int (Int32.ofInt e59)] (Wd A dT s58) 0 0
      refine z_if_eq X (t := 89) rfl rfl hrs58 (fun g65 => ?_) (fun g65 => ?_)
      ·
        refine z_const X rfl ?_
        exact w_iret X.1 q hRt (nar_ret (by first | exact Or.inl (by decide) | omega)) (ax_d X (show cdA 77 90 = some (.ireturn, 1, 0, 0, 0) from rfl)) (Nat.zero_le _) (Nat.zero_le _) ⟨_, rfl, Is58, Gs58, 0, rfl, (by decide), by first | exact ⟨Or.inl (by decide), hps58.2.1, hps58.2.2⟩ | omega⟩
      ·
        refine z_aload_n X (x := A 19) rfl (List.Mem.head _) (z_callV X 19 (rm := (rkR (4 * (r) + 3))) (As := []) (st := []) rfl rfl (by decide) rfl (by rw [E.1, E.2.1, E.2.2.1]; exact hS Is58 (by first | exact hps58.2.1 | omega) (by first | exact hps58.2.2 | omega) (by first | (clear g65 hps58 g9; omega) | (clear hps58 g9; omega) | omega)) ⟨by rw [E.2.2.2]; exact (show (12 + (4 * (r) + 3)) + 1 ≤ (12 + (4 * (r + 1) + 1)) from oq_40927492 r), by rw [E.2.2.2]; exact (show 8 + (3 + 11) + (500 + 45 * (4 * (r) + 3)) ≤ (500 + 45 * (4 * (r + 1) + 1)) from oq_c8d9c730 r), by rw [E.2.2.2]; exact Nat.le_refl 0, by rw [E.2.2.2]; exact Nat.le_refl 0⟩ (Nat.le_of_ble_eq_true rfl) (fun vv s66 hq => ?_) (fun ee s66 hq => ?_))
        rotate_left
        · obtain ⟨Is66, Fs66, e67, hv, hrs66, hps66⟩ := hq; cases hv
        obtain ⟨Is66, Fs66, e67, hv, hrs66, hps66⟩ := hq
        have hps66p := And.intro hps66.2.1 (hps66.2.2)
        cases hv
        have Gs66 := fm_tq Gs58 Fs66 rfl rfl
        have b68 := bi_2 Is66
        have ws66_1 : iI s66 1 = iI s58 1 := fm_iq Fs66 rfl
        have b69 := bi_4 Is66
        have b70 := bi_5 Is66
        have b71 := bi_6 Is66
        have b72 := bi_19 Is66
        have b73 := bi_16 Is66
        show WS k 77 [(0, .ref (A 19))] [.int (Int32.ofInt e67)] (Wd A dT s66) 0 0
        refine z_if_eq X (t := 89) rfl rfl hrs66 (fun g74 => ?_) (fun g74 => ?_)
        ·
          refine z_const X rfl ?_
          exact w_iret X.1 q hRt (nar_ret (by first | exact Or.inl (by decide) | omega)) (ax_d X (show cdA 77 90 = some (.ireturn, 1, 0, 0, 0) from rfl)) (Nat.zero_le _) (Nat.zero_le _) ⟨_, rfl, Is66, Gs66, 0, rfl, (by decide), by first | exact ⟨Or.inl (by decide), by first | (clear hps66 g65 hps58 g9; omega) | (clear g65 hps58 g9; omega) | omega, by first | (clear hps66 g65 hps58 g9; omega) | (clear g65 hps58 g9; omega) | omega⟩ | omega⟩
        ·
          refine z_aload_n X (x := A 19) rfl (List.Mem.head _) (z_bipush X rfl (z_callV X 19 (rm := rmN 81) (As := [.int (Int32.ofInt 41)]) (st := []) rfl rfl (by decide) rfl (by rw [E.1, E.2.1, E.2.2.1]; exact c7_pass_19 G Is66 (by first | exact ⟨by decide, by decide⟩ | omega) (by first | (clear g74 hps66 g65 hps58 g9; omega) | (clear hps66 g65 hps58 g9; omega) | omega) (by first | (clear g74 hps66 g65 hps58 g9; omega) | (clear hps66 g65 hps58 g9; omega) | omega)) ⟨by rw [E.2.2.2]; exact (show 8 + 1 ≤ (12 + (4 * (r + 1) + 1)) from oq_8e0cc864 r), by rw [E.2.2.2]; exact (show 8 + (2 + 11) + 143 ≤ (500 + 45 * (4 * (r + 1) + 1)) from oq_46451eae r), by rw [E.2.2.2]; exact Nat.le_refl 0, by rw [E.2.2.2]; exact Nat.le_refl 0⟩ (Nat.le_of_ble_eq_true rfl) (fun vv s75 hq => ?_) (fun ee s75 hq => ?_)))
          rotate_left
          · obtain ⟨Is75, Fs75, e76, hv, hrs75, hps75⟩ := hq; cases hv
          obtain ⟨Is75, Fs75, e76, hv, hrs75, hps75⟩ := hq
          have hps75p := And.intro hps75.2.1 (hps75.2.2)
          cases hv
          have Gs75 := fm_tq Gs66 Fs75 rfl rfl
          have b77 := bi_2 Is75
          have ws75_1 : iI s75 1 = iI s66 1 := fm_iq Fs75 rfl
          have b78 := bi_4 Is75
          have b79 := bi_5 Is75
          have b80 := bi_6 Is75
          have ws75_19 : iI s75 19 = iI s66 19 := fm_iq Fs75 rfl
          have ws75_16 : iI s75 16 = iI s66 16 := fm_iq Fs75 rfl
          show WS k 86 [(0, .ref (A 19))] [.int (Int32.ofInt e76)] (Wd A dT s75) 0 0
          refine z_if_ne X (t := 91) rfl rfl hrs75 (fun g81 => ?_) (fun g81 => ?_)
          ·
            refine z_aload_n X (x := A 19) rfl (List.Mem.head _) (w_dup X.1 (ax_d X (show cdA 77 92 = some (.dup, 1, 0, 0, 0) from rfl)) rfl (z_getI X 19 rfl (c518_ok rfl) rfl rfl ?_))
            have b82 := bi_19 Is75
            refine z_const X rfl (z_sub X rfl (s_putI X 19 rfl (c518_ok rfl) rfl rfl (by decide) rfl rfl rfl (wd_gen (fun s83 hs83 => ?_))))
            have Is83 : Bd s83 := eqB hs83 (bd_I Is75 (show (0 : Int) ≤ ((iI s75 19) - 1) ∧ ((iI s75 19) - 1) ≤ 6 by first | exact ⟨by first | (clear g81 hps75 g74 hps66 g65 hps58 g9; omega) | (clear hps75 g74 hps66 g65 hps58 g9; omega) | omega, oq_a9606c0d b82.2⟩ | omega) ⟨by first | exact oq_c1e961c7 b82.1 | omega, by first | exact oq_b383b26c b82.2 | omega⟩)
            have Fs83 := eqF hs83 (fm_I Gs75 (inl_ok (a := 19) rfl))
            have vs83 : iI s83 19 = ((iI s75 19) - 1) := eqI hs83 (iI_u ⟨by first | exact oq_c1e961c7 b82.1 | omega, by first | exact oq_b383b26c b82.2 | omega⟩)
            have ws83_2 : iI s83 2 = iI s75 2 := eqI hs83 rfl
            have ws83_1 : iI s83 1 = iI s75 1 := eqI hs83 rfl
            have ws83_4 : iI s83 4 = iI s75 4 := eqI hs83 rfl
            have ws83_5 : iI s83 5 = iI s75 5 := eqI hs83 rfl
            have ws83_6 : iI s83 6 = iI s75 6 := eqI hs83 rfl
            have ws83_16 : iI s83 16 = iI s75 16 := eqI hs83 rfl
            refine z_const X rfl ?_
            exact w_iret X.1 q hRt (nar_ret (by first | exact Or.inr (by decide) | omega)) (ax_d X (show cdA 77 102 = some (.ireturn, 1, 0, 0, 0) from rfl)) (Nat.zero_le _) (Nat.zero_le _) ⟨_, rfl, Is83, Fs83, 1, rfl, (by decide), by first | exact ⟨by first | (clear g81 hps75 g74 hps66 g65 hps58 g9; omega) | (clear hps75 g74 hps66 g65 hps58 g9; omega) | omega, oq_e7b9ecab ws83_1 ws83_2 hps75.2.1, oq_e7b9ecab ws83_2 ws83_4 hps75.2.2⟩ | omega⟩
          ·
            refine z_const X rfl ?_
            exact w_iret X.1 q hRt (nar_ret (by first | exact Or.inl (by decide) | omega)) (ax_d X (show cdA 77 90 = some (.ireturn, 1, 0, 0, 0) from rfl)) (Nat.zero_le _) (Nat.zero_le _) ⟨_, rfl, Is75, Gs75, 0, rfl, (by decide), by first | exact ⟨Or.inl (by decide), hps75.2.1, hps75.2.2⟩ | omega⟩
  ·
    refine z_aload_n X (x := A 19) rfl (List.Mem.head _) (s_getR X 19 rfl (c518_ok rfl) rfl rfl (z_getI X 1 rfl (c518_ok rfl) rfl rfl ?_))
    have b84 := bi_6 I
    refine z_sipush X rfl (z_icmp_le X (t := 34) rfl rfl (rng_to _) (by decide) (fun g85 => ?_) (fun g85 => ?_))
    ·
      refine z_aload_n X (x := A 19) rfl (List.Mem.head _) (z_aload_n X (x := A 19) rfl (List.Mem.head _) (s_getR X 19 rfl (c518_ok rfl) rfl rfl (z_getI X 1 rfl (c518_ok rfl) rfl rfl ?_)))
      have b86 := bi_6 I
      refine z_callV X 19 (rm := rmN 82) (As := [.int (Int32.ofInt (iI s 6))]) (st := []) rfl rfl (by decide) rfl (by rw [E.1, E.2.1, E.2.2.1]; exact c7_put_19 G I (by first | exact ⟨oq_fa4e5087 b86.1, oq_25953902 b86.2⟩ | omega)) ⟨by rw [E.2.2.2]; exact (show 6 + 1 ≤ (12 + (4 * (r + 1) + 1)) from oq_76ff689a r), by rw [E.2.2.2]; exact (show 8 + (2 + 11) + 100 ≤ (500 + 45 * (4 * (r + 1) + 1)) from oq_0822d50d r), by rw [E.2.2.2]; exact Nat.le_refl 0, by rw [E.2.2.2]; exact Nat.le_refl 0⟩ (Nat.le_of_ble_eq_true rfl) (fun vv s87 hq => ?_) (fun ee s87 hq => ?_)
      rotate_left
      · obtain ⟨Is87, Fs87, hv, hps87⟩ := hq; cases hv
      obtain ⟨Is87, Fs87, hv, hps87⟩ := hq
      cases hv
      have Gs87 := fm_tq F Fs87 rfl rfl
      have ws87_2 : iI s87 2 = iI s 2 := fm_iq Fs87 rfl
      have ws87_1 : iI s87 1 = iI s 1 := fm_iq Fs87 rfl
      have ws87_4 : iI s87 4 = iI s 4 := fm_iq Fs87 rfl
      have ws87_5 : iI s87 5 = iI s 5 := fm_iq Fs87 rfl
      have ws87_6 : iI s87 6 = iI s 6 := fm_iq Fs87 rfl
      have ws87_19 : iI s87 19 = iI s 19 := fm_iq Fs87 rfl
      have b89 := bi_16 Is87
      show WS k 45 [(0, .ref (A 19))] [] (Wd A dT s87) 0 0
      refine z_aload_n X (x := A 19) rfl (List.Mem.head _) (s_getR X 19 rfl (c518_ok rfl) rfl rfl (z_callV X 1 (rm := rmN 129) (As := []) (st := []) rfl rfl (by decide) rfl (by rw [E.1, E.2.1, E.2.2.1]; exact c10_step_1 G Is87 (by first | exact oq_e7b9ecab ws87_1 ws87_2 p0 | omega)) ⟨by rw [E.2.2.2]; exact (show 7 + 1 ≤ (12 + (4 * (r + 1) + 1)) from oq_9b435bb4 r), by rw [E.2.2.2]; exact (show 8 + (1 + 11) + 121 ≤ (500 + 45 * (4 * (r + 1) + 1)) from oq_f85a7cd7 r), by rw [E.2.2.2]; exact Nat.le_refl 0, by rw [E.2.2.2]; exact Nat.le_refl 0⟩ (Nat.le_of_ble_eq_true rfl) (fun vv s90 hq => ?_) (fun ee s90 hq => ?_)))
      rotate_left
      · obtain ⟨Is90, Fs90, hv, hps90⟩ := hq; cases hv
      obtain ⟨Is90, Fs90, hv, hps90⟩ := hq
      cases hv
      have Gs90 := fm_tq Gs87 Fs90 rfl rfl
      have b92 := bi_2 Is90
      have ws90_1 : iI s90 1 = iI s87 1 := fm_iq Fs90 rfl
      have b93 := bi_4 Is90
      have b94 := bi_5 Is90
      have b95 := bi_6 Is90
      have ws90_19 : iI s90 19 = iI s87 19 := fm_iq Fs90 rfl
      have ws90_16 : iI s90 16 = iI s87 16 := fm_iq Fs90 rfl
      show WS k 52 [(0, .ref (A 19))] [] (Wd A dT s90) 0 0
      refine z_const X rfl ?_
      exact w_iret X.1 q hRt (nar_ret (by first | exact Or.inr (by decide) | omega)) (ax_d X (show cdA 77 53 = some (.ireturn, 1, 0, 0, 0) from rfl)) (Nat.zero_le _) (Nat.zero_le _) ⟨_, rfl, Is90, Gs90, 1, rfl, (by decide), by first | exact ⟨Or.inr (And.intro (by decide) (oq_1aa5be9e ws90_19 ws87_19)), hps90.1, hps90.2⟩ | omega⟩
    ·
      refine z_aload_n X (x := A 19) rfl (List.Mem.head _) (s_getR X 19 rfl (c518_ok rfl) rfl rfl (z_const X rfl (z_callV X 1 (rm := rmN 132) (As := [.int (Int32.ofInt 2)]) (st := []) rfl rfl (by decide) rfl (by rw [E.1, E.2.1, E.2.2.1]; exact c10_refuse_1 G I (by first | exact ⟨by decide, by decide⟩ | omega)) ⟨by rw [E.2.2.2]; exact (show 7 + 1 ≤ (12 + (4 * (r + 1) + 1)) from oq_9b435bb4 r), by rw [E.2.2.2]; exact (show 8 + (2 + 11) + 122 ≤ (500 + 45 * (4 * (r + 1) + 1)) from oq_1c2c1baf r), by rw [E.2.2.2]; exact Nat.le_refl 0, by rw [E.2.2.2]; exact Nat.le_refl 0⟩ (Nat.le_of_ble_eq_true rfl) (fun vv s96 hq => ?_) (fun ee s96 hq => ?_))))
      rotate_left
      · obtain ⟨Is96, Fs96, e97, hv, hrs96, hps96⟩ := hq; cases hv
      obtain ⟨Is96, Fs96, e97, hv, hrs96, hps96⟩ := hq
      cases hv
      have Gs96 := fm_tq F Fs96 rfl rfl
      have ws96_2 : iI s96 2 = iI s 2 := fm_iq Fs96 rfl
      have ws96_1 : iI s96 1 = iI s 1 := fm_iq Fs96 rfl
      have ws96_4 : iI s96 4 = iI s 4 := fm_iq Fs96 rfl
      have ws96_5 : iI s96 5 = iI s 5 := fm_iq Fs96 rfl
      have ws96_6 : iI s96 6 = iI s 6 := fm_iq Fs96 rfl
      have ws96_19 : iI s96 19 = iI s 19 := fm_iq Fs96 rfl
      have ws96_16 : iI s96 16 = iI s 16 := fm_iq Fs96 rfl
      show WS k 33 [(0, .ref (A 19))] [.int (Int32.ofInt e97)] (Wd A dT s96) 0 0
      exact w_iret X.1 q hRt (nar_ret (by first | exact Or.inl (hps96) | omega)) (ax_d X (show cdA 77 33 = some (.ireturn, 1, 0, 0, 0) from rfl)) (Nat.zero_le _) (Nat.zero_le _) ⟨_, rfl, Is96, Gs96, e97, rfl, hrs96, by first | exact ⟨Or.inl (hps96), oq_e7b9ecab ws96_1 ws96_2 p0, oq_e7b9ecab ws96_2 ws96_4 p1⟩ | omega⟩
set_option maxRecDepth 4000 in
theorem c7_prodS (G : GX l s0 D tys a0 dT) (SF : SF0 s0) (GT : TXs0 s0) {r : Nat} (hU : ∀ {s : PS} , Bd s → (iI s 2 ≤ iI s 1) → (iI s 4 ≤ iI s 2) → (6 - iI s 19 ≤ ((r : Nat) : Int)) → CT l s0 D A dT 77 (rkR (4 * (r) + 1)) [.ref (A 19)] s (fun o t => Bd t ∧ Fm [2, 4, 6, 5, 7, 8, 19, 16] [18] s t ∧ ∃ e, o = .inl (some (.int (Int32.ofInt e))) ∧ rng e ∧ ((e = 0 ∨ (e = 1 ∧ iI t 19 = iI s 19)) ∧ iI t 2 ≤ iI t 1 ∧ iI t 4 ≤ iI t 2))) (I : Bd s) (p0 : iI s 2 ≤ iI s 1) (p1 : iI s 4 ≤ iI s 2) (p2 : 6 - iI s 19 ≤ ((r : Nat) : Int)) : CT l s0 D A dT 76 (rkR (4 * (r) + 2)) [.ref (A 19)] s (fun o t => Bd t ∧ Fm [2, 4, 6, 5, 7, 8, 19, 16] [18] s t ∧ ∃ e, o = .inl (some (.int (Int32.ofInt e))) ∧ rng e ∧ ((e = 0 ∨ (e = 1 ∧ iI t 19 = iI s 19)) ∧ iI t 2 ≤ iI t 1 ∧ iI t 4 ≤ iI t 2)) := by
  refine ct_ofX G (by decide) (Nat.le_of_ble_eq_true rfl) (fun k X E ET hRt hXt q => ?_)
  show WS k 0 [(0, .ref (A 19))] [] _ 0 0
  have F : Fm [2, 4, 6, 5, 7, 8, 19, 16] [18] s s := fm_rf _ _ s
  have b1 := bi_2 I
  have b2 := bi_1 I
  have b3 := bi_4 I
  have b4 := bi_5 I
  have b5 := bi_6 I
  have b6 := bi_19 I
  have b7 := bi_16 I
  have L11 : ∀ (n : Nat) (t : PS) (c : Int), Bd t → Fm [2, 4, 6, 5, 7, 8, 19, 16] [18] s t → (0 ≤ c ∧ c ≤ 200 ∧ iI t 19 = iI s 19 ∧ iI t 2 ≤ iI t 1 ∧ iI t 4 ≤ iI t 2) → (200 - c : Int).toNat < n → (∀ (t' : PS) (c' : Int), Bd t' → Fm [2, 4, 6, 5, 7, 8, 19, 16] [18] s t' → (0 ≤ c' ∧ c' ≤ 200 ∧ iI t' 19 = iI s 19 ∧ iI t' 2 ≤ iI t' 1 ∧ iI t' 4 ≤ iI t' 2) → WS k 89 [(0, .ref (A 19)), (1, .int (Int32.ofInt c'))] [] (Wd A dT t') 0 0) → WS k 11 [(0, .ref (A 19)), (1, .int (Int32.ofInt c))] [] (Wd A dT t) 0 0 := by
    intro n
    induction n with
    | zero =>
      intro t c I F hi hm kx
      exact absurd hm (Nat.not_lt_zero _)
    | succ n ih =>
      intro t c I F hi hm kx
      have b1001 := bi_2 I
      have b1002 := bi_1 I
      have b1003 := bi_4 I
      have b1004 := bi_5 I
      have b1005 := bi_6 I
      have b1006 := bi_19 I
      have b1007 := bi_16 I
      refine z_load_n X (x := c) rfl (List.Mem.tail _ (List.Mem.head _)) (z_sipush X rfl (z_icmp_ge X (t := 89) rfl rfl ⟨by first | exact oq_fa4e5087 hi.1 | omega, by first | exact oq_52af2b96 hi.2.1 | omega⟩ (by decide) (fun g1008 => ?_) (fun g1008 => ?_)))
      ·
        refine WS_pq [0, 1] (lv' := [(0, .ref (A 19)), (1, .int (Int32.ofInt c))]) rfl ?_
        exact kx _ c I F (by first | exact ⟨hi.1, hi.2.1, hi.2.2.1, hi.2.2.2.1, hi.2.2.2.2⟩ | omega)
      ·
        refine z_aload_n X (x := A 19) rfl (List.Mem.head _) (s_getR X 19 rfl (c518_ok rfl) rfl rfl (z_getI X 1 rfl (c518_ok rfl) rfl rfl ?_))
        have b1009 := bi_5 I
        refine z_bipush X rfl (z_icmp_eq X (t := 42) rfl rfl (rng_to _) (by decide) (fun g1010 => ?_) (fun g1010 => ?_))
        ·
          refine z_aload_n X (x := A 19) rfl (List.Mem.head _) (s_getR X 19 rfl (c518_ok rfl) rfl rfl (z_getI X 1 rfl (c518_ok rfl) rfl rfl ?_))
          have b1011 := bi_5 I
          refine z_bipush X rfl ?_
          have N1012 : ∀ e1013 : Int, ((((iI t 5) ≠ 42) ∧ e1013 = (-12)) ∨ (((iI t 5) = 42) ∧ e1013 = (-11))) → WS k 61 [(0, .ref (A 19)), (1, .int (Int32.ofInt c))] [.int (Int32.ofInt e1013)] (Wd A dT t) 0 0 := by
            intro e1013 he1013
            have re1013 : (-12) ≤ e1013 ∧ e1013 ≤ (-11) := by first | (clear he1013; omega) | omega
            refine z_store_n X (lv' := [(2, .int (Int32.ofInt e1013)), (0, .ref (A 19)), (1, .int (Int32.ofInt c))]) rfl (by decide) (fun _ h => h) (z_aload_n X (x := A 19) rfl (List.Mem.tail _ (List.Mem.head _)) (s_getR X 19 rfl (c518_ok rfl) rfl rfl (z_callV X 1 (rm := rmN 129) (As := []) (st := []) rfl rfl (by decide) rfl (by rw [E.1, E.2.1, E.2.2.1]; exact c10_step_1 G I (by first | exact hi.2.2.2.1 | omega)) ⟨by rw [E.2.2.2]; exact (show 7 + 1 ≤ (12 + (4 * (r) + 2)) from oq_4941a422 r), by rw [E.2.2.2]; exact (show 8 + (1 + 11) + 121 ≤ (500 + 45 * (4 * (r) + 2)) from oq_a823803b r), by rw [E.2.2.2]; exact Nat.le_refl 0, by rw [E.2.2.2]; exact Nat.le_refl 0⟩ (Nat.le_of_ble_eq_true rfl) (fun vv s1014 hq => ?_) (fun ee s1014 hq => ?_))))
            rotate_left
            · obtain ⟨Is1014, Fs1014, hv, hps1014⟩ := hq; cases hv
            obtain ⟨Is1014, Fs1014, hv, hps1014⟩ := hq
            cases hv
            have Gs1014 := fm_tq F Fs1014 rfl rfl
            have b1016 := bi_2 Is1014
            have ws1014_1 : iI s1014 1 = iI t 1 := fm_iq Fs1014 rfl
            have b1017 := bi_4 Is1014
            have b1018 := bi_5 Is1014
            have b1019 := bi_6 Is1014
            have ws1014_19 : iI s1014 19 = iI t 19 := fm_iq Fs1014 rfl
            have ws1014_16 : iI s1014 16 = iI t 16 := fm_iq Fs1014 rfl
            show WS k 69 [(2, .int (Int32.ofInt e1013)), (0, .ref (A 19)), (1, .int (Int32.ofInt c))] [] (Wd A dT s1014) 0 0
            refine z_aload_n X (x := A 19) rfl (List.Mem.tail _ (List.Mem.head _)) (z_callV X 19 (rm := (rkR (4 * (r) + 1))) (As := []) (st := []) rfl rfl (by decide) rfl (by rw [E.1, E.2.1, E.2.2.1]; exact hU Is1014 (by first | exact hps1014.1 | omega) (by first | exact hps1014.2 | omega) (by first | exact oq_abe4e353 p2 ws1014_19 hi.2.2.1 | omega)) ⟨by rw [E.2.2.2]; exact (show (12 + (4 * (r) + 1)) + 1 ≤ (12 + (4 * (r) + 2)) from oq_dbb6b233 r), by rw [E.2.2.2]; exact (show 8 + (2 + 11) + (500 + 45 * (4 * (r) + 1)) ≤ (500 + 45 * (4 * (r) + 2)) from oq_0cecdb5e r), by rw [E.2.2.2]; exact Nat.le_refl 0, by rw [E.2.2.2]; exact Nat.le_refl 0⟩ (Nat.le_of_ble_eq_true rfl) (fun vv s1020 hq => ?_) (fun ee s1020 hq => ?_))
            rotate_left
            · obtain ⟨Is1020, Fs1020, e1021, hv, hrs1020, hps1020⟩ := hq; cases hv
            obtain ⟨Is1020, Fs1020, e1021, hv, hrs1020, hps1020⟩ := hq
            have hps1020p := And.intro hps1020.2.1 (hps1020.2.2)
            cases hv
            have Gs1020 := fm_tq Gs1014 Fs1020 rfl rfl
            have b1022 := bi_2 Is1020
            have ws1020_1 : iI s1020 1 = iI s1014 1 := fm_iq Fs1020 rfl
            have b1023 := bi_4 Is1020
            have b1024 := bi_5 Is1020
            have b1025 := bi_6 Is1020
            have b1026 := bi_19 Is1020
            have b1027 := bi_16 Is1020
            show WS k 73 [(2, .int (Int32.ofInt e1013)), (0, .ref (A 19)), (1, .int (Int32.ofInt c))] [.int (Int32.ofInt e1021)] (Wd A dT s1020) 0 0
            refine z_if_ne X (t := 78) rfl rfl hrs1020 (fun g1028 => ?_) (fun g1028 => ?_)
            ·
              refine z_aload_n X (x := A 19) rfl (List.Mem.tail _ (List.Mem.head _)) (z_load_n X (x := e1013) rfl (List.Mem.head _) (z_callV X 19 (rm := rmN 82) (As := [.int (Int32.ofInt e1013)]) (st := []) rfl rfl (by decide) rfl (by rw [E.1, E.2.1, E.2.2.1]; exact c7_put_19 G Is1020 (by first | exact ⟨oq_b4ff86be re1013.1, oq_8c06164c re1013.2⟩ | omega)) ⟨by rw [E.2.2.2]; exact (show 6 + 1 ≤ (12 + (4 * (r) + 2)) from oq_d8760254 r), by rw [E.2.2.2]; exact (show 8 + (2 + 11) + 100 ≤ (500 + 45 * (4 * (r) + 2)) from oq_29829ae4 r), by rw [E.2.2.2]; exact Nat.le_refl 0, by rw [E.2.2.2]; exact Nat.le_refl 0⟩ (Nat.le_of_ble_eq_true rfl) (fun vv s1029 hq => ?_) (fun ee s1029 hq => ?_)))
              rotate_left
              · obtain ⟨Is1029, Fs1029, hv, hps1029⟩ := hq; cases hv
              obtain ⟨Is1029, Fs1029, hv, hps1029⟩ := hq
              cases hv
              have Gs1029 := fm_tq Gs1020 Fs1029 rfl rfl
              have ws1029_2 : iI s1029 2 = iI s1020 2 := fm_iq Fs1029 rfl
              have ws1029_1 : iI s1029 1 = iI s1020 1 := fm_iq Fs1029 rfl
              have ws1029_4 : iI s1029 4 = iI s1020 4 := fm_iq Fs1029 rfl
              have ws1029_5 : iI s1029 5 = iI s1020 5 := fm_iq Fs1029 rfl
              have ws1029_6 : iI s1029 6 = iI s1020 6 := fm_iq Fs1029 rfl
              have ws1029_19 : iI s1029 19 = iI s1020 19 := fm_iq Fs1029 rfl
              have b1031 := bi_16 Is1029
              show WS k 83 [(2, .int (Int32.ofInt e1013)), (0, .ref (A 19)), (1, .int (Int32.ofInt c))] [] (Wd A dT s1029) 0 0
              refine z_inc X (x := c) (lv' := [(1, .int (Int32.ofInt (c + 1))), (2, .int (Int32.ofInt e1013)), (0, .ref (A 19))]) rfl (by decide) (List.Mem.tail _ (List.Mem.tail _ (List.Mem.head _))) (fun _ h => h) (z_goto X (t := 11) rfl rfl (WS_pq [2, 0] (lv' := [(0, .ref (A 19)), (1, .int (Int32.ofInt (c + 1)))]) rfl ?_))
              exact ih _ (c + 1) Is1029 Gs1029 (by first | (clear g1028 hps1020 he1013; omega) | (clear hps1020 he1013; omega) | omega) (by first | exact qk_me hm (by decide) (oq_1ab01402 g1008) | omega) kx
            ·
              refine z_const X rfl ?_
              exact w_iret X.1 q hRt (nar_ret (by first | exact Or.inl (by decide) | omega)) (ax_d X (show cdA 76 77 = some (.ireturn, 1, 0, 0, 0) from rfl)) (Nat.zero_le _) (Nat.zero_le _) ⟨_, rfl, Is1020, Gs1020, 0, rfl, (by decide), by first | exact ⟨Or.inl (by decide), by first | (clear hps1020 he1013; omega) | (clear he1013; omega) | omega, by first | (clear hps1020 he1013; omega) | (clear he1013; omega) | omega⟩ | omega⟩
          refine z_icmp_ne X (t := 59) rfl rfl (rng_to _) (by decide) (fun g1032 => ?_) (fun g1032 => ?_)
          ·
            exact z_bipush X rfl (N1012 _ (Or.inl ⟨g1032, rfl⟩))
          ·
            exact z_bipush X rfl (z_goto X (t := 61) rfl rfl (N1012 _ (Or.inr (⟨g1032, rfl⟩))))
        ·
          refine z_aload_n X (x := A 19) rfl (List.Mem.head _) (s_getR X 19 rfl (c518_ok rfl) rfl rfl (z_getI X 1 rfl (c518_ok rfl) rfl rfl ?_))
          have b1033 := bi_5 I
          refine z_bipush X rfl (z_icmp_ne X (t := 89) rfl rfl (rng_to _) (by decide) (fun g1034 => ?_) (fun g1034 => ?_))
          ·
            refine WS_pq [0, 1] (lv' := [(0, .ref (A 19)), (1, .int (Int32.ofInt c))]) rfl ?_
            exact kx _ c I F (by first | exact ⟨hi.1, hi.2.1, hi.2.2.1, hi.2.2.2.1, hi.2.2.2.2⟩ | omega)
          ·
            refine z_aload_n X (x := A 19) rfl (List.Mem.head _) (s_getR X 19 rfl (c518_ok rfl) rfl rfl (z_getI X 1 rfl (c518_ok rfl) rfl rfl ?_))
            have b1035 := bi_5 I
            refine z_bipush X rfl ?_
            have N1036 : ∀ e1037 : Int, ((((iI t 5) ≠ 42) ∧ e1037 = (-12)) ∨ (((iI t 5) = 42) ∧ e1037 = (-11))) → WS k 61 [(0, .ref (A 19)), (1, .int (Int32.ofInt c))] [.int (Int32.ofInt e1037)] (Wd A dT t) 0 0 := by
              intro e1037 he1037
              have re1037 : (-12) ≤ e1037 ∧ e1037 ≤ (-11) := by first | (clear he1037 g1010; omega) | (clear g1010; omega) | omega
              refine z_store_n X (lv' := [(2, .int (Int32.ofInt e1037)), (0, .ref (A 19)), (1, .int (Int32.ofInt c))]) rfl (by decide) (fun _ h => h) (z_aload_n X (x := A 19) rfl (List.Mem.tail _ (List.Mem.head _)) (s_getR X 19 rfl (c518_ok rfl) rfl rfl (z_callV X 1 (rm := rmN 129) (As := []) (st := []) rfl rfl (by decide) rfl (by rw [E.1, E.2.1, E.2.2.1]; exact c10_step_1 G I (by first | exact hi.2.2.2.1 | omega)) ⟨by rw [E.2.2.2]; exact (show 7 + 1 ≤ (12 + (4 * (r) + 2)) from oq_4941a422 r), by rw [E.2.2.2]; exact (show 8 + (1 + 11) + 121 ≤ (500 + 45 * (4 * (r) + 2)) from oq_a823803b r), by rw [E.2.2.2]; exact Nat.le_refl 0, by rw [E.2.2.2]; exact Nat.le_refl 0⟩ (Nat.le_of_ble_eq_true rfl) (fun vv s1038 hq => ?_) (fun ee s1038 hq => ?_))))
              rotate_left
              · obtain ⟨Is1038, Fs1038, hv, hps1038⟩ := hq; cases hv
              obtain ⟨Is1038, Fs1038, hv, hps1038⟩ := hq
              cases hv
              have Gs1038 := fm_tq F Fs1038 rfl rfl
              have b1040 := bi_2 Is1038
              have ws1038_1 : iI s1038 1 = iI t 1 := fm_iq Fs1038 rfl
              have b1041 := bi_4 Is1038
              have b1042 := bi_5 Is1038
              have b1043 := bi_6 Is1038
              have ws1038_19 : iI s1038 19 = iI t 19 := fm_iq Fs1038 rfl
              have ws1038_16 : iI s1038 16 = iI t 16 := fm_iq Fs1038 rfl
              show WS k 69 [(2, .int (Int32.ofInt e1037)), (0, .ref (A 19)), (1, .int (Int32.ofInt c))] [] (Wd A dT s1038) 0 0
              refine z_aload_n X (x := A 19) rfl (List.Mem.tail _ (List.Mem.head _)) (z_callV X 19 (rm := (rkR (4 * (r) + 1))) (As := []) (st := []) rfl rfl (by decide) rfl (by rw [E.1, E.2.1, E.2.2.1]; exact hU Is1038 (by first | exact hps1038.1 | omega) (by first | exact hps1038.2 | omega) (by first | exact oq_abe4e353 p2 ws1038_19 hi.2.2.1 | omega)) ⟨by rw [E.2.2.2]; exact (show (12 + (4 * (r) + 1)) + 1 ≤ (12 + (4 * (r) + 2)) from oq_dbb6b233 r), by rw [E.2.2.2]; exact (show 8 + (2 + 11) + (500 + 45 * (4 * (r) + 1)) ≤ (500 + 45 * (4 * (r) + 2)) from oq_0cecdb5e r), by rw [E.2.2.2]; exact Nat.le_refl 0, by rw [E.2.2.2]; exact Nat.le_refl 0⟩ (Nat.le_of_ble_eq_true rfl) (fun vv s1044 hq => ?_) (fun ee s1044 hq => ?_))
              rotate_left
              · obtain ⟨Is1044, Fs1044, e1045, hv, hrs1044, hps1044⟩ := hq; cases hv
              obtain ⟨Is1044, Fs1044, e1045, hv, hrs1044, hps1044⟩ := hq
              have hps1044p := And.intro hps1044.2.1 (hps1044.2.2)
              cases hv
              have Gs1044 := fm_tq Gs1038 Fs1044 rfl rfl
              have b1046 := bi_2 Is1044
              have ws1044_1 : iI s1044 1 = iI s1038 1 := fm_iq Fs1044 rfl
              have b1047 := bi_4 Is1044
              have b1048 := bi_5 Is1044
              have b1049 := bi_6 Is1044
              have b1050 := bi_19 Is1044
              have b1051 := bi_16 Is1044
              show WS k 73 [(2, .int (Int32.ofInt e1037)), (0, .ref (A 19)), (1, .int (Int32.ofInt c))] [.int (Int32.ofInt e1045)] (Wd A dT s1044) 0 0
              refine z_if_ne X (t := 78) rfl rfl hrs1044 (fun g1052 => ?_) (fun g1052 => ?_)
              ·
                refine z_aload_n X (x := A 19) rfl (List.Mem.tail _ (List.Mem.head _)) (z_load_n X (x := e1037) rfl (List.Mem.head _) (z_callV X 19 (rm := rmN 82) (As := [.int (Int32.ofInt e1037)]) (st := []) rfl rfl (by decide) rfl (by rw [E.1, E.2.1, E.2.2.1]; exact c7_put_19 G Is1044 (by first | exact ⟨oq_b4ff86be re1037.1, oq_8c06164c re1037.2⟩ | omega)) ⟨by rw [E.2.2.2]; exact (show 6 + 1 ≤ (12 + (4 * (r) + 2)) from oq_d8760254 r), by rw [E.2.2.2]; exact (show 8 + (2 + 11) + 100 ≤ (500 + 45 * (4 * (r) + 2)) from oq_29829ae4 r), by rw [E.2.2.2]; exact Nat.le_refl 0, by rw [E.2.2.2]; exact Nat.le_refl 0⟩ (Nat.le_of_ble_eq_true rfl) (fun vv s1053 hq => ?_) (fun ee s1053 hq => ?_)))
                rotate_left
                · obtain ⟨Is1053, Fs1053, hv, hps1053⟩ := hq; cases hv
                obtain ⟨Is1053, Fs1053, hv, hps1053⟩ := hq
                cases hv
                have Gs1053 := fm_tq Gs1044 Fs1053 rfl rfl
                have ws1053_2 : iI s1053 2 = iI s1044 2 := fm_iq Fs1053 rfl
                have ws1053_1 : iI s1053 1 = iI s1044 1 := fm_iq Fs1053 rfl
                have ws1053_4 : iI s1053 4 = iI s1044 4 := fm_iq Fs1053 rfl
                have ws1053_5 : iI s1053 5 = iI s1044 5 := fm_iq Fs1053 rfl
                have ws1053_6 : iI s1053 6 = iI s1044 6 := fm_iq Fs1053 rfl
                have ws1053_19 : iI s1053 19 = iI s1044 19 := fm_iq Fs1053 rfl
                have b1055 := bi_16 Is1053
                show WS k 83 [(2, .int (Int32.ofInt e1037)), (0, .ref (A 19)), (1, .int (Int32.ofInt c))] [] (Wd A dT s1053) 0 0
                refine z_inc X (x := c) (lv' := [(1, .int (Int32.ofInt (c + 1))), (2, .int (Int32.ofInt e1037)), (0, .ref (A 19))]) rfl (by decide) (List.Mem.tail _ (List.Mem.tail _ (List.Mem.head _))) (fun _ h => h) (z_goto X (t := 11) rfl rfl (WS_pq [2, 0] (lv' := [(0, .ref (A 19)), (1, .int (Int32.ofInt (c + 1)))]) rfl ?_))
                exact ih _ (c + 1) Is1053 Gs1053 (by first | (clear g1052 hps1044 he1037 g1010; omega) | (clear hps1044 he1037 g1010; omega) | omega) (by first | exact qk_me hm (by decide) (oq_1ab01402 g1008) | omega) kx
              ·
                refine z_const X rfl ?_
                exact w_iret X.1 q hRt (nar_ret (by first | exact Or.inl (by decide) | omega)) (ax_d X (show cdA 76 77 = some (.ireturn, 1, 0, 0, 0) from rfl)) (Nat.zero_le _) (Nat.zero_le _) ⟨_, rfl, Is1044, Gs1044, 0, rfl, (by decide), by first | exact ⟨Or.inl (by decide), by first | (clear hps1044 he1037 g1010; omega) | (clear he1037 g1010; omega) | omega, by first | (clear hps1044 he1037 g1010; omega) | (clear he1037 g1010; omega) | omega⟩ | omega⟩
            refine z_icmp_ne X (t := 59) rfl rfl (rng_to _) (by decide) (fun g1056 => ?_) (fun g1056 => ?_)
            ·
              exact z_bipush X rfl (N1036 _ (Or.inl ⟨g1056, rfl⟩))
            ·
              exact z_bipush X rfl (z_goto X (t := 61) rfl rfl (N1036 _ (Or.inr (⟨g1056, rfl⟩))))
  refine z_aload_n X (x := A 19) rfl (List.Mem.head _) (z_callV X 19 (rm := (rkR (4 * (r) + 1))) (As := []) (st := []) rfl rfl (by decide) rfl (by rw [E.1, E.2.1, E.2.2.1]; exact hU I (by first | exact p0 | omega) (by first | exact p1 | omega) (by first | exact p2 | omega)) ⟨by rw [E.2.2.2]; exact (show (12 + (4 * (r) + 1)) + 1 ≤ (12 + (4 * (r) + 2)) from oq_dbb6b233 r), by rw [E.2.2.2]; exact (show 8 + (2 + 11) + (500 + 45 * (4 * (r) + 1)) ≤ (500 + 45 * (4 * (r) + 2)) from oq_0cecdb5e r), by rw [E.2.2.2]; exact Nat.le_refl 0, by rw [E.2.2.2]; exact Nat.le_refl 0⟩ (Nat.le_of_ble_eq_true rfl) (fun vv s8 hq => ?_) (fun ee s8 hq => ?_))
  rotate_left
  · obtain ⟨Is8, Fs8, e9, hv, hrs8, hps8⟩ := hq; cases hv
  obtain ⟨Is8, Fs8, e9, hv, hrs8, hps8⟩ := hq
  have hps8p := And.intro hps8.2.1 (hps8.2.2)
  cases hv
  have Gs8 := fm_tq F Fs8 rfl rfl
  have b10 := bi_2 Is8
  have ws8_1 : iI s8 1 = iI s 1 := fm_iq Fs8 rfl
  have b11 := bi_4 Is8
  have b12 := bi_5 Is8
  have b13 := bi_6 Is8
  have b14 := bi_19 Is8
  have b15 := bi_16 Is8
  show WS k 4 [(0, .ref (A 19))] [.int (Int32.ofInt e9)] (Wd A dT s8) 0 0
  refine z_if_ne X (t := 9) rfl rfl hrs8 (fun g16 => ?_) (fun g16 => ?_)
  ·
    refine z_const X rfl (z_store_n X (lv' := [(1, .int (Int32.ofInt 0)), (0, .ref (A 19))]) rfl (by decide) (fun _ h => h) (WS_pq [1, 0] (lv' := [(0, .ref (A 19)), (1, .int (Int32.ofInt 0))]) rfl (L11 ((200 - 0 : Int).toNat + 1) s8 0 Is8 Gs8 (by first | (clear g16 hps8; omega) | (clear hps8; omega) | omega) (Nat.lt_succ_self _) ?_)))
    intro s17 x18 Is17 Fs17 hs17
    have b19 := bi_2 Is17
    have b20 := bi_1 Is17
    have b21 := bi_4 Is17
    have b22 := bi_5 Is17
    have b23 := bi_6 Is17
    have b24 := bi_19 Is17
    have b25 := bi_16 Is17
    refine z_const X rfl ?_
    exact w_iret X.1 q hRt (nar_ret (by first | exact Or.inr (by decide) | omega)) (ax_d X (show cdA 76 90 = some (.ireturn, 1, 0, 0, 0) from rfl)) (Nat.zero_le _) (Nat.zero_le _) ⟨_, rfl, Is17, Fs17, 1, rfl, (by decide), by first | exact ⟨Or.inr (And.intro (by decide) (hs17.2.2.1)), hs17.2.2.2.1, hs17.2.2.2.2⟩ | omega⟩
  ·
    refine z_const X rfl ?_
    exact w_iret X.1 q hRt (nar_ret (by first | exact Or.inl (by decide) | omega)) (ax_d X (show cdA 76 8 = some (.ireturn, 1, 0, 0, 0) from rfl)) (Nat.zero_le _) (Nat.zero_le _) ⟨_, rfl, Is8, Gs8, 0, rfl, (by decide), by first | exact ⟨Or.inl (by decide), by first | (clear hps8; omega) | omega, by first | (clear hps8; omega) | omega⟩ | omega⟩
set_option maxRecDepth 4000 in
theorem c7_sumS (G : GX l s0 D tys a0 dT) (SF : SF0 s0) (GT : TXs0 s0) {r : Nat} (hP : ∀ {s : PS} , Bd s → (iI s 2 ≤ iI s 1) → (iI s 4 ≤ iI s 2) → (6 - iI s 19 ≤ ((r : Nat) : Int)) → CT l s0 D A dT 76 (rkR (4 * (r) + 2)) [.ref (A 19)] s (fun o t => Bd t ∧ Fm [2, 4, 6, 5, 7, 8, 19, 16] [18] s t ∧ ∃ e, o = .inl (some (.int (Int32.ofInt e))) ∧ rng e ∧ ((e = 0 ∨ (e = 1 ∧ iI t 19 = iI s 19)) ∧ iI t 2 ≤ iI t 1 ∧ iI t 4 ≤ iI t 2))) (I : Bd s) (p0 : iI s 2 ≤ iI s 1) (p1 : iI s 4 ≤ iI s 2) (p2 : 6 - iI s 19 ≤ ((r : Nat) : Int)) : CT l s0 D A dT 75 (rkR (4 * (r) + 3)) [.ref (A 19)] s (fun o t => Bd t ∧ Fm [2, 4, 6, 5, 7, 8, 19, 16] [18] s t ∧ ∃ e, o = .inl (some (.int (Int32.ofInt e))) ∧ rng e ∧ ((e = 0 ∨ (e = 1 ∧ iI t 19 = iI s 19)) ∧ iI t 2 ≤ iI t 1 ∧ iI t 4 ≤ iI t 2)) := by
  refine ct_ofX G (by decide) (Nat.le_of_ble_eq_true rfl) (fun k X E ET hRt hXt q => ?_)
  show WS k 0 [(0, .ref (A 19))] [] _ 0 0
  have F : Fm [2, 4, 6, 5, 7, 8, 19, 16] [18] s s := fm_rf _ _ s
  have b1 := bi_2 I
  have b2 := bi_1 I
  have b3 := bi_4 I
  have b4 := bi_5 I
  have b5 := bi_6 I
  have b6 := bi_19 I
  have b7 := bi_16 I
  have L11 : ∀ (n : Nat) (t : PS) (c : Int), Bd t → Fm [2, 4, 6, 5, 7, 8, 19, 16] [18] s t → (0 ≤ c ∧ c ≤ 200 ∧ iI t 19 = iI s 19 ∧ iI t 2 ≤ iI t 1 ∧ iI t 4 ≤ iI t 2) → (200 - c : Int).toNat < n → (∀ (t' : PS) (c' : Int), Bd t' → Fm [2, 4, 6, 5, 7, 8, 19, 16] [18] s t' → (0 ≤ c' ∧ c' ≤ 200 ∧ iI t' 19 = iI s 19 ∧ iI t' 2 ≤ iI t' 1 ∧ iI t' 4 ≤ iI t' 2) → WS k 89 [(0, .ref (A 19)), (1, .int (Int32.ofInt c'))] [] (Wd A dT t') 0 0) → WS k 11 [(0, .ref (A 19)), (1, .int (Int32.ofInt c))] [] (Wd A dT t) 0 0 := by
    intro n
    induction n with
    | zero =>
      intro t c I F hi hm kx
      exact absurd hm (Nat.not_lt_zero _)
    | succ n ih =>
      intro t c I F hi hm kx
      have b1001 := bi_2 I
      have b1002 := bi_1 I
      have b1003 := bi_4 I
      have b1004 := bi_5 I
      have b1005 := bi_6 I
      have b1006 := bi_19 I
      have b1007 := bi_16 I
      refine z_load_n X (x := c) rfl (List.Mem.tail _ (List.Mem.head _)) (z_sipush X rfl (z_icmp_ge X (t := 89) rfl rfl ⟨by first | exact oq_fa4e5087 hi.1 | omega, by first | exact oq_52af2b96 hi.2.1 | omega⟩ (by decide) (fun g1008 => ?_) (fun g1008 => ?_)))
      ·
        refine WS_pq [0, 1] (lv' := [(0, .ref (A 19)), (1, .int (Int32.ofInt c))]) rfl ?_
        exact kx _ c I F (by first | exact ⟨hi.1, hi.2.1, hi.2.2.1, hi.2.2.2.1, hi.2.2.2.2⟩ | omega)
      ·
        refine z_aload_n X (x := A 19) rfl (List.Mem.head _) (s_getR X 19 rfl (c518_ok rfl) rfl rfl (z_getI X 1 rfl (c518_ok rfl) rfl rfl ?_))
        have b1009 := bi_5 I
        refine z_bipush X rfl (z_icmp_eq X (t := 42) rfl rfl (rng_to _) (by decide) (fun g1010 => ?_) (fun g1010 => ?_))
        ·
          refine z_aload_n X (x := A 19) rfl (List.Mem.head _) (s_getR X 19 rfl (c518_ok rfl) rfl rfl (z_getI X 1 rfl (c518_ok rfl) rfl rfl ?_))
          have b1011 := bi_5 I
          refine z_bipush X rfl ?_
          have N1012 : ∀ e1013 : Int, ((((iI t 5) ≠ 43) ∧ e1013 = (-10)) ∨ (((iI t 5) = 43) ∧ e1013 = (-9))) → WS k 61 [(0, .ref (A 19)), (1, .int (Int32.ofInt c))] [.int (Int32.ofInt e1013)] (Wd A dT t) 0 0 := by
            intro e1013 he1013
            have re1013 : (-10) ≤ e1013 ∧ e1013 ≤ (-9) := by first | (clear he1013; omega) | omega
            refine z_store_n X (lv' := [(2, .int (Int32.ofInt e1013)), (0, .ref (A 19)), (1, .int (Int32.ofInt c))]) rfl (by decide) (fun _ h => h) (z_aload_n X (x := A 19) rfl (List.Mem.tail _ (List.Mem.head _)) (s_getR X 19 rfl (c518_ok rfl) rfl rfl (z_callV X 1 (rm := rmN 129) (As := []) (st := []) rfl rfl (by decide) rfl (by rw [E.1, E.2.1, E.2.2.1]; exact c10_step_1 G I (by first | exact hi.2.2.2.1 | omega)) ⟨by rw [E.2.2.2]; exact (show 7 + 1 ≤ (12 + (4 * (r) + 3)) from oq_c7636a98 r), by rw [E.2.2.2]; exact (show 8 + (1 + 11) + 121 ≤ (500 + 45 * (4 * (r) + 3)) from oq_aba64d1b r), by rw [E.2.2.2]; exact Nat.le_refl 0, by rw [E.2.2.2]; exact Nat.le_refl 0⟩ (Nat.le_of_ble_eq_true rfl) (fun vv s1014 hq => ?_) (fun ee s1014 hq => ?_))))
            rotate_left
            · obtain ⟨Is1014, Fs1014, hv, hps1014⟩ := hq; cases hv
            obtain ⟨Is1014, Fs1014, hv, hps1014⟩ := hq
            cases hv
            have Gs1014 := fm_tq F Fs1014 rfl rfl
            have b1016 := bi_2 Is1014
            have ws1014_1 : iI s1014 1 = iI t 1 := fm_iq Fs1014 rfl
            have b1017 := bi_4 Is1014
            have b1018 := bi_5 Is1014
            have b1019 := bi_6 Is1014
            have ws1014_19 : iI s1014 19 = iI t 19 := fm_iq Fs1014 rfl
            have ws1014_16 : iI s1014 16 = iI t 16 := fm_iq Fs1014 rfl
            show WS k 69 [(2, .int (Int32.ofInt e1013)), (0, .ref (A 19)), (1, .int (Int32.ofInt c))] [] (Wd A dT s1014) 0 0
            refine z_aload_n X (x := A 19) rfl (List.Mem.tail _ (List.Mem.head _)) (z_callV X 19 (rm := (rkR (4 * (r) + 2))) (As := []) (st := []) rfl rfl (by decide) rfl (by rw [E.1, E.2.1, E.2.2.1]; exact hP Is1014 (by first | exact hps1014.1 | omega) (by first | exact hps1014.2 | omega) (by first | exact oq_abe4e353 p2 ws1014_19 hi.2.2.1 | omega)) ⟨by rw [E.2.2.2]; exact (show (12 + (4 * (r) + 2)) + 1 ≤ (12 + (4 * (r) + 3)) from oq_2e478062 r), by rw [E.2.2.2]; exact (show 8 + (3 + 11) + (500 + 45 * (4 * (r) + 2)) ≤ (500 + 45 * (4 * (r) + 3)) from oq_cdd7b804 r), by rw [E.2.2.2]; exact Nat.le_refl 0, by rw [E.2.2.2]; exact Nat.le_refl 0⟩ (Nat.le_of_ble_eq_true rfl) (fun vv s1020 hq => ?_) (fun ee s1020 hq => ?_))
            rotate_left
            · obtain ⟨Is1020, Fs1020, e1021, hv, hrs1020, hps1020⟩ := hq; cases hv
            obtain ⟨Is1020, Fs1020, e1021, hv, hrs1020, hps1020⟩ := hq
            have hps1020p := And.intro hps1020.2.1 (hps1020.2.2)
            cases hv
            have Gs1020 := fm_tq Gs1014 Fs1020 rfl rfl
            have b1022 := bi_2 Is1020
            have ws1020_1 : iI s1020 1 = iI s1014 1 := fm_iq Fs1020 rfl
            have b1023 := bi_4 Is1020
            have b1024 := bi_5 Is1020
            have b1025 := bi_6 Is1020
            have b1026 := bi_19 Is1020
            have b1027 := bi_16 Is1020
            show WS k 73 [(2, .int (Int32.ofInt e1013)), (0, .ref (A 19)), (1, .int (Int32.ofInt c))] [.int (Int32.ofInt e1021)] (Wd A dT s1020) 0 0
            refine z_if_ne X (t := 78) rfl rfl hrs1020 (fun g1028 => ?_) (fun g1028 => ?_)
            ·
              refine z_aload_n X (x := A 19) rfl (List.Mem.tail _ (List.Mem.head _)) (z_load_n X (x := e1013) rfl (List.Mem.head _) (z_callV X 19 (rm := rmN 82) (As := [.int (Int32.ofInt e1013)]) (st := []) rfl rfl (by decide) rfl (by rw [E.1, E.2.1, E.2.2.1]; exact c7_put_19 G Is1020 (by first | exact ⟨oq_3d7a4679 re1013.1, oq_8ddf7954 re1013.2⟩ | omega)) ⟨by rw [E.2.2.2]; exact (show 6 + 1 ≤ (12 + (4 * (r) + 3)) from oq_1fdce876 r), by rw [E.2.2.2]; exact (show 8 + (2 + 11) + 100 ≤ (500 + 45 * (4 * (r) + 3)) from oq_55a309dd r), by rw [E.2.2.2]; exact Nat.le_refl 0, by rw [E.2.2.2]; exact Nat.le_refl 0⟩ (Nat.le_of_ble_eq_true rfl) (fun vv s1029 hq => ?_) (fun ee s1029 hq => ?_)))
              rotate_left
              · obtain ⟨Is1029, Fs1029, hv, hps1029⟩ := hq; cases hv
              obtain ⟨Is1029, Fs1029, hv, hps1029⟩ := hq
              cases hv
              have Gs1029 := fm_tq Gs1020 Fs1029 rfl rfl
              have ws1029_2 : iI s1029 2 = iI s1020 2 := fm_iq Fs1029 rfl
              have ws1029_1 : iI s1029 1 = iI s1020 1 := fm_iq Fs1029 rfl
              have ws1029_4 : iI s1029 4 = iI s1020 4 := fm_iq Fs1029 rfl
              have ws1029_5 : iI s1029 5 = iI s1020 5 := fm_iq Fs1029 rfl
              have ws1029_6 : iI s1029 6 = iI s1020 6 := fm_iq Fs1029 rfl
              have ws1029_19 : iI s1029 19 = iI s1020 19 := fm_iq Fs1029 rfl
              have b1031 := bi_16 Is1029
              show WS k 83 [(2, .int (Int32.ofInt e1013)), (0, .ref (A 19)), (1, .int (Int32.ofInt c))] [] (Wd A dT s1029) 0 0
              refine z_inc X (x := c) (lv' := [(1, .int (Int32.ofInt (c + 1))), (2, .int (Int32.ofInt e1013)), (0, .ref (A 19))]) rfl (by decide) (List.Mem.tail _ (List.Mem.tail _ (List.Mem.head _))) (fun _ h => h) (z_goto X (t := 11) rfl rfl (WS_pq [2, 0] (lv' := [(0, .ref (A 19)), (1, .int (Int32.ofInt (c + 1)))]) rfl ?_))
              exact ih _ (c + 1) Is1029 Gs1029 (by first | (clear g1028 hps1020 he1013; omega) | (clear hps1020 he1013; omega) | omega) (by first | exact qk_me hm (by decide) (oq_1ab01402 g1008) | omega) kx
            ·
              refine z_const X rfl ?_
              exact w_iret X.1 q hRt (nar_ret (by first | exact Or.inl (by decide) | omega)) (ax_d X (show cdA 75 77 = some (.ireturn, 1, 0, 0, 0) from rfl)) (Nat.zero_le _) (Nat.zero_le _) ⟨_, rfl, Is1020, Gs1020, 0, rfl, (by decide), by first | exact ⟨Or.inl (by decide), by first | (clear hps1020 he1013; omega) | (clear he1013; omega) | omega, by first | (clear hps1020 he1013; omega) | (clear he1013; omega) | omega⟩ | omega⟩
          refine z_icmp_ne X (t := 59) rfl rfl (rng_to _) (by decide) (fun g1032 => ?_) (fun g1032 => ?_)
          ·
            exact z_bipush X rfl (N1012 _ (Or.inl ⟨g1032, rfl⟩))
          ·
            exact z_bipush X rfl (z_goto X (t := 61) rfl rfl (N1012 _ (Or.inr (⟨g1032, rfl⟩))))
        ·
          refine z_aload_n X (x := A 19) rfl (List.Mem.head _) (s_getR X 19 rfl (c518_ok rfl) rfl rfl (z_getI X 1 rfl (c518_ok rfl) rfl rfl ?_))
          have b1033 := bi_5 I
          refine z_bipush X rfl (z_icmp_ne X (t := 89) rfl rfl (rng_to _) (by decide) (fun g1034 => ?_) (fun g1034 => ?_))
          ·
            refine WS_pq [0, 1] (lv' := [(0, .ref (A 19)), (1, .int (Int32.ofInt c))]) rfl ?_
            exact kx _ c I F (by first | exact ⟨hi.1, hi.2.1, hi.2.2.1, hi.2.2.2.1, hi.2.2.2.2⟩ | omega)
          ·
            refine z_aload_n X (x := A 19) rfl (List.Mem.head _) (s_getR X 19 rfl (c518_ok rfl) rfl rfl (z_getI X 1 rfl (c518_ok rfl) rfl rfl ?_))
            have b1035 := bi_5 I
            refine z_bipush X rfl ?_
            have N1036 : ∀ e1037 : Int, ((((iI t 5) ≠ 43) ∧ e1037 = (-10)) ∨ (((iI t 5) = 43) ∧ e1037 = (-9))) → WS k 61 [(0, .ref (A 19)), (1, .int (Int32.ofInt c))] [.int (Int32.ofInt e1037)] (Wd A dT t) 0 0 := by
              intro e1037 he1037
              have re1037 : (-10) ≤ e1037 ∧ e1037 ≤ (-9) := by first | (clear he1037 g1010; omega) | (clear g1010; omega) | omega
              refine z_store_n X (lv' := [(2, .int (Int32.ofInt e1037)), (0, .ref (A 19)), (1, .int (Int32.ofInt c))]) rfl (by decide) (fun _ h => h) (z_aload_n X (x := A 19) rfl (List.Mem.tail _ (List.Mem.head _)) (s_getR X 19 rfl (c518_ok rfl) rfl rfl (z_callV X 1 (rm := rmN 129) (As := []) (st := []) rfl rfl (by decide) rfl (by rw [E.1, E.2.1, E.2.2.1]; exact c10_step_1 G I (by first | exact hi.2.2.2.1 | omega)) ⟨by rw [E.2.2.2]; exact (show 7 + 1 ≤ (12 + (4 * (r) + 3)) from oq_c7636a98 r), by rw [E.2.2.2]; exact (show 8 + (1 + 11) + 121 ≤ (500 + 45 * (4 * (r) + 3)) from oq_aba64d1b r), by rw [E.2.2.2]; exact Nat.le_refl 0, by rw [E.2.2.2]; exact Nat.le_refl 0⟩ (Nat.le_of_ble_eq_true rfl) (fun vv s1038 hq => ?_) (fun ee s1038 hq => ?_))))
              rotate_left
              · obtain ⟨Is1038, Fs1038, hv, hps1038⟩ := hq; cases hv
              obtain ⟨Is1038, Fs1038, hv, hps1038⟩ := hq
              cases hv
              have Gs1038 := fm_tq F Fs1038 rfl rfl
              have b1040 := bi_2 Is1038
              have ws1038_1 : iI s1038 1 = iI t 1 := fm_iq Fs1038 rfl
              have b1041 := bi_4 Is1038
              have b1042 := bi_5 Is1038
              have b1043 := bi_6 Is1038
              have ws1038_19 : iI s1038 19 = iI t 19 := fm_iq Fs1038 rfl
              have ws1038_16 : iI s1038 16 = iI t 16 := fm_iq Fs1038 rfl
              show WS k 69 [(2, .int (Int32.ofInt e1037)), (0, .ref (A 19)), (1, .int (Int32.ofInt c))] [] (Wd A dT s1038) 0 0
              refine z_aload_n X (x := A 19) rfl (List.Mem.tail _ (List.Mem.head _)) (z_callV X 19 (rm := (rkR (4 * (r) + 2))) (As := []) (st := []) rfl rfl (by decide) rfl (by rw [E.1, E.2.1, E.2.2.1]; exact hP Is1038 (by first | exact hps1038.1 | omega) (by first | exact hps1038.2 | omega) (by first | exact oq_abe4e353 p2 ws1038_19 hi.2.2.1 | omega)) ⟨by rw [E.2.2.2]; exact (show (12 + (4 * (r) + 2)) + 1 ≤ (12 + (4 * (r) + 3)) from oq_2e478062 r), by rw [E.2.2.2]; exact (show 8 + (3 + 11) + (500 + 45 * (4 * (r) + 2)) ≤ (500 + 45 * (4 * (r) + 3)) from oq_cdd7b804 r), by rw [E.2.2.2]; exact Nat.le_refl 0, by rw [E.2.2.2]; exact Nat.le_refl 0⟩ (Nat.le_of_ble_eq_true rfl) (fun vv s1044 hq => ?_) (fun ee s1044 hq => ?_))
              rotate_left
              · obtain ⟨Is1044, Fs1044, e1045, hv, hrs1044, hps1044⟩ := hq; cases hv
              obtain ⟨Is1044, Fs1044, e1045, hv, hrs1044, hps1044⟩ := hq
              have hps1044p := And.intro hps1044.2.1 (hps1044.2.2)
              cases hv
              have Gs1044 := fm_tq Gs1038 Fs1044 rfl rfl
              have b1046 := bi_2 Is1044
              have ws1044_1 : iI s1044 1 = iI s1038 1 := fm_iq Fs1044 rfl
              have b1047 := bi_4 Is1044
              have b1048 := bi_5 Is1044
              have b1049 := bi_6 Is1044
              have b1050 := bi_19 Is1044
              have b1051 := bi_16 Is1044
              show WS k 73 [(2, .int (Int32.ofInt e1037)), (0, .ref (A 19)), (1, .int (Int32.ofInt c))] [.int (Int32.ofInt e1045)] (Wd A dT s1044) 0 0
              refine z_if_ne X (t := 78) rfl rfl hrs1044 (fun g1052 => ?_) (fun g1052 => ?_)
              ·
                refine z_aload_n X (x := A 19) rfl (List.Mem.tail _ (List.Mem.head _)) (z_load_n X (x := e1037) rfl (List.Mem.head _) (z_callV X 19 (rm := rmN 82) (As := [.int (Int32.ofInt e1037)]) (st := []) rfl rfl (by decide) rfl (by rw [E.1, E.2.1, E.2.2.1]; exact c7_put_19 G Is1044 (by first | exact ⟨oq_3d7a4679 re1037.1, oq_8ddf7954 re1037.2⟩ | omega)) ⟨by rw [E.2.2.2]; exact (show 6 + 1 ≤ (12 + (4 * (r) + 3)) from oq_1fdce876 r), by rw [E.2.2.2]; exact (show 8 + (2 + 11) + 100 ≤ (500 + 45 * (4 * (r) + 3)) from oq_55a309dd r), by rw [E.2.2.2]; exact Nat.le_refl 0, by rw [E.2.2.2]; exact Nat.le_refl 0⟩ (Nat.le_of_ble_eq_true rfl) (fun vv s1053 hq => ?_) (fun ee s1053 hq => ?_)))
                rotate_left
                · obtain ⟨Is1053, Fs1053, hv, hps1053⟩ := hq; cases hv
                obtain ⟨Is1053, Fs1053, hv, hps1053⟩ := hq
                cases hv
                have Gs1053 := fm_tq Gs1044 Fs1053 rfl rfl
                have ws1053_2 : iI s1053 2 = iI s1044 2 := fm_iq Fs1053 rfl
                have ws1053_1 : iI s1053 1 = iI s1044 1 := fm_iq Fs1053 rfl
                have ws1053_4 : iI s1053 4 = iI s1044 4 := fm_iq Fs1053 rfl
                have ws1053_5 : iI s1053 5 = iI s1044 5 := fm_iq Fs1053 rfl
                have ws1053_6 : iI s1053 6 = iI s1044 6 := fm_iq Fs1053 rfl
                have ws1053_19 : iI s1053 19 = iI s1044 19 := fm_iq Fs1053 rfl
                have b1055 := bi_16 Is1053
                show WS k 83 [(2, .int (Int32.ofInt e1037)), (0, .ref (A 19)), (1, .int (Int32.ofInt c))] [] (Wd A dT s1053) 0 0
                refine z_inc X (x := c) (lv' := [(1, .int (Int32.ofInt (c + 1))), (2, .int (Int32.ofInt e1037)), (0, .ref (A 19))]) rfl (by decide) (List.Mem.tail _ (List.Mem.tail _ (List.Mem.head _))) (fun _ h => h) (z_goto X (t := 11) rfl rfl (WS_pq [2, 0] (lv' := [(0, .ref (A 19)), (1, .int (Int32.ofInt (c + 1)))]) rfl ?_))
                exact ih _ (c + 1) Is1053 Gs1053 (by first | (clear g1052 hps1044 he1037 g1010; omega) | (clear hps1044 he1037 g1010; omega) | omega) (by first | exact qk_me hm (by decide) (oq_1ab01402 g1008) | omega) kx
              ·
                refine z_const X rfl ?_
                exact w_iret X.1 q hRt (nar_ret (by first | exact Or.inl (by decide) | omega)) (ax_d X (show cdA 75 77 = some (.ireturn, 1, 0, 0, 0) from rfl)) (Nat.zero_le _) (Nat.zero_le _) ⟨_, rfl, Is1044, Gs1044, 0, rfl, (by decide), by first | exact ⟨Or.inl (by decide), by first | (clear hps1044 he1037 g1010; omega) | (clear he1037 g1010; omega) | omega, by first | (clear hps1044 he1037 g1010; omega) | (clear he1037 g1010; omega) | omega⟩ | omega⟩
            refine z_icmp_ne X (t := 59) rfl rfl (rng_to _) (by decide) (fun g1056 => ?_) (fun g1056 => ?_)
            ·
              exact z_bipush X rfl (N1036 _ (Or.inl ⟨g1056, rfl⟩))
            ·
              exact z_bipush X rfl (z_goto X (t := 61) rfl rfl (N1036 _ (Or.inr (⟨g1056, rfl⟩))))
  refine z_aload_n X (x := A 19) rfl (List.Mem.head _) (z_callV X 19 (rm := (rkR (4 * (r) + 2))) (As := []) (st := []) rfl rfl (by decide) rfl (by rw [E.1, E.2.1, E.2.2.1]; exact hP I (by first | exact p0 | omega) (by first | exact p1 | omega) (by first | exact p2 | omega)) ⟨by rw [E.2.2.2]; exact (show (12 + (4 * (r) + 2)) + 1 ≤ (12 + (4 * (r) + 3)) from oq_2e478062 r), by rw [E.2.2.2]; exact (show 8 + (3 + 11) + (500 + 45 * (4 * (r) + 2)) ≤ (500 + 45 * (4 * (r) + 3)) from oq_cdd7b804 r), by rw [E.2.2.2]; exact Nat.le_refl 0, by rw [E.2.2.2]; exact Nat.le_refl 0⟩ (Nat.le_of_ble_eq_true rfl) (fun vv s8 hq => ?_) (fun ee s8 hq => ?_))
  rotate_left
  · obtain ⟨Is8, Fs8, e9, hv, hrs8, hps8⟩ := hq; cases hv
  obtain ⟨Is8, Fs8, e9, hv, hrs8, hps8⟩ := hq
  have hps8p := And.intro hps8.2.1 (hps8.2.2)
  cases hv
  have Gs8 := fm_tq F Fs8 rfl rfl
  have b10 := bi_2 Is8
  have ws8_1 : iI s8 1 = iI s 1 := fm_iq Fs8 rfl
  have b11 := bi_4 Is8
  have b12 := bi_5 Is8
  have b13 := bi_6 Is8
  have b14 := bi_19 Is8
  have b15 := bi_16 Is8
  show WS k 4 [(0, .ref (A 19))] [.int (Int32.ofInt e9)] (Wd A dT s8) 0 0
  refine z_if_ne X (t := 9) rfl rfl hrs8 (fun g16 => ?_) (fun g16 => ?_)
  ·
    refine z_const X rfl (z_store_n X (lv' := [(1, .int (Int32.ofInt 0)), (0, .ref (A 19))]) rfl (by decide) (fun _ h => h) (WS_pq [1, 0] (lv' := [(0, .ref (A 19)), (1, .int (Int32.ofInt 0))]) rfl (L11 ((200 - 0 : Int).toNat + 1) s8 0 Is8 Gs8 (by first | (clear g16 hps8; omega) | (clear hps8; omega) | omega) (Nat.lt_succ_self _) ?_)))
    intro s17 x18 Is17 Fs17 hs17
    have b19 := bi_2 Is17
    have b20 := bi_1 Is17
    have b21 := bi_4 Is17
    have b22 := bi_5 Is17
    have b23 := bi_6 Is17
    have b24 := bi_19 Is17
    have b25 := bi_16 Is17
    refine z_const X rfl ?_
    exact w_iret X.1 q hRt (nar_ret (by first | exact Or.inr (by decide) | omega)) (ax_d X (show cdA 75 90 = some (.ireturn, 1, 0, 0, 0) from rfl)) (Nat.zero_le _) (Nat.zero_le _) ⟨_, rfl, Is17, Fs17, 1, rfl, (by decide), by first | exact ⟨Or.inr (And.intro (by decide) (hs17.2.2.1)), hs17.2.2.2.1, hs17.2.2.2.2⟩ | omega⟩
  ·
    refine z_const X rfl ?_
    exact w_iret X.1 q hRt (nar_ret (by first | exact Or.inl (by decide) | omega)) (ax_d X (show cdA 75 8 = some (.ireturn, 1, 0, 0, 0) from rfl)) (Nat.zero_le _) (Nat.zero_le _) ⟨_, rfl, Is8, Gs8, 0, rfl, (by decide), by first | exact ⟨Or.inl (by decide), by first | (clear hps8; omega) | omega, by first | (clear hps8; omega) | omega⟩ | omega⟩
theorem c7_sumr (G : GX l s0 D tys a0 dT) (SF : SF0 s0) (GT : TXs0 s0) (r : Nat) : (∀ {s : PS} {x : Int}, Bd s → (rng x) → (iI s 2 ≤ iI s 1) → (iI s 4 ≤ iI s 2) → (6 - iI s 19 ≤ ((r : Nat) : Int)) → CT l s0 D A dT 78 (rkR (4 * (r))) [.ref (A 19), .int (Int32.ofInt x)] s (fun o t => Bd t ∧ Fm [2, 4, 6, 5, 7, 8, 19, 16] [18] s t ∧ ∃ e, o = .inl (some (.int (Int32.ofInt e))) ∧ rng e ∧ ((e = 0 ∨ (e = 1 ∧ iI t 19 = iI s 19)) ∧ iI t 2 ≤ iI t 1 ∧ iI t 4 ≤ iI t 2))) ∧ (∀ {s : PS} , Bd s → (iI s 2 ≤ iI s 1) → (iI s 4 ≤ iI s 2) → (6 - iI s 19 ≤ ((r : Nat) : Int)) → CT l s0 D A dT 77 (rkR (4 * (r) + 1)) [.ref (A 19)] s (fun o t => Bd t ∧ Fm [2, 4, 6, 5, 7, 8, 19, 16] [18] s t ∧ ∃ e, o = .inl (some (.int (Int32.ofInt e))) ∧ rng e ∧ ((e = 0 ∨ (e = 1 ∧ iI t 19 = iI s 19)) ∧ iI t 2 ≤ iI t 1 ∧ iI t 4 ≤ iI t 2))) ∧ (∀ {s : PS} , Bd s → (iI s 2 ≤ iI s 1) → (iI s 4 ≤ iI s 2) → (6 - iI s 19 ≤ ((r : Nat) : Int)) → CT l s0 D A dT 76 (rkR (4 * (r) + 2)) [.ref (A 19)] s (fun o t => Bd t ∧ Fm [2, 4, 6, 5, 7, 8, 19, 16] [18] s t ∧ ∃ e, o = .inl (some (.int (Int32.ofInt e))) ∧ rng e ∧ ((e = 0 ∨ (e = 1 ∧ iI t 19 = iI s 19)) ∧ iI t 2 ≤ iI t 1 ∧ iI t 4 ≤ iI t 2))) ∧ (∀ {s : PS} , Bd s → (iI s 2 ≤ iI s 1) → (iI s 4 ≤ iI s 2) → (6 - iI s 19 ≤ ((r : Nat) : Int)) → CT l s0 D A dT 75 (rkR (4 * (r) + 3)) [.ref (A 19)] s (fun o t => Bd t ∧ Fm [2, 4, 6, 5, 7, 8, 19, 16] [18] s t ∧ ∃ e, o = .inl (some (.int (Int32.ofInt e))) ∧ rng e ∧ ((e = 0 ∨ (e = 1 ∧ iI t 19 = iI s 19)) ∧ iI t 2 ≤ iI t 1 ∧ iI t 4 ≤ iI t 2))) := by
  induction r with
  | zero =>
    have hT : ∀ {s : PS} {x : Int}, Bd s → (rng x) → (iI s 2 ≤ iI s 1) → (iI s 4 ≤ iI s 2) → (6 - iI s 19 ≤ ((0 : Nat) : Int)) → CT l s0 D A dT 78 (rkR (4 * (0))) [.ref (A 19), .int (Int32.ofInt x)] s (fun o t => Bd t ∧ Fm [2, 4, 6, 5, 7, 8, 19, 16] [18] s t ∧ ∃ e, o = .inl (some (.int (Int32.ofInt e))) ∧ rng e ∧ ((e = 0 ∨ (e = 1 ∧ iI t 19 = iI s 19)) ∧ iI t 2 ≤ iI t 1 ∧ iI t 4 ≤ iI t 2)) := fun {_ _} I p0 p1 p2 p3 => c7_two0 G SF GT I p0 p1 p2 p3
    have hU : ∀ {s : PS} , Bd s → (iI s 2 ≤ iI s 1) → (iI s 4 ≤ iI s 2) → (6 - iI s 19 ≤ ((0 : Nat) : Int)) → CT l s0 D A dT 77 (rkR (4 * (0) + 1)) [.ref (A 19)] s (fun o t => Bd t ∧ Fm [2, 4, 6, 5, 7, 8, 19, 16] [18] s t ∧ ∃ e, o = .inl (some (.int (Int32.ofInt e))) ∧ rng e ∧ ((e = 0 ∨ (e = 1 ∧ iI t 19 = iI s 19)) ∧ iI t 2 ≤ iI t 1 ∧ iI t 4 ≤ iI t 2)) := fun {_} I p0 p1 p2 => c7_unit0 G SF GT hT I p0 p1 p2
    have hP : ∀ {s : PS} , Bd s → (iI s 2 ≤ iI s 1) → (iI s 4 ≤ iI s 2) → (6 - iI s 19 ≤ ((0 : Nat) : Int)) → CT l s0 D A dT 76 (rkR (4 * (0) + 2)) [.ref (A 19)] s (fun o t => Bd t ∧ Fm [2, 4, 6, 5, 7, 8, 19, 16] [18] s t ∧ ∃ e, o = .inl (some (.int (Int32.ofInt e))) ∧ rng e ∧ ((e = 0 ∨ (e = 1 ∧ iI t 19 = iI s 19)) ∧ iI t 2 ≤ iI t 1 ∧ iI t 4 ≤ iI t 2)) := fun {_} I p0 p1 p2 => c7_prodS (r := 0) G SF GT hU I p0 p1 p2
    exact ⟨hT, hU, hP, fun {_} I p0 p1 p2 => c7_sumS (r := 0) G SF GT hP I p0 p1 p2⟩
  | succ r ih =>
    have hT : ∀ {s : PS} {x : Int}, Bd s → (rng x) → (iI s 2 ≤ iI s 1) → (iI s 4 ≤ iI s 2) → (6 - iI s 19 ≤ ((r + 1 : Nat) : Int)) → CT l s0 D A dT 78 (rkR (4 * (r + 1))) [.ref (A 19), .int (Int32.ofInt x)] s (fun o t => Bd t ∧ Fm [2, 4, 6, 5, 7, 8, 19, 16] [18] s t ∧ ∃ e, o = .inl (some (.int (Int32.ofInt e))) ∧ rng e ∧ ((e = 0 ∨ (e = 1 ∧ iI t 19 = iI s 19)) ∧ iI t 2 ≤ iI t 1 ∧ iI t 4 ≤ iI t 2)) := fun {_ _} I p0 p1 p2 p3 => c7_twoS (r := r) G SF GT ih.2.2.2 I p0 p1 p2 p3
    have hU : ∀ {s : PS} , Bd s → (iI s 2 ≤ iI s 1) → (iI s 4 ≤ iI s 2) → (6 - iI s 19 ≤ ((r + 1 : Nat) : Int)) → CT l s0 D A dT 77 (rkR (4 * (r + 1) + 1)) [.ref (A 19)] s (fun o t => Bd t ∧ Fm [2, 4, 6, 5, 7, 8, 19, 16] [18] s t ∧ ∃ e, o = .inl (some (.int (Int32.ofInt e))) ∧ rng e ∧ ((e = 0 ∨ (e = 1 ∧ iI t 19 = iI s 19)) ∧ iI t 2 ≤ iI t 1 ∧ iI t 4 ≤ iI t 2)) := fun {_} I p0 p1 p2 => c7_unitS (r := r) G SF GT hT ih.2.2.2 I p0 p1 p2
    have hP : ∀ {s : PS} , Bd s → (iI s 2 ≤ iI s 1) → (iI s 4 ≤ iI s 2) → (6 - iI s 19 ≤ ((r + 1 : Nat) : Int)) → CT l s0 D A dT 76 (rkR (4 * (r + 1) + 2)) [.ref (A 19)] s (fun o t => Bd t ∧ Fm [2, 4, 6, 5, 7, 8, 19, 16] [18] s t ∧ ∃ e, o = .inl (some (.int (Int32.ofInt e))) ∧ rng e ∧ ((e = 0 ∨ (e = 1 ∧ iI t 19 = iI s 19)) ∧ iI t 2 ≤ iI t 1 ∧ iI t 4 ≤ iI t 2)) := fun {_} I p0 p1 p2 => c7_prodS (r := r + 1) G SF GT hU I p0 p1 p2
    exact ⟨hT, hU, hP, fun {_} I p0 p1 p2 => c7_sumS (r := r + 1) G SF GT hP I p0 p1 p2⟩
set_option maxRecDepth 4000 in
theorem c7_test0 (G : GX l s0 D tys a0 dT) (SF : SF0 s0) (GT : TXs0 s0) (I : Bd s) (p0 : iI s 2 ≤ iI s 1) (p1 : iI s 4 ≤ iI s 2) (p2 : 6 - iI s 19 ≤ ((0 : Nat) : Int)) : CT l s0 D A dT 74 (rkR (32 + 3 * (0))) [.ref (A 19)] s (fun o t => Bd t ∧ Fm [2, 4, 6, 5, 7, 8, 19, 16] [18] s t ∧ ∃ e, o = .inl (some (.int (Int32.ofInt e))) ∧ rng e ∧ ((e = 0 ∨ (e = 1 ∧ iI t 19 = iI s 19)) ∧ iI t 2 ≤ iI t 1 ∧ iI t 4 ≤ iI t 2)) := by
  refine ct_ofX G (by decide) (Nat.le_of_ble_eq_true rfl) (fun k X E ET hRt hXt q => ?_)
  show WS k 0 [(0, .ref (A 19))] [] _ 0 0
  have F : Fm [2, 4, 6, 5, 7, 8, 19, 16] [18] s s := fm_rf _ _ s
  have b1 := bi_2 I
  have b2 := bi_1 I
  have b3 := bi_4 I
  have b4 := bi_5 I
  have b5 := bi_6 I
  have b6 := bi_19 I
  have b7 := bi_16 I
  refine z_aload_n X (x := A 19) rfl (List.Mem.head _) (s_getR X 19 rfl (c518_ok rfl) rfl rfl ?_)
  obtain ⟨tx111, q111, hR111, hS111⟩ := GT (111, 3) (by decide)
  refine w_ldcK X (show vk_R (kOwn k) 111 tx111 q111 (kS0 k) by rw [E.2.1, X.2.1.2.1]; exact hR111) (show decode (kCc k) 4 = .ok (.ldc 111, 2) by rw [X.2.1.1]; decide +kernel) (z_callV X 1 (rm := rmN 131) (As := [.ref q111]) (st := []) rfl rfl (by decide) rfl (by rw [E.1, E.2.1, E.2.2.1]; exact c10_says G SF hS111 I (by first | exact p1 | omega)) ⟨by rw [E.2.2.2]; exact (show 11 + 1 ≤ (12 + (32 + 3 * (0))) from oq_f95a2bb1), by rw [E.2.2.2]; exact (show 8 + (3 + 11) + 206 ≤ (500 + 45 * (32 + 3 * (0))) from oq_70624d19), by rw [E.2.2.2]; exact Nat.le_refl 0, by rw [E.2.2.2]; exact Nat.le_refl 0⟩ (Nat.le_of_ble_eq_true rfl) (fun vv s8 hq => ?_) (fun ee s8 hq => ?_))
  rotate_left
  · obtain ⟨Is8, Fs8, e9, hv, hrs8, hps8⟩ := hq; cases hv
  obtain ⟨Is8, Fs8, e9, hv, hrs8, hps8⟩ := hq
  cases hv
  have Gs8 := fm_tq F Fs8 rfl rfl
  have ws8_2 : iI s8 2 = iI s 2 := fm_iq Fs8 rfl
  have ws8_1 : iI s8 1 = iI s 1 := fm_iq Fs8 rfl
  have ws8_4 : iI s8 4 = iI s 4 := fm_iq Fs8 rfl
  have ws8_5 : iI s8 5 = iI s 5 := fm_iq Fs8 rfl
  have ws8_6 : iI s8 6 = iI s 6 := fm_iq Fs8 rfl
  have ws8_19 : iI s8 19 = iI s 19 := fm_iq Fs8 rfl
  have ws8_16 : iI s8 16 = iI s 16 := fm_iq Fs8 rfl
  show WS k 9 [(0, .ref (A 19))] [.int (Int32.ofInt e9)] (Wd A dT s8) 0 0
  refine z_if_eq X (t := 46) rfl rfl hrs8 (fun g10 => ?_) (fun g10 => ?_)
  ·
    refine z_aload_n X (x := A 19) rfl (List.Mem.head _) (s_getR X 19 rfl (c518_ok rfl) rfl rfl (z_getI X 1 rfl (c518_ok rfl) rfl rfl ?_))
    have b11 := bi_5 Is8
    refine z_bipush X rfl (z_icmp_ne X (t := 95) rfl rfl (rng_to _) (by decide) (fun g12 => ?_) (fun g12 => ?_))
    ·
      refine z_aload_n X (x := A 19) rfl (List.Mem.head _) (z_callV X 19 (rm := (rkR (4 * (7) + 3))) (As := []) (st := []) rfl rfl (by decide) rfl (by rw [E.1, E.2.1, E.2.2.1]; exact (c7_sumr G SF GT 7).2.2.2 Is8 (by first | exact oq_e7b9ecab ws8_1 ws8_2 p0 | omega) (by first | exact oq_e7b9ecab ws8_2 ws8_4 p1 | omega) (by first | exact oq_ba167e5f ws8_19 b6.1 | omega)) ⟨by rw [E.2.2.2]; exact (show (12 + (4 * (7) + 3)) + 1 ≤ (12 + (32 + 3 * (0))) from oq_8943d30a), by rw [E.2.2.2]; exact (show 8 + (3 + 11) + (500 + 45 * (4 * (7) + 3)) ≤ (500 + 45 * (32 + 3 * (0))) from oq_a0b1cf65), by rw [E.2.2.2]; exact Nat.le_refl 0, by rw [E.2.2.2]; exact Nat.le_refl 0⟩ (Nat.le_of_ble_eq_true rfl) (fun vv s13 hq => ?_) (fun ee s13 hq => ?_))
      rotate_left
      · obtain ⟨Is13, Fs13, e14, hv, hrs13, hps13⟩ := hq; cases hv
      obtain ⟨Is13, Fs13, e14, hv, hrs13, hps13⟩ := hq
      cases hv
      have Gs13 := fm_tq Gs8 Fs13 rfl rfl
      have b15 := bi_2 Is13
      have ws13_1 : iI s13 1 = iI s8 1 := fm_iq Fs13 rfl
      have b16 := bi_4 Is13
      have b17 := bi_5 Is13
      have b18 := bi_6 Is13
      have b19 := bi_19 Is13
      have b20 := bi_16 Is13
      show WS k 99 [(0, .ref (A 19))] [.int (Int32.ofInt e14)] (Wd A dT s13) 0 0
      refine z_if_ne X (t := 104) rfl rfl hrs13 (fun g21 => ?_) (fun g21 => ?_)
      ·
        refine z_aload_n X (x := A 19) rfl (List.Mem.head _) (s_getR X 19 rfl (c518_ok rfl) rfl rfl (z_getI X 1 rfl (c518_ok rfl) rfl rfl ?_))
        have b22 := bi_5 Is13
        refine z_bipush X rfl ?_
        have N23 : ∀ e24 : Int, ((-20) ≤ e24 ∧ e24 ≤ (-15)) → WS k 157 [(0, .ref (A 19))] [.int (Int32.ofInt e24)] (Wd A dT s13) 0 0 := by
          intro e24 he24
          refine z_store_n X (lv' := [(1, .int (Int32.ofInt e24)), (0, .ref (A 19))]) rfl (by decide) (fun _ h => h) (z_load_n X (x := e24) rfl (List.Mem.head _) (z_bipush X rfl (z_icmp_ne X (t := 173) rfl rfl ⟨by first | exact oq_e12b0ae3 he24.1 | omega, by first | exact oq_86745356 he24.2 | omega⟩ (by decide) (fun g25 => ?_) (fun g25 => ?_))))
          ·
            refine z_aload_n X (x := A 19) rfl (List.Mem.tail _ (List.Mem.head _)) (s_getR X 19 rfl (c518_ok rfl) rfl rfl (z_callV X 1 (rm := rmN 129) (As := []) (st := []) rfl rfl (by decide) rfl (by rw [E.1, E.2.1, E.2.2.1]; exact c10_step_1 G Is13 (by first | (clear g25 g21 hps13 g12 hps8; omega) | (clear g21 hps13 g12 hps8; omega) | omega)) ⟨by rw [E.2.2.2]; exact (show 7 + 1 ≤ (12 + (32 + 3 * (0))) from oq_98d05d0f), by rw [E.2.2.2]; exact (show 8 + (1 + 11) + 121 ≤ (500 + 45 * (32 + 3 * (0))) from oq_2a8149c4), by rw [E.2.2.2]; exact Nat.le_refl 0, by rw [E.2.2.2]; exact Nat.le_refl 0⟩ (Nat.le_of_ble_eq_true rfl) (fun vv s26 hq => ?_) (fun ee s26 hq => ?_)))
            rotate_left
            · obtain ⟨Is26, Fs26, hv, hps26⟩ := hq; cases hv
            obtain ⟨Is26, Fs26, hv, hps26⟩ := hq
            cases hv
            have Gs26 := fm_tq Gs13 Fs26 rfl rfl
            have b28 := bi_2 Is26
            have ws26_1 : iI s26 1 = iI s13 1 := fm_iq Fs26 rfl
            have b29 := bi_4 Is26
            have b30 := bi_5 Is26
            have b31 := bi_6 Is26
            have ws26_19 : iI s26 19 = iI s13 19 := fm_iq Fs26 rfl
            have ws26_16 : iI s26 16 = iI s13 16 := fm_iq Fs26 rfl
            show WS k 180 [(1, .int (Int32.ofInt e24)), (0, .ref (A 19))] [] (Wd A dT s26) 0 0
            refine z_aload_n X (x := A 19) rfl (List.Mem.tail _ (List.Mem.head _)) (z_callV X 19 (rm := (rkR (4 * (7) + 3))) (As := []) (st := []) rfl rfl (by decide) rfl (by rw [E.1, E.2.1, E.2.2.1]; exact (c7_sumr G SF GT 7).2.2.2 Is26 (by first | exact hps26.1 | omega) (by first | exact hps26.2 | omega) (by first | exact oq_ba167e5f ws26_19 b19.1 | omega)) ⟨by rw [E.2.2.2]; exact (show (12 + (4 * (7) + 3)) + 1 ≤ (12 + (32 + 3 * (0))) from oq_8943d30a), by rw [E.2.2.2]; exact (show 8 + (3 + 11) + (500 + 45 * (4 * (7) + 3)) ≤ (500 + 45 * (32 + 3 * (0))) from oq_a0b1cf65), by rw [E.2.2.2]; exact Nat.le_refl 0, by rw [E.2.2.2]; exact Nat.le_refl 0⟩ (Nat.le_of_ble_eq_true rfl) (fun vv s32 hq => ?_) (fun ee s32 hq => ?_))
            rotate_left
            · obtain ⟨Is32, Fs32, e33, hv, hrs32, hps32⟩ := hq; cases hv
            obtain ⟨Is32, Fs32, e33, hv, hrs32, hps32⟩ := hq
            cases hv
            have Gs32 := fm_tq Gs26 Fs32 rfl rfl
            have b34 := bi_2 Is32
            have ws32_1 : iI s32 1 = iI s26 1 := fm_iq Fs32 rfl
            have b35 := bi_4 Is32
            have b36 := bi_5 Is32
            have b37 := bi_6 Is32
            have b38 := bi_19 Is32
            have b39 := bi_16 Is32
            show WS k 184 [(1, .int (Int32.ofInt e24)), (0, .ref (A 19))] [.int (Int32.ofInt e33)] (Wd A dT s32) 0 0
            refine z_if_ne X (t := 189) rfl rfl hrs32 (fun g40 => ?_) (fun g40 => ?_)
            ·
              refine z_aload_n X (x := A 19) rfl (List.Mem.tail _ (List.Mem.head _)) (z_load_n X (x := e24) rfl (List.Mem.head _) (z_callV X 19 (rm := rmN 82) (As := [.int (Int32.ofInt e24)]) (st := []) rfl rfl (by decide) rfl (by rw [E.1, E.2.1, E.2.2.1]; exact c7_put_19 G Is32 (by first | exact ⟨oq_e12b0ae3 he24.1, oq_86745356 he24.2⟩ | omega)) ⟨by rw [E.2.2.2]; exact (show 6 + 1 ≤ (12 + (32 + 3 * (0))) from oq_af2bf85e), by rw [E.2.2.2]; exact (show 8 + (2 + 11) + 100 ≤ (500 + 45 * (32 + 3 * (0))) from oq_72040bf2), by rw [E.2.2.2]; exact Nat.le_refl 0, by rw [E.2.2.2]; exact Nat.le_refl 0⟩ (Nat.le_of_ble_eq_true rfl) (fun vv s41 hq => ?_) (fun ee s41 hq => ?_)))
              rotate_left
              · obtain ⟨Is41, Fs41, hv, hps41⟩ := hq; cases hv
              obtain ⟨Is41, Fs41, hv, hps41⟩ := hq
              cases hv
              have Gs41 := fm_tq Gs32 Fs41 rfl rfl
              have ws41_2 : iI s41 2 = iI s32 2 := fm_iq Fs41 rfl
              have ws41_1 : iI s41 1 = iI s32 1 := fm_iq Fs41 rfl
              have ws41_4 : iI s41 4 = iI s32 4 := fm_iq Fs41 rfl
              have ws41_5 : iI s41 5 = iI s32 5 := fm_iq Fs41 rfl
              have ws41_6 : iI s41 6 = iI s32 6 := fm_iq Fs41 rfl
              have ws41_19 : iI s41 19 = iI s32 19 := fm_iq Fs41 rfl
              have b43 := bi_16 Is41
              show WS k 194 [(1, .int (Int32.ofInt e24)), (0, .ref (A 19))] [] (Wd A dT s41) 0 0
              refine z_const X rfl ?_
              exact w_iret X.1 q hRt (nar_ret (by first | exact Or.inr (by decide) | omega)) (ax_d X (show cdA 74 195 = some (.ireturn, 1, 0, 0, 0) from rfl)) (Nat.zero_le _) (Nat.zero_le _) ⟨_, rfl, Is41, Gs41, 1, rfl, (by decide), by first | (clear g40 hps32 g25 g21 hps13 g12 hps8; omega) | (clear hps32 g25 g21 hps13 g12 hps8; omega) | omega⟩
            ·
              refine z_const X rfl ?_
              exact w_iret X.1 q hRt (nar_ret (by first | exact Or.inl (by decide) | omega)) (ax_d X (show cdA 74 188 = some (.ireturn, 1, 0, 0, 0) from rfl)) (Nat.zero_le _) (Nat.zero_le _) ⟨_, rfl, Is32, Gs32, 0, rfl, (by decide), by first | exact ⟨Or.inl (by decide), by first | (clear hps32 g25 g21 hps13 g12 hps8; omega) | (clear g25 g21 hps13 g12 hps8; omega) | omega, by first | (clear hps32 g25 g21 hps13 g12 hps8; omega) | (clear g25 g21 hps13 g12 hps8; omega) | omega⟩ | omega⟩
          ·
            refine z_aload_n X (x := A 19) rfl (List.Mem.tail _ (List.Mem.head _)) (s_getR X 19 rfl (c518_ok rfl) rfl rfl (z_const X rfl (z_callV X 1 (rm := rmN 132) (As := [.int (Int32.ofInt 1)]) (st := []) rfl rfl (by decide) rfl (by rw [E.1, E.2.1, E.2.2.1]; exact c10_refuse_1 G Is13 (by first | exact ⟨by decide, by decide⟩ | omega)) ⟨by rw [E.2.2.2]; exact (show 7 + 1 ≤ (12 + (32 + 3 * (0))) from oq_98d05d0f), by rw [E.2.2.2]; exact (show 8 + (2 + 11) + 122 ≤ (500 + 45 * (32 + 3 * (0))) from oq_7c329781), by rw [E.2.2.2]; exact Nat.le_refl 0, by rw [E.2.2.2]; exact Nat.le_refl 0⟩ (Nat.le_of_ble_eq_true rfl) (fun vv s44 hq => ?_) (fun ee s44 hq => ?_))))
            rotate_left
            · obtain ⟨Is44, Fs44, e45, hv, hrs44, hps44⟩ := hq; cases hv
            obtain ⟨Is44, Fs44, e45, hv, hrs44, hps44⟩ := hq
            cases hv
            have Gs44 := fm_tq Gs13 Fs44 rfl rfl
            have ws44_2 : iI s44 2 = iI s13 2 := fm_iq Fs44 rfl
            have ws44_1 : iI s44 1 = iI s13 1 := fm_iq Fs44 rfl
            have ws44_4 : iI s44 4 = iI s13 4 := fm_iq Fs44 rfl
            have ws44_5 : iI s44 5 = iI s13 5 := fm_iq Fs44 rfl
            have ws44_6 : iI s44 6 = iI s13 6 := fm_iq Fs44 rfl
            have ws44_19 : iI s44 19 = iI s13 19 := fm_iq Fs44 rfl
            have ws44_16 : iI s44 16 = iI s13 16 := fm_iq Fs44 rfl
            show WS k 172 [(1, .int (Int32.ofInt e24)), (0, .ref (A 19))] [.int (Int32.ofInt e45)] (Wd A dT s44) 0 0
            exact w_iret X.1 q hRt (nar_ret (by first | exact Or.inl (hps44) | omega)) (ax_d X (show cdA 74 172 = some (.ireturn, 1, 0, 0, 0) from rfl)) (Nat.zero_le _) (Nat.zero_le _) ⟨_, rfl, Is44, Gs44, e45, rfl, hrs44, by first | exact ⟨Or.inl (hps44), by first | (clear g21 hps13 g12 hps8; omega) | (clear hps13 g12 hps8; omega) | omega, by first | (clear g21 hps13 g12 hps8; omega) | (clear hps13 g12 hps8; omega) | omega⟩ | omega⟩
        refine z_icmp_ne X (t := 121) rfl rfl (rng_to _) (by decide) (fun g46 => ?_) (fun g46 => ?_)
        ·
          refine z_aload_n X (x := A 19) rfl (List.Mem.head _) (s_getR X 19 rfl (c518_ok rfl) rfl rfl (z_getI X 1 rfl (c518_ok rfl) rfl rfl ?_))
          have b47 := bi_5 Is13
          refine z_bipush X rfl (z_icmp_ne X (t := 138) rfl rfl (rng_to _) (by decide) (fun g48 => ?_) (fun g48 => ?_))
          ·
            refine z_aload_n X (x := A 19) rfl (List.Mem.head _) (s_getR X 19 rfl (c518_ok rfl) rfl rfl (z_getI X 1 rfl (c518_ok rfl) rfl rfl ?_))
            have b49 := bi_5 Is13
            refine z_bipush X rfl (z_icmp_ne X (t := 155) rfl rfl (rng_to _) (by decide) (fun g50 => ?_) (fun g50 => ?_))
            ·
              refine z_bipush X rfl ?_
              exact N23 _ (by first | (clear g50 g48 g46 g21 hps13 g12 hps8; omega) | (clear g48 g46 g21 hps13 g12 hps8; omega) | omega)
            ·
              refine z_bipush X rfl (z_goto X (t := 157) rfl rfl ?_)
              exact N23 _ (by first | (clear g48 g46 g21 hps13 g12 hps8; omega) | (clear g46 g21 hps13 g12 hps8; omega) | omega)
          ·
            refine z_bipush X rfl (z_goto X (t := 157) rfl rfl ?_)
            exact N23 _ (by first | (clear g46 g21 hps13 g12 hps8; omega) | (clear g21 hps13 g12 hps8; omega) | omega)
        ·
          refine z_bipush X rfl (z_goto X (t := 157) rfl rfl ?_)
          exact N23 _ (by first | (clear g21 hps13 g12 hps8; omega) | (clear hps13 g12 hps8; omega) | omega)
      ·
        refine z_const X rfl ?_
        exact w_iret X.1 q hRt (nar_ret (by first | exact Or.inl (by decide) | omega)) (ax_d X (show cdA 74 103 = some (.ireturn, 1, 0, 0, 0) from rfl)) (Nat.zero_le _) (Nat.zero_le _) ⟨_, rfl, Is13, Gs13, 0, rfl, (by decide), by first | exact ⟨Or.inl (by decide), by first | (clear hps13 g12 hps8; omega) | (clear g12 hps8; omega) | omega, by first | (clear hps13 g12 hps8; omega) | (clear g12 hps8; omega) | omega⟩ | omega⟩
    ·
      refine z_aload_n X (x := A 19) rfl (List.Mem.head _) (z_callV X 19 (rm := rmN 80) (As := []) (st := []) rfl rfl (by decide) rfl (by rw [E.1, E.2.1, E.2.2.1]; exact c7_enter_19 G Is8 (by first | exact oq_e7b9ecab ws8_1 ws8_2 p0 | omega) (by first | exact oq_e7b9ecab ws8_2 ws8_4 p1 | omega)) ⟨by rw [E.2.2.2]; exact (show 8 + 1 ≤ (12 + (32 + 3 * (0))) from oq_6e542e63), by rw [E.2.2.2]; exact (show 8 + (1 + 11) + 143 ≤ (500 + 45 * (32 + 3 * (0))) from oq_72d660e0), by rw [E.2.2.2]; exact Nat.le_refl 0, by rw [E.2.2.2]; exact Nat.le_refl 0⟩ (Nat.le_of_ble_eq_true rfl) (fun vv s51 hq => ?_) (fun ee s51 hq => ?_))
      rotate_left
      · obtain ⟨Is51, Fs51, e52, hv, hrs51, hps51⟩ := hq; cases hv
      obtain ⟨Is51, Fs51, e52, hv, hrs51, hps51⟩ := hq
      have hps51p := And.intro hps51.2.1 (hps51.2.2)
      cases hv
      have Gs51 := fm_tq Gs8 Fs51 rfl rfl
      have b53 := bi_2 Is51
      have ws51_1 : iI s51 1 = iI s8 1 := fm_iq Fs51 rfl
      have b54 := bi_4 Is51
      have b55 := bi_5 Is51
      have b56 := bi_6 Is51
      have b57 := bi_19 Is51
      have ws51_16 : iI s51 16 = iI s8 16 := fm_iq Fs51 rfl
      show WS k 62 [(0, .ref (A 19))] [.int (Int32.ofInt e52)] (Wd A dT s51) 0 0
      refine z_if_eq X (t := 81) rfl rfl hrs51 (fun g58 => ?_) (fun g58 => ?_)
      ·
        refine z_const X rfl ?_
        exact w_iret X.1 q hRt (nar_ret (by first | exact Or.inl (by decide) | omega)) (ax_d X (show cdA 74 82 = some (.ireturn, 1, 0, 0, 0) from rfl)) (Nat.zero_le _) (Nat.zero_le _) ⟨_, rfl, Is51, Gs51, 0, rfl, (by decide), by first | exact ⟨Or.inl (by decide), hps51.2.1, hps51.2.2⟩ | omega⟩
      ·
        exfalso
        omega
  ·
    refine z_aload_n X (x := A 19) rfl (List.Mem.head _) (z_callV X 19 (rm := rmN 80) (As := []) (st := []) rfl rfl (by decide) rfl (by rw [E.1, E.2.1, E.2.2.1]; exact c7_enter_19 G Is8 (by first | exact oq_e7b9ecab ws8_1 ws8_2 p0 | omega) (by first | exact oq_e7b9ecab ws8_2 ws8_4 p1 | omega)) ⟨by rw [E.2.2.2]; exact (show 8 + 1 ≤ (12 + (32 + 3 * (0))) from oq_6e542e63), by rw [E.2.2.2]; exact (show 8 + (1 + 11) + 143 ≤ (500 + 45 * (32 + 3 * (0))) from oq_72d660e0), by rw [E.2.2.2]; exact Nat.le_refl 0, by rw [E.2.2.2]; exact Nat.le_refl 0⟩ (Nat.le_of_ble_eq_true rfl) (fun vv s59 hq => ?_) (fun ee s59 hq => ?_))
    rotate_left
    · obtain ⟨Is59, Fs59, e60, hv, hrs59, hps59⟩ := hq; cases hv
    obtain ⟨Is59, Fs59, e60, hv, hrs59, hps59⟩ := hq
    have hps59p := And.intro hps59.2.1 (hps59.2.2)
    cases hv
    have Gs59 := fm_tq Gs8 Fs59 rfl rfl
    have b61 := bi_2 Is59
    have ws59_1 : iI s59 1 = iI s8 1 := fm_iq Fs59 rfl
    have b62 := bi_4 Is59
    have b63 := bi_5 Is59
    have b64 := bi_6 Is59
    have b65 := bi_19 Is59
    have ws59_16 : iI s59 16 = iI s8 16 := fm_iq Fs59 rfl
    show WS k 16 [(0, .ref (A 19))] [.int (Int32.ofInt e60)] (Wd A dT s59) 0 0
    refine z_if_eq X (t := 26) rfl rfl hrs59 (fun g66 => ?_) (fun g66 => ?_)
    ·
      refine z_const X rfl ?_
      exact w_iret X.1 q hRt (nar_ret (by first | exact Or.inl (by decide) | omega)) (ax_d X (show cdA 74 27 = some (.ireturn, 1, 0, 0, 0) from rfl)) (Nat.zero_le _) (Nat.zero_le _) ⟨_, rfl, Is59, Gs59, 0, rfl, (by decide), by first | exact ⟨Or.inl (by decide), hps59.2.1, hps59.2.2⟩ | omega⟩
    ·
      exfalso
      omega
set_option maxRecDepth 4000 in
theorem c7_testS (G : GX l s0 D tys a0 dT) (SF : SF0 s0) (GT : TXs0 s0) {r : Nat} (hT : ∀ {s : PS} , Bd s → (iI s 2 ≤ iI s 1) → (iI s 4 ≤ iI s 2) → (6 - iI s 19 ≤ ((r : Nat) : Int)) → CT l s0 D A dT 74 (rkR (32 + 3 * (r))) [.ref (A 19)] s (fun o t => Bd t ∧ Fm [2, 4, 6, 5, 7, 8, 19, 16] [18] s t ∧ ∃ e, o = .inl (some (.int (Int32.ofInt e))) ∧ rng e ∧ ((e = 0 ∨ (e = 1 ∧ iI t 19 = iI s 19)) ∧ iI t 2 ≤ iI t 1 ∧ iI t 4 ≤ iI t 2))) (hE : ∀ {s : PS} , Bd s → (iI s 2 ≤ iI s 1) → (iI s 4 ≤ iI s 2) → (6 - iI s 19 ≤ ((r : Nat) : Int)) → CT l s0 D A dT 72 (rkR (32 + 3 * (r) + 2)) [.ref (A 19)] s (fun o t => Bd t ∧ Fm [2, 4, 6, 5, 7, 8, 19, 16] [18] s t ∧ ∃ e, o = .inl (some (.int (Int32.ofInt e))) ∧ rng e ∧ ((e = 0 ∨ (e = 1 ∧ iI t 19 = iI s 19)) ∧ iI t 2 ≤ iI t 1 ∧ iI t 4 ≤ iI t 2))) (I : Bd s) (p0 : iI s 2 ≤ iI s 1) (p1 : iI s 4 ≤ iI s 2) (p2 : 6 - iI s 19 ≤ ((r + 1 : Nat) : Int)) : CT l s0 D A dT 74 (rkR (32 + 3 * (r + 1))) [.ref (A 19)] s (fun o t => Bd t ∧ Fm [2, 4, 6, 5, 7, 8, 19, 16] [18] s t ∧ ∃ e, o = .inl (some (.int (Int32.ofInt e))) ∧ rng e ∧ ((e = 0 ∨ (e = 1 ∧ iI t 19 = iI s 19)) ∧ iI t 2 ≤ iI t 1 ∧ iI t 4 ≤ iI t 2)) := by
  refine ct_ofX G (by decide) (Nat.le_of_ble_eq_true rfl) (fun k X E ET hRt hXt q => ?_)
  show WS k 0 [(0, .ref (A 19))] [] _ 0 0
  have F : Fm [2, 4, 6, 5, 7, 8, 19, 16] [18] s s := fm_rf _ _ s
  have b1 := bi_2 I
  have b2 := bi_1 I
  have b3 := bi_4 I
  have b4 := bi_5 I
  have b5 := bi_6 I
  have b6 := bi_19 I
  have b7 := bi_16 I
  refine z_aload_n X (x := A 19) rfl (List.Mem.head _) (s_getR X 19 rfl (c518_ok rfl) rfl rfl ?_)
  obtain ⟨tx111, q111, hR111, hS111⟩ := GT (111, 3) (by decide)
  refine w_ldcK X (show vk_R (kOwn k) 111 tx111 q111 (kS0 k) by rw [E.2.1, X.2.1.2.1]; exact hR111) (show decode (kCc k) 4 = .ok (.ldc 111, 2) by rw [X.2.1.1]; decide +kernel) (z_callV X 1 (rm := rmN 131) (As := [.ref q111]) (st := []) rfl rfl (by decide) rfl (by rw [E.1, E.2.1, E.2.2.1]; exact c10_says G SF hS111 I (by first | exact p1 | omega)) ⟨by rw [E.2.2.2]; exact (show 11 + 1 ≤ (12 + (32 + 3 * (r + 1))) from oq_c9a3ea85 r), by rw [E.2.2.2]; exact (show 8 + (3 + 11) + 206 ≤ (500 + 45 * (32 + 3 * (r + 1))) from oq_5eb0540b r), by rw [E.2.2.2]; exact Nat.le_refl 0, by rw [E.2.2.2]; exact Nat.le_refl 0⟩ (Nat.le_of_ble_eq_true rfl) (fun vv s8 hq => ?_) (fun ee s8 hq => ?_))
  rotate_left
  · obtain ⟨Is8, Fs8, e9, hv, hrs8, hps8⟩ := hq; cases hv
  obtain ⟨Is8, Fs8, e9, hv, hrs8, hps8⟩ := hq
  cases hv
  have Gs8 := fm_tq F Fs8 rfl rfl
  have ws8_2 : iI s8 2 = iI s 2 := fm_iq Fs8 rfl
  have ws8_1 : iI s8 1 = iI s 1 := fm_iq Fs8 rfl
  have ws8_4 : iI s8 4 = iI s 4 := fm_iq Fs8 rfl
  have ws8_5 : iI s8 5 = iI s 5 := fm_iq Fs8 rfl
  have ws8_6 : iI s8 6 = iI s 6 := fm_iq Fs8 rfl
  have ws8_19 : iI s8 19 = iI s 19 := fm_iq Fs8 rfl
  have ws8_16 : iI s8 16 = iI s 16 := fm_iq Fs8 rfl
  show WS k 9 [(0, .ref (A 19))] [.int (Int32.ofInt e9)] (Wd A dT s8) 0 0
  refine z_if_eq X (t := 46) rfl rfl hrs8 (fun g10 => ?_) (fun g10 => ?_)
  ·
    refine z_aload_n X (x := A 19) rfl (List.Mem.head _) (s_getR X 19 rfl (c518_ok rfl) rfl rfl (z_getI X 1 rfl (c518_ok rfl) rfl rfl ?_))
    have b11 := bi_5 Is8
    refine z_bipush X rfl (z_icmp_ne X (t := 95) rfl rfl (rng_to _) (by decide) (fun g12 => ?_) (fun g12 => ?_))
    ·
      refine z_aload_n X (x := A 19) rfl (List.Mem.head _) (z_callV X 19 (rm := (rkR (4 * (7) + 3))) (As := []) (st := []) rfl rfl (by decide) rfl (by rw [E.1, E.2.1, E.2.2.1]; exact (c7_sumr G SF GT 7).2.2.2 Is8 (by first | exact oq_e7b9ecab ws8_1 ws8_2 p0 | omega) (by first | exact oq_e7b9ecab ws8_2 ws8_4 p1 | omega) (by first | exact oq_ba167e5f ws8_19 b6.1 | omega)) ⟨by rw [E.2.2.2]; exact (show (12 + (4 * (7) + 3)) + 1 ≤ (12 + (32 + 3 * (r + 1))) from oq_e0a8f0a0 r), by rw [E.2.2.2]; exact (show 8 + (3 + 11) + (500 + 45 * (4 * (7) + 3)) ≤ (500 + 45 * (32 + 3 * (r + 1))) from oq_eacdd764 r), by rw [E.2.2.2]; exact Nat.le_refl 0, by rw [E.2.2.2]; exact Nat.le_refl 0⟩ (Nat.le_of_ble_eq_true rfl) (fun vv s13 hq => ?_) (fun ee s13 hq => ?_))
      rotate_left
      · obtain ⟨Is13, Fs13, e14, hv, hrs13, hps13⟩ := hq; cases hv
      obtain ⟨Is13, Fs13, e14, hv, hrs13, hps13⟩ := hq
      cases hv
      have Gs13 := fm_tq Gs8 Fs13 rfl rfl
      have b15 := bi_2 Is13
      have ws13_1 : iI s13 1 = iI s8 1 := fm_iq Fs13 rfl
      have b16 := bi_4 Is13
      have b17 := bi_5 Is13
      have b18 := bi_6 Is13
      have b19 := bi_19 Is13
      have b20 := bi_16 Is13
      show WS k 99 [(0, .ref (A 19))] [.int (Int32.ofInt e14)] (Wd A dT s13) 0 0
      refine z_if_ne X (t := 104) rfl rfl hrs13 (fun g21 => ?_) (fun g21 => ?_)
      ·
        refine z_aload_n X (x := A 19) rfl (List.Mem.head _) (s_getR X 19 rfl (c518_ok rfl) rfl rfl (z_getI X 1 rfl (c518_ok rfl) rfl rfl ?_))
        have b22 := bi_5 Is13
        refine z_bipush X rfl ?_
        have N23 : ∀ e24 : Int, ((-20) ≤ e24 ∧ e24 ≤ (-15)) → WS k 157 [(0, .ref (A 19))] [.int (Int32.ofInt e24)] (Wd A dT s13) 0 0 := by
          intro e24 he24
          refine z_store_n X (lv' := [(1, .int (Int32.ofInt e24)), (0, .ref (A 19))]) rfl (by decide) (fun _ h => h) (z_load_n X (x := e24) rfl (List.Mem.head _) (z_bipush X rfl (z_icmp_ne X (t := 173) rfl rfl ⟨by first | exact oq_e12b0ae3 he24.1 | omega, by first | exact oq_86745356 he24.2 | omega⟩ (by decide) (fun g25 => ?_) (fun g25 => ?_))))
          ·
            refine z_aload_n X (x := A 19) rfl (List.Mem.tail _ (List.Mem.head _)) (s_getR X 19 rfl (c518_ok rfl) rfl rfl (z_callV X 1 (rm := rmN 129) (As := []) (st := []) rfl rfl (by decide) rfl (by rw [E.1, E.2.1, E.2.2.1]; exact c10_step_1 G Is13 (by first | (clear g25 g21 hps13 g12 hps8; omega) | (clear g21 hps13 g12 hps8; omega) | omega)) ⟨by rw [E.2.2.2]; exact (show 7 + 1 ≤ (12 + (32 + 3 * (r + 1))) from oq_36a63932 r), by rw [E.2.2.2]; exact (show 8 + (1 + 11) + 121 ≤ (500 + 45 * (32 + 3 * (r + 1))) from oq_ab0c04be r), by rw [E.2.2.2]; exact Nat.le_refl 0, by rw [E.2.2.2]; exact Nat.le_refl 0⟩ (Nat.le_of_ble_eq_true rfl) (fun vv s26 hq => ?_) (fun ee s26 hq => ?_)))
            rotate_left
            · obtain ⟨Is26, Fs26, hv, hps26⟩ := hq; cases hv
            obtain ⟨Is26, Fs26, hv, hps26⟩ := hq
            cases hv
            have Gs26 := fm_tq Gs13 Fs26 rfl rfl
            have b28 := bi_2 Is26
            have ws26_1 : iI s26 1 = iI s13 1 := fm_iq Fs26 rfl
            have b29 := bi_4 Is26
            have b30 := bi_5 Is26
            have b31 := bi_6 Is26
            have ws26_19 : iI s26 19 = iI s13 19 := fm_iq Fs26 rfl
            have ws26_16 : iI s26 16 = iI s13 16 := fm_iq Fs26 rfl
            show WS k 180 [(1, .int (Int32.ofInt e24)), (0, .ref (A 19))] [] (Wd A dT s26) 0 0
            refine z_aload_n X (x := A 19) rfl (List.Mem.tail _ (List.Mem.head _)) (z_callV X 19 (rm := (rkR (4 * (7) + 3))) (As := []) (st := []) rfl rfl (by decide) rfl (by rw [E.1, E.2.1, E.2.2.1]; exact (c7_sumr G SF GT 7).2.2.2 Is26 (by first | exact hps26.1 | omega) (by first | exact hps26.2 | omega) (by first | exact oq_ba167e5f ws26_19 b19.1 | omega)) ⟨by rw [E.2.2.2]; exact (show (12 + (4 * (7) + 3)) + 1 ≤ (12 + (32 + 3 * (r + 1))) from oq_e0a8f0a0 r), by rw [E.2.2.2]; exact (show 8 + (3 + 11) + (500 + 45 * (4 * (7) + 3)) ≤ (500 + 45 * (32 + 3 * (r + 1))) from oq_eacdd764 r), by rw [E.2.2.2]; exact Nat.le_refl 0, by rw [E.2.2.2]; exact Nat.le_refl 0⟩ (Nat.le_of_ble_eq_true rfl) (fun vv s32 hq => ?_) (fun ee s32 hq => ?_))
            rotate_left
            · obtain ⟨Is32, Fs32, e33, hv, hrs32, hps32⟩ := hq; cases hv
            obtain ⟨Is32, Fs32, e33, hv, hrs32, hps32⟩ := hq
            cases hv
            have Gs32 := fm_tq Gs26 Fs32 rfl rfl
            have b34 := bi_2 Is32
            have ws32_1 : iI s32 1 = iI s26 1 := fm_iq Fs32 rfl
            have b35 := bi_4 Is32
            have b36 := bi_5 Is32
            have b37 := bi_6 Is32
            have b38 := bi_19 Is32
            have b39 := bi_16 Is32
            show WS k 184 [(1, .int (Int32.ofInt e24)), (0, .ref (A 19))] [.int (Int32.ofInt e33)] (Wd A dT s32) 0 0
            refine z_if_ne X (t := 189) rfl rfl hrs32 (fun g40 => ?_) (fun g40 => ?_)
            ·
              refine z_aload_n X (x := A 19) rfl (List.Mem.tail _ (List.Mem.head _)) (z_load_n X (x := e24) rfl (List.Mem.head _) (z_callV X 19 (rm := rmN 82) (As := [.int (Int32.ofInt e24)]) (st := []) rfl rfl (by decide) rfl (by rw [E.1, E.2.1, E.2.2.1]; exact c7_put_19 G Is32 (by first | exact ⟨oq_e12b0ae3 he24.1, oq_86745356 he24.2⟩ | omega)) ⟨by rw [E.2.2.2]; exact (show 6 + 1 ≤ (12 + (32 + 3 * (r + 1))) from oq_65b7d3a7 r), by rw [E.2.2.2]; exact (show 8 + (2 + 11) + 100 ≤ (500 + 45 * (32 + 3 * (r + 1))) from oq_bfe32ab2 r), by rw [E.2.2.2]; exact Nat.le_refl 0, by rw [E.2.2.2]; exact Nat.le_refl 0⟩ (Nat.le_of_ble_eq_true rfl) (fun vv s41 hq => ?_) (fun ee s41 hq => ?_)))
              rotate_left
              · obtain ⟨Is41, Fs41, hv, hps41⟩ := hq; cases hv
              obtain ⟨Is41, Fs41, hv, hps41⟩ := hq
              cases hv
              have Gs41 := fm_tq Gs32 Fs41 rfl rfl
              have ws41_2 : iI s41 2 = iI s32 2 := fm_iq Fs41 rfl
              have ws41_1 : iI s41 1 = iI s32 1 := fm_iq Fs41 rfl
              have ws41_4 : iI s41 4 = iI s32 4 := fm_iq Fs41 rfl
              have ws41_5 : iI s41 5 = iI s32 5 := fm_iq Fs41 rfl
              have ws41_6 : iI s41 6 = iI s32 6 := fm_iq Fs41 rfl
              have ws41_19 : iI s41 19 = iI s32 19 := fm_iq Fs41 rfl
              have b43 := bi_16 Is41
              show WS k 194 [(1, .int (Int32.ofInt e24)), (0, .ref (A 19))] [] (Wd A dT s41) 0 0
              refine z_const X rfl ?_
              exact w_iret X.1 q hRt (nar_ret (by first | exact Or.inr (by decide) | omega)) (ax_d X (show cdA 74 195 = some (.ireturn, 1, 0, 0, 0) from rfl)) (Nat.zero_le _) (Nat.zero_le _) ⟨_, rfl, Is41, Gs41, 1, rfl, (by decide), by first | (clear g40 hps32 g25 g21 hps13 g12 hps8; omega) | (clear hps32 g25 g21 hps13 g12 hps8; omega) | omega⟩
            ·
              refine z_const X rfl ?_
              exact w_iret X.1 q hRt (nar_ret (by first | exact Or.inl (by decide) | omega)) (ax_d X (show cdA 74 188 = some (.ireturn, 1, 0, 0, 0) from rfl)) (Nat.zero_le _) (Nat.zero_le _) ⟨_, rfl, Is32, Gs32, 0, rfl, (by decide), by first | exact ⟨Or.inl (by decide), by first | (clear hps32 g25 g21 hps13 g12 hps8; omega) | (clear g25 g21 hps13 g12 hps8; omega) | omega, by first | (clear hps32 g25 g21 hps13 g12 hps8; omega) | (clear g25 g21 hps13 g12 hps8; omega) | omega⟩ | omega⟩
          ·
            refine z_aload_n X (x := A 19) rfl (List.Mem.tail _ (List.Mem.head _)) (s_getR X 19 rfl (c518_ok rfl) rfl rfl (z_const X rfl (z_callV X 1 (rm := rmN 132) (As := [.int (Int32.ofInt 1)]) (st := []) rfl rfl (by decide) rfl (by rw [E.1, E.2.1, E.2.2.1]; exact c10_refuse_1 G Is13 (by first | exact ⟨by decide, by decide⟩ | omega)) ⟨by rw [E.2.2.2]; exact (show 7 + 1 ≤ (12 + (32 + 3 * (r + 1))) from oq_36a63932 r), by rw [E.2.2.2]; exact (show 8 + (2 + 11) + 122 ≤ (500 + 45 * (32 + 3 * (r + 1))) from oq_562d3263 r), by rw [E.2.2.2]; exact Nat.le_refl 0, by rw [E.2.2.2]; exact Nat.le_refl 0⟩ (Nat.le_of_ble_eq_true rfl) (fun vv s44 hq => ?_) (fun ee s44 hq => ?_))))
            rotate_left
            · obtain ⟨Is44, Fs44, e45, hv, hrs44, hps44⟩ := hq; cases hv
            obtain ⟨Is44, Fs44, e45, hv, hrs44, hps44⟩ := hq
            cases hv
            have Gs44 := fm_tq Gs13 Fs44 rfl rfl
            have ws44_2 : iI s44 2 = iI s13 2 := fm_iq Fs44 rfl
            have ws44_1 : iI s44 1 = iI s13 1 := fm_iq Fs44 rfl
            have ws44_4 : iI s44 4 = iI s13 4 := fm_iq Fs44 rfl
            have ws44_5 : iI s44 5 = iI s13 5 := fm_iq Fs44 rfl
            have ws44_6 : iI s44 6 = iI s13 6 := fm_iq Fs44 rfl
            have ws44_19 : iI s44 19 = iI s13 19 := fm_iq Fs44 rfl
            have ws44_16 : iI s44 16 = iI s13 16 := fm_iq Fs44 rfl
            show WS k 172 [(1, .int (Int32.ofInt e24)), (0, .ref (A 19))] [.int (Int32.ofInt e45)] (Wd A dT s44) 0 0
            exact w_iret X.1 q hRt (nar_ret (by first | exact Or.inl (hps44) | omega)) (ax_d X (show cdA 74 172 = some (.ireturn, 1, 0, 0, 0) from rfl)) (Nat.zero_le _) (Nat.zero_le _) ⟨_, rfl, Is44, Gs44, e45, rfl, hrs44, by first | exact ⟨Or.inl (hps44), by first | (clear g21 hps13 g12 hps8; omega) | (clear hps13 g12 hps8; omega) | omega, by first | (clear g21 hps13 g12 hps8; omega) | (clear hps13 g12 hps8; omega) | omega⟩ | omega⟩
        refine z_icmp_ne X (t := 121) rfl rfl (rng_to _) (by decide) (fun g46 => ?_) (fun g46 => ?_)
        ·
          refine z_aload_n X (x := A 19) rfl (List.Mem.head _) (s_getR X 19 rfl (c518_ok rfl) rfl rfl (z_getI X 1 rfl (c518_ok rfl) rfl rfl ?_))
          have b47 := bi_5 Is13
          refine z_bipush X rfl (z_icmp_ne X (t := 138) rfl rfl (rng_to _) (by decide) (fun g48 => ?_) (fun g48 => ?_))
          ·
            refine z_aload_n X (x := A 19) rfl (List.Mem.head _) (s_getR X 19 rfl (c518_ok rfl) rfl rfl (z_getI X 1 rfl (c518_ok rfl) rfl rfl ?_))
            have b49 := bi_5 Is13
            refine z_bipush X rfl (z_icmp_ne X (t := 155) rfl rfl (rng_to _) (by decide) (fun g50 => ?_) (fun g50 => ?_))
            ·
              refine z_bipush X rfl ?_
              exact N23 _ (by first | (clear g50 g48 g46 g21 hps13 g12 hps8; omega) | (clear g48 g46 g21 hps13 g12 hps8; omega) | omega)
            ·
              refine z_bipush X rfl (z_goto X (t := 157) rfl rfl ?_)
              exact N23 _ (by first | (clear g48 g46 g21 hps13 g12 hps8; omega) | (clear g46 g21 hps13 g12 hps8; omega) | omega)
          ·
            refine z_bipush X rfl (z_goto X (t := 157) rfl rfl ?_)
            exact N23 _ (by first | (clear g46 g21 hps13 g12 hps8; omega) | (clear g21 hps13 g12 hps8; omega) | omega)
        ·
          refine z_bipush X rfl (z_goto X (t := 157) rfl rfl ?_)
          exact N23 _ (by first | (clear g21 hps13 g12 hps8; omega) | (clear hps13 g12 hps8; omega) | omega)
      ·
        refine z_const X rfl ?_
        exact w_iret X.1 q hRt (nar_ret (by first | exact Or.inl (by decide) | omega)) (ax_d X (show cdA 74 103 = some (.ireturn, 1, 0, 0, 0) from rfl)) (Nat.zero_le _) (Nat.zero_le _) ⟨_, rfl, Is13, Gs13, 0, rfl, (by decide), by first | exact ⟨Or.inl (by decide), by first | (clear hps13 g12 hps8; omega) | (clear g12 hps8; omega) | omega, by first | (clear hps13 g12 hps8; omega) | (clear g12 hps8; omega) | omega⟩ | omega⟩
    ·
      refine z_aload_n X (x := A 19) rfl (List.Mem.head _) (z_callV X 19 (rm := rmN 80) (As := []) (st := []) rfl rfl (by decide) rfl (by rw [E.1, E.2.1, E.2.2.1]; exact c7_enter_19 G Is8 (by first | exact oq_e7b9ecab ws8_1 ws8_2 p0 | omega) (by first | exact oq_e7b9ecab ws8_2 ws8_4 p1 | omega)) ⟨by rw [E.2.2.2]; exact (show 8 + 1 ≤ (12 + (32 + 3 * (r + 1))) from oq_de5d5424 r), by rw [E.2.2.2]; exact (show 8 + (1 + 11) + 143 ≤ (500 + 45 * (32 + 3 * (r + 1))) from oq_8bb5ae4a r), by rw [E.2.2.2]; exact Nat.le_refl 0, by rw [E.2.2.2]; exact Nat.le_refl 0⟩ (Nat.le_of_ble_eq_true rfl) (fun vv s51 hq => ?_) (fun ee s51 hq => ?_))
      rotate_left
      · obtain ⟨Is51, Fs51, e52, hv, hrs51, hps51⟩ := hq; cases hv
      obtain ⟨Is51, Fs51, e52, hv, hrs51, hps51⟩ := hq
      have hps51p := And.intro hps51.2.1 (hps51.2.2)
      cases hv
      have Gs51 := fm_tq Gs8 Fs51 rfl rfl
      have b53 := bi_2 Is51
      have ws51_1 : iI s51 1 = iI s8 1 := fm_iq Fs51 rfl
      have b54 := bi_4 Is51
      have b55 := bi_5 Is51
      have b56 := bi_6 Is51
      have b57 := bi_19 Is51
      have ws51_16 : iI s51 16 = iI s8 16 := fm_iq Fs51 rfl
      show WS k 62 [(0, .ref (A 19))] [.int (Int32.ofInt e52)] (Wd A dT s51) 0 0
      refine z_if_eq X (t := 81) rfl rfl hrs51 (fun g58 => ?_) (fun g58 => ?_)
      ·
        refine z_const X rfl ?_
        exact w_iret X.1 q hRt (nar_ret (by first | exact Or.inl (by decide) | omega)) (ax_d X (show cdA 74 82 = some (.ireturn, 1, 0, 0, 0) from rfl)) (Nat.zero_le _) (Nat.zero_le _) ⟨_, rfl, Is51, Gs51, 0, rfl, (by decide), by first | exact ⟨Or.inl (by decide), hps51.2.1, hps51.2.2⟩ | omega⟩
      ·
        refine z_aload_n X (x := A 19) rfl (List.Mem.head _) (z_callV X 19 (rm := (rkR (32 + 3 * (r) + 2))) (As := []) (st := []) rfl rfl (by decide) rfl (by rw [E.1, E.2.1, E.2.2.1]; exact hE Is51 (by first | exact hps51.2.1 | omega) (by first | exact hps51.2.2 | omega) (by first | (clear g58 hps51 hps8; omega) | (clear hps51 hps8; omega) | omega)) ⟨by rw [E.2.2.2]; exact (show (12 + (32 + 3 * (r) + 2)) + 1 ≤ (12 + (32 + 3 * (r + 1))) from oq_45eb8909 r), by rw [E.2.2.2]; exact (show 8 + (2 + 11) + (500 + 45 * (32 + 3 * (r) + 2)) ≤ (500 + 45 * (32 + 3 * (r + 1))) from oq_a5f4ad9d r), by rw [E.2.2.2]; exact Nat.le_refl 0, by rw [E.2.2.2]; exact Nat.le_refl 0⟩ (Nat.le_of_ble_eq_true rfl) (fun vv s59 hq => ?_) (fun ee s59 hq => ?_))
        rotate_left
        · obtain ⟨Is59, Fs59, e60, hv, hrs59, hps59⟩ := hq; cases hv
        obtain ⟨Is59, Fs59, e60, hv, hrs59, hps59⟩ := hq
        have hps59p := And.intro hps59.2.1 (hps59.2.2)
        cases hv
        have Gs59 := fm_tq Gs51 Fs59 rfl rfl
        have b61 := bi_2 Is59
        have ws59_1 : iI s59 1 = iI s51 1 := fm_iq Fs59 rfl
        have b62 := bi_4 Is59
        have b63 := bi_5 Is59
        have b64 := bi_6 Is59
        have b65 := bi_19 Is59
        have b66 := bi_16 Is59
        show WS k 69 [(0, .ref (A 19))] [.int (Int32.ofInt e60)] (Wd A dT s59) 0 0
        refine z_if_eq X (t := 81) rfl rfl hrs59 (fun g67 => ?_) (fun g67 => ?_)
        ·
          refine z_const X rfl ?_
          exact w_iret X.1 q hRt (nar_ret (by first | exact Or.inl (by decide) | omega)) (ax_d X (show cdA 74 82 = some (.ireturn, 1, 0, 0, 0) from rfl)) (Nat.zero_le _) (Nat.zero_le _) ⟨_, rfl, Is59, Gs59, 0, rfl, (by decide), by first | exact ⟨Or.inl (by decide), by first | (clear hps59 g58 hps51 hps8; omega) | (clear g58 hps51 hps8; omega) | omega, by first | (clear hps59 g58 hps51 hps8; omega) | (clear g58 hps51 hps8; omega) | omega⟩ | omega⟩
        ·
          refine z_aload_n X (x := A 19) rfl (List.Mem.head _) (z_bipush X rfl (z_callV X 19 (rm := rmN 81) (As := [.int (Int32.ofInt 93)]) (st := []) rfl rfl (by decide) rfl (by rw [E.1, E.2.1, E.2.2.1]; exact c7_pass_19 G Is59 (by first | exact ⟨by decide, by decide⟩ | omega) (by first | (clear g67 hps59 g58 hps51 hps8; omega) | (clear hps59 g58 hps51 hps8; omega) | omega) (by first | (clear g67 hps59 g58 hps51 hps8; omega) | (clear hps59 g58 hps51 hps8; omega) | omega)) ⟨by rw [E.2.2.2]; exact (show 8 + 1 ≤ (12 + (32 + 3 * (r + 1))) from oq_de5d5424 r), by rw [E.2.2.2]; exact (show 8 + (2 + 11) + 143 ≤ (500 + 45 * (32 + 3 * (r + 1))) from oq_0961b7e0 r), by rw [E.2.2.2]; exact Nat.le_refl 0, by rw [E.2.2.2]; exact Nat.le_refl 0⟩ (Nat.le_of_ble_eq_true rfl) (fun vv s68 hq => ?_) (fun ee s68 hq => ?_)))
          rotate_left
          · obtain ⟨Is68, Fs68, e69, hv, hrs68, hps68⟩ := hq; cases hv
          obtain ⟨Is68, Fs68, e69, hv, hrs68, hps68⟩ := hq
          have hps68p := And.intro hps68.2.1 (hps68.2.2)
          cases hv
          have Gs68 := fm_tq Gs59 Fs68 rfl rfl
          have b70 := bi_2 Is68
          have ws68_1 : iI s68 1 = iI s59 1 := fm_iq Fs68 rfl
          have b71 := bi_4 Is68
          have b72 := bi_5 Is68
          have b73 := bi_6 Is68
          have ws68_19 : iI s68 19 = iI s59 19 := fm_iq Fs68 rfl
          have ws68_16 : iI s68 16 = iI s59 16 := fm_iq Fs68 rfl
          show WS k 78 [(0, .ref (A 19))] [.int (Int32.ofInt e69)] (Wd A dT s68) 0 0
          refine z_if_ne X (t := 83) rfl rfl hrs68 (fun g74 => ?_) (fun g74 => ?_)
          ·
            refine z_aload_n X (x := A 19) rfl (List.Mem.head _) (w_dup X.1 (ax_d X (show cdA 74 84 = some (.dup, 1, 0, 0, 0) from rfl)) rfl (z_getI X 19 rfl (c518_ok rfl) rfl rfl ?_))
            have b75 := bi_19 Is68
            refine z_const X rfl (z_sub X rfl (s_putI X 19 rfl (c518_ok rfl) rfl rfl (by decide) rfl rfl rfl (wd_gen (fun s76 hs76 => ?_))))
            have Is76 : Bd s76 := eqB hs76 (bd_I Is68 (show (0 : Int) ≤ ((iI s68 19) - 1) ∧ ((iI s68 19) - 1) ≤ 6 by first | exact ⟨by first | (clear g74 hps68 g67 hps59 g58 hps51 hps8; omega) | (clear hps68 g67 hps59 g58 hps51 hps8; omega) | omega, oq_a9606c0d b75.2⟩ | omega) ⟨by first | exact oq_c1e961c7 b75.1 | omega, by first | exact oq_b383b26c b75.2 | omega⟩)
            have Fs76 := eqF hs76 (fm_I Gs68 (inl_ok (a := 19) rfl))
            have vs76 : iI s76 19 = ((iI s68 19) - 1) := eqI hs76 (iI_u ⟨by first | exact oq_c1e961c7 b75.1 | omega, by first | exact oq_b383b26c b75.2 | omega⟩)
            have ws76_2 : iI s76 2 = iI s68 2 := eqI hs76 rfl
            have ws76_1 : iI s76 1 = iI s68 1 := eqI hs76 rfl
            have ws76_4 : iI s76 4 = iI s68 4 := eqI hs76 rfl
            have ws76_5 : iI s76 5 = iI s68 5 := eqI hs76 rfl
            have ws76_6 : iI s76 6 = iI s68 6 := eqI hs76 rfl
            have ws76_16 : iI s76 16 = iI s68 16 := eqI hs76 rfl
            refine z_const X rfl ?_
            exact w_iret X.1 q hRt (nar_ret (by first | exact Or.inr (by decide) | omega)) (ax_d X (show cdA 74 94 = some (.ireturn, 1, 0, 0, 0) from rfl)) (Nat.zero_le _) (Nat.zero_le _) ⟨_, rfl, Is76, Fs76, 1, rfl, (by decide), by first | exact ⟨by first | (clear g74 hps68 g67 hps59 g58 hps51 hps8; omega) | (clear hps68 g67 hps59 g58 hps51 hps8; omega) | omega, oq_e7b9ecab ws76_1 ws76_2 hps68.2.1, oq_e7b9ecab ws76_2 ws76_4 hps68.2.2⟩ | omega⟩
          ·
            refine z_const X rfl ?_
            exact w_iret X.1 q hRt (nar_ret (by first | exact Or.inl (by decide) | omega)) (ax_d X (show cdA 74 82 = some (.ireturn, 1, 0, 0, 0) from rfl)) (Nat.zero_le _) (Nat.zero_le _) ⟨_, rfl, Is68, Gs68, 0, rfl, (by decide), by first | exact ⟨Or.inl (by decide), hps68.2.1, hps68.2.2⟩ | omega⟩
  ·
    refine z_aload_n X (x := A 19) rfl (List.Mem.head _) (z_callV X 19 (rm := rmN 80) (As := []) (st := []) rfl rfl (by decide) rfl (by rw [E.1, E.2.1, E.2.2.1]; exact c7_enter_19 G Is8 (by first | exact oq_e7b9ecab ws8_1 ws8_2 p0 | omega) (by first | exact oq_e7b9ecab ws8_2 ws8_4 p1 | omega)) ⟨by rw [E.2.2.2]; exact (show 8 + 1 ≤ (12 + (32 + 3 * (r + 1))) from oq_de5d5424 r), by rw [E.2.2.2]; exact (show 8 + (1 + 11) + 143 ≤ (500 + 45 * (32 + 3 * (r + 1))) from oq_8bb5ae4a r), by rw [E.2.2.2]; exact Nat.le_refl 0, by rw [E.2.2.2]; exact Nat.le_refl 0⟩ (Nat.le_of_ble_eq_true rfl) (fun vv s77 hq => ?_) (fun ee s77 hq => ?_))
    rotate_left
    · obtain ⟨Is77, Fs77, e78, hv, hrs77, hps77⟩ := hq; cases hv
    obtain ⟨Is77, Fs77, e78, hv, hrs77, hps77⟩ := hq
    have hps77p := And.intro hps77.2.1 (hps77.2.2)
    cases hv
    have Gs77 := fm_tq Gs8 Fs77 rfl rfl
    have b79 := bi_2 Is77
    have ws77_1 : iI s77 1 = iI s8 1 := fm_iq Fs77 rfl
    have b80 := bi_4 Is77
    have b81 := bi_5 Is77
    have b82 := bi_6 Is77
    have b83 := bi_19 Is77
    have ws77_16 : iI s77 16 = iI s8 16 := fm_iq Fs77 rfl
    show WS k 16 [(0, .ref (A 19))] [.int (Int32.ofInt e78)] (Wd A dT s77) 0 0
    refine z_if_eq X (t := 26) rfl rfl hrs77 (fun g84 => ?_) (fun g84 => ?_)
    ·
      refine z_const X rfl ?_
      exact w_iret X.1 q hRt (nar_ret (by first | exact Or.inl (by decide) | omega)) (ax_d X (show cdA 74 27 = some (.ireturn, 1, 0, 0, 0) from rfl)) (Nat.zero_le _) (Nat.zero_le _) ⟨_, rfl, Is77, Gs77, 0, rfl, (by decide), by first | exact ⟨Or.inl (by decide), hps77.2.1, hps77.2.2⟩ | omega⟩
    ·
      refine z_aload_n X (x := A 19) rfl (List.Mem.head _) (z_callV X 19 (rm := (rkR (32 + 3 * (r)))) (As := []) (st := []) rfl rfl (by decide) rfl (by rw [E.1, E.2.1, E.2.2.1]; exact hT Is77 (by first | exact hps77.2.1 | omega) (by first | exact hps77.2.2 | omega) (by first | (clear g84 hps77 g10 hps8; omega) | (clear hps77 g10 hps8; omega) | omega)) ⟨by rw [E.2.2.2]; exact (show (12 + (32 + 3 * (r))) + 1 ≤ (12 + (32 + 3 * (r + 1))) from oq_a51edb0d r), by rw [E.2.2.2]; exact (show 8 + (2 + 11) + (500 + 45 * (32 + 3 * (r))) ≤ (500 + 45 * (32 + 3 * (r + 1))) from oq_75be701f r), by rw [E.2.2.2]; exact Nat.le_refl 0, by rw [E.2.2.2]; exact Nat.le_refl 0⟩ (Nat.le_of_ble_eq_true rfl) (fun vv s85 hq => ?_) (fun ee s85 hq => ?_))
      rotate_left
      · obtain ⟨Is85, Fs85, e86, hv, hrs85, hps85⟩ := hq; cases hv
      obtain ⟨Is85, Fs85, e86, hv, hrs85, hps85⟩ := hq
      have hps85p := And.intro hps85.2.1 (hps85.2.2)
      cases hv
      have Gs85 := fm_tq Gs77 Fs85 rfl rfl
      have b87 := bi_2 Is85
      have ws85_1 : iI s85 1 = iI s77 1 := fm_iq Fs85 rfl
      have b88 := bi_4 Is85
      have b89 := bi_5 Is85
      have b90 := bi_6 Is85
      have b91 := bi_19 Is85
      have b92 := bi_16 Is85
      show WS k 23 [(0, .ref (A 19))] [.int (Int32.ofInt e86)] (Wd A dT s85) 0 0
      refine z_if_ne X (t := 28) rfl rfl hrs85 (fun g93 => ?_) (fun g93 => ?_)
      ·
        refine z_aload_n X (x := A 19) rfl (List.Mem.head _) (w_dup X.1 (ax_d X (show cdA 74 29 = some (.dup, 1, 0, 0, 0) from rfl)) rfl (z_getI X 19 rfl (c518_ok rfl) rfl rfl ?_))
        have b94 := bi_19 Is85
        refine z_const X rfl (z_sub X rfl (s_putI X 19 rfl (c518_ok rfl) rfl rfl (by decide) rfl rfl rfl (wd_gen (fun s95 hs95 => ?_))))
        have Is95 : Bd s95 := eqB hs95 (bd_I Is85 (show (0 : Int) ≤ ((iI s85 19) - 1) ∧ ((iI s85 19) - 1) ≤ 6 by first | exact ⟨by first | (clear g93 hps85 g84 hps77 g10 hps8; omega) | (clear hps85 g84 hps77 g10 hps8; omega) | omega, oq_a9606c0d b94.2⟩ | omega) ⟨by first | exact oq_c1e961c7 b94.1 | omega, by first | exact oq_b383b26c b94.2 | omega⟩)
        have Fs95 := eqF hs95 (fm_I Gs85 (inl_ok (a := 19) rfl))
        have vs95 : iI s95 19 = ((iI s85 19) - 1) := eqI hs95 (iI_u ⟨by first | exact oq_c1e961c7 b94.1 | omega, by first | exact oq_b383b26c b94.2 | omega⟩)
        have ws95_2 : iI s95 2 = iI s85 2 := eqI hs95 rfl
        have ws95_1 : iI s95 1 = iI s85 1 := eqI hs95 rfl
        have ws95_4 : iI s95 4 = iI s85 4 := eqI hs95 rfl
        have ws95_5 : iI s95 5 = iI s85 5 := eqI hs95 rfl
        have ws95_6 : iI s95 6 = iI s85 6 := eqI hs95 rfl
        have ws95_16 : iI s95 16 = iI s85 16 := eqI hs95 rfl
        refine z_aload_n X (x := A 19) rfl (List.Mem.head _) (z_bipush X rfl (z_callV X 19 (rm := rmN 82) (As := [.int (Int32.ofInt (-8))]) (st := []) rfl rfl (by decide) rfl (by rw [E.1, E.2.1, E.2.2.1]; exact c7_put_19 G Is95 (by first | exact ⟨by decide, by decide⟩ | omega)) ⟨by rw [E.2.2.2]; exact (show 6 + 1 ≤ (12 + (32 + 3 * (r + 1))) from oq_65b7d3a7 r), by rw [E.2.2.2]; exact (show 8 + (2 + 11) + 100 ≤ (500 + 45 * (32 + 3 * (r + 1))) from oq_bfe32ab2 r), by rw [E.2.2.2]; exact Nat.le_refl 0, by rw [E.2.2.2]; exact Nat.le_refl 0⟩ (Nat.le_of_ble_eq_true rfl) (fun vv s96 hq => ?_) (fun ee s96 hq => ?_)))
        rotate_left
        · obtain ⟨Is96, Fs96, hv, hps96⟩ := hq; cases hv
        obtain ⟨Is96, Fs96, hv, hps96⟩ := hq
        cases hv
        have Gs96 := fm_tq Fs95 Fs96 rfl rfl
        have ws96_2 : iI s96 2 = iI s95 2 := fm_iq Fs96 rfl
        have ws96_1 : iI s96 1 = iI s95 1 := fm_iq Fs96 rfl
        have ws96_4 : iI s96 4 = iI s95 4 := fm_iq Fs96 rfl
        have ws96_5 : iI s96 5 = iI s95 5 := fm_iq Fs96 rfl
        have ws96_6 : iI s96 6 = iI s95 6 := fm_iq Fs96 rfl
        have ws96_19 : iI s96 19 = iI s95 19 := fm_iq Fs96 rfl
        have b98 := bi_16 Is96
        show WS k 44 [(0, .ref (A 19))] [] (Wd A dT s96) 0 0
        refine z_const X rfl ?_
        exact w_iret X.1 q hRt (nar_ret (by first | exact Or.inr (by decide) | omega)) (ax_d X (show cdA 74 45 = some (.ireturn, 1, 0, 0, 0) from rfl)) (Nat.zero_le _) (Nat.zero_le _) ⟨_, rfl, Is96, Gs96, 1, rfl, (by decide), by first | (clear g93 hps85 g84 hps77 g10 hps8; omega) | (clear hps85 g84 hps77 g10 hps8; omega) | omega⟩
      ·
        refine z_const X rfl ?_
        exact w_iret X.1 q hRt (nar_ret (by first | exact Or.inl (by decide) | omega)) (ax_d X (show cdA 74 27 = some (.ireturn, 1, 0, 0, 0) from rfl)) (Nat.zero_le _) (Nat.zero_le _) ⟨_, rfl, Is85, Gs85, 0, rfl, (by decide), by first | exact ⟨Or.inl (by decide), by first | (clear hps85 g84 hps77 g10 hps8; omega) | (clear g84 hps77 g10 hps8; omega) | omega, by first | (clear hps85 g84 hps77 g10 hps8; omega) | (clear g84 hps77 g10 hps8; omega) | omega⟩ | omega⟩
set_option maxRecDepth 4000 in
theorem c7_bothS (G : GX l s0 D tys a0 dT) (SF : SF0 s0) (GT : TXs0 s0) {r : Nat} (hT : ∀ {s : PS} , Bd s → (iI s 2 ≤ iI s 1) → (iI s 4 ≤ iI s 2) → (6 - iI s 19 ≤ ((r : Nat) : Int)) → CT l s0 D A dT 74 (rkR (32 + 3 * (r))) [.ref (A 19)] s (fun o t => Bd t ∧ Fm [2, 4, 6, 5, 7, 8, 19, 16] [18] s t ∧ ∃ e, o = .inl (some (.int (Int32.ofInt e))) ∧ rng e ∧ ((e = 0 ∨ (e = 1 ∧ iI t 19 = iI s 19)) ∧ iI t 2 ≤ iI t 1 ∧ iI t 4 ≤ iI t 2))) (I : Bd s) (p0 : iI s 2 ≤ iI s 1) (p1 : iI s 4 ≤ iI s 2) (p2 : 6 - iI s 19 ≤ ((r : Nat) : Int)) : CT l s0 D A dT 73 (rkR (32 + 3 * (r) + 1)) [.ref (A 19)] s (fun o t => Bd t ∧ Fm [2, 4, 6, 5, 7, 8, 19, 16] [18] s t ∧ ∃ e, o = .inl (some (.int (Int32.ofInt e))) ∧ rng e ∧ ((e = 0 ∨ (e = 1 ∧ iI t 19 = iI s 19)) ∧ iI t 2 ≤ iI t 1 ∧ iI t 4 ≤ iI t 2)) := by
  refine ct_ofX G (by decide) (Nat.le_of_ble_eq_true rfl) (fun k X E ET hRt hXt q => ?_)
  show WS k 0 [(0, .ref (A 19))] [] _ 0 0
  have F : Fm [2, 4, 6, 5, 7, 8, 19, 16] [18] s s := fm_rf _ _ s
  have b1 := bi_2 I
  have b2 := bi_1 I
  have b3 := bi_4 I
  have b4 := bi_5 I
  have b5 := bi_6 I
  have b6 := bi_19 I
  have b7 := bi_16 I
  have L11 : ∀ (n : Nat) (t : PS) (c : Int), Bd t → Fm [2, 4, 6, 5, 7, 8, 19, 16] [18] s t → (0 ≤ c ∧ c ≤ 200 ∧ iI t 19 = iI s 19 ∧ iI t 2 ≤ iI t 1 ∧ iI t 4 ≤ iI t 2) → (200 - c : Int).toNat < n → (∀ (t' : PS) (c' : Int), Bd t' → Fm [2, 4, 6, 5, 7, 8, 19, 16] [18] s t' → (0 ≤ c' ∧ c' ≤ 200 ∧ iI t' 19 = iI s 19 ∧ iI t' 2 ≤ iI t' 1 ∧ iI t' 4 ≤ iI t' 2) → WS k 58 [(0, .ref (A 19)), (1, .int (Int32.ofInt c'))] [] (Wd A dT t') 0 0) → WS k 11 [(0, .ref (A 19)), (1, .int (Int32.ofInt c))] [] (Wd A dT t) 0 0 := by
    intro n
    induction n with
    | zero =>
      intro t c I F hi hm kx
      exact absurd hm (Nat.not_lt_zero _)
    | succ n ih =>
      intro t c I F hi hm kx
      have b1001 := bi_2 I
      have b1002 := bi_1 I
      have b1003 := bi_4 I
      have b1004 := bi_5 I
      have b1005 := bi_6 I
      have b1006 := bi_19 I
      have b1007 := bi_16 I
      refine z_load_n X (x := c) rfl (List.Mem.tail _ (List.Mem.head _)) (z_sipush X rfl (z_icmp_ge X (t := 58) rfl rfl ⟨by first | exact oq_fa4e5087 hi.1 | omega, by first | exact oq_52af2b96 hi.2.1 | omega⟩ (by decide) (fun g1008 => ?_) (fun g1008 => ?_)))
      ·
        refine WS_pq [0, 1] (lv' := [(0, .ref (A 19)), (1, .int (Int32.ofInt c))]) rfl ?_
        exact kx _ c I F (by first | exact ⟨hi.1, hi.2.1, hi.2.2.1, hi.2.2.2.1, hi.2.2.2.2⟩ | omega)
      ·
        refine z_aload_n X (x := A 19) rfl (List.Mem.head _) (s_getR X 19 rfl (c518_ok rfl) rfl rfl ?_)
        obtain ⟨tx109, q109, hR109, hS109⟩ := GT (109, 3) (by decide)
        refine w_ldcK X (show vk_R (kOwn k) 109 tx109 q109 (kS0 k) by rw [E.2.1, X.2.1.2.1]; exact hR109) (show decode (kCc k) 22 = .ok (.ldc 109, 2) by rw [X.2.1.1]; decide +kernel) (z_callV X 1 (rm := rmN 131) (As := [.ref q109]) (st := []) rfl rfl (by decide) rfl (by rw [E.1, E.2.1, E.2.2.1]; exact c10_says G SF hS109 I (by first | exact hi.2.2.2.2 | omega)) ⟨by rw [E.2.2.2]; exact (show 11 + 1 ≤ (12 + (32 + 3 * (r) + 1)) from oq_960124c6 r), by rw [E.2.2.2]; exact (show 8 + (3 + 11) + 206 ≤ (500 + 45 * (32 + 3 * (r) + 1)) from oq_7c76c90d r), by rw [E.2.2.2]; exact Nat.le_refl 0, by rw [E.2.2.2]; exact Nat.le_refl 0⟩ (Nat.le_of_ble_eq_true rfl) (fun vv s1009 hq => ?_) (fun ee s1009 hq => ?_))
        rotate_left
        · obtain ⟨Is1009, Fs1009, e1010, hv, hrs1009, hps1009⟩ := hq; cases hv
        obtain ⟨Is1009, Fs1009, e1010, hv, hrs1009, hps1009⟩ := hq
        cases hv
        have Gs1009 := fm_tq F Fs1009 rfl rfl
        have ws1009_2 : iI s1009 2 = iI t 2 := fm_iq Fs1009 rfl
        have ws1009_1 : iI s1009 1 = iI t 1 := fm_iq Fs1009 rfl
        have ws1009_4 : iI s1009 4 = iI t 4 := fm_iq Fs1009 rfl
        have ws1009_5 : iI s1009 5 = iI t 5 := fm_iq Fs1009 rfl
        have ws1009_6 : iI s1009 6 = iI t 6 := fm_iq Fs1009 rfl
        have ws1009_19 : iI s1009 19 = iI t 19 := fm_iq Fs1009 rfl
        have ws1009_16 : iI s1009 16 = iI t 16 := fm_iq Fs1009 rfl
        show WS k 27 [(0, .ref (A 19)), (1, .int (Int32.ofInt c))] [.int (Int32.ofInt e1010)] (Wd A dT s1009) 0 0
        refine z_if_eq X (t := 58) rfl rfl hrs1009 (fun g1011 => ?_) (fun g1011 => ?_)
        ·
          refine WS_pq [0, 1] (lv' := [(0, .ref (A 19)), (1, .int (Int32.ofInt c))]) rfl ?_
          exact kx _ c Is1009 Gs1009 (by first | exact ⟨hi.1, hi.2.1, oq_1aa5be9e ws1009_19 hi.2.2.1, oq_e7b9ecab ws1009_1 ws1009_2 hi.2.2.2.1, oq_e7b9ecab ws1009_2 ws1009_4 hi.2.2.2.2⟩ | omega)
        ·
          refine z_aload_n X (x := A 19) rfl (List.Mem.head _) (s_getR X 19 rfl (c518_ok rfl) rfl rfl (z_callV X 1 (rm := rmN 129) (As := []) (st := []) rfl rfl (by decide) rfl (by rw [E.1, E.2.1, E.2.2.1]; exact c10_step_1 G Is1009 (by first | exact oq_e7b9ecab ws1009_1 ws1009_2 hi.2.2.2.1 | omega)) ⟨by rw [E.2.2.2]; exact (show 7 + 1 ≤ (12 + (32 + 3 * (r) + 1)) from oq_7e7bafa7 r), by rw [E.2.2.2]; exact (show 8 + (1 + 11) + 121 ≤ (500 + 45 * (32 + 3 * (r) + 1)) from oq_f1058fdb r), by rw [E.2.2.2]; exact Nat.le_refl 0, by rw [E.2.2.2]; exact Nat.le_refl 0⟩ (Nat.le_of_ble_eq_true rfl) (fun vv s1012 hq => ?_) (fun ee s1012 hq => ?_)))
          rotate_left
          · obtain ⟨Is1012, Fs1012, hv, hps1012⟩ := hq; cases hv
          obtain ⟨Is1012, Fs1012, hv, hps1012⟩ := hq
          cases hv
          have Gs1012 := fm_tq Gs1009 Fs1012 rfl rfl
          have b1014 := bi_2 Is1012
          have ws1012_1 : iI s1012 1 = iI s1009 1 := fm_iq Fs1012 rfl
          have b1015 := bi_4 Is1012
          have b1016 := bi_5 Is1012
          have b1017 := bi_6 Is1012
          have ws1012_19 : iI s1012 19 = iI s1009 19 := fm_iq Fs1012 rfl
          have ws1012_16 : iI s1012 16 = iI s1009 16 := fm_iq Fs1012 rfl
          show WS k 37 [(0, .ref (A 19)), (1, .int (Int32.ofInt c))] [] (Wd A dT s1012) 0 0
          refine z_aload_n X (x := A 19) rfl (List.Mem.head _) (z_callV X 19 (rm := (rkR (32 + 3 * (r)))) (As := []) (st := []) rfl rfl (by decide) rfl (by rw [E.1, E.2.1, E.2.2.1]; exact hT Is1012 (by first | exact hps1012.1 | omega) (by first | exact hps1012.2 | omega) (by first | exact oq_f4f80c46 p2 ws1012_19 hi.2.2.1 ws1009_19 | omega)) ⟨by rw [E.2.2.2]; exact (show (12 + (32 + 3 * (r))) + 1 ≤ (12 + (32 + 3 * (r) + 1)) from oq_2290fc41 r), by rw [E.2.2.2]; exact (show 8 + (2 + 11) + (500 + 45 * (32 + 3 * (r))) ≤ (500 + 45 * (32 + 3 * (r) + 1)) from oq_ab38c8cf r), by rw [E.2.2.2]; exact Nat.le_refl 0, by rw [E.2.2.2]; exact Nat.le_refl 0⟩ (Nat.le_of_ble_eq_true rfl) (fun vv s1018 hq => ?_) (fun ee s1018 hq => ?_))
          rotate_left
          · obtain ⟨Is1018, Fs1018, e1019, hv, hrs1018, hps1018⟩ := hq; cases hv
          obtain ⟨Is1018, Fs1018, e1019, hv, hrs1018, hps1018⟩ := hq
          have hps1018p := And.intro hps1018.2.1 (hps1018.2.2)
          cases hv
          have Gs1018 := fm_tq Gs1012 Fs1018 rfl rfl
          have b1020 := bi_2 Is1018
          have ws1018_1 : iI s1018 1 = iI s1012 1 := fm_iq Fs1018 rfl
          have b1021 := bi_4 Is1018
          have b1022 := bi_5 Is1018
          have b1023 := bi_6 Is1018
          have b1024 := bi_19 Is1018
          have b1025 := bi_16 Is1018
          show WS k 41 [(0, .ref (A 19)), (1, .int (Int32.ofInt c))] [.int (Int32.ofInt e1019)] (Wd A dT s1018) 0 0
          refine z_if_ne X (t := 46) rfl rfl hrs1018 (fun g1026 => ?_) (fun g1026 => ?_)
          ·
            refine z_aload_n X (x := A 19) rfl (List.Mem.head _) (z_bipush X rfl (z_callV X 19 (rm := rmN 82) (As := [.int (Int32.ofInt (-18))]) (st := []) rfl rfl (by decide) rfl (by rw [E.1, E.2.1, E.2.2.1]; exact c7_put_19 G Is1018 (by first | exact ⟨by decide, by decide⟩ | omega)) ⟨by rw [E.2.2.2]; exact (show 6 + 1 ≤ (12 + (32 + 3 * (r) + 1)) from oq_b5194544 r), by rw [E.2.2.2]; exact (show 8 + (2 + 11) + 100 ≤ (500 + 45 * (32 + 3 * (r) + 1)) from oq_38be39c2 r), by rw [E.2.2.2]; exact Nat.le_refl 0, by rw [E.2.2.2]; exact Nat.le_refl 0⟩ (Nat.le_of_ble_eq_true rfl) (fun vv s1027 hq => ?_) (fun ee s1027 hq => ?_)))
            rotate_left
            · obtain ⟨Is1027, Fs1027, hv, hps1027⟩ := hq; cases hv
            obtain ⟨Is1027, Fs1027, hv, hps1027⟩ := hq
            cases hv
            have Gs1027 := fm_tq Gs1018 Fs1027 rfl rfl
            have ws1027_2 : iI s1027 2 = iI s1018 2 := fm_iq Fs1027 rfl
            have ws1027_1 : iI s1027 1 = iI s1018 1 := fm_iq Fs1027 rfl
            have ws1027_4 : iI s1027 4 = iI s1018 4 := fm_iq Fs1027 rfl
            have ws1027_5 : iI s1027 5 = iI s1018 5 := fm_iq Fs1027 rfl
            have ws1027_6 : iI s1027 6 = iI s1018 6 := fm_iq Fs1027 rfl
            have ws1027_19 : iI s1027 19 = iI s1018 19 := fm_iq Fs1027 rfl
            have b1029 := bi_16 Is1027
            show WS k 52 [(0, .ref (A 19)), (1, .int (Int32.ofInt c))] [] (Wd A dT s1027) 0 0
            refine z_inc X (x := c) (lv' := [(1, .int (Int32.ofInt (c + 1))), (0, .ref (A 19))]) rfl (by decide) (List.Mem.tail _ (List.Mem.head _)) (fun _ h => h) (z_goto X (t := 11) rfl rfl (WS_pq [1, 0] (lv' := [(0, .ref (A 19)), (1, .int (Int32.ofInt (c + 1)))]) rfl ?_))
            exact ih _ (c + 1) Is1027 Gs1027 (by first | (clear g1026 hps1018 g1011 hps1009; omega) | (clear hps1018 g1011 hps1009; omega) | omega) (by first | exact qk_me hm (by decide) (oq_1ab01402 g1008) | omega) kx
          ·
            refine z_const X rfl ?_
            exact w_iret X.1 q hRt (nar_ret (by first | exact Or.inl (by decide) | omega)) (ax_d X (show cdA 73 45 = some (.ireturn, 1, 0, 0, 0) from rfl)) (Nat.zero_le _) (Nat.zero_le _) ⟨_, rfl, Is1018, Gs1018, 0, rfl, (by decide), by first | exact ⟨Or.inl (by decide), by first | (clear hps1018 g1011 hps1009; omega) | (clear g1011 hps1009; omega) | omega, by first | (clear hps1018 g1011 hps1009; omega) | (clear g1011 hps1009; omega) | omega⟩ | omega⟩
  refine z_aload_n X (x := A 19) rfl (List.Mem.head _) (z_callV X 19 (rm := (rkR (32 + 3 * (r)))) (As := []) (st := []) rfl rfl (by decide) rfl (by rw [E.1, E.2.1, E.2.2.1]; exact hT I (by first | exact p0 | omega) (by first | exact p1 | omega) (by first | exact p2 | omega)) ⟨by rw [E.2.2.2]; exact (show (12 + (32 + 3 * (r))) + 1 ≤ (12 + (32 + 3 * (r) + 1)) from oq_2290fc41 r), by rw [E.2.2.2]; exact (show 8 + (2 + 11) + (500 + 45 * (32 + 3 * (r))) ≤ (500 + 45 * (32 + 3 * (r) + 1)) from oq_ab38c8cf r), by rw [E.2.2.2]; exact Nat.le_refl 0, by rw [E.2.2.2]; exact Nat.le_refl 0⟩ (Nat.le_of_ble_eq_true rfl) (fun vv s8 hq => ?_) (fun ee s8 hq => ?_))
  rotate_left
  · obtain ⟨Is8, Fs8, e9, hv, hrs8, hps8⟩ := hq; cases hv
  obtain ⟨Is8, Fs8, e9, hv, hrs8, hps8⟩ := hq
  have hps8p := And.intro hps8.2.1 (hps8.2.2)
  cases hv
  have Gs8 := fm_tq F Fs8 rfl rfl
  have b10 := bi_2 Is8
  have ws8_1 : iI s8 1 = iI s 1 := fm_iq Fs8 rfl
  have b11 := bi_4 Is8
  have b12 := bi_5 Is8
  have b13 := bi_6 Is8
  have b14 := bi_19 Is8
  have b15 := bi_16 Is8
  show WS k 4 [(0, .ref (A 19))] [.int (Int32.ofInt e9)] (Wd A dT s8) 0 0
  refine z_if_ne X (t := 9) rfl rfl hrs8 (fun g16 => ?_) (fun g16 => ?_)
  ·
    refine z_const X rfl (z_store_n X (lv' := [(1, .int (Int32.ofInt 0)), (0, .ref (A 19))]) rfl (by decide) (fun _ h => h) (WS_pq [1, 0] (lv' := [(0, .ref (A 19)), (1, .int (Int32.ofInt 0))]) rfl (L11 ((200 - 0 : Int).toNat + 1) s8 0 Is8 Gs8 (by first | (clear g16 hps8; omega) | (clear hps8; omega) | omega) (Nat.lt_succ_self _) ?_)))
    intro s17 x18 Is17 Fs17 hs17
    have b19 := bi_2 Is17
    have b20 := bi_1 Is17
    have b21 := bi_4 Is17
    have b22 := bi_5 Is17
    have b23 := bi_6 Is17
    have b24 := bi_19 Is17
    have b25 := bi_16 Is17
    refine z_const X rfl ?_
    exact w_iret X.1 q hRt (nar_ret (by first | exact Or.inr (by decide) | omega)) (ax_d X (show cdA 73 59 = some (.ireturn, 1, 0, 0, 0) from rfl)) (Nat.zero_le _) (Nat.zero_le _) ⟨_, rfl, Is17, Fs17, 1, rfl, (by decide), by first | exact ⟨Or.inr (And.intro (by decide) (hs17.2.2.1)), hs17.2.2.2.1, hs17.2.2.2.2⟩ | omega⟩
  ·
    refine z_const X rfl ?_
    exact w_iret X.1 q hRt (nar_ret (by first | exact Or.inl (by decide) | omega)) (ax_d X (show cdA 73 8 = some (.ireturn, 1, 0, 0, 0) from rfl)) (Nat.zero_le _) (Nat.zero_le _) ⟨_, rfl, Is8, Gs8, 0, rfl, (by decide), by first | exact ⟨Or.inl (by decide), by first | (clear hps8; omega) | omega, by first | (clear hps8; omega) | omega⟩ | omega⟩
set_option maxRecDepth 4000 in
theorem c7_eithS (G : GX l s0 D tys a0 dT) (SF : SF0 s0) (GT : TXs0 s0) {r : Nat} (hB : ∀ {s : PS} , Bd s → (iI s 2 ≤ iI s 1) → (iI s 4 ≤ iI s 2) → (6 - iI s 19 ≤ ((r : Nat) : Int)) → CT l s0 D A dT 73 (rkR (32 + 3 * (r) + 1)) [.ref (A 19)] s (fun o t => Bd t ∧ Fm [2, 4, 6, 5, 7, 8, 19, 16] [18] s t ∧ ∃ e, o = .inl (some (.int (Int32.ofInt e))) ∧ rng e ∧ ((e = 0 ∨ (e = 1 ∧ iI t 19 = iI s 19)) ∧ iI t 2 ≤ iI t 1 ∧ iI t 4 ≤ iI t 2))) (I : Bd s) (p0 : iI s 2 ≤ iI s 1) (p1 : iI s 4 ≤ iI s 2) (p2 : 6 - iI s 19 ≤ ((r : Nat) : Int)) : CT l s0 D A dT 72 (rkR (32 + 3 * (r) + 2)) [.ref (A 19)] s (fun o t => Bd t ∧ Fm [2, 4, 6, 5, 7, 8, 19, 16] [18] s t ∧ ∃ e, o = .inl (some (.int (Int32.ofInt e))) ∧ rng e ∧ ((e = 0 ∨ (e = 1 ∧ iI t 19 = iI s 19)) ∧ iI t 2 ≤ iI t 1 ∧ iI t 4 ≤ iI t 2)) := by
  refine ct_ofX G (by decide) (Nat.le_of_ble_eq_true rfl) (fun k X E ET hRt hXt q => ?_)
  show WS k 0 [(0, .ref (A 19))] [] _ 0 0
  have F : Fm [2, 4, 6, 5, 7, 8, 19, 16] [18] s s := fm_rf _ _ s
  have b1 := bi_2 I
  have b2 := bi_1 I
  have b3 := bi_4 I
  have b4 := bi_5 I
  have b5 := bi_6 I
  have b6 := bi_19 I
  have b7 := bi_16 I
  have L11 : ∀ (n : Nat) (t : PS) (c : Int), Bd t → Fm [2, 4, 6, 5, 7, 8, 19, 16] [18] s t → (0 ≤ c ∧ c ≤ 200 ∧ iI t 19 = iI s 19 ∧ iI t 2 ≤ iI t 1 ∧ iI t 4 ≤ iI t 2) → (200 - c : Int).toNat < n → (∀ (t' : PS) (c' : Int), Bd t' → Fm [2, 4, 6, 5, 7, 8, 19, 16] [18] s t' → (0 ≤ c' ∧ c' ≤ 200 ∧ iI t' 19 = iI s 19 ∧ iI t' 2 ≤ iI t' 1 ∧ iI t' 4 ≤ iI t' 2) → WS k 58 [(0, .ref (A 19)), (1, .int (Int32.ofInt c'))] [] (Wd A dT t') 0 0) → WS k 11 [(0, .ref (A 19)), (1, .int (Int32.ofInt c))] [] (Wd A dT t) 0 0 := by
    intro n
    induction n with
    | zero =>
      intro t c I F hi hm kx
      exact absurd hm (Nat.not_lt_zero _)
    | succ n ih =>
      intro t c I F hi hm kx
      have b1001 := bi_2 I
      have b1002 := bi_1 I
      have b1003 := bi_4 I
      have b1004 := bi_5 I
      have b1005 := bi_6 I
      have b1006 := bi_19 I
      have b1007 := bi_16 I
      refine z_load_n X (x := c) rfl (List.Mem.tail _ (List.Mem.head _)) (z_sipush X rfl (z_icmp_ge X (t := 58) rfl rfl ⟨by first | exact oq_fa4e5087 hi.1 | omega, by first | exact oq_52af2b96 hi.2.1 | omega⟩ (by decide) (fun g1008 => ?_) (fun g1008 => ?_)))
      ·
        refine WS_pq [0, 1] (lv' := [(0, .ref (A 19)), (1, .int (Int32.ofInt c))]) rfl ?_
        exact kx _ c I F (by first | exact ⟨hi.1, hi.2.1, hi.2.2.1, hi.2.2.2.1, hi.2.2.2.2⟩ | omega)
      ·
        refine z_aload_n X (x := A 19) rfl (List.Mem.head _) (s_getR X 19 rfl (c518_ok rfl) rfl rfl ?_)
        obtain ⟨tx101, q101, hR101, hS101⟩ := GT (101, 2) (by decide)
        refine w_ldcK X (show vk_R (kOwn k) 101 tx101 q101 (kS0 k) by rw [E.2.1, X.2.1.2.1]; exact hR101) (show decode (kCc k) 22 = .ok (.ldc 101, 2) by rw [X.2.1.1]; decide +kernel) (z_callV X 1 (rm := rmN 131) (As := [.ref q101]) (st := []) rfl rfl (by decide) rfl (by rw [E.1, E.2.1, E.2.2.1]; exact c10_says G SF hS101 I (by first | exact hi.2.2.2.2 | omega)) ⟨by rw [E.2.2.2]; exact (show 11 + 1 ≤ (12 + (32 + 3 * (r) + 2)) from oq_3b8c0a4a r), by rw [E.2.2.2]; exact (show 8 + (3 + 11) + 206 ≤ (500 + 45 * (32 + 3 * (r) + 2)) from oq_c9883230 r), by rw [E.2.2.2]; exact Nat.le_refl 0, by rw [E.2.2.2]; exact Nat.le_refl 0⟩ (Nat.le_of_ble_eq_true rfl) (fun vv s1009 hq => ?_) (fun ee s1009 hq => ?_))
        rotate_left
        · obtain ⟨Is1009, Fs1009, e1010, hv, hrs1009, hps1009⟩ := hq; cases hv
        obtain ⟨Is1009, Fs1009, e1010, hv, hrs1009, hps1009⟩ := hq
        cases hv
        have Gs1009 := fm_tq F Fs1009 rfl rfl
        have ws1009_2 : iI s1009 2 = iI t 2 := fm_iq Fs1009 rfl
        have ws1009_1 : iI s1009 1 = iI t 1 := fm_iq Fs1009 rfl
        have ws1009_4 : iI s1009 4 = iI t 4 := fm_iq Fs1009 rfl
        have ws1009_5 : iI s1009 5 = iI t 5 := fm_iq Fs1009 rfl
        have ws1009_6 : iI s1009 6 = iI t 6 := fm_iq Fs1009 rfl
        have ws1009_19 : iI s1009 19 = iI t 19 := fm_iq Fs1009 rfl
        have ws1009_16 : iI s1009 16 = iI t 16 := fm_iq Fs1009 rfl
        show WS k 27 [(0, .ref (A 19)), (1, .int (Int32.ofInt c))] [.int (Int32.ofInt e1010)] (Wd A dT s1009) 0 0
        refine z_if_eq X (t := 58) rfl rfl hrs1009 (fun g1011 => ?_) (fun g1011 => ?_)
        ·
          refine WS_pq [0, 1] (lv' := [(0, .ref (A 19)), (1, .int (Int32.ofInt c))]) rfl ?_
          exact kx _ c Is1009 Gs1009 (by first | exact ⟨hi.1, hi.2.1, oq_1aa5be9e ws1009_19 hi.2.2.1, oq_e7b9ecab ws1009_1 ws1009_2 hi.2.2.2.1, oq_e7b9ecab ws1009_2 ws1009_4 hi.2.2.2.2⟩ | omega)
        ·
          refine z_aload_n X (x := A 19) rfl (List.Mem.head _) (s_getR X 19 rfl (c518_ok rfl) rfl rfl (z_callV X 1 (rm := rmN 129) (As := []) (st := []) rfl rfl (by decide) rfl (by rw [E.1, E.2.1, E.2.2.1]; exact c10_step_1 G Is1009 (by first | exact oq_e7b9ecab ws1009_1 ws1009_2 hi.2.2.2.1 | omega)) ⟨by rw [E.2.2.2]; exact (show 7 + 1 ≤ (12 + (32 + 3 * (r) + 2)) from oq_9d2e9ef6 r), by rw [E.2.2.2]; exact (show 8 + (1 + 11) + 121 ≤ (500 + 45 * (32 + 3 * (r) + 2)) from oq_41985971 r), by rw [E.2.2.2]; exact Nat.le_refl 0, by rw [E.2.2.2]; exact Nat.le_refl 0⟩ (Nat.le_of_ble_eq_true rfl) (fun vv s1012 hq => ?_) (fun ee s1012 hq => ?_)))
          rotate_left
          · obtain ⟨Is1012, Fs1012, hv, hps1012⟩ := hq; cases hv
          obtain ⟨Is1012, Fs1012, hv, hps1012⟩ := hq
          cases hv
          have Gs1012 := fm_tq Gs1009 Fs1012 rfl rfl
          have b1014 := bi_2 Is1012
          have ws1012_1 : iI s1012 1 = iI s1009 1 := fm_iq Fs1012 rfl
          have b1015 := bi_4 Is1012
          have b1016 := bi_5 Is1012
          have b1017 := bi_6 Is1012
          have ws1012_19 : iI s1012 19 = iI s1009 19 := fm_iq Fs1012 rfl
          have ws1012_16 : iI s1012 16 = iI s1009 16 := fm_iq Fs1012 rfl
          show WS k 37 [(0, .ref (A 19)), (1, .int (Int32.ofInt c))] [] (Wd A dT s1012) 0 0
          refine z_aload_n X (x := A 19) rfl (List.Mem.head _) (z_callV X 19 (rm := (rkR (32 + 3 * (r) + 1))) (As := []) (st := []) rfl rfl (by decide) rfl (by rw [E.1, E.2.1, E.2.2.1]; exact hB Is1012 (by first | exact hps1012.1 | omega) (by first | exact hps1012.2 | omega) (by first | exact oq_f4f80c46 p2 ws1012_19 hi.2.2.1 ws1009_19 | omega)) ⟨by rw [E.2.2.2]; exact (show (12 + (32 + 3 * (r) + 1)) + 1 ≤ (12 + (32 + 3 * (r) + 2)) from oq_23399e95 r), by rw [E.2.2.2]; exact (show 8 + (2 + 11) + (500 + 45 * (32 + 3 * (r) + 1)) ≤ (500 + 45 * (32 + 3 * (r) + 2)) from oq_c23d4411 r), by rw [E.2.2.2]; exact Nat.le_refl 0, by rw [E.2.2.2]; exact Nat.le_refl 0⟩ (Nat.le_of_ble_eq_true rfl) (fun vv s1018 hq => ?_) (fun ee s1018 hq => ?_))
          rotate_left
          · obtain ⟨Is1018, Fs1018, e1019, hv, hrs1018, hps1018⟩ := hq; cases hv
          obtain ⟨Is1018, Fs1018, e1019, hv, hrs1018, hps1018⟩ := hq
          have hps1018p := And.intro hps1018.2.1 (hps1018.2.2)
          cases hv
          have Gs1018 := fm_tq Gs1012 Fs1018 rfl rfl
          have b1020 := bi_2 Is1018
          have ws1018_1 : iI s1018 1 = iI s1012 1 := fm_iq Fs1018 rfl
          have b1021 := bi_4 Is1018
          have b1022 := bi_5 Is1018
          have b1023 := bi_6 Is1018
          have b1024 := bi_19 Is1018
          have b1025 := bi_16 Is1018
          show WS k 41 [(0, .ref (A 19)), (1, .int (Int32.ofInt c))] [.int (Int32.ofInt e1019)] (Wd A dT s1018) 0 0
          refine z_if_ne X (t := 46) rfl rfl hrs1018 (fun g1026 => ?_) (fun g1026 => ?_)
          ·
            refine z_aload_n X (x := A 19) rfl (List.Mem.head _) (z_bipush X rfl (z_callV X 19 (rm := rmN 82) (As := [.int (Int32.ofInt (-19))]) (st := []) rfl rfl (by decide) rfl (by rw [E.1, E.2.1, E.2.2.1]; exact c7_put_19 G Is1018 (by first | exact ⟨by decide, by decide⟩ | omega)) ⟨by rw [E.2.2.2]; exact (show 6 + 1 ≤ (12 + (32 + 3 * (r) + 2)) from oq_bd1a6d33 r), by rw [E.2.2.2]; exact (show 8 + (2 + 11) + 100 ≤ (500 + 45 * (32 + 3 * (r) + 2)) from oq_1addf0d0 r), by rw [E.2.2.2]; exact Nat.le_refl 0, by rw [E.2.2.2]; exact Nat.le_refl 0⟩ (Nat.le_of_ble_eq_true rfl) (fun vv s1027 hq => ?_) (fun ee s1027 hq => ?_)))
            rotate_left
            · obtain ⟨Is1027, Fs1027, hv, hps1027⟩ := hq; cases hv
            obtain ⟨Is1027, Fs1027, hv, hps1027⟩ := hq
            cases hv
            have Gs1027 := fm_tq Gs1018 Fs1027 rfl rfl
            have ws1027_2 : iI s1027 2 = iI s1018 2 := fm_iq Fs1027 rfl
            have ws1027_1 : iI s1027 1 = iI s1018 1 := fm_iq Fs1027 rfl
            have ws1027_4 : iI s1027 4 = iI s1018 4 := fm_iq Fs1027 rfl
            have ws1027_5 : iI s1027 5 = iI s1018 5 := fm_iq Fs1027 rfl
            have ws1027_6 : iI s1027 6 = iI s1018 6 := fm_iq Fs1027 rfl
            have ws1027_19 : iI s1027 19 = iI s1018 19 := fm_iq Fs1027 rfl
            have b1029 := bi_16 Is1027
            show WS k 52 [(0, .ref (A 19)), (1, .int (Int32.ofInt c))] [] (Wd A dT s1027) 0 0
            refine z_inc X (x := c) (lv' := [(1, .int (Int32.ofInt (c + 1))), (0, .ref (A 19))]) rfl (by decide) (List.Mem.tail _ (List.Mem.head _)) (fun _ h => h) (z_goto X (t := 11) rfl rfl (WS_pq [1, 0] (lv' := [(0, .ref (A 19)), (1, .int (Int32.ofInt (c + 1)))]) rfl ?_))
            exact ih _ (c + 1) Is1027 Gs1027 (by first | (clear g1026 hps1018 g1011 hps1009; omega) | (clear hps1018 g1011 hps1009; omega) | omega) (by first | exact qk_me hm (by decide) (oq_1ab01402 g1008) | omega) kx
          ·
            refine z_const X rfl ?_
            exact w_iret X.1 q hRt (nar_ret (by first | exact Or.inl (by decide) | omega)) (ax_d X (show cdA 72 45 = some (.ireturn, 1, 0, 0, 0) from rfl)) (Nat.zero_le _) (Nat.zero_le _) ⟨_, rfl, Is1018, Gs1018, 0, rfl, (by decide), by first | exact ⟨Or.inl (by decide), by first | (clear hps1018 g1011 hps1009; omega) | (clear g1011 hps1009; omega) | omega, by first | (clear hps1018 g1011 hps1009; omega) | (clear g1011 hps1009; omega) | omega⟩ | omega⟩
  refine z_aload_n X (x := A 19) rfl (List.Mem.head _) (z_callV X 19 (rm := (rkR (32 + 3 * (r) + 1))) (As := []) (st := []) rfl rfl (by decide) rfl (by rw [E.1, E.2.1, E.2.2.1]; exact hB I (by first | exact p0 | omega) (by first | exact p1 | omega) (by first | exact p2 | omega)) ⟨by rw [E.2.2.2]; exact (show (12 + (32 + 3 * (r) + 1)) + 1 ≤ (12 + (32 + 3 * (r) + 2)) from oq_23399e95 r), by rw [E.2.2.2]; exact (show 8 + (2 + 11) + (500 + 45 * (32 + 3 * (r) + 1)) ≤ (500 + 45 * (32 + 3 * (r) + 2)) from oq_c23d4411 r), by rw [E.2.2.2]; exact Nat.le_refl 0, by rw [E.2.2.2]; exact Nat.le_refl 0⟩ (Nat.le_of_ble_eq_true rfl) (fun vv s8 hq => ?_) (fun ee s8 hq => ?_))
  rotate_left
  · obtain ⟨Is8, Fs8, e9, hv, hrs8, hps8⟩ := hq; cases hv
  obtain ⟨Is8, Fs8, e9, hv, hrs8, hps8⟩ := hq
  have hps8p := And.intro hps8.2.1 (hps8.2.2)
  cases hv
  have Gs8 := fm_tq F Fs8 rfl rfl
  have b10 := bi_2 Is8
  have ws8_1 : iI s8 1 = iI s 1 := fm_iq Fs8 rfl
  have b11 := bi_4 Is8
  have b12 := bi_5 Is8
  have b13 := bi_6 Is8
  have b14 := bi_19 Is8
  have b15 := bi_16 Is8
  show WS k 4 [(0, .ref (A 19))] [.int (Int32.ofInt e9)] (Wd A dT s8) 0 0
  refine z_if_ne X (t := 9) rfl rfl hrs8 (fun g16 => ?_) (fun g16 => ?_)
  ·
    refine z_const X rfl (z_store_n X (lv' := [(1, .int (Int32.ofInt 0)), (0, .ref (A 19))]) rfl (by decide) (fun _ h => h) (WS_pq [1, 0] (lv' := [(0, .ref (A 19)), (1, .int (Int32.ofInt 0))]) rfl (L11 ((200 - 0 : Int).toNat + 1) s8 0 Is8 Gs8 (by first | (clear g16 hps8; omega) | (clear hps8; omega) | omega) (Nat.lt_succ_self _) ?_)))
    intro s17 x18 Is17 Fs17 hs17
    have b19 := bi_2 Is17
    have b20 := bi_1 Is17
    have b21 := bi_4 Is17
    have b22 := bi_5 Is17
    have b23 := bi_6 Is17
    have b24 := bi_19 Is17
    have b25 := bi_16 Is17
    refine z_const X rfl ?_
    exact w_iret X.1 q hRt (nar_ret (by first | exact Or.inr (by decide) | omega)) (ax_d X (show cdA 72 59 = some (.ireturn, 1, 0, 0, 0) from rfl)) (Nat.zero_le _) (Nat.zero_le _) ⟨_, rfl, Is17, Fs17, 1, rfl, (by decide), by first | exact ⟨Or.inr (And.intro (by decide) (hs17.2.2.1)), hs17.2.2.2.1, hs17.2.2.2.2⟩ | omega⟩
  ·
    refine z_const X rfl ?_
    exact w_iret X.1 q hRt (nar_ret (by first | exact Or.inl (by decide) | omega)) (ax_d X (show cdA 72 8 = some (.ireturn, 1, 0, 0, 0) from rfl)) (Nat.zero_le _) (Nat.zero_le _) ⟨_, rfl, Is8, Gs8, 0, rfl, (by decide), by first | exact ⟨Or.inl (by decide), by first | (clear hps8; omega) | omega, by first | (clear hps8; omega) | omega⟩ | omega⟩
theorem c7_eithr (G : GX l s0 D tys a0 dT) (SF : SF0 s0) (GT : TXs0 s0) (r : Nat) : (∀ {s : PS} , Bd s → (iI s 2 ≤ iI s 1) → (iI s 4 ≤ iI s 2) → (6 - iI s 19 ≤ ((r : Nat) : Int)) → CT l s0 D A dT 74 (rkR (32 + 3 * (r))) [.ref (A 19)] s (fun o t => Bd t ∧ Fm [2, 4, 6, 5, 7, 8, 19, 16] [18] s t ∧ ∃ e, o = .inl (some (.int (Int32.ofInt e))) ∧ rng e ∧ ((e = 0 ∨ (e = 1 ∧ iI t 19 = iI s 19)) ∧ iI t 2 ≤ iI t 1 ∧ iI t 4 ≤ iI t 2))) ∧ (∀ {s : PS} , Bd s → (iI s 2 ≤ iI s 1) → (iI s 4 ≤ iI s 2) → (6 - iI s 19 ≤ ((r : Nat) : Int)) → CT l s0 D A dT 73 (rkR (32 + 3 * (r) + 1)) [.ref (A 19)] s (fun o t => Bd t ∧ Fm [2, 4, 6, 5, 7, 8, 19, 16] [18] s t ∧ ∃ e, o = .inl (some (.int (Int32.ofInt e))) ∧ rng e ∧ ((e = 0 ∨ (e = 1 ∧ iI t 19 = iI s 19)) ∧ iI t 2 ≤ iI t 1 ∧ iI t 4 ≤ iI t 2))) ∧ (∀ {s : PS} , Bd s → (iI s 2 ≤ iI s 1) → (iI s 4 ≤ iI s 2) → (6 - iI s 19 ≤ ((r : Nat) : Int)) → CT l s0 D A dT 72 (rkR (32 + 3 * (r) + 2)) [.ref (A 19)] s (fun o t => Bd t ∧ Fm [2, 4, 6, 5, 7, 8, 19, 16] [18] s t ∧ ∃ e, o = .inl (some (.int (Int32.ofInt e))) ∧ rng e ∧ ((e = 0 ∨ (e = 1 ∧ iI t 19 = iI s 19)) ∧ iI t 2 ≤ iI t 1 ∧ iI t 4 ≤ iI t 2))) := by
  induction r with
  | zero =>
    have hT : ∀ {s : PS} , Bd s → (iI s 2 ≤ iI s 1) → (iI s 4 ≤ iI s 2) → (6 - iI s 19 ≤ ((0 : Nat) : Int)) → CT l s0 D A dT 74 (rkR (32 + 3 * (0))) [.ref (A 19)] s (fun o t => Bd t ∧ Fm [2, 4, 6, 5, 7, 8, 19, 16] [18] s t ∧ ∃ e, o = .inl (some (.int (Int32.ofInt e))) ∧ rng e ∧ ((e = 0 ∨ (e = 1 ∧ iI t 19 = iI s 19)) ∧ iI t 2 ≤ iI t 1 ∧ iI t 4 ≤ iI t 2)) := fun {_} I p0 p1 p2 => c7_test0 G SF GT I p0 p1 p2
    have hB : ∀ {s : PS} , Bd s → (iI s 2 ≤ iI s 1) → (iI s 4 ≤ iI s 2) → (6 - iI s 19 ≤ ((0 : Nat) : Int)) → CT l s0 D A dT 73 (rkR (32 + 3 * (0) + 1)) [.ref (A 19)] s (fun o t => Bd t ∧ Fm [2, 4, 6, 5, 7, 8, 19, 16] [18] s t ∧ ∃ e, o = .inl (some (.int (Int32.ofInt e))) ∧ rng e ∧ ((e = 0 ∨ (e = 1 ∧ iI t 19 = iI s 19)) ∧ iI t 2 ≤ iI t 1 ∧ iI t 4 ≤ iI t 2)) := fun {_} I p0 p1 p2 => c7_bothS (r := 0) G SF GT hT I p0 p1 p2
    exact ⟨hT, hB, fun {_} I p0 p1 p2 => c7_eithS (r := 0) G SF GT hB I p0 p1 p2⟩
  | succ r ih =>
    have hT : ∀ {s : PS} , Bd s → (iI s 2 ≤ iI s 1) → (iI s 4 ≤ iI s 2) → (6 - iI s 19 ≤ ((r + 1 : Nat) : Int)) → CT l s0 D A dT 74 (rkR (32 + 3 * (r + 1))) [.ref (A 19)] s (fun o t => Bd t ∧ Fm [2, 4, 6, 5, 7, 8, 19, 16] [18] s t ∧ ∃ e, o = .inl (some (.int (Int32.ofInt e))) ∧ rng e ∧ ((e = 0 ∨ (e = 1 ∧ iI t 19 = iI s 19)) ∧ iI t 2 ≤ iI t 1 ∧ iI t 4 ≤ iI t 2)) := fun {_} I p0 p1 p2 => c7_testS (r := r) G SF GT ih.1 ih.2.2 I p0 p1 p2
    have hB : ∀ {s : PS} , Bd s → (iI s 2 ≤ iI s 1) → (iI s 4 ≤ iI s 2) → (6 - iI s 19 ≤ ((r + 1 : Nat) : Int)) → CT l s0 D A dT 73 (rkR (32 + 3 * (r + 1) + 1)) [.ref (A 19)] s (fun o t => Bd t ∧ Fm [2, 4, 6, 5, 7, 8, 19, 16] [18] s t ∧ ∃ e, o = .inl (some (.int (Int32.ofInt e))) ∧ rng e ∧ ((e = 0 ∨ (e = 1 ∧ iI t 19 = iI s 19)) ∧ iI t 2 ≤ iI t 1 ∧ iI t 4 ≤ iI t 2)) := fun {_} I p0 p1 p2 => c7_bothS (r := r + 1) G SF GT hT I p0 p1 p2
    exact ⟨hT, hB, fun {_} I p0 p1 p2 => c7_eithS (r := r + 1) G SF GT hB I p0 p1 p2⟩
set_option maxRecDepth 4000 in
theorem c7_readClause_19 (G : GX l s0 D tys a0 dT) (SF : SF0 s0) (GT : TXs0 s0) (I : Bd s) {x : Int} (p0 : 0 ≤ x ∧ x ≤ 8) (p1 : iI s 2 ≤ iI s 1) (p2 : iI s 4 ≤ iI s 2) : CT l s0 D A dT 71 (rmN 71) [.ref (A 19), .int (Int32.ofInt x)] s (fun o t => Bd t ∧ Fm [2, 4, 6, 5, 7, 8, 19, 16, 17, 18] [18, 19] s t ∧ ∃ e, o = .inl (some (.int (Int32.ofInt e))) ∧ rng e ∧ ((e = 0 ∨ e = 1) ∧ iI t 2 ≤ iI t 1 ∧ iI t 4 ≤ iI t 2)) := by
  refine ct_ofX G (by decide) (Nat.le_of_ble_eq_true rfl) (fun k X E ET hRt hXt q => ?_)
  show WS k 0 [(0, .ref (A 19)), (1, .int (Int32.ofInt x))] [] _ 0 0
  have F : Fm [2, 4, 6, 5, 7, 8, 19, 16, 17, 18] [18, 19] s s := fm_rf _ _ s
  have b1 := bi_2 I
  have b2 := bi_1 I
  have b3 := bi_4 I
  have b4 := bi_5 I
  have b5 := bi_6 I
  have b6 := bi_19 I
  have b7 := bi_16 I
  refine z_aload_n X (x := A 19) rfl (List.Mem.head _) (s_getR X 19 rfl (c518_ok rfl) rfl rfl ?_)
  obtain ⟨tx74, q74, hR74, hS74⟩ := GT (74, 4) (by decide)
  refine w_ldcK X (show vk_R (kOwn k) 74 tx74 q74 (kS0 k) by rw [E.2.1, X.2.1.2.1]; exact hR74) (show decode (kCc k) 4 = .ok (.ldc 74, 2) by rw [X.2.1.1]; decide +kernel) (zcV_i0 X E 1 (As := [.ref q74]) (st := []) rfl rfl rfl rfl (c10_says G SF hS74 I (by first | exact p2 | omega)) rfl (Nat.le_of_ble_eq_true rfl) (fun s8 e9 Is8 Fs8 hrs8 hps8 => ?_))
  have Gs8 := fm_tq F Fs8 rfl rfl
  have ws8_2 : iI s8 2 = iI s 2 := fm_iq Fs8 rfl
  have ws8_1 : iI s8 1 = iI s 1 := fm_iq Fs8 rfl
  have ws8_4 : iI s8 4 = iI s 4 := fm_iq Fs8 rfl
  have ws8_5 : iI s8 5 = iI s 5 := fm_iq Fs8 rfl
  have ws8_6 : iI s8 6 = iI s 6 := fm_iq Fs8 rfl
  have ws8_19 : iI s8 19 = iI s 19 := fm_iq Fs8 rfl
  have ws8_16 : iI s8 16 = iI s 16 := fm_iq Fs8 rfl
  refine z_store_n X (lv' := [(2, .int (Int32.ofInt e9)), (0, .ref (A 19)), (1, .int (Int32.ofInt x))]) rfl (by decide) (fun _ h => h) (z_load_n X (x := e9) rfl (List.Mem.head _) (z_if_ne X (t := 35) rfl rfl hrs8 (fun g10 => ?_) (fun g10 => ?_)))
  ·
    refine z_load_n X (x := x) rfl (List.Mem.tail _ (List.Mem.tail _ (List.Mem.head _))) (z_bipush X rfl (z_icmp_lt X (t := 50) rfl rfl ⟨by first | exact oq_fa4e5087 p0.1 | omega, by first | exact oq_d3f5d874 p0.2 | omega⟩ (by decide) (fun g11 => ?_) (fun g11 => ?_)))
    ·
      refine z_aload_n X (x := A 19) rfl (List.Mem.tail _ (List.Mem.head _)) (s_getR X 19 rfl (c518_ok rfl) rfl rfl (zcV_v0 X E 1 (As := []) (st := []) rfl rfl rfl rfl (c10_step_1 G Is8 (by first | exact oq_e7b9ecab ws8_1 ws8_2 p1 | omega)) rfl (Nat.le_of_ble_eq_true rfl) (fun s12 Is12 Fs12 hps12 => ?_)))
      have Gs12 := fm_tq Gs8 Fs12 rfl rfl
      have b14 := bi_2 Is12
      have ws12_1 : iI s12 1 = iI s8 1 := fm_iq Fs12 rfl
      have b15 := bi_4 Is12
      have b16 := bi_5 Is12
      have b17 := bi_6 Is12
      have ws12_19 : iI s12 19 = iI s8 19 := fm_iq Fs12 rfl
      have ws12_16 : iI s12 16 = iI s8 16 := fm_iq Fs12 rfl
      refine z_load_n X (x := e9) rfl (List.Mem.head _) (z_if_eq X (t := 71) rfl rfl hrs8 (fun g18 => ?_) (fun g18 => ?_))
      ·
        refine z_aload_n X (x := A 19) rfl (List.Mem.tail _ (List.Mem.head _)) (z_callV X 19 (rm := (rkR (32 + 3 * (7) + 2))) (As := []) (st := []) rfl rfl (by decide) rfl (by rw [E.1, E.2.1, E.2.2.1]; exact (c7_eithr G SF GT 7).2.2 Is12 (by first | exact hps12.1 | omega) (by first | exact hps12.2 | omega) (by first | exact oq_7d321bf4 ws12_19 ws8_19 b6.1 | omega)) ⟨by rw [E.2.2.2]; exact (show (12 + (32 + 3 * (7) + 2)) + 1 ≤ 68 from oq_2af1bc43), by rw [E.2.2.2]; exact (show 8 + (2 + 11) + (500 + 45 * (32 + 3 * (7) + 2)) ≤ 2996 from oq_3d00aaab), by rw [E.2.2.2]; exact Nat.le_refl 0, by rw [E.2.2.2]; exact Nat.le_refl 0⟩ (Nat.le_of_ble_eq_true rfl) (fun vv s19 hq => ?_) (fun ee s19 hq => ?_))
        rotate_left
        · obtain ⟨Is19, Fs19, e20, hv, hrs19, hps19⟩ := hq; cases hv
        obtain ⟨Is19, Fs19, e20, hv, hrs19, hps19⟩ := hq
        cases hv
        have Gs19 := fm_tq Gs12 Fs19 rfl rfl
        have b21 := bi_2 Is19
        have ws19_1 : iI s19 1 = iI s12 1 := fm_iq Fs19 rfl
        have b22 := bi_4 Is19
        have b23 := bi_5 Is19
        have b24 := bi_6 Is19
        have b25 := bi_19 Is19
        have b26 := bi_16 Is19
        show WS k 75 [(2, .int (Int32.ofInt e9)), (0, .ref (A 19)), (1, .int (Int32.ofInt x))] [.int (Int32.ofInt e20)] (Wd A dT s19) 0 0
        refine z_if_ne X (t := 80) rfl rfl hrs19 (fun g27 => ?_) (fun g27 => ?_)
        ·
          refine z_aload_n X (x := A 19) rfl (List.Mem.tail _ (List.Mem.head _)) (z_bipush X rfl (zcV_i0 X E 19 (As := [.int (Int32.ofInt 59)]) (st := []) rfl rfl rfl rfl (c7_pass_19 G Is19 (by first | exact ⟨by decide, by decide⟩ | omega) (by first | exact oq_8a3fdbff g18 g10 | omega) (by first | exact oq_8a3fdbff g18 g10 | omega)) rfl (Nat.le_of_ble_eq_true rfl) (fun s28 e29 Is28 Fs28 hrs28 hps28 => ?_)))
          have hps28p := And.intro hps28.2.1 (hps28.2.2)
          have Gs28 := fm_tq Gs19 Fs28 rfl rfl
          have b30 := bi_2 Is28
          have ws28_1 : iI s28 1 = iI s19 1 := fm_iq Fs28 rfl
          have b31 := bi_4 Is28
          have b32 := bi_5 Is28
          have b33 := bi_6 Is28
          have ws28_19 : iI s28 19 = iI s19 19 := fm_iq Fs28 rfl
          have ws28_16 : iI s28 16 = iI s19 16 := fm_iq Fs28 rfl
          refine z_if_ne X (t := 91) rfl rfl hrs28 (fun g34 => ?_) (fun g34 => ?_)
          ·
            refine z_aload_n X (x := A 19) rfl (List.Mem.tail _ (List.Mem.head _)) (s_getR X 19 rfl (c518_ok rfl) rfl rfl (z_load_n X (x := x) rfl (List.Mem.tail _ (List.Mem.tail _ (List.Mem.head _))) (z_aload_n X (x := A 19) rfl (List.Mem.tail _ (List.Mem.head _)) (z_getI X 19 rfl (c518_ok rfl) rfl rfl ?_))))
            have b35 := bi_16 Is28
            refine z_ast X 23 rfl (c518_ok rfl) rfl (by first | exact p0.1 | omega) (show x < 8 by first | exact g11 | omega) (cbig_ok rfl) (wd_gen (fun s36 hs36 => ?_))
            have Is36 : Bd s36 := eqB hs36 (bd_C Is28 (show (0 : Int) ≤ (iI s28 16) ∧ (iI s28 16) ≤ 200 by first | exact ⟨b35.1, b35.2⟩ | omega) (rng_to _))
            have Fs36 := eqF hs36 (fm_C Gs28 (inl_ok (a := 19) rfl))
            have ws36_2 : iI s36 2 = iI s28 2 := eqI hs36 rfl
            have ws36_1 : iI s36 1 = iI s28 1 := eqI hs36 rfl
            have ws36_4 : iI s36 4 = iI s28 4 := eqI hs36 rfl
            have ws36_5 : iI s36 5 = iI s28 5 := eqI hs36 rfl
            have ws36_6 : iI s36 6 = iI s28 6 := eqI hs36 rfl
            have ws36_19 : iI s36 19 = iI s28 19 := eqI hs36 rfl
            have ws36_16 : iI s36 16 = iI s28 16 := eqI hs36 rfl
            refine z_load_n X (x := e9) rfl (List.Mem.head _) (z_if_eq X (t := 113) rfl rfl hrs8 (fun g37 => ?_) (fun g37 => ?_))
            ·
              refine z_aload_n X (x := A 19) rfl (List.Mem.tail _ (List.Mem.head _)) (w_dup X.1 (ax_d X (show cdA 71 114 = some (.dup, 1, 0, 0, 0) from rfl)) rfl (z_getI X 19 rfl (c518_ok rfl) rfl rfl ?_))
              have b38 := bi_18 Is36
              refine z_const X rfl (z_load_n X (x := x) rfl (List.Mem.tail _ (List.Mem.tail _ (List.Mem.head _))) (z_bshl X rfl (z_any (fun y39 hy39 => ?_))))
              refine z_bor X rfl (z_any (fun y40 hy40 => ?_))
              refine s_putI X 19 rfl (c518_ok rfl) rfl rfl (by decide) rfl rfl rfl (wd_gen (fun s41 hs41 => ?_))
              have Is41 : Bd s41 := eqB hs41 (bd_I Is36 (show ((-2147483648) : Int) ≤ y40 ∧ y40 ≤ 2147483647 by first | exact ⟨hy40.1, hy40.2⟩ | omega) hy40)
              have Fs41 := eqF hs41 (fm_I Fs36 (inl_ok (a := 18) rfl))
              have vs41 : iI s41 18 = y40 := eqI hs41 (iI_u hy40)
              have ws41_2 : iI s41 2 = iI s36 2 := eqI hs41 rfl
              have ws41_1 : iI s41 1 = iI s36 1 := eqI hs41 rfl
              have ws41_4 : iI s41 4 = iI s36 4 := eqI hs41 rfl
              have ws41_5 : iI s41 5 = iI s36 5 := eqI hs41 rfl
              have ws41_6 : iI s41 6 = iI s36 6 := eqI hs41 rfl
              have ws41_19 : iI s41 19 = iI s36 19 := eqI hs41 rfl
              have ws41_16 : iI s41 16 = iI s36 16 := eqI hs41 rfl
              refine z_const X rfl ?_
              exact w_iret X.1 q hRt (nar_ret (by first | exact Or.inr (by decide) | omega)) (ax_d X (show cdA 71 126 = some (.ireturn, 1, 0, 0, 0) from rfl)) (Nat.zero_le _) (Nat.zero_le _) ⟨_, rfl, Is41, Fs41, 1, rfl, (by decide), by first | exact ⟨Or.inr (by decide), oq_4407eb3c ws41_1 ws41_2 ws36_1 ws36_2 hps28.2.1, oq_4407eb3c ws41_2 ws41_4 ws36_2 ws36_4 hps28.2.2⟩ | omega⟩
            ·
              refine z_aload_n X (x := A 19) rfl (List.Mem.tail _ (List.Mem.head _)) (z_load_n X (x := x) rfl (List.Mem.tail _ (List.Mem.tail _ (List.Mem.head _))) (s_putI X 19 rfl (c518_ok rfl) rfl rfl (by decide) rfl rfl rfl (wd_gen (fun s42 hs42 => ?_))))
              have Is42 : Bd s42 := eqB hs42 (bd_I Is36 (show ((-1) : Int) ≤ x ∧ x ≤ 7 by first | exact ⟨oq_ca54ea22 p0.1, oq_78c639ed g11⟩ | omega) ⟨by first | exact oq_fa4e5087 p0.1 | omega, by first | exact oq_7bea7075 g11 | omega⟩)
              have Fs42 := eqF hs42 (fm_I Fs36 (inl_ok (a := 17) rfl))
              have vs42 : iI s42 17 = x := eqI hs42 (iI_u ⟨by first | exact oq_fa4e5087 p0.1 | omega, by first | exact oq_7bea7075 g11 | omega⟩)
              have ws42_2 : iI s42 2 = iI s36 2 := eqI hs42 rfl
              have ws42_1 : iI s42 1 = iI s36 1 := eqI hs42 rfl
              have ws42_4 : iI s42 4 = iI s36 4 := eqI hs42 rfl
              have ws42_5 : iI s42 5 = iI s36 5 := eqI hs42 rfl
              have ws42_6 : iI s42 6 = iI s36 6 := eqI hs42 rfl
              have ws42_19 : iI s42 19 = iI s36 19 := eqI hs42 rfl
              have ws42_16 : iI s42 16 = iI s36 16 := eqI hs42 rfl
              refine z_goto X (t := 125) rfl rfl (z_const X rfl ?_)
              exact w_iret X.1 q hRt (nar_ret (by first | exact Or.inr (by decide) | omega)) (ax_d X (show cdA 71 126 = some (.ireturn, 1, 0, 0, 0) from rfl)) (Nat.zero_le _) (Nat.zero_le _) ⟨_, rfl, Is42, Fs42, 1, rfl, (by decide), by first | exact ⟨Or.inr (by decide), oq_4407eb3c ws42_1 ws42_2 ws36_1 ws36_2 hps28.2.1, oq_4407eb3c ws42_2 ws42_4 ws36_2 ws36_4 hps28.2.2⟩ | omega⟩
          ·
            refine z_const X rfl ?_
            exact w_iret X.1 q hRt (nar_ret (by first | exact Or.inl (by decide) | omega)) (ax_d X (show cdA 71 90 = some (.ireturn, 1, 0, 0, 0) from rfl)) (Nat.zero_le _) (Nat.zero_le _) ⟨_, rfl, Is28, Gs28, 0, rfl, (by decide), by first | exact ⟨Or.inl (by decide), hps28.2.1, hps28.2.2⟩ | omega⟩
        ·
          refine z_const X rfl ?_
          exact w_iret X.1 q hRt (nar_ret (by first | exact Or.inl (by decide) | omega)) (ax_d X (show cdA 71 79 = some (.ireturn, 1, 0, 0, 0) from rfl)) (Nat.zero_le _) (Nat.zero_le _) ⟨_, rfl, Is19, Gs19, 0, rfl, (by decide), by first | exact ⟨Or.inl (by decide), oq_8a3fdbff g18 g10, oq_8a3fdbff g18 g10⟩ | omega⟩
      ·
        refine z_aload_n X (x := A 19) rfl (List.Mem.tail _ (List.Mem.head _)) (z_callV X 19 (rm := (rkR (4 * (7) + 3))) (As := []) (st := []) rfl rfl (by decide) rfl (by rw [E.1, E.2.1, E.2.2.1]; exact (c7_sumr G SF GT 7).2.2.2 Is12 (by first | exact hps12.1 | omega) (by first | exact hps12.2 | omega) (by first | exact oq_7d321bf4 ws12_19 ws8_19 b6.1 | omega)) ⟨by rw [E.2.2.2]; exact (show (12 + (4 * (7) + 3)) + 1 ≤ 68 from oq_4cedc687), by rw [E.2.2.2]; exact (show 8 + (3 + 11) + (500 + 45 * (4 * (7) + 3)) ≤ 2996 from oq_b0ed7f34), by rw [E.2.2.2]; exact Nat.le_refl 0, by rw [E.2.2.2]; exact Nat.le_refl 0⟩ (Nat.le_of_ble_eq_true rfl) (fun vv s43 hq => ?_) (fun ee s43 hq => ?_))
        rotate_left
        · obtain ⟨Is43, Fs43, e44, hv, hrs43, hps43⟩ := hq; cases hv
        obtain ⟨Is43, Fs43, e44, hv, hrs43, hps43⟩ := hq
        cases hv
        have Gs43 := fm_tq Gs12 Fs43 rfl rfl
        have b45 := bi_2 Is43
        have ws43_1 : iI s43 1 = iI s12 1 := fm_iq Fs43 rfl
        have b46 := bi_4 Is43
        have b47 := bi_5 Is43
        have b48 := bi_6 Is43
        have b49 := bi_19 Is43
        have b50 := bi_16 Is43
        show WS k 65 [(2, .int (Int32.ofInt e9)), (0, .ref (A 19)), (1, .int (Int32.ofInt x))] [.int (Int32.ofInt e44)] (Wd A dT s43) 0 0
        refine z_if_ne X (t := 80) rfl rfl hrs43 (fun g51 => ?_) (fun g51 => ?_)
        ·
          refine z_aload_n X (x := A 19) rfl (List.Mem.tail _ (List.Mem.head _)) (z_bipush X rfl (zcV_i0 X E 19 (As := [.int (Int32.ofInt 59)]) (st := []) rfl rfl rfl rfl (c7_pass_19 G Is43 (by first | exact ⟨by decide, by decide⟩ | omega) (by first | (clear g51 hps43 g18 g10 hps8; omega) | (clear hps43 g18 g10 hps8; omega) | omega) (by first | (clear g51 hps43 g18 g10 hps8; omega) | (clear hps43 g18 g10 hps8; omega) | omega)) rfl (Nat.le_of_ble_eq_true rfl) (fun s52 e53 Is52 Fs52 hrs52 hps52 => ?_)))
          have hps52p := And.intro hps52.2.1 (hps52.2.2)
          have Gs52 := fm_tq Gs43 Fs52 rfl rfl
          have b54 := bi_2 Is52
          have ws52_1 : iI s52 1 = iI s43 1 := fm_iq Fs52 rfl
          have b55 := bi_4 Is52
          have b56 := bi_5 Is52
          have b57 := bi_6 Is52
          have ws52_19 : iI s52 19 = iI s43 19 := fm_iq Fs52 rfl
          have ws52_16 : iI s52 16 = iI s43 16 := fm_iq Fs52 rfl
          refine z_if_ne X (t := 91) rfl rfl hrs52 (fun g58 => ?_) (fun g58 => ?_)
          ·
            refine z_aload_n X (x := A 19) rfl (List.Mem.tail _ (List.Mem.head _)) (s_getR X 19 rfl (c518_ok rfl) rfl rfl (z_load_n X (x := x) rfl (List.Mem.tail _ (List.Mem.tail _ (List.Mem.head _))) (z_aload_n X (x := A 19) rfl (List.Mem.tail _ (List.Mem.head _)) (z_getI X 19 rfl (c518_ok rfl) rfl rfl ?_))))
            have b59 := bi_16 Is52
            refine z_ast X 23 rfl (c518_ok rfl) rfl (by first | exact p0.1 | omega) (show x < 8 by first | exact g11 | omega) (cbig_ok rfl) (wd_gen (fun s60 hs60 => ?_))
            have Is60 : Bd s60 := eqB hs60 (bd_C Is52 (show (0 : Int) ≤ (iI s52 16) ∧ (iI s52 16) ≤ 200 by first | exact ⟨b59.1, b59.2⟩ | omega) (rng_to _))
            have Fs60 := eqF hs60 (fm_C Gs52 (inl_ok (a := 19) rfl))
            have ws60_2 : iI s60 2 = iI s52 2 := eqI hs60 rfl
            have ws60_1 : iI s60 1 = iI s52 1 := eqI hs60 rfl
            have ws60_4 : iI s60 4 = iI s52 4 := eqI hs60 rfl
            have ws60_5 : iI s60 5 = iI s52 5 := eqI hs60 rfl
            have ws60_6 : iI s60 6 = iI s52 6 := eqI hs60 rfl
            have ws60_19 : iI s60 19 = iI s52 19 := eqI hs60 rfl
            have ws60_16 : iI s60 16 = iI s52 16 := eqI hs60 rfl
            refine z_load_n X (x := e9) rfl (List.Mem.head _) (z_if_eq X (t := 113) rfl rfl hrs8 (fun g61 => ?_) (fun g61 => ?_))
            ·
              refine z_aload_n X (x := A 19) rfl (List.Mem.tail _ (List.Mem.head _)) (w_dup X.1 (ax_d X (show cdA 71 114 = some (.dup, 1, 0, 0, 0) from rfl)) rfl (z_getI X 19 rfl (c518_ok rfl) rfl rfl ?_))
              have b62 := bi_18 Is60
              refine z_const X rfl (z_load_n X (x := x) rfl (List.Mem.tail _ (List.Mem.tail _ (List.Mem.head _))) (z_bshl X rfl (z_any (fun y63 hy63 => ?_))))
              refine z_bor X rfl (z_any (fun y64 hy64 => ?_))
              refine s_putI X 19 rfl (c518_ok rfl) rfl rfl (by decide) rfl rfl rfl (wd_gen (fun s65 hs65 => ?_))
              have Is65 : Bd s65 := eqB hs65 (bd_I Is60 (show ((-2147483648) : Int) ≤ y64 ∧ y64 ≤ 2147483647 by first | exact ⟨hy64.1, hy64.2⟩ | omega) hy64)
              have Fs65 := eqF hs65 (fm_I Fs60 (inl_ok (a := 18) rfl))
              have vs65 : iI s65 18 = y64 := eqI hs65 (iI_u hy64)
              have ws65_2 : iI s65 2 = iI s60 2 := eqI hs65 rfl
              have ws65_1 : iI s65 1 = iI s60 1 := eqI hs65 rfl
              have ws65_4 : iI s65 4 = iI s60 4 := eqI hs65 rfl
              have ws65_5 : iI s65 5 = iI s60 5 := eqI hs65 rfl
              have ws65_6 : iI s65 6 = iI s60 6 := eqI hs65 rfl
              have ws65_19 : iI s65 19 = iI s60 19 := eqI hs65 rfl
              have ws65_16 : iI s65 16 = iI s60 16 := eqI hs65 rfl
              refine z_const X rfl ?_
              exact w_iret X.1 q hRt (nar_ret (by first | exact Or.inr (by decide) | omega)) (ax_d X (show cdA 71 126 = some (.ireturn, 1, 0, 0, 0) from rfl)) (Nat.zero_le _) (Nat.zero_le _) ⟨_, rfl, Is65, Fs65, 1, rfl, (by decide), by first | exact ⟨Or.inr (by decide), oq_4407eb3c ws65_1 ws65_2 ws60_1 ws60_2 hps52.2.1, oq_4407eb3c ws65_2 ws65_4 ws60_2 ws60_4 hps52.2.2⟩ | omega⟩
            ·
              refine z_aload_n X (x := A 19) rfl (List.Mem.tail _ (List.Mem.head _)) (z_load_n X (x := x) rfl (List.Mem.tail _ (List.Mem.tail _ (List.Mem.head _))) (s_putI X 19 rfl (c518_ok rfl) rfl rfl (by decide) rfl rfl rfl (wd_gen (fun s66 hs66 => ?_))))
              have Is66 : Bd s66 := eqB hs66 (bd_I Is60 (show ((-1) : Int) ≤ x ∧ x ≤ 7 by first | exact ⟨oq_ca54ea22 p0.1, oq_78c639ed g11⟩ | omega) ⟨by first | exact oq_fa4e5087 p0.1 | omega, by first | exact oq_7bea7075 g11 | omega⟩)
              have Fs66 := eqF hs66 (fm_I Fs60 (inl_ok (a := 17) rfl))
              have vs66 : iI s66 17 = x := eqI hs66 (iI_u ⟨by first | exact oq_fa4e5087 p0.1 | omega, by first | exact oq_7bea7075 g11 | omega⟩)
              have ws66_2 : iI s66 2 = iI s60 2 := eqI hs66 rfl
              have ws66_1 : iI s66 1 = iI s60 1 := eqI hs66 rfl
              have ws66_4 : iI s66 4 = iI s60 4 := eqI hs66 rfl
              have ws66_5 : iI s66 5 = iI s60 5 := eqI hs66 rfl
              have ws66_6 : iI s66 6 = iI s60 6 := eqI hs66 rfl
              have ws66_19 : iI s66 19 = iI s60 19 := eqI hs66 rfl
              have ws66_16 : iI s66 16 = iI s60 16 := eqI hs66 rfl
              refine z_goto X (t := 125) rfl rfl (z_const X rfl ?_)
              exact w_iret X.1 q hRt (nar_ret (by first | exact Or.inr (by decide) | omega)) (ax_d X (show cdA 71 126 = some (.ireturn, 1, 0, 0, 0) from rfl)) (Nat.zero_le _) (Nat.zero_le _) ⟨_, rfl, Is66, Fs66, 1, rfl, (by decide), by first | exact ⟨Or.inr (by decide), oq_4407eb3c ws66_1 ws66_2 ws60_1 ws60_2 hps52.2.1, oq_4407eb3c ws66_2 ws66_4 ws60_2 ws60_4 hps52.2.2⟩ | omega⟩
          ·
            refine z_const X rfl ?_
            exact w_iret X.1 q hRt (nar_ret (by first | exact Or.inl (by decide) | omega)) (ax_d X (show cdA 71 90 = some (.ireturn, 1, 0, 0, 0) from rfl)) (Nat.zero_le _) (Nat.zero_le _) ⟨_, rfl, Is52, Gs52, 0, rfl, (by decide), by first | exact ⟨Or.inl (by decide), hps52.2.1, hps52.2.2⟩ | omega⟩
        ·
          refine z_goto X (t := 78) rfl rfl (z_const X rfl ?_)
          exact w_iret X.1 q hRt (nar_ret (by first | exact Or.inl (by decide) | omega)) (ax_d X (show cdA 71 79 = some (.ireturn, 1, 0, 0, 0) from rfl)) (Nat.zero_le _) (Nat.zero_le _) ⟨_, rfl, Is43, Gs43, 0, rfl, (by decide), by first | exact ⟨Or.inl (by decide), by first | (clear hps43 g18 g10 hps8; omega) | (clear g18 g10 hps8; omega) | omega, by first | (clear hps43 g18 g10 hps8; omega) | (clear g18 g10 hps8; omega) | omega⟩ | omega⟩
    ·
      refine z_aload_n X (x := A 19) rfl (List.Mem.tail _ (List.Mem.head _)) (s_getR X 19 rfl (c518_ok rfl) rfl rfl (z_const X rfl (zcV_i0 X E 1 (As := [.int (Int32.ofInt 3)]) (st := []) rfl rfl rfl rfl (c10_refuse_1 G Is8 (by first | exact ⟨by decide, by decide⟩ | omega)) rfl (Nat.le_of_ble_eq_true rfl) (fun s67 e68 Is67 Fs67 hrs67 hps67 => ?_))))
      have Gs67 := fm_tq Gs8 Fs67 rfl rfl
      have ws67_2 : iI s67 2 = iI s8 2 := fm_iq Fs67 rfl
      have ws67_1 : iI s67 1 = iI s8 1 := fm_iq Fs67 rfl
      have ws67_4 : iI s67 4 = iI s8 4 := fm_iq Fs67 rfl
      have ws67_5 : iI s67 5 = iI s8 5 := fm_iq Fs67 rfl
      have ws67_6 : iI s67 6 = iI s8 6 := fm_iq Fs67 rfl
      have ws67_19 : iI s67 19 = iI s8 19 := fm_iq Fs67 rfl
      have ws67_16 : iI s67 16 = iI s8 16 := fm_iq Fs67 rfl
      exact w_iret X.1 q hRt (nar_ret (by first | exact Or.inl (hps67) | omega)) (ax_d X (show cdA 71 49 = some (.ireturn, 1, 0, 0, 0) from rfl)) (Nat.zero_le _) (Nat.zero_le _) ⟨_, rfl, Is67, Gs67, e68, rfl, hrs67, by first | exact ⟨Or.inl (hps67), oq_4407eb3c ws67_1 ws67_2 ws8_1 ws8_2 p1, oq_4407eb3c ws67_2 ws67_4 ws8_2 ws8_4 p2⟩ | omega⟩
  ·
    refine z_aload_n X (x := A 19) rfl (List.Mem.tail _ (List.Mem.head _)) (s_getR X 19 rfl (c518_ok rfl) rfl rfl ?_)
    obtain ⟨tx80, q80, hR80, hS80⟩ := GT (80, 4) (by decide)
    refine w_ldcK X (show vk_R (kOwn k) 80 tx80 q80 (kS0 k) by rw [E.2.1, X.2.1.2.1]; exact hR80) (show decode (kCc k) 18 = .ok (.ldc 80, 2) by rw [X.2.1.1]; decide +kernel) (zcV_i0 X E 1 (As := [.ref q80]) (st := []) rfl rfl rfl rfl (c10_says G SF hS80 Is8 (by first | exact oq_e7b9ecab ws8_2 ws8_4 p2 | omega)) rfl (Nat.le_of_ble_eq_true rfl) (fun s69 e70 Is69 Fs69 hrs69 hps69 => ?_))
    have Gs69 := fm_tq Gs8 Fs69 rfl rfl
    have ws69_2 : iI s69 2 = iI s8 2 := fm_iq Fs69 rfl
    have ws69_1 : iI s69 1 = iI s8 1 := fm_iq Fs69 rfl
    have ws69_4 : iI s69 4 = iI s8 4 := fm_iq Fs69 rfl
    have ws69_5 : iI s69 5 = iI s8 5 := fm_iq Fs69 rfl
    have ws69_6 : iI s69 6 = iI s8 6 := fm_iq Fs69 rfl
    have ws69_19 : iI s69 19 = iI s8 19 := fm_iq Fs69 rfl
    have ws69_16 : iI s69 16 = iI s8 16 := fm_iq Fs69 rfl
    refine z_if_ne X (t := 35) rfl rfl hrs69 (fun g71 => ?_) (fun g71 => ?_)
    ·
      refine z_load_n X (x := x) rfl (List.Mem.tail _ (List.Mem.tail _ (List.Mem.head _))) (z_bipush X rfl (z_icmp_lt X (t := 50) rfl rfl ⟨by first | exact oq_fa4e5087 p0.1 | omega, by first | exact oq_d3f5d874 p0.2 | omega⟩ (by decide) (fun g72 => ?_) (fun g72 => ?_)))
      ·
        refine z_aload_n X (x := A 19) rfl (List.Mem.tail _ (List.Mem.head _)) (s_getR X 19 rfl (c518_ok rfl) rfl rfl (zcV_v0 X E 1 (As := []) (st := []) rfl rfl rfl rfl (c10_step_1 G Is69 (by first | exact oq_4407eb3c ws69_1 ws69_2 ws8_1 ws8_2 p1 | omega)) rfl (Nat.le_of_ble_eq_true rfl) (fun s73 Is73 Fs73 hps73 => ?_)))
        have Gs73 := fm_tq Gs69 Fs73 rfl rfl
        have b75 := bi_2 Is73
        have ws73_1 : iI s73 1 = iI s69 1 := fm_iq Fs73 rfl
        have b76 := bi_4 Is73
        have b77 := bi_5 Is73
        have b78 := bi_6 Is73
        have ws73_19 : iI s73 19 = iI s69 19 := fm_iq Fs73 rfl
        have ws73_16 : iI s73 16 = iI s69 16 := fm_iq Fs73 rfl
        refine z_load_n X (x := e9) rfl (List.Mem.head _) (z_if_eq X (t := 71) rfl rfl hrs8 (fun g79 => ?_) (fun g79 => ?_))
        ·
          refine z_aload_n X (x := A 19) rfl (List.Mem.tail _ (List.Mem.head _)) (z_callV X 19 (rm := (rkR (32 + 3 * (7) + 2))) (As := []) (st := []) rfl rfl (by decide) rfl (by rw [E.1, E.2.1, E.2.2.1]; exact (c7_eithr G SF GT 7).2.2 Is73 (by first | exact hps73.1 | omega) (by first | exact hps73.2 | omega) (by first | exact oq_f6b99f75 ws73_19 ws69_19 ws8_19 b6.1 | omega)) ⟨by rw [E.2.2.2]; exact (show (12 + (32 + 3 * (7) + 2)) + 1 ≤ 68 from oq_2af1bc43), by rw [E.2.2.2]; exact (show 8 + (2 + 11) + (500 + 45 * (32 + 3 * (7) + 2)) ≤ 2996 from oq_3d00aaab), by rw [E.2.2.2]; exact Nat.le_refl 0, by rw [E.2.2.2]; exact Nat.le_refl 0⟩ (Nat.le_of_ble_eq_true rfl) (fun vv s80 hq => ?_) (fun ee s80 hq => ?_))
          rotate_left
          · obtain ⟨Is80, Fs80, e81, hv, hrs80, hps80⟩ := hq; cases hv
          obtain ⟨Is80, Fs80, e81, hv, hrs80, hps80⟩ := hq
          cases hv
          have Gs80 := fm_tq Gs73 Fs80 rfl rfl
          have b82 := bi_2 Is80
          have ws80_1 : iI s80 1 = iI s73 1 := fm_iq Fs80 rfl
          have b83 := bi_4 Is80
          have b84 := bi_5 Is80
          have b85 := bi_6 Is80
          have b86 := bi_19 Is80
          have b87 := bi_16 Is80
          show WS k 75 [(2, .int (Int32.ofInt e9)), (0, .ref (A 19)), (1, .int (Int32.ofInt x))] [.int (Int32.ofInt e81)] (Wd A dT s80) 0 0
          refine z_if_ne X (t := 80) rfl rfl hrs80 (fun g88 => ?_) (fun g88 => ?_)
          ·
            refine z_aload_n X (x := A 19) rfl (List.Mem.tail _ (List.Mem.head _)) (z_bipush X rfl (zcV_i0 X E 19 (As := [.int (Int32.ofInt 59)]) (st := []) rfl rfl rfl rfl (c7_pass_19 G Is80 (by first | exact ⟨by decide, by decide⟩ | omega) (by first | (clear g88 hps80 g71 hps69 hps8; omega) | (clear hps80 g71 hps69 hps8; omega) | omega) (by first | (clear g88 hps80 g71 hps69 hps8; omega) | (clear hps80 g71 hps69 hps8; omega) | omega)) rfl (Nat.le_of_ble_eq_true rfl) (fun s89 e90 Is89 Fs89 hrs89 hps89 => ?_)))
            have hps89p := And.intro hps89.2.1 (hps89.2.2)
            have Gs89 := fm_tq Gs80 Fs89 rfl rfl
            have b91 := bi_2 Is89
            have ws89_1 : iI s89 1 = iI s80 1 := fm_iq Fs89 rfl
            have b92 := bi_4 Is89
            have b93 := bi_5 Is89
            have b94 := bi_6 Is89
            have ws89_19 : iI s89 19 = iI s80 19 := fm_iq Fs89 rfl
            have ws89_16 : iI s89 16 = iI s80 16 := fm_iq Fs89 rfl
            refine z_if_ne X (t := 91) rfl rfl hrs89 (fun g95 => ?_) (fun g95 => ?_)
            ·
              refine z_aload_n X (x := A 19) rfl (List.Mem.tail _ (List.Mem.head _)) (s_getR X 19 rfl (c518_ok rfl) rfl rfl (z_load_n X (x := x) rfl (List.Mem.tail _ (List.Mem.tail _ (List.Mem.head _))) (z_aload_n X (x := A 19) rfl (List.Mem.tail _ (List.Mem.head _)) (z_getI X 19 rfl (c518_ok rfl) rfl rfl ?_))))
              have b96 := bi_16 Is89
              refine z_ast X 23 rfl (c518_ok rfl) rfl (by first | exact p0.1 | omega) (show x < 8 by first | exact g72 | omega) (cbig_ok rfl) (wd_gen (fun s97 hs97 => ?_))
              have Is97 : Bd s97 := eqB hs97 (bd_C Is89 (show (0 : Int) ≤ (iI s89 16) ∧ (iI s89 16) ≤ 200 by first | exact ⟨b96.1, b96.2⟩ | omega) (rng_to _))
              have Fs97 := eqF hs97 (fm_C Gs89 (inl_ok (a := 19) rfl))
              have ws97_2 : iI s97 2 = iI s89 2 := eqI hs97 rfl
              have ws97_1 : iI s97 1 = iI s89 1 := eqI hs97 rfl
              have ws97_4 : iI s97 4 = iI s89 4 := eqI hs97 rfl
              have ws97_5 : iI s97 5 = iI s89 5 := eqI hs97 rfl
              have ws97_6 : iI s97 6 = iI s89 6 := eqI hs97 rfl
              have ws97_19 : iI s97 19 = iI s89 19 := eqI hs97 rfl
              have ws97_16 : iI s97 16 = iI s89 16 := eqI hs97 rfl
              refine z_load_n X (x := e9) rfl (List.Mem.head _) (z_if_eq X (t := 113) rfl rfl hrs8 (fun g98 => ?_) (fun g98 => ?_))
              ·
                refine z_aload_n X (x := A 19) rfl (List.Mem.tail _ (List.Mem.head _)) (w_dup X.1 (ax_d X (show cdA 71 114 = some (.dup, 1, 0, 0, 0) from rfl)) rfl (z_getI X 19 rfl (c518_ok rfl) rfl rfl ?_))
                have b99 := bi_18 Is97
                refine z_const X rfl (z_load_n X (x := x) rfl (List.Mem.tail _ (List.Mem.tail _ (List.Mem.head _))) (z_bshl X rfl (z_any (fun y100 hy100 => ?_))))
                refine z_bor X rfl (z_any (fun y101 hy101 => ?_))
                refine s_putI X 19 rfl (c518_ok rfl) rfl rfl (by decide) rfl rfl rfl (wd_gen (fun s102 hs102 => ?_))
                have Is102 : Bd s102 := eqB hs102 (bd_I Is97 (show ((-2147483648) : Int) ≤ y101 ∧ y101 ≤ 2147483647 by first | exact ⟨hy101.1, hy101.2⟩ | omega) hy101)
                have Fs102 := eqF hs102 (fm_I Fs97 (inl_ok (a := 18) rfl))
                have vs102 : iI s102 18 = y101 := eqI hs102 (iI_u hy101)
                have ws102_2 : iI s102 2 = iI s97 2 := eqI hs102 rfl
                have ws102_1 : iI s102 1 = iI s97 1 := eqI hs102 rfl
                have ws102_4 : iI s102 4 = iI s97 4 := eqI hs102 rfl
                have ws102_5 : iI s102 5 = iI s97 5 := eqI hs102 rfl
                have ws102_6 : iI s102 6 = iI s97 6 := eqI hs102 rfl
                have ws102_19 : iI s102 19 = iI s97 19 := eqI hs102 rfl
                have ws102_16 : iI s102 16 = iI s97 16 := eqI hs102 rfl
                refine z_const X rfl ?_
                exact w_iret X.1 q hRt (nar_ret (by first | exact Or.inr (by decide) | omega)) (ax_d X (show cdA 71 126 = some (.ireturn, 1, 0, 0, 0) from rfl)) (Nat.zero_le _) (Nat.zero_le _) ⟨_, rfl, Is102, Fs102, 1, rfl, (by decide), by first | exact ⟨Or.inr (by decide), oq_4407eb3c ws102_1 ws102_2 ws97_1 ws97_2 hps89.2.1, oq_4407eb3c ws102_2 ws102_4 ws97_2 ws97_4 hps89.2.2⟩ | omega⟩
              ·
                refine z_aload_n X (x := A 19) rfl (List.Mem.tail _ (List.Mem.head _)) (z_load_n X (x := x) rfl (List.Mem.tail _ (List.Mem.tail _ (List.Mem.head _))) (s_putI X 19 rfl (c518_ok rfl) rfl rfl (by decide) rfl rfl rfl (wd_gen (fun s103 hs103 => ?_))))
                have Is103 : Bd s103 := eqB hs103 (bd_I Is97 (show ((-1) : Int) ≤ x ∧ x ≤ 7 by first | exact ⟨oq_ca54ea22 p0.1, oq_78c639ed g72⟩ | omega) ⟨by first | exact oq_fa4e5087 p0.1 | omega, by first | exact oq_7bea7075 g72 | omega⟩)
                have Fs103 := eqF hs103 (fm_I Fs97 (inl_ok (a := 17) rfl))
                have vs103 : iI s103 17 = x := eqI hs103 (iI_u ⟨by first | exact oq_fa4e5087 p0.1 | omega, by first | exact oq_7bea7075 g72 | omega⟩)
                have ws103_2 : iI s103 2 = iI s97 2 := eqI hs103 rfl
                have ws103_1 : iI s103 1 = iI s97 1 := eqI hs103 rfl
                have ws103_4 : iI s103 4 = iI s97 4 := eqI hs103 rfl
                have ws103_5 : iI s103 5 = iI s97 5 := eqI hs103 rfl
                have ws103_6 : iI s103 6 = iI s97 6 := eqI hs103 rfl
                have ws103_19 : iI s103 19 = iI s97 19 := eqI hs103 rfl
                have ws103_16 : iI s103 16 = iI s97 16 := eqI hs103 rfl
                refine z_goto X (t := 125) rfl rfl (z_const X rfl ?_)
                exact w_iret X.1 q hRt (nar_ret (by first | exact Or.inr (by decide) | omega)) (ax_d X (show cdA 71 126 = some (.ireturn, 1, 0, 0, 0) from rfl)) (Nat.zero_le _) (Nat.zero_le _) ⟨_, rfl, Is103, Fs103, 1, rfl, (by decide), by first | exact ⟨Or.inr (by decide), oq_4407eb3c ws103_1 ws103_2 ws97_1 ws97_2 hps89.2.1, oq_4407eb3c ws103_2 ws103_4 ws97_2 ws97_4 hps89.2.2⟩ | omega⟩
            ·
              refine z_const X rfl ?_
              exact w_iret X.1 q hRt (nar_ret (by first | exact Or.inl (by decide) | omega)) (ax_d X (show cdA 71 90 = some (.ireturn, 1, 0, 0, 0) from rfl)) (Nat.zero_le _) (Nat.zero_le _) ⟨_, rfl, Is89, Gs89, 0, rfl, (by decide), by first | exact ⟨Or.inl (by decide), hps89.2.1, hps89.2.2⟩ | omega⟩
          ·
            refine z_const X rfl ?_
            exact w_iret X.1 q hRt (nar_ret (by first | exact Or.inl (by decide) | omega)) (ax_d X (show cdA 71 79 = some (.ireturn, 1, 0, 0, 0) from rfl)) (Nat.zero_le _) (Nat.zero_le _) ⟨_, rfl, Is80, Gs80, 0, rfl, (by decide), by first | exact ⟨Or.inl (by decide), by first | (clear hps80 g71 hps69 hps8; omega) | (clear g71 hps69 hps8; omega) | omega, by first | (clear hps80 g71 hps69 hps8; omega) | (clear g71 hps69 hps8; omega) | omega⟩ | omega⟩
        ·
          refine z_aload_n X (x := A 19) rfl (List.Mem.tail _ (List.Mem.head _)) (z_callV X 19 (rm := (rkR (4 * (7) + 3))) (As := []) (st := []) rfl rfl (by decide) rfl (by rw [E.1, E.2.1, E.2.2.1]; exact (c7_sumr G SF GT 7).2.2.2 Is73 (by first | exact hps73.1 | omega) (by first | exact hps73.2 | omega) (by first | exact oq_f6b99f75 ws73_19 ws69_19 ws8_19 b6.1 | omega)) ⟨by rw [E.2.2.2]; exact (show (12 + (4 * (7) + 3)) + 1 ≤ 68 from oq_4cedc687), by rw [E.2.2.2]; exact (show 8 + (3 + 11) + (500 + 45 * (4 * (7) + 3)) ≤ 2996 from oq_b0ed7f34), by rw [E.2.2.2]; exact Nat.le_refl 0, by rw [E.2.2.2]; exact Nat.le_refl 0⟩ (Nat.le_of_ble_eq_true rfl) (fun vv s104 hq => ?_) (fun ee s104 hq => ?_))
          rotate_left
          · obtain ⟨Is104, Fs104, e105, hv, hrs104, hps104⟩ := hq; cases hv
          obtain ⟨Is104, Fs104, e105, hv, hrs104, hps104⟩ := hq
          cases hv
          have Gs104 := fm_tq Gs73 Fs104 rfl rfl
          have b106 := bi_2 Is104
          have ws104_1 : iI s104 1 = iI s73 1 := fm_iq Fs104 rfl
          have b107 := bi_4 Is104
          have b108 := bi_5 Is104
          have b109 := bi_6 Is104
          have b110 := bi_19 Is104
          have b111 := bi_16 Is104
          show WS k 65 [(2, .int (Int32.ofInt e9)), (0, .ref (A 19)), (1, .int (Int32.ofInt x))] [.int (Int32.ofInt e105)] (Wd A dT s104) 0 0
          refine z_if_ne X (t := 80) rfl rfl hrs104 (fun g112 => ?_) (fun g112 => ?_)
          ·
            refine z_aload_n X (x := A 19) rfl (List.Mem.tail _ (List.Mem.head _)) (z_bipush X rfl (zcV_i0 X E 19 (As := [.int (Int32.ofInt 59)]) (st := []) rfl rfl rfl rfl (c7_pass_19 G Is104 (by first | exact ⟨by decide, by decide⟩ | omega) (by first | exact oq_4e2d8064 g79 g10 | omega) (by first | exact oq_4e2d8064 g79 g10 | omega)) rfl (Nat.le_of_ble_eq_true rfl) (fun s113 e114 Is113 Fs113 hrs113 hps113 => ?_)))
            have hps113p := And.intro hps113.2.1 (hps113.2.2)
            have Gs113 := fm_tq Gs104 Fs113 rfl rfl
            have b115 := bi_2 Is113
            have ws113_1 : iI s113 1 = iI s104 1 := fm_iq Fs113 rfl
            have b116 := bi_4 Is113
            have b117 := bi_5 Is113
            have b118 := bi_6 Is113
            have ws113_19 : iI s113 19 = iI s104 19 := fm_iq Fs113 rfl
            have ws113_16 : iI s113 16 = iI s104 16 := fm_iq Fs113 rfl
            refine z_if_ne X (t := 91) rfl rfl hrs113 (fun g119 => ?_) (fun g119 => ?_)
            ·
              refine z_aload_n X (x := A 19) rfl (List.Mem.tail _ (List.Mem.head _)) (s_getR X 19 rfl (c518_ok rfl) rfl rfl (z_load_n X (x := x) rfl (List.Mem.tail _ (List.Mem.tail _ (List.Mem.head _))) (z_aload_n X (x := A 19) rfl (List.Mem.tail _ (List.Mem.head _)) (z_getI X 19 rfl (c518_ok rfl) rfl rfl ?_))))
              have b120 := bi_16 Is113
              refine z_ast X 23 rfl (c518_ok rfl) rfl (by first | exact p0.1 | omega) (show x < 8 by first | exact g72 | omega) (cbig_ok rfl) (wd_gen (fun s121 hs121 => ?_))
              have Is121 : Bd s121 := eqB hs121 (bd_C Is113 (show (0 : Int) ≤ (iI s113 16) ∧ (iI s113 16) ≤ 200 by first | exact ⟨b120.1, b120.2⟩ | omega) (rng_to _))
              have Fs121 := eqF hs121 (fm_C Gs113 (inl_ok (a := 19) rfl))
              have ws121_2 : iI s121 2 = iI s113 2 := eqI hs121 rfl
              have ws121_1 : iI s121 1 = iI s113 1 := eqI hs121 rfl
              have ws121_4 : iI s121 4 = iI s113 4 := eqI hs121 rfl
              have ws121_5 : iI s121 5 = iI s113 5 := eqI hs121 rfl
              have ws121_6 : iI s121 6 = iI s113 6 := eqI hs121 rfl
              have ws121_19 : iI s121 19 = iI s113 19 := eqI hs121 rfl
              have ws121_16 : iI s121 16 = iI s113 16 := eqI hs121 rfl
              refine z_load_n X (x := e9) rfl (List.Mem.head _) (z_if_eq X (t := 113) rfl rfl hrs8 (fun g122 => ?_) (fun g122 => ?_))
              ·
                refine z_aload_n X (x := A 19) rfl (List.Mem.tail _ (List.Mem.head _)) (w_dup X.1 (ax_d X (show cdA 71 114 = some (.dup, 1, 0, 0, 0) from rfl)) rfl (z_getI X 19 rfl (c518_ok rfl) rfl rfl ?_))
                have b123 := bi_18 Is121
                refine z_const X rfl (z_load_n X (x := x) rfl (List.Mem.tail _ (List.Mem.tail _ (List.Mem.head _))) (z_bshl X rfl (z_any (fun y124 hy124 => ?_))))
                refine z_bor X rfl (z_any (fun y125 hy125 => ?_))
                refine s_putI X 19 rfl (c518_ok rfl) rfl rfl (by decide) rfl rfl rfl (wd_gen (fun s126 hs126 => ?_))
                have Is126 : Bd s126 := eqB hs126 (bd_I Is121 (show ((-2147483648) : Int) ≤ y125 ∧ y125 ≤ 2147483647 by first | exact ⟨hy125.1, hy125.2⟩ | omega) hy125)
                have Fs126 := eqF hs126 (fm_I Fs121 (inl_ok (a := 18) rfl))
                have vs126 : iI s126 18 = y125 := eqI hs126 (iI_u hy125)
                have ws126_2 : iI s126 2 = iI s121 2 := eqI hs126 rfl
                have ws126_1 : iI s126 1 = iI s121 1 := eqI hs126 rfl
                have ws126_4 : iI s126 4 = iI s121 4 := eqI hs126 rfl
                have ws126_5 : iI s126 5 = iI s121 5 := eqI hs126 rfl
                have ws126_6 : iI s126 6 = iI s121 6 := eqI hs126 rfl
                have ws126_19 : iI s126 19 = iI s121 19 := eqI hs126 rfl
                have ws126_16 : iI s126 16 = iI s121 16 := eqI hs126 rfl
                refine z_const X rfl ?_
                exact w_iret X.1 q hRt (nar_ret (by first | exact Or.inr (by decide) | omega)) (ax_d X (show cdA 71 126 = some (.ireturn, 1, 0, 0, 0) from rfl)) (Nat.zero_le _) (Nat.zero_le _) ⟨_, rfl, Is126, Fs126, 1, rfl, (by decide), by first | exact ⟨Or.inr (by decide), oq_4407eb3c ws126_1 ws126_2 ws121_1 ws121_2 hps113.2.1, oq_4407eb3c ws126_2 ws126_4 ws121_2 ws121_4 hps113.2.2⟩ | omega⟩
              ·
                refine z_aload_n X (x := A 19) rfl (List.Mem.tail _ (List.Mem.head _)) (z_load_n X (x := x) rfl (List.Mem.tail _ (List.Mem.tail _ (List.Mem.head _))) (s_putI X 19 rfl (c518_ok rfl) rfl rfl (by decide) rfl rfl rfl (wd_gen (fun s127 hs127 => ?_))))
                have Is127 : Bd s127 := eqB hs127 (bd_I Is121 (show ((-1) : Int) ≤ x ∧ x ≤ 7 by first | exact ⟨oq_ca54ea22 p0.1, oq_78c639ed g72⟩ | omega) ⟨by first | exact oq_fa4e5087 p0.1 | omega, by first | exact oq_7bea7075 g72 | omega⟩)
                have Fs127 := eqF hs127 (fm_I Fs121 (inl_ok (a := 17) rfl))
                have vs127 : iI s127 17 = x := eqI hs127 (iI_u ⟨by first | exact oq_fa4e5087 p0.1 | omega, by first | exact oq_7bea7075 g72 | omega⟩)
                have ws127_2 : iI s127 2 = iI s121 2 := eqI hs127 rfl
                have ws127_1 : iI s127 1 = iI s121 1 := eqI hs127 rfl
                have ws127_4 : iI s127 4 = iI s121 4 := eqI hs127 rfl
                have ws127_5 : iI s127 5 = iI s121 5 := eqI hs127 rfl
                have ws127_6 : iI s127 6 = iI s121 6 := eqI hs127 rfl
                have ws127_19 : iI s127 19 = iI s121 19 := eqI hs127 rfl
                have ws127_16 : iI s127 16 = iI s121 16 := eqI hs127 rfl
                refine z_goto X (t := 125) rfl rfl (z_const X rfl ?_)
                exact w_iret X.1 q hRt (nar_ret (by first | exact Or.inr (by decide) | omega)) (ax_d X (show cdA 71 126 = some (.ireturn, 1, 0, 0, 0) from rfl)) (Nat.zero_le _) (Nat.zero_le _) ⟨_, rfl, Is127, Fs127, 1, rfl, (by decide), by first | exact ⟨Or.inr (by decide), oq_4407eb3c ws127_1 ws127_2 ws121_1 ws121_2 hps113.2.1, oq_4407eb3c ws127_2 ws127_4 ws121_2 ws121_4 hps113.2.2⟩ | omega⟩
            ·
              refine z_const X rfl ?_
              exact w_iret X.1 q hRt (nar_ret (by first | exact Or.inl (by decide) | omega)) (ax_d X (show cdA 71 90 = some (.ireturn, 1, 0, 0, 0) from rfl)) (Nat.zero_le _) (Nat.zero_le _) ⟨_, rfl, Is113, Gs113, 0, rfl, (by decide), by first | exact ⟨Or.inl (by decide), hps113.2.1, hps113.2.2⟩ | omega⟩
          ·
            refine z_goto X (t := 78) rfl rfl (z_const X rfl ?_)
            exact w_iret X.1 q hRt (nar_ret (by first | exact Or.inl (by decide) | omega)) (ax_d X (show cdA 71 79 = some (.ireturn, 1, 0, 0, 0) from rfl)) (Nat.zero_le _) (Nat.zero_le _) ⟨_, rfl, Is104, Gs104, 0, rfl, (by decide), by first | exact ⟨Or.inl (by decide), oq_4e2d8064 g79 g10, oq_4e2d8064 g79 g10⟩ | omega⟩
      ·
        refine z_aload_n X (x := A 19) rfl (List.Mem.tail _ (List.Mem.head _)) (s_getR X 19 rfl (c518_ok rfl) rfl rfl (z_const X rfl (zcV_i0 X E 1 (As := [.int (Int32.ofInt 3)]) (st := []) rfl rfl rfl rfl (c10_refuse_1 G Is69 (by first | exact ⟨by decide, by decide⟩ | omega)) rfl (Nat.le_of_ble_eq_true rfl) (fun s128 e129 Is128 Fs128 hrs128 hps128 => ?_))))
        have Gs128 := fm_tq Gs69 Fs128 rfl rfl
        have ws128_2 : iI s128 2 = iI s69 2 := fm_iq Fs128 rfl
        have ws128_1 : iI s128 1 = iI s69 1 := fm_iq Fs128 rfl
        have ws128_4 : iI s128 4 = iI s69 4 := fm_iq Fs128 rfl
        have ws128_5 : iI s128 5 = iI s69 5 := fm_iq Fs128 rfl
        have ws128_6 : iI s128 6 = iI s69 6 := fm_iq Fs128 rfl
        have ws128_19 : iI s128 19 = iI s69 19 := fm_iq Fs128 rfl
        have ws128_16 : iI s128 16 = iI s69 16 := fm_iq Fs128 rfl
        exact w_iret X.1 q hRt (nar_ret (by first | exact Or.inl (hps128) | omega)) (ax_d X (show cdA 71 49 = some (.ireturn, 1, 0, 0, 0) from rfl)) (Nat.zero_le _) (Nat.zero_le _) ⟨_, rfl, Is128, Gs128, e129, rfl, hrs128, by first | exact ⟨Or.inl (hps128), oq_72ebe5a4 ws128_1 ws128_2 ws69_1 ws69_2 ws8_1 ws8_2 p1, oq_7f1a346e ws128_4 ws128_2 ws69_4 ws69_2 ws8_4 ws8_2 p2⟩ | omega⟩
    ·
      refine z_aload_n X (x := A 19) rfl (List.Mem.tail _ (List.Mem.head _)) (s_getR X 19 rfl (c518_ok rfl) rfl rfl (z_const X rfl (zcV_i0 X E 1 (As := [.int (Int32.ofInt 1)]) (st := []) rfl rfl rfl rfl (c10_refuse_1 G Is69 (by first | exact ⟨by decide, by decide⟩ | omega)) rfl (Nat.le_of_ble_eq_true rfl) (fun s130 e131 Is130 Fs130 hrs130 hps130 => ?_))))
      have Gs130 := fm_tq Gs69 Fs130 rfl rfl
      have ws130_2 : iI s130 2 = iI s69 2 := fm_iq Fs130 rfl
      have ws130_1 : iI s130 1 = iI s69 1 := fm_iq Fs130 rfl
      have ws130_4 : iI s130 4 = iI s69 4 := fm_iq Fs130 rfl
      have ws130_5 : iI s130 5 = iI s69 5 := fm_iq Fs130 rfl
      have ws130_6 : iI s130 6 = iI s69 6 := fm_iq Fs130 rfl
      have ws130_19 : iI s130 19 = iI s69 19 := fm_iq Fs130 rfl
      have ws130_16 : iI s130 16 = iI s69 16 := fm_iq Fs130 rfl
      exact w_iret X.1 q hRt (nar_ret (by first | exact Or.inl (hps130) | omega)) (ax_d X (show cdA 71 34 = some (.ireturn, 1, 0, 0, 0) from rfl)) (Nat.zero_le _) (Nat.zero_le _) ⟨_, rfl, Is130, Gs130, e131, rfl, hrs130, by first | exact ⟨Or.inl (hps130), oq_72ebe5a4 ws130_1 ws130_2 ws69_1 ws69_2 ws8_1 ws8_2 p1, oq_7f1a346e ws130_4 ws130_2 ws69_4 ws69_2 ws8_4 ws8_2 p2⟩ | omega⟩
end M85
