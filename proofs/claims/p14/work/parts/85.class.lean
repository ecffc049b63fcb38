theorem oq_31bdcab7 {a0 a1 a2 a3 a4 a5 a6 a7 a8 a9 a10 a11 : Int} (h0 : a0 = a1) (h1 : a2 = a3) (h2 : a1 = a4) (h3 : a3 = a5) (h4 : a4 = a6) (h5 : a5 = a7) (h6 : a6 = a8) (h7 : a7 = a9) (h8 : a8 = a10) (h9 : a9 = a11) (h10 : a10 ≤ a11) : a0 ≤ a2 := by omega
theorem oq_671a0eb2 {a0 a1 a2 a3 a4 a5 a6 a7 a8 a9 a10 a11 a12 a13 : Int} (h0 : a0 = a1) (h1 : a2 = a3) (h2 : a1 = a4) (h3 : a3 = a5) (h4 : a4 = a6) (h5 : a5 = a7) (h6 : a6 = a8) (h7 : a7 = a9) (h8 : a8 = a10) (h9 : a9 = a11) (h10 : a10 = a12) (h11 : a11 = a13) (h12 : a12 ≤ a13) : a0 ≤ a2 := by omega
theorem oq_e494e03c : 7 + 1 ≤ (12 + (4 * (0))) := by omega
theorem oq_635cae36 : 8 + (1 + 11) + 121 ≤ (500 + 45 * (4 * (0))) := by omega
theorem oq_f7912654 : 8 + 1 ≤ (12 + (4 * (0))) := by omega
theorem oq_8994f6bd : 8 + (1 + 11) + 143 ≤ (500 + 45 * (4 * (0))) := by omega
theorem oq_812388c8 : 8 + (2 + 11) + 122 ≤ (500 + 45 * (4 * (0))) := by omega
theorem oq_e86a2d6a (r : Nat) : 7 + 1 ≤ (12 + (4 * (r + 1))) := by omega
theorem oq_9756868e (r : Nat) : 8 + (1 + 11) + 121 ≤ (500 + 45 * (4 * (r + 1))) := by omega
theorem oq_b3b61940 (r : Nat) : 8 + 1 ≤ (12 + (4 * (r + 1))) := by omega
theorem oq_5e0a067b (r : Nat) : 8 + (1 + 11) + 143 ≤ (500 + 45 * (4 * (r + 1))) := by omega
theorem oq_cba25b15 (r : Nat) : (12 + (4 * (r) + 3)) + 1 ≤ (12 + (4 * (r + 1))) := by omega
theorem oq_42f07b36 (r : Nat) : 8 + (3 + 11) + (500 + 45 * (4 * (r) + 3)) ≤ (500 + 45 * (4 * (r + 1))) := by omega
theorem oq_035df8d4 (r : Nat) : 8 + (2 + 11) + 143 ≤ (500 + 45 * (4 * (r + 1))) := by omega
theorem oq_a9606c0d {a0 : Int} (h0 : a0 ≤ 6) : (a0 - 1) ≤ 6 := by omega
theorem oq_c97dc902 (r : Nat) : 6 + 1 ≤ (12 + (4 * (r + 1))) := by omega
theorem oq_b200f69d (r : Nat) : 8 + (2 + 11) + 100 ≤ (500 + 45 * (4 * (r + 1))) := by omega
theorem oq_8aa95fcd (r : Nat) : 8 + (2 + 11) + 122 ≤ (500 + 45 * (4 * (r + 1))) := by omega
theorem oq_598d2d56 : 11 + 1 ≤ (12 + (4 * (0) + 1)) := by omega
theorem oq_8d6a3487 : 8 + (3 + 11) + 206 ≤ (500 + 45 * (4 * (0) + 1)) := by omega
theorem oq_064f000d {a0 a1 a2 : Int} (h0 : a0 = a1) (h1 : a1 = a2) (h2 : (6 - a2) ≤ ((0 : Nat) : Int)) : (6 - a0) ≤ ((0 : Nat) : Int) := by omega
theorem oq_46bc030d : (12 + (4 * (0))) + 1 ≤ (12 + (4 * (0) + 1)) := by omega
theorem oq_1283f125 : 8 + (2 + 11) + (500 + 45 * (4 * (0))) ≤ (500 + 45 * (4 * (0) + 1)) := by omega
theorem oq_0306f201 : 12 + 1 ≤ (12 + (4 * (0) + 1)) := by omega
theorem oq_d926b11d : 8 + (1 + 11) + 228 ≤ (500 + 45 * (4 * (0) + 1)) := by omega
theorem oq_57ddffaa : 6 + 1 ≤ (12 + (4 * (0) + 1)) := by omega
theorem oq_9971bdcd : 8 + (2 + 11) + 100 ≤ (500 + 45 * (4 * (0) + 1)) := by omega
theorem oq_25674cec {a0 a1 a2 a3 a4 a5 a6 a7 a8 a9 : Int} (h0 : a0 = a1) (h1 : a2 = a3) (h2 : a1 = a4) (h3 : a3 = a5) (h4 : a4 = a6) (h5 : a5 = a7) (h6 : a6 = a8) (h7 : a7 = a9) (h8 : a9 ≤ a8) : a2 ≤ a0 := by omega
theorem oq_547cef8b : 7 + 1 ≤ (12 + (4 * (0) + 1)) := by omega
theorem oq_0392e5c6 : 8 + (1 + 11) + 121 ≤ (500 + 45 * (4 * (0) + 1)) := by omega
theorem oq_06c7c12d : 8 + (2 + 11) + 122 ≤ (500 + 45 * (4 * (0) + 1)) := by omega
theorem oq_21fef13e {a0 a1 a2 a3 : Int} (h0 : a0 = a1) (h1 : a1 = a2) (h2 : a2 = a3) (h3 : (6 - a3) ≤ ((0 : Nat) : Int)) : (6 - a0) ≤ ((0 : Nat) : Int) := by omega
theorem oq_a933ac9a : 8 + 1 ≤ (12 + (4 * (0) + 1)) := by omega
theorem oq_36a13c53 : 8 + (1 + 11) + 143 ≤ (500 + 45 * (4 * (0) + 1)) := by omega
theorem oq_21805ac9 (r : Nat) : 11 + 1 ≤ (12 + (4 * (r + 1) + 1)) := by omega
theorem oq_1a54e9c9 (r : Nat) : 8 + (3 + 11) + 206 ≤ (500 + 45 * (4 * (r + 1) + 1)) := by omega
theorem oq_94b38e3b {a0 a2 a3 : Int} {n1 : Nat} (h0 : (6 - a0) ≤ (((n1 + 1) : Nat) : Int)) (h1 : a2 = a3) (h2 : a3 = a0) : (6 - a2) ≤ (((n1 + 1) : Nat) : Int) := by omega
theorem oq_183d1057 (r : Nat) : (12 + (4 * (r + 1))) + 1 ≤ (12 + (4 * (r + 1) + 1)) := by omega
theorem oq_ce6206a2 (r : Nat) : 8 + (2 + 11) + (500 + 45 * (4 * (r + 1))) ≤ (500 + 45 * (4 * (r + 1) + 1)) := by omega
theorem oq_e4de711e (r : Nat) : 12 + 1 ≤ (12 + (4 * (r + 1) + 1)) := by omega
theorem oq_afe52482 (r : Nat) : 8 + (1 + 11) + 228 ≤ (500 + 45 * (4 * (r + 1) + 1)) := by omega
theorem oq_76ff689a (r : Nat) : 6 + 1 ≤ (12 + (4 * (r + 1) + 1)) := by omega
theorem oq_0822d50d (r : Nat) : 8 + (2 + 11) + 100 ≤ (500 + 45 * (4 * (r + 1) + 1)) := by omega
theorem oq_9b435bb4 (r : Nat) : 7 + 1 ≤ (12 + (4 * (r + 1) + 1)) := by omega
theorem oq_f85a7cd7 (r : Nat) : 8 + (1 + 11) + 121 ≤ (500 + 45 * (4 * (r + 1) + 1)) := by omega
theorem oq_1c2c1baf (r : Nat) : 8 + (2 + 11) + 122 ≤ (500 + 45 * (4 * (r + 1) + 1)) := by omega
theorem oq_3ee132da {a0 a2 a3 a4 : Int} {n1 : Nat} (h0 : (6 - a0) ≤ (((n1 + 1) : Nat) : Int)) (h1 : a2 = a3) (h2 : a4 = a0) (h3 : a3 = a4) : (6 - a2) ≤ (((n1 + 1) : Nat) : Int) := by omega
theorem oq_8e0cc864 (r : Nat) : 8 + 1 ≤ (12 + (4 * (r + 1) + 1)) := by omega
theorem oq_333da77b (r : Nat) : 8 + (1 + 11) + 143 ≤ (500 + 45 * (4 * (r + 1) + 1)) := by omega
theorem oq_40927492 (r : Nat) : (12 + (4 * (r) + 3)) + 1 ≤ (12 + (4 * (r + 1) + 1)) := by omega
theorem oq_c8d9c730 (r : Nat) : 8 + (3 + 11) + (500 + 45 * (4 * (r) + 3)) ≤ (500 + 45 * (4 * (r + 1) + 1)) := by omega
theorem oq_46451eae (r : Nat) : 8 + (2 + 11) + 143 ≤ (500 + 45 * (4 * (r + 1) + 1)) := by omega
theorem oq_4941a422 (r : Nat) : 7 + 1 ≤ (12 + (4 * (r) + 2)) := by omega
theorem oq_a823803b (r : Nat) : 8 + (1 + 11) + 121 ≤ (500 + 45 * (4 * (r) + 2)) := by omega
theorem oq_abe4e353 {a0 a2 a3 : Int} {n1 : Nat} (h0 : (6 - a0) ≤ ((n1 : Nat) : Int)) (h1 : a2 = a3) (h2 : a3 = a0) : (6 - a2) ≤ ((n1 : Nat) : Int) := by omega
theorem oq_dbb6b233 (r : Nat) : (12 + (4 * (r) + 1)) + 1 ≤ (12 + (4 * (r) + 2)) := by omega
theorem oq_0cecdb5e (r : Nat) : 8 + (2 + 11) + (500 + 45 * (4 * (r) + 1)) ≤ (500 + 45 * (4 * (r) + 2)) := by omega
theorem oq_b4ff86be {a0 : Int} (h0 : (-12) ≤ a0) : (-2147483648) ≤ a0 := by omega
theorem oq_8c06164c {a0 : Int} (h0 : a0 ≤ (-11)) : a0 ≤ 2147483647 := by omega
theorem oq_d8760254 (r : Nat) : 6 + 1 ≤ (12 + (4 * (r) + 2)) := by omega
theorem oq_29829ae4 (r : Nat) : 8 + (2 + 11) + 100 ≤ (500 + 45 * (4 * (r) + 2)) := by omega
theorem oq_1ab01402 {a0 : Int} (h0 : a0 < 200) : 0 < (200 - a0) := by omega
theorem oq_c7636a98 (r : Nat) : 7 + 1 ≤ (12 + (4 * (r) + 3)) := by omega
theorem oq_aba64d1b (r : Nat) : 8 + (1 + 11) + 121 ≤ (500 + 45 * (4 * (r) + 3)) := by omega
theorem oq_2e478062 (r : Nat) : (12 + (4 * (r) + 2)) + 1 ≤ (12 + (4 * (r) + 3)) := by omega
theorem oq_cdd7b804 (r : Nat) : 8 + (3 + 11) + (500 + 45 * (4 * (r) + 2)) ≤ (500 + 45 * (4 * (r) + 3)) := by omega
theorem oq_3d7a4679 {a0 : Int} (h0 : (-10) ≤ a0) : (-2147483648) ≤ a0 := by omega
theorem oq_8ddf7954 {a0 : Int} (h0 : a0 ≤ (-9)) : a0 ≤ 2147483647 := by omega
theorem oq_1fdce876 (r : Nat) : 6 + 1 ≤ (12 + (4 * (r) + 3)) := by omega
theorem oq_55a309dd (r : Nat) : 8 + (2 + 11) + 100 ≤ (500 + 45 * (4 * (r) + 3)) := by omega
theorem oq_f95a2bb1 : 11 + 1 ≤ (12 + (32 + 3 * (0))) := by omega
theorem oq_70624d19 : 8 + (3 + 11) + 206 ≤ (500 + 45 * (32 + 3 * (0))) := by omega
theorem oq_ba167e5f {a0 a1 : Int} (h0 : a0 = a1) (h1 : 0 ≤ a1) : (6 - a0) ≤ ((7 : Nat) : Int) := by omega
theorem oq_8943d30a : (12 + (4 * (7) + 3)) + 1 ≤ (12 + (32 + 3 * (0))) := by omega
theorem oq_a0b1cf65 : 8 + (3 + 11) + (500 + 45 * (4 * (7) + 3)) ≤ (500 + 45 * (32 + 3 * (0))) := by omega
theorem oq_98d05d0f : 7 + 1 ≤ (12 + (32 + 3 * (0))) := by omega
theorem oq_2a8149c4 : 8 + (1 + 11) + 121 ≤ (500 + 45 * (32 + 3 * (0))) := by omega
theorem oq_af2bf85e : 6 + 1 ≤ (12 + (32 + 3 * (0))) := by omega
theorem oq_72040bf2 : 8 + (2 + 11) + 100 ≤ (500 + 45 * (32 + 3 * (0))) := by omega
theorem oq_7c329781 : 8 + (2 + 11) + 122 ≤ (500 + 45 * (32 + 3 * (0))) := by omega
theorem oq_6e542e63 : 8 + 1 ≤ (12 + (32 + 3 * (0))) := by omega
theorem oq_72d660e0 : 8 + (1 + 11) + 143 ≤ (500 + 45 * (32 + 3 * (0))) := by omega
theorem oq_c9a3ea85 (r : Nat) : 11 + 1 ≤ (12 + (32 + 3 * (r + 1))) := by omega
theorem oq_5eb0540b (r : Nat) : 8 + (3 + 11) + 206 ≤ (500 + 45 * (32 + 3 * (r + 1))) := by omega
theorem oq_e0a8f0a0 (r : Nat) : (12 + (4 * (7) + 3)) + 1 ≤ (12 + (32 + 3 * (r + 1))) := by omega
theorem oq_eacdd764 (r : Nat) : 8 + (3 + 11) + (500 + 45 * (4 * (7) + 3)) ≤ (500 + 45 * (32 + 3 * (r + 1))) := by omega
theorem oq_36a63932 (r : Nat) : 7 + 1 ≤ (12 + (32 + 3 * (r + 1))) := by omega
theorem oq_ab0c04be (r : Nat) : 8 + (1 + 11) + 121 ≤ (500 + 45 * (32 + 3 * (r + 1))) := by omega
theorem oq_65b7d3a7 (r : Nat) : 6 + 1 ≤ (12 + (32 + 3 * (r + 1))) := by omega
theorem oq_bfe32ab2 (r : Nat) : 8 + (2 + 11) + 100 ≤ (500 + 45 * (32 + 3 * (r + 1))) := by omega
theorem oq_562d3263 (r : Nat) : 8 + (2 + 11) + 122 ≤ (500 + 45 * (32 + 3 * (r + 1))) := by omega
theorem oq_de5d5424 (r : Nat) : 8 + 1 ≤ (12 + (32 + 3 * (r + 1))) := by omega
theorem oq_8bb5ae4a (r : Nat) : 8 + (1 + 11) + 143 ≤ (500 + 45 * (32 + 3 * (r + 1))) := by omega
theorem oq_45eb8909 (r : Nat) : (12 + (32 + 3 * (r) + 2)) + 1 ≤ (12 + (32 + 3 * (r + 1))) := by omega
theorem oq_a5f4ad9d (r : Nat) : 8 + (2 + 11) + (500 + 45 * (32 + 3 * (r) + 2)) ≤ (500 + 45 * (32 + 3 * (r + 1))) := by omega
theorem oq_0961b7e0 (r : Nat) : 8 + (2 + 11) + 143 ≤ (500 + 45 * (32 + 3 * (r + 1))) := by omega
theorem oq_a51edb0d (r : Nat) : (12 + (32 + 3 * (r))) + 1 ≤ (12 + (32 + 3 * (r + 1))) := by omega
theorem oq_75be701f (r : Nat) : 8 + (2 + 11) + (500 + 45 * (32 + 3 * (r))) ≤ (500 + 45 * (32 + 3 * (r + 1))) := by omega
theorem oq_960124c6 (r : Nat) : 11 + 1 ≤ (12 + (32 + 3 * (r) + 1)) := by omega
theorem oq_7c76c90d (r : Nat) : 8 + (3 + 11) + 206 ≤ (500 + 45 * (32 + 3 * (r) + 1)) := by omega
theorem oq_7e7bafa7 (r : Nat) : 7 + 1 ≤ (12 + (32 + 3 * (r) + 1)) := by omega
theorem oq_f1058fdb (r : Nat) : 8 + (1 + 11) + 121 ≤ (500 + 45 * (32 + 3 * (r) + 1)) := by omega
theorem oq_f4f80c46 {a0 a2 a3 a4 : Int} {n1 : Nat} (h0 : (6 - a0) ≤ ((n1 : Nat) : Int)) (h1 : a2 = a3) (h2 : a4 = a0) (h3 : a3 = a4) : (6 - a2) ≤ ((n1 : Nat) : Int) := by omega
theorem oq_2290fc41 (r : Nat) : (12 + (32 + 3 * (r))) + 1 ≤ (12 + (32 + 3 * (r) + 1)) := by omega
theorem oq_ab38c8cf (r : Nat) : 8 + (2 + 11) + (500 + 45 * (32 + 3 * (r))) ≤ (500 + 45 * (32 + 3 * (r) + 1)) := by omega
theorem oq_b5194544 (r : Nat) : 6 + 1 ≤ (12 + (32 + 3 * (r) + 1)) := by omega
theorem oq_38be39c2 (r : Nat) : 8 + (2 + 11) + 100 ≤ (500 + 45 * (32 + 3 * (r) + 1)) := by omega
theorem oq_3b8c0a4a (r : Nat) : 11 + 1 ≤ (12 + (32 + 3 * (r) + 2)) := by omega
theorem oq_c9883230 (r : Nat) : 8 + (3 + 11) + 206 ≤ (500 + 45 * (32 + 3 * (r) + 2)) := by omega
theorem oq_9d2e9ef6 (r : Nat) : 7 + 1 ≤ (12 + (32 + 3 * (r) + 2)) := by omega
theorem oq_41985971 (r : Nat) : 8 + (1 + 11) + 121 ≤ (500 + 45 * (32 + 3 * (r) + 2)) := by omega
theorem oq_23399e95 (r : Nat) : (12 + (32 + 3 * (r) + 1)) + 1 ≤ (12 + (32 + 3 * (r) + 2)) := by omega
theorem oq_c23d4411 (r : Nat) : 8 + (2 + 11) + (500 + 45 * (32 + 3 * (r) + 1)) ≤ (500 + 45 * (32 + 3 * (r) + 2)) := by omega
theorem oq_bd1a6d33 (r : Nat) : 6 + 1 ≤ (12 + (32 + 3 * (r) + 2)) := by omega
theorem oq_1addf0d0 (r : Nat) : 8 + (2 + 11) + 100 ≤ (500 + 45 * (32 + 3 * (r) + 2)) := by omega
theorem oq_7d321bf4 {a0 a1 a2 : Int} (h0 : a0 = a1) (h1 : a1 = a2) (h2 : 0 ≤ a2) : (6 - a0) ≤ ((7 : Nat) : Int) := by omega
theorem oq_2af1bc43 : (12 + (32 + 3 * (7) + 2)) + 1 ≤ 68 := by omega
theorem oq_3d00aaab : 8 + (2 + 11) + (500 + 45 * (32 + 3 * (7) + 2)) ≤ 2996 := by omega
theorem oq_4cedc687 : (12 + (4 * (7) + 3)) + 1 ≤ 68 := by omega
theorem oq_b0ed7f34 : 8 + (3 + 11) + (500 + 45 * (4 * (7) + 3)) ≤ 2996 := by omega
theorem oq_f6b99f75 {a0 a1 a2 a3 : Int} (h0 : a0 = a1) (h1 : a1 = a2) (h2 : a2 = a3) (h3 : 0 ≤ a3) : (6 - a0) ≤ ((7 : Nat) : Int) := by omega
/-! The class: rules, their reading -/
section M85
variable {l : Launch} {s0 : State} {D : va_G} {tys : List (ClassId × FieldType)} {a0 : Array Value} {A : Nat → Nat} {dT : Nat → ClassId} {s : PS}
end M85
