section

theorem oq_b0a25e76 {a0 : Int} {n1 : Nat} (h0 : a0 < 12) (h1 : ((12 - a0) : Int).toNat < (n1 + 1)) : ((12 - (a0 + 1)) : Int).toNat < n1 := by omega
theorem oq_fa711800 {a0 a1 : Int} (h0 : a0 = a1) : a1 ≤ a0 := by omega
theorem oq_70ab2152  : (400 : Int) ≠ 401 := by omega
theorem oq_915b83e3 {a0 a1 a2 a3 : Int} (h0 : a0 = a1) (h1 : a1 = a2) (h2 : a3 < a2) : (a3 + 1) ≤ a0 := by omega
theorem oq_993ab92a {a0 a1 a2 a3 a4 a5 : Int} {n6 : Nat} (h0 : a0 = a1) (h1 : a1 = a2) (h2 : a2 = a3) (h3 : a4 = a5) (h4 : (a3 - a5) ≤ (((n6 + 1) : Nat) : Int)) : (a0 - (a4 + 1)) ≤ ((n6 : Nat) : Int) := by omega
theorem oq_8af9d5df {a0 : Int} (h0 : a0 ≠ 0) (h1 : 0 ≤ a0) : 0 ≤ (a0 - 1) := by omega
theorem oq_34d72ec6 {a0 : Int}  : a0 ≤ (a0 + 1) := by omega
theorem oq_528b6ecd {a0 : Int} {n1 : Nat} (h0 : a0 = 3) (h1 : ((4 - a0) : Int).toNat < (n1 + 1)) : ((4 - (a0 + 1)) : Int).toNat < n1 := by omega
theorem oq_1ce9cec5 {a0 : Int} {n1 : Nat} (h0 : a0 = 2) (h1 : ((4 - a0) : Int).toNat < (n1 + 1)) : ((4 - (a0 + 1)) : Int).toNat < n1 := by omega
theorem oq_97ed07f4 {a0 : Int} {n1 : Nat} (h0 : a0 = 1) (h1 : ((4 - a0) : Int).toNat < (n1 + 1)) : ((4 - (a0 + 1)) : Int).toNat < n1 := by omega
theorem oq_64407c64 {a0 a1 : Int} (h0 : a0 ≠ a1) (h1 : a0 ≤ a1) : a0 < a1 := by omega
theorem oq_a200df08  : (1 : Int) ≤ 1 := by omega
theorem oq_1ba481cb  : (1 : Int) ≤ 4 := by omega
theorem oq_4b66d71f {a0 a1 a2 a3 a4 : Int} (h0 : a0 = a1) (h1 : a1 = a2) (h2 : a3 < a4) (h3 : a4 ≤ 12) (h4 : a2 ≤ a3) : a0 ≤ 11 := by omega
theorem oq_d8ec3725 {a0 a1 : Int} (h0 : a0 = 0) (h1 : ((1 : Int) = 1 → a0 = 1)) : a1 ≤ 11 := by omega
theorem oq_a8ea036d {a0 : Int} (h0 : a0 ≤ 8) : (a0 - 0) ≤ ((8 : Nat) : Int) := by omega
theorem oq_625ee044 {n0 : Nat}  : (¬ (((n0 : Nat) : Int) < 0)) := by omega
theorem oq_b0440922 {a0 a1 : Int} (h0 : a0 ≠ 0) (h1 : ((a0 = 1 ∧ (0 ≤ a1 ∧ a1 ≤ 8)) ∨ (a0 = 0 ∧ (a1 < 0 ∨ 8 < a1)))) : 0 ≤ a1 := by omega
theorem oq_19fd0803 {a0 a1 : Int} (h0 : a0 ≠ 0) (h1 : ((a0 = 1 ∧ (0 ≤ a1 ∧ a1 ≤ 8)) ∨ (a0 = 0 ∧ (a1 < 0 ∨ 8 < a1)))) : a1 ≤ 8 := by omega
theorem oq_2b000581 {a0 a1 a2 a3 : Int} (h0 : a0 = 0) (h1 : (a1 = 1 → a0 = 1)) (h2 : a1 ≤ 1) (h3 : ((a2 ≠ 0 ∧ a1 = 0) ∨ (a2 = 0 ∧ a1 = 1))) (h4 : ((a2 = 1 ∧ ((-2) ≤ a3 ∧ a3 ≤ 11)) ∨ (a2 = 0 ∧ (a3 < (-2) ∨ 11 < a3)))) : (-2) ≤ a3 := by omega
theorem oq_f15cde76 {a0 a1 a2 a3 : Int} (h0 : a0 = 0) (h1 : (a1 = 1 → a0 = 1)) (h2 : a1 ≤ 1) (h3 : ((a2 ≠ 0 ∧ a1 = 0) ∨ (a2 = 0 ∧ a1 = 1))) (h4 : ((a2 = 1 ∧ ((-2) ≤ a3 ∧ a3 ≤ 11)) ∨ (a2 = 0 ∧ (a3 < (-2) ∨ 11 < a3)))) : a3 ≤ 11 := by omega

theorem oq_d855cead {a0 : Int} (h0 : a0 < 12) : (a0 : Int).toNat < 12 := by omega
theorem oq_6a25a379 {a0 : Int} (h0 : a0 < 12) : (a0 + 1) ≤ 12 := by omega
theorem oq_ab2484cf {a0 : Int} (h0 : a0 < 12) : 0 < (12 - a0) := by omega
theorem oq_39d2cc6e {a0 a1 : Int} (h0 : a0 ≤ a1) (h1 : a1 ≤ 12) : a0 ≤ 2147483647 := by omega
theorem oq_a4cf3503 : 10 + 1 ≤ (12 + (52 + (0))) := by omega
theorem oq_4290aa94 : 8 + (5 + 11) + 189 ≤ (500 + 45 * (52 + (0))) := by omega
theorem oq_d960365c : 37 + 1 ≤ (12 + (52 + (0))) := by omega
theorem oq_e5119b40 : 8 + (2 + 11) + 1578 ≤ (500 + 45 * (52 + (0))) := by omega
theorem oq_f46e1d28 {a0 : Int} (h0 : a0 < 4) : a0 ≤ 2147483647 := by omega
theorem oq_07dfda71 {a0 : Int} (h0 : a0 = 3) : 0 ≤ a0 := by omega
theorem oq_abfb379f {a0 : Int} (h0 : a0 = 3) : a0 ≤ 3 := by omega
theorem oq_5e17cb06 {a0 : Int} (h0 : a0 = 3) : (-2147483648) ≤ a0 := by omega
theorem oq_ebfd4642 {a0 : Int} (h0 : a0 = 3) : a0 ≤ 2147483647 := by omega
theorem oq_edd5f4e9 (r : Nat) : 8 + 1 ≤ (12 + (52 + (r + 1))) := by omega
theorem oq_2709c6fe (r : Nat) : 8 + (5 + 11) + 146 ≤ (500 + 45 * (52 + (r + 1))) := by omega
theorem oq_c0bca489 {a0 a1 a2 a3 a4 : Int} (h0 : a0 = a1) (h1 : a2 = a3) (h2 : a1 = a4) (h3 : a2 < a4) : a3 ≤ a0 := by omega
theorem oq_c268f935 (r : Nat) : (12 + (52 + (r))) + 1 ≤ (12 + (52 + (r + 1))) := by omega
theorem oq_488e467a (r : Nat) : 8 + (8 + 11) + (500 + 45 * (52 + (r))) ≤ (500 + 45 * (52 + (r + 1))) := by omega
theorem oq_e14d47df {a0 a1 a2 a3 : Int} (h0 : a0 = a1) (h1 : a1 = a2) (h2 : a2 = a3) (h3 : a3 ≤ 8) : a0 ≤ 8 := by omega
theorem oq_a7ea1abf {a0 a1 a2 a3 a4 : Int} (h0 : a0 = a1) (h1 : a2 < a3) (h2 : a1 = a4) (h3 : a4 = a3) : a2 < a0 := by omega
theorem oq_3a799802 {a0 a1 a2 a3 a4 : Int} (h0 : a0 = a1) (h1 : a1 = a2) (h2 : a2 = a3) (h3 : a4 = a3) : a4 = a0 := by omega
theorem oq_25f0e837 {a0 : Int} (h0 : a0 = 3) : 1 ≤ (a0 + 1) := by omega
theorem oq_a93cab5a {a0 : Int} (h0 : a0 = 3) : (a0 + 1) ≤ 4 := by omega
theorem oq_7ba9b3ae {a0 : Int} (h0 : a0 = 3) : 0 < (4 - a0) := by omega
theorem oq_af66aac3 {a0 : Int} (h0 : a0 = 2) : 1 ≤ (a0 + 1) := by omega
theorem oq_8a625f99 {a0 : Int} (h0 : a0 = 2) : (a0 + 1) ≤ 4 := by omega
theorem oq_07728ffc {a0 : Int} (h0 : a0 = 2) : 0 < (4 - a0) := by omega
theorem oq_2cfdb1ef {a0 : Int} (h0 : a0 = 2) : (-2147483648) ≤ a0 := by omega
theorem oq_9e96a037 {a0 : Int} (h0 : a0 = 2) : a0 ≤ 2147483647 := by omega
theorem oq_d3dec1fc {a0 : Int} (h0 : a0 = 2) : 0 ≤ a0 := by omega
theorem oq_783454c6 {a0 : Int} (h0 : a0 = 2) : a0 ≤ 3 := by omega
theorem oq_82935c17 {a0 : Int} (h0 : a0 = 1) : 1 ≤ (a0 + 1) := by omega
theorem oq_0a5951b8 {a0 : Int} (h0 : a0 = 1) : (a0 + 1) ≤ 4 := by omega
theorem oq_6b61a495 {a0 : Int} (h0 : a0 = 1) : 0 < (4 - a0) := by omega
theorem oq_c4d5fd5b {a0 : Int} (h0 : a0 = 1) : (-2147483648) ≤ a0 := by omega
theorem oq_9b80f9a5 {a0 : Int} (h0 : a0 = 1) : a0 ≤ 2147483647 := by omega
theorem oq_a1cdbcd8 {a0 : Int} (h0 : a0 = 1) : 0 ≤ a0 := by omega
theorem oq_c7e375ff {a0 : Int} (h0 : a0 = 1) : a0 ≤ 3 := by omega
theorem oq_1fa780f7 {a0 a1 : Int} (h0 : a0 ≠ a1) (h1 : a1 ≤ 8) (h2 : a0 ≤ a1) : a0 < 8 := by omega
theorem oq_54c6e91f {a0 a1 : Int} (h0 : a0 ≠ a1) (h1 : a1 ≤ 8) (h2 : a0 ≤ a1) : (a0 : Int).toNat < 8 := by omega
theorem oq_04dc1188 (r : Nat) : 10 + 1 ≤ (12 + (52 + (r + 1))) := by omega
theorem oq_bb8002ac (r : Nat) : 8 + (5 + 11) + 189 ≤ (500 + 45 * (52 + (r + 1))) := by omega
theorem oq_35b456ef (r : Nat) : 37 + 1 ≤ (12 + (52 + (r + 1))) := by omega
theorem oq_14bb5664 (r : Nat) : 8 + (2 + 11) + 1578 ≤ (500 + 45 * (52 + (r + 1))) := by omega
theorem oq_1fea0193 {a0 a1 a2 a3 a4 : Int} (h0 : a0 = a1) (h1 : a1 = a2) (h2 : a2 ≤ a3) (h3 : a3 < a4) (h4 : a4 ≤ 12) : (a0 + 1) ≤ 12 := by omega
theorem oq_11bbe77e {a0 a1 a2 a3 a4 : Int} (h0 : a0 = a1) (h1 : a2 < a3) (h2 : a1 = a4) (h3 : a4 = a3) : (a2 + 1) ≤ a0 := by omega
theorem oq_9004941c {a0 a1 a2 a3 a4 : Int} (h0 : a0 = (a1 + 1)) (h1 : a2 ≤ a3) (h2 : a4 = a2) (h3 : a1 = a4) : a0 ≤ (a3 + 1) := by omega
theorem oq_8be37138 {a0 a1 : Int} (h0 : a0 < a1) (h1 : a1 ≤ 12) : a0 ≤ 2147483647 := by omega
theorem oq_8860b8cf {a0 a1 : Int} (h0 : a0 = a1) (h1 : a1 < 8) : (a0 + 1) ≤ 12 := by omega
theorem oq_8b75b474 {a0 a1 a2 a3 a4 a5 : Int} (h0 : a0 = a1) (h1 : a2 < a3) (h2 : a1 = a4) (h3 : a4 = a5) (h4 : a5 = a3) : (a2 + 1) ≤ a0 := by omega
theorem oq_c76b92bc {a0 a1 a2 a3 a4 a5 : Int} (h0 : a0 = (a1 + 1)) (h1 : a2 ≤ a3) (h2 : a4 = a2) (h3 : a5 = a4) (h4 : a1 = a5) : a0 ≤ (a3 + 1) := by omega
theorem oq_adbdfad6 {a0 a1 a2 a3 : Int} (h0 : a0 = a1) (h1 : a2 < a3) (h2 : a1 = a3) : (a2 + 1) ≤ a0 := by omega
theorem oq_2e1f687c {a0 a1 a2 a3 : Int} (h0 : a0 = a1) (h1 : a2 ≤ a3) (h2 : a1 = a2) : a0 ≤ (a3 + 1) := by omega
theorem oq_44ffe16c {a0 a1 : Int} (h0 : a0 = 0) (h1 : (1 = 1 → a0 = 1)) : (0 ≤ a1 ∧ a1 ≤ 8) := by omega
theorem oq_c67385d4 {a0 a1 : Int} (h0 : a0 = 0) (h1 : (1 = 1 → a0 = 1)) : ((-2) ≤ a1 ∧ a1 ≤ 11) := by omega
theorem oq_ea8cf281 {a0 a1 a2 a3 a4 : Int} (h0 : a0 = a1) (h1 : a1 = a2) (h2 : a2 = a3) (h3 : a3 = a4) (h4 : 0 ≤ a4) : 0 ≤ a0 := by omega
theorem oq_1af0b4f8 {a0 : Int} (h0 : a0 = 0) : a0 ≤ 0 := by omega
theorem oq_27cc0e73 {a0 a1 a2 : Int} (h0 : 0 ≤ a0) (h1 : a1 ≤ 23) (h2 : a2 = 0) (h3 : ((a2 = 1 ∧ (0 ≤ a1 ∧ a1 ≤ 23)) ∨ (a2 = 0 ∧ (a1 < 0 ∨ 23 < a1)))) : a1 ≤ a0 := by omega
theorem oq_4f828635 {a0 a1 : Int} (h0 : a0 ≤ 8) (h1 : 0 ≤ a1) : (a0 - a1) ≤ ((8 : Nat) : Int) := by omega
theorem oq_e30b7fd1 {a0 : Int} (h0 : a0 ≤ 8) : a0 ≤ 23 := by omega
theorem oq_b9c978bd {a0 a1 a2 : Int} (h0 : a0 ≤ 23) (h1 : 0 ≤ a0) (h2 : a1 = 0) (h3 : ((a1 = 1 ∧ (0 ≤ a0 ∧ a0 ≤ 23)) ∨ (a1 = 0 ∧ (a0 < 0 ∨ 23 < a0)))) : 0 ≤ a2 := by omega
theorem oq_9cb6df99 {a0 a1 a2 : Int} (h0 : a0 ≤ 23) (h1 : 0 ≤ a0) (h2 : a1 = 0) (h3 : ((a1 = 1 ∧ (0 ≤ a0 ∧ a0 ≤ 23)) ∨ (a1 = 0 ∧ (a0 < 0 ∨ 23 < a0)))) : a2 ≤ 8 := by omega
theorem oq_f9dcde3f {a0 a1 a2 : Int} (h0 : a0 ≤ 23) (h1 : 0 ≤ a0) (h2 : a1 = 0) (h3 : ((a1 = 1 ∧ (0 ≤ a0 ∧ a0 ≤ 23)) ∨ (a1 = 0 ∧ (a0 < 0 ∨ 23 < a0)))) : (-2147483648) ≤ a2 := by omega
theorem oq_94559544 {a0 a1 a2 : Int} (h0 : a0 ≤ 23) (h1 : 0 ≤ a0) (h2 : a1 = 0) (h3 : ((a1 = 1 ∧ (0 ≤ a0 ∧ a0 ≤ 23)) ∨ (a1 = 0 ∧ (a0 < 0 ∨ 23 < a0)))) : a2 ≤ 2147483647 := by omega
theorem oq_26188e76 : 72 + 1 ≤ 73 := by omega
theorem oq_e592698d : 8 + (8 + 11) + 3200 ≤ 3227 := by omega
theorem oq_33feeab9 {a0 : Int} (h0 : a0 ≠ (-1)) (h1 : (-2) ≤ a0) (h2 : a0 ≠ (-2)) : 0 ≤ a0 := by omega
theorem oq_d58199b3 {a0 a1 a2 a3 a4 a5 : Int} (h0 : a0 = a1) (h1 : a1 = a2) (h2 : a2 = a3) (h3 : a3 = a4) (h4 : a4 = a5) (h5 : 0 ≤ a5) : 0 ≤ a0 := by omega
theorem oq_dc2a904e {a0 a1 a2 a3 : Int} (h0 : a0 ≤ 8) (h1 : 0 ≤ a0) (h2 : a1 = 0) (h3 : ((a1 = 1 ∧ (0 ≤ a0 ∧ a0 ≤ 8)) ∨ (a1 = 0 ∧ (a0 < 0 ∨ 8 < a0)))) : a2 ≤ a3 := by omega
theorem oq_fbad3c2b {a0 a1 a2 : Int} (h0 : a0 ≤ 8) (h1 : 0 ≤ a0) (h2 : a1 = 0) (h3 : ((a1 = 1 ∧ (0 ≤ a0 ∧ a0 ≤ 8)) ∨ (a1 = 0 ∧ (a0 < 0 ∨ 8 < a0)))) : 0 ≤ a2 := by omega
theorem oq_25c180d3 {a0 a1 a2 : Int} (h0 : a0 ≤ 8) (h1 : 0 ≤ a0) (h2 : a1 = 0) (h3 : ((a1 = 1 ∧ (0 ≤ a0 ∧ a0 ≤ 8)) ∨ (a1 = 0 ∧ (a0 < 0 ∨ 8 < a0)))) : a2 ≤ 8 := by omega
theorem oq_04224e01 {a0 a1 a2 : Int} (h0 : a0 ≤ 8) (h1 : 0 ≤ a0) (h2 : a1 = 0) (h3 : ((a1 = 1 ∧ (0 ≤ a0 ∧ a0 ≤ 8)) ∨ (a1 = 0 ∧ (a0 < 0 ∨ 8 < a0)))) : (-2147483648) ≤ a2 := by omega
theorem oq_ec1d816e {a0 a1 a2 : Int} (h0 : a0 ≤ 8) (h1 : 0 ≤ a0) (h2 : a1 = 0) (h3 : ((a1 = 1 ∧ (0 ≤ a0 ∧ a0 ≤ 8)) ∨ (a1 = 0 ∧ (a0 < 0 ∨ 8 < a0)))) : a2 ≤ 2147483647 := by omega
theorem oq_5933ef41 {a0 a1 : Int} (h0 : a0 ≠ 0) (h1 : ((a0 = 1 ∧ (0 ≤ a1 ∧ a1 ≤ 8)) ∨ (a0 = 0 ∧ (a1 < 0 ∨ 8 < a1)))) : (0 ≤ a1 ∧ a1 ≤ 8) := by omega
theorem oq_3b16b112 {a0 a1 a2 a3 a4 a5 a6 : Int} (h0 : a0 = a1) (h1 : a1 = a2) (h2 : a2 = a3) (h3 : a3 = a4) (h4 : a4 = a5) (h5 : a5 = a6) (h6 : 0 ≤ a6) : 0 ≤ a0 := by omega
theorem oq_4a7a6edd {a0 a1 a2 a3 a4 a5 a6 a7 : Int} (h0 : a0 = a1) (h1 : a1 = a2) (h2 : a2 = a3) (h3 : a3 = a4) (h4 : a4 = a5) (h5 : a5 = a6) (h6 : a6 = a7) (h7 : 0 ≤ a7) : 0 ≤ a0 := by omega
theorem oq_d6ef1792 {a0 a1 a2 a3 a4 : Int} (h0 : ((a0 ≠ (-1) ∧ (a1 ≠ (-1) ∧ ((0 ≤ a2 ∧ a2 ≤ 12) ∧ (a2 ≤ a1 ∧ a3 = 0)))) ∨ ((a0 ≠ (-1) ∧ (a1 ≠ (-1) ∧ ((0 ≤ a2 ∧ a2 ≤ 12) ∧ (a1 < a2 ∧ ((0 ≤ a4 ∧ a4 ≤ 3) ∧ a3 = a4))))) ∨ ((a0 ≠ (-1) ∧ (a1 = (-1) ∧ (((-2147483648) ≤ a0 ∧ a0 ≤ 2147483647) ∧ a3 = a0))) ∨ (a0 = (-1) ∧ a3 = (-1)))))) (h1 : (-2147483648) ≤ a0) : (-2147483648) ≤ a3 := by omega
theorem oq_22323eb0 {a0 a1 a2 a3 a4 : Int} (h0 : ((a0 ≠ (-1) ∧ (a1 ≠ (-1) ∧ ((0 ≤ a2 ∧ a2 ≤ 12) ∧ (a2 ≤ a1 ∧ a3 = 0)))) ∨ ((a0 ≠ (-1) ∧ (a1 ≠ (-1) ∧ ((0 ≤ a2 ∧ a2 ≤ 12) ∧ (a1 < a2 ∧ ((0 ≤ a4 ∧ a4 ≤ 3) ∧ a3 = a4))))) ∨ ((a0 ≠ (-1) ∧ (a1 = (-1) ∧ (((-2147483648) ≤ a0 ∧ a0 ≤ 2147483647) ∧ a3 = a0))) ∨ (a0 = (-1) ∧ a3 = (-1)))))) (h1 : a0 ≤ 2147483647) : a3 ≤ 2147483647 := by omega
/-! The model: mends -/
section M64
variable {l : Launch} {s0 : State} {D : va_G} {tys : List (ClassId × FieldType)} {a0 : Array Value} {A : Nat → Nat} {dT : Nat → ClassId} {s : PS}
set_option maxRecDepth 4000 in
theorem k_go0 (G : GX l s0 D tys a0 dT) (I : Bd s) (jRLx : RLx s) (jHX : HX s) {x y z w u : Int} (p0 : 0 ≤ x ∧ x ≤ iI s 105) (p1 : iI s 105 - x ≤ ((0 : Nat) : Int)) (p2 : iI s 105 ≤ 8) (p3 : 0 ≤ y ∧ y ≤ 23) (p4 : 0 ≤ z ∧ z ≤ 8) (p5 : 0 ≤ w ∧ w ≤ 8) (p6 : rng u) (p7 : HMk x s) : CT l s0 D A dT 285 (rkR (52 + (0))) [.ref (A 179), .int (Int32.ofInt x), .int (Int32.ofInt y), .int (Int32.ofInt z), .int (Int32.ofInt w), .int (Int32.ofInt u)] s (fun o t => Bd t ∧ Fm [77, 75, 78, 79, 80, 81, 106] [202, 204, 205, 206, 207, 208, 209, 210, 211, 212, 213, 214, 215, 216, 217, 218, 219, 220, 221, 222, 223, 224, 225, 226, 227, 203, 161, 230, 401, 402] s t ∧ RLx t ∧ HX t ∧ o = .inl none ∧ (HMk x t)) := by
  refine ct_of G (by decide) (Nat.le_of_ble_eq_true rfl) (fun k X E hRt hXt q => ?_)
  show WS k 0 [(0, .ref (A 179)), (1, .int (Int32.ofInt x)), (2, .int (Int32.ofInt y)), (3, .int (Int32.ofInt z)), (4, .int (Int32.ofInt w)), (5, .int (Int32.ofInt u))] [] _ 0 0
  have F : Fm [77, 75, 78, 79, 80, 81, 106] [202, 204, 205, 206, 207, 208, 209, 210, 211, 212, 213, 214, 215, 216, 217, 218, 219, 220, 221, 222, 223, 224, 225, 226, 227, 203, 161, 230, 401, 402] s s := fm_rf _ _ s
  have b1 := bi_105 I
  have b2 := bi_106 I
  have L48 : ∀ (n : Nat) (t : PS) (c : Int), Bd t → Fm [77, 75, 78, 79, 80, 81, 106] [202, 204, 205, 206, 207, 208, 209, 210, 211, 212, 213, 214, 215, 216, 217, 218, 219, 220, 221, 222, 223, 224, 225, 226, 227, 203, 161, 230, 401, 402] s t → RLx t → HX t → (HMk x t) → (0 ≤ c ∧ c ≤ 12) → (12 - c : Int).toNat < n → (∀ (t' : PS) (c' : Int), Bd t' → Fm [77, 75, 78, 79, 80, 81, 106] [202, 204, 205, 206, 207, 208, 209, 210, 211, 212, 213, 214, 215, 216, 217, 218, 219, 220, 221, 222, 223, 224, 225, 226, 227, 203, 161, 230, 401, 402] s t' → RLx t' → HX t' → (HMk x t') → (0 ≤ c' ∧ c' ≤ 12) → WS k 75 [(0, .ref (A 179)), (6, .int (Int32.ofInt c'))] [] (Wd A dT t') 0 0) → WS k 48 [(0, .ref (A 179)), (6, .int (Int32.ofInt c))] [] (Wd A dT t) 0 0 := by
    intro n
    induction n with
    | zero =>
      intro t c I F jjRLx jjHX hq hi hm kx
      exact absurd hm (Nat.not_lt_zero _)
    | succ n ih =>
      intro t c I F jjRLx jjHX hq hi hm kx
      have b1001 := bi_105 I
      have b1002 := bi_106 I
      refine z_load X (x := c) rfl (List.Mem.tail _ (List.Mem.head _)) (z_bipush X rfl (z_icmp_ge X (t := 75) rfl rfl ⟨by first | exact oq_fa4e5087 hi.1 | omega, by first | exact oq_78843a64 hi.2 | omega⟩ (by decide) (fun g1003 => ?_) (fun g1003 => ?_)))
      ·
        refine WS_pq [0, 1] (lv' := [(0, .ref (A 179)), (6, .int (Int32.ofInt c))]) rfl ?_
        exact kx _ c I F jjRLx jjHX hq (by first | exact ⟨hi.1, hi.2⟩ | omega)
      ·
        refine z_aload_n X (x := A 179) rfl (List.Mem.head _) (s_getR X 179 rfl (c518_ok rfl) rfl rfl (z_load X (x := c) rfl (List.Mem.tail _ (List.Mem.head _)) (z_aload_n X (x := A 179) rfl (List.Mem.head _) (s_getR X 179 rfl (c518_ok rfl) rfl rfl (z_load X (x := c) rfl (List.Mem.tail _ (List.Mem.head _)) (z_ald X 456 rfl (c518_ok rfl) rfl (by first | exact hi.1 | omega) (show c < 12 by first | exact g1003 | omega) (cbig_ok rfl) ?_))))))
        have b1004 := bc_401 I (show (c).toNat < 12 by first | exact oq_d855cead g1003 | omega)
        refine z_ast X 457 rfl (c518_ok rfl) rfl (by first | exact hi.1 | omega) (show c < 12 by first | exact g1003 | omega) (cbig_ok rfl) (wd_gen (fun s1005 hs1005 => ?_))
        have Is1005 : Bd s1005 := eqB hs1005 (bd_C I (show (0 : Int) ≤ (iC t 401 (c).toNat) ∧ (iC t 401 (c).toNat) ≤ 3 by first | exact ⟨b1004.1, b1004.2⟩ | omega) (rng_to _))
        have Fs1005 := eqF hs1005 (fm_C F (inl_ok (a := 402) rfl))
        have ws1005_105 : iI s1005 105 = iI t 105 := eqI hs1005 rfl
        have ws1005_106 : iI s1005 106 = iI t 106 := eqI hs1005 rfl
        have fs1005 : Fm [] [402] t s1005 := by rw [hs1005]; exact fm_C (fm_rf _ _ _) (show 402 ∈ _ by decide)
        have JRLx_s1005 : RLx s1005 := RLx_fm fs1005 (by decide) jjRLx
        have JHX_s1005 : HX s1005 := HX_fm fs1005 (by decide) jjHX
        have JHMk_s1005 : HMk x s1005 := HMk_fm fs1005 (by decide) hq
        refine z_inc X (x := c) (lv' := [(6, .int (Int32.ofInt (c + 1))), (0, .ref (A 179))]) rfl (by decide) (List.Mem.tail _ (List.Mem.head _)) (fun _ h => h) (z_goto X (t := 48) rfl rfl (WS_pq [1, 0] (lv' := [(0, .ref (A 179)), (6, .int (Int32.ofInt (c + 1)))]) rfl ?_))
        exact ih _ (c + 1) Is1005 Fs1005 JRLx_s1005 JHX_s1005 JHMk_s1005 (by first | exact ⟨oq_54f49eb5 hi.1, oq_6a25a379 g1003⟩ | omega) (by first | exact qk_me hm (by decide) (oq_ab2484cf g1003) | exact oq_b0a25e76 g1003 hm | omega) kx
  refine z_aload_n X (x := A 179) rfl (List.Mem.head _) (z_getI X 179 rfl (c518_ok rfl) rfl rfl ?_)
  have b3 := bi_106 I
  refine z_const X rfl (z_icmp_eq X (t := 18) rfl rfl (rng_to _) (by decide) (fun g4 => ?_) (fun g4 => ?_))
  ·
    refine z_load_n X (x := x) rfl (List.Mem.tail _ (List.Mem.head _)) (z_aload_n X (x := A 179) rfl (List.Mem.head _) (z_getI X 179 rfl (c518_ok rfl) rfl rfl ?_))
    have b5 := bi_105 I
    refine z_icmp_ne X (t := 76) rfl rfl ⟨by first | exact oq_fa4e5087 p0.1 | omega, by first | exact oq_39d2cc6e p0.2 b5.2 | omega⟩ (rng_to _) (fun g6 => ?_) (fun g6 => ?_)
    ·
      exfalso
      omega
    ·
      refine z_aload_n X (x := A 179) rfl (List.Mem.head _) (z_load_n X (x := y) rfl (List.Mem.tail _ (List.Mem.tail _ (List.Mem.head _))) ?_)
      have JHM_s : HM s := ⟨jHX, HMk_le (by first | exact oq_fa711800 g6 | omega) p7⟩
      refine z_callV X 179 (rm := rmN 284) (As := [.int (Int32.ofInt y)]) (st := []) rfl rfl (by decide) rfl (by rw [E.1, E.2.1, E.2.2.1]; exact k_asMended G I jRLx JHM_s (by first | exact ⟨p3.1, p3.2⟩ | omega) (by first | exact p2 | omega)) ⟨by rw [E.2.2.2]; exact (show 10 + 1 ≤ (12 + (52 + (0))) from oq_a4cf3503), by rw [E.2.2.2]; exact (show 8 + (5 + 11) + 189 ≤ (500 + 45 * (52 + (0))) from oq_4290aa94), by rw [E.2.2.2]; exact Nat.le_refl 0, by rw [E.2.2.2]; exact Nat.le_refl 0⟩ (Nat.le_of_ble_eq_true rfl) (fun vv s7 hq => ?_) (fun ee s7 hq => ?_)
      rotate_left
      · obtain ⟨Is7, Fs7, JRLx_s7, JNW_s7, hv, hps7⟩ := hq; cases hv
      obtain ⟨Is7, Fs7, JRLx_s7, JNW_s7, hv, hps7⟩ := hq
      cases hv
      have Gs7 := fm_tq F Fs7 rfl rfl
      have JRLx_s7 : RLx s7 := RLx_fm Fs7 (by decide) jRLx
      have JHX_s7 : HX s7 := HX_fm Fs7 (by decide) jHX
      have JHMk_s7 : HMk x s7 := HMk_fm Fs7 (by decide) p7
      have ws7_105 : iI s7 105 = iI s 105 := fm_iq Fs7 rfl
      have ws7_106 : iI s7 106 = iI s 106 := fm_iq Fs7 rfl
      show WS k 31 [(0, .ref (A 179)), (1, .int (Int32.ofInt x)), (2, .int (Int32.ofInt y)), (3, .int (Int32.ofInt z)), (4, .int (Int32.ofInt w)), (5, .int (Int32.ofInt u))] [] (Wd A dT s7) 0 0
      refine z_aload_n X (x := A 179) rfl (List.Mem.head _) (z_callV X 179 (rm := rmN 283) (As := []) (st := []) rfl rfl (by decide) rfl (by rw [E.1, E.2.1, E.2.2.1]; exact k_isNoneFull G Is7 JNW_s7 ) ⟨by rw [E.2.2.2]; exact (show 37 + 1 ≤ (12 + (52 + (0))) from oq_d960365c), by rw [E.2.2.2]; exact (show 8 + (2 + 11) + 1578 ≤ (500 + 45 * (52 + (0))) from oq_e5119b40), by rw [E.2.2.2]; exact Nat.le_refl 0, by rw [E.2.2.2]; exact Nat.le_refl 0⟩ (Nat.le_of_ble_eq_true rfl) (fun vv s9 hq => ?_) (fun ee s9 hq => ?_))
      rotate_left
      · obtain ⟨Is9, Fs9, JNW_s9, e10, hv, hrs9, hps9⟩ := hq; cases hv
      obtain ⟨Is9, Fs9, JNW_s9, e10, hv, hrs9, hps9⟩ := hq
      cases hv
      have Gs9 := fm_tq Gs7 Fs9 rfl rfl
      have JRLx_s9 : RLx s9 := RLx_fm Fs9 (by decide) JRLx_s7
      have JHX_s9 : HX s9 := HX_fm Fs9 (by decide) JHX_s7
      have JHMk_s9 : HMk x s9 := HMk_fm Fs9 (by decide) JHMk_s7
      have JNW_s9 : NW s9 := NW_fm Fs9 (by decide) JNW_s7
      have ws9_105 : iI s9 105 = iI s7 105 := fm_iq Fs9 rfl
      have ws9_106 : iI s9 106 = iI s7 106 := fm_iq Fs9 rfl
      show WS k 35 [(0, .ref (A 179)), (1, .int (Int32.ofInt x)), (2, .int (Int32.ofInt y)), (3, .int (Int32.ofInt z)), (4, .int (Int32.ofInt w)), (5, .int (Int32.ofInt u))] [.int (Int32.ofInt e10)] (Wd A dT s9) 0 0
      refine z_if_ne X (t := 39) rfl rfl hrs9 (fun g11 => ?_) (fun g11 => ?_)
      ·
        refine z_aload_n X (x := A 179) rfl (List.Mem.head _) (z_load X (x := u) rfl (List.Mem.tail _ (List.Mem.tail _ (List.Mem.tail _ (List.Mem.tail _ (List.Mem.tail _ (List.Mem.head _)))))) (s_putI X 179 rfl (c518_ok rfl) rfl rfl (by decide) rfl rfl rfl (wd_gen (fun s12 hs12 => ?_))))
        have Is12 : Bd s12 := eqB hs12 (bd_I Is9 (show ((-2147483648) : Int) ≤ u ∧ u ≤ 2147483647 by first | exact ⟨p6.1, p6.2⟩ | omega) ⟨by first | exact p6.1 | omega, by first | exact p6.2 | omega⟩)
        have Fs12 := eqF hs12 (fm_I Gs9 (inl_ok (a := 106) rfl))
        have vs12 : iI s12 106 = u := eqI hs12 (iI_u ⟨by first | exact p6.1 | omega, by first | exact p6.2 | omega⟩)
        have ws12_105 : iI s12 105 = iI s9 105 := eqI hs12 rfl
        have fs12 : Fm [106] [] s9 s12 := by rw [hs12]; exact fm_I (fm_rf _ _ _) (show 106 ∈ _ by decide)
        have JRLx_s12 : RLx s12 := RLx_fm fs12 (by decide) JRLx_s9
        have JHX_s12 : HX s12 := HX_fm fs12 (by decide) JHX_s9
        have JHMk_s12 : HMk x s12 := HMk_fm fs12 (by decide) JHMk_s9
        refine z_const X rfl (z_store X (lv' := [(6, .int (Int32.ofInt 0)), (0, .ref (A 179)), (1, .int (Int32.ofInt x)), (2, .int (Int32.ofInt y)), (3, .int (Int32.ofInt z)), (4, .int (Int32.ofInt w)), (5, .int (Int32.ofInt u))]) rfl (by decide) (fun _ h => h) (WS_pq [1, 0] (lv' := [(0, .ref (A 179)), (6, .int (Int32.ofInt 0))]) rfl (L48 ((12 - 0 : Int).toNat + 1) s12 0 Is12 Fs12 JRLx_s12 JHX_s12 JHMk_s12 (by first | exact ⟨by decide, by decide⟩ | omega) (Nat.lt_succ_self _) ?_)))
        intro s13 x14 Is13 Fs13 JRLx_s13 JHX_s13 Qs13 hs13
        have b15 := bi_105 Is13
        have b16 := bi_106 Is13
        exact w_vret X.1 q hRt (ax_d X (show cdA 285 75 = some (.return_, 1, 0, 0, 0) from rfl)) (Nat.zero_le _) (Nat.zero_le _) ⟨_, rfl, Is13, Fs13, JRLx_s13, JHX_s13, rfl, Qs13⟩
      ·
        exact w_vret X.1 q hRt (ax_d X (show cdA 285 38 = some (.return_, 1, 0, 0, 0) from rfl)) (Nat.zero_le _) (Nat.zero_le _) ⟨_, rfl, Is9, Gs9, JRLx_s9, JHX_s9, rfl, JHMk_s9⟩
  ·
    refine z_load X (x := u) rfl (List.Mem.tail _ (List.Mem.tail _ (List.Mem.tail _ (List.Mem.tail _ (List.Mem.tail _ (List.Mem.head _)))))) (z_aload_n X (x := A 179) rfl (List.Mem.head _) (z_getI X 179 rfl (c518_ok rfl) rfl rfl ?_))
    have b17 := bi_106 I
    refine z_icmp_lt X (t := 18) rfl rfl ⟨by first | exact p6.1 | omega, by first | exact p6.2 | omega⟩ (rng_to _) (fun g18 => ?_) (fun g18 => ?_)
    ·
      refine z_load_n X (x := x) rfl (List.Mem.tail _ (List.Mem.head _)) (z_aload_n X (x := A 179) rfl (List.Mem.head _) (z_getI X 179 rfl (c518_ok rfl) rfl rfl ?_))
      have b19 := bi_105 I
      refine z_icmp_ne X (t := 76) rfl rfl ⟨by first | exact oq_fa4e5087 p0.1 | omega, by first | exact oq_39d2cc6e p0.2 b19.2 | omega⟩ (rng_to _) (fun g20 => ?_) (fun g20 => ?_)
      ·
        exfalso
        omega
      ·
        refine z_aload_n X (x := A 179) rfl (List.Mem.head _) (z_load_n X (x := y) rfl (List.Mem.tail _ (List.Mem.tail _ (List.Mem.head _))) ?_)
        have JHM_s : HM s := ⟨jHX, HMk_le (by first | exact oq_fa711800 g20 | (clear g4; omega) | omega) p7⟩
        refine z_callV X 179 (rm := rmN 284) (As := [.int (Int32.ofInt y)]) (st := []) rfl rfl (by decide) rfl (by rw [E.1, E.2.1, E.2.2.1]; exact k_asMended G I jRLx JHM_s (by first | exact ⟨p3.1, p3.2⟩ | omega) (by first | exact p2 | omega)) ⟨by rw [E.2.2.2]; exact (show 10 + 1 ≤ (12 + (52 + (0))) from oq_a4cf3503), by rw [E.2.2.2]; exact (show 8 + (5 + 11) + 189 ≤ (500 + 45 * (52 + (0))) from oq_4290aa94), by rw [E.2.2.2]; exact Nat.le_refl 0, by rw [E.2.2.2]; exact Nat.le_refl 0⟩ (Nat.le_of_ble_eq_true rfl) (fun vv s21 hq => ?_) (fun ee s21 hq => ?_)
        rotate_left
        · obtain ⟨Is21, Fs21, JRLx_s21, JNW_s21, hv, hps21⟩ := hq; cases hv
        obtain ⟨Is21, Fs21, JRLx_s21, JNW_s21, hv, hps21⟩ := hq
        cases hv
        have Gs21 := fm_tq F Fs21 rfl rfl
        have JRLx_s21 : RLx s21 := RLx_fm Fs21 (by decide) jRLx
        have JHX_s21 : HX s21 := HX_fm Fs21 (by decide) jHX
        have JHMk_s21 : HMk x s21 := HMk_fm Fs21 (by decide) p7
        have ws21_105 : iI s21 105 = iI s 105 := fm_iq Fs21 rfl
        have ws21_106 : iI s21 106 = iI s 106 := fm_iq Fs21 rfl
        show WS k 31 [(0, .ref (A 179)), (1, .int (Int32.ofInt x)), (2, .int (Int32.ofInt y)), (3, .int (Int32.ofInt z)), (4, .int (Int32.ofInt w)), (5, .int (Int32.ofInt u))] [] (Wd A dT s21) 0 0
        refine z_aload_n X (x := A 179) rfl (List.Mem.head _) (z_callV X 179 (rm := rmN 283) (As := []) (st := []) rfl rfl (by decide) rfl (by rw [E.1, E.2.1, E.2.2.1]; exact k_isNoneFull G Is21 JNW_s21 ) ⟨by rw [E.2.2.2]; exact (show 37 + 1 ≤ (12 + (52 + (0))) from oq_d960365c), by rw [E.2.2.2]; exact (show 8 + (2 + 11) + 1578 ≤ (500 + 45 * (52 + (0))) from oq_e5119b40), by rw [E.2.2.2]; exact Nat.le_refl 0, by rw [E.2.2.2]; exact Nat.le_refl 0⟩ (Nat.le_of_ble_eq_true rfl) (fun vv s23 hq => ?_) (fun ee s23 hq => ?_))
        rotate_left
        · obtain ⟨Is23, Fs23, JNW_s23, e24, hv, hrs23, hps23⟩ := hq; cases hv
        obtain ⟨Is23, Fs23, JNW_s23, e24, hv, hrs23, hps23⟩ := hq
        cases hv
        have Gs23 := fm_tq Gs21 Fs23 rfl rfl
        have JRLx_s23 : RLx s23 := RLx_fm Fs23 (by decide) JRLx_s21
        have JHX_s23 : HX s23 := HX_fm Fs23 (by decide) JHX_s21
        have JHMk_s23 : HMk x s23 := HMk_fm Fs23 (by decide) JHMk_s21
        have JNW_s23 : NW s23 := NW_fm Fs23 (by decide) JNW_s21
        have ws23_105 : iI s23 105 = iI s21 105 := fm_iq Fs23 rfl
        have ws23_106 : iI s23 106 = iI s21 106 := fm_iq Fs23 rfl
        show WS k 35 [(0, .ref (A 179)), (1, .int (Int32.ofInt x)), (2, .int (Int32.ofInt y)), (3, .int (Int32.ofInt z)), (4, .int (Int32.ofInt w)), (5, .int (Int32.ofInt u))] [.int (Int32.ofInt e24)] (Wd A dT s23) 0 0
        refine z_if_ne X (t := 39) rfl rfl hrs23 (fun g25 => ?_) (fun g25 => ?_)
        ·
          refine z_aload_n X (x := A 179) rfl (List.Mem.head _) (z_load X (x := u) rfl (List.Mem.tail _ (List.Mem.tail _ (List.Mem.tail _ (List.Mem.tail _ (List.Mem.tail _ (List.Mem.head _)))))) (s_putI X 179 rfl (c518_ok rfl) rfl rfl (by decide) rfl rfl rfl (wd_gen (fun s26 hs26 => ?_))))
          have Is26 : Bd s26 := eqB hs26 (bd_I Is23 (show ((-2147483648) : Int) ≤ u ∧ u ≤ 2147483647 by first | exact ⟨p6.1, p6.2⟩ | omega) ⟨by first | exact p6.1 | omega, by first | exact p6.2 | omega⟩)
          have Fs26 := eqF hs26 (fm_I Gs23 (inl_ok (a := 106) rfl))
          have vs26 : iI s26 106 = u := eqI hs26 (iI_u ⟨by first | exact p6.1 | omega, by first | exact p6.2 | omega⟩)
          have ws26_105 : iI s26 105 = iI s23 105 := eqI hs26 rfl
          have fs26 : Fm [106] [] s23 s26 := by rw [hs26]; exact fm_I (fm_rf _ _ _) (show 106 ∈ _ by decide)
          have JRLx_s26 : RLx s26 := RLx_fm fs26 (by decide) JRLx_s23
          have JHX_s26 : HX s26 := HX_fm fs26 (by decide) JHX_s23
          have JHMk_s26 : HMk x s26 := HMk_fm fs26 (by decide) JHMk_s23
          refine z_const X rfl (z_store X (lv' := [(6, .int (Int32.ofInt 0)), (0, .ref (A 179)), (1, .int (Int32.ofInt x)), (2, .int (Int32.ofInt y)), (3, .int (Int32.ofInt z)), (4, .int (Int32.ofInt w)), (5, .int (Int32.ofInt u))]) rfl (by decide) (fun _ h => h) (WS_pq [1, 0] (lv' := [(0, .ref (A 179)), (6, .int (Int32.ofInt 0))]) rfl (L48 ((12 - 0 : Int).toNat + 1) s26 0 Is26 Fs26 JRLx_s26 JHX_s26 JHMk_s26 (by first | exact ⟨by decide, by decide⟩ | omega) (Nat.lt_succ_self _) ?_)))
          intro s27 x28 Is27 Fs27 JRLx_s27 JHX_s27 Qs27 hs27
          have b29 := bi_105 Is27
          have b30 := bi_106 Is27
          exact w_vret X.1 q hRt (ax_d X (show cdA 285 75 = some (.return_, 1, 0, 0, 0) from rfl)) (Nat.zero_le _) (Nat.zero_le _) ⟨_, rfl, Is27, Fs27, JRLx_s27, JHX_s27, rfl, Qs27⟩
        ·
          exact w_vret X.1 q hRt (ax_d X (show cdA 285 38 = some (.return_, 1, 0, 0, 0) from rfl)) (Nat.zero_le _) (Nat.zero_le _) ⟨_, rfl, Is23, Gs23, JRLx_s23, JHX_s23, rfl, JHMk_s23⟩
    ·
      exact w_vret X.1 q hRt (ax_d X (show cdA 285 17 = some (.return_, 1, 0, 0, 0) from rfl)) (Nat.zero_le _) (Nat.zero_le _) ⟨_, rfl, I, F, jRLx, jHX, rfl, p7⟩
set_option maxRecDepth 4000 in
theorem k_goS (G : GX l s0 D tys a0 dT) {r : Nat} (hR : ∀ {s : PS} {x y z w u : Int}, Bd s → RLx s → HX s → (0 ≤ x ∧ x ≤ iI s 105) → (iI s 105 - x ≤ ((r : Nat) : Int)) → (iI s 105 ≤ 8) → (0 ≤ y ∧ y ≤ 23) → (0 ≤ z ∧ z ≤ 8) → (0 ≤ w ∧ w ≤ 8) → (rng u) → (HMk x s) → CT l s0 D A dT 285 (rkR (52 + (r))) [.ref (A 179), .int (Int32.ofInt x), .int (Int32.ofInt y), .int (Int32.ofInt z), .int (Int32.ofInt w), .int (Int32.ofInt u)] s (fun o t => Bd t ∧ Fm [77, 75, 78, 79, 80, 81, 106] [202, 204, 205, 206, 207, 208, 209, 210, 211, 212, 213, 214, 215, 216, 217, 218, 219, 220, 221, 222, 223, 224, 225, 226, 227, 203, 161, 230, 401, 402] s t ∧ RLx t ∧ HX t ∧ o = .inl none ∧ (HMk x t))) (I : Bd s) (jRLx : RLx s) (jHX : HX s) {x y z w u : Int} (p0 : 0 ≤ x ∧ x ≤ iI s 105) (p1 : iI s 105 - x ≤ ((r + 1 : Nat) : Int)) (p2 : iI s 105 ≤ 8) (p3 : 0 ≤ y ∧ y ≤ 23) (p4 : 0 ≤ z ∧ z ≤ 8) (p5 : 0 ≤ w ∧ w ≤ 8) (p6 : rng u) (p7 : HMk x s) : CT l s0 D A dT 285 (rkR (52 + (r + 1))) [.ref (A 179), .int (Int32.ofInt x), .int (Int32.ofInt y), .int (Int32.ofInt z), .int (Int32.ofInt w), .int (Int32.ofInt u)] s (fun o t => Bd t ∧ Fm [77, 75, 78, 79, 80, 81, 106] [202, 204, 205, 206, 207, 208, 209, 210, 211, 212, 213, 214, 215, 216, 217, 218, 219, 220, 221, 222, 223, 224, 225, 226, 227, 203, 161, 230, 401, 402] s t ∧ RLx t ∧ HX t ∧ o = .inl none ∧ (HMk x t)) := by
  refine ct_of G (by decide) (Nat.le_of_ble_eq_true rfl) (fun k X E hRt hXt q => ?_)
  show WS k 0 [(0, .ref (A 179)), (1, .int (Int32.ofInt x)), (2, .int (Int32.ofInt y)), (3, .int (Int32.ofInt z)), (4, .int (Int32.ofInt w)), (5, .int (Int32.ofInt u))] [] _ 0 0
  have F : Fm [77, 75, 78, 79, 80, 81, 106] [202, 204, 205, 206, 207, 208, 209, 210, 211, 212, 213, 214, 215, 216, 217, 218, 219, 220, 221, 222, 223, 224, 225, 226, 227, 203, 161, 230, 401, 402] s s := fm_rf _ _ s
  have b1 := bi_105 I
  have b2 := bi_106 I
  have L48 : ∀ (n : Nat) (t : PS) (c : Int), Bd t → Fm [77, 75, 78, 79, 80, 81, 106] [202, 204, 205, 206, 207, 208, 209, 210, 211, 212, 213, 214, 215, 216, 217, 218, 219, 220, 221, 222, 223, 224, 225, 226, 227, 203, 161, 230, 401, 402] s t → RLx t → HX t → (HMk x t) → (0 ≤ c ∧ c ≤ 12) → (12 - c : Int).toNat < n → (∀ (t' : PS) (c' : Int), Bd t' → Fm [77, 75, 78, 79, 80, 81, 106] [202, 204, 205, 206, 207, 208, 209, 210, 211, 212, 213, 214, 215, 216, 217, 218, 219, 220, 221, 222, 223, 224, 225, 226, 227, 203, 161, 230, 401, 402] s t' → RLx t' → HX t' → (HMk x t') → (0 ≤ c' ∧ c' ≤ 12) → WS k 75 [(0, .ref (A 179)), (6, .int (Int32.ofInt c'))] [] (Wd A dT t') 0 0) → WS k 48 [(0, .ref (A 179)), (6, .int (Int32.ofInt c))] [] (Wd A dT t) 0 0 := by
    intro n
    induction n with
    | zero =>
      intro t c I F jjRLx jjHX hq hi hm kx
      exact absurd hm (Nat.not_lt_zero _)
    | succ n ih =>
      intro t c I F jjRLx jjHX hq hi hm kx
      have b1001 := bi_105 I
      have b1002 := bi_106 I
      refine z_load X (x := c) rfl (List.Mem.tail _ (List.Mem.head _)) (z_bipush X rfl (z_icmp_ge X (t := 75) rfl rfl ⟨by first | exact oq_fa4e5087 hi.1 | omega, by first | exact oq_78843a64 hi.2 | omega⟩ (by decide) (fun g1003 => ?_) (fun g1003 => ?_)))
      ·
        refine WS_pq [0, 1] (lv' := [(0, .ref (A 179)), (6, .int (Int32.ofInt c))]) rfl ?_
        exact kx _ c I F jjRLx jjHX hq (by first | exact ⟨hi.1, hi.2⟩ | omega)
      ·
        refine z_aload_n X (x := A 179) rfl (List.Mem.head _) (s_getR X 179 rfl (c518_ok rfl) rfl rfl (z_load X (x := c) rfl (List.Mem.tail _ (List.Mem.head _)) (z_aload_n X (x := A 179) rfl (List.Mem.head _) (s_getR X 179 rfl (c518_ok rfl) rfl rfl (z_load X (x := c) rfl (List.Mem.tail _ (List.Mem.head _)) (z_ald X 456 rfl (c518_ok rfl) rfl (by first | exact hi.1 | omega) (show c < 12 by first | exact g1003 | omega) (cbig_ok rfl) ?_))))))
        have b1004 := bc_401 I (show (c).toNat < 12 by first | exact oq_d855cead g1003 | omega)
        refine z_ast X 457 rfl (c518_ok rfl) rfl (by first | exact hi.1 | omega) (show c < 12 by first | exact g1003 | omega) (cbig_ok rfl) (wd_gen (fun s1005 hs1005 => ?_))
        have Is1005 : Bd s1005 := eqB hs1005 (bd_C I (show (0 : Int) ≤ (iC t 401 (c).toNat) ∧ (iC t 401 (c).toNat) ≤ 3 by first | exact ⟨b1004.1, b1004.2⟩ | omega) (rng_to _))
        have Fs1005 := eqF hs1005 (fm_C F (inl_ok (a := 402) rfl))
        have ws1005_105 : iI s1005 105 = iI t 105 := eqI hs1005 rfl
        have ws1005_106 : iI s1005 106 = iI t 106 := eqI hs1005 rfl
        have fs1005 : Fm [] [402] t s1005 := by rw [hs1005]; exact fm_C (fm_rf _ _ _) (show 402 ∈ _ by decide)
        have JRLx_s1005 : RLx s1005 := RLx_fm fs1005 (by decide) jjRLx
        have JHX_s1005 : HX s1005 := HX_fm fs1005 (by decide) jjHX
        have JHMk_s1005 : HMk x s1005 := HMk_fm fs1005 (by decide) hq
        refine z_inc X (x := c) (lv' := [(6, .int (Int32.ofInt (c + 1))), (0, .ref (A 179))]) rfl (by decide) (List.Mem.tail _ (List.Mem.head _)) (fun _ h => h) (z_goto X (t := 48) rfl rfl (WS_pq [1, 0] (lv' := [(0, .ref (A 179)), (6, .int (Int32.ofInt (c + 1)))]) rfl ?_))
        exact ih _ (c + 1) Is1005 Fs1005 JRLx_s1005 JHX_s1005 JHMk_s1005 (by first | exact ⟨oq_54f49eb5 hi.1, oq_6a25a379 g1003⟩ | omega) (by first | exact qk_me hm (by decide) (oq_ab2484cf g1003) | exact oq_b0a25e76 g1003 hm | omega) kx
  have L87 : ∀ (n : Nat) (t : PS) (xv yv zv wv uv sv mm : Int), Bd t → Fm [77, 75, 78, 79, 80, 81, 106] [202, 204, 205, 206, 207, 208, 209, 210, 211, 212, 213, 214, 215, 216, 217, 218, 219, 220, 221, 222, 223, 224, 225, 226, 227, 203, 161, 230, 401, 402] s t → RLx t → HX t → (HMk xv t) → (xv = x ∧ (0 ≤ yv ∧ yv ≤ 23) ∧ (0 ≤ zv ∧ zv ≤ 8) ∧ (0 ≤ wv ∧ wv ≤ 8) ∧ rng uv ∧ iI t 105 ≤ 8 ∧ iI t 105 = iI s 105 ∧ (0 ≤ xv ∧ xv < iI t 105) ∧ sv = iC t 400 (xv : Int).toNat ∧ (0 ≤ sv ∧ sv ≤ 11) ∧ 1 ≤ mm ∧ mm ≤ 4) → (4 - mm : Int).toNat < n → (∀ (t' : PS) (mm' : Int), Bd t' → Fm [77, 75, 78, 79, 80, 81, 106] [202, 204, 205, 206, 207, 208, 209, 210, 211, 212, 213, 214, 215, 216, 217, 218, 219, 220, 221, 222, 223, 224, 225, 226, 227, 203, 161, 230, 401, 402] s t' → RLx t' → HX t' → (HMk xv t') → (xv = x ∧ (0 ≤ yv ∧ yv ≤ 23) ∧ (0 ≤ zv ∧ zv ≤ 8) ∧ (0 ≤ wv ∧ wv ≤ 8) ∧ rng uv ∧ iI t' 105 ≤ 8 ∧ iI t' 105 = iI s 105 ∧ (0 ≤ xv ∧ xv < iI t' 105) ∧ sv = iC t' 400 (xv : Int).toNat ∧ (0 ≤ sv ∧ sv ≤ 11) ∧ 1 ≤ mm' ∧ mm' ≤ 4) → WS k 196 [(0, .ref (A 179)), (1, .int (Int32.ofInt xv)), (2, .int (Int32.ofInt yv)), (3, .int (Int32.ofInt zv)), (4, .int (Int32.ofInt wv)), (5, .int (Int32.ofInt uv)), (6, .int (Int32.ofInt sv)), (7, .int (Int32.ofInt mm'))] [] (Wd A dT t') 0 0) → WS k 87 [(0, .ref (A 179)), (1, .int (Int32.ofInt xv)), (2, .int (Int32.ofInt yv)), (3, .int (Int32.ofInt zv)), (4, .int (Int32.ofInt wv)), (5, .int (Int32.ofInt uv)), (6, .int (Int32.ofInt sv)), (7, .int (Int32.ofInt mm))] [] (Wd A dT t) 0 0 := by
    as_aux_lemma =>
     intro n
     induction n with
     | zero =>
       intro t xv yv zv wv uv sv mm I F jjRLx jjHX hq hi hm kx
       exact absurd hm (Nat.not_lt_zero _)
     | succ n ih =>
       intro t xv yv zv wv uv sv mm I F jjRLx jjHX hq hi hm kx
       have b2001 := bi_105 I
       have b2002 := bi_106 I
       refine z_load X (x := mm) rfl (List.Mem.tail _ (List.Mem.tail _ (List.Mem.tail _ (List.Mem.tail _ (List.Mem.tail _ (List.Mem.tail _ (List.Mem.tail _ (List.Mem.head _)))))))) (z_const X rfl (z_icmp_ge X (t := 196) rfl rfl ⟨by first | exact oq_9462313e hi.2.2.2.2.2.2.2.2.2.2.1 | omega, by first | exact oq_4a4414da hi.2.2.2.2.2.2.2.2.2.2.2 | omega⟩ (by decide) (fun g2003 => ?_) (fun g2003 => ?_)))
       ·
         refine WS_pq [0, 1, 2, 3, 4, 5, 6, 7] (lv' := [(0, .ref (A 179)), (1, .int (Int32.ofInt xv)), (2, .int (Int32.ofInt yv)), (3, .int (Int32.ofInt zv)), (4, .int (Int32.ofInt wv)), (5, .int (Int32.ofInt uv)), (6, .int (Int32.ofInt sv)), (7, .int (Int32.ofInt mm))]) rfl ?_
         exact kx _ mm I F jjRLx jjHX hq (by first | exact ⟨hi.1, And.intro (hi.2.1.1) (hi.2.1.2), And.intro (hi.2.2.1.1) (hi.2.2.1.2), And.intro (hi.2.2.2.1.1) (hi.2.2.2.1.2), And.intro (hi.2.2.2.2.1.1) (hi.2.2.2.2.1.2), hi.2.2.2.2.2.1, hi.2.2.2.2.2.2.1, And.intro (hi.2.2.2.2.2.2.2.1.1) (hi.2.2.2.2.2.2.2.1.2), hi.2.2.2.2.2.2.2.2.1, And.intro (hi.2.2.2.2.2.2.2.2.2.1.1) (hi.2.2.2.2.2.2.2.2.2.1.2), hi.2.2.2.2.2.2.2.2.2.2.1, hi.2.2.2.2.2.2.2.2.2.2.2⟩ | omega)
       ·
         refine z_load X (x := mm) rfl (List.Mem.tail _ (List.Mem.tail _ (List.Mem.tail _ (List.Mem.tail _ (List.Mem.tail _ (List.Mem.tail _ (List.Mem.tail _ (List.Mem.head _)))))))) (z_const X rfl (z_icmp_ne X (t := 109) rfl rfl ⟨by first | exact oq_9462313e hi.2.2.2.2.2.2.2.2.2.2.1 | omega, by first | exact oq_f46e1d28 g2003 | omega⟩ (by decide) (fun g2004 => ?_) (fun g2004 => ?_)))
         ·
           refine z_load X (x := mm) rfl (List.Mem.tail _ (List.Mem.tail _ (List.Mem.tail _ (List.Mem.tail _ (List.Mem.tail _ (List.Mem.tail _ (List.Mem.tail _ (List.Mem.head _)))))))) (z_const X rfl (z_icmp_ne X (t := 119) rfl rfl ⟨by first | exact oq_9462313e hi.2.2.2.2.2.2.2.2.2.2.1 | omega, by first | exact oq_f46e1d28 g2003 | omega⟩ (by decide) (fun g2005 => ?_) (fun g2005 => ?_)))
           ·
             refine z_load X (x := mm) rfl (List.Mem.tail _ (List.Mem.tail _ (List.Mem.tail _ (List.Mem.tail _ (List.Mem.tail _ (List.Mem.tail _ (List.Mem.tail _ (List.Mem.head _)))))))) (z_const X rfl (z_icmp_ne X (t := 133) rfl rfl ⟨by first | exact oq_9462313e hi.2.2.2.2.2.2.2.2.2.2.1 | omega, by first | exact oq_f46e1d28 g2003 | omega⟩ (by decide) (fun g2006 => ?_) (fun g2006 => ?_)))
             ·
               exfalso
               omega
             ·
               refine z_load X (x := wv) rfl (List.Mem.tail _ (List.Mem.tail _ (List.Mem.tail _ (List.Mem.tail _ (List.Mem.head _))))) (z_if_ne X (t := 133) rfl rfl ⟨by first | exact oq_fa4e5087 hi.2.2.2.1.1 | omega, by first | exact oq_d3f5d874 hi.2.2.2.1.2 | omega⟩ (fun g2007 => ?_) (fun g2007 => ?_))
               ·
                 as_aux_lemma =>
                  have esv : sv = iC t 400 (xv : Int).toNat := by first | exact hi.2.2.2.2.2.2.2.2.1 | (clear g2007 g2005 g2004; omega) | (clear g2005 g2004; omega) | omega
                  refine z_aload_n X (x := A 179) rfl (List.Mem.head _) (s_getR X 179 rfl (c518_ok rfl) rfl rfl (z_load X (x := sv) rfl (List.Mem.tail _ (List.Mem.tail _ (List.Mem.tail _ (List.Mem.tail _ (List.Mem.tail _ (List.Mem.tail _ (List.Mem.head _))))))) (z_load X (x := mm) rfl (List.Mem.tail _ (List.Mem.tail _ (List.Mem.tail _ (List.Mem.tail _ (List.Mem.tail _ (List.Mem.tail _ (List.Mem.tail _ (List.Mem.head _)))))))) (z_ast X 456 rfl (c518_ok rfl) rfl (by first | exact hi.2.2.2.2.2.2.2.2.2.1.1 | omega) (show sv < 12 by first | exact oq_0ddfcfee hi.2.2.2.2.2.2.2.2.2.1.2 | omega) (cbig_ok rfl) (wd_gen (fun s2008 hs2008 => ?_))))))
                  have Is2008 : Bd s2008 := eqB hs2008 (bd_C I (show (0 : Int) ≤ mm ∧ mm ≤ 3 by first | exact ⟨oq_07dfda71 g2006, oq_abfb379f g2006⟩ | omega) ⟨by first | exact oq_5e17cb06 g2006 | omega, by first | exact oq_ebfd4642 g2006 | omega⟩)
                  have Fs2008 := eqF hs2008 (fm_C F (inl_ok (a := 401) rfl))
                  have ws2008_105 : iI s2008 105 = iI t 105 := eqI hs2008 rfl
                  have ws2008_106 : iI s2008 106 = iI t 106 := eqI hs2008 rfl
                  have cw2009 : iC s2008 400 (xv).toNat = iC t 400 (xv).toNat := eqC hs2008 (iC_a (by first | exact oq_70ab2152 | (clear g2007 g2005 g2004; omega) | (clear g2005 g2004; omega) | omega))
                  have fs2008 : Fm [] [401] t s2008 := by rw [hs2008]; exact fm_C (fm_rf _ _ _) (show 401 ∈ _ by decide)
                  have JRLx_s2008 : RLx s2008 := RLx_fm fs2008 (by decide) jjRLx
                  have JHX_s2008 : HX s2008 := HX_fm fs2008 (by decide) jjHX
                  have JHMk_s2008 : HMk (xv + 1) s2008 := HMk_up (t := t) (m := mm) I jjHX hq (by first | exact And.intro (hi.2.2.2.2.2.2.2.1.1) (oq_e297cd40 hi.2.2.2.2.2.2.2.1.2 hi.2.2.2.2.2.1) | (clear g2007 g2005 g2004; omega) | (clear g2005 g2004; omega) | omega) (by first | exact hi.2.2.2.2.2.2.2.1.2 | (clear g2007 g2005 g2004; omega) | (clear g2005 g2004; omega) | omega) (by first | exact And.intro (hi.2.2.2.2.2.2.2.2.2.2.1) (oq_abfb379f g2006) | (clear g2007 g2005 g2004; omega) | (clear g2005 g2004; omega) | omega) (fun _ => by rw [← esv]; omega) (by rw [← esv]; exact hs2008)
                  refine z_aload_n X (x := A 179) rfl (List.Mem.head _) (z_load_n X (x := xv) rfl (List.Mem.tail _ (List.Mem.head _)) (z_const X rfl (z_add X rfl (z_load_n X (x := yv) rfl (List.Mem.tail _ (List.Mem.tail _ (List.Mem.head _))) (z_load X (x := mm) rfl (List.Mem.tail _ (List.Mem.tail _ (List.Mem.tail _ (List.Mem.tail _ (List.Mem.tail _ (List.Mem.tail _ (List.Mem.tail _ (List.Mem.head _)))))))) (z_const X rfl (z_icmp_ne X (t := 159) rfl rfl ⟨by first | exact oq_5e17cb06 g2006 | omega, by first | exact oq_ebfd4642 g2006 | omega⟩ (by decide) (fun g2010 => ?_) (fun g2010 => ?_))))))))
                  ·
                    refine z_load_n X (x := zv) rfl (List.Mem.tail _ (List.Mem.tail _ (List.Mem.tail _ (List.Mem.head _)))) (z_load X (x := mm) rfl (List.Mem.tail _ (List.Mem.tail _ (List.Mem.tail _ (List.Mem.tail _ (List.Mem.tail _ (List.Mem.tail _ (List.Mem.tail _ (List.Mem.head _)))))))) (z_const X rfl (z_icmp_ne X (t := 173) rfl rfl ⟨by first | exact oq_5e17cb06 g2006 | omega, by first | exact oq_ebfd4642 g2006 | omega⟩ (by decide) (fun g2011 => ?_) (fun g2011 => ?_))))
                    ·
                      exfalso
                      omega
                    ·
                      as_aux_lemma =>
                       refine z_load X (x := wv) rfl (List.Mem.tail _ (List.Mem.tail _ (List.Mem.tail _ (List.Mem.tail _ (List.Mem.head _))))) (z_const X rfl (z_sub X rfl (z_goto X (t := 175) rfl rfl (z_load X (x := uv) rfl (List.Mem.tail _ (List.Mem.tail _ (List.Mem.tail _ (List.Mem.tail _ (List.Mem.tail _ (List.Mem.head _)))))) (z_aload_n X (x := A 179) rfl (List.Mem.head _) (z_load X (x := sv) rfl (List.Mem.tail _ (List.Mem.tail _ (List.Mem.tail _ (List.Mem.tail _ (List.Mem.tail _ (List.Mem.tail _ (List.Mem.head _))))))) (z_load X (x := mm) rfl (List.Mem.tail _ (List.Mem.tail _ (List.Mem.tail _ (List.Mem.tail _ (List.Mem.tail _ (List.Mem.tail _ (List.Mem.tail _ (List.Mem.head _)))))))) (z_load_n X (x := yv) rfl (List.Mem.tail _ (List.Mem.tail _ (List.Mem.head _))) (z_callV X 179 (rm := rmN 282) (As := [.int (Int32.ofInt sv), .int (Int32.ofInt mm), .int (Int32.ofInt yv)]) (st := [.int (Int32.ofInt uv), .int (Int32.ofInt (wv - 1)), .int (Int32.ofInt zv), .int (Int32.ofInt yv), .int (Int32.ofInt (xv + 1)), .ref (A 179)]) rfl rfl (by decide) rfl (by rw [E.1, E.2.1, E.2.2.1]; exact k_minutesOf G Is2008 (by first | exact ⟨hi.2.2.2.2.2.2.2.2.2.1.1, hi.2.2.2.2.2.2.2.2.2.1.2⟩ | omega) (by first | exact ⟨hi.2.2.2.2.2.2.2.2.2.2.1, oq_abfb379f g2011⟩ | omega) (by first | exact ⟨hi.2.1.1, hi.2.1.2⟩ | omega)) ⟨by rw [E.2.2.2]; exact (show 8 + 1 ≤ (12 + (52 + (r + 1))) from oq_edd5f4e9 r), by rw [E.2.2.2]; exact (show 8 + (5 + 11) + 146 ≤ (500 + 45 * (52 + (r + 1))) from oq_2709c6fe r), by rw [E.2.2.2]; exact Nat.le_refl 0, by rw [E.2.2.2]; exact Nat.le_refl 0⟩ (Nat.le_of_ble_eq_true rfl) (fun vv s2012 hq => ?_) (fun ee s2012 hq => ?_))))))))))
                       rotate_left
                       · obtain ⟨Is2012, Fs2012, e2013, hv, hrs2012, hps2012⟩ := hq; cases hv
                       obtain ⟨Is2012, Fs2012, e2013, hv, hrs2012, hps2012⟩ := hq
                       cases hv
                       have Gs2012 := fm_tq Fs2008 Fs2012 rfl rfl
                       have cw2014 : iC s2012 400 (xv).toNat = iC s2008 400 (xv).toNat := fm_c Fs2012 (by decide)
                       have JRLx_s2012 : RLx s2012 := RLx_fm Fs2012 (by decide) JRLx_s2008
                       have JHX_s2012 : HX s2012 := HX_fm Fs2012 (by decide) JHX_s2008
                       have JHMk_s2012 : HMk (xv + 1) s2012 := HMk_fm Fs2012 (by decide) JHMk_s2008
                       have ws2012_105 : iI s2012 105 = iI s2008 105 := fm_iq Fs2012 rfl
                       have ws2012_106 : iI s2012 106 = iI s2008 106 := fm_iq Fs2012 rfl
                       show WS k 186 [(0, .ref (A 179)), (1, .int (Int32.ofInt xv)), (2, .int (Int32.ofInt yv)), (3, .int (Int32.ofInt zv)), (4, .int (Int32.ofInt wv)), (5, .int (Int32.ofInt uv)), (6, .int (Int32.ofInt sv)), (7, .int (Int32.ofInt mm))] [.int (Int32.ofInt e2013), .int (Int32.ofInt uv), .int (Int32.ofInt (wv - 1)), .int (Int32.ofInt zv), .int (Int32.ofInt yv), .int (Int32.ofInt (xv + 1)), .ref (A 179)] (Wd A dT s2012) 0 0
                       refine z_add X rfl (z_any (fun y2015 hy2015 => ?_))
                       refine z_callV X 179 (rm := (rkR (52 + (r)))) (As := [.int (Int32.ofInt (xv + 1)), .int (Int32.ofInt yv), .int (Int32.ofInt zv), .int (Int32.ofInt (wv - 1)), .int (Int32.ofInt y2015)]) (st := []) rfl rfl (by decide) rfl (by rw [E.1, E.2.1, E.2.2.1]; exact hR Is2012 JRLx_s2012 JHX_s2012 (by first | exact ⟨p0.1, oq_c0bca489 ws2012_105 hi.1 ws2008_105 hi.2.2.2.2.2.2.2.1.2⟩ | exact And.intro (oq_54f49eb5 hi.2.2.2.2.2.2.2.1.1) (oq_915b83e3 ws2012_105 ws2008_105 hi.2.2.2.2.2.2.2.1.2) | omega) (by first | exact oq_993ab92a ws2012_105 ws2008_105 hi.2.2.2.2.2.2.1 hi.1 p1 | (clear g2010 g2007 g2005 g2004; omega) | (clear g2007 g2005 g2004; omega) | omega) (by first | exact oq_d7ce4408 ws2012_105 ws2008_105 hi.2.2.2.2.2.1 | omega) (by first | exact ⟨p3.1, p3.2⟩ | exact And.intro (hi.2.1.1) (hi.2.1.2) | omega) (by first | exact ⟨p4.1, p4.2⟩ | exact And.intro (hi.2.2.1.1) (hi.2.2.1.2) | omega) (by first | exact ⟨p5.1, p5.2⟩ | exact And.intro (oq_8af9d5df g2007 hi.2.2.2.1.1) (oq_d7fe5c3c hi.2.2.2.1.2) | omega) (by first | exact ⟨p6.1, p6.2⟩ | exact And.intro (hy2015.1) (hy2015.2) | omega) JHMk_s2012) ⟨by rw [E.2.2.2]; exact (show (12 + (52 + (r))) + 1 ≤ (12 + (52 + (r + 1))) from oq_c268f935 r), by rw [E.2.2.2]; exact (show 8 + (8 + 11) + (500 + 45 * (52 + (r))) ≤ (500 + 45 * (52 + (r + 1))) from oq_488e467a r), by rw [E.2.2.2]; exact Nat.le_refl 0, by rw [E.2.2.2]; exact Nat.le_refl 0⟩ (Nat.le_of_ble_eq_true rfl) (fun vv s2016 hq => ?_) (fun ee s2016 hq => ?_)
                       rotate_left
                       · obtain ⟨Is2016, Fs2016, JRLx_s2016, JHX_s2016, hv, hps2016⟩ := hq; cases hv
                       obtain ⟨Is2016, Fs2016, JRLx_s2016, JHX_s2016, hv, hps2016⟩ := hq
                       cases hv
                       have Gs2016 := fm_tq Gs2012 Fs2016 rfl rfl
                       have cw2018 : iC s2016 400 (xv).toNat = iC s2012 400 (xv).toNat := fm_c Fs2016 (by decide)
                       have JRLx_s2016 : RLx s2016 := RLx_fm Fs2016 (by decide) JRLx_s2012
                       have JHX_s2016 : HX s2016 := HX_fm Fs2016 (by decide) JHX_s2012
                       have ws2016_105 : iI s2016 105 = iI s2012 105 := fm_iq Fs2016 rfl
                       have b2019 := bi_106 Is2016
                       have JHMk_s2016 : HMk xv s2016 := HMk_le (by first | exact oq_34d72ec6 | (clear g2010 g2007 g2005 g2004; omega) | (clear g2007 g2005 g2004; omega) | omega) hps2016
                       show WS k 190 [(0, .ref (A 179)), (1, .int (Int32.ofInt xv)), (2, .int (Int32.ofInt yv)), (3, .int (Int32.ofInt zv)), (4, .int (Int32.ofInt wv)), (5, .int (Int32.ofInt uv)), (6, .int (Int32.ofInt sv)), (7, .int (Int32.ofInt mm))] [] (Wd A dT s2016) 0 0
                       refine z_inc X (x := mm) (lv' := [(7, .int (Int32.ofInt (mm + 1))), (0, .ref (A 179)), (1, .int (Int32.ofInt xv)), (2, .int (Int32.ofInt yv)), (3, .int (Int32.ofInt zv)), (4, .int (Int32.ofInt wv)), (5, .int (Int32.ofInt uv)), (6, .int (Int32.ofInt sv))]) rfl (by decide) (List.Mem.tail _ (List.Mem.tail _ (List.Mem.tail _ (List.Mem.tail _ (List.Mem.tail _ (List.Mem.tail _ (List.Mem.tail _ (List.Mem.head _)))))))) (fun _ h => h) (z_goto X (t := 87) rfl rfl (WS_pq [1, 2, 3, 4, 5, 6, 7, 0] (lv' := [(0, .ref (A 179)), (1, .int (Int32.ofInt xv)), (2, .int (Int32.ofInt yv)), (3, .int (Int32.ofInt zv)), (4, .int (Int32.ofInt wv)), (5, .int (Int32.ofInt uv)), (6, .int (Int32.ofInt sv)), (7, .int (Int32.ofInt (mm + 1)))]) rfl ?_))
                       exact ih _ xv yv zv wv uv sv (mm + 1) Is2016 Gs2016 JRLx_s2016 JHX_s2016 JHMk_s2016 (by first | exact ⟨hi.1, And.intro (hi.2.1.1) (hi.2.1.2), And.intro (hi.2.2.1.1) (hi.2.2.1.2), And.intro (hi.2.2.2.1.1) (hi.2.2.2.1.2), And.intro (hi.2.2.2.2.1.1) (hi.2.2.2.2.1.2), oq_e14d47df ws2016_105 ws2012_105 ws2008_105 hi.2.2.2.2.2.1, oq_ac0e91e1 ws2016_105 ws2012_105 ws2008_105 hi.2.2.2.2.2.2.1, And.intro (hi.2.2.2.2.2.2.2.1.1) (oq_a7ea1abf ws2016_105 hi.2.2.2.2.2.2.2.1.2 ws2012_105 ws2008_105), oq_3a799802 cw2018 cw2014 cw2009 esv, And.intro (hi.2.2.2.2.2.2.2.2.2.1.1) (hi.2.2.2.2.2.2.2.2.2.1.2), oq_25f0e837 g2011, oq_a93cab5a g2011⟩ | omega) (by first | exact qk_me hm (by decide) (oq_7ba9b3ae g2011) | exact oq_528b6ecd g2011 hm | omega) kx
                  ·
                    exfalso
                    omega
               ·
                 refine z_goto X (t := 190) rfl rfl (z_inc X (x := mm) (lv' := [(7, .int (Int32.ofInt (mm + 1))), (0, .ref (A 179)), (1, .int (Int32.ofInt xv)), (2, .int (Int32.ofInt yv)), (3, .int (Int32.ofInt zv)), (4, .int (Int32.ofInt wv)), (5, .int (Int32.ofInt uv)), (6, .int (Int32.ofInt sv))]) rfl (by decide) (List.Mem.tail _ (List.Mem.tail _ (List.Mem.tail _ (List.Mem.tail _ (List.Mem.tail _ (List.Mem.tail _ (List.Mem.tail _ (List.Mem.head _)))))))) (fun _ h => h) (z_goto X (t := 87) rfl rfl (WS_pq [1, 2, 3, 4, 5, 6, 7, 0] (lv' := [(0, .ref (A 179)), (1, .int (Int32.ofInt xv)), (2, .int (Int32.ofInt yv)), (3, .int (Int32.ofInt zv)), (4, .int (Int32.ofInt wv)), (5, .int (Int32.ofInt uv)), (6, .int (Int32.ofInt sv)), (7, .int (Int32.ofInt (mm + 1)))]) rfl ?_)))
                 exact ih _ xv yv zv wv uv sv (mm + 1) I F jjRLx jjHX hq (by first | exact ⟨hi.1, And.intro (hi.2.1.1) (hi.2.1.2), And.intro (hi.2.2.1.1) (hi.2.2.1.2), And.intro (hi.2.2.2.1.1) (hi.2.2.2.1.2), And.intro (hi.2.2.2.2.1.1) (hi.2.2.2.2.1.2), hi.2.2.2.2.2.1, hi.2.2.2.2.2.2.1, And.intro (hi.2.2.2.2.2.2.2.1.1) (hi.2.2.2.2.2.2.2.1.2), hi.2.2.2.2.2.2.2.2.1, And.intro (hi.2.2.2.2.2.2.2.2.2.1.1) (hi.2.2.2.2.2.2.2.2.2.1.2), oq_25f0e837 g2006, oq_a93cab5a g2006⟩ | omega) (by first | exact qk_me hm (by decide) (oq_7ba9b3ae g2006) | exact oq_528b6ecd g2006 hm | omega) kx
           ·
             as_aux_lemma =>
              refine z_load_n X (x := zv) rfl (List.Mem.tail _ (List.Mem.tail _ (List.Mem.tail _ (List.Mem.head _)))) (z_if_eq X (t := 190) rfl rfl ⟨by first | exact oq_fa4e5087 hi.2.2.1.1 | omega, by first | exact oq_d3f5d874 hi.2.2.1.2 | omega⟩ (fun g2020 => ?_) (fun g2020 => ?_))
              ·
                refine z_inc X (x := mm) (lv' := [(7, .int (Int32.ofInt (mm + 1))), (0, .ref (A 179)), (1, .int (Int32.ofInt xv)), (2, .int (Int32.ofInt yv)), (3, .int (Int32.ofInt zv)), (4, .int (Int32.ofInt wv)), (5, .int (Int32.ofInt uv)), (6, .int (Int32.ofInt sv))]) rfl (by decide) (List.Mem.tail _ (List.Mem.tail _ (List.Mem.tail _ (List.Mem.tail _ (List.Mem.tail _ (List.Mem.tail _ (List.Mem.tail _ (List.Mem.head _)))))))) (fun _ h => h) (z_goto X (t := 87) rfl rfl (WS_pq [1, 2, 3, 4, 5, 6, 7, 0] (lv' := [(0, .ref (A 179)), (1, .int (Int32.ofInt xv)), (2, .int (Int32.ofInt yv)), (3, .int (Int32.ofInt zv)), (4, .int (Int32.ofInt wv)), (5, .int (Int32.ofInt uv)), (6, .int (Int32.ofInt sv)), (7, .int (Int32.ofInt (mm + 1)))]) rfl ?_))
                exact ih _ xv yv zv wv uv sv (mm + 1) I F jjRLx jjHX hq (by first | exact ⟨hi.1, And.intro (hi.2.1.1) (hi.2.1.2), And.intro (hi.2.2.1.1) (hi.2.2.1.2), And.intro (hi.2.2.2.1.1) (hi.2.2.2.1.2), And.intro (hi.2.2.2.2.1.1) (hi.2.2.2.2.1.2), hi.2.2.2.2.2.1, hi.2.2.2.2.2.2.1, And.intro (hi.2.2.2.2.2.2.2.1.1) (hi.2.2.2.2.2.2.2.1.2), hi.2.2.2.2.2.2.2.2.1, And.intro (hi.2.2.2.2.2.2.2.2.2.1.1) (hi.2.2.2.2.2.2.2.2.2.1.2), oq_af66aac3 g2005, oq_8a625f99 g2005⟩ | omega) (by first | exact qk_me hm (by decide) (oq_07728ffc g2005) | exact oq_1ce9cec5 g2005 hm | omega) kx
              ·
                refine z_load X (x := mm) rfl (List.Mem.tail _ (List.Mem.tail _ (List.Mem.tail _ (List.Mem.tail _ (List.Mem.tail _ (List.Mem.tail _ (List.Mem.tail _ (List.Mem.head _)))))))) (z_const X rfl (z_icmp_ne X (t := 133) rfl rfl ⟨by first | exact oq_2cfdb1ef g2005 | omega, by first | exact oq_9e96a037 g2005 | omega⟩ (by decide) (fun g2021 => ?_) (fun g2021 => ?_)))
                ·
                  have esv : sv = iC t 400 (xv : Int).toNat := by first | exact hi.2.2.2.2.2.2.2.2.1 | (clear g2021 g2020 g2004; omega) | (clear g2020 g2004; omega) | omega
                  refine z_aload_n X (x := A 179) rfl (List.Mem.head _) (s_getR X 179 rfl (c518_ok rfl) rfl rfl (z_load X (x := sv) rfl (List.Mem.tail _ (List.Mem.tail _ (List.Mem.tail _ (List.Mem.tail _ (List.Mem.tail _ (List.Mem.tail _ (List.Mem.head _))))))) (z_load X (x := mm) rfl (List.Mem.tail _ (List.Mem.tail _ (List.Mem.tail _ (List.Mem.tail _ (List.Mem.tail _ (List.Mem.tail _ (List.Mem.tail _ (List.Mem.head _)))))))) (z_ast X 456 rfl (c518_ok rfl) rfl (by first | exact hi.2.2.2.2.2.2.2.2.2.1.1 | omega) (show sv < 12 by first | exact oq_0ddfcfee hi.2.2.2.2.2.2.2.2.2.1.2 | omega) (cbig_ok rfl) (wd_gen (fun s2022 hs2022 => ?_))))))
                  have Is2022 : Bd s2022 := eqB hs2022 (bd_C I (show (0 : Int) ≤ mm ∧ mm ≤ 3 by first | exact ⟨oq_d3dec1fc g2005, oq_783454c6 g2005⟩ | omega) ⟨by first | exact oq_2cfdb1ef g2005 | omega, by first | exact oq_9e96a037 g2005 | omega⟩)
                  have Fs2022 := eqF hs2022 (fm_C F (inl_ok (a := 401) rfl))
                  have ws2022_105 : iI s2022 105 = iI t 105 := eqI hs2022 rfl
                  have ws2022_106 : iI s2022 106 = iI t 106 := eqI hs2022 rfl
                  have cw2023 : iC s2022 400 (xv).toNat = iC t 400 (xv).toNat := eqC hs2022 (iC_a (by first | exact oq_70ab2152 | (clear g2021 g2020 g2004; omega) | (clear g2020 g2004; omega) | omega))
                  have fs2022 : Fm [] [401] t s2022 := by rw [hs2022]; exact fm_C (fm_rf _ _ _) (show 401 ∈ _ by decide)
                  have JRLx_s2022 : RLx s2022 := RLx_fm fs2022 (by decide) jjRLx
                  have JHX_s2022 : HX s2022 := HX_fm fs2022 (by decide) jjHX
                  have JHMk_s2022 : HMk (xv + 1) s2022 := HMk_up (t := t) (m := mm) I jjHX hq (by first | exact And.intro (hi.2.2.2.2.2.2.2.1.1) (oq_e297cd40 hi.2.2.2.2.2.2.2.1.2 hi.2.2.2.2.2.1) | (clear g2021 g2020 g2004; omega) | (clear g2020 g2004; omega) | omega) (by first | exact hi.2.2.2.2.2.2.2.1.2 | (clear g2021 g2020 g2004; omega) | (clear g2020 g2004; omega) | omega) (by first | exact And.intro (hi.2.2.2.2.2.2.2.2.2.2.1) (oq_783454c6 g2005) | (clear g2021 g2020 g2004; omega) | (clear g2020 g2004; omega) | omega) (fun _ => by rw [← esv]; omega) (by rw [← esv]; exact hs2022)
                  refine z_aload_n X (x := A 179) rfl (List.Mem.head _) (z_load_n X (x := xv) rfl (List.Mem.tail _ (List.Mem.head _)) (z_const X rfl (z_add X rfl (z_load_n X (x := yv) rfl (List.Mem.tail _ (List.Mem.tail _ (List.Mem.head _))) (z_load X (x := mm) rfl (List.Mem.tail _ (List.Mem.tail _ (List.Mem.tail _ (List.Mem.tail _ (List.Mem.tail _ (List.Mem.tail _ (List.Mem.tail _ (List.Mem.head _)))))))) (z_const X rfl (z_icmp_ne X (t := 159) rfl rfl ⟨by first | exact oq_2cfdb1ef g2005 | omega, by first | exact oq_9e96a037 g2005 | omega⟩ (by decide) (fun g2024 => ?_) (fun g2024 => ?_))))))))
                  ·
                    exfalso
                    omega
                  ·
                    as_aux_lemma =>
                     refine z_load_n X (x := zv) rfl (List.Mem.tail _ (List.Mem.tail _ (List.Mem.tail _ (List.Mem.head _)))) (z_const X rfl (z_sub X rfl (z_goto X (t := 160) rfl rfl (z_load X (x := mm) rfl (List.Mem.tail _ (List.Mem.tail _ (List.Mem.tail _ (List.Mem.tail _ (List.Mem.tail _ (List.Mem.tail _ (List.Mem.tail _ (List.Mem.head _)))))))) (z_const X rfl (z_icmp_ne X (t := 173) rfl rfl ⟨by first | exact oq_2cfdb1ef g2024 | omega, by first | exact oq_9e96a037 g2024 | omega⟩ (by decide) (fun g2025 => ?_) (fun g2025 => ?_)))))))
                     ·
                       refine z_load X (x := wv) rfl (List.Mem.tail _ (List.Mem.tail _ (List.Mem.tail _ (List.Mem.tail _ (List.Mem.head _))))) (z_load X (x := uv) rfl (List.Mem.tail _ (List.Mem.tail _ (List.Mem.tail _ (List.Mem.tail _ (List.Mem.tail _ (List.Mem.head _)))))) (z_aload_n X (x := A 179) rfl (List.Mem.head _) (z_load X (x := sv) rfl (List.Mem.tail _ (List.Mem.tail _ (List.Mem.tail _ (List.Mem.tail _ (List.Mem.tail _ (List.Mem.tail _ (List.Mem.head _))))))) (z_load X (x := mm) rfl (List.Mem.tail _ (List.Mem.tail _ (List.Mem.tail _ (List.Mem.tail _ (List.Mem.tail _ (List.Mem.tail _ (List.Mem.tail _ (List.Mem.head _)))))))) (z_load_n X (x := yv) rfl (List.Mem.tail _ (List.Mem.tail _ (List.Mem.head _))) (z_callV X 179 (rm := rmN 282) (As := [.int (Int32.ofInt sv), .int (Int32.ofInt mm), .int (Int32.ofInt yv)]) (st := [.int (Int32.ofInt uv), .int (Int32.ofInt wv), .int (Int32.ofInt (zv - 1)), .int (Int32.ofInt yv), .int (Int32.ofInt (xv + 1)), .ref (A 179)]) rfl rfl (by decide) rfl (by rw [E.1, E.2.1, E.2.2.1]; exact k_minutesOf G Is2022 (by first | exact ⟨hi.2.2.2.2.2.2.2.2.2.1.1, hi.2.2.2.2.2.2.2.2.2.1.2⟩ | omega) (by first | exact ⟨hi.2.2.2.2.2.2.2.2.2.2.1, oq_783454c6 g2024⟩ | omega) (by first | exact ⟨hi.2.1.1, hi.2.1.2⟩ | omega)) ⟨by rw [E.2.2.2]; exact (show 8 + 1 ≤ (12 + (52 + (r + 1))) from oq_edd5f4e9 r), by rw [E.2.2.2]; exact (show 8 + (5 + 11) + 146 ≤ (500 + 45 * (52 + (r + 1))) from oq_2709c6fe r), by rw [E.2.2.2]; exact Nat.le_refl 0, by rw [E.2.2.2]; exact Nat.le_refl 0⟩ (Nat.le_of_ble_eq_true rfl) (fun vv s2026 hq => ?_) (fun ee s2026 hq => ?_)))))))
                       rotate_left
                       · obtain ⟨Is2026, Fs2026, e2027, hv, hrs2026, hps2026⟩ := hq; cases hv
                       obtain ⟨Is2026, Fs2026, e2027, hv, hrs2026, hps2026⟩ := hq
                       cases hv
                       have Gs2026 := fm_tq Fs2022 Fs2026 rfl rfl
                       have cw2028 : iC s2026 400 (xv).toNat = iC s2022 400 (xv).toNat := fm_c Fs2026 (by decide)
                       have JRLx_s2026 : RLx s2026 := RLx_fm Fs2026 (by decide) JRLx_s2022
                       have JHX_s2026 : HX s2026 := HX_fm Fs2026 (by decide) JHX_s2022
                       have JHMk_s2026 : HMk (xv + 1) s2026 := HMk_fm Fs2026 (by decide) JHMk_s2022
                       have ws2026_105 : iI s2026 105 = iI s2022 105 := fm_iq Fs2026 rfl
                       have ws2026_106 : iI s2026 106 = iI s2022 106 := fm_iq Fs2026 rfl
                       show WS k 186 [(0, .ref (A 179)), (1, .int (Int32.ofInt xv)), (2, .int (Int32.ofInt yv)), (3, .int (Int32.ofInt zv)), (4, .int (Int32.ofInt wv)), (5, .int (Int32.ofInt uv)), (6, .int (Int32.ofInt sv)), (7, .int (Int32.ofInt mm))] [.int (Int32.ofInt e2027), .int (Int32.ofInt uv), .int (Int32.ofInt wv), .int (Int32.ofInt (zv - 1)), .int (Int32.ofInt yv), .int (Int32.ofInt (xv + 1)), .ref (A 179)] (Wd A dT s2026) 0 0
                       refine z_add X rfl (z_any (fun y2029 hy2029 => ?_))
                       refine z_callV X 179 (rm := (rkR (52 + (r)))) (As := [.int (Int32.ofInt (xv + 1)), .int (Int32.ofInt yv), .int (Int32.ofInt (zv - 1)), .int (Int32.ofInt wv), .int (Int32.ofInt y2029)]) (st := []) rfl rfl (by decide) rfl (by rw [E.1, E.2.1, E.2.2.1]; exact hR Is2026 JRLx_s2026 JHX_s2026 (by first | exact ⟨p0.1, oq_c0bca489 ws2026_105 hi.1 ws2022_105 hi.2.2.2.2.2.2.2.1.2⟩ | exact And.intro (oq_54f49eb5 hi.2.2.2.2.2.2.2.1.1) (oq_915b83e3 ws2026_105 ws2022_105 hi.2.2.2.2.2.2.2.1.2) | omega) (by first | exact oq_993ab92a ws2026_105 ws2022_105 hi.2.2.2.2.2.2.1 hi.1 p1 | (clear g2025 g2021 g2020 g2004; omega) | (clear g2021 g2020 g2004; omega) | omega) (by first | exact oq_d7ce4408 ws2026_105 ws2022_105 hi.2.2.2.2.2.1 | omega) (by first | exact ⟨p3.1, p3.2⟩ | exact And.intro (hi.2.1.1) (hi.2.1.2) | omega) (by first | exact ⟨p4.1, p4.2⟩ | exact And.intro (oq_8af9d5df g2020 hi.2.2.1.1) (oq_d7fe5c3c hi.2.2.1.2) | omega) (by first | exact ⟨p5.1, p5.2⟩ | exact And.intro (hi.2.2.2.1.1) (hi.2.2.2.1.2) | omega) (by first | exact ⟨p6.1, p6.2⟩ | exact And.intro (hy2029.1) (hy2029.2) | omega) JHMk_s2026) ⟨by rw [E.2.2.2]; exact (show (12 + (52 + (r))) + 1 ≤ (12 + (52 + (r + 1))) from oq_c268f935 r), by rw [E.2.2.2]; exact (show 8 + (8 + 11) + (500 + 45 * (52 + (r))) ≤ (500 + 45 * (52 + (r + 1))) from oq_488e467a r), by rw [E.2.2.2]; exact Nat.le_refl 0, by rw [E.2.2.2]; exact Nat.le_refl 0⟩ (Nat.le_of_ble_eq_true rfl) (fun vv s2030 hq => ?_) (fun ee s2030 hq => ?_)
                       rotate_left
                       · obtain ⟨Is2030, Fs2030, JRLx_s2030, JHX_s2030, hv, hps2030⟩ := hq; cases hv
                       obtain ⟨Is2030, Fs2030, JRLx_s2030, JHX_s2030, hv, hps2030⟩ := hq
                       cases hv
                       have Gs2030 := fm_tq Gs2026 Fs2030 rfl rfl
                       have cw2032 : iC s2030 400 (xv).toNat = iC s2026 400 (xv).toNat := fm_c Fs2030 (by decide)
                       have JRLx_s2030 : RLx s2030 := RLx_fm Fs2030 (by decide) JRLx_s2026
                       have JHX_s2030 : HX s2030 := HX_fm Fs2030 (by decide) JHX_s2026
                       have ws2030_105 : iI s2030 105 = iI s2026 105 := fm_iq Fs2030 rfl
                       have b2033 := bi_106 Is2030
                       have JHMk_s2030 : HMk xv s2030 := HMk_le (by first | exact oq_34d72ec6 | (clear g2025 g2021 g2020 g2004; omega) | (clear g2021 g2020 g2004; omega) | omega) hps2030
                       show WS k 190 [(0, .ref (A 179)), (1, .int (Int32.ofInt xv)), (2, .int (Int32.ofInt yv)), (3, .int (Int32.ofInt zv)), (4, .int (Int32.ofInt wv)), (5, .int (Int32.ofInt uv)), (6, .int (Int32.ofInt sv)), (7, .int (Int32.ofInt mm))] [] (Wd A dT s2030) 0 0
                       refine z_inc X (x := mm) (lv' := [(7, .int (Int32.ofInt (mm + 1))), (0, .ref (A 179)), (1, .int (Int32.ofInt xv)), (2, .int (Int32.ofInt yv)), (3, .int (Int32.ofInt zv)), (4, .int (Int32.ofInt wv)), (5, .int (Int32.ofInt uv)), (6, .int (Int32.ofInt sv))]) rfl (by decide) (List.Mem.tail _ (List.Mem.tail _ (List.Mem.tail _ (List.Mem.tail _ (List.Mem.tail _ (List.Mem.tail _ (List.Mem.tail _ (List.Mem.head _)))))))) (fun _ h => h) (z_goto X (t := 87) rfl rfl (WS_pq [1, 2, 3, 4, 5, 6, 7, 0] (lv' := [(0, .ref (A 179)), (1, .int (Int32.ofInt xv)), (2, .int (Int32.ofInt yv)), (3, .int (Int32.ofInt zv)), (4, .int (Int32.ofInt wv)), (5, .int (Int32.ofInt uv)), (6, .int (Int32.ofInt sv)), (7, .int (Int32.ofInt (mm + 1)))]) rfl ?_))
                       exact ih _ xv yv zv wv uv sv (mm + 1) Is2030 Gs2030 JRLx_s2030 JHX_s2030 JHMk_s2030 (by first | exact ⟨hi.1, And.intro (hi.2.1.1) (hi.2.1.2), And.intro (hi.2.2.1.1) (hi.2.2.1.2), And.intro (hi.2.2.2.1.1) (hi.2.2.2.1.2), And.intro (hi.2.2.2.2.1.1) (hi.2.2.2.2.1.2), oq_e14d47df ws2030_105 ws2026_105 ws2022_105 hi.2.2.2.2.2.1, oq_ac0e91e1 ws2030_105 ws2026_105 ws2022_105 hi.2.2.2.2.2.2.1, And.intro (hi.2.2.2.2.2.2.2.1.1) (oq_a7ea1abf ws2030_105 hi.2.2.2.2.2.2.2.1.2 ws2026_105 ws2022_105), oq_3a799802 cw2032 cw2028 cw2023 esv, And.intro (hi.2.2.2.2.2.2.2.2.2.1.1) (hi.2.2.2.2.2.2.2.2.2.1.2), oq_af66aac3 g2024, oq_8a625f99 g2024⟩ | omega) (by first | exact qk_me hm (by decide) (oq_07728ffc g2024) | exact oq_1ce9cec5 g2024 hm | omega) kx
                     ·
                       exfalso
                       omega
                ·
                  exfalso
                  omega
         ·
           as_aux_lemma =>
            refine z_aload_n X (x := A 179) rfl (List.Mem.head _) (s_getR X 179 rfl (c518_ok rfl) rfl rfl (z_load X (x := sv) rfl (List.Mem.tail _ (List.Mem.tail _ (List.Mem.tail _ (List.Mem.tail _ (List.Mem.tail _ (List.Mem.tail _ (List.Mem.head _))))))) (z_ald X 458 rfl (c518_ok rfl) rfl (by first | exact hi.2.2.2.2.2.2.2.2.2.1.1 | omega) (show sv < 12 by first | exact oq_0ddfcfee hi.2.2.2.2.2.2.2.2.2.1.2 | omega) (cbig_ok rfl) ?_)))
            have b2034 := bc_403 I (show (sv).toNat < 12 by first | exact oq_9c5fa447 hi.2.2.2.2.2.2.2.2.2.1.2 | omega)
            refine z_if_eq X (t := 190) rfl rfl (rng_to _) (fun g2035 => ?_) (fun g2035 => ?_)
            ·
              refine z_inc X (x := mm) (lv' := [(7, .int (Int32.ofInt (mm + 1))), (0, .ref (A 179)), (1, .int (Int32.ofInt xv)), (2, .int (Int32.ofInt yv)), (3, .int (Int32.ofInt zv)), (4, .int (Int32.ofInt wv)), (5, .int (Int32.ofInt uv)), (6, .int (Int32.ofInt sv))]) rfl (by decide) (List.Mem.tail _ (List.Mem.tail _ (List.Mem.tail _ (List.Mem.tail _ (List.Mem.tail _ (List.Mem.tail _ (List.Mem.tail _ (List.Mem.head _)))))))) (fun _ h => h) (z_goto X (t := 87) rfl rfl (WS_pq [1, 2, 3, 4, 5, 6, 7, 0] (lv' := [(0, .ref (A 179)), (1, .int (Int32.ofInt xv)), (2, .int (Int32.ofInt yv)), (3, .int (Int32.ofInt zv)), (4, .int (Int32.ofInt wv)), (5, .int (Int32.ofInt uv)), (6, .int (Int32.ofInt sv)), (7, .int (Int32.ofInt (mm + 1)))]) rfl ?_))
              exact ih _ xv yv zv wv uv sv (mm + 1) I F jjRLx jjHX hq (by first | exact ⟨hi.1, And.intro (hi.2.1.1) (hi.2.1.2), And.intro (hi.2.2.1.1) (hi.2.2.1.2), And.intro (hi.2.2.2.1.1) (hi.2.2.2.1.2), And.intro (hi.2.2.2.2.1.1) (hi.2.2.2.2.1.2), hi.2.2.2.2.2.1, hi.2.2.2.2.2.2.1, And.intro (hi.2.2.2.2.2.2.2.1.1) (hi.2.2.2.2.2.2.2.1.2), hi.2.2.2.2.2.2.2.2.1, And.intro (hi.2.2.2.2.2.2.2.2.2.1.1) (hi.2.2.2.2.2.2.2.2.2.1.2), oq_82935c17 g2004, oq_0a5951b8 g2004⟩ | omega) (by first | exact qk_me hm (by decide) (oq_6b61a495 g2004) | exact oq_97ed07f4 g2004 hm | omega) kx
            ·
              refine z_load X (x := mm) rfl (List.Mem.tail _ (List.Mem.tail _ (List.Mem.tail _ (List.Mem.tail _ (List.Mem.tail _ (List.Mem.tail _ (List.Mem.tail _ (List.Mem.head _)))))))) (z_const X rfl (z_icmp_ne X (t := 119) rfl rfl ⟨by first | exact oq_c4d5fd5b g2004 | omega, by first | exact oq_9b80f9a5 g2004 | omega⟩ (by decide) (fun g2036 => ?_) (fun g2036 => ?_)))
              ·
                refine z_load X (x := mm) rfl (List.Mem.tail _ (List.Mem.tail _ (List.Mem.tail _ (List.Mem.tail _ (List.Mem.tail _ (List.Mem.tail _ (List.Mem.tail _ (List.Mem.head _)))))))) (z_const X rfl (z_icmp_ne X (t := 133) rfl rfl ⟨by first | exact oq_c4d5fd5b g2004 | omega, by first | exact oq_9b80f9a5 g2004 | omega⟩ (by decide) (fun g2037 => ?_) (fun g2037 => ?_)))
                ·
                  have esv : sv = iC t 400 (xv : Int).toNat := by first | exact hi.2.2.2.2.2.2.2.2.1 | (clear g2037 g2036 g2035; omega) | (clear g2036 g2035; omega) | omega
                  refine z_aload_n X (x := A 179) rfl (List.Mem.head _) (s_getR X 179 rfl (c518_ok rfl) rfl rfl (z_load X (x := sv) rfl (List.Mem.tail _ (List.Mem.tail _ (List.Mem.tail _ (List.Mem.tail _ (List.Mem.tail _ (List.Mem.tail _ (List.Mem.head _))))))) (z_load X (x := mm) rfl (List.Mem.tail _ (List.Mem.tail _ (List.Mem.tail _ (List.Mem.tail _ (List.Mem.tail _ (List.Mem.tail _ (List.Mem.tail _ (List.Mem.head _)))))))) (z_ast X 456 rfl (c518_ok rfl) rfl (by first | exact hi.2.2.2.2.2.2.2.2.2.1.1 | omega) (show sv < 12 by first | exact oq_0ddfcfee hi.2.2.2.2.2.2.2.2.2.1.2 | omega) (cbig_ok rfl) (wd_gen (fun s2038 hs2038 => ?_))))))
                  have Is2038 : Bd s2038 := eqB hs2038 (bd_C I (show (0 : Int) ≤ mm ∧ mm ≤ 3 by first | exact ⟨oq_a1cdbcd8 g2004, oq_c7e375ff g2004⟩ | omega) ⟨by first | exact oq_c4d5fd5b g2004 | omega, by first | exact oq_9b80f9a5 g2004 | omega⟩)
                  have Fs2038 := eqF hs2038 (fm_C F (inl_ok (a := 401) rfl))
                  have ws2038_105 : iI s2038 105 = iI t 105 := eqI hs2038 rfl
                  have ws2038_106 : iI s2038 106 = iI t 106 := eqI hs2038 rfl
                  have cw2039 : iC s2038 400 (xv).toNat = iC t 400 (xv).toNat := eqC hs2038 (iC_a (by first | exact oq_70ab2152 | (clear g2037 g2036 g2035; omega) | (clear g2036 g2035; omega) | omega))
                  have fs2038 : Fm [] [401] t s2038 := by rw [hs2038]; exact fm_C (fm_rf _ _ _) (show 401 ∈ _ by decide)
                  have JRLx_s2038 : RLx s2038 := RLx_fm fs2038 (by decide) jjRLx
                  have JHX_s2038 : HX s2038 := HX_fm fs2038 (by decide) jjHX
                  have JHMk_s2038 : HMk (xv + 1) s2038 := HMk_up (t := t) (m := mm) I jjHX hq (by first | exact And.intro (hi.2.2.2.2.2.2.2.1.1) (oq_e297cd40 hi.2.2.2.2.2.2.2.1.2 hi.2.2.2.2.2.1) | (clear g2037 g2036 g2035; omega) | (clear g2036 g2035; omega) | omega) (by first | exact hi.2.2.2.2.2.2.2.1.2 | (clear g2037 g2036 g2035; omega) | (clear g2036 g2035; omega) | omega) (by first | exact And.intro (hi.2.2.2.2.2.2.2.2.2.2.1) (oq_c7e375ff g2004) | (clear g2037 g2036 g2035; omega) | (clear g2036 g2035; omega) | omega) (fun _ => by rw [← esv]; omega) (by rw [← esv]; exact hs2038)
                  refine z_aload_n X (x := A 179) rfl (List.Mem.head _) (z_load_n X (x := xv) rfl (List.Mem.tail _ (List.Mem.head _)) (z_const X rfl (z_add X rfl (z_load_n X (x := yv) rfl (List.Mem.tail _ (List.Mem.tail _ (List.Mem.head _))) (z_load X (x := mm) rfl (List.Mem.tail _ (List.Mem.tail _ (List.Mem.tail _ (List.Mem.tail _ (List.Mem.tail _ (List.Mem.tail _ (List.Mem.tail _ (List.Mem.head _)))))))) (z_const X rfl (z_icmp_ne X (t := 159) rfl rfl ⟨by first | exact oq_c4d5fd5b g2004 | omega, by first | exact oq_9b80f9a5 g2004 | omega⟩ (by decide) (fun g2040 => ?_) (fun g2040 => ?_))))))))
                  ·
                    as_aux_lemma =>
                     refine z_load_n X (x := zv) rfl (List.Mem.tail _ (List.Mem.tail _ (List.Mem.tail _ (List.Mem.head _)))) (z_load X (x := mm) rfl (List.Mem.tail _ (List.Mem.tail _ (List.Mem.tail _ (List.Mem.tail _ (List.Mem.tail _ (List.Mem.tail _ (List.Mem.tail _ (List.Mem.head _)))))))) (z_const X rfl (z_icmp_ne X (t := 173) rfl rfl ⟨by first | exact oq_c4d5fd5b g2004 | omega, by first | exact oq_9b80f9a5 g2004 | omega⟩ (by decide) (fun g2041 => ?_) (fun g2041 => ?_))))
                     ·
                       refine z_load X (x := wv) rfl (List.Mem.tail _ (List.Mem.tail _ (List.Mem.tail _ (List.Mem.tail _ (List.Mem.head _))))) (z_load X (x := uv) rfl (List.Mem.tail _ (List.Mem.tail _ (List.Mem.tail _ (List.Mem.tail _ (List.Mem.tail _ (List.Mem.head _)))))) (z_aload_n X (x := A 179) rfl (List.Mem.head _) (z_load X (x := sv) rfl (List.Mem.tail _ (List.Mem.tail _ (List.Mem.tail _ (List.Mem.tail _ (List.Mem.tail _ (List.Mem.tail _ (List.Mem.head _))))))) (z_load X (x := mm) rfl (List.Mem.tail _ (List.Mem.tail _ (List.Mem.tail _ (List.Mem.tail _ (List.Mem.tail _ (List.Mem.tail _ (List.Mem.tail _ (List.Mem.head _)))))))) (z_load_n X (x := yv) rfl (List.Mem.tail _ (List.Mem.tail _ (List.Mem.head _))) (z_callV X 179 (rm := rmN 282) (As := [.int (Int32.ofInt sv), .int (Int32.ofInt mm), .int (Int32.ofInt yv)]) (st := [.int (Int32.ofInt uv), .int (Int32.ofInt wv), .int (Int32.ofInt zv), .int (Int32.ofInt yv), .int (Int32.ofInt (xv + 1)), .ref (A 179)]) rfl rfl (by decide) rfl (by rw [E.1, E.2.1, E.2.2.1]; exact k_minutesOf G Is2038 (by first | exact ⟨hi.2.2.2.2.2.2.2.2.2.1.1, hi.2.2.2.2.2.2.2.2.2.1.2⟩ | omega) (by first | exact ⟨hi.2.2.2.2.2.2.2.2.2.2.1, oq_c7e375ff g2004⟩ | omega) (by first | exact ⟨hi.2.1.1, hi.2.1.2⟩ | omega)) ⟨by rw [E.2.2.2]; exact (show 8 + 1 ≤ (12 + (52 + (r + 1))) from oq_edd5f4e9 r), by rw [E.2.2.2]; exact (show 8 + (5 + 11) + 146 ≤ (500 + 45 * (52 + (r + 1))) from oq_2709c6fe r), by rw [E.2.2.2]; exact Nat.le_refl 0, by rw [E.2.2.2]; exact Nat.le_refl 0⟩ (Nat.le_of_ble_eq_true rfl) (fun vv s2042 hq => ?_) (fun ee s2042 hq => ?_)))))))
                       rotate_left
                       · obtain ⟨Is2042, Fs2042, e2043, hv, hrs2042, hps2042⟩ := hq; cases hv
                       obtain ⟨Is2042, Fs2042, e2043, hv, hrs2042, hps2042⟩ := hq
                       cases hv
                       have Gs2042 := fm_tq Fs2038 Fs2042 rfl rfl
                       have cw2044 : iC s2042 400 (xv).toNat = iC s2038 400 (xv).toNat := fm_c Fs2042 (by decide)
                       have JRLx_s2042 : RLx s2042 := RLx_fm Fs2042 (by decide) JRLx_s2038
                       have JHX_s2042 : HX s2042 := HX_fm Fs2042 (by decide) JHX_s2038
                       have JHMk_s2042 : HMk (xv + 1) s2042 := HMk_fm Fs2042 (by decide) JHMk_s2038
                       have ws2042_105 : iI s2042 105 = iI s2038 105 := fm_iq Fs2042 rfl
                       have ws2042_106 : iI s2042 106 = iI s2038 106 := fm_iq Fs2042 rfl
                       show WS k 186 [(0, .ref (A 179)), (1, .int (Int32.ofInt xv)), (2, .int (Int32.ofInt yv)), (3, .int (Int32.ofInt zv)), (4, .int (Int32.ofInt wv)), (5, .int (Int32.ofInt uv)), (6, .int (Int32.ofInt sv)), (7, .int (Int32.ofInt mm))] [.int (Int32.ofInt e2043), .int (Int32.ofInt uv), .int (Int32.ofInt wv), .int (Int32.ofInt zv), .int (Int32.ofInt yv), .int (Int32.ofInt (xv + 1)), .ref (A 179)] (Wd A dT s2042) 0 0
                       refine z_add X rfl (z_any (fun y2045 hy2045 => ?_))
                       refine z_callV X 179 (rm := (rkR (52 + (r)))) (As := [.int (Int32.ofInt (xv + 1)), .int (Int32.ofInt yv), .int (Int32.ofInt zv), .int (Int32.ofInt wv), .int (Int32.ofInt y2045)]) (st := []) rfl rfl (by decide) rfl (by rw [E.1, E.2.1, E.2.2.1]; exact hR Is2042 JRLx_s2042 JHX_s2042 (by first | exact ⟨p0.1, oq_c0bca489 ws2042_105 hi.1 ws2038_105 hi.2.2.2.2.2.2.2.1.2⟩ | exact And.intro (oq_54f49eb5 hi.2.2.2.2.2.2.2.1.1) (oq_915b83e3 ws2042_105 ws2038_105 hi.2.2.2.2.2.2.2.1.2) | omega) (by first | exact oq_993ab92a ws2042_105 ws2038_105 hi.2.2.2.2.2.2.1 hi.1 p1 | (clear g2041 g2040 g2037 g2036 g2035; omega) | (clear g2040 g2037 g2036 g2035; omega) | omega) (by first | exact oq_d7ce4408 ws2042_105 ws2038_105 hi.2.2.2.2.2.1 | omega) (by first | exact ⟨p3.1, p3.2⟩ | exact And.intro (hi.2.1.1) (hi.2.1.2) | omega) (by first | exact ⟨p4.1, p4.2⟩ | exact And.intro (hi.2.2.1.1) (hi.2.2.1.2) | omega) (by first | exact ⟨p5.1, p5.2⟩ | exact And.intro (hi.2.2.2.1.1) (hi.2.2.2.1.2) | omega) (by first | exact ⟨p6.1, p6.2⟩ | exact And.intro (hy2045.1) (hy2045.2) | omega) JHMk_s2042) ⟨by rw [E.2.2.2]; exact (show (12 + (52 + (r))) + 1 ≤ (12 + (52 + (r + 1))) from oq_c268f935 r), by rw [E.2.2.2]; exact (show 8 + (8 + 11) + (500 + 45 * (52 + (r))) ≤ (500 + 45 * (52 + (r + 1))) from oq_488e467a r), by rw [E.2.2.2]; exact Nat.le_refl 0, by rw [E.2.2.2]; exact Nat.le_refl 0⟩ (Nat.le_of_ble_eq_true rfl) (fun vv s2046 hq => ?_) (fun ee s2046 hq => ?_)
                       rotate_left
                       · obtain ⟨Is2046, Fs2046, JRLx_s2046, JHX_s2046, hv, hps2046⟩ := hq; cases hv
                       obtain ⟨Is2046, Fs2046, JRLx_s2046, JHX_s2046, hv, hps2046⟩ := hq
                       cases hv
                       have Gs2046 := fm_tq Gs2042 Fs2046 rfl rfl
                       have cw2048 : iC s2046 400 (xv).toNat = iC s2042 400 (xv).toNat := fm_c Fs2046 (by decide)
                       have JRLx_s2046 : RLx s2046 := RLx_fm Fs2046 (by decide) JRLx_s2042
                       have JHX_s2046 : HX s2046 := HX_fm Fs2046 (by decide) JHX_s2042
                       have ws2046_105 : iI s2046 105 = iI s2042 105 := fm_iq Fs2046 rfl
                       have b2049 := bi_106 Is2046
                       have JHMk_s2046 : HMk xv s2046 := HMk_le (by first | exact oq_34d72ec6 | (clear g2041 g2040 g2037 g2036 g2035; omega) | (clear g2040 g2037 g2036 g2035; omega) | omega) hps2046
                       show WS k 190 [(0, .ref (A 179)), (1, .int (Int32.ofInt xv)), (2, .int (Int32.ofInt yv)), (3, .int (Int32.ofInt zv)), (4, .int (Int32.ofInt wv)), (5, .int (Int32.ofInt uv)), (6, .int (Int32.ofInt sv)), (7, .int (Int32.ofInt mm))] [] (Wd A dT s2046) 0 0
                       refine z_inc X (x := mm) (lv' := [(7, .int (Int32.ofInt (mm + 1))), (0, .ref (A 179)), (1, .int (Int32.ofInt xv)), (2, .int (Int32.ofInt yv)), (3, .int (Int32.ofInt zv)), (4, .int (Int32.ofInt wv)), (5, .int (Int32.ofInt uv)), (6, .int (Int32.ofInt sv))]) rfl (by decide) (List.Mem.tail _ (List.Mem.tail _ (List.Mem.tail _ (List.Mem.tail _ (List.Mem.tail _ (List.Mem.tail _ (List.Mem.tail _ (List.Mem.head _)))))))) (fun _ h => h) (z_goto X (t := 87) rfl rfl (WS_pq [1, 2, 3, 4, 5, 6, 7, 0] (lv' := [(0, .ref (A 179)), (1, .int (Int32.ofInt xv)), (2, .int (Int32.ofInt yv)), (3, .int (Int32.ofInt zv)), (4, .int (Int32.ofInt wv)), (5, .int (Int32.ofInt uv)), (6, .int (Int32.ofInt sv)), (7, .int (Int32.ofInt (mm + 1)))]) rfl ?_))
                       exact ih _ xv yv zv wv uv sv (mm + 1) Is2046 Gs2046 JRLx_s2046 JHX_s2046 JHMk_s2046 (by first | exact ⟨hi.1, And.intro (hi.2.1.1) (hi.2.1.2), And.intro (hi.2.2.1.1) (hi.2.2.1.2), And.intro (hi.2.2.2.1.1) (hi.2.2.2.1.2), And.intro (hi.2.2.2.2.1.1) (hi.2.2.2.2.1.2), oq_e14d47df ws2046_105 ws2042_105 ws2038_105 hi.2.2.2.2.2.1, oq_ac0e91e1 ws2046_105 ws2042_105 ws2038_105 hi.2.2.2.2.2.2.1, And.intro (hi.2.2.2.2.2.2.2.1.1) (oq_a7ea1abf ws2046_105 hi.2.2.2.2.2.2.2.1.2 ws2042_105 ws2038_105), oq_3a799802 cw2048 cw2044 cw2039 esv, And.intro (hi.2.2.2.2.2.2.2.2.2.1.1) (hi.2.2.2.2.2.2.2.2.2.1.2), oq_82935c17 g2004, oq_0a5951b8 g2004⟩ | omega) (by first | exact qk_me hm (by decide) (oq_6b61a495 g2004) | exact oq_97ed07f4 g2004 hm | omega) kx
                     ·
                       exfalso
                       omega
                  ·
                    exfalso
                    omega
                ·
                  exfalso
                  omega
              ·
                exfalso
                omega
  refine z_aload_n X (x := A 179) rfl (List.Mem.head _) (z_getI X 179 rfl (c518_ok rfl) rfl rfl ?_)
  have b3 := bi_106 I
  refine z_const X rfl (z_icmp_eq X (t := 18) rfl rfl (rng_to _) (by decide) (fun g4 => ?_) (fun g4 => ?_))
  ·
    as_aux_lemma =>
     refine z_load_n X (x := x) rfl (List.Mem.tail _ (List.Mem.head _)) (z_aload_n X (x := A 179) rfl (List.Mem.head _) (z_getI X 179 rfl (c518_ok rfl) rfl rfl ?_))
     have b5 := bi_105 I
     refine z_icmp_ne X (t := 76) rfl rfl ⟨by first | exact oq_fa4e5087 p0.1 | omega, by first | exact oq_39d2cc6e p0.2 b5.2 | omega⟩ (rng_to _) (fun g6 => ?_) (fun g6 => ?_)
     ·
       refine z_aload_n X (x := A 179) rfl (List.Mem.head _) (s_getR X 179 rfl (c518_ok rfl) rfl rfl (z_load_n X (x := x) rfl (List.Mem.tail _ (List.Mem.head _)) (z_ald X 455 rfl (c518_ok rfl) rfl (by first | exact p0.1 | omega) (show x < 8 by first | exact oq_1fa780f7 g6 p2 p0.2 | omega) (cbig_ok rfl) ?_)))
       have b7 := bc_400 I (show (x).toNat < 8 by first | exact oq_54c6e91f g6 p2 p0.2 | omega)
       refine z_store X (lv' := [(6, .int (Int32.ofInt (iC s 400 (x).toNat))), (0, .ref (A 179)), (1, .int (Int32.ofInt x)), (2, .int (Int32.ofInt y)), (3, .int (Int32.ofInt z)), (4, .int (Int32.ofInt w)), (5, .int (Int32.ofInt u))]) rfl (by decide) (fun _ h => h) (z_const X rfl (z_store X (lv' := [(7, .int (Int32.ofInt 1)), (6, .int (Int32.ofInt (iC s 400 (x).toNat))), (0, .ref (A 179)), (1, .int (Int32.ofInt x)), (2, .int (Int32.ofInt y)), (3, .int (Int32.ofInt z)), (4, .int (Int32.ofInt w)), (5, .int (Int32.ofInt u))]) rfl (by decide) (fun _ h => h) (WS_pq [2, 3, 4, 5, 6, 7, 1, 0] (lv' := [(0, .ref (A 179)), (1, .int (Int32.ofInt x)), (2, .int (Int32.ofInt y)), (3, .int (Int32.ofInt z)), (4, .int (Int32.ofInt w)), (5, .int (Int32.ofInt u)), (6, .int (Int32.ofInt (iC s 400 (x).toNat))), (7, .int (Int32.ofInt 1))]) rfl (L87 ((4 - 1 : Int).toNat + 1) s x y z w u (iC s 400 (x).toNat) 1 I F jRLx jHX p7 (by first | exact ⟨by decide, And.intro (p3.1) (p3.2), And.intro (p4.1) (p4.2), And.intro (p5.1) (p5.2), And.intro (p6.1) (p6.2), p2, by decide, oq_06adfc3a g6 p0.2 p0.1, by decide, And.intro (b7.1) (b7.2), by decide, by decide⟩ | exact And.intro (rfl) (And.intro (And.intro (p3.1) (p3.2)) (And.intro (And.intro (p4.1) (p4.2)) (And.intro (And.intro (p5.1) (p5.2)) (And.intro (And.intro (p6.1) (p6.2)) (And.intro (p2) (And.intro (rfl) (And.intro (And.intro (p0.1) (oq_64407c64 g6 p0.2)) (And.intro (rfl) (And.intro (And.intro (b7.1) (b7.2)) (And.intro (oq_a200df08) (oq_1ba481cb))))))))))) | omega) (Nat.lt_succ_self _) ?_))))
       intro s8 x9 Is8 Fs8 JRLx_s8 JHX_s8 Qs8 hs8
       have b10 := bi_105 Is8
       have b11 := bi_106 Is8
       have esv : (iC s 400 (x).toNat) = iC s8 400 (x : Int).toNat := by first | exact hs8.2.2.2.2.2.2.2.2.1 | (clear g6; omega) | omega
       refine z_aload_n X (x := A 179) rfl (List.Mem.head _) (s_getR X 179 rfl (c518_ok rfl) rfl rfl (z_load X (x := (iC s 400 (x).toNat)) rfl (List.Mem.tail _ (List.Mem.tail _ (List.Mem.tail _ (List.Mem.tail _ (List.Mem.tail _ (List.Mem.tail _ (List.Mem.head _))))))) (z_const X rfl (z_ast X 456 rfl (c518_ok rfl) rfl (by first | exact hs8.2.2.2.2.2.2.2.2.2.1.1 | omega) (show (iC s 400 (x).toNat) < 12 by first | exact oq_0ddfcfee hs8.2.2.2.2.2.2.2.2.2.1.2 | omega) (cbig_ok rfl) (wd_gen (fun s12 hs12 => ?_))))))
       have Is12 : Bd s12 := eqB hs12 (bd_C Is8 (show (0 : Int) ≤ 0 ∧ 0 ≤ 3 by first | exact ⟨by decide, by decide⟩ | omega) (by decide))
       have Fs12 := eqF hs12 (fm_C Fs8 (inl_ok (a := 401) rfl))
       have ws12_105 : iI s12 105 = iI s8 105 := eqI hs12 rfl
       have ws12_106 : iI s12 106 = iI s8 106 := eqI hs12 rfl
       have cw13 : iC s12 400 (x).toNat = iC s8 400 (x).toNat := eqC hs12 (iC_a (by first | exact oq_70ab2152 | (clear g6; omega) | omega))
       have fs12 : Fm [] [401] s8 s12 := by rw [hs12]; exact fm_C (fm_rf _ _ _) (show 401 ∈ _ by decide)
       have JRLx_s12 : RLx s12 := RLx_fm fs12 (by decide) JRLx_s8
       have JHX_s12 : HX s12 := HX_fm fs12 (by decide) JHX_s8
       have JHMk_s12 : HMk x s12 := HMk_off Is8 JHX_s8 Qs8 (by first | exact And.intro (hs8.2.2.2.2.2.2.2.1.1) (oq_e297cd40 hs8.2.2.2.2.2.2.2.1.2 hs8.2.2.2.2.2.1) | (clear g6; omega) | omega) (by first | exact hs8.2.2.2.2.2.2.2.1.2 | (clear g6; omega) | omega) (by rw [← esv]; exact hs12)
       exact w_vret X.1 q hRt (ax_d X (show cdA 285 204 = some (.return_, 1, 0, 0, 0) from rfl)) (Nat.zero_le _) (Nat.zero_le _) ⟨_, rfl, Is12, Fs12, JRLx_s12, JHX_s12, rfl, JHMk_s12⟩
     ·
       as_aux_lemma =>
        refine z_aload_n X (x := A 179) rfl (List.Mem.head _) (z_load_n X (x := y) rfl (List.Mem.tail _ (List.Mem.tail _ (List.Mem.head _))) ?_)
        have JHM_s : HM s := ⟨jHX, HMk_le (by first | exact oq_fa711800 g6 | omega) p7⟩
        refine z_callV X 179 (rm := rmN 284) (As := [.int (Int32.ofInt y)]) (st := []) rfl rfl (by decide) rfl (by rw [E.1, E.2.1, E.2.2.1]; exact k_asMended G I jRLx JHM_s (by first | exact ⟨p3.1, p3.2⟩ | omega) (by first | exact p2 | omega)) ⟨by rw [E.2.2.2]; exact (show 10 + 1 ≤ (12 + (52 + (r + 1))) from oq_04dc1188 r), by rw [E.2.2.2]; exact (show 8 + (5 + 11) + 189 ≤ (500 + 45 * (52 + (r + 1))) from oq_bb8002ac r), by rw [E.2.2.2]; exact Nat.le_refl 0, by rw [E.2.2.2]; exact Nat.le_refl 0⟩ (Nat.le_of_ble_eq_true rfl) (fun vv s14 hq => ?_) (fun ee s14 hq => ?_)
        rotate_left
        · obtain ⟨Is14, Fs14, JRLx_s14, JNW_s14, hv, hps14⟩ := hq; cases hv
        obtain ⟨Is14, Fs14, JRLx_s14, JNW_s14, hv, hps14⟩ := hq
        cases hv
        have Gs14 := fm_tq F Fs14 rfl rfl
        have cw16 : iC s14 400 (x).toNat = iC s 400 (x).toNat := fm_c Fs14 (by decide)
        have JRLx_s14 : RLx s14 := RLx_fm Fs14 (by decide) jRLx
        have JHX_s14 : HX s14 := HX_fm Fs14 (by decide) jHX
        have JHMk_s14 : HMk x s14 := HMk_fm Fs14 (by decide) p7
        have ws14_105 : iI s14 105 = iI s 105 := fm_iq Fs14 rfl
        have ws14_106 : iI s14 106 = iI s 106 := fm_iq Fs14 rfl
        show WS k 31 [(0, .ref (A 179)), (1, .int (Int32.ofInt x)), (2, .int (Int32.ofInt y)), (3, .int (Int32.ofInt z)), (4, .int (Int32.ofInt w)), (5, .int (Int32.ofInt u))] [] (Wd A dT s14) 0 0
        refine z_aload_n X (x := A 179) rfl (List.Mem.head _) (z_callV X 179 (rm := rmN 283) (As := []) (st := []) rfl rfl (by decide) rfl (by rw [E.1, E.2.1, E.2.2.1]; exact k_isNoneFull G Is14 JNW_s14 ) ⟨by rw [E.2.2.2]; exact (show 37 + 1 ≤ (12 + (52 + (r + 1))) from oq_35b456ef r), by rw [E.2.2.2]; exact (show 8 + (2 + 11) + 1578 ≤ (500 + 45 * (52 + (r + 1))) from oq_14bb5664 r), by rw [E.2.2.2]; exact Nat.le_refl 0, by rw [E.2.2.2]; exact Nat.le_refl 0⟩ (Nat.le_of_ble_eq_true rfl) (fun vv s17 hq => ?_) (fun ee s17 hq => ?_))
        rotate_left
        · obtain ⟨Is17, Fs17, JNW_s17, e18, hv, hrs17, hps17⟩ := hq; cases hv
        obtain ⟨Is17, Fs17, JNW_s17, e18, hv, hrs17, hps17⟩ := hq
        cases hv
        have Gs17 := fm_tq Gs14 Fs17 rfl rfl
        have cw19 : iC s17 400 (x).toNat = iC s14 400 (x).toNat := fm_c Fs17 (by decide)
        have JRLx_s17 : RLx s17 := RLx_fm Fs17 (by decide) JRLx_s14
        have JHX_s17 : HX s17 := HX_fm Fs17 (by decide) JHX_s14
        have JHMk_s17 : HMk x s17 := HMk_fm Fs17 (by decide) JHMk_s14
        have JNW_s17 : NW s17 := NW_fm Fs17 (by decide) JNW_s14
        have ws17_105 : iI s17 105 = iI s14 105 := fm_iq Fs17 rfl
        have ws17_106 : iI s17 106 = iI s14 106 := fm_iq Fs17 rfl
        show WS k 35 [(0, .ref (A 179)), (1, .int (Int32.ofInt x)), (2, .int (Int32.ofInt y)), (3, .int (Int32.ofInt z)), (4, .int (Int32.ofInt w)), (5, .int (Int32.ofInt u))] [.int (Int32.ofInt e18)] (Wd A dT s17) 0 0
        refine z_if_ne X (t := 39) rfl rfl hrs17 (fun g20 => ?_) (fun g20 => ?_)
        ·
          refine z_aload_n X (x := A 179) rfl (List.Mem.head _) (z_load X (x := u) rfl (List.Mem.tail _ (List.Mem.tail _ (List.Mem.tail _ (List.Mem.tail _ (List.Mem.tail _ (List.Mem.head _)))))) (s_putI X 179 rfl (c518_ok rfl) rfl rfl (by decide) rfl rfl rfl (wd_gen (fun s21 hs21 => ?_))))
          have Is21 : Bd s21 := eqB hs21 (bd_I Is17 (show ((-2147483648) : Int) ≤ u ∧ u ≤ 2147483647 by first | exact ⟨p6.1, p6.2⟩ | omega) ⟨by first | exact p6.1 | omega, by first | exact p6.2 | omega⟩)
          have Fs21 := eqF hs21 (fm_I Gs17 (inl_ok (a := 106) rfl))
          have vs21 : iI s21 106 = u := eqI hs21 (iI_u ⟨by first | exact p6.1 | omega, by first | exact p6.2 | omega⟩)
          have ws21_105 : iI s21 105 = iI s17 105 := eqI hs21 rfl
          have cw22 : iC s21 400 (x).toNat = iC s17 400 (x).toNat := eqC hs21 rfl
          have fs21 : Fm [106] [] s17 s21 := by rw [hs21]; exact fm_I (fm_rf _ _ _) (show 106 ∈ _ by decide)
          have JRLx_s21 : RLx s21 := RLx_fm fs21 (by decide) JRLx_s17
          have JHX_s21 : HX s21 := HX_fm fs21 (by decide) JHX_s17
          have JHMk_s21 : HMk x s21 := HMk_fm fs21 (by decide) JHMk_s17
          refine z_const X rfl (z_store X (lv' := [(6, .int (Int32.ofInt 0)), (0, .ref (A 179)), (1, .int (Int32.ofInt x)), (2, .int (Int32.ofInt y)), (3, .int (Int32.ofInt z)), (4, .int (Int32.ofInt w)), (5, .int (Int32.ofInt u))]) rfl (by decide) (fun _ h => h) (WS_pq [1, 0] (lv' := [(0, .ref (A 179)), (6, .int (Int32.ofInt 0))]) rfl (L48 ((12 - 0 : Int).toNat + 1) s21 0 Is21 Fs21 JRLx_s21 JHX_s21 JHMk_s21 (by first | exact ⟨by decide, by decide⟩ | omega) (Nat.lt_succ_self _) ?_)))
          intro s23 x24 Is23 Fs23 JRLx_s23 JHX_s23 Qs23 hs23
          have b25 := bi_105 Is23
          have b26 := bi_106 Is23
          exact w_vret X.1 q hRt (ax_d X (show cdA 285 75 = some (.return_, 1, 0, 0, 0) from rfl)) (Nat.zero_le _) (Nat.zero_le _) ⟨_, rfl, Is23, Fs23, JRLx_s23, JHX_s23, rfl, Qs23⟩
        ·
          exact w_vret X.1 q hRt (ax_d X (show cdA 285 38 = some (.return_, 1, 0, 0, 0) from rfl)) (Nat.zero_le _) (Nat.zero_le _) ⟨_, rfl, Is17, Gs17, JRLx_s17, JHX_s17, rfl, JHMk_s17⟩
  ·
    as_aux_lemma =>
     refine z_load X (x := u) rfl (List.Mem.tail _ (List.Mem.tail _ (List.Mem.tail _ (List.Mem.tail _ (List.Mem.tail _ (List.Mem.head _)))))) (z_aload_n X (x := A 179) rfl (List.Mem.head _) (z_getI X 179 rfl (c518_ok rfl) rfl rfl ?_))
     have b27 := bi_106 I
     refine z_icmp_lt X (t := 18) rfl rfl ⟨by first | exact p6.1 | omega, by first | exact p6.2 | omega⟩ (rng_to _) (fun g28 => ?_) (fun g28 => ?_)
     ·
       refine z_load_n X (x := x) rfl (List.Mem.tail _ (List.Mem.head _)) (z_aload_n X (x := A 179) rfl (List.Mem.head _) (z_getI X 179 rfl (c518_ok rfl) rfl rfl ?_))
       have b29 := bi_105 I
       refine z_icmp_ne X (t := 76) rfl rfl ⟨by first | exact oq_fa4e5087 p0.1 | omega, by first | exact oq_39d2cc6e p0.2 b29.2 | omega⟩ (rng_to _) (fun g30 => ?_) (fun g30 => ?_)
       ·
         refine z_aload_n X (x := A 179) rfl (List.Mem.head _) (s_getR X 179 rfl (c518_ok rfl) rfl rfl (z_load_n X (x := x) rfl (List.Mem.tail _ (List.Mem.head _)) (z_ald X 455 rfl (c518_ok rfl) rfl (by first | exact p0.1 | omega) (show x < 8 by first | exact oq_1fa780f7 g30 p2 p0.2 | omega) (cbig_ok rfl) ?_)))
         have b31 := bc_400 I (show (x).toNat < 8 by first | exact oq_54c6e91f g30 p2 p0.2 | omega)
         refine z_store X (lv' := [(6, .int (Int32.ofInt (iC s 400 (x).toNat))), (0, .ref (A 179)), (1, .int (Int32.ofInt x)), (2, .int (Int32.ofInt y)), (3, .int (Int32.ofInt z)), (4, .int (Int32.ofInt w)), (5, .int (Int32.ofInt u))]) rfl (by decide) (fun _ h => h) (z_const X rfl (z_store X (lv' := [(7, .int (Int32.ofInt 1)), (6, .int (Int32.ofInt (iC s 400 (x).toNat))), (0, .ref (A 179)), (1, .int (Int32.ofInt x)), (2, .int (Int32.ofInt y)), (3, .int (Int32.ofInt z)), (4, .int (Int32.ofInt w)), (5, .int (Int32.ofInt u))]) rfl (by decide) (fun _ h => h) (WS_pq [2, 3, 4, 5, 6, 7, 1, 0] (lv' := [(0, .ref (A 179)), (1, .int (Int32.ofInt x)), (2, .int (Int32.ofInt y)), (3, .int (Int32.ofInt z)), (4, .int (Int32.ofInt w)), (5, .int (Int32.ofInt u)), (6, .int (Int32.ofInt (iC s 400 (x).toNat))), (7, .int (Int32.ofInt 1))]) rfl (L87 ((4 - 1 : Int).toNat + 1) s x y z w u (iC s 400 (x).toNat) 1 I F jRLx jHX p7 (by first | exact ⟨by decide, And.intro (p3.1) (p3.2), And.intro (p4.1) (p4.2), And.intro (p5.1) (p5.2), And.intro (p6.1) (p6.2), p2, by decide, oq_06adfc3a g30 p0.2 p0.1, by decide, And.intro (b31.1) (b31.2), by decide, by decide⟩ | exact And.intro (rfl) (And.intro (And.intro (p3.1) (p3.2)) (And.intro (And.intro (p4.1) (p4.2)) (And.intro (And.intro (p5.1) (p5.2)) (And.intro (And.intro (p6.1) (p6.2)) (And.intro (p2) (And.intro (rfl) (And.intro (And.intro (p0.1) (oq_64407c64 g30 p0.2)) (And.intro (rfl) (And.intro (And.intro (b31.1) (b31.2)) (And.intro (oq_a200df08) (oq_1ba481cb))))))))))) | omega) (Nat.lt_succ_self _) ?_))))
         intro s32 x33 Is32 Fs32 JRLx_s32 JHX_s32 Qs32 hs32
         have b34 := bi_105 Is32
         have b35 := bi_106 Is32
         have esv : (iC s 400 (x).toNat) = iC s32 400 (x : Int).toNat := by first | exact hs32.2.2.2.2.2.2.2.2.1 | (clear g30 g4; omega) | (clear g4; omega) | omega
         refine z_aload_n X (x := A 179) rfl (List.Mem.head _) (s_getR X 179 rfl (c518_ok rfl) rfl rfl (z_load X (x := (iC s 400 (x).toNat)) rfl (List.Mem.tail _ (List.Mem.tail _ (List.Mem.tail _ (List.Mem.tail _ (List.Mem.tail _ (List.Mem.tail _ (List.Mem.head _))))))) (z_const X rfl (z_ast X 456 rfl (c518_ok rfl) rfl (by first | exact hs32.2.2.2.2.2.2.2.2.2.1.1 | omega) (show (iC s 400 (x).toNat) < 12 by first | exact oq_0ddfcfee hs32.2.2.2.2.2.2.2.2.2.1.2 | omega) (cbig_ok rfl) (wd_gen (fun s36 hs36 => ?_))))))
         have Is36 : Bd s36 := eqB hs36 (bd_C Is32 (show (0 : Int) ≤ 0 ∧ 0 ≤ 3 by first | exact ⟨by decide, by decide⟩ | omega) (by decide))
         have Fs36 := eqF hs36 (fm_C Fs32 (inl_ok (a := 401) rfl))
         have ws36_105 : iI s36 105 = iI s32 105 := eqI hs36 rfl
         have ws36_106 : iI s36 106 = iI s32 106 := eqI hs36 rfl
         have cw37 : iC s36 400 (x).toNat = iC s32 400 (x).toNat := eqC hs36 (iC_a (by first | exact oq_70ab2152 | (clear g30 g4; omega) | (clear g4; omega) | omega))
         have fs36 : Fm [] [401] s32 s36 := by rw [hs36]; exact fm_C (fm_rf _ _ _) (show 401 ∈ _ by decide)
         have JRLx_s36 : RLx s36 := RLx_fm fs36 (by decide) JRLx_s32
         have JHX_s36 : HX s36 := HX_fm fs36 (by decide) JHX_s32
         have JHMk_s36 : HMk x s36 := HMk_off Is32 JHX_s32 Qs32 (by first | exact And.intro (hs32.2.2.2.2.2.2.2.1.1) (oq_e297cd40 hs32.2.2.2.2.2.2.2.1.2 hs32.2.2.2.2.2.1) | (clear g30 g4; omega) | (clear g4; omega) | omega) (by first | exact hs32.2.2.2.2.2.2.2.1.2 | (clear g30 g4; omega) | (clear g4; omega) | omega) (by rw [← esv]; exact hs36)
         exact w_vret X.1 q hRt (ax_d X (show cdA 285 204 = some (.return_, 1, 0, 0, 0) from rfl)) (Nat.zero_le _) (Nat.zero_le _) ⟨_, rfl, Is36, Fs36, JRLx_s36, JHX_s36, rfl, JHMk_s36⟩
       ·
         as_aux_lemma =>
          refine z_aload_n X (x := A 179) rfl (List.Mem.head _) (z_load_n X (x := y) rfl (List.Mem.tail _ (List.Mem.tail _ (List.Mem.head _))) ?_)
          have JHM_s : HM s := ⟨jHX, HMk_le (by first | exact oq_fa711800 g30 | (clear g4; omega) | omega) p7⟩
          refine z_callV X 179 (rm := rmN 284) (As := [.int (Int32.ofInt y)]) (st := []) rfl rfl (by decide) rfl (by rw [E.1, E.2.1, E.2.2.1]; exact k_asMended G I jRLx JHM_s (by first | exact ⟨p3.1, p3.2⟩ | omega) (by first | exact p2 | omega)) ⟨by rw [E.2.2.2]; exact (show 10 + 1 ≤ (12 + (52 + (r + 1))) from oq_04dc1188 r), by rw [E.2.2.2]; exact (show 8 + (5 + 11) + 189 ≤ (500 + 45 * (52 + (r + 1))) from oq_bb8002ac r), by rw [E.2.2.2]; exact Nat.le_refl 0, by rw [E.2.2.2]; exact Nat.le_refl 0⟩ (Nat.le_of_ble_eq_true rfl) (fun vv s38 hq => ?_) (fun ee s38 hq => ?_)
          rotate_left
          · obtain ⟨Is38, Fs38, JRLx_s38, JNW_s38, hv, hps38⟩ := hq; cases hv
          obtain ⟨Is38, Fs38, JRLx_s38, JNW_s38, hv, hps38⟩ := hq
          cases hv
          have Gs38 := fm_tq F Fs38 rfl rfl
          have cw40 : iC s38 400 (x).toNat = iC s 400 (x).toNat := fm_c Fs38 (by decide)
          have JRLx_s38 : RLx s38 := RLx_fm Fs38 (by decide) jRLx
          have JHX_s38 : HX s38 := HX_fm Fs38 (by decide) jHX
          have JHMk_s38 : HMk x s38 := HMk_fm Fs38 (by decide) p7
          have ws38_105 : iI s38 105 = iI s 105 := fm_iq Fs38 rfl
          have ws38_106 : iI s38 106 = iI s 106 := fm_iq Fs38 rfl
          show WS k 31 [(0, .ref (A 179)), (1, .int (Int32.ofInt x)), (2, .int (Int32.ofInt y)), (3, .int (Int32.ofInt z)), (4, .int (Int32.ofInt w)), (5, .int (Int32.ofInt u))] [] (Wd A dT s38) 0 0
          refine z_aload_n X (x := A 179) rfl (List.Mem.head _) (z_callV X 179 (rm := rmN 283) (As := []) (st := []) rfl rfl (by decide) rfl (by rw [E.1, E.2.1, E.2.2.1]; exact k_isNoneFull G Is38 JNW_s38 ) ⟨by rw [E.2.2.2]; exact (show 37 + 1 ≤ (12 + (52 + (r + 1))) from oq_35b456ef r), by rw [E.2.2.2]; exact (show 8 + (2 + 11) + 1578 ≤ (500 + 45 * (52 + (r + 1))) from oq_14bb5664 r), by rw [E.2.2.2]; exact Nat.le_refl 0, by rw [E.2.2.2]; exact Nat.le_refl 0⟩ (Nat.le_of_ble_eq_true rfl) (fun vv s41 hq => ?_) (fun ee s41 hq => ?_))
          rotate_left
          · obtain ⟨Is41, Fs41, JNW_s41, e42, hv, hrs41, hps41⟩ := hq; cases hv
          obtain ⟨Is41, Fs41, JNW_s41, e42, hv, hrs41, hps41⟩ := hq
          cases hv
          have Gs41 := fm_tq Gs38 Fs41 rfl rfl
          have cw43 : iC s41 400 (x).toNat = iC s38 400 (x).toNat := fm_c Fs41 (by decide)
          have JRLx_s41 : RLx s41 := RLx_fm Fs41 (by decide) JRLx_s38
          have JHX_s41 : HX s41 := HX_fm Fs41 (by decide) JHX_s38
          have JHMk_s41 : HMk x s41 := HMk_fm Fs41 (by decide) JHMk_s38
          have JNW_s41 : NW s41 := NW_fm Fs41 (by decide) JNW_s38
          have ws41_105 : iI s41 105 = iI s38 105 := fm_iq Fs41 rfl
          have ws41_106 : iI s41 106 = iI s38 106 := fm_iq Fs41 rfl
          show WS k 35 [(0, .ref (A 179)), (1, .int (Int32.ofInt x)), (2, .int (Int32.ofInt y)), (3, .int (Int32.ofInt z)), (4, .int (Int32.ofInt w)), (5, .int (Int32.ofInt u))] [.int (Int32.ofInt e42)] (Wd A dT s41) 0 0
          refine z_if_ne X (t := 39) rfl rfl hrs41 (fun g44 => ?_) (fun g44 => ?_)
          ·
            refine z_aload_n X (x := A 179) rfl (List.Mem.head _) (z_load X (x := u) rfl (List.Mem.tail _ (List.Mem.tail _ (List.Mem.tail _ (List.Mem.tail _ (List.Mem.tail _ (List.Mem.head _)))))) (s_putI X 179 rfl (c518_ok rfl) rfl rfl (by decide) rfl rfl rfl (wd_gen (fun s45 hs45 => ?_))))
            have Is45 : Bd s45 := eqB hs45 (bd_I Is41 (show ((-2147483648) : Int) ≤ u ∧ u ≤ 2147483647 by first | exact ⟨p6.1, p6.2⟩ | omega) ⟨by first | exact p6.1 | omega, by first | exact p6.2 | omega⟩)
            have Fs45 := eqF hs45 (fm_I Gs41 (inl_ok (a := 106) rfl))
            have vs45 : iI s45 106 = u := eqI hs45 (iI_u ⟨by first | exact p6.1 | omega, by first | exact p6.2 | omega⟩)
            have ws45_105 : iI s45 105 = iI s41 105 := eqI hs45 rfl
            have cw46 : iC s45 400 (x).toNat = iC s41 400 (x).toNat := eqC hs45 rfl
            have fs45 : Fm [106] [] s41 s45 := by rw [hs45]; exact fm_I (fm_rf _ _ _) (show 106 ∈ _ by decide)
            have JRLx_s45 : RLx s45 := RLx_fm fs45 (by decide) JRLx_s41
            have JHX_s45 : HX s45 := HX_fm fs45 (by decide) JHX_s41
            have JHMk_s45 : HMk x s45 := HMk_fm fs45 (by decide) JHMk_s41
            refine z_const X rfl (z_store X (lv' := [(6, .int (Int32.ofInt 0)), (0, .ref (A 179)), (1, .int (Int32.ofInt x)), (2, .int (Int32.ofInt y)), (3, .int (Int32.ofInt z)), (4, .int (Int32.ofInt w)), (5, .int (Int32.ofInt u))]) rfl (by decide) (fun _ h => h) (WS_pq [1, 0] (lv' := [(0, .ref (A 179)), (6, .int (Int32.ofInt 0))]) rfl (L48 ((12 - 0 : Int).toNat + 1) s45 0 Is45 Fs45 JRLx_s45 JHX_s45 JHMk_s45 (by first | exact ⟨by decide, by decide⟩ | omega) (Nat.lt_succ_self _) ?_)))
            intro s47 x48 Is47 Fs47 JRLx_s47 JHX_s47 Qs47 hs47
            have b49 := bi_105 Is47
            have b50 := bi_106 Is47
            exact w_vret X.1 q hRt (ax_d X (show cdA 285 75 = some (.return_, 1, 0, 0, 0) from rfl)) (Nat.zero_le _) (Nat.zero_le _) ⟨_, rfl, Is47, Fs47, JRLx_s47, JHX_s47, rfl, Qs47⟩
          ·
            exact w_vret X.1 q hRt (ax_d X (show cdA 285 38 = some (.return_, 1, 0, 0, 0) from rfl)) (Nat.zero_le _) (Nat.zero_le _) ⟨_, rfl, Is41, Gs41, JRLx_s41, JHX_s41, rfl, JHMk_s41⟩
     ·
       exact w_vret X.1 q hRt (ax_d X (show cdA 285 17 = some (.return_, 1, 0, 0, 0) from rfl)) (Nat.zero_le _) (Nat.zero_le _) ⟨_, rfl, I, F, jRLx, jHX, rfl, p7⟩
theorem k_gor (G : GX l s0 D tys a0 dT) (r : Nat) : ∀ {s : PS} {x y z w u : Int}, Bd s → RLx s → HX s → (0 ≤ x ∧ x ≤ iI s 105) → (iI s 105 - x ≤ ((r : Nat) : Int)) → (iI s 105 ≤ 8) → (0 ≤ y ∧ y ≤ 23) → (0 ≤ z ∧ z ≤ 8) → (0 ≤ w ∧ w ≤ 8) → (rng u) → (HMk x s) → CT l s0 D A dT 285 (rkR (52 + (r))) [.ref (A 179), .int (Int32.ofInt x), .int (Int32.ofInt y), .int (Int32.ofInt z), .int (Int32.ofInt w), .int (Int32.ofInt u)] s (fun o t => Bd t ∧ Fm [77, 75, 78, 79, 80, 81, 106] [202, 204, 205, 206, 207, 208, 209, 210, 211, 212, 213, 214, 215, 216, 217, 218, 219, 220, 221, 222, 223, 224, 225, 226, 227, 203, 161, 230, 401, 402] s t ∧ RLx t ∧ HX t ∧ o = .inl none ∧ (HMk x t)) := by
  induction r with
  | zero => exact fun {_ _ _ _ _ _} I a b p0 p1 p2 p3 p4 p5 p6 p7 => k_go0 G I a b p0 p1 p2 p3 p4 p5 p6 p7
  | succ r ih => exact fun {_ _ _ _ _ _} I a b p0 p1 p2 p3 p4 p5 p6 p7 => k_goS G ih I a b p0 p1 p2 p3 p4 p5 p6 p7
set_option maxRecDepth 4000 in
theorem k_mends (G : GX l s0 D tys a0 dT) (I : Bd s) (jRLx : RLx s) {x y z w : Int} (p0 : rng x) (p1 : rng y) (p2 : rng z) (p3 : rng w) : CT l s0 D A dT 286 (rmN 286) [.ref (A 179), .int (Int32.ofInt x), .int (Int32.ofInt y), .int (Int32.ofInt z), .int (Int32.ofInt w)] s (fun o t => Bd t ∧ Fm [73, 105, 106, 77, 75, 78, 79, 80, 81] [401, 400, 403, 404, 232, 402, 405, 406, 407, 408, 409, 410, 411, 412, 413, 414, 415, 416, 202, 204, 205, 206, 207, 208, 209, 210, 211, 212, 213, 214, 215, 216, 217, 218, 219, 220, 221, 222, 223, 224, 225, 226, 227, 203, 161, 230] s t ∧ RLx t ∧ ∃ e, o = .inl (some (.int (Int32.ofInt e))) ∧ rng e ∧ (True)) := by
  refine ct_of G (by decide) (Nat.le_of_ble_eq_true rfl) (fun k X E hRt hXt q => ?_)
  show WS k 0 [(0, .ref (A 179)), (1, .int (Int32.ofInt x)), (2, .int (Int32.ofInt y)), (3, .int (Int32.ofInt z)), (4, .int (Int32.ofInt w))] [] _ 0 0
  have F : Fm [73, 105, 106, 77, 75, 78, 79, 80, 81] [401, 400, 403, 404, 232, 402, 405, 406, 407, 408, 409, 410, 411, 412, 413, 414, 415, 416, 202, 204, 205, 206, 207, 208, 209, 210, 211, 212, 213, 214, 215, 216, 217, 218, 219, 220, 221, 222, 223, 224, 225, 226, 227, 203, 161, 230] s s := fm_rf _ _ s
  have b1 := bi_73 I
  have b2 := bi_105 I
  have b3 := bi_90 I
  have b4 := bi_106 I
  have L73 : ∀ (n : Nat) (t : PS) (xv yv zv wv bi av : Int), Bd t → Fm [73, 105, 106, 77, 75, 78, 79, 80, 81] [401, 400, 403, 404, 232, 402, 405, 406, 407, 408, 409, 410, 411, 412, 413, 414, 415, 416, 202, 204, 205, 206, 207, 208, 209, 210, 211, 212, 213, 214, 215, 216, 217, 218, 219, 220, 221, 222, 223, 224, 225, 226, 227, 203, 161, 230] s t → RLx t → (HXa av t) → ((0 ≤ xv ∧ xv ≤ 23) ∧ (0 ≤ yv ∧ yv ≤ 8) ∧ (0 ≤ zv ∧ zv ≤ 8) ∧ (-2 ≤ wv ∧ wv ≤ 11) ∧ rng bi ∧ 0 ≤ av ∧ av ≤ iI t 90 ∧ iI t 105 ≤ av) → (12 - av : Int).toNat < n → (∀ (t' : PS) (bi' av' : Int), Bd t' → Fm [73, 105, 106, 77, 75, 78, 79, 80, 81] [401, 400, 403, 404, 232, 402, 405, 406, 407, 408, 409, 410, 411, 412, 413, 414, 415, 416, 202, 204, 205, 206, 207, 208, 209, 210, 211, 212, 213, 214, 215, 216, 217, 218, 219, 220, 221, 222, 223, 224, 225, 226, 227, 203, 161, 230] s t' → RLx t' → (HXa av' t') → ((0 ≤ xv ∧ xv ≤ 23) ∧ (0 ≤ yv ∧ yv ≤ 8) ∧ (0 ≤ zv ∧ zv ≤ 8) ∧ (-2 ≤ wv ∧ wv ≤ 11) ∧ rng bi' ∧ 0 ≤ av' ∧ av' ≤ iI t' 90 ∧ iI t' 105 ≤ av') → WS k 148 [(0, .ref (A 179)), (1, .int (Int32.ofInt xv)), (2, .int (Int32.ofInt yv)), (3, .int (Int32.ofInt zv)), (4, .int (Int32.ofInt wv)), (5, .int (Int32.ofInt bi')), (6, .int (Int32.ofInt av'))] [] (Wd A dT t') 0 0) → WS k 73 [(0, .ref (A 179)), (1, .int (Int32.ofInt xv)), (2, .int (Int32.ofInt yv)), (3, .int (Int32.ofInt zv)), (4, .int (Int32.ofInt wv)), (5, .int (Int32.ofInt bi)), (6, .int (Int32.ofInt av))] [] (Wd A dT t) 0 0 := by
    intro n
    induction n with
    | zero =>
      intro t xv yv zv wv bi av I F jjRLx hq hi hm kx
      exact absurd hm (Nat.not_lt_zero _)
    | succ n ih =>
      intro t xv yv zv wv bi av I F jjRLx hq hi hm kx
      have b1001 := bi_73 I
      have b1002 := bi_105 I
      have b1003 := bi_90 I
      have b1004 := bi_106 I
      refine z_load X (x := av) rfl (List.Mem.tail _ (List.Mem.tail _ (List.Mem.tail _ (List.Mem.tail _ (List.Mem.tail _ (List.Mem.tail _ (List.Mem.head _))))))) (z_aload_n X (x := A 179) rfl (List.Mem.head _) (z_getI X 179 rfl (c518_ok rfl) rfl rfl ?_))
      have b1005 := bi_90 I
      refine z_icmp_ge X (t := 148) rfl rfl ⟨by first | exact oq_fa4e5087 hi.2.2.2.2.2.1 | omega, by first | exact oq_39d2cc6e hi.2.2.2.2.2.2.1 b1005.2 | omega⟩ (rng_to _) (fun g1006 => ?_) (fun g1006 => ?_)
      ·
        refine WS_pq [0, 1, 2, 3, 4, 5, 6] (lv' := [(0, .ref (A 179)), (1, .int (Int32.ofInt xv)), (2, .int (Int32.ofInt yv)), (3, .int (Int32.ofInt zv)), (4, .int (Int32.ofInt wv)), (5, .int (Int32.ofInt bi)), (6, .int (Int32.ofInt av))]) rfl ?_
        exact kx _ bi av I F jjRLx hq (by first | exact ⟨And.intro (hi.1.1) (hi.1.2), And.intro (hi.2.1.1) (hi.2.1.2), And.intro (hi.2.2.1.1) (hi.2.2.1.2), And.intro (hi.2.2.2.1.1) (hi.2.2.2.1.2), And.intro (hi.2.2.2.2.1.1) (hi.2.2.2.2.1.2), hi.2.2.2.2.2.1, hi.2.2.2.2.2.2.1, hi.2.2.2.2.2.2.2⟩ | omega)
      ·
        as_aux_lemma =>
         refine z_aload_n X (x := A 179) rfl (List.Mem.head _) (s_getR X 179 rfl (c518_ok rfl) rfl rfl (z_load X (x := av) rfl (List.Mem.tail _ (List.Mem.tail _ (List.Mem.tail _ (List.Mem.tail _ (List.Mem.tail _ (List.Mem.tail _ (List.Mem.head _))))))) (z_const X rfl (z_ast X 456 rfl (c518_ok rfl) rfl (by first | exact hi.2.2.2.2.2.1 | omega) (show av < 12 by first | exact oq_f36e82a8 g1006 b1005.2 | omega) (cbig_ok rfl) (wd_gen (fun s1007 hs1007 => ?_))))))
         have Is1007 : Bd s1007 := eqB hs1007 (bd_C I (show (0 : Int) ≤ 0 ∧ 0 ≤ 3 by first | exact ⟨by decide, by decide⟩ | omega) (by decide))
         have Fs1007 := eqF hs1007 (fm_C F (inl_ok (a := 401) rfl))
         have ws1007_73 : iI s1007 73 = iI t 73 := eqI hs1007 rfl
         have ws1007_105 : iI s1007 105 = iI t 105 := eqI hs1007 rfl
         have ws1007_90 : iI s1007 90 = iI t 90 := eqI hs1007 rfl
         have ws1007_106 : iI s1007 106 = iI t 106 := eqI hs1007 rfl
         have fs1007 : Fm [] [401] t s1007 := by rw [hs1007]; exact fm_C (fm_rf _ _ _) (show 401 ∈ _ by decide)
         have JRLx_s1007 : RLx s1007 := RLx_fm fs1007 (by decide) jjRLx
         have JHXa_s1007 : HXa av s1007 := HXa_fm fs1007 (by decide) hq
         refine z_aload_n X (x := A 179) rfl (List.Mem.head _) (z_load X (x := av) rfl (List.Mem.tail _ (List.Mem.tail _ (List.Mem.tail _ (List.Mem.tail _ (List.Mem.tail _ (List.Mem.tail _ (List.Mem.head _))))))) (z_load_n X (x := xv) rfl (List.Mem.tail _ (List.Mem.head _)) (zcV_i0 X E 179 (As := [.int (Int32.ofInt av), .int (Int32.ofInt xv)]) (st := []) rfl rfl rfl rfl (k_isHit G Is1007 (by first | exact ⟨hi.2.2.2.2.2.1, oq_e4d7f3c5 g1006 b1005.2⟩ | omega) (by first | exact ⟨hi.1.1, hi.1.2⟩ | omega)) rfl (Nat.le_of_ble_eq_true rfl) (fun s1008 e1009 Is1008 Fs1008 hrs1008 hps1008 => ?_))))
         have Gs1008 := fm_tq Fs1007 Fs1008 rfl rfl
         have JRLx_s1008 : RLx s1008 := RLx_fm Fs1008 (by decide) JRLx_s1007
         have JHXa_s1008 : HXa av s1008 := HXa_fm Fs1008 (by decide) JHXa_s1007
         have ws1008_73 : iI s1008 73 = iI s1007 73 := fm_iq Fs1008 rfl
         have ws1008_105 : iI s1008 105 = iI s1007 105 := fm_iq Fs1008 rfl
         have ws1008_90 : iI s1008 90 = iI s1007 90 := fm_iq Fs1008 rfl
         have ws1008_106 : iI s1008 106 = iI s1007 106 := fm_iq Fs1008 rfl
         refine z_if_ne X (t := 103) rfl rfl hrs1008 (fun g1010 => ?_) (fun g1010 => ?_)
         ·
           refine z_load X (x := bi) rfl (List.Mem.tail _ (List.Mem.tail _ (List.Mem.tail _ (List.Mem.tail _ (List.Mem.tail _ (List.Mem.head _)))))) (z_const X rfl (z_load X (x := av) rfl (List.Mem.tail _ (List.Mem.tail _ (List.Mem.tail _ (List.Mem.tail _ (List.Mem.tail _ (List.Mem.tail _ (List.Mem.head _))))))) (z_bshl X rfl (z_any (fun y1011 hy1011 => ?_)))))
           refine z_bor X rfl (z_any (fun y1012 hy1012 => ?_))
           refine z_store X (lv' := [(5, .int (Int32.ofInt y1012)), (0, .ref (A 179)), (1, .int (Int32.ofInt xv)), (2, .int (Int32.ofInt yv)), (3, .int (Int32.ofInt zv)), (4, .int (Int32.ofInt wv)), (6, .int (Int32.ofInt av))]) rfl (by decide) (fun _ h => h) (z_aload_n X (x := A 179) rfl (List.Mem.tail _ (List.Mem.head _)) (z_getI X 179 rfl (c518_ok rfl) rfl rfl ?_))
           have b1013 := bi_105 Is1008
           refine z_bipush X rfl (z_icmp_ge X (t := 132) rfl rfl (rng_to _) (by decide) (fun g1014 => ?_) (fun g1014 => ?_))
           ·
             refine z_aload_n X (x := A 179) rfl (List.Mem.tail _ (List.Mem.head _)) (w_dup X.1 (ax_d X (show cdA 286 133 = some (.dup, 1, 0, 0, 0) from rfl)) rfl (z_getI X 179 rfl (c518_ok rfl) rfl rfl ?_))
             have b1015 := bi_105 Is1008
             refine z_const X rfl (z_add X rfl (s_putI X 179 rfl (c518_ok rfl) rfl rfl (by decide) rfl rfl rfl (wd_gen (fun s1016 hs1016 => ?_))))
             have Is1016 : Bd s1016 := eqB hs1016 (bd_I Is1008 (show (0 : Int) ≤ ((iI s1008 105) + 1) ∧ ((iI s1008 105) + 1) ≤ 12 by first | exact ⟨oq_54f49eb5 b1015.1, oq_1fea0193 ws1008_105 ws1007_105 hi.2.2.2.2.2.2.2 g1006 b1005.2⟩ | omega) ⟨by first | exact oq_74de1e16 b1015.1 | omega, by first | exact oq_76a8a5b7 b1015.2 | omega⟩)
             have Fs1016 := eqF hs1016 (fm_I Gs1008 (inl_ok (a := 105) rfl))
             have vs1016 : iI s1016 105 = ((iI s1008 105) + 1) := eqI hs1016 (iI_u ⟨by first | exact oq_74de1e16 b1015.1 | omega, by first | exact oq_76a8a5b7 b1015.2 | omega⟩)
             have ws1016_73 : iI s1016 73 = iI s1008 73 := eqI hs1016 rfl
             have ws1016_90 : iI s1016 90 = iI s1008 90 := eqI hs1016 rfl
             have ws1016_106 : iI s1016 106 = iI s1008 106 := eqI hs1016 rfl
             have fs1016 : Fm [105] [] s1008 s1016 := by rw [hs1016]; exact fm_I (fm_rf _ _ _) (show 105 ∈ _ by decide)
             have JRLx_s1016 : RLx s1016 := RLx_fm fs1016 (by decide) JRLx_s1008
             have JHXa_s1016 : HXa (av + 1) s1016 := HXa_more JHXa_s1008 rfl (by first | exact And.intro (g1014) (oq_4b66d71f ws1008_105 ws1007_105 g1006 b1005.2 hi.2.2.2.2.2.2.2) | (clear g1010 hps1008; omega) | (clear hps1008; omega) | omega) hs1016
             refine z_inc X (x := av) (lv' := [(6, .int (Int32.ofInt (av + 1))), (5, .int (Int32.ofInt y1012)), (0, .ref (A 179)), (1, .int (Int32.ofInt xv)), (2, .int (Int32.ofInt yv)), (3, .int (Int32.ofInt zv)), (4, .int (Int32.ofInt wv))]) rfl (by decide) (List.Mem.tail _ (List.Mem.tail _ (List.Mem.tail _ (List.Mem.tail _ (List.Mem.tail _ (List.Mem.tail _ (List.Mem.head _))))))) (fun _ h => h) (z_goto X (t := 73) rfl rfl (WS_pq [2, 3, 4, 5, 6, 1, 0] (lv' := [(0, .ref (A 179)), (1, .int (Int32.ofInt xv)), (2, .int (Int32.ofInt yv)), (3, .int (Int32.ofInt zv)), (4, .int (Int32.ofInt wv)), (5, .int (Int32.ofInt y1012)), (6, .int (Int32.ofInt (av + 1)))]) rfl ?_))
             exact ih _ xv yv zv wv y1012 (av + 1) Is1016 Fs1016 JRLx_s1016 JHXa_s1016 (by first | exact ⟨And.intro (hi.1.1) (hi.1.2), And.intro (hi.2.1.1) (hi.2.1.2), And.intro (hi.2.2.1.1) (hi.2.2.1.2), And.intro (hi.2.2.2.1.1) (hi.2.2.2.1.2), And.intro (hy1012.1) (hy1012.2), oq_54f49eb5 hi.2.2.2.2.2.1, oq_11bbe77e ws1016_90 g1006 ws1008_90 ws1007_90, oq_9004941c vs1016 hi.2.2.2.2.2.2.2 ws1007_105 ws1008_105⟩ | omega) (by first | exact qk_me hm (by decide) (oq_b575e8c1 g1006 b1005.2) | exact oq_d41732c5 g1006 b1005.2 hm | omega) kx
           ·
             as_aux_lemma =>
              refine z_aload_n X (x := A 179) rfl (List.Mem.tail _ (List.Mem.head _)) (s_getR X 179 rfl (c518_ok rfl) rfl rfl (z_aload_n X (x := A 179) rfl (List.Mem.tail _ (List.Mem.head _)) (z_getI X 179 rfl (c518_ok rfl) rfl rfl ?_)))
              have b1017 := bi_105 Is1008
              refine z_load X (x := av) rfl (List.Mem.tail _ (List.Mem.tail _ (List.Mem.tail _ (List.Mem.tail _ (List.Mem.tail _ (List.Mem.tail _ (List.Mem.head _))))))) (z_ast X 455 rfl (c518_ok rfl) rfl (by first | exact b1017.1 | omega) (show (iI s1008 105) < 8 by first | exact g1014 | omega) (cbig_ok rfl) (wd_gen (fun s1018 hs1018 => ?_)))
              have Is1018 : Bd s1018 := eqB hs1018 (bd_C Is1008 (show (0 : Int) ≤ av ∧ av ≤ 11 by first | exact ⟨hi.2.2.2.2.2.1, oq_e4d7f3c5 g1006 b1005.2⟩ | omega) ⟨by first | exact oq_fa4e5087 hi.2.2.2.2.2.1 | omega, by first | exact oq_8be37138 g1006 b1005.2 | omega⟩)
              have Fs1018 := eqF hs1018 (fm_C Gs1008 (inl_ok (a := 400) rfl))
              have ws1018_73 : iI s1018 73 = iI s1008 73 := eqI hs1018 rfl
              have ws1018_105 : iI s1018 105 = iI s1008 105 := eqI hs1018 rfl
              have ws1018_90 : iI s1018 90 = iI s1008 90 := eqI hs1018 rfl
              have ws1018_106 : iI s1018 106 = iI s1008 106 := eqI hs1018 rfl
              have fs1018 : Fm [] [400] s1008 s1018 := by rw [hs1018]; exact fm_C (fm_rf _ _ _) (show 400 ∈ _ by decide)
              have JRLx_s1018 : RLx s1018 := RLx_fm fs1018 (by decide) JRLx_s1008
              refine z_aload_n X (x := A 179) rfl (List.Mem.tail _ (List.Mem.head _)) (w_dup X.1 (ax_d X (show cdA 286 133 = some (.dup, 1, 0, 0, 0) from rfl)) rfl (z_getI X 179 rfl (c518_ok rfl) rfl rfl ?_))
              have b1019 := bi_105 Is1018
              refine z_const X rfl (z_add X rfl (s_putI X 179 rfl (c518_ok rfl) rfl rfl (by decide) rfl rfl rfl (wd_gen (fun s1020 hs1020 => ?_))))
              have Is1020 : Bd s1020 := eqB hs1020 (bd_I Is1018 (show (0 : Int) ≤ ((iI s1018 105) + 1) ∧ ((iI s1018 105) + 1) ≤ 12 by first | exact ⟨oq_54f49eb5 b1019.1, oq_8860b8cf ws1018_105 g1014⟩ | omega) ⟨by first | exact oq_74de1e16 b1019.1 | omega, by first | exact oq_76a8a5b7 b1019.2 | omega⟩)
              have Fs1020 := eqF hs1020 (fm_I Fs1018 (inl_ok (a := 105) rfl))
              have vs1020 : iI s1020 105 = ((iI s1018 105) + 1) := eqI hs1020 (iI_u ⟨by first | exact oq_74de1e16 b1019.1 | omega, by first | exact oq_76a8a5b7 b1019.2 | omega⟩)
              have ws1020_73 : iI s1020 73 = iI s1018 73 := eqI hs1020 rfl
              have ws1020_90 : iI s1020 90 = iI s1018 90 := eqI hs1020 rfl
              have ws1020_106 : iI s1020 106 = iI s1018 106 := eqI hs1020 rfl
              have fs1020 : Fm [105] [] s1018 s1020 := by rw [hs1020]; exact fm_I (fm_rf _ _ _) (show 105 ∈ _ by decide)
              have JRLx_s1020 : RLx s1020 := RLx_fm fs1020 (by decide) JRLx_s1018
              have JHXa_s1020 : HXa (av + 1) s1020 := HXa_up Is1008 JHXa_s1008 rfl (by first | exact And.intro (b1017.1) (oq_78c639ed g1014) | (clear g1010 hps1008; omega) | (clear hps1008; omega) | omega) (by first | exact And.intro (hi.2.2.2.2.2.1) (oq_e4d7f3c5 g1006 b1005.2) | (clear g1010 hps1008; omega) | (clear hps1008; omega) | omega) hs1018 (by rw [← ws1018_105]; exact hs1020)
              refine z_inc X (x := av) (lv' := [(6, .int (Int32.ofInt (av + 1))), (5, .int (Int32.ofInt y1012)), (0, .ref (A 179)), (1, .int (Int32.ofInt xv)), (2, .int (Int32.ofInt yv)), (3, .int (Int32.ofInt zv)), (4, .int (Int32.ofInt wv))]) rfl (by decide) (List.Mem.tail _ (List.Mem.tail _ (List.Mem.tail _ (List.Mem.tail _ (List.Mem.tail _ (List.Mem.tail _ (List.Mem.head _))))))) (fun _ h => h) (z_goto X (t := 73) rfl rfl (WS_pq [2, 3, 4, 5, 6, 1, 0] (lv' := [(0, .ref (A 179)), (1, .int (Int32.ofInt xv)), (2, .int (Int32.ofInt yv)), (3, .int (Int32.ofInt zv)), (4, .int (Int32.ofInt wv)), (5, .int (Int32.ofInt y1012)), (6, .int (Int32.ofInt (av + 1)))]) rfl ?_))
              exact ih _ xv yv zv wv y1012 (av + 1) Is1020 Fs1020 JRLx_s1020 JHXa_s1020 (by first | exact ⟨And.intro (hi.1.1) (hi.1.2), And.intro (hi.2.1.1) (hi.2.1.2), And.intro (hi.2.2.1.1) (hi.2.2.1.2), And.intro (hi.2.2.2.1.1) (hi.2.2.2.1.2), And.intro (hy1012.1) (hy1012.2), oq_54f49eb5 hi.2.2.2.2.2.1, oq_8b75b474 ws1020_90 g1006 ws1018_90 ws1008_90 ws1007_90, oq_c76b92bc vs1020 hi.2.2.2.2.2.2.2 ws1007_105 ws1008_105 ws1018_105⟩ | omega) (by first | exact qk_me hm (by decide) (oq_b575e8c1 g1006 b1005.2) | exact oq_d41732c5 g1006 b1005.2 hm | omega) kx
         ·
           refine z_goto X (t := 142) rfl rfl (z_inc X (x := av) (lv' := [(6, .int (Int32.ofInt (av + 1))), (0, .ref (A 179)), (1, .int (Int32.ofInt xv)), (2, .int (Int32.ofInt yv)), (3, .int (Int32.ofInt zv)), (4, .int (Int32.ofInt wv)), (5, .int (Int32.ofInt bi))]) rfl (by decide) (List.Mem.tail _ (List.Mem.tail _ (List.Mem.tail _ (List.Mem.tail _ (List.Mem.tail _ (List.Mem.tail _ (List.Mem.head _))))))) (fun _ h => h) (z_goto X (t := 73) rfl rfl (WS_pq [1, 2, 3, 4, 5, 6, 0] (lv' := [(0, .ref (A 179)), (1, .int (Int32.ofInt xv)), (2, .int (Int32.ofInt yv)), (3, .int (Int32.ofInt zv)), (4, .int (Int32.ofInt wv)), (5, .int (Int32.ofInt bi)), (6, .int (Int32.ofInt (av + 1)))]) rfl ?_)))
           exact ih _ xv yv zv wv bi (av + 1) Is1008 Gs1008 JRLx_s1008 (HXa_le (by first | exact oq_34d72ec6 | (clear hps1008; omega) | omega) JHXa_s1008) (by first | exact ⟨And.intro (hi.1.1) (hi.1.2), And.intro (hi.2.1.1) (hi.2.1.2), And.intro (hi.2.2.1.1) (hi.2.2.1.2), And.intro (hi.2.2.2.1.1) (hi.2.2.2.1.2), And.intro (hi.2.2.2.2.1.1) (hi.2.2.2.2.1.2), oq_54f49eb5 hi.2.2.2.2.2.1, oq_adbdfad6 ws1008_90 g1006 ws1007_90, oq_2e1f687c ws1008_105 hi.2.2.2.2.2.2.2 ws1007_105⟩ | omega) (by first | exact qk_me hm (by decide) (oq_b575e8c1 g1006 b1005.2) | exact oq_d41732c5 g1006 b1005.2 hm | omega) kx
  have L177 : ∀ (n : Nat) (t : PS) (xv yv zv wv iv : Int), Bd t → Fm [73, 105, 106, 77, 75, 78, 79, 80, 81] [401, 400, 403, 404, 232, 402, 405, 406, 407, 408, 409, 410, 411, 412, 413, 414, 415, 416, 202, 204, 205, 206, 207, 208, 209, 210, 211, 212, 213, 214, 215, 216, 217, 218, 219, 220, 221, 222, 223, 224, 225, 226, 227, 203, 161, 230] s t → RLx t → (HX t) → ((0 ≤ xv ∧ xv ≤ 23) ∧ (0 ≤ yv ∧ yv ≤ 8) ∧ (0 ≤ zv ∧ zv ≤ 8) ∧ (-2 ≤ wv ∧ wv ≤ 11) ∧ 0 ≤ iv ∧ iv ≤ 8 ∧ iI t 105 ≤ 8) → (8 - iv : Int).toNat < n → (∀ (t' : PS) (iv' : Int), Bd t' → Fm [73, 105, 106, 77, 75, 78, 79, 80, 81] [401, 400, 403, 404, 232, 402, 405, 406, 407, 408, 409, 410, 411, 412, 413, 414, 415, 416, 202, 204, 205, 206, 207, 208, 209, 210, 211, 212, 213, 214, 215, 216, 217, 218, 219, 220, 221, 222, 223, 224, 225, 226, 227, 203, 161, 230] s t' → RLx t' → (HX t') → ((0 ≤ xv ∧ xv ≤ 23) ∧ (0 ≤ yv ∧ yv ≤ 8) ∧ (0 ≤ zv ∧ zv ≤ 8) ∧ (-2 ≤ wv ∧ wv ≤ 11) ∧ 0 ≤ iv' ∧ iv' ≤ 8 ∧ iI t' 105 ≤ 8) → WS k 203 [(0, .ref (A 179)), (1, .int (Int32.ofInt xv)), (2, .int (Int32.ofInt yv)), (3, .int (Int32.ofInt zv)), (4, .int (Int32.ofInt wv)), (6, .int (Int32.ofInt iv'))] [] (Wd A dT t') 0 0) → WS k 177 [(0, .ref (A 179)), (1, .int (Int32.ofInt xv)), (2, .int (Int32.ofInt yv)), (3, .int (Int32.ofInt zv)), (4, .int (Int32.ofInt wv)), (6, .int (Int32.ofInt iv))] [] (Wd A dT t) 0 0 := by
    as_aux_lemma =>
     intro n
     induction n with
     | zero =>
       intro t xv yv zv wv iv I F jjRLx hq hi hm kx
       exact absurd hm (Nat.not_lt_zero _)
     | succ n ih =>
       intro t xv yv zv wv iv I F jjRLx hq hi hm kx
       have b2001 := bi_73 I
       have b2002 := bi_105 I
       have b2003 := bi_90 I
       have b2004 := bi_106 I
       refine z_load X (x := iv) rfl (List.Mem.tail _ (List.Mem.tail _ (List.Mem.tail _ (List.Mem.tail _ (List.Mem.tail _ (List.Mem.head _)))))) (z_aload_n X (x := A 179) rfl (List.Mem.head _) (z_getI X 179 rfl (c518_ok rfl) rfl rfl ?_))
       have b2005 := bi_105 I
       refine z_icmp_ge X (t := 203) rfl rfl ⟨by first | exact oq_fa4e5087 hi.2.2.2.2.1 | omega, by first | exact oq_d3f5d874 hi.2.2.2.2.2.1 | omega⟩ (rng_to _) (fun g2006 => ?_) (fun g2006 => ?_)
       ·
         refine WS_pq [0, 1, 2, 3, 4, 5] (lv' := [(0, .ref (A 179)), (1, .int (Int32.ofInt xv)), (2, .int (Int32.ofInt yv)), (3, .int (Int32.ofInt zv)), (4, .int (Int32.ofInt wv)), (6, .int (Int32.ofInt iv))]) rfl ?_
         exact kx _ iv I F jjRLx hq (by first | exact ⟨And.intro (hi.1.1) (hi.1.2), And.intro (hi.2.1.1) (hi.2.1.2), And.intro (hi.2.2.1.1) (hi.2.2.1.2), And.intro (hi.2.2.2.1.1) (hi.2.2.2.1.2), hi.2.2.2.2.1, hi.2.2.2.2.2.1, hi.2.2.2.2.2.2⟩ | omega)
       ·
         refine z_aload_n X (x := A 179) rfl (List.Mem.head _) (z_aload_n X (x := A 179) rfl (List.Mem.head _) (s_getR X 179 rfl (c518_ok rfl) rfl rfl (z_load X (x := iv) rfl (List.Mem.tail _ (List.Mem.tail _ (List.Mem.tail _ (List.Mem.tail _ (List.Mem.tail _ (List.Mem.head _)))))) (z_ald X 455 rfl (c518_ok rfl) rfl (by first | exact hi.2.2.2.2.1 | omega) (show iv < 8 by first | exact oq_7f5b2e79 g2006 hi.2.2.2.2.2.2 | omega) (cbig_ok rfl) ?_))))
         have b2007 := bc_400 I (show (iv).toNat < 8 by first | exact oq_67be0351 g2006 hi.2.2.2.2.2.2 | omega)
         have hx92008 := ((hq) (iv : Int).toNat (by first | exact oq_67be0351 g2006 hi.2.2.2.2.2.2 | omega) (by first | exact oq_084ea114 g2006 hi.2.2.2.2.1 | omega)).1
         refine zcV_v1 X E 179 (As := [.int (Int32.ofInt (iC t 400 (iv).toNat))]) (st := []) rfl rfl rfl rfl (k_findRound G I jjRLx (by first | exact ⟨b2007.1, by first | exact hx92008 | omega⟩ | omega)) rfl (Nat.le_of_ble_eq_true rfl) (fun s2009 Is2009 Fs2009 JRLx_s2009 hps2009 => ?_)
         have Gs2009 := fm_tq F Fs2009 rfl rfl
         have JRLx_s2009 : RLx s2009 := RLx_fm Fs2009 (by decide) jjRLx
         have JHX_s2009 : HX s2009 := HX_fm Fs2009 (by decide) hq
         have ws2009_73 : iI s2009 73 = iI t 73 := fm_iq Fs2009 rfl
         have ws2009_105 : iI s2009 105 = iI t 105 := fm_iq Fs2009 rfl
         have ws2009_90 : iI s2009 90 = iI t 90 := fm_iq Fs2009 rfl
         have ws2009_106 : iI s2009 106 = iI t 106 := fm_iq Fs2009 rfl
         refine z_inc X (x := iv) (lv' := [(6, .int (Int32.ofInt (iv + 1))), (0, .ref (A 179)), (1, .int (Int32.ofInt xv)), (2, .int (Int32.ofInt yv)), (3, .int (Int32.ofInt zv)), (4, .int (Int32.ofInt wv))]) rfl (by decide) (List.Mem.tail _ (List.Mem.tail _ (List.Mem.tail _ (List.Mem.tail _ (List.Mem.tail _ (List.Mem.head _)))))) (fun _ h => h) (z_goto X (t := 177) rfl rfl (WS_pq [1, 2, 3, 4, 5, 0] (lv' := [(0, .ref (A 179)), (1, .int (Int32.ofInt xv)), (2, .int (Int32.ofInt yv)), (3, .int (Int32.ofInt zv)), (4, .int (Int32.ofInt wv)), (6, .int (Int32.ofInt (iv + 1)))]) rfl ?_))
         exact ih _ xv yv zv wv (iv + 1) Is2009 Gs2009 JRLx_s2009 JHX_s2009 (by first | exact ⟨And.intro (hi.1.1) (hi.1.2), And.intro (hi.2.1.1) (hi.2.1.2), And.intro (hi.2.2.1.1) (hi.2.2.1.2), And.intro (hi.2.2.2.1.1) (hi.2.2.2.1.2), oq_54f49eb5 hi.2.2.2.2.1, oq_f6204d84 g2006 hi.2.2.2.2.2.2, oq_86ef0b17 ws2009_105 hi.2.2.2.2.2.2⟩ | omega) (by first | exact qk_me hm (by decide) (oq_ccc5e5e0 g2006 hi.2.2.2.2.2.2) | exact oq_1de3c892 g2006 hm hi.2.2.2.2.2.2 | omega) kx
  refine z_aload_n X (x := A 179) rfl (List.Mem.head _) (z_const X rfl (s_putI X 179 rfl (c518_ok rfl) rfl rfl (by decide) rfl rfl rfl (wd_gen (fun s5 hs5 => ?_))))
  have Is5 : Bd s5 := eqB hs5 (bd_I I (show (0 : Int) ≤ 0 ∧ 0 ≤ 3 by first | exact ⟨by decide, by decide⟩ | omega) (by decide))
  have Fs5 := eqF hs5 (fm_I F (inl_ok (a := 73) rfl))
  have vs5 : iI s5 73 = 0 := eqI hs5 (iI_u (by decide))
  have ws5_105 : iI s5 105 = iI s 105 := eqI hs5 rfl
  have ws5_90 : iI s5 90 = iI s 90 := eqI hs5 rfl
  have ws5_106 : iI s5 106 = iI s 106 := eqI hs5 rfl
  have fs5 : Fm [73] [] s s5 := by rw [hs5]; exact fm_I (fm_rf _ _ _) (show 73 ∈ _ by decide)
  have JRLx_s5 : RLx s5 := RLx_fm fs5 (by decide) jRLx
  refine z_aload_n X (x := A 179) rfl (List.Mem.head _) (z_load_n X (x := x) rfl (List.Mem.tail _ (List.Mem.head _)) (z_const X rfl (z_bipush X rfl (zcS_i0 X E (As := [.int (Int32.ofInt x), .int (Int32.ofInt 0), .int (Int32.ofInt 23)]) (st := [.ref (A 179)]) rfl rfl (k_in G Is5 (by first | exact ⟨p0.1, p0.2⟩ | omega) (by first | exact ⟨by decide, by decide⟩ | omega) (by first | exact ⟨by decide, by decide⟩ | omega)) rfl (Nat.le_of_ble_eq_true rfl) (fun s6 e7 Is6 Fs6 hrs6 hps6 => ?_)))))
  have Gs6 := fm_tq Fs5 Fs6 rfl rfl
  have JRLx_s6 : RLx s6 := RLx_fm Fs6 (by decide) JRLx_s5
  have ws6_73 : iI s6 73 = iI s5 73 := fm_iq Fs6 rfl
  have ws6_105 : iI s6 105 = iI s5 105 := fm_iq Fs6 rfl
  have ws6_90 : iI s6 90 = iI s5 90 := fm_iq Fs6 rfl
  have ws6_106 : iI s6 106 = iI s5 106 := fm_iq Fs6 rfl
  refine z_if_eq X (t := 48) rfl rfl hrs6 (fun g8 => ?_) (fun g8 => ?_)
  ·
    as_aux_lemma =>
     refine z_const X rfl (z_goto X (t := 53) rfl rfl (z_const X rfl (zcV_i0 X E 179 (As := [.int (Int32.ofInt 1), .int (Int32.ofInt 1)]) (st := []) rfl rfl rfl rfl (k_bad G Is6 (by first | exact Or.inr (by decide) | omega) (by first | exact ⟨by decide, by decide⟩ | omega)) rfl (Nat.le_of_ble_eq_true rfl) (fun s9 e10 Is9 Fs9 hrs9 hps9 => ?_))))
     have Gs9 := fm_tq Gs6 Fs9 rfl rfl
     have JRLx_s9 : RLx s9 := RLx_fm Fs9 (by decide) JRLx_s6
     have b11 := bi_73 Is9
     have ws9_105 : iI s9 105 = iI s6 105 := fm_iq Fs9 rfl
     have ws9_90 : iI s9 90 = iI s6 90 := fm_iq Fs9 rfl
     have ws9_106 : iI s9 106 = iI s6 106 := fm_iq Fs9 rfl
     refine z_if_eq X (t := 62) rfl rfl hrs9 (fun g12 => ?_) (fun g12 => ?_)
     ·
       refine z_const X rfl (z_store X (lv' := [(5, .int (Int32.ofInt 0)), (0, .ref (A 179)), (1, .int (Int32.ofInt x)), (2, .int (Int32.ofInt y)), (3, .int (Int32.ofInt z)), (4, .int (Int32.ofInt w))]) rfl (by decide) (fun _ h => h) (z_aload_n X (x := A 179) rfl (List.Mem.tail _ (List.Mem.head _)) (z_const X rfl (s_putI X 179 rfl (c518_ok rfl) rfl rfl (by decide) rfl rfl rfl (wd_gen (fun s13 hs13 => ?_))))))
       have Is13 : Bd s13 := eqB hs13 (bd_I Is9 (show (0 : Int) ≤ 0 ∧ 0 ≤ 12 by first | exact ⟨by decide, by decide⟩ | omega) (by decide))
       have Fs13 := eqF hs13 (fm_I Gs9 (inl_ok (a := 105) rfl))
       have vs13 : iI s13 105 = 0 := eqI hs13 (iI_u (by decide))
       have ws13_73 : iI s13 73 = iI s9 73 := eqI hs13 rfl
       have ws13_90 : iI s13 90 = iI s9 90 := eqI hs13 rfl
       have ws13_106 : iI s13 106 = iI s9 106 := eqI hs13 rfl
       have fs13 : Fm [105] [] s9 s13 := by rw [hs13]; exact fm_I (fm_rf _ _ _) (show 105 ∈ _ by decide)
       have JRLx_s13 : RLx s13 := RLx_fm fs13 (by decide) JRLx_s9
       refine z_const X rfl (z_store X (lv' := [(6, .int (Int32.ofInt 0)), (5, .int (Int32.ofInt 0)), (0, .ref (A 179)), (1, .int (Int32.ofInt x)), (2, .int (Int32.ofInt y)), (3, .int (Int32.ofInt z)), (4, .int (Int32.ofInt w))]) rfl (by decide) (fun _ h => h) (WS_pq [2, 3, 4, 5, 6, 1, 0] (lv' := [(0, .ref (A 179)), (1, .int (Int32.ofInt x)), (2, .int (Int32.ofInt y)), (3, .int (Int32.ofInt z)), (4, .int (Int32.ofInt w)), (5, .int (Int32.ofInt 0)), (6, .int (Int32.ofInt 0))]) rfl (L73 ((12 - 0 : Int).toNat + 1) s13 x y z w 0 0 Is13 Fs13 JRLx_s13 (HXa_0 (by first | exact vs13 | (clear hps9 hps6; omega) | (clear hps6; omega) | omega)) (by first | exact ⟨oq_895647ec g12 hps9.2.1, oq_44ffe16c g12 hps9.2.1, oq_44ffe16c g12 hps9.2.1, oq_c67385d4 g12 hps9.2.1, And.intro (by decide) (by decide), by decide, oq_ea8cf281 ws13_90 ws9_90 ws6_90 ws5_90 b3.1, oq_1af0b4f8 vs13⟩ | exact And.intro (And.intro (oq_05f36df5 g12 hps9.2.1) (oq_ccd5ba31 g12 hps9.2.1)) (And.intro (And.intro (oq_05f36df5 g12 hps9.2.1) (oq_23b4ceb9 g12 hps9.2.1)) (And.intro (And.intro (oq_05f36df5 g12 hps9.2.1) (oq_23b4ceb9 g12 hps9.2.1)) (And.intro (And.intro (oq_bd71e2a4 g12 hps9.2.1) (oq_d8ec3725 g12 hps9.2.1)) (And.intro (And.intro (oq_d41b69a9) (oq_3b9bcde6)) (And.intro (oq_0fe6b7e2) (And.intro (oq_ea8cf281 ws13_90 ws9_90 ws6_90 ws5_90 b3.1) (oq_1af0b4f8 vs13))))))) | omega) (Nat.lt_succ_self _) ?_)))
       intro s14 x15 x16 Is14 Fs14 JRLx_s14 Qs14 hs14
       have b17 := bi_73 Is14
       have b18 := bi_105 Is14
       have b19 := bi_90 Is14
       have b20 := bi_106 Is14
       have JHX_s14 : HX s14 := HXa_le (by first | exact hs14.2.2.2.2.2.2.1 | (clear hps9 hps6; omega) | (clear hps6; omega) | omega) Qs14
       refine z_load X (x := w) rfl (List.Mem.tail _ (List.Mem.tail _ (List.Mem.tail _ (List.Mem.tail _ (List.Mem.head _))))) (z_bipush X rfl (z_icmp_ne X (t := 158) rfl rfl ⟨by first | exact p3.1 | omega, by first | exact p3.2 | omega⟩ (by decide) (fun g21 => ?_) (fun g21 => ?_)))
       ·
         as_aux_lemma =>
          refine z_aload_n X (x := A 179) rfl (List.Mem.head _) (z_const X rfl (s_putI X 179 rfl (c518_ok rfl) rfl rfl (by decide) rfl rfl rfl (wd_gen (fun s22 hs22 => ?_))))
          have Is22 : Bd s22 := eqB hs22 (bd_I Is14 (show ((-2147483648) : Int) ≤ (-1) ∧ (-1) ≤ 2147483647 by first | exact ⟨by decide, by decide⟩ | omega) (by decide))
          have Fs22 := eqF hs22 (fm_I Fs14 (inl_ok (a := 106) rfl))
          have vs22 : iI s22 106 = (-1) := eqI hs22 (iI_u (by decide))
          have ws22_73 : iI s22 73 = iI s14 73 := eqI hs22 rfl
          have ws22_105 : iI s22 105 = iI s14 105 := eqI hs22 rfl
          have ws22_90 : iI s22 90 = iI s14 90 := eqI hs22 rfl
          have fs22 : Fm [106] [] s14 s22 := by rw [hs22]; exact fm_I (fm_rf _ _ _) (show 106 ∈ _ by decide)
          have JRLx_s22 : RLx s22 := RLx_fm fs22 (by decide) JRLx_s14
          have JHX_s22 : HX s22 := HX_fm fs22 (by decide) JHX_s14
          refine z_aload_n X (x := A 179) rfl (List.Mem.head _) (z_getI X 179 rfl (c518_ok rfl) rfl rfl ?_)
          have b23 := bi_105 Is22
          refine z_bipush X rfl (z_icmp_le X (t := 174) rfl rfl (rng_to _) (by decide) (fun g24 => ?_) (fun g24 => ?_))
          ·
            refine z_const X rfl (z_store X (lv' := [(6, .int (Int32.ofInt 0)), (0, .ref (A 179)), (1, .int (Int32.ofInt x)), (2, .int (Int32.ofInt y)), (3, .int (Int32.ofInt z)), (4, .int (Int32.ofInt w)), (5, .int (Int32.ofInt x15))]) rfl (by decide) (fun _ h => h) (WS_pq [1, 2, 3, 4, 5, 0] (lv' := [(0, .ref (A 179)), (1, .int (Int32.ofInt x)), (2, .int (Int32.ofInt y)), (3, .int (Int32.ofInt z)), (4, .int (Int32.ofInt w)), (6, .int (Int32.ofInt 0))]) rfl (L177 ((8 - 0 : Int).toNat + 1) s22 x y z w 0 Is22 Fs22 JRLx_s22 JHX_s22 (by first | exact ⟨And.intro (hs14.1.1) (hs14.1.2), And.intro (hs14.2.1.1) (hs14.2.1.2), And.intro (hs14.2.2.1.1) (hs14.2.2.1.2), And.intro (hs14.2.2.2.1.1) (hs14.2.2.2.1.2), by decide, by decide, g24⟩ | omega) (Nat.lt_succ_self _) ?_)))
            intro s25 x26 Is25 Fs25 JRLx_s25 Qs25 hs25
            have b27 := bi_73 Is25
            have b28 := bi_105 Is25
            have b29 := bi_90 Is25
            have b30 := bi_106 Is25
            refine z_aload_n X (x := A 179) rfl (List.Mem.head _) (z_const X rfl (z_load_n X (x := x) rfl (List.Mem.tail _ (List.Mem.head _)) (z_load_n X (x := y) rfl (List.Mem.tail _ (List.Mem.tail _ (List.Mem.head _))) (z_load_n X (x := z) rfl (List.Mem.tail _ (List.Mem.tail _ (List.Mem.tail _ (List.Mem.head _)))) (z_const X rfl (z_callV X 179 (rm := (rkR (52 + 8))) (As := [.int (Int32.ofInt 0), .int (Int32.ofInt x), .int (Int32.ofInt y), .int (Int32.ofInt z), .int (Int32.ofInt 0)]) (st := []) rfl rfl (by decide) rfl (by rw [E.1, E.2.1, E.2.2.1]; exact k_gor G 8 Is25 JRLx_s25 Qs25 (by first | exact ⟨hs25.1.1, oq_27cc0e73 b28.1 hs25.1.2 g8 hps6⟩ | exact And.intro (oq_0fe6b7e2) (b28.1) | omega) (by first | exact oq_4f828635 hs25.2.2.2.2.2.2 hs25.1.1 | exact oq_a8ea036d hs25.2.2.2.2.2.2 | omega) (by first | exact hs25.2.2.2.2.2.2 | omega) (by first | exact ⟨hs25.2.1.1, oq_e30b7fd1 hs25.2.1.2⟩ | exact And.intro (hs25.1.1) (hs25.1.2) | omega) (by first | exact ⟨hs25.2.2.1.1, hs25.2.2.1.2⟩ | exact And.intro (hs25.2.1.1) (hs25.2.1.2) | omega) (by first | exact ⟨oq_b9c978bd hs25.1.2 hs25.1.1 g8 hps6, oq_9cb6df99 hs25.1.2 hs25.1.1 g8 hps6⟩ | omega) (by first | exact ⟨oq_f9dcde3f hs25.1.2 hs25.1.1 g8 hps6, oq_94559544 hs25.1.2 hs25.1.1 g8 hps6⟩ | omega) (fun i _ h => absurd h (by first | exact oq_625ee044 | (clear g21 hps9 hps6; omega) | (clear hps9 hps6; omega) | omega))) ⟨by rw [E.2.2.2]; exact (show 72 + 1 ≤ 73 from oq_26188e76), by rw [E.2.2.2]; exact (show 8 + (8 + 11) + 3200 ≤ 3227 from oq_e592698d), by rw [E.2.2.2]; exact Nat.le_refl 0, by rw [E.2.2.2]; exact Nat.le_refl 0⟩ (Nat.le_of_ble_eq_true rfl) (fun vv s31 hq => ?_) (fun ee s31 hq => ?_)))))))
            rotate_left
            · obtain ⟨Is31, Fs31, JRLx_s31, JHX_s31, hv, hps31⟩ := hq; cases hv
            obtain ⟨Is31, Fs31, JRLx_s31, JHX_s31, hv, hps31⟩ := hq
            cases hv
            have Gs31 := fm_tq Fs25 Fs31 rfl rfl
            have JRLx_s31 : RLx s31 := RLx_fm Fs31 (by decide) JRLx_s25
            have JHX_s31 : HX s31 := HX_fm Fs31 (by decide) Qs25
            have ws31_73 : iI s31 73 = iI s25 73 := fm_iq Fs31 rfl
            have ws31_105 : iI s31 105 = iI s25 105 := fm_iq Fs31 rfl
            have ws31_90 : iI s31 90 = iI s25 90 := fm_iq Fs31 rfl
            have b33 := bi_106 Is31
            show WS k 212 [(0, .ref (A 179)), (1, .int (Int32.ofInt x)), (2, .int (Int32.ofInt y)), (3, .int (Int32.ofInt z)), (4, .int (Int32.ofInt w)), (6, .int (Int32.ofInt x26))] [] (Wd A dT s31) 0 0
            refine z_aload_n X (x := A 179) rfl (List.Mem.head _) (z_getI X 179 rfl (c518_ok rfl) rfl rfl ?_)
            have b34 := bi_106 Is31
            refine z_const X rfl ?_
            have N35 : ∀ e36 : Int, ((((iI s31 106) ≠ (-1)) ∧ (w ≠ (-1)) ∧ ((0 : Int) ≤ iI s31 90 ∧ iI s31 90 ≤ 12) ∧ ((iI s31 90) ≤ w) ∧ e36 = 0) ∨ (((iI s31 106) ≠ (-1)) ∧ (w ≠ (-1)) ∧ ((0 : Int) ≤ iI s31 90 ∧ iI s31 90 ≤ 12) ∧ (w < (iI s31 90)) ∧ ((0 : Int) ≤ iC s31 402 (w).toNat ∧ iC s31 402 (w).toNat ≤ 3) ∧ e36 = (iC s31 402 (w).toNat)) ∨ (((iI s31 106) ≠ (-1)) ∧ (w = (-1)) ∧ (((-2147483648) : Int) ≤ iI s31 106 ∧ iI s31 106 ≤ 2147483647) ∧ e36 = (iI s31 106)) ∨ (((iI s31 106) = (-1)) ∧ e36 = (-1))) → WS k 257 [(0, .ref (A 179)), (1, .int (Int32.ofInt x)), (2, .int (Int32.ofInt y)), (3, .int (Int32.ofInt z)), (4, .int (Int32.ofInt w)), (6, .int (Int32.ofInt x26))] [.int (Int32.ofInt e36)] (Wd A dT s31) 0 0 := by
              intro e36 he36
              exact w_iret X.1 q hRt rfl (ax_d X (show cdA 286 257 = some (.ireturn, 1, 0, 0, 0) from rfl)) (Nat.zero_le _) (Nat.zero_le _) ⟨_, rfl, Is31, Gs31, JRLx_s31, e36, rfl, ⟨by first | exact oq_f9dcde3f hs25.1.2 hs25.1.1 g8 hps6 | omega, by first | exact oq_94559544 hs25.1.2 hs25.1.1 g8 hps6 | omega⟩, trivial⟩
            refine z_icmp_ne X (t := 224) rfl rfl (rng_to _) (by decide) (fun g37 => ?_) (fun g37 => ?_)
            ·
              refine z_load X (x := w) rfl (List.Mem.tail _ (List.Mem.tail _ (List.Mem.tail _ (List.Mem.tail _ (List.Mem.head _))))) (z_const X rfl (z_icmp_ne X (t := 237) rfl rfl ⟨by first | exact p3.1 | omega, by first | exact p3.2 | omega⟩ (by decide) (fun g38 => ?_) (fun g38 => ?_)))
              ·
                refine z_load X (x := w) rfl (List.Mem.tail _ (List.Mem.tail _ (List.Mem.tail _ (List.Mem.tail _ (List.Mem.head _))))) (z_aload_n X (x := A 179) rfl (List.Mem.head _) (z_getI X 179 rfl (c518_ok rfl) rfl rfl ?_))
                have b39 := bi_90 Is31
                refine z_icmp_ge X (t := 256) rfl rfl ⟨by first | exact p3.1 | omega, by first | exact p3.2 | omega⟩ (rng_to _) (fun g40 => ?_) (fun g40 => ?_)
                ·
                  exact z_const X rfl (N35 _ (Or.inl ⟨g37, g38, b39, g40, rfl⟩))
                ·
                  refine z_aload_n X (x := A 179) rfl (List.Mem.head _) (s_getR X 179 rfl (c518_ok rfl) rfl rfl (z_load X (x := w) rfl (List.Mem.tail _ (List.Mem.tail _ (List.Mem.tail _ (List.Mem.tail _ (List.Mem.head _))))) (z_ald X 457 rfl (c518_ok rfl) rfl (by first | exact oq_33feeab9 g38 hs25.2.2.2.1.1 g21 | omega) (show w < 12 by first | exact oq_0ddfcfee hs25.2.2.2.1.2 | omega) (cbig_ok rfl) ?_)))
                  have b41 := bc_402 Is31 (show (w).toNat < 12 by first | exact oq_9c5fa447 hs25.2.2.2.1.2 | omega)
                  exact z_goto X (t := 257) rfl rfl (N35 _ (Or.inr (Or.inl ⟨g37, g38, b39, g40, b41, rfl⟩)))
              ·
                refine z_aload_n X (x := A 179) rfl (List.Mem.head _) (z_getI X 179 rfl (c518_ok rfl) rfl rfl ?_)
                have b42 := bi_106 Is31
                exact z_goto X (t := 257) rfl rfl (N35 _ (Or.inr (Or.inr (Or.inl ⟨g37, g38, b42, rfl⟩))))
            ·
              exact z_const X rfl (z_goto X (t := 257) rfl rfl (N35 _ (Or.inr (Or.inr (Or.inr (⟨g37, rfl⟩))))))
          ·
            refine z_const X rfl ?_
            exact w_iret X.1 q hRt rfl (ax_d X (show cdA 286 173 = some (.ireturn, 1, 0, 0, 0) from rfl)) (Nat.zero_le _) (Nat.zero_le _) ⟨_, rfl, Is22, Fs22, JRLx_s22, (-1), rfl, (by decide), trivial⟩
       ·
         refine z_load X (x := x15) rfl (List.Mem.tail _ (List.Mem.tail _ (List.Mem.tail _ (List.Mem.tail _ (List.Mem.tail _ (List.Mem.head _)))))) ?_
         exact w_iret X.1 q hRt rfl (ax_d X (show cdA 286 157 = some (.ireturn, 1, 0, 0, 0) from rfl)) (Nat.zero_le _) (Nat.zero_le _) ⟨_, rfl, Is14, Fs14, JRLx_s14, x15, rfl, ⟨by first | exact hs14.2.2.2.2.1.1 | omega, by first | exact hs14.2.2.2.2.1.2 | omega⟩, trivial⟩
     ·
       refine z_const X rfl ?_
       exact w_iret X.1 q hRt rfl (ax_d X (show cdA 286 61 = some (.ireturn, 1, 0, 0, 0) from rfl)) (Nat.zero_le _) (Nat.zero_le _) ⟨_, rfl, Is9, Gs9, JRLx_s9, 0, rfl, (by decide), trivial⟩
  ·
    as_aux_lemma =>
     refine z_load_n X (x := y) rfl (List.Mem.tail _ (List.Mem.tail _ (List.Mem.head _))) (z_const X rfl (z_bipush X rfl (zcS_i0 X E (As := [.int (Int32.ofInt y), .int (Int32.ofInt 0), .int (Int32.ofInt 8)]) (st := [.ref (A 179)]) rfl rfl (k_in G Is6 (by first | exact ⟨p1.1, p1.2⟩ | omega) (by first | exact ⟨by decide, by decide⟩ | omega) (by first | exact ⟨by decide, by decide⟩ | omega)) rfl (Nat.le_of_ble_eq_true rfl) (fun s43 e44 Is43 Fs43 hrs43 hps43 => ?_))))
     have Gs43 := fm_tq Gs6 Fs43 rfl rfl
     have JRLx_s43 : RLx s43 := RLx_fm Fs43 (by decide) JRLx_s6
     have ws43_73 : iI s43 73 = iI s6 73 := fm_iq Fs43 rfl
     have ws43_105 : iI s43 105 = iI s6 105 := fm_iq Fs43 rfl
     have ws43_90 : iI s43 90 = iI s6 90 := fm_iq Fs43 rfl
     have ws43_106 : iI s43 106 = iI s6 106 := fm_iq Fs43 rfl
     refine z_if_eq X (t := 48) rfl rfl hrs43 (fun g45 => ?_) (fun g45 => ?_)
     ·
       refine z_const X rfl (z_goto X (t := 53) rfl rfl (z_const X rfl (zcV_i0 X E 179 (As := [.int (Int32.ofInt 1), .int (Int32.ofInt 1)]) (st := []) rfl rfl rfl rfl (k_bad G Is43 (by first | exact Or.inr (by decide) | omega) (by first | exact ⟨by decide, by decide⟩ | omega)) rfl (Nat.le_of_ble_eq_true rfl) (fun s46 e47 Is46 Fs46 hrs46 hps46 => ?_))))
       have Gs46 := fm_tq Gs43 Fs46 rfl rfl
       have JRLx_s46 : RLx s46 := RLx_fm Fs46 (by decide) JRLx_s43
       have b48 := bi_73 Is46
       have ws46_105 : iI s46 105 = iI s43 105 := fm_iq Fs46 rfl
       have ws46_90 : iI s46 90 = iI s43 90 := fm_iq Fs46 rfl
       have ws46_106 : iI s46 106 = iI s43 106 := fm_iq Fs46 rfl
       refine z_if_eq X (t := 62) rfl rfl hrs46 (fun g49 => ?_) (fun g49 => ?_)
       ·
         refine z_const X rfl (z_store X (lv' := [(5, .int (Int32.ofInt 0)), (0, .ref (A 179)), (1, .int (Int32.ofInt x)), (2, .int (Int32.ofInt y)), (3, .int (Int32.ofInt z)), (4, .int (Int32.ofInt w))]) rfl (by decide) (fun _ h => h) (z_aload_n X (x := A 179) rfl (List.Mem.tail _ (List.Mem.head _)) (z_const X rfl (s_putI X 179 rfl (c518_ok rfl) rfl rfl (by decide) rfl rfl rfl (wd_gen (fun s50 hs50 => ?_))))))
         have Is50 : Bd s50 := eqB hs50 (bd_I Is46 (show (0 : Int) ≤ 0 ∧ 0 ≤ 12 by first | exact ⟨by decide, by decide⟩ | omega) (by decide))
         have Fs50 := eqF hs50 (fm_I Gs46 (inl_ok (a := 105) rfl))
         have vs50 : iI s50 105 = 0 := eqI hs50 (iI_u (by decide))
         have ws50_73 : iI s50 73 = iI s46 73 := eqI hs50 rfl
         have ws50_90 : iI s50 90 = iI s46 90 := eqI hs50 rfl
         have ws50_106 : iI s50 106 = iI s46 106 := eqI hs50 rfl
         have fs50 : Fm [105] [] s46 s50 := by rw [hs50]; exact fm_I (fm_rf _ _ _) (show 105 ∈ _ by decide)
         have JRLx_s50 : RLx s50 := RLx_fm fs50 (by decide) JRLx_s46
         refine z_const X rfl (z_store X (lv' := [(6, .int (Int32.ofInt 0)), (5, .int (Int32.ofInt 0)), (0, .ref (A 179)), (1, .int (Int32.ofInt x)), (2, .int (Int32.ofInt y)), (3, .int (Int32.ofInt z)), (4, .int (Int32.ofInt w))]) rfl (by decide) (fun _ h => h) (WS_pq [2, 3, 4, 5, 6, 1, 0] (lv' := [(0, .ref (A 179)), (1, .int (Int32.ofInt x)), (2, .int (Int32.ofInt y)), (3, .int (Int32.ofInt z)), (4, .int (Int32.ofInt w)), (5, .int (Int32.ofInt 0)), (6, .int (Int32.ofInt 0))]) rfl (L73 ((12 - 0 : Int).toNat + 1) s50 x y z w 0 0 Is50 Fs50 JRLx_s50 (HXa_0 (by first | exact vs50 | (clear hps46 hps43 g8 hps6; omega) | (clear hps43 g8 hps6; omega) | omega)) (by first | exact ⟨oq_e5a089c2 g8 hps6, oq_44ffe16c g49 hps46.2.1, oq_44ffe16c g49 hps46.2.1, oq_c67385d4 g49 hps46.2.1, And.intro (by decide) (by decide), by decide, oq_d58199b3 ws50_90 ws46_90 ws43_90 ws6_90 ws5_90 b3.1, oq_1af0b4f8 vs50⟩ | exact And.intro (And.intro (oq_0159bb48 g8 hps6) (oq_8b498cf6 g8 hps6)) (And.intro (And.intro (oq_05f36df5 g49 hps46.2.1) (oq_23b4ceb9 g49 hps46.2.1)) (And.intro (And.intro (oq_05f36df5 g49 hps46.2.1) (oq_23b4ceb9 g49 hps46.2.1)) (And.intro (And.intro (oq_bd71e2a4 g49 hps46.2.1) (oq_d8ec3725 g49 hps46.2.1)) (And.intro (And.intro (oq_d41b69a9) (oq_3b9bcde6)) (And.intro (oq_0fe6b7e2) (And.intro (oq_d58199b3 ws50_90 ws46_90 ws43_90 ws6_90 ws5_90 b3.1) (oq_1af0b4f8 vs50))))))) | omega) (Nat.lt_succ_self _) ?_)))
         intro s51 x52 x53 Is51 Fs51 JRLx_s51 Qs51 hs51
         have b54 := bi_73 Is51
         have b55 := bi_105 Is51
         have b56 := bi_90 Is51
         have b57 := bi_106 Is51
         have JHX_s51 : HX s51 := HXa_le (by first | exact hs51.2.2.2.2.2.2.1 | (clear hps46 hps43 g8 hps6; omega) | (clear hps43 g8 hps6; omega) | omega) Qs51
         refine z_load X (x := w) rfl (List.Mem.tail _ (List.Mem.tail _ (List.Mem.tail _ (List.Mem.tail _ (List.Mem.head _))))) (z_bipush X rfl (z_icmp_ne X (t := 158) rfl rfl ⟨by first | exact p3.1 | omega, by first | exact p3.2 | omega⟩ (by decide) (fun g58 => ?_) (fun g58 => ?_)))
         ·
           as_aux_lemma =>
            refine z_aload_n X (x := A 179) rfl (List.Mem.head _) (z_const X rfl (s_putI X 179 rfl (c518_ok rfl) rfl rfl (by decide) rfl rfl rfl (wd_gen (fun s59 hs59 => ?_))))
            have Is59 : Bd s59 := eqB hs59 (bd_I Is51 (show ((-2147483648) : Int) ≤ (-1) ∧ (-1) ≤ 2147483647 by first | exact ⟨by decide, by decide⟩ | omega) (by decide))
            have Fs59 := eqF hs59 (fm_I Fs51 (inl_ok (a := 106) rfl))
            have vs59 : iI s59 106 = (-1) := eqI hs59 (iI_u (by decide))
            have ws59_73 : iI s59 73 = iI s51 73 := eqI hs59 rfl
            have ws59_105 : iI s59 105 = iI s51 105 := eqI hs59 rfl
            have ws59_90 : iI s59 90 = iI s51 90 := eqI hs59 rfl
            have fs59 : Fm [106] [] s51 s59 := by rw [hs59]; exact fm_I (fm_rf _ _ _) (show 106 ∈ _ by decide)
            have JRLx_s59 : RLx s59 := RLx_fm fs59 (by decide) JRLx_s51
            have JHX_s59 : HX s59 := HX_fm fs59 (by decide) JHX_s51
            refine z_aload_n X (x := A 179) rfl (List.Mem.head _) (z_getI X 179 rfl (c518_ok rfl) rfl rfl ?_)
            have b60 := bi_105 Is59
            refine z_bipush X rfl (z_icmp_le X (t := 174) rfl rfl (rng_to _) (by decide) (fun g61 => ?_) (fun g61 => ?_))
            ·
              refine z_const X rfl (z_store X (lv' := [(6, .int (Int32.ofInt 0)), (0, .ref (A 179)), (1, .int (Int32.ofInt x)), (2, .int (Int32.ofInt y)), (3, .int (Int32.ofInt z)), (4, .int (Int32.ofInt w)), (5, .int (Int32.ofInt x52))]) rfl (by decide) (fun _ h => h) (WS_pq [1, 2, 3, 4, 5, 0] (lv' := [(0, .ref (A 179)), (1, .int (Int32.ofInt x)), (2, .int (Int32.ofInt y)), (3, .int (Int32.ofInt z)), (4, .int (Int32.ofInt w)), (6, .int (Int32.ofInt 0))]) rfl (L177 ((8 - 0 : Int).toNat + 1) s59 x y z w 0 Is59 Fs59 JRLx_s59 JHX_s59 (by first | exact ⟨And.intro (hs51.1.1) (hs51.1.2), And.intro (hs51.2.1.1) (hs51.2.1.2), And.intro (hs51.2.2.1.1) (hs51.2.2.1.2), And.intro (hs51.2.2.2.1.1) (hs51.2.2.2.1.2), by decide, by decide, g61⟩ | omega) (Nat.lt_succ_self _) ?_)))
              intro s62 x63 Is62 Fs62 JRLx_s62 Qs62 hs62
              have b64 := bi_73 Is62
              have b65 := bi_105 Is62
              have b66 := bi_90 Is62
              have b67 := bi_106 Is62
              refine z_aload_n X (x := A 179) rfl (List.Mem.head _) (z_const X rfl (z_load_n X (x := x) rfl (List.Mem.tail _ (List.Mem.head _)) (z_load_n X (x := y) rfl (List.Mem.tail _ (List.Mem.tail _ (List.Mem.head _))) (z_load_n X (x := z) rfl (List.Mem.tail _ (List.Mem.tail _ (List.Mem.tail _ (List.Mem.head _)))) (z_const X rfl (z_callV X 179 (rm := (rkR (52 + 8))) (As := [.int (Int32.ofInt 0), .int (Int32.ofInt x), .int (Int32.ofInt y), .int (Int32.ofInt z), .int (Int32.ofInt 0)]) (st := []) rfl rfl (by decide) rfl (by rw [E.1, E.2.1, E.2.2.1]; exact k_gor G 8 Is62 JRLx_s62 Qs62 (by first | exact ⟨hs62.1.1, oq_dc2a904e hs62.2.1.2 hs62.2.1.1 g45 hps43⟩ | exact And.intro (oq_0fe6b7e2) (b65.1) | omega) (by first | exact oq_4f828635 hs62.2.2.2.2.2.2 hs62.1.1 | exact oq_a8ea036d hs62.2.2.2.2.2.2 | omega) (by first | exact hs62.2.2.2.2.2.2 | omega) (by first | exact ⟨hs62.2.1.1, oq_e30b7fd1 hs62.2.1.2⟩ | exact And.intro (hs62.1.1) (hs62.1.2) | omega) (by first | exact ⟨hs62.2.2.1.1, hs62.2.2.1.2⟩ | exact And.intro (hs62.2.1.1) (hs62.2.1.2) | omega) (by first | exact ⟨oq_fbad3c2b hs62.2.1.2 hs62.2.1.1 g45 hps43, oq_25c180d3 hs62.2.1.2 hs62.2.1.1 g45 hps43⟩ | omega) (by first | exact ⟨oq_04224e01 hs62.2.1.2 hs62.2.1.1 g45 hps43, oq_ec1d816e hs62.2.1.2 hs62.2.1.1 g45 hps43⟩ | omega) (fun i _ h => absurd h (by first | exact oq_625ee044 | (clear g58 hps46 hps43 g8 hps6; omega) | (clear hps46 hps43 g8 hps6; omega) | omega))) ⟨by rw [E.2.2.2]; exact (show 72 + 1 ≤ 73 from oq_26188e76), by rw [E.2.2.2]; exact (show 8 + (8 + 11) + 3200 ≤ 3227 from oq_e592698d), by rw [E.2.2.2]; exact Nat.le_refl 0, by rw [E.2.2.2]; exact Nat.le_refl 0⟩ (Nat.le_of_ble_eq_true rfl) (fun vv s68 hq => ?_) (fun ee s68 hq => ?_)))))))
              rotate_left
              · obtain ⟨Is68, Fs68, JRLx_s68, JHX_s68, hv, hps68⟩ := hq; cases hv
              obtain ⟨Is68, Fs68, JRLx_s68, JHX_s68, hv, hps68⟩ := hq
              cases hv
              have Gs68 := fm_tq Fs62 Fs68 rfl rfl
              have JRLx_s68 : RLx s68 := RLx_fm Fs68 (by decide) JRLx_s62
              have JHX_s68 : HX s68 := HX_fm Fs68 (by decide) Qs62
              have ws68_73 : iI s68 73 = iI s62 73 := fm_iq Fs68 rfl
              have ws68_105 : iI s68 105 = iI s62 105 := fm_iq Fs68 rfl
              have ws68_90 : iI s68 90 = iI s62 90 := fm_iq Fs68 rfl
              have b70 := bi_106 Is68
              show WS k 212 [(0, .ref (A 179)), (1, .int (Int32.ofInt x)), (2, .int (Int32.ofInt y)), (3, .int (Int32.ofInt z)), (4, .int (Int32.ofInt w)), (6, .int (Int32.ofInt x63))] [] (Wd A dT s68) 0 0
              refine z_aload_n X (x := A 179) rfl (List.Mem.head _) (z_getI X 179 rfl (c518_ok rfl) rfl rfl ?_)
              have b71 := bi_106 Is68
              refine z_const X rfl ?_
              have N72 : ∀ e73 : Int, ((((iI s68 106) ≠ (-1)) ∧ (w ≠ (-1)) ∧ ((0 : Int) ≤ iI s68 90 ∧ iI s68 90 ≤ 12) ∧ ((iI s68 90) ≤ w) ∧ e73 = 0) ∨ (((iI s68 106) ≠ (-1)) ∧ (w ≠ (-1)) ∧ ((0 : Int) ≤ iI s68 90 ∧ iI s68 90 ≤ 12) ∧ (w < (iI s68 90)) ∧ ((0 : Int) ≤ iC s68 402 (w).toNat ∧ iC s68 402 (w).toNat ≤ 3) ∧ e73 = (iC s68 402 (w).toNat)) ∨ (((iI s68 106) ≠ (-1)) ∧ (w = (-1)) ∧ (((-2147483648) : Int) ≤ iI s68 106 ∧ iI s68 106 ≤ 2147483647) ∧ e73 = (iI s68 106)) ∨ (((iI s68 106) = (-1)) ∧ e73 = (-1))) → WS k 257 [(0, .ref (A 179)), (1, .int (Int32.ofInt x)), (2, .int (Int32.ofInt y)), (3, .int (Int32.ofInt z)), (4, .int (Int32.ofInt w)), (6, .int (Int32.ofInt x63))] [.int (Int32.ofInt e73)] (Wd A dT s68) 0 0 := by
                intro e73 he73
                exact w_iret X.1 q hRt rfl (ax_d X (show cdA 286 257 = some (.ireturn, 1, 0, 0, 0) from rfl)) (Nat.zero_le _) (Nat.zero_le _) ⟨_, rfl, Is68, Gs68, JRLx_s68, e73, rfl, ⟨by first | exact oq_04224e01 hs62.2.1.2 hs62.2.1.1 g45 hps43 | omega, by first | exact oq_ec1d816e hs62.2.1.2 hs62.2.1.1 g45 hps43 | omega⟩, trivial⟩
              refine z_icmp_ne X (t := 224) rfl rfl (rng_to _) (by decide) (fun g74 => ?_) (fun g74 => ?_)
              ·
                refine z_load X (x := w) rfl (List.Mem.tail _ (List.Mem.tail _ (List.Mem.tail _ (List.Mem.tail _ (List.Mem.head _))))) (z_const X rfl (z_icmp_ne X (t := 237) rfl rfl ⟨by first | exact p3.1 | omega, by first | exact p3.2 | omega⟩ (by decide) (fun g75 => ?_) (fun g75 => ?_)))
                ·
                  refine z_load X (x := w) rfl (List.Mem.tail _ (List.Mem.tail _ (List.Mem.tail _ (List.Mem.tail _ (List.Mem.head _))))) (z_aload_n X (x := A 179) rfl (List.Mem.head _) (z_getI X 179 rfl (c518_ok rfl) rfl rfl ?_))
                  have b76 := bi_90 Is68
                  refine z_icmp_ge X (t := 256) rfl rfl ⟨by first | exact p3.1 | omega, by first | exact p3.2 | omega⟩ (rng_to _) (fun g77 => ?_) (fun g77 => ?_)
                  ·
                    exact z_const X rfl (N72 _ (Or.inl ⟨g74, g75, b76, g77, rfl⟩))
                  ·
                    refine z_aload_n X (x := A 179) rfl (List.Mem.head _) (s_getR X 179 rfl (c518_ok rfl) rfl rfl (z_load X (x := w) rfl (List.Mem.tail _ (List.Mem.tail _ (List.Mem.tail _ (List.Mem.tail _ (List.Mem.head _))))) (z_ald X 457 rfl (c518_ok rfl) rfl (by first | exact oq_33feeab9 g75 hs62.2.2.2.1.1 g58 | omega) (show w < 12 by first | exact oq_0ddfcfee hs62.2.2.2.1.2 | omega) (cbig_ok rfl) ?_)))
                    have b78 := bc_402 Is68 (show (w).toNat < 12 by first | exact oq_9c5fa447 hs62.2.2.2.1.2 | omega)
                    exact z_goto X (t := 257) rfl rfl (N72 _ (Or.inr (Or.inl ⟨g74, g75, b76, g77, b78, rfl⟩)))
                ·
                  refine z_aload_n X (x := A 179) rfl (List.Mem.head _) (z_getI X 179 rfl (c518_ok rfl) rfl rfl ?_)
                  have b79 := bi_106 Is68
                  exact z_goto X (t := 257) rfl rfl (N72 _ (Or.inr (Or.inr (Or.inl ⟨g74, g75, b79, rfl⟩))))
              ·
                exact z_const X rfl (z_goto X (t := 257) rfl rfl (N72 _ (Or.inr (Or.inr (Or.inr (⟨g74, rfl⟩))))))
            ·
              refine z_const X rfl ?_
              exact w_iret X.1 q hRt rfl (ax_d X (show cdA 286 173 = some (.ireturn, 1, 0, 0, 0) from rfl)) (Nat.zero_le _) (Nat.zero_le _) ⟨_, rfl, Is59, Fs59, JRLx_s59, (-1), rfl, (by decide), trivial⟩
         ·
           refine z_load X (x := x52) rfl (List.Mem.tail _ (List.Mem.tail _ (List.Mem.tail _ (List.Mem.tail _ (List.Mem.tail _ (List.Mem.head _)))))) ?_
           exact w_iret X.1 q hRt rfl (ax_d X (show cdA 286 157 = some (.ireturn, 1, 0, 0, 0) from rfl)) (Nat.zero_le _) (Nat.zero_le _) ⟨_, rfl, Is51, Fs51, JRLx_s51, x52, rfl, ⟨by first | exact hs51.2.2.2.2.1.1 | omega, by first | exact hs51.2.2.2.2.1.2 | omega⟩, trivial⟩
       ·
         refine z_const X rfl ?_
         exact w_iret X.1 q hRt rfl (ax_d X (show cdA 286 61 = some (.ireturn, 1, 0, 0, 0) from rfl)) (Nat.zero_le _) (Nat.zero_le _) ⟨_, rfl, Is46, Gs46, JRLx_s46, 0, rfl, (by decide), trivial⟩
     ·
       as_aux_lemma =>
        refine z_load_n X (x := z) rfl (List.Mem.tail _ (List.Mem.tail _ (List.Mem.tail _ (List.Mem.head _)))) (z_const X rfl (z_bipush X rfl (zcS_i0 X E (As := [.int (Int32.ofInt z), .int (Int32.ofInt 0), .int (Int32.ofInt 8)]) (st := [.ref (A 179)]) rfl rfl (k_in G Is43 (by first | exact ⟨p2.1, p2.2⟩ | omega) (by first | exact ⟨by decide, by decide⟩ | omega) (by first | exact ⟨by decide, by decide⟩ | omega)) rfl (Nat.le_of_ble_eq_true rfl) (fun s80 e81 Is80 Fs80 hrs80 hps80 => ?_))))
        have Gs80 := fm_tq Gs43 Fs80 rfl rfl
        have JRLx_s80 : RLx s80 := RLx_fm Fs80 (by decide) JRLx_s43
        have ws80_73 : iI s80 73 = iI s43 73 := fm_iq Fs80 rfl
        have ws80_105 : iI s80 105 = iI s43 105 := fm_iq Fs80 rfl
        have ws80_90 : iI s80 90 = iI s43 90 := fm_iq Fs80 rfl
        have ws80_106 : iI s80 106 = iI s43 106 := fm_iq Fs80 rfl
        refine z_if_eq X (t := 48) rfl rfl hrs80 (fun g82 => ?_) (fun g82 => ?_)
        ·
          refine z_const X rfl (z_goto X (t := 53) rfl rfl (z_const X rfl (zcV_i0 X E 179 (As := [.int (Int32.ofInt 1), .int (Int32.ofInt 1)]) (st := []) rfl rfl rfl rfl (k_bad G Is80 (by first | exact Or.inr (by decide) | omega) (by first | exact ⟨by decide, by decide⟩ | omega)) rfl (Nat.le_of_ble_eq_true rfl) (fun s83 e84 Is83 Fs83 hrs83 hps83 => ?_))))
          have Gs83 := fm_tq Gs80 Fs83 rfl rfl
          have JRLx_s83 : RLx s83 := RLx_fm Fs83 (by decide) JRLx_s80
          have b85 := bi_73 Is83
          have ws83_105 : iI s83 105 = iI s80 105 := fm_iq Fs83 rfl
          have ws83_90 : iI s83 90 = iI s80 90 := fm_iq Fs83 rfl
          have ws83_106 : iI s83 106 = iI s80 106 := fm_iq Fs83 rfl
          refine z_if_eq X (t := 62) rfl rfl hrs83 (fun g86 => ?_) (fun g86 => ?_)
          ·
            refine z_const X rfl (z_store X (lv' := [(5, .int (Int32.ofInt 0)), (0, .ref (A 179)), (1, .int (Int32.ofInt x)), (2, .int (Int32.ofInt y)), (3, .int (Int32.ofInt z)), (4, .int (Int32.ofInt w))]) rfl (by decide) (fun _ h => h) (z_aload_n X (x := A 179) rfl (List.Mem.tail _ (List.Mem.head _)) (z_const X rfl (s_putI X 179 rfl (c518_ok rfl) rfl rfl (by decide) rfl rfl rfl (wd_gen (fun s87 hs87 => ?_))))))
            have Is87 : Bd s87 := eqB hs87 (bd_I Is83 (show (0 : Int) ≤ 0 ∧ 0 ≤ 12 by first | exact ⟨by decide, by decide⟩ | omega) (by decide))
            have Fs87 := eqF hs87 (fm_I Gs83 (inl_ok (a := 105) rfl))
            have vs87 : iI s87 105 = 0 := eqI hs87 (iI_u (by decide))
            have ws87_73 : iI s87 73 = iI s83 73 := eqI hs87 rfl
            have ws87_90 : iI s87 90 = iI s83 90 := eqI hs87 rfl
            have ws87_106 : iI s87 106 = iI s83 106 := eqI hs87 rfl
            have fs87 : Fm [105] [] s83 s87 := by rw [hs87]; exact fm_I (fm_rf _ _ _) (show 105 ∈ _ by decide)
            have JRLx_s87 : RLx s87 := RLx_fm fs87 (by decide) JRLx_s83
            refine z_const X rfl (z_store X (lv' := [(6, .int (Int32.ofInt 0)), (5, .int (Int32.ofInt 0)), (0, .ref (A 179)), (1, .int (Int32.ofInt x)), (2, .int (Int32.ofInt y)), (3, .int (Int32.ofInt z)), (4, .int (Int32.ofInt w))]) rfl (by decide) (fun _ h => h) (WS_pq [2, 3, 4, 5, 6, 1, 0] (lv' := [(0, .ref (A 179)), (1, .int (Int32.ofInt x)), (2, .int (Int32.ofInt y)), (3, .int (Int32.ofInt z)), (4, .int (Int32.ofInt w)), (5, .int (Int32.ofInt 0)), (6, .int (Int32.ofInt 0))]) rfl (L73 ((12 - 0 : Int).toNat + 1) s87 x y z w 0 0 Is87 Fs87 JRLx_s87 (HXa_0 (by first | exact vs87 | (clear hps83 hps80 g45 hps43 g8 hps6; omega) | (clear hps80 g45 hps43 g8 hps6; omega) | omega)) (by first | exact ⟨oq_e5a089c2 g8 hps6, oq_5933ef41 g45 hps43, oq_44ffe16c g86 hps83.2.1, oq_c67385d4 g86 hps83.2.1, And.intro (by decide) (by decide), by decide, oq_3b16b112 ws87_90 ws83_90 ws80_90 ws43_90 ws6_90 ws5_90 b3.1, oq_1af0b4f8 vs87⟩ | exact And.intro (And.intro (oq_0159bb48 g8 hps6) (oq_8b498cf6 g8 hps6)) (And.intro (And.intro (oq_b0440922 g45 hps43) (oq_19fd0803 g45 hps43)) (And.intro (And.intro (oq_05f36df5 g86 hps83.2.1) (oq_23b4ceb9 g86 hps83.2.1)) (And.intro (And.intro (oq_bd71e2a4 g86 hps83.2.1) (oq_d8ec3725 g86 hps83.2.1)) (And.intro (And.intro (oq_d41b69a9) (oq_3b9bcde6)) (And.intro (oq_0fe6b7e2) (And.intro (oq_3b16b112 ws87_90 ws83_90 ws80_90 ws43_90 ws6_90 ws5_90 b3.1) (oq_1af0b4f8 vs87))))))) | omega) (Nat.lt_succ_self _) ?_)))
            intro s88 x89 x90 Is88 Fs88 JRLx_s88 Qs88 hs88
            have b91 := bi_73 Is88
            have b92 := bi_105 Is88
            have b93 := bi_90 Is88
            have b94 := bi_106 Is88
            have JHX_s88 : HX s88 := HXa_le (by first | exact hs88.2.2.2.2.2.2.1 | (clear hps83 hps80 g45 hps43 g8 hps6; omega) | (clear hps80 g45 hps43 g8 hps6; omega) | omega) Qs88
            refine z_load X (x := w) rfl (List.Mem.tail _ (List.Mem.tail _ (List.Mem.tail _ (List.Mem.tail _ (List.Mem.head _))))) (z_bipush X rfl (z_icmp_ne X (t := 158) rfl rfl ⟨by first | exact p3.1 | omega, by first | exact p3.2 | omega⟩ (by decide) (fun g95 => ?_) (fun g95 => ?_)))
            ·
              as_aux_lemma =>
               refine z_aload_n X (x := A 179) rfl (List.Mem.head _) (z_const X rfl (s_putI X 179 rfl (c518_ok rfl) rfl rfl (by decide) rfl rfl rfl (wd_gen (fun s96 hs96 => ?_))))
               have Is96 : Bd s96 := eqB hs96 (bd_I Is88 (show ((-2147483648) : Int) ≤ (-1) ∧ (-1) ≤ 2147483647 by first | exact ⟨by decide, by decide⟩ | omega) (by decide))
               have Fs96 := eqF hs96 (fm_I Fs88 (inl_ok (a := 106) rfl))
               have vs96 : iI s96 106 = (-1) := eqI hs96 (iI_u (by decide))
               have ws96_73 : iI s96 73 = iI s88 73 := eqI hs96 rfl
               have ws96_105 : iI s96 105 = iI s88 105 := eqI hs96 rfl
               have ws96_90 : iI s96 90 = iI s88 90 := eqI hs96 rfl
               have fs96 : Fm [106] [] s88 s96 := by rw [hs96]; exact fm_I (fm_rf _ _ _) (show 106 ∈ _ by decide)
               have JRLx_s96 : RLx s96 := RLx_fm fs96 (by decide) JRLx_s88
               have JHX_s96 : HX s96 := HX_fm fs96 (by decide) JHX_s88
               refine z_aload_n X (x := A 179) rfl (List.Mem.head _) (z_getI X 179 rfl (c518_ok rfl) rfl rfl ?_)
               have b97 := bi_105 Is96
               refine z_bipush X rfl (z_icmp_le X (t := 174) rfl rfl (rng_to _) (by decide) (fun g98 => ?_) (fun g98 => ?_))
               ·
                 refine z_const X rfl (z_store X (lv' := [(6, .int (Int32.ofInt 0)), (0, .ref (A 179)), (1, .int (Int32.ofInt x)), (2, .int (Int32.ofInt y)), (3, .int (Int32.ofInt z)), (4, .int (Int32.ofInt w)), (5, .int (Int32.ofInt x89))]) rfl (by decide) (fun _ h => h) (WS_pq [1, 2, 3, 4, 5, 0] (lv' := [(0, .ref (A 179)), (1, .int (Int32.ofInt x)), (2, .int (Int32.ofInt y)), (3, .int (Int32.ofInt z)), (4, .int (Int32.ofInt w)), (6, .int (Int32.ofInt 0))]) rfl (L177 ((8 - 0 : Int).toNat + 1) s96 x y z w 0 Is96 Fs96 JRLx_s96 JHX_s96 (by first | exact ⟨And.intro (hs88.1.1) (hs88.1.2), And.intro (hs88.2.1.1) (hs88.2.1.2), And.intro (hs88.2.2.1.1) (hs88.2.2.1.2), And.intro (hs88.2.2.2.1.1) (hs88.2.2.2.1.2), by decide, by decide, g98⟩ | omega) (Nat.lt_succ_self _) ?_)))
                 intro s99 x100 Is99 Fs99 JRLx_s99 Qs99 hs99
                 have b101 := bi_73 Is99
                 have b102 := bi_105 Is99
                 have b103 := bi_90 Is99
                 have b104 := bi_106 Is99
                 refine z_aload_n X (x := A 179) rfl (List.Mem.head _) (z_const X rfl (z_load_n X (x := x) rfl (List.Mem.tail _ (List.Mem.head _)) (z_load_n X (x := y) rfl (List.Mem.tail _ (List.Mem.tail _ (List.Mem.head _))) (z_load_n X (x := z) rfl (List.Mem.tail _ (List.Mem.tail _ (List.Mem.tail _ (List.Mem.head _)))) (z_const X rfl (z_callV X 179 (rm := (rkR (52 + 8))) (As := [.int (Int32.ofInt 0), .int (Int32.ofInt x), .int (Int32.ofInt y), .int (Int32.ofInt z), .int (Int32.ofInt 0)]) (st := []) rfl rfl (by decide) rfl (by rw [E.1, E.2.1, E.2.2.1]; exact k_gor G 8 Is99 JRLx_s99 Qs99 (by first | exact ⟨hs99.1.1, oq_dc2a904e hs99.2.2.1.2 hs99.2.2.1.1 g82 hps80⟩ | exact And.intro (oq_0fe6b7e2) (b102.1) | omega) (by first | exact oq_4f828635 hs99.2.2.2.2.2.2 hs99.1.1 | exact oq_a8ea036d hs99.2.2.2.2.2.2 | omega) (by first | exact hs99.2.2.2.2.2.2 | omega) (by first | exact ⟨hs99.2.1.1, oq_e30b7fd1 hs99.2.1.2⟩ | exact And.intro (hs99.1.1) (hs99.1.2) | omega) (by first | exact ⟨hs99.2.2.1.1, hs99.2.2.1.2⟩ | exact And.intro (hs99.2.1.1) (hs99.2.1.2) | omega) (by first | exact ⟨oq_fbad3c2b hs99.2.2.1.2 hs99.2.2.1.1 g82 hps80, oq_25c180d3 hs99.2.2.1.2 hs99.2.2.1.1 g82 hps80⟩ | omega) (by first | exact ⟨oq_04224e01 hs99.2.2.1.2 hs99.2.2.1.1 g82 hps80, oq_ec1d816e hs99.2.2.1.2 hs99.2.2.1.1 g82 hps80⟩ | omega) (fun i _ h => absurd h (by first | exact oq_625ee044 | (clear g95 hps83 hps80 g45 hps43 g8 hps6; omega) | (clear hps83 hps80 g45 hps43 g8 hps6; omega) | omega))) ⟨by rw [E.2.2.2]; exact (show 72 + 1 ≤ 73 from oq_26188e76), by rw [E.2.2.2]; exact (show 8 + (8 + 11) + 3200 ≤ 3227 from oq_e592698d), by rw [E.2.2.2]; exact Nat.le_refl 0, by rw [E.2.2.2]; exact Nat.le_refl 0⟩ (Nat.le_of_ble_eq_true rfl) (fun vv s105 hq => ?_) (fun ee s105 hq => ?_)))))))
                 rotate_left
                 · obtain ⟨Is105, Fs105, JRLx_s105, JHX_s105, hv, hps105⟩ := hq; cases hv
                 obtain ⟨Is105, Fs105, JRLx_s105, JHX_s105, hv, hps105⟩ := hq
                 cases hv
                 have Gs105 := fm_tq Fs99 Fs105 rfl rfl
                 have JRLx_s105 : RLx s105 := RLx_fm Fs105 (by decide) JRLx_s99
                 have JHX_s105 : HX s105 := HX_fm Fs105 (by decide) Qs99
                 have ws105_73 : iI s105 73 = iI s99 73 := fm_iq Fs105 rfl
                 have ws105_105 : iI s105 105 = iI s99 105 := fm_iq Fs105 rfl
                 have ws105_90 : iI s105 90 = iI s99 90 := fm_iq Fs105 rfl
                 have b107 := bi_106 Is105
                 show WS k 212 [(0, .ref (A 179)), (1, .int (Int32.ofInt x)), (2, .int (Int32.ofInt y)), (3, .int (Int32.ofInt z)), (4, .int (Int32.ofInt w)), (6, .int (Int32.ofInt x100))] [] (Wd A dT s105) 0 0
                 refine z_aload_n X (x := A 179) rfl (List.Mem.head _) (z_getI X 179 rfl (c518_ok rfl) rfl rfl ?_)
                 have b108 := bi_106 Is105
                 refine z_const X rfl ?_
                 have N109 : ∀ e110 : Int, ((((iI s105 106) ≠ (-1)) ∧ (w ≠ (-1)) ∧ ((0 : Int) ≤ iI s105 90 ∧ iI s105 90 ≤ 12) ∧ ((iI s105 90) ≤ w) ∧ e110 = 0) ∨ (((iI s105 106) ≠ (-1)) ∧ (w ≠ (-1)) ∧ ((0 : Int) ≤ iI s105 90 ∧ iI s105 90 ≤ 12) ∧ (w < (iI s105 90)) ∧ ((0 : Int) ≤ iC s105 402 (w).toNat ∧ iC s105 402 (w).toNat ≤ 3) ∧ e110 = (iC s105 402 (w).toNat)) ∨ (((iI s105 106) ≠ (-1)) ∧ (w = (-1)) ∧ (((-2147483648) : Int) ≤ iI s105 106 ∧ iI s105 106 ≤ 2147483647) ∧ e110 = (iI s105 106)) ∨ (((iI s105 106) = (-1)) ∧ e110 = (-1))) → WS k 257 [(0, .ref (A 179)), (1, .int (Int32.ofInt x)), (2, .int (Int32.ofInt y)), (3, .int (Int32.ofInt z)), (4, .int (Int32.ofInt w)), (6, .int (Int32.ofInt x100))] [.int (Int32.ofInt e110)] (Wd A dT s105) 0 0 := by
                   intro e110 he110
                   exact w_iret X.1 q hRt rfl (ax_d X (show cdA 286 257 = some (.ireturn, 1, 0, 0, 0) from rfl)) (Nat.zero_le _) (Nat.zero_le _) ⟨_, rfl, Is105, Gs105, JRLx_s105, e110, rfl, ⟨by first | exact oq_04224e01 hs99.2.2.1.2 hs99.2.2.1.1 g82 hps80 | omega, by first | exact oq_ec1d816e hs99.2.2.1.2 hs99.2.2.1.1 g82 hps80 | omega⟩, trivial⟩
                 refine z_icmp_ne X (t := 224) rfl rfl (rng_to _) (by decide) (fun g111 => ?_) (fun g111 => ?_)
                 ·
                   refine z_load X (x := w) rfl (List.Mem.tail _ (List.Mem.tail _ (List.Mem.tail _ (List.Mem.tail _ (List.Mem.head _))))) (z_const X rfl (z_icmp_ne X (t := 237) rfl rfl ⟨by first | exact p3.1 | omega, by first | exact p3.2 | omega⟩ (by decide) (fun g112 => ?_) (fun g112 => ?_)))
                   ·
                     refine z_load X (x := w) rfl (List.Mem.tail _ (List.Mem.tail _ (List.Mem.tail _ (List.Mem.tail _ (List.Mem.head _))))) (z_aload_n X (x := A 179) rfl (List.Mem.head _) (z_getI X 179 rfl (c518_ok rfl) rfl rfl ?_))
                     have b113 := bi_90 Is105
                     refine z_icmp_ge X (t := 256) rfl rfl ⟨by first | exact p3.1 | omega, by first | exact p3.2 | omega⟩ (rng_to _) (fun g114 => ?_) (fun g114 => ?_)
                     ·
                       exact z_const X rfl (N109 _ (Or.inl ⟨g111, g112, b113, g114, rfl⟩))
                     ·
                       refine z_aload_n X (x := A 179) rfl (List.Mem.head _) (s_getR X 179 rfl (c518_ok rfl) rfl rfl (z_load X (x := w) rfl (List.Mem.tail _ (List.Mem.tail _ (List.Mem.tail _ (List.Mem.tail _ (List.Mem.head _))))) (z_ald X 457 rfl (c518_ok rfl) rfl (by first | exact oq_33feeab9 g112 hs99.2.2.2.1.1 g95 | omega) (show w < 12 by first | exact oq_0ddfcfee hs99.2.2.2.1.2 | omega) (cbig_ok rfl) ?_)))
                       have b115 := bc_402 Is105 (show (w).toNat < 12 by first | exact oq_9c5fa447 hs99.2.2.2.1.2 | omega)
                       exact z_goto X (t := 257) rfl rfl (N109 _ (Or.inr (Or.inl ⟨g111, g112, b113, g114, b115, rfl⟩)))
                   ·
                     refine z_aload_n X (x := A 179) rfl (List.Mem.head _) (z_getI X 179 rfl (c518_ok rfl) rfl rfl ?_)
                     have b116 := bi_106 Is105
                     exact z_goto X (t := 257) rfl rfl (N109 _ (Or.inr (Or.inr (Or.inl ⟨g111, g112, b116, rfl⟩))))
                 ·
                   exact z_const X rfl (z_goto X (t := 257) rfl rfl (N109 _ (Or.inr (Or.inr (Or.inr (⟨g111, rfl⟩))))))
               ·
                 refine z_const X rfl ?_
                 exact w_iret X.1 q hRt rfl (ax_d X (show cdA 286 173 = some (.ireturn, 1, 0, 0, 0) from rfl)) (Nat.zero_le _) (Nat.zero_le _) ⟨_, rfl, Is96, Fs96, JRLx_s96, (-1), rfl, (by decide), trivial⟩
            ·
              refine z_load X (x := x89) rfl (List.Mem.tail _ (List.Mem.tail _ (List.Mem.tail _ (List.Mem.tail _ (List.Mem.tail _ (List.Mem.head _)))))) ?_
              exact w_iret X.1 q hRt rfl (ax_d X (show cdA 286 157 = some (.ireturn, 1, 0, 0, 0) from rfl)) (Nat.zero_le _) (Nat.zero_le _) ⟨_, rfl, Is88, Fs88, JRLx_s88, x89, rfl, ⟨by first | exact hs88.2.2.2.2.1.1 | omega, by first | exact hs88.2.2.2.2.1.2 | omega⟩, trivial⟩
          ·
            refine z_const X rfl ?_
            exact w_iret X.1 q hRt rfl (ax_d X (show cdA 286 61 = some (.ireturn, 1, 0, 0, 0) from rfl)) (Nat.zero_le _) (Nat.zero_le _) ⟨_, rfl, Is83, Gs83, JRLx_s83, 0, rfl, (by decide), trivial⟩
        ·
          as_aux_lemma =>
           refine z_load X (x := w) rfl (List.Mem.tail _ (List.Mem.tail _ (List.Mem.tail _ (List.Mem.tail _ (List.Mem.head _))))) (z_bipush X rfl (z_bipush X rfl (zcS_i0 X E (As := [.int (Int32.ofInt w), .int (Int32.ofInt (-2)), .int (Int32.ofInt 11)]) (st := [.ref (A 179)]) rfl rfl (k_in G Is80 (by first | exact ⟨p3.1, p3.2⟩ | omega) (by first | exact ⟨by decide, by decide⟩ | omega) (by first | exact ⟨by decide, by decide⟩ | omega)) rfl (Nat.le_of_ble_eq_true rfl) (fun s117 e118 Is117 Fs117 hrs117 hps117 => ?_))))
           have Gs117 := fm_tq Gs80 Fs117 rfl rfl
           have JRLx_s117 : RLx s117 := RLx_fm Fs117 (by decide) JRLx_s80
           have ws117_73 : iI s117 73 = iI s80 73 := fm_iq Fs117 rfl
           have ws117_105 : iI s117 105 = iI s80 105 := fm_iq Fs117 rfl
           have ws117_90 : iI s117 90 = iI s80 90 := fm_iq Fs117 rfl
           have ws117_106 : iI s117 106 = iI s80 106 := fm_iq Fs117 rfl
           have N119 : ∀ e120 : Int, (((e118 ≠ 0) ∧ e120 = 0) ∨ ((e118 = 0) ∧ e120 = 1)) → WS k 53 [(0, .ref (A 179)), (1, .int (Int32.ofInt x)), (2, .int (Int32.ofInt y)), (3, .int (Int32.ofInt z)), (4, .int (Int32.ofInt w))] [.int (Int32.ofInt e120), .ref (A 179)] (Wd A dT s117) 0 0 := by
             intro e120 he120
             have re120 : 0 ≤ e120 ∧ e120 ≤ 1 := by first | exact And.intro (oq_6d672f13 he120) (oq_ccfe7a71 he120) | (clear he120 hps117 g82 hps80 g45 hps43 g8 hps6; omega) | (clear hps117 g82 hps80 g45 hps43 g8 hps6; omega) | omega
             refine z_const X rfl (zcV_i0 X E 179 (As := [.int (Int32.ofInt e120), .int (Int32.ofInt 1)]) (st := []) rfl rfl rfl rfl (k_bad G Is117 (by first | exact oq_31e518ae re120.2 re120.1 | omega) (by first | exact ⟨by decide, by decide⟩ | omega)) rfl (Nat.le_of_ble_eq_true rfl) (fun s121 e122 Is121 Fs121 hrs121 hps121 => ?_))
             have Gs121 := fm_tq Gs117 Fs121 rfl rfl
             have JRLx_s121 : RLx s121 := RLx_fm Fs121 (by decide) JRLx_s117
             have b123 := bi_73 Is121
             have ws121_105 : iI s121 105 = iI s117 105 := fm_iq Fs121 rfl
             have ws121_90 : iI s121 90 = iI s117 90 := fm_iq Fs121 rfl
             have ws121_106 : iI s121 106 = iI s117 106 := fm_iq Fs121 rfl
             refine z_if_eq X (t := 62) rfl rfl hrs121 (fun g124 => ?_) (fun g124 => ?_)
             ·
               refine z_const X rfl (z_store X (lv' := [(5, .int (Int32.ofInt 0)), (0, .ref (A 179)), (1, .int (Int32.ofInt x)), (2, .int (Int32.ofInt y)), (3, .int (Int32.ofInt z)), (4, .int (Int32.ofInt w))]) rfl (by decide) (fun _ h => h) (z_aload_n X (x := A 179) rfl (List.Mem.tail _ (List.Mem.head _)) (z_const X rfl (s_putI X 179 rfl (c518_ok rfl) rfl rfl (by decide) rfl rfl rfl (wd_gen (fun s125 hs125 => ?_))))))
               have Is125 : Bd s125 := eqB hs125 (bd_I Is121 (show (0 : Int) ≤ 0 ∧ 0 ≤ 12 by first | exact ⟨by decide, by decide⟩ | omega) (by decide))
               have Fs125 := eqF hs125 (fm_I Gs121 (inl_ok (a := 105) rfl))
               have vs125 : iI s125 105 = 0 := eqI hs125 (iI_u (by decide))
               have ws125_73 : iI s125 73 = iI s121 73 := eqI hs125 rfl
               have ws125_90 : iI s125 90 = iI s121 90 := eqI hs125 rfl
               have ws125_106 : iI s125 106 = iI s121 106 := eqI hs125 rfl
               have fs125 : Fm [105] [] s121 s125 := by rw [hs125]; exact fm_I (fm_rf _ _ _) (show 105 ∈ _ by decide)
               have JRLx_s125 : RLx s125 := RLx_fm fs125 (by decide) JRLx_s121
               refine z_const X rfl (z_store X (lv' := [(6, .int (Int32.ofInt 0)), (5, .int (Int32.ofInt 0)), (0, .ref (A 179)), (1, .int (Int32.ofInt x)), (2, .int (Int32.ofInt y)), (3, .int (Int32.ofInt z)), (4, .int (Int32.ofInt w))]) rfl (by decide) (fun _ h => h) (WS_pq [2, 3, 4, 5, 6, 1, 0] (lv' := [(0, .ref (A 179)), (1, .int (Int32.ofInt x)), (2, .int (Int32.ofInt y)), (3, .int (Int32.ofInt z)), (4, .int (Int32.ofInt w)), (5, .int (Int32.ofInt 0)), (6, .int (Int32.ofInt 0))]) rfl (L73 ((12 - 0 : Int).toNat + 1) s125 x y z w 0 0 Is125 Fs125 JRLx_s125 (HXa_0 (by first | exact vs125 | (clear hps121 he120 hps117 g82 hps80 g45 hps43 g8 hps6; omega) | (clear he120 hps117 g82 hps80 g45 hps43 g8 hps6; omega) | omega)) (by first | exact ⟨oq_e5a089c2 g8 hps6, oq_5933ef41 g45 hps43, oq_5933ef41 g82 hps80, by first | exact And.intro (oq_2b000581 g124 hps121.2.1 re120.2 he120 hps117) (oq_f15cde76 g124 hps121.2.1 re120.2 he120 hps117) | (clear hps121 he120 hps117 g82 hps80 g45 hps43 g8 hps6; omega) | (clear he120 hps117 g82 hps80 g45 hps43 g8 hps6; omega) | omega, And.intro (by decide) (by decide), by decide, oq_4a7a6edd ws125_90 ws121_90 ws117_90 ws80_90 ws43_90 ws6_90 ws5_90 b3.1, oq_1af0b4f8 vs125⟩ | omega) (Nat.lt_succ_self _) ?_)))
               intro s126 x127 x128 Is126 Fs126 JRLx_s126 Qs126 hs126
               have b129 := bi_73 Is126
               have b130 := bi_105 Is126
               have b131 := bi_90 Is126
               have b132 := bi_106 Is126
               have JHX_s126 : HX s126 := HXa_le (by first | exact hs126.2.2.2.2.2.2.1 | (clear hps121 he120 hps117 g82 hps80 g45 hps43 g8 hps6; omega) | (clear he120 hps117 g82 hps80 g45 hps43 g8 hps6; omega) | omega) Qs126
               refine z_load X (x := w) rfl (List.Mem.tail _ (List.Mem.tail _ (List.Mem.tail _ (List.Mem.tail _ (List.Mem.head _))))) (z_bipush X rfl (z_icmp_ne X (t := 158) rfl rfl ⟨by first | exact p3.1 | omega, by first | exact p3.2 | omega⟩ (by decide) (fun g133 => ?_) (fun g133 => ?_)))
               ·
                 as_aux_lemma =>
                  refine z_aload_n X (x := A 179) rfl (List.Mem.head _) (z_const X rfl (s_putI X 179 rfl (c518_ok rfl) rfl rfl (by decide) rfl rfl rfl (wd_gen (fun s134 hs134 => ?_))))
                  have Is134 : Bd s134 := eqB hs134 (bd_I Is126 (show ((-2147483648) : Int) ≤ (-1) ∧ (-1) ≤ 2147483647 by first | exact ⟨by decide, by decide⟩ | omega) (by decide))
                  have Fs134 := eqF hs134 (fm_I Fs126 (inl_ok (a := 106) rfl))
                  have vs134 : iI s134 106 = (-1) := eqI hs134 (iI_u (by decide))
                  have ws134_73 : iI s134 73 = iI s126 73 := eqI hs134 rfl
                  have ws134_105 : iI s134 105 = iI s126 105 := eqI hs134 rfl
                  have ws134_90 : iI s134 90 = iI s126 90 := eqI hs134 rfl
                  have fs134 : Fm [106] [] s126 s134 := by rw [hs134]; exact fm_I (fm_rf _ _ _) (show 106 ∈ _ by decide)
                  have JRLx_s134 : RLx s134 := RLx_fm fs134 (by decide) JRLx_s126
                  have JHX_s134 : HX s134 := HX_fm fs134 (by decide) JHX_s126
                  refine z_aload_n X (x := A 179) rfl (List.Mem.head _) (z_getI X 179 rfl (c518_ok rfl) rfl rfl ?_)
                  have b135 := bi_105 Is134
                  refine z_bipush X rfl (z_icmp_le X (t := 174) rfl rfl (rng_to _) (by decide) (fun g136 => ?_) (fun g136 => ?_))
                  ·
                    refine z_const X rfl (z_store X (lv' := [(6, .int (Int32.ofInt 0)), (0, .ref (A 179)), (1, .int (Int32.ofInt x)), (2, .int (Int32.ofInt y)), (3, .int (Int32.ofInt z)), (4, .int (Int32.ofInt w)), (5, .int (Int32.ofInt x127))]) rfl (by decide) (fun _ h => h) (WS_pq [1, 2, 3, 4, 5, 0] (lv' := [(0, .ref (A 179)), (1, .int (Int32.ofInt x)), (2, .int (Int32.ofInt y)), (3, .int (Int32.ofInt z)), (4, .int (Int32.ofInt w)), (6, .int (Int32.ofInt 0))]) rfl (L177 ((8 - 0 : Int).toNat + 1) s134 x y z w 0 Is134 Fs134 JRLx_s134 JHX_s134 (by first | exact ⟨And.intro (hs126.1.1) (hs126.1.2), And.intro (hs126.2.1.1) (hs126.2.1.2), And.intro (hs126.2.2.1.1) (hs126.2.2.1.2), And.intro (hs126.2.2.2.1.1) (hs126.2.2.2.1.2), by decide, by decide, g136⟩ | omega) (Nat.lt_succ_self _) ?_)))
                    intro s137 x138 Is137 Fs137 JRLx_s137 Qs137 hs137
                    have b139 := bi_73 Is137
                    have b140 := bi_105 Is137
                    have b141 := bi_90 Is137
                    have b142 := bi_106 Is137
                    refine z_aload_n X (x := A 179) rfl (List.Mem.head _) (z_const X rfl (z_load_n X (x := x) rfl (List.Mem.tail _ (List.Mem.head _)) (z_load_n X (x := y) rfl (List.Mem.tail _ (List.Mem.tail _ (List.Mem.head _))) (z_load_n X (x := z) rfl (List.Mem.tail _ (List.Mem.tail _ (List.Mem.tail _ (List.Mem.head _)))) (z_const X rfl (z_callV X 179 (rm := (rkR (52 + 8))) (As := [.int (Int32.ofInt 0), .int (Int32.ofInt x), .int (Int32.ofInt y), .int (Int32.ofInt z), .int (Int32.ofInt 0)]) (st := []) rfl rfl (by decide) rfl (by rw [E.1, E.2.1, E.2.2.1]; exact k_gor G 8 Is137 JRLx_s137 Qs137 (by first | exact ⟨hs137.1.1, by first | (clear g133 hps121 he120 hps117 g82 hps80 g45 hps43 g8 hps6; omega) | (clear hps121 he120 hps117 g82 hps80 g45 hps43 g8 hps6; omega) | omega⟩ | exact And.intro (oq_0fe6b7e2) (b140.1) | omega) (by first | exact oq_4f828635 hs137.2.2.2.2.2.2 hs137.1.1 | exact oq_a8ea036d hs137.2.2.2.2.2.2 | omega) (by first | exact hs137.2.2.2.2.2.2 | omega) (by first | exact ⟨hs137.2.1.1, oq_e30b7fd1 hs137.2.1.2⟩ | exact And.intro (hs137.1.1) (hs137.1.2) | omega) (by first | exact ⟨hs137.2.2.1.1, hs137.2.2.1.2⟩ | exact And.intro (hs137.2.1.1) (hs137.2.1.2) | omega) (by first | exact And.intro (hs137.2.2.1.1) (hs137.2.2.1.2) | (clear g133 hps121 he120 hps117 g82 hps80 g45 hps43 g8 hps6; omega) | (clear hps121 he120 hps117 g82 hps80 g45 hps43 g8 hps6; omega) | omega) (by first | exact And.intro (oq_d41b69a9) (oq_3b9bcde6) | (clear g133 hps121 he120 hps117 g82 hps80 g45 hps43 g8 hps6; omega) | (clear hps121 he120 hps117 g82 hps80 g45 hps43 g8 hps6; omega) | omega) (fun i _ h => absurd h (by first | exact oq_625ee044 | (clear g133 hps121 he120 hps117 g82 hps80 g45 hps43 g8 hps6; omega) | (clear hps121 he120 hps117 g82 hps80 g45 hps43 g8 hps6; omega) | omega))) ⟨by rw [E.2.2.2]; exact (show 72 + 1 ≤ 73 from oq_26188e76), by rw [E.2.2.2]; exact (show 8 + (8 + 11) + 3200 ≤ 3227 from oq_e592698d), by rw [E.2.2.2]; exact Nat.le_refl 0, by rw [E.2.2.2]; exact Nat.le_refl 0⟩ (Nat.le_of_ble_eq_true rfl) (fun vv s143 hq => ?_) (fun ee s143 hq => ?_)))))))
                    rotate_left
                    · obtain ⟨Is143, Fs143, JRLx_s143, JHX_s143, hv, hps143⟩ := hq; cases hv
                    obtain ⟨Is143, Fs143, JRLx_s143, JHX_s143, hv, hps143⟩ := hq
                    cases hv
                    have Gs143 := fm_tq Fs137 Fs143 rfl rfl
                    have JRLx_s143 : RLx s143 := RLx_fm Fs143 (by decide) JRLx_s137
                    have JHX_s143 : HX s143 := HX_fm Fs143 (by decide) Qs137
                    have ws143_73 : iI s143 73 = iI s137 73 := fm_iq Fs143 rfl
                    have ws143_105 : iI s143 105 = iI s137 105 := fm_iq Fs143 rfl
                    have ws143_90 : iI s143 90 = iI s137 90 := fm_iq Fs143 rfl
                    have b145 := bi_106 Is143
                    show WS k 212 [(0, .ref (A 179)), (1, .int (Int32.ofInt x)), (2, .int (Int32.ofInt y)), (3, .int (Int32.ofInt z)), (4, .int (Int32.ofInt w)), (6, .int (Int32.ofInt x138))] [] (Wd A dT s143) 0 0
                    refine z_aload_n X (x := A 179) rfl (List.Mem.head _) (z_getI X 179 rfl (c518_ok rfl) rfl rfl ?_)
                    have b146 := bi_106 Is143
                    refine z_const X rfl ?_
                    have N147 : ∀ e148 : Int, ((((iI s143 106) ≠ (-1)) ∧ (w ≠ (-1)) ∧ ((0 : Int) ≤ iI s143 90 ∧ iI s143 90 ≤ 12) ∧ ((iI s143 90) ≤ w) ∧ e148 = 0) ∨ (((iI s143 106) ≠ (-1)) ∧ (w ≠ (-1)) ∧ ((0 : Int) ≤ iI s143 90 ∧ iI s143 90 ≤ 12) ∧ (w < (iI s143 90)) ∧ ((0 : Int) ≤ iC s143 402 (w).toNat ∧ iC s143 402 (w).toNat ≤ 3) ∧ e148 = (iC s143 402 (w).toNat)) ∨ (((iI s143 106) ≠ (-1)) ∧ (w = (-1)) ∧ (((-2147483648) : Int) ≤ iI s143 106 ∧ iI s143 106 ≤ 2147483647) ∧ e148 = (iI s143 106)) ∨ (((iI s143 106) = (-1)) ∧ e148 = (-1))) → WS k 257 [(0, .ref (A 179)), (1, .int (Int32.ofInt x)), (2, .int (Int32.ofInt y)), (3, .int (Int32.ofInt z)), (4, .int (Int32.ofInt w)), (6, .int (Int32.ofInt x138))] [.int (Int32.ofInt e148)] (Wd A dT s143) 0 0 := by
                      intro e148 he148
                      exact w_iret X.1 q hRt rfl (ax_d X (show cdA 286 257 = some (.ireturn, 1, 0, 0, 0) from rfl)) (Nat.zero_le _) (Nat.zero_le _) ⟨_, rfl, Is143, Gs143, JRLx_s143, e148, rfl, ⟨by first | exact oq_d6ef1792 he148 b146.1 | omega, by first | exact oq_22323eb0 he148 b146.2 | omega⟩, trivial⟩
                    refine z_icmp_ne X (t := 224) rfl rfl (rng_to _) (by decide) (fun g149 => ?_) (fun g149 => ?_)
                    ·
                      refine z_load X (x := w) rfl (List.Mem.tail _ (List.Mem.tail _ (List.Mem.tail _ (List.Mem.tail _ (List.Mem.head _))))) (z_const X rfl (z_icmp_ne X (t := 237) rfl rfl ⟨by first | exact p3.1 | omega, by first | exact p3.2 | omega⟩ (by decide) (fun g150 => ?_) (fun g150 => ?_)))
                      ·
                        refine z_load X (x := w) rfl (List.Mem.tail _ (List.Mem.tail _ (List.Mem.tail _ (List.Mem.tail _ (List.Mem.head _))))) (z_aload_n X (x := A 179) rfl (List.Mem.head _) (z_getI X 179 rfl (c518_ok rfl) rfl rfl ?_))
                        have b151 := bi_90 Is143
                        refine z_icmp_ge X (t := 256) rfl rfl ⟨by first | exact p3.1 | omega, by first | exact p3.2 | omega⟩ (rng_to _) (fun g152 => ?_) (fun g152 => ?_)
                        ·
                          exact z_const X rfl (N147 _ (Or.inl ⟨g149, g150, b151, g152, rfl⟩))
                        ·
                          refine z_aload_n X (x := A 179) rfl (List.Mem.head _) (s_getR X 179 rfl (c518_ok rfl) rfl rfl (z_load X (x := w) rfl (List.Mem.tail _ (List.Mem.tail _ (List.Mem.tail _ (List.Mem.tail _ (List.Mem.head _))))) (z_ald X 457 rfl (c518_ok rfl) rfl (by first | exact oq_33feeab9 g150 hs137.2.2.2.1.1 g133 | omega) (show w < 12 by first | exact oq_0ddfcfee hs137.2.2.2.1.2 | omega) (cbig_ok rfl) ?_)))
                          have b153 := bc_402 Is143 (show (w).toNat < 12 by first | exact oq_9c5fa447 hs137.2.2.2.1.2 | omega)
                          exact z_goto X (t := 257) rfl rfl (N147 _ (Or.inr (Or.inl ⟨g149, g150, b151, g152, b153, rfl⟩)))
                      ·
                        refine z_aload_n X (x := A 179) rfl (List.Mem.head _) (z_getI X 179 rfl (c518_ok rfl) rfl rfl ?_)
                        have b154 := bi_106 Is143
                        exact z_goto X (t := 257) rfl rfl (N147 _ (Or.inr (Or.inr (Or.inl ⟨g149, g150, b154, rfl⟩))))
                    ·
                      exact z_const X rfl (z_goto X (t := 257) rfl rfl (N147 _ (Or.inr (Or.inr (Or.inr (⟨g149, rfl⟩))))))
                  ·
                    refine z_const X rfl ?_
                    exact w_iret X.1 q hRt rfl (ax_d X (show cdA 286 173 = some (.ireturn, 1, 0, 0, 0) from rfl)) (Nat.zero_le _) (Nat.zero_le _) ⟨_, rfl, Is134, Fs134, JRLx_s134, (-1), rfl, (by decide), trivial⟩
               ·
                 refine z_load X (x := x127) rfl (List.Mem.tail _ (List.Mem.tail _ (List.Mem.tail _ (List.Mem.tail _ (List.Mem.tail _ (List.Mem.head _)))))) ?_
                 exact w_iret X.1 q hRt rfl (ax_d X (show cdA 286 157 = some (.ireturn, 1, 0, 0, 0) from rfl)) (Nat.zero_le _) (Nat.zero_le _) ⟨_, rfl, Is126, Fs126, JRLx_s126, x127, rfl, ⟨by first | exact hs126.2.2.2.2.1.1 | omega, by first | exact hs126.2.2.2.2.1.2 | omega⟩, trivial⟩
             ·
               refine z_const X rfl ?_
               exact w_iret X.1 q hRt rfl (ax_d X (show cdA 286 61 = some (.ireturn, 1, 0, 0, 0) from rfl)) (Nat.zero_le _) (Nat.zero_le _) ⟨_, rfl, Is121, Gs121, JRLx_s121, 0, rfl, (by decide), trivial⟩
           refine z_if_ne X (t := 52) rfl rfl hrs117 (fun g155 => ?_) (fun g155 => ?_)
           ·
             exact z_const X rfl (N119 _ (Or.inl ⟨g155, rfl⟩))
           ·
             exact z_const X rfl (z_goto X (t := 53) rfl rfl (N119 _ (Or.inr (⟨g155, rfl⟩))))
end M64
end
section
theorem oq_2d160f3c {a0 a1 : Int} (h0 : a0 ≤ a1) : (a0 + 0) ≤ (a1 + 1) := by omega
theorem oq_36716223 {a0 : Int} (h0 : a0 ≤ 11) : a0 ≤ 2147483647 := by omega
/-! The model: lead -/
section M65
variable {l : Launch} {s0 : State} {D : va_G} {tys : List (ClassId × FieldType)} {a0 : Array Value} {A : Nat → Nat} {dT : Nat → ClassId} {s : PS}
set_option maxRecDepth 4000 in
theorem k_lead (G : GX l s0 D tys a0 dT) (I : Bd s) (jRLx : RLx s) {x y z w : Int} (p0 : rng x) (p1 : rng y) (p2 : rng z) (p3 : w = 0 ∨ w = 1) : CT l s0 D A dT 290 (rmN 290) [.ref (A 179), .int (Int32.ofInt x), .int (Int32.ofInt y), .int (Int32.ofInt z), .int (Int32.ofInt w)] s (fun o t => Bd t ∧ Fm [73, 77, 75, 78, 79, 80, 81] [202, 204, 205, 206, 207, 208, 209, 210, 211, 212, 213, 214, 215, 216, 217, 218, 219, 220, 221, 222, 223, 224, 225, 226, 227, 203, 161, 230] s t ∧ RLx t ∧ ∃ e, o = .inl (some (.int (Int32.ofInt e))) ∧ rng e ∧ (True)) := by
  refine ct_of G (by decide) (Nat.le_of_ble_eq_true rfl) (fun k X E hRt hXt q => ?_)
  show WS k 0 [(0, .ref (A 179)), (1, .int (Int32.ofInt x)), (2, .int (Int32.ofInt y)), (3, .int (Int32.ofInt z)), (4, .int (Int32.ofInt w))] [] _ 0 0
  have F : Fm [73, 77, 75, 78, 79, 80, 81] [202, 204, 205, 206, 207, 208, 209, 210, 211, 212, 213, 214, 215, 216, 217, 218, 219, 220, 221, 222, 223, 224, 225, 226, 227, 203, 161, 230] s s := fm_rf _ _ s
  have b1 := bi_73 I
  have b2 := bi_90 I
  have L65 : ∀ (q1 : Nat) (n : Nat) (t : PS) (zv wv al a : Int), Bd t → FmX [73, 77, 75, 78, 79, 80, 81] [202, 204, 205, 206, 207, 208, 209, 210, 211, 212, 213, 214, 215, 216, 217, 218, 219, 220, 221, 222, 223, 224, 225, 226, 227, 203, 161, 230] s t → RLx t → (EXl (pX s) (dT 0) [(q1, 12)] t ∧ NW t) → (rng zv ∧ (wv = 0 ∨ wv = 1) ∧ rng al ∧ 0 ≤ a ∧ a ≤ 12) → (12 - a : Int).toNat < n → (∀ (t' : PS) (a' : Int), Bd t' → FmX [73, 77, 75, 78, 79, 80, 81] [202, 204, 205, 206, 207, 208, 209, 210, 211, 212, 213, 214, 215, 216, 217, 218, 219, 220, 221, 222, 223, 224, 225, 226, 227, 203, 161, 230] s t' → RLx t' → (EXl (pX s) (dT 0) [(q1, 12)] t' ∧ NW t') → (rng zv ∧ (wv = 0 ∨ wv = 1) ∧ rng al ∧ 0 ≤ a' ∧ a' ≤ 12) → WS k 118 [(0, .ref (A 179)), (6, .ref q1), (3, .int (Int32.ofInt zv)), (4, .int (Int32.ofInt wv)), (5, .int (Int32.ofInt al)), (7, .int (Int32.ofInt a'))] [] (Wd A dT t') 1 12) → WS k 65 [(0, .ref (A 179)), (6, .ref q1), (3, .int (Int32.ofInt zv)), (4, .int (Int32.ofInt wv)), (5, .int (Int32.ofInt al)), (7, .int (Int32.ofInt a))] [] (Wd A dT t) 1 12 := by
    intro q1 n
    induction n with
    | zero =>
      intro t zv wv al a I F jjRLx hq hi hm kx
      exact absurd hm (Nat.not_lt_zero _)
    | succ n ih =>
      intro t zv wv al a I F jjRLx hq hi hm kx
      have b1001 := bi_73 I
      have b1002 := bi_90 I
      refine z_load X (x := a) rfl (List.Mem.tail _ (List.Mem.tail _ (List.Mem.tail _ (List.Mem.tail _ (List.Mem.tail _ (List.Mem.head _)))))) (z_aload_n X (x := A 179) rfl (List.Mem.head _) (z_getI X 179 rfl (c518_ok rfl) rfl rfl ?_))
      have b1003 := bi_90 I
      refine z_icmp_ge X (t := 118) rfl rfl ⟨by first | exact oq_fa4e5087 hi.2.2.2.1 | omega, by first | exact oq_78843a64 hi.2.2.2.2 | omega⟩ (rng_to _) (fun g1004 => ?_) (fun g1004 => ?_)
      ·
        refine WS_pq [0, 1, 2, 3, 4, 5] (lv' := [(0, .ref (A 179)), (6, .ref q1), (3, .int (Int32.ofInt zv)), (4, .int (Int32.ofInt wv)), (5, .int (Int32.ofInt al)), (7, .int (Int32.ofInt a))]) rfl ?_
        exact kx _ a I F jjRLx ⟨hq.1, hq.2⟩ (by first | exact ⟨And.intro (hi.1.1) (hi.1.2), hi.2.1, And.intro (hi.2.2.1.1) (hi.2.2.1.2), hi.2.2.2.1, hi.2.2.2.2⟩ | omega)
      ·
        refine z_aload_n X (x := A 179) rfl (List.Mem.head _) (s_getR X 179 rfl (c518_ok rfl) rfl rfl (z_load X (x := a) rfl (List.Mem.tail _ (List.Mem.tail _ (List.Mem.tail _ (List.Mem.tail _ (List.Mem.tail _ (List.Mem.head _)))))) (z_ald X 229 rfl (c518_ok rfl) rfl (by first | exact hi.2.2.2.1 | omega) (show a < 12 by first | exact oq_f36e82a8 g1004 b1003.2 | omega) (cbig_ok rfl) ?_)))
        have b1005 := bc_203 I (show (a).toNat < 12 by first | exact oq_2dac6850 g1004 b1003.2 | omega)
        refine z_store X (lv' := [(8, .int (Int32.ofInt (iC t 203 (a).toNat))), (0, .ref (A 179)), (6, .ref q1), (3, .int (Int32.ofInt zv)), (4, .int (Int32.ofInt wv)), (5, .int (Int32.ofInt al)), (7, .int (Int32.ofInt a))]) rfl (by decide) (fun _ h => h) (z_aload_n X (x := A 179) rfl (List.Mem.tail _ (List.Mem.head _)) (s_getR X 179 rfl (c518_ok rfl) rfl rfl (z_load X (x := a) rfl (List.Mem.tail _ (List.Mem.tail _ (List.Mem.tail _ (List.Mem.tail _ (List.Mem.tail _ (List.Mem.tail _ (List.Mem.head _))))))) (z_const X rfl (z_ast X 229 rfl (c518_ok rfl) rfl (by first | exact hi.2.2.2.1 | omega) (show a < 12 by first | exact oq_f36e82a8 g1004 b1003.2 | omega) (cbig_ok rfl) (wd_gen (fun s1006 hs1006 => ?_)))))))
        have Is1006 : Bd s1006 := eqB hs1006 (bd_C I (show (0 : Int) ≤ 0 ∧ 0 ≤ 50 by first | exact ⟨by decide, by decide⟩ | omega) (by decide))
        have Fs1006 := fx_C (i := (a).toNat) (x := Int32.ofInt 0) F (show 203 ∈ _ by decide)
        rw [← hs1006] at Fs1006
        have ws1006_73 : iI s1006 73 = iI t 73 := eqI hs1006 rfl
        have ws1006_90 : iI s1006 90 = iI t 90 := eqI hs1006 rfl
        have fs1006 : Fm [] [203] t s1006 := by rw [hs1006]; exact fm_C (fm_rf _ _ _) (show 203 ∈ _ by decide)
        have JRLx_s1006 : RLx s1006 := RLx_fm fs1006 (by decide) jjRLx
        have JEX_s1006 : EXl (pX s) (dT 0) [(q1, 12)] s1006 := EX_fm fs1006 hq.1
        have JNW_s1006 : NW s1006 := NW_fm fs1006 (by decide) hq.2
        refine z_aload X (x := q1) rfl (List.Mem.tail _ (List.Mem.tail _ (List.Mem.head _))) (z_load X (x := a) rfl (List.Mem.tail _ (List.Mem.tail _ (List.Mem.tail _ (List.Mem.tail _ (List.Mem.tail _ (List.Mem.tail _ (List.Mem.head _))))))) (z_load X (x := al) rfl (List.Mem.tail _ (List.Mem.tail _ (List.Mem.tail _ (List.Mem.tail _ (List.Mem.tail _ (List.Mem.head _)))))) (z_aload_n X (x := A 179) rfl (List.Mem.tail _ (List.Mem.head _)) (z_callV X 179 (rm := rmN 228) (As := []) (st := [.int (Int32.ofInt al), .int (Int32.ofInt a), .ref q1]) rfl rfl (by decide) rfl (by rw [E.1, E.2.1, E.2.2.1]; exact k_load G Is1006 JNW_s1006 ) ⟨by rw [E.2.2.2]; exact (show (rmN 228).frames + 1 ≤ (rmN 290).frames by decide), by rw [E.2.2.2]; exact (show 8 + (mNL (miB 228) + 11) + (rmN 228).locals ≤ (rmN 290).locals by decide), by rw [E.2.2.2]; exact (show 1 + 0 ≤ 1 by decide), by rw [E.2.2.2]; exact (show 12 + 0 ≤ 12 by decide)⟩ (Nat.le_of_ble_eq_true rfl) (fun vv s1007 hq => ?_) (fun ee s1007 hq => ?_)))))
        rotate_left
        · obtain ⟨Is1007, Fs1007, JNW_s1007, e1008, hv, hrs1007, hps1007⟩ := hq; cases hv
        obtain ⟨Is1007, Fs1007, JNW_s1007, e1008, hv, hrs1007, hps1007⟩ := hq
        cases hv
        have Gs1007 := fx_ts Fs1006 Fs1007 (by decide) (by decide)
        have JRLx_s1007 : RLx s1007 := RLx_fm Fs1007 (by decide) JRLx_s1006
        have JEX_s1007 : EXl (pX s) (dT 0) [(q1, 12)] s1007 := EX_fm Fs1007 JEX_s1006
        have JNW_s1007 : NW s1007 := NW_fm Fs1007 (by decide) JNW_s1006
        have ws1007_73 : iI s1007 73 = iI s1006 73 := fm_iq Fs1007 rfl
        have ws1007_90 : iI s1007 90 = iI s1006 90 := fm_iq Fs1007 rfl
        show WS k 101 [(8, .int (Int32.ofInt (iC t 203 (a).toNat))), (0, .ref (A 179)), (6, .ref q1), (3, .int (Int32.ofInt zv)), (4, .int (Int32.ofInt wv)), (5, .int (Int32.ofInt al)), (7, .int (Int32.ofInt a))] [.int (Int32.ofInt e1008), .int (Int32.ofInt al), .int (Int32.ofInt a), .ref q1] (Wd A dT s1007) 1 12
        refine z_sub X rfl (z_any (fun y1009 hy1009 => ?_))
        refine z_xast X JEX_s1007 0 rfl rfl (by first | exact hi.2.2.2.1 | omega) (show a < 12 by first | exact oq_f36e82a8 g1004 b1003.2 | omega) (by decide) (fun ps1010 es1010 => ?_)
        have Is1010 : Bd (sx s1007 ps1010) := Is1007
        have Fs1010 : FmX [73, 77, 75, 78, 79, 80, 81] [202, 204, 205, 206, 207, 208, 209, 210, 211, 212, 213, 214, 215, 216, 217, 218, 219, 220, 221, 222, 223, 224, 225, 226, 227, 203, 161, 230] s (sx s1007 ps1010) := Gs1007
        have ws1010_73 : iI (sx s1007 ps1010) 73 = iI s1007 73 := rfl
        have ws1010_90 : iI (sx s1007 ps1010) 90 = iI s1007 90 := rfl
        have JRLx_s1010 : RLx (sx s1007 ps1010) := JRLx_s1007
        have JNW_s1010 : NW (sx s1007 ps1010) := JNW_s1007
        generalize sx s1007 ps1010 = s1010 at *
        refine z_aload_n X (x := A 179) rfl (List.Mem.tail _ (List.Mem.head _)) (s_getR X 179 rfl (c518_ok rfl) rfl rfl (z_load X (x := a) rfl (List.Mem.tail _ (List.Mem.tail _ (List.Mem.tail _ (List.Mem.tail _ (List.Mem.tail _ (List.Mem.tail _ (List.Mem.head _))))))) (z_load X (x := (iC t 203 (a).toNat)) rfl (List.Mem.head _) (z_ast X 229 rfl (c518_ok rfl) rfl (by first | exact hi.2.2.2.1 | omega) (show a < 12 by first | exact oq_f36e82a8 g1004 b1003.2 | omega) (cbig_ok rfl) (wd_gen (fun s1011 hs1011 => ?_))))))
        have Is1011 : Bd s1011 := eqB hs1011 (bd_C Is1010 (show (0 : Int) ≤ (iC t 203 (a).toNat) ∧ (iC t 203 (a).toNat) ≤ 50 by first | exact ⟨b1005.1, b1005.2⟩ | omega) (rng_to _))
        have Fs1011 := fx_C (i := (a).toNat) (x := Int32.ofInt (iC t 203 (a).toNat)) Fs1010 (show 203 ∈ _ by decide)
        rw [← hs1011] at Fs1011
        have ws1011_73 : iI s1011 73 = iI s1010 73 := eqI hs1011 rfl
        have ws1011_90 : iI s1011 90 = iI s1010 90 := eqI hs1011 rfl
        have fs1011 : Fm [] [203] s1010 s1011 := by rw [hs1011]; exact fm_C (fm_rf _ _ _) (show 203 ∈ _ by decide)
        have JRLx_s1011 : RLx s1011 := RLx_fm fs1011 (by decide) JRLx_s1010
        have JEX_s1011 : EXl (pX s) (dT 0) [(q1, 12)] s1011 := EX_fm fs1011 es1010
        have JNW_s1011 : NW s1011 := NW_fm fs1011 (by decide) JNW_s1010
        refine z_inc X (x := a) (lv' := [(7, .int (Int32.ofInt (a + 1))), (8, .int (Int32.ofInt (iC t 203 (a).toNat))), (0, .ref (A 179)), (6, .ref q1), (3, .int (Int32.ofInt zv)), (4, .int (Int32.ofInt wv)), (5, .int (Int32.ofInt al))]) rfl (by decide) (List.Mem.tail _ (List.Mem.tail _ (List.Mem.tail _ (List.Mem.tail _ (List.Mem.tail _ (List.Mem.tail _ (List.Mem.head _))))))) (fun _ h => h) (z_goto X (t := 65) rfl rfl (WS_pq [2, 3, 4, 5, 6, 0] (lv' := [(0, .ref (A 179)), (6, .ref q1), (3, .int (Int32.ofInt zv)), (4, .int (Int32.ofInt wv)), (5, .int (Int32.ofInt al)), (7, .int (Int32.ofInt (a + 1)))]) rfl ?_))
        exact ih _ zv wv al (a + 1) Is1011 Fs1011 JRLx_s1011 ⟨JEX_s1011, JNW_s1011⟩ (by first | exact ⟨And.intro (hi.1.1) (hi.1.2), hi.2.1, And.intro (hi.2.2.1.1) (hi.2.2.1.2), oq_54f49eb5 hi.2.2.2.1, oq_4dae995e g1004 b1003.2⟩ | omega) (by first | exact qk_me hm (by decide) (oq_b575e8c1 g1004 b1003.2) | omega) kx
  have L136 : ∀ (q1 : Nat) (n : Nat) (t : PS) (zv wv a ah b : Int), Bd t → FmX [73, 77, 75, 78, 79, 80, 81] [202, 204, 205, 206, 207, 208, 209, 210, 211, 212, 213, 214, 215, 216, 217, 218, 219, 220, 221, 222, 223, 224, 225, 226, 227, 203, 161, 230] s t → RLx t → (EXl (pX s) (dT 0) [(q1, 12)] t ∧ NW t) → (rng zv ∧ (wv = 0 ∨ wv = 1) ∧ (0 ≤ a ∧ a ≤ 11) ∧ (0 ≤ ah ∧ ah ≤ b) ∧ b ≤ 12) → (12 - b : Int).toNat < n → (∀ (t' : PS) (ah' b' : Int), Bd t' → FmX [73, 77, 75, 78, 79, 80, 81] [202, 204, 205, 206, 207, 208, 209, 210, 211, 212, 213, 214, 215, 216, 217, 218, 219, 220, 221, 222, 223, 224, 225, 226, 227, 203, 161, 230] s t' → RLx t' → (EXl (pX s) (dT 0) [(q1, 12)] t' ∧ NW t') → (rng zv ∧ (wv = 0 ∨ wv = 1) ∧ (0 ≤ a ∧ a ≤ 11) ∧ (0 ≤ ah' ∧ ah' ≤ b') ∧ b' ≤ 12) → WS k 202 [(0, .ref (A 179)), (6, .ref q1), (3, .int (Int32.ofInt zv)), (4, .int (Int32.ofInt wv)), (7, .int (Int32.ofInt a)), (8, .int (Int32.ofInt ah')), (9, .int (Int32.ofInt b'))] [] (Wd A dT t') 1 12) → WS k 136 [(0, .ref (A 179)), (6, .ref q1), (3, .int (Int32.ofInt zv)), (4, .int (Int32.ofInt wv)), (7, .int (Int32.ofInt a)), (8, .int (Int32.ofInt ah)), (9, .int (Int32.ofInt b))] [] (Wd A dT t) 1 12 := by
    intro q1 n
    induction n with
    | zero =>
      intro t zv wv a ah b I F jjRLx hq hi hm kx
      exact absurd hm (Nat.not_lt_zero _)
    | succ n ih =>
      intro t zv wv a ah b I F jjRLx hq hi hm kx
      have b2001 := bi_73 I
      have b2002 := bi_90 I
      refine z_load X (x := b) rfl (List.Mem.tail _ (List.Mem.tail _ (List.Mem.tail _ (List.Mem.tail _ (List.Mem.tail _ (List.Mem.tail _ (List.Mem.head _))))))) (z_aload_n X (x := A 179) rfl (List.Mem.head _) (z_getI X 179 rfl (c518_ok rfl) rfl rfl ?_))
      have b2003 := bi_90 I
      refine z_icmp_ge X (t := 202) rfl rfl ⟨by first | exact oq_e001bc0d hi.2.2.2.1.2 hi.2.2.2.1.1 | omega, by first | exact oq_78843a64 hi.2.2.2.2 | omega⟩ (rng_to _) (fun g2004 => ?_) (fun g2004 => ?_)
      ·
        refine WS_pq [0, 1, 2, 3, 4, 5, 6] (lv' := [(0, .ref (A 179)), (6, .ref q1), (3, .int (Int32.ofInt zv)), (4, .int (Int32.ofInt wv)), (7, .int (Int32.ofInt a)), (8, .int (Int32.ofInt ah)), (9, .int (Int32.ofInt b))]) rfl ?_
        exact kx _ ah b I F jjRLx ⟨hq.1, hq.2⟩ (by first | exact ⟨And.intro (hi.1.1) (hi.1.2), hi.2.1, And.intro (hi.2.2.1.1) (hi.2.2.1.2), And.intro (hi.2.2.2.1.1) (hi.2.2.2.1.2), hi.2.2.2.2⟩ | omega)
      ·
        refine z_load X (x := ah) rfl (List.Mem.tail _ (List.Mem.tail _ (List.Mem.tail _ (List.Mem.tail _ (List.Mem.tail _ (List.Mem.head _)))))) (z_aload X (x := q1) rfl (List.Mem.tail _ (List.Mem.head _)) (z_load X (x := b) rfl (List.Mem.tail _ (List.Mem.tail _ (List.Mem.tail _ (List.Mem.tail _ (List.Mem.tail _ (List.Mem.tail _ (List.Mem.head _))))))) (z_xald X hq.1 0 rfl rfl (by first | exact oq_12a1f9e1 hi.2.2.2.1.2 hi.2.2.2.1.1 | omega) (show b < 12 by first | exact oq_f36e82a8 g2004 b2003.2 | omega) (by decide) (fun y2005 hy2005 => ?_))))
        refine z_if_eq X (t := 192) rfl rfl hy2005 (fun g2006 => ?_) (fun g2006 => ?_)
        ·
          refine z_const X rfl (z_add X rfl (z_store X (lv' := [(8, .int (Int32.ofInt (ah + 0))), (0, .ref (A 179)), (6, .ref q1), (3, .int (Int32.ofInt zv)), (4, .int (Int32.ofInt wv)), (7, .int (Int32.ofInt a)), (9, .int (Int32.ofInt b))]) rfl (by decide) (fun _ h => h) (z_inc X (x := b) (lv' := [(9, .int (Int32.ofInt (b + 1))), (8, .int (Int32.ofInt (ah + 0))), (0, .ref (A 179)), (6, .ref q1), (3, .int (Int32.ofInt zv)), (4, .int (Int32.ofInt wv)), (7, .int (Int32.ofInt a))]) rfl (by decide) (List.Mem.tail _ (List.Mem.tail _ (List.Mem.tail _ (List.Mem.tail _ (List.Mem.tail _ (List.Mem.tail _ (List.Mem.head _))))))) (fun _ h => h) (z_goto X (t := 136) rfl rfl (WS_pq [2, 3, 4, 5, 6, 1, 0] (lv' := [(0, .ref (A 179)), (6, .ref q1), (3, .int (Int32.ofInt zv)), (4, .int (Int32.ofInt wv)), (7, .int (Int32.ofInt a)), (8, .int (Int32.ofInt (ah + 0))), (9, .int (Int32.ofInt (b + 1)))]) rfl ?_)))))
          exact ih _ zv wv a (ah + 0) (b + 1) I F jjRLx ⟨hq.1, hq.2⟩ (by first | exact ⟨And.intro (hi.1.1) (hi.1.2), hi.2.1, And.intro (hi.2.2.1.1) (hi.2.2.1.2), And.intro (oq_590e7a3f hi.2.2.2.1.1) (oq_2d160f3c hi.2.2.2.1.2), oq_4dae995e g2004 b2003.2⟩ | omega) (by first | exact qk_me hm (by decide) (oq_b575e8c1 g2004 b2003.2) | omega) kx
        ·
          refine z_aload X (x := q1) rfl (List.Mem.tail _ (List.Mem.head _)) (z_load X (x := b) rfl (List.Mem.tail _ (List.Mem.tail _ (List.Mem.tail _ (List.Mem.tail _ (List.Mem.tail _ (List.Mem.tail _ (List.Mem.head _))))))) (z_xald X hq.1 0 rfl rfl (by first | exact oq_12a1f9e1 hi.2.2.2.1.2 hi.2.2.2.1.1 | omega) (show b < 12 by first | exact oq_f36e82a8 g2004 b2003.2 | omega) (by decide) (fun y2007 hy2007 => ?_)))
          refine z_aload X (x := q1) rfl (List.Mem.tail _ (List.Mem.head _)) (z_load X (x := a) rfl (List.Mem.tail _ (List.Mem.tail _ (List.Mem.tail _ (List.Mem.tail _ (List.Mem.head _))))) (z_xald X hq.1 0 rfl rfl (by first | exact hi.2.2.1.1 | omega) (show a < 12 by first | exact oq_0ddfcfee hi.2.2.1.2 | omega) (by decide) (fun y2008 hy2008 => ?_)))
          refine z_icmp_gt X (t := 188) rfl rfl hy2007 hy2008 (fun g2009 => ?_) (fun g2009 => ?_)
          ·
            refine z_const X rfl (z_goto X (t := 193) rfl rfl (z_add X rfl (z_store X (lv' := [(8, .int (Int32.ofInt (ah + 1))), (0, .ref (A 179)), (6, .ref q1), (3, .int (Int32.ofInt zv)), (4, .int (Int32.ofInt wv)), (7, .int (Int32.ofInt a)), (9, .int (Int32.ofInt b))]) rfl (by decide) (fun _ h => h) (z_inc X (x := b) (lv' := [(9, .int (Int32.ofInt (b + 1))), (8, .int (Int32.ofInt (ah + 1))), (0, .ref (A 179)), (6, .ref q1), (3, .int (Int32.ofInt zv)), (4, .int (Int32.ofInt wv)), (7, .int (Int32.ofInt a))]) rfl (by decide) (List.Mem.tail _ (List.Mem.tail _ (List.Mem.tail _ (List.Mem.tail _ (List.Mem.tail _ (List.Mem.tail _ (List.Mem.head _))))))) (fun _ h => h) (z_goto X (t := 136) rfl rfl (WS_pq [2, 3, 4, 5, 6, 1, 0] (lv' := [(0, .ref (A 179)), (6, .ref q1), (3, .int (Int32.ofInt zv)), (4, .int (Int32.ofInt wv)), (7, .int (Int32.ofInt a)), (8, .int (Int32.ofInt (ah + 1))), (9, .int (Int32.ofInt (b + 1)))]) rfl ?_))))))
            exact ih _ zv wv a (ah + 1) (b + 1) I F jjRLx ⟨hq.1, hq.2⟩ (by first | exact ⟨And.intro (hi.1.1) (hi.1.2), hi.2.1, And.intro (hi.2.2.1.1) (hi.2.2.1.2), And.intro (oq_54f49eb5 hi.2.2.2.1.1) (oq_8d48a029 hi.2.2.2.1.2), oq_4dae995e g2004 b2003.2⟩ | omega) (by first | exact qk_me hm (by decide) (oq_b575e8c1 g2004 b2003.2) | omega) kx
          ·
            refine z_aload X (x := q1) rfl (List.Mem.tail _ (List.Mem.head _)) (z_load X (x := b) rfl (List.Mem.tail _ (List.Mem.tail _ (List.Mem.tail _ (List.Mem.tail _ (List.Mem.tail _ (List.Mem.tail _ (List.Mem.head _))))))) (z_xald X hq.1 0 rfl rfl (by first | exact oq_12a1f9e1 hi.2.2.2.1.2 hi.2.2.2.1.1 | omega) (show b < 12 by first | exact oq_f36e82a8 g2004 b2003.2 | omega) (by decide) (fun y2010 hy2010 => ?_)))
            refine z_aload X (x := q1) rfl (List.Mem.tail _ (List.Mem.head _)) (z_load X (x := a) rfl (List.Mem.tail _ (List.Mem.tail _ (List.Mem.tail _ (List.Mem.tail _ (List.Mem.head _))))) (z_xald X hq.1 0 rfl rfl (by first | exact hi.2.2.1.1 | omega) (show a < 12 by first | exact oq_0ddfcfee hi.2.2.1.2 | omega) (by decide) (fun y2011 hy2011 => ?_)))
            have N2012 : ∀ e2013 : Int, (((y2010 ≠ y2011) ∧ e2013 = 0) ∨ ((y2010 = y2011) ∧ (a ≤ b) ∧ e2013 = 0) ∨ ((y2010 = y2011) ∧ (b < a) ∧ e2013 = 1)) → WS k 193 [(0, .ref (A 179)), (6, .ref q1), (3, .int (Int32.ofInt zv)), (4, .int (Int32.ofInt wv)), (7, .int (Int32.ofInt a)), (8, .int (Int32.ofInt ah)), (9, .int (Int32.ofInt b))] [.int (Int32.ofInt e2013), .int (Int32.ofInt ah)] (Wd A dT t) 1 12 := by
              intro e2013 he2013
              have re2013 : 0 ≤ e2013 ∧ e2013 ≤ 1 := by first | (clear he2013 g2006 p3; omega) | (clear g2006 p3; omega) | omega
              refine z_add X rfl (z_store X (lv' := [(8, .int (Int32.ofInt (ah + e2013))), (0, .ref (A 179)), (6, .ref q1), (3, .int (Int32.ofInt zv)), (4, .int (Int32.ofInt wv)), (7, .int (Int32.ofInt a)), (9, .int (Int32.ofInt b))]) rfl (by decide) (fun _ h => h) (z_inc X (x := b) (lv' := [(9, .int (Int32.ofInt (b + 1))), (8, .int (Int32.ofInt (ah + e2013))), (0, .ref (A 179)), (6, .ref q1), (3, .int (Int32.ofInt zv)), (4, .int (Int32.ofInt wv)), (7, .int (Int32.ofInt a))]) rfl (by decide) (List.Mem.tail _ (List.Mem.tail _ (List.Mem.tail _ (List.Mem.tail _ (List.Mem.tail _ (List.Mem.tail _ (List.Mem.head _))))))) (fun _ h => h) (z_goto X (t := 136) rfl rfl (WS_pq [2, 3, 4, 5, 6, 1, 0] (lv' := [(0, .ref (A 179)), (6, .ref q1), (3, .int (Int32.ofInt zv)), (4, .int (Int32.ofInt wv)), (7, .int (Int32.ofInt a)), (8, .int (Int32.ofInt (ah + e2013))), (9, .int (Int32.ofInt (b + 1)))]) rfl ?_))))
              exact ih _ zv wv a (ah + e2013) (b + 1) I F jjRLx ⟨hq.1, hq.2⟩ (by first | exact ⟨And.intro (hi.1.1) (hi.1.2), hi.2.1, And.intro (hi.2.2.1.1) (hi.2.2.1.2), And.intro (oq_dd29f52d hi.2.2.2.1.1 re2013.1) (oq_273e42a6 hi.2.2.2.1.2 re2013.2), oq_4dae995e g2004 b2003.2⟩ | omega) (by first | exact qk_me hm (by decide) (oq_b575e8c1 g2004 b2003.2) | omega) kx
            refine z_icmp_ne X (t := 192) rfl rfl hy2010 hy2011 (fun g2014 => ?_) (fun g2014 => ?_)
            ·
              exact z_const X rfl (N2012 _ (Or.inl ⟨g2014, rfl⟩))
            ·
              refine z_load X (x := b) rfl (List.Mem.tail _ (List.Mem.tail _ (List.Mem.tail _ (List.Mem.tail _ (List.Mem.tail _ (List.Mem.tail _ (List.Mem.head _))))))) (z_load X (x := a) rfl (List.Mem.tail _ (List.Mem.tail _ (List.Mem.tail _ (List.Mem.tail _ (List.Mem.head _))))) (z_icmp_ge X (t := 192) rfl rfl ⟨by first | exact oq_e001bc0d hi.2.2.2.1.2 hi.2.2.2.1.1 | omega, by first | exact oq_78843a64 hi.2.2.2.2 | omega⟩ ⟨by first | exact oq_fa4e5087 hi.2.2.1.1 | omega, by first | exact oq_36716223 hi.2.2.1.2 | omega⟩ (fun g2015 => ?_) (fun g2015 => ?_)))
              ·
                exact z_const X rfl (N2012 _ (Or.inr (Or.inl ⟨g2014, g2015, rfl⟩)))
              ·
                exact z_const X rfl (z_goto X (t := 193) rfl rfl (N2012 _ (Or.inr (Or.inr (⟨g2014, g2015, rfl⟩)))))
  have L121 : ∀ (q1 : Nat) (n : Nat) (t : PS) (zv wv a : Int), Bd t → FmX [73, 77, 75, 78, 79, 80, 81] [202, 204, 205, 206, 207, 208, 209, 210, 211, 212, 213, 214, 215, 216, 217, 218, 219, 220, 221, 222, 223, 224, 225, 226, 227, 203, 161, 230] s t → RLx t → (EXl (pX s) (dT 0) [(q1, 12)] t ∧ NW t) → (rng zv ∧ (wv = 0 ∨ wv = 1) ∧ 0 ≤ a ∧ a ≤ 12) → (12 - a : Int).toNat < n → (∀ (t' : PS) (a' : Int), Bd t' → FmX [73, 77, 75, 78, 79, 80, 81] [202, 204, 205, 206, 207, 208, 209, 210, 211, 212, 213, 214, 215, 216, 217, 218, 219, 220, 221, 222, 223, 224, 225, 226, 227, 203, 161, 230] s t' → RLx t' → (EXl (pX s) (dT 0) [(q1, 12)] t' ∧ NW t') → (rng zv ∧ (wv = 0 ∨ wv = 1) ∧ 0 ≤ a' ∧ a' ≤ 12) → WS k 238 [(0, .ref (A 179)), (6, .ref q1), (3, .int (Int32.ofInt zv)), (4, .int (Int32.ofInt wv)), (7, .int (Int32.ofInt a'))] [] (Wd A dT t') 1 12) → WS k 121 [(0, .ref (A 179)), (6, .ref q1), (3, .int (Int32.ofInt zv)), (4, .int (Int32.ofInt wv)), (7, .int (Int32.ofInt a))] [] (Wd A dT t) 1 12 := by
    intro q1 n
    induction n with
    | zero =>
      intro t zv wv a I F jjRLx hq hi hm kx
      exact absurd hm (Nat.not_lt_zero _)
    | succ n ih =>
      intro t zv wv a I F jjRLx hq hi hm kx
      have b3001 := bi_73 I
      have b3002 := bi_90 I
      refine z_load X (x := a) rfl (List.Mem.tail _ (List.Mem.tail _ (List.Mem.tail _ (List.Mem.tail _ (List.Mem.head _))))) (z_aload_n X (x := A 179) rfl (List.Mem.head _) (z_getI X 179 rfl (c518_ok rfl) rfl rfl ?_))
      have b3003 := bi_90 I
      refine z_icmp_ge X (t := 238) rfl rfl ⟨by first | exact oq_fa4e5087 hi.2.2.1 | omega, by first | exact oq_78843a64 hi.2.2.2 | omega⟩ (rng_to _) (fun g3004 => ?_) (fun g3004 => ?_)
      ·
        refine WS_pq [0, 1, 2, 3, 4] (lv' := [(0, .ref (A 179)), (6, .ref q1), (3, .int (Int32.ofInt zv)), (4, .int (Int32.ofInt wv)), (7, .int (Int32.ofInt a))]) rfl ?_
        exact kx _ a I F jjRLx ⟨hq.1, hq.2⟩ (by first | exact ⟨And.intro (hi.1.1) (hi.1.2), hi.2.1, hi.2.2.1, hi.2.2.2⟩ | omega)
      ·
        refine z_const X rfl (z_store X (lv' := [(8, .int (Int32.ofInt 0)), (0, .ref (A 179)), (6, .ref q1), (3, .int (Int32.ofInt zv)), (4, .int (Int32.ofInt wv)), (7, .int (Int32.ofInt a))]) rfl (by decide) (fun _ h => h) (z_const X rfl (z_store X (lv' := [(9, .int (Int32.ofInt 0)), (8, .int (Int32.ofInt 0)), (0, .ref (A 179)), (6, .ref q1), (3, .int (Int32.ofInt zv)), (4, .int (Int32.ofInt wv)), (7, .int (Int32.ofInt a))]) rfl (by decide) (fun _ h => h) (WS_pq [2, 3, 4, 5, 6, 1, 0] (lv' := [(0, .ref (A 179)), (6, .ref q1), (3, .int (Int32.ofInt zv)), (4, .int (Int32.ofInt wv)), (7, .int (Int32.ofInt a)), (8, .int (Int32.ofInt 0)), (9, .int (Int32.ofInt 0))]) rfl (L136 q1 ((12 - 0 : Int).toNat + 1) t zv wv a 0 0 I F jjRLx ⟨hq.1, hq.2⟩ (by first | exact ⟨And.intro (hi.1.1) (hi.1.2), hi.2.1, And.intro (hi.2.2.1) (oq_e4d7f3c5 g3004 b3003.2), And.intro (by decide) (by decide), by decide⟩ | omega) (Nat.lt_succ_self _) ?_)))))
        intro s3005 x3006 x3007 Is3005 Fs3005 JRLx_s3005 Qs3005 hs3005
        have b3008 := bi_73 Is3005
        have b3009 := bi_90 Is3005
        refine z_aload X (x := q1) rfl (List.Mem.tail _ (List.Mem.head _)) (z_load X (x := a) rfl (List.Mem.tail _ (List.Mem.tail _ (List.Mem.tail _ (List.Mem.tail _ (List.Mem.head _))))) (z_xald X Qs3005.1 0 rfl rfl (by first | exact hs3005.2.2.1.1 | omega) (show a < 12 by first | exact oq_0ddfcfee hs3005.2.2.1.2 | omega) (by decide) (fun y3010 hy3010 => ?_)))
        refine z_if_eq X (t := 232) rfl rfl hy3010 (fun g3011 => ?_) (fun g3011 => ?_)
        ·
          refine z_inc X (x := a) (lv' := [(7, .int (Int32.ofInt (a + 1))), (0, .ref (A 179)), (6, .ref q1), (3, .int (Int32.ofInt zv)), (4, .int (Int32.ofInt wv)), (8, .int (Int32.ofInt x3006)), (9, .int (Int32.ofInt x3007))]) rfl (by decide) (List.Mem.tail _ (List.Mem.tail _ (List.Mem.tail _ (List.Mem.tail _ (List.Mem.head _))))) (fun _ h => h) (z_goto X (t := 121) rfl rfl (WS_pq [1, 2, 3, 4, 0] (lv' := [(0, .ref (A 179)), (6, .ref q1), (3, .int (Int32.ofInt zv)), (4, .int (Int32.ofInt wv)), (7, .int (Int32.ofInt (a + 1)))]) rfl ?_))
          exact ih _ zv wv (a + 1) Is3005 Fs3005 JRLx_s3005 ⟨Qs3005.1, Qs3005.2⟩ (by first | exact ⟨And.intro (hs3005.1.1) (hs3005.1.2), hs3005.2.1, oq_54f49eb5 hs3005.2.2.1.1, oq_51d1204d hs3005.2.2.1.2⟩ | omega) (by first | exact qk_me hm (by decide) (oq_8b937940 hs3005.2.2.1.2) | omega) kx
        ·
          refine z_load X (x := x3006) rfl (List.Mem.tail _ (List.Mem.tail _ (List.Mem.tail _ (List.Mem.tail _ (List.Mem.tail _ (List.Mem.head _)))))) (z_load_n X (x := zv) rfl (List.Mem.tail _ (List.Mem.tail _ (List.Mem.head _))) (z_icmp_ne X (t := 232) rfl rfl ⟨by first | exact oq_fa4e5087 hs3005.2.2.2.1.1 | omega, by first | exact oq_39d2cc6e hs3005.2.2.2.1.2 hs3005.2.2.2.2 | omega⟩ ⟨by first | exact hs3005.1.1 | omega, by first | exact hs3005.1.2 | omega⟩ (fun g3012 => ?_) (fun g3012 => ?_)))
          ·
            refine z_inc X (x := a) (lv' := [(7, .int (Int32.ofInt (a + 1))), (0, .ref (A 179)), (6, .ref q1), (3, .int (Int32.ofInt zv)), (4, .int (Int32.ofInt wv)), (8, .int (Int32.ofInt x3006)), (9, .int (Int32.ofInt x3007))]) rfl (by decide) (List.Mem.tail _ (List.Mem.tail _ (List.Mem.tail _ (List.Mem.tail _ (List.Mem.head _))))) (fun _ h => h) (z_goto X (t := 121) rfl rfl (WS_pq [1, 2, 3, 4, 0] (lv' := [(0, .ref (A 179)), (6, .ref q1), (3, .int (Int32.ofInt zv)), (4, .int (Int32.ofInt wv)), (7, .int (Int32.ofInt (a + 1)))]) rfl ?_))
            exact ih _ zv wv (a + 1) Is3005 Fs3005 JRLx_s3005 ⟨Qs3005.1, Qs3005.2⟩ (by first | exact ⟨And.intro (hs3005.1.1) (hs3005.1.2), hs3005.2.1, oq_54f49eb5 hs3005.2.2.1.1, oq_51d1204d hs3005.2.2.1.2⟩ | omega) (by first | exact qk_me hm (by decide) (oq_8b937940 hs3005.2.2.1.2) | omega) kx
          ·
            refine z_load X (x := wv) rfl (List.Mem.tail _ (List.Mem.tail _ (List.Mem.tail _ (List.Mem.head _)))) (z_if_eq X (t := 229) rfl rfl ⟨by first | exact oq_bde653e9 hs3005.2.1 | omega, by first | exact oq_4ad2cb8b hs3005.2.1 | omega⟩ (fun g3013 => ?_) (fun g3013 => ?_))
            ·
              refine z_load X (x := a) rfl (List.Mem.tail _ (List.Mem.tail _ (List.Mem.tail _ (List.Mem.tail _ (List.Mem.head _))))) (ws_forget Qs3005.1 ?_)
              exact w_iret X.1 q hRt rfl (ax_d X (show cdA 290 231 = some (.ireturn, 1, 0, 0, 0) from rfl)) (by decide) (by decide) ⟨_, rfl, Is3005, fx_end Fs3005, JRLx_s3005, a, rfl, ⟨by first | (clear g3011 p3; omega) | (clear p3; omega) | omega, by first | (clear g3011 p3; omega) | (clear p3; omega) | omega⟩, trivial⟩
            ·
              refine z_aload X (x := q1) rfl (List.Mem.tail _ (List.Mem.head _)) (z_load X (x := a) rfl (List.Mem.tail _ (List.Mem.tail _ (List.Mem.tail _ (List.Mem.tail _ (List.Mem.head _))))) (z_xald X Qs3005.1 0 rfl rfl (by first | exact hs3005.2.2.1.1 | omega) (show a < 12 by first | exact oq_0ddfcfee hs3005.2.2.1.2 | omega) (by decide) (fun y3014 hy3014 => ?_)))
              refine z_goto X (t := 231) rfl rfl (ws_forget Qs3005.1 ?_)
              exact w_iret X.1 q hRt rfl (ax_d X (show cdA 290 231 = some (.ireturn, 1, 0, 0, 0) from rfl)) (by decide) (by decide) ⟨_, rfl, Is3005, fx_end Fs3005, JRLx_s3005, y3014, rfl, ⟨by first | (clear g3013 g3011 p3; omega) | (clear g3011 p3; omega) | omega, by first | (clear g3013 g3011 p3; omega) | (clear g3011 p3; omega) | omega⟩, trivial⟩
  refine z_aload_n X (x := A 179) rfl (List.Mem.head _) (z_const X rfl (s_putI X 179 rfl (c518_ok rfl) rfl rfl (by decide) rfl rfl rfl (wd_gen (fun s3 hs3 => ?_))))
  have Is3 : Bd s3 := eqB hs3 (bd_I I (show (0 : Int) ≤ 0 ∧ 0 ≤ 3 by first | exact ⟨by decide, by decide⟩ | omega) (by decide))
  have Fs3 := eqF hs3 (fm_I F (inl_ok (a := 73) rfl))
  have vs3 : iI s3 73 = 0 := eqI hs3 (iI_u (by decide))
  have ws3_90 : iI s3 90 = iI s 90 := eqI hs3 rfl
  have fs3 : Fm [73] [] s s3 := by rw [hs3]; exact fm_I (fm_rf _ _ _) (show 73 ∈ _ by decide)
  have JRLx_s3 : RLx s3 := RLx_fm fs3 (by decide) jRLx
  refine z_aload_n X (x := A 179) rfl (List.Mem.head _) (z_load_n X (x := x) rfl (List.Mem.tail _ (List.Mem.head _)) (z_const X rfl (z_bipush X rfl (zcS_i0 X E (As := [.int (Int32.ofInt x), .int (Int32.ofInt 0), .int (Int32.ofInt 7)]) (st := [.ref (A 179)]) rfl rfl (k_in G Is3 (by first | exact ⟨p0.1, p0.2⟩ | omega) (by first | exact ⟨by decide, by decide⟩ | omega) (by first | exact ⟨by decide, by decide⟩ | omega)) rfl (Nat.le_of_ble_eq_true rfl) (fun s4 e5 Is4 Fs4 hrs4 hps4 => ?_)))))
  have Gs4 := fm_tq Fs3 Fs4 rfl rfl
  have JRLx_s4 : RLx s4 := RLx_fm Fs4 (by decide) JRLx_s3
  have ws4_73 : iI s4 73 = iI s3 73 := fm_iq Fs4 rfl
  have ws4_90 : iI s4 90 = iI s3 90 := fm_iq Fs4 rfl
  refine z_if_eq X (t := 26) rfl rfl hrs4 (fun g6 => ?_) (fun g6 => ?_)
  ·
    refine z_const X rfl (z_goto X (t := 31) rfl rfl (z_const X rfl (zcV_i0 X E 179 (As := [.int (Int32.ofInt 1), .int (Int32.ofInt 1)]) (st := []) rfl rfl rfl rfl (k_bad G Is4 (by first | exact Or.inr (by decide) | omega) (by first | exact ⟨by decide, by decide⟩ | omega)) rfl (Nat.le_of_ble_eq_true rfl) (fun s7 e8 Is7 Fs7 hrs7 hps7 => ?_))))
    have Gs7 := fm_tq Gs4 Fs7 rfl rfl
    have JRLx_s7 : RLx s7 := RLx_fm Fs7 (by decide) JRLx_s4
    have b9 := bi_73 Is7
    have ws7_90 : iI s7 90 = iI s4 90 := fm_iq Fs7 rfl
    refine z_if_eq X (t := 40) rfl rfl hrs7 (fun g10 => ?_) (fun g10 => ?_)
    ·
      refine z_aload_n X (x := A 179) rfl (List.Mem.head _) (z_load_n X (x := x) rfl (List.Mem.tail _ (List.Mem.head _)) (zcV_v0 X E 179 (As := [.int (Int32.ofInt x)]) (st := []) rfl rfl rfl rfl (k_setOf G Is7 (by first | exact ⟨p0.1, p0.2⟩ | omega)) rfl (Nat.le_of_ble_eq_true rfl) (fun s11 Is11 Fs11 hps11 => ?_)))
      have Gs11 := fm_tq Gs7 Fs11 rfl rfl
      have JRLx_s11 : RLx s11 := RLx_fm Fs11 (by decide) JRLx_s7
      have ws11_73 : iI s11 73 = iI s7 73 := fm_iq Fs11 rfl
      have ws11_90 : iI s11 90 = iI s7 90 := fm_iq Fs11 rfl
      refine z_aload_n X (x := A 179) rfl (List.Mem.head _) (z_load_n X (x := y) rfl (List.Mem.tail _ (List.Mem.tail _ (List.Mem.head _))) (zcV_v2 X E 179 (As := [.int (Int32.ofInt y)]) (st := []) rfl rfl rfl rfl (k_asTold G Is11 JRLx_s11 (by first | exact ⟨oq_65cab3da g10 hps7.2.1, oq_5b968bc5 g10 hps7.2.1⟩ | omega)) rfl (Nat.le_of_ble_eq_true rfl) (fun s13 Is13 Fs13 JRLx_s13 JNQ_s13 hps13 => ?_)))
      have Gs13 := fm_tq Gs11 Fs13 rfl rfl
      have JRLx_s13 : RLx s13 := RLx_fm Fs13 (by decide) JRLx_s11
      have ws13_73 : iI s13 73 = iI s11 73 := fm_iq Fs13 rfl
      have ws13_90 : iI s13 90 = iI s11 90 := fm_iq Fs13 rfl
      refine z_aload_n X (x := A 179) rfl (List.Mem.head _) ?_
      have JNW_s13 : NW s13 := NW_of JNQ_s13 JRLx_s13
      refine zcV_i1 X E 179 (As := []) (st := []) rfl rfl rfl rfl (k_load G Is13 JNW_s13 ) rfl (Nat.le_of_ble_eq_true rfl) (fun s15 e16 Is15 Fs15 JNW_s15 hrs15 hps15 => ?_)
      have Gs15 := fm_tq Gs13 Fs15 rfl rfl
      have JRLx_s15 : RLx s15 := RLx_fm Fs15 (by decide) JRLx_s13
      have JNW_s15 : NW s15 := NW_fm Fs15 (by decide) JNW_s13
      have ws15_73 : iI s15 73 = iI s13 73 := fm_iq Fs15 rfl
      have ws15_90 : iI s15 90 = iI s13 90 := fm_iq Fs15 rfl
      refine z_store X (lv' := [(5, .int (Int32.ofInt e16)), (0, .ref (A 179)), (1, .int (Int32.ofInt x)), (2, .int (Int32.ofInt y)), (3, .int (Int32.ofInt z)), (4, .int (Int32.ofInt w))]) rfl (by decide) (fun _ h => h) (z_bipush X rfl (z_newX X (n := 12) (by decide) rfl (by rw [E.2.2.2]; decide) (by rw [E.2.2.2]; decide) (fun q1 => ?_)))
      have eXs17 : EXl (pX s) (dT 0) [(q1, 12)] (sx s15 (pX s15 ++ [(q1, .inl (dT 0, 12, .inl (fun _ => 0)))])) := ⟨fun _ _ => 0, by show pX s15 ++ [_] = _; rw [Gs15.2.2.1]; rfl⟩
      have Is17 : Bd (sx s15 (pX s15 ++ [(q1, .inl (dT 0, 12, .inl (fun _ => 0)))])) := Is15
      have Fs17 : FmX [73, 77, 75, 78, 79, 80, 81] [202, 204, 205, 206, 207, 208, 209, 210, 211, 212, 213, 214, 215, 216, 217, 218, 219, 220, 221, 222, 223, 224, 225, 226, 227, 203, 161, 230] s (sx s15 (pX s15 ++ [(q1, .inl (dT 0, 12, .inl (fun _ => 0)))])) := ⟨Gs15.1, Gs15.2.1, Gs15.2.2.2⟩
      have JRLx_s17 : RLx (sx s15 (pX s15 ++ [(q1, .inl (dT 0, 12, .inl (fun _ => 0)))])) := JRLx_s15
      have JNW_s17 : NW (sx s15 (pX s15 ++ [(q1, .inl (dT 0, 12, .inl (fun _ => 0)))])) := JNW_s15
      have ws17_73 : iI (sx s15 (pX s15 ++ [(q1, .inl (dT 0, 12, .inl (fun _ => 0)))])) 73 = iI s15 73 := rfl
      have ws17_90 : iI (sx s15 (pX s15 ++ [(q1, .inl (dT 0, 12, .inl (fun _ => 0)))])) 90 = iI s15 90 := rfl
      generalize (sx s15 (pX s15 ++ [(q1, .inl (dT 0, 12, .inl (fun _ => 0)))])) = s17 at *
      show WS k 60 [(5, .int (Int32.ofInt e16)), (0, .ref (A 179)), (1, .int (Int32.ofInt x)), (2, .int (Int32.ofInt y)), (3, .int (Int32.ofInt z)), (4, .int (Int32.ofInt w))] [.ref q1] (Wd A dT s17) 1 12
      refine z_astore X (lv' := [(6, .ref q1), (5, .int (Int32.ofInt e16)), (0, .ref (A 179)), (1, .int (Int32.ofInt x)), (2, .int (Int32.ofInt y)), (3, .int (Int32.ofInt z)), (4, .int (Int32.ofInt w))]) rfl (by decide) (fun _ h => h) (z_const X rfl (z_store X (lv' := [(7, .int (Int32.ofInt 0)), (6, .ref q1), (5, .int (Int32.ofInt e16)), (0, .ref (A 179)), (1, .int (Int32.ofInt x)), (2, .int (Int32.ofInt y)), (3, .int (Int32.ofInt z)), (4, .int (Int32.ofInt w))]) rfl (by decide) (fun _ h => h) (WS_pq [3, 1, 6, 7, 2, 0] (lv' := [(0, .ref (A 179)), (6, .ref q1), (3, .int (Int32.ofInt z)), (4, .int (Int32.ofInt w)), (5, .int (Int32.ofInt e16)), (7, .int (Int32.ofInt 0))]) rfl (L65 q1 ((12 - 0 : Int).toNat + 1) s17 z w e16 0 Is17 Fs17 JRLx_s17 ⟨eXs17, JNW_s17⟩ (by first | exact ⟨And.intro (p2.1) (p2.2), p3, oq_b7ca6a19 g10 hps7.2.1, by decide, by decide⟩ | omega) (Nat.lt_succ_self _) ?_))))
      intro s18 x19 Is18 Fs18 JRLx_s18 Qs18 hs18
      have b20 := bi_73 Is18
      have b21 := bi_90 Is18
      refine z_const X rfl (z_store X (lv' := [(7, .int (Int32.ofInt 0)), (0, .ref (A 179)), (6, .ref q1), (3, .int (Int32.ofInt z)), (4, .int (Int32.ofInt w)), (5, .int (Int32.ofInt e16))]) rfl (by decide) (fun _ h => h) (WS_pq [1, 2, 3, 4, 0] (lv' := [(0, .ref (A 179)), (6, .ref q1), (3, .int (Int32.ofInt z)), (4, .int (Int32.ofInt w)), (7, .int (Int32.ofInt 0))]) rfl (L121 q1 ((12 - 0 : Int).toNat + 1) s18 z w 0 Is18 Fs18 JRLx_s18 ⟨Qs18.1, Qs18.2⟩ (by first | exact ⟨And.intro (hs18.1.1) (hs18.1.2), hs18.2.1, by decide, by decide⟩ | omega) (Nat.lt_succ_self _) ?_)))
      intro s22 x23 Is22 Fs22 JRLx_s22 Qs22 hs22
      have b24 := bi_73 Is22
      have b25 := bi_90 Is22
      refine z_const X rfl (ws_forget Qs22.1 ?_)
      exact w_iret X.1 q hRt rfl (ax_d X (show cdA 290 239 = some (.ireturn, 1, 0, 0, 0) from rfl)) (by decide) (by decide) ⟨_, rfl, Is22, fx_end Fs22, JRLx_s22, (-1), rfl, ⟨by first | (clear hps7 hps4 p3; omega) | (clear hps4 p3; omega) | omega, by first | (clear hps7 hps4 p3; omega) | (clear hps4 p3; omega) | omega⟩, trivial⟩
    ·
      refine z_const X rfl ?_
      exact w_iret X.1 q hRt rfl (ax_d X (show cdA 290 39 = some (.ireturn, 1, 0, 0, 0) from rfl)) (Nat.zero_le _) (Nat.zero_le _) ⟨_, rfl, Is7, Gs7, JRLx_s7, 0, rfl, ⟨by first | (clear g10 hps7 hps4 p3; omega) | (clear hps7 hps4 p3; omega) | omega, by first | (clear g10 hps7 hps4 p3; omega) | (clear hps7 hps4 p3; omega) | omega⟩, trivial⟩
  ·
    refine z_load_n X (x := y) rfl (List.Mem.tail _ (List.Mem.tail _ (List.Mem.head _))) (z_const X rfl (z_bipush X rfl (zcS_i0 X E (As := [.int (Int32.ofInt y), .int (Int32.ofInt 0), .int (Int32.ofInt 23)]) (st := [.ref (A 179)]) rfl rfl (k_in G Is4 (by first | exact ⟨p1.1, p1.2⟩ | omega) (by first | exact ⟨by decide, by decide⟩ | omega) (by first | exact ⟨by decide, by decide⟩ | omega)) rfl (Nat.le_of_ble_eq_true rfl) (fun s26 e27 Is26 Fs26 hrs26 hps26 => ?_))))
    have Gs26 := fm_tq Gs4 Fs26 rfl rfl
    have JRLx_s26 : RLx s26 := RLx_fm Fs26 (by decide) JRLx_s4
    have ws26_73 : iI s26 73 = iI s4 73 := fm_iq Fs26 rfl
    have ws26_90 : iI s26 90 = iI s4 90 := fm_iq Fs26 rfl
    have N28 : ∀ e29 : Int, (((e27 ≠ 0) ∧ e29 = 0) ∨ ((e27 = 0) ∧ e29 = 1)) → WS k 31 [(0, .ref (A 179)), (1, .int (Int32.ofInt x)), (2, .int (Int32.ofInt y)), (3, .int (Int32.ofInt z)), (4, .int (Int32.ofInt w))] [.int (Int32.ofInt e29), .ref (A 179)] (Wd A dT s26) 0 0 := by
      intro e29 he29
      have re29 : 0 ≤ e29 ∧ e29 ≤ 1 := by first | (clear he29 hps26 g6 hps4 p3; omega) | (clear hps26 g6 hps4 p3; omega) | omega
      refine z_const X rfl (zcV_i0 X E 179 (As := [.int (Int32.ofInt e29), .int (Int32.ofInt 1)]) (st := []) rfl rfl rfl rfl (k_bad G Is26 (by first | exact oq_31e518ae re29.2 re29.1 | omega) (by first | exact ⟨by decide, by decide⟩ | omega)) rfl (Nat.le_of_ble_eq_true rfl) (fun s30 e31 Is30 Fs30 hrs30 hps30 => ?_))
      have Gs30 := fm_tq Gs26 Fs30 rfl rfl
      have JRLx_s30 : RLx s30 := RLx_fm Fs30 (by decide) JRLx_s26
      have b32 := bi_73 Is30
      have ws30_90 : iI s30 90 = iI s26 90 := fm_iq Fs30 rfl
      refine z_if_eq X (t := 40) rfl rfl hrs30 (fun g33 => ?_) (fun g33 => ?_)
      ·
        refine z_aload_n X (x := A 179) rfl (List.Mem.head _) (z_load_n X (x := x) rfl (List.Mem.tail _ (List.Mem.head _)) (zcV_v0 X E 179 (As := [.int (Int32.ofInt x)]) (st := []) rfl rfl rfl rfl (k_setOf G Is30 (by first | exact ⟨p0.1, p0.2⟩ | omega)) rfl (Nat.le_of_ble_eq_true rfl) (fun s34 Is34 Fs34 hps34 => ?_)))
        have Gs34 := fm_tq Gs30 Fs34 rfl rfl
        have JRLx_s34 : RLx s34 := RLx_fm Fs34 (by decide) JRLx_s30
        have ws34_73 : iI s34 73 = iI s30 73 := fm_iq Fs34 rfl
        have ws34_90 : iI s34 90 = iI s30 90 := fm_iq Fs34 rfl
        refine z_aload_n X (x := A 179) rfl (List.Mem.head _) (z_load_n X (x := y) rfl (List.Mem.tail _ (List.Mem.tail _ (List.Mem.head _))) (zcV_v2 X E 179 (As := [.int (Int32.ofInt y)]) (st := []) rfl rfl rfl rfl (k_asTold G Is34 JRLx_s34 (by first | exact ⟨oq_4c4e29f5 g33 hps30.2.1 re29.2 he29 hps26, oq_3a13f1ce g33 hps30.2.1 re29.2 he29 hps26⟩ | omega)) rfl (Nat.le_of_ble_eq_true rfl) (fun s36 Is36 Fs36 JRLx_s36 JNQ_s36 hps36 => ?_)))
        have Gs36 := fm_tq Gs34 Fs36 rfl rfl
        have JRLx_s36 : RLx s36 := RLx_fm Fs36 (by decide) JRLx_s34
        have ws36_73 : iI s36 73 = iI s34 73 := fm_iq Fs36 rfl
        have ws36_90 : iI s36 90 = iI s34 90 := fm_iq Fs36 rfl
        refine z_aload_n X (x := A 179) rfl (List.Mem.head _) ?_
        have JNW_s36 : NW s36 := NW_of JNQ_s36 JRLx_s36
        refine zcV_i1 X E 179 (As := []) (st := []) rfl rfl rfl rfl (k_load G Is36 JNW_s36 ) rfl (Nat.le_of_ble_eq_true rfl) (fun s38 e39 Is38 Fs38 JNW_s38 hrs38 hps38 => ?_)
        have Gs38 := fm_tq Gs36 Fs38 rfl rfl
        have JRLx_s38 : RLx s38 := RLx_fm Fs38 (by decide) JRLx_s36
        have JNW_s38 : NW s38 := NW_fm Fs38 (by decide) JNW_s36
        have ws38_73 : iI s38 73 = iI s36 73 := fm_iq Fs38 rfl
        have ws38_90 : iI s38 90 = iI s36 90 := fm_iq Fs38 rfl
        refine z_store X (lv' := [(5, .int (Int32.ofInt e39)), (0, .ref (A 179)), (1, .int (Int32.ofInt x)), (2, .int (Int32.ofInt y)), (3, .int (Int32.ofInt z)), (4, .int (Int32.ofInt w))]) rfl (by decide) (fun _ h => h) (z_bipush X rfl (z_newX X (n := 12) (by decide) rfl (by rw [E.2.2.2]; decide) (by rw [E.2.2.2]; decide) (fun q1 => ?_)))
        have eXs40 : EXl (pX s) (dT 0) [(q1, 12)] (sx s38 (pX s38 ++ [(q1, .inl (dT 0, 12, .inl (fun _ => 0)))])) := ⟨fun _ _ => 0, by show pX s38 ++ [_] = _; rw [Gs38.2.2.1]; rfl⟩
        have Is40 : Bd (sx s38 (pX s38 ++ [(q1, .inl (dT 0, 12, .inl (fun _ => 0)))])) := Is38
        have Fs40 : FmX [73, 77, 75, 78, 79, 80, 81] [202, 204, 205, 206, 207, 208, 209, 210, 211, 212, 213, 214, 215, 216, 217, 218, 219, 220, 221, 222, 223, 224, 225, 226, 227, 203, 161, 230] s (sx s38 (pX s38 ++ [(q1, .inl (dT 0, 12, .inl (fun _ => 0)))])) := ⟨Gs38.1, Gs38.2.1, Gs38.2.2.2⟩
        have JRLx_s40 : RLx (sx s38 (pX s38 ++ [(q1, .inl (dT 0, 12, .inl (fun _ => 0)))])) := JRLx_s38
        have JNW_s40 : NW (sx s38 (pX s38 ++ [(q1, .inl (dT 0, 12, .inl (fun _ => 0)))])) := JNW_s38
        have ws40_73 : iI (sx s38 (pX s38 ++ [(q1, .inl (dT 0, 12, .inl (fun _ => 0)))])) 73 = iI s38 73 := rfl
        have ws40_90 : iI (sx s38 (pX s38 ++ [(q1, .inl (dT 0, 12, .inl (fun _ => 0)))])) 90 = iI s38 90 := rfl
        generalize (sx s38 (pX s38 ++ [(q1, .inl (dT 0, 12, .inl (fun _ => 0)))])) = s40 at *
        show WS k 60 [(5, .int (Int32.ofInt e39)), (0, .ref (A 179)), (1, .int (Int32.ofInt x)), (2, .int (Int32.ofInt y)), (3, .int (Int32.ofInt z)), (4, .int (Int32.ofInt w))] [.ref q1] (Wd A dT s40) 1 12
        refine z_astore X (lv' := [(6, .ref q1), (5, .int (Int32.ofInt e39)), (0, .ref (A 179)), (1, .int (Int32.ofInt x)), (2, .int (Int32.ofInt y)), (3, .int (Int32.ofInt z)), (4, .int (Int32.ofInt w))]) rfl (by decide) (fun _ h => h) (z_const X rfl (z_store X (lv' := [(7, .int (Int32.ofInt 0)), (6, .ref q1), (5, .int (Int32.ofInt e39)), (0, .ref (A 179)), (1, .int (Int32.ofInt x)), (2, .int (Int32.ofInt y)), (3, .int (Int32.ofInt z)), (4, .int (Int32.ofInt w))]) rfl (by decide) (fun _ h => h) (WS_pq [3, 1, 6, 7, 2, 0] (lv' := [(0, .ref (A 179)), (6, .ref q1), (3, .int (Int32.ofInt z)), (4, .int (Int32.ofInt w)), (5, .int (Int32.ofInt e39)), (7, .int (Int32.ofInt 0))]) rfl (L65 q1 ((12 - 0 : Int).toNat + 1) s40 z w e39 0 Is40 Fs40 JRLx_s40 ⟨eXs40, JNW_s40⟩ (by first | exact ⟨And.intro (p2.1) (p2.2), p3, by first | (clear hps30 he29 hps26 g6 hps4 p3; omega) | (clear he29 hps26 g6 hps4 p3; omega) | omega, by decide, by decide⟩ | omega) (Nat.lt_succ_self _) ?_))))
        intro s41 x42 Is41 Fs41 JRLx_s41 Qs41 hs41
        have b43 := bi_73 Is41
        have b44 := bi_90 Is41
        refine z_const X rfl (z_store X (lv' := [(7, .int (Int32.ofInt 0)), (0, .ref (A 179)), (6, .ref q1), (3, .int (Int32.ofInt z)), (4, .int (Int32.ofInt w)), (5, .int (Int32.ofInt e39))]) rfl (by decide) (fun _ h => h) (WS_pq [1, 2, 3, 4, 0] (lv' := [(0, .ref (A 179)), (6, .ref q1), (3, .int (Int32.ofInt z)), (4, .int (Int32.ofInt w)), (7, .int (Int32.ofInt 0))]) rfl (L121 q1 ((12 - 0 : Int).toNat + 1) s41 z w 0 Is41 Fs41 JRLx_s41 ⟨Qs41.1, Qs41.2⟩ (by first | exact ⟨And.intro (hs41.1.1) (hs41.1.2), hs41.2.1, by decide, by decide⟩ | omega) (Nat.lt_succ_self _) ?_)))
        intro s45 x46 Is45 Fs45 JRLx_s45 Qs45 hs45
        have b47 := bi_73 Is45
        have b48 := bi_90 Is45
        refine z_const X rfl (ws_forget Qs45.1 ?_)
        exact w_iret X.1 q hRt rfl (ax_d X (show cdA 290 239 = some (.ireturn, 1, 0, 0, 0) from rfl)) (by decide) (by decide) ⟨_, rfl, Is45, fx_end Fs45, JRLx_s45, (-1), rfl, ⟨by first | (clear hps30 he29 hps26 g6 hps4 p3; omega) | (clear he29 hps26 g6 hps4 p3; omega) | omega, by first | (clear hps30 he29 hps26 g6 hps4 p3; omega) | (clear he29 hps26 g6 hps4 p3; omega) | omega⟩, trivial⟩
      ·
        refine z_const X rfl ?_
        exact w_iret X.1 q hRt rfl (ax_d X (show cdA 290 39 = some (.ireturn, 1, 0, 0, 0) from rfl)) (Nat.zero_le _) (Nat.zero_le _) ⟨_, rfl, Is30, Gs30, JRLx_s30, 0, rfl, ⟨by first | (clear g33 hps30 he29 hps26 g6 hps4 p3; omega) | (clear hps30 he29 hps26 g6 hps4 p3; omega) | omega, by first | (clear g33 hps30 he29 hps26 g6 hps4 p3; omega) | (clear hps30 he29 hps26 g6 hps4 p3; omega) | omega⟩, trivial⟩
    refine z_if_ne X (t := 30) rfl rfl hrs26 (fun g49 => ?_) (fun g49 => ?_)
    ·
      exact z_const X rfl (N28 _ (Or.inl ⟨g49, rfl⟩))
    ·
      exact z_const X rfl (z_goto X (t := 31) rfl rfl (N28 _ (Or.inr (⟨g49, rfl⟩))))
end M65
end
